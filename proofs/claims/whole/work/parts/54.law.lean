theorem S_L_ofOne_17 {X : Mem} {a : Nat} {e : Env} (hX : Ok X) (hE : CE X a e) (hO : okE e) {v : Int} (hv : sm v) : CM 1 m_L_ofOne [.int (nI 17), .int (jI v), .ref a, .int (nI e.2.2.2.2.1)] X (rI (jI (szV e v)) X) := by
  have iv := sm_I hv
  have hst := hO.2.2.1
  have hm8 := hO.1
  have l1 : jI v < 0 ↔ v < 0 := jI_lt (b := 0) iv ⟨by decide, by decide⟩
  have l2 : nI e.1 ≤ jI v ↔ (e.1 : Int) ≤ v := by rw [← jI_n]; exact jI_le ⟨by omega, by omega⟩ iv
  refine CM_of (L := [some (.int (nI 17)), some (.int (jI v)), some (.ref a), some (.int (nI e.2.2.2.2.1))]) 0 ok_L_ofOne (fun _ => Nat.le_of_ble_eq_true rfl) rfl ?_
  refine J_iload_n (i := 0) d_L_ofOne_0 rfl rfl ?_
  refine J_lookup (off := 35) (tgt := 36) d_L_ofOne_1 (by decide) (by decide) (by decide) ?_
  refine J_aload_n (i := 2) d_L_ofOne_36 rfl rfl ?_
  refine J_iload_n (i := 1) d_L_ofOne_37 rfl rfl ?_
  refine CV_B (av := [.int (jI v)]) d_L_ofOne_38 s_L_101 (M_rcv hE.1 (by decide) rfl) (S_N_isMarkE hX hE hO hv) (by decide) rfl rfl (Nat.le_of_ble_eq_true rfl) ?_
  refine B_if_eq (tgt := 56) d_L_ofOne_41 (by decide) (fun c41 => ?_) (fun c41 => ?_)
  · refine J_iconst (v := nI 0) d_L_ofOne_56 rfl ?_
    refine M_ir d_L_ofOne_57 rfl rfl ?_
    exact ⟨by rw [show szV e v = 0 from if_neg (of_decide_eq_false c41)]; rfl, rfl⟩
  · refine J_aload_n (i := 2) d_L_ofOne_44 rfl rfl ?_
    refine M_getR (b := (a + 1)) d_L_ofOne_45 f_L_44 hE.1 rfl (now_f hE.1).1 ?_
    refine J_iload_n (i := 1) d_L_ofOne_48 rfl rfl ?_
    have c41' := of_decide_eq_true c41
    obtain ⟨j, rfl⟩ : ∃ j : Nat, v = (j : Int) := ⟨v.toNat, by omega⟩
    rw [jI_n]
    have hstj := hst j (by omega)
    refine N_iald (x := (nI (e.2.1 j))) d_L_ofOne_49 (now_f hE.1).2.2.1 (by omega) (ltL hX (a := a + 1) (n := 8) (by omega) (now_f hE.1).2.2.2.2.1 (by omega)) (hE.2.2.1 j (by omega)) ?_
    refine CS_N (av := [.int (nI (e.2.1 j))]) d_L_ofOne_50 s_L_49 (S_bitCount (by omega)) (by decide) rfl rfl (Nat.le_of_ble_eq_true rfl) ?_
    refine J_goto (tgt := 57) d_L_ofOne_53 (by decide) ?_
    refine M_ir d_L_ofOne_57 rfl rfl ?_
    exact ⟨by rw [show szV e (j : Int) = (bc (e.2.1 j) : Int) from if_pos c41', jI_n], rfl⟩

theorem S_L_ofOne_18 {X : Mem} {a : Nat} {e : Env} (hX : Ok X) (hE : CE X a e) (hO : okE e) {v : Int} (hv : sm v) : CM 1 m_L_ofOne [.int (nI 18), .int (jI v), .ref a, .int (nI e.2.2.2.2.1)] X (rI (jI (hsV e v)) X) := by
  refine CM_of (L := [some (.int (nI 18)), some (.int (jI v)), some (.ref a), some (.int (nI e.2.2.2.2.1))]) 0 ok_L_ofOne (fun _ => Nat.le_of_ble_eq_true rfl) rfl ?_
  refine J_iload_n (i := 0) d_L_ofOne_0 rfl rfl ?_
  refine J_lookup (off := 57) (tgt := 58) d_L_ofOne_1 (by decide) (by decide) (by decide) ?_
  refine J_aload_n (i := 2) d_L_ofOne_58 rfl rfl ?_
  refine J_iload_n (i := 3) d_L_ofOne_59 rfl rfl ?_
  refine J_iload_n (i := 1) d_L_ofOne_60 rfl rfl ?_
  refine CV_B (av := [.int (nI e.2.2.2.2.1), .int (jI v)]) d_L_ofOne_61 s_L_105 (M_rcv hE.1 (by decide) rfl) (S_N_hasE hX hE hO hv) (by decide) rfl rfl (Nat.le_of_ble_eq_true rfl) ?_
  refine B_if_eq (tgt := 71) d_L_ofOne_64 (by decide) (fun c64 => ?_) (fun c64 => ?_)
  · refine J_iconst (v := nI 0) d_L_ofOne_71 rfl ?_
    refine M_ir d_L_ofOne_72 rfl rfl ?_
    exact ⟨by rw [show hsV e v = 0 from by
      have h := of_decide_eq_false c64
      unfold hsV at h ⊢
      split
      · rename_i q; rw [if_pos q] at h; exact absurd rfl h
      · rfl]; rfl, rfl⟩
  · refine J_iconst (v := nI 1) d_L_ofOne_67 rfl ?_
    refine J_goto (tgt := 72) d_L_ofOne_68 (by decide) ?_
    refine M_ir d_L_ofOne_72 rfl rfl ?_
    exact ⟨by rw [of_decide_eq_true c64]; rfl, rfl⟩

theorem S_L_ofOne_25 {X : Mem} {a mk : Nat} {v : Int} : CM 1 m_L_ofOne [.int (nI 25), .int (jI v), .ref a, .int (nI mk)] X (rI (jI (1 - v)) X) := by
  refine CM_of (L := [some (.int (nI 25)), some (.int (jI v)), some (.ref a), some (.int (nI mk))]) 0 ok_L_ofOne (fun _ => Nat.le_of_ble_eq_true rfl) rfl ?_
  refine J_iload_n (i := 0) d_L_ofOne_0 rfl rfl ?_
  refine J_lookup (off := 72) (tgt := 73) d_L_ofOne_1 (by decide) (by decide) (by decide) ?_
  refine J_iconst (v := nI 1) d_L_ofOne_73 rfl ?_
  refine J_iload_n (i := 1) d_L_ofOne_74 rfl rfl ?_
  refine J_isub d_L_ofOne_75 ?_
  refine M_ir d_L_ofOne_76 rfl rfl ?_
  exact ⟨by rw [← jI_sub]; rfl, rfl⟩

theorem S_L_ofOne_48 {X : Mem} {a mk : Nat} {v : Int} : CM 1 m_L_ofOne [.int (nI 48), .int (jI v), .ref a, .int (nI mk)] X (rI (jI (-v)) X) := by
  refine CM_of (L := [some (.int (nI 48)), some (.int (jI v)), some (.ref a), some (.int (nI mk))]) 0 ok_L_ofOne (fun _ => Nat.le_of_ble_eq_true rfl) rfl ?_
  refine J_iload_n (i := 0) d_L_ofOne_0 rfl rfl ?_
  refine J_lookup (off := 76) (tgt := 77) d_L_ofOne_1 (by decide) (by decide) (by decide) ?_
  refine J_iload_n (i := 1) d_L_ofOne_77 rfl rfl ?_
  refine J_ineg d_L_ofOne_78 ?_
  refine M_ir d_L_ofOne_79 rfl rfl ?_
  exact ⟨by rw [← jI_neg], rfl⟩

theorem S_L_named_6 {X : Mem} {a : Nat} {e : Env} (hX : Ok X) (hE : CE X a e) (hO : okE e) : CM 2 m_L_named [.int (nI 6), .ref a, .int (nI e.2.2.2.2.1), .int (jI e.2.2.2.2.2)] X (rI (jI (nmV e 0)) X) := by
  have hm8 := hO.1
  have hmk := hO.2.1
  have hst := hO.2.2.1 e.2.2.2.2.1 (by omega)
  have ho5 := odd_lt (e.2.1 e.2.2.2.2.1)
  refine CM_of (L := [some (.int (nI 6)), some (.ref a), some (.int (nI e.2.2.2.2.1)), some (.int (jI e.2.2.2.2.2)), none]) 1 ok_L_named (fun _ => Nat.le_of_ble_eq_true rfl) rfl ?_
  refine J_aload_n (i := 1) d_L_named_0 rfl rfl ?_
  refine M_getR (b := (a + 1)) d_L_named_1 f_L_44 hE.1 rfl (now_f hE.1).1 ?_
  refine J_iload_n (i := 2) d_L_named_4 rfl rfl ?_
  refine N_iald (x := (nI (e.2.1 e.2.2.2.2.1))) d_L_named_5 (now_f hE.1).2.2.1 (by omega) (ltL hX (a := a + 1) (n := 8) (by omega) (now_f hE.1).2.2.2.2.1 (by omega)) (hE.2.2.1 e.2.2.2.2.1 (by omega)) ?_
  refine J_istore (L1 := [some (.int (nI 6)), some (.ref a), some (.int (nI e.2.2.2.2.1)), some (.int (jI e.2.2.2.2.2)), some (.int (nI (e.2.1 e.2.2.2.2.1)))]) d_L_named_6 (by decide) rfl ?_
  refine J_iload_n (i := 0) d_L_named_8 rfl rfl ?_
  refine J_lookup (off := 51) (tgt := 60) d_L_named_9 (by decide) (by decide) (by decide) ?_
  refine J_aload_n (i := 1) d_L_named_60 rfl rfl ?_
  refine M_get (x := (nI e.2.2.1)) d_L_named_61 f_L_92 hE.1 rfl hE.2.2.2.1 ?_
  refine M_ir d_L_named_64 rfl rfl ?_
  exact ⟨by rw [show nmV e 0 = (e.2.2.1 : Int) from rfl, jI_n], rfl⟩

theorem S_L_named_26 {X : Mem} {a : Nat} {e : Env} (hX : Ok X) (hE : CE X a e) (hO : okE e) : CM 2 m_L_named [.int (nI 26), .ref a, .int (nI e.2.2.2.2.1), .int (jI e.2.2.2.2.2)] X (rI (jI (nmV e 1)) X) := by
  have hm8 := hO.1
  have hmk := hO.2.1
  have hst := hO.2.2.1 e.2.2.2.2.1 (by omega)
  have ho5 := odd_lt (e.2.1 e.2.2.2.2.1)
  refine CM_of (L := [some (.int (nI 26)), some (.ref a), some (.int (nI e.2.2.2.2.1)), some (.int (jI e.2.2.2.2.2)), none]) 1 ok_L_named (fun _ => Nat.le_of_ble_eq_true rfl) rfl ?_
  refine J_aload_n (i := 1) d_L_named_0 rfl rfl ?_
  refine M_getR (b := (a + 1)) d_L_named_1 f_L_44 hE.1 rfl (now_f hE.1).1 ?_
  refine J_iload_n (i := 2) d_L_named_4 rfl rfl ?_
  refine N_iald (x := (nI (e.2.1 e.2.2.2.2.1))) d_L_named_5 (now_f hE.1).2.2.1 (by omega) (ltL hX (a := a + 1) (n := 8) (by omega) (now_f hE.1).2.2.2.2.1 (by omega)) (hE.2.2.1 e.2.2.2.2.1 (by omega)) ?_
  refine J_istore (L1 := [some (.int (nI 26)), some (.ref a), some (.int (nI e.2.2.2.2.1)), some (.int (jI e.2.2.2.2.2)), some (.int (nI (e.2.1 e.2.2.2.2.1)))]) d_L_named_6 (by decide) rfl ?_
  refine J_iload_n (i := 0) d_L_named_8 rfl rfl ?_
  refine J_lookup (off := 56) (tgt := 65) d_L_named_9 (by decide) (by decide) (by decide) ?_
  refine J_iload_n (i := 2) d_L_named_65 rfl rfl ?_
  refine M_ir d_L_named_66 rfl rfl ?_
  exact ⟨by rw [show nmV e 1 = (e.2.2.2.2.1 : Int) from rfl, jI_n], rfl⟩

theorem S_L_named_27 {X : Mem} {a : Nat} {e : Env} (hX : Ok X) (hE : CE X a e) (hO : okE e) : CM 2 m_L_named [.int (nI 27), .ref a, .int (nI e.2.2.2.2.1), .int (jI e.2.2.2.2.2)] X (rI (jI (nmV e 2)) X) := by
  have hm8 := hO.1
  have hmk := hO.2.1
  have hst := hO.2.2.1 e.2.2.2.2.1 (by omega)
  have ho5 := odd_lt (e.2.1 e.2.2.2.2.1)
  refine CM_of (L := [some (.int (nI 27)), some (.ref a), some (.int (nI e.2.2.2.2.1)), some (.int (jI e.2.2.2.2.2)), none]) 1 ok_L_named (fun _ => Nat.le_of_ble_eq_true rfl) rfl ?_
  refine J_aload_n (i := 1) d_L_named_0 rfl rfl ?_
  refine M_getR (b := (a + 1)) d_L_named_1 f_L_44 hE.1 rfl (now_f hE.1).1 ?_
  refine J_iload_n (i := 2) d_L_named_4 rfl rfl ?_
  refine N_iald (x := (nI (e.2.1 e.2.2.2.2.1))) d_L_named_5 (now_f hE.1).2.2.1 (by omega) (ltL hX (a := a + 1) (n := 8) (by omega) (now_f hE.1).2.2.2.2.1 (by omega)) (hE.2.2.1 e.2.2.2.2.1 (by omega)) ?_
  refine J_istore (L1 := [some (.int (nI 27)), some (.ref a), some (.int (nI e.2.2.2.2.1)), some (.int (jI e.2.2.2.2.2)), some (.int (nI (e.2.1 e.2.2.2.2.1)))]) d_L_named_6 (by decide) rfl ?_
  refine J_iload_n (i := 0) d_L_named_8 rfl rfl ?_
  refine J_lookup (off := 58) (tgt := 67) d_L_named_9 (by decide) (by decide) (by decide) ?_
  refine J_iload d_L_named_67 rfl ?_
  refine CS_N (av := [.int (nI (e.2.1 e.2.2.2.2.1))]) d_L_named_69 s_L_49 (S_bitCount (by omega)) (by decide) rfl rfl (Nat.le_of_ble_eq_true rfl) ?_
  refine M_ir d_L_named_72 rfl rfl ?_
  exact ⟨by rw [show nmV e 2 = (bc (eST e) : Int) from rfl, jI_n]; rfl, rfl⟩

theorem S_L_named_28 {X : Mem} {a : Nat} {e : Env} (hX : Ok X) (hE : CE X a e) (hO : okE e) : CM 2 m_L_named [.int (nI 28), .ref a, .int (nI e.2.2.2.2.1), .int (jI e.2.2.2.2.2)] X (rI (jI (nmV e 3)) X) := by
  have hm8 := hO.1
  have hmk := hO.2.1
  have hst := hO.2.2.1 e.2.2.2.2.1 (by omega)
  have ho5 := odd_lt (e.2.1 e.2.2.2.2.1)
  refine CM_of (L := [some (.int (nI 28)), some (.ref a), some (.int (nI e.2.2.2.2.1)), some (.int (jI e.2.2.2.2.2)), none]) 1 ok_L_named (fun _ => Nat.le_of_ble_eq_true rfl) rfl ?_
  refine J_aload_n (i := 1) d_L_named_0 rfl rfl ?_
  refine M_getR (b := (a + 1)) d_L_named_1 f_L_44 hE.1 rfl (now_f hE.1).1 ?_
  refine J_iload_n (i := 2) d_L_named_4 rfl rfl ?_
  refine N_iald (x := (nI (e.2.1 e.2.2.2.2.1))) d_L_named_5 (now_f hE.1).2.2.1 (by omega) (ltL hX (a := a + 1) (n := 8) (by omega) (now_f hE.1).2.2.2.2.1 (by omega)) (hE.2.2.1 e.2.2.2.2.1 (by omega)) ?_
  refine J_istore (L1 := [some (.int (nI 28)), some (.ref a), some (.int (nI e.2.2.2.2.1)), some (.int (jI e.2.2.2.2.2)), some (.int (nI (e.2.1 e.2.2.2.2.1)))]) d_L_named_6 (by decide) rfl ?_
  refine J_iload_n (i := 0) d_L_named_8 rfl rfl ?_
  refine J_lookup (off := 64) (tgt := 73) d_L_named_9 (by decide) (by decide) (by decide) ?_
  refine J_iload d_L_named_73 rfl ?_
  refine CS_N (av := [.int (nI (e.2.1 e.2.2.2.2.1))]) d_L_named_75 s_L_95 (S_K_oddPoints hX (by omega)) (by decide) rfl rfl (Nat.le_of_ble_eq_true rfl) ?_
  refine CS_N (av := [.int (nI (odd (e.2.1 e.2.2.2.2.1)))]) d_L_named_78 s_L_49 (S_bitCount (by omega)) (by decide) rfl rfl (Nat.le_of_ble_eq_true rfl) ?_
  refine M_ir d_L_named_81 rfl rfl ?_
  exact ⟨by rw [show nmV e 3 = (bc (odd (eST e)) : Int) from rfl, jI_n]; rfl, rfl⟩

theorem S_L_named_29 {X : Mem} {a : Nat} {e : Env} (hX : Ok X) (hE : CE X a e) (hO : okE e) : CM 2 m_L_named [.int (nI 29), .ref a, .int (nI e.2.2.2.2.1), .int (jI e.2.2.2.2.2)] X (rI (jI (nmV e 4)) X) := by
  have hm8 := hO.1
  have hmk := hO.2.1
  have hst := hO.2.2.1 e.2.2.2.2.1 (by omega)
  have ho5 := odd_lt (e.2.1 e.2.2.2.2.1)
  refine CM_of (L := [some (.int (nI 29)), some (.ref a), some (.int (nI e.2.2.2.2.1)), some (.int (jI e.2.2.2.2.2)), none]) 1 ok_L_named (fun _ => Nat.le_of_ble_eq_true rfl) rfl ?_
  refine J_aload_n (i := 1) d_L_named_0 rfl rfl ?_
  refine M_getR (b := (a + 1)) d_L_named_1 f_L_44 hE.1 rfl (now_f hE.1).1 ?_
  refine J_iload_n (i := 2) d_L_named_4 rfl rfl ?_
  refine N_iald (x := (nI (e.2.1 e.2.2.2.2.1))) d_L_named_5 (now_f hE.1).2.2.1 (by omega) (ltL hX (a := a + 1) (n := 8) (by omega) (now_f hE.1).2.2.2.2.1 (by omega)) (hE.2.2.1 e.2.2.2.2.1 (by omega)) ?_
  refine J_istore (L1 := [some (.int (nI 29)), some (.ref a), some (.int (nI e.2.2.2.2.1)), some (.int (jI e.2.2.2.2.2)), some (.int (nI (e.2.1 e.2.2.2.2.1)))]) d_L_named_6 (by decide) rfl ?_
  refine J_iload_n (i := 0) d_L_named_8 rfl rfl ?_
  refine J_lookup (off := 73) (tgt := 82) d_L_named_9 (by decide) (by decide) (by decide) ?_
  refine J_aload_n (i := 1) d_L_named_82 rfl rfl ?_
  refine M_get (x := (nI e.2.2.2.1)) d_L_named_83 f_L_98 hE.1 rfl hE.2.2.2.2 ?_
  refine M_ir d_L_named_86 rfl rfl ?_
  exact ⟨by rw [show nmV e 4 = (e.2.2.2.1 : Int) from rfl, jI_n], rfl⟩

theorem S_L_named_30 {X : Mem} {a : Nat} {e : Env} (hX : Ok X) (hE : CE X a e) (hO : okE e) : CM 2 m_L_named [.int (nI 30), .ref a, .int (nI e.2.2.2.2.1), .int (jI e.2.2.2.2.2)] X (rI (jI (nmV e 5)) X) := by
  have hm8 := hO.1
  have hmk := hO.2.1
  have hst := hO.2.2.1 e.2.2.2.2.1 (by omega)
  have ho5 := odd_lt (e.2.1 e.2.2.2.2.1)
  refine CM_of (L := [some (.int (nI 30)), some (.ref a), some (.int (nI e.2.2.2.2.1)), some (.int (jI e.2.2.2.2.2)), none]) 1 ok_L_named (fun _ => Nat.le_of_ble_eq_true rfl) rfl ?_
  refine J_aload_n (i := 1) d_L_named_0 rfl rfl ?_
  refine M_getR (b := (a + 1)) d_L_named_1 f_L_44 hE.1 rfl (now_f hE.1).1 ?_
  refine J_iload_n (i := 2) d_L_named_4 rfl rfl ?_
  refine N_iald (x := (nI (e.2.1 e.2.2.2.2.1))) d_L_named_5 (now_f hE.1).2.2.1 (by omega) (ltL hX (a := a + 1) (n := 8) (by omega) (now_f hE.1).2.2.2.2.1 (by omega)) (hE.2.2.1 e.2.2.2.2.1 (by omega)) ?_
  refine J_istore (L1 := [some (.int (nI 30)), some (.ref a), some (.int (nI e.2.2.2.2.1)), some (.int (jI e.2.2.2.2.2)), some (.int (nI (e.2.1 e.2.2.2.2.1)))]) d_L_named_6 (by decide) rfl ?_
  refine J_iload_n (i := 0) d_L_named_8 rfl rfl ?_
  refine J_lookup (off := 78) (tgt := 87) d_L_named_9 (by decide) (by decide) (by decide) ?_
  refine J_iload_n (i := 3) d_L_named_87 rfl rfl ?_
  refine M_ir d_L_named_88 rfl rfl ?_
  exact ⟨rfl, rfl⟩

theorem txt_ck : allN (fun a => !decide (kd a = 5) || (decide (rf a 0 = a + 1) && decide (rf a 9 = a + 2) && decide (rf a 10 = a + 3) && decide (rf a 11 = a + 4) && decide (kd (a + 1) = 20) && decide (kd (a + 2) = 20) && decide (kd (a + 3) = 20) && decide (kd (a + 4) = 20) && decide (sz (a + 1) = 300) && decide (sz (a + 2) = 24) && decide (sz (a + 3) = 24) && decide (sz (a + 4) = 24) && !cst (a + 1) && !cst (a + 2) && !cst (a + 3) && !cst (a + 4) && decide (223 < a) && decide (a < 240))) 263 = true := by decide +kernel
theorem txt_f {a : Nat} (h : kd a = 5) : (rf a 0 = a + 1 ∧ rf a 9 = a + 2 ∧ rf a 10 = a + 3 ∧ rf a 11 = a + 4) ∧ (kd (a + 1) = 20 ∧ kd (a + 2) = 20 ∧ kd (a + 3) = 20 ∧ kd (a + 4) = 20) ∧ (sz (a + 1) = 300 ∧ sz (a + 2) = 24 ∧ sz (a + 3) = 24 ∧ sz (a + 4) = 24) ∧ (cst (a + 1) = false ∧ cst (a + 2) = false ∧ cst (a + 3) = false ∧ cst (a + 4) = false) ∧ 223 < a ∧ a < 240 := by
  have := allN_iff.mp txt_ck a (kd_lt (by omega))
  simp only [h, decide_true, Bool.not_true, Bool.false_or, Bool.and_eq_true, decide_eq_true_eq, Bool.not_eq_true'] at this
  obtain ⟨⟨⟨⟨⟨⟨⟨⟨⟨⟨⟨⟨⟨⟨⟨⟨⟨q1, q2⟩, q3⟩, q4⟩, q5⟩, q6⟩, q7⟩, q8⟩, q9⟩, q10⟩, q11⟩, q12⟩, q13⟩, q14⟩, q15⟩, q16⟩, q17⟩, q18⟩ := this
  exact ⟨⟨q1, q2, q3, q4⟩, ⟨q5, q6, q7, q8⟩, ⟨q9, q10, q11, q12⟩, ⟨q13, q14, q15, q16⟩, q17, q18⟩
def top1 (s : List Int) (f : Int → List Int → Option (Nat × List Int)) : Option (Nat × List Int) := match s with
  | [] => none
  | v :: t => f v t
def top2 (s : List Int) (f : Int → Int → List Int → Option (Nat × List Int)) : Option (Nat × List Int) := match s with
  | y :: x :: t => f x y t
  | _ => none
def bt (b : Bool) : Int := if b = true then 1 else 0
/-- one thing that a law of the class does -/
def stepC (e : Env) (c p : Nat) (s : List Int) : Option (Nat × List Int) :=
  if c % 64 = 45 then (if c / 64 ≤ 9999 then some (p + 1, ((c / 64 : Nat) : Int) :: s) else none)
  else if c % 64 = 31 then some (p + 1, nmV e 6 :: s)
  else if c % 64 = 20 then top1 s (fun v t => if v = 0 then (if p < c / 64 then some (c / 64, t) else none) else if v = 1 then some (p + 1, t) else none)
  else if c % 64 = 21 then (if p < c / 64 then some (c / 64, s) else none)
  else if c % 64 = 17 then top1 s (fun v t => some (p + 1, szV e v :: t))
  else if c % 64 = 18 then top1 s (fun v t => some (p + 1, hsV e v :: t))
  else if c % 64 = 25 then top1 s (fun v t => if v = 0 ∨ v = 1 then some (p + 1, (1 - v) :: t) else none)
  else if c % 64 = 48 then top1 s (fun v t => some (p + 1, (-v) :: t))
  else if c % 64 = 6 then some (p + 1, nmV e 0 :: s)
  else if c % 64 = 26 then some (p + 1, nmV e 1 :: s)
  else if c % 64 = 27 then some (p + 1, nmV e 2 :: s)
  else if c % 64 = 28 then some (p + 1, nmV e 3 :: s)
  else if c % 64 = 29 then some (p + 1, nmV e 4 :: s)
  else if c % 64 = 30 then some (p + 1, nmV e 5 :: s)
  else if c % 64 = 36 then top2 s (fun x y t => some (p + 1, ar2 6 x y :: t))
  else if c % 64 = 37 then top2 s (fun x y t => some (p + 1, ar2 7 x y :: t))
  else if c % 64 = 38 then top2 s (fun x y t => some (p + 1, ar2 8 x y :: t))
  else if c % 64 = 39 then top2 s (fun x y t => some (p + 1, ar2 9 x y :: t))
  else if c % 64 = 32 then top2 s (fun x y t => some (p + 1, bt (cp2 10 x y) :: t))
  else if c % 64 = 43 then top2 s (fun x y t => some (p + 1, bt (cp2 11 x y) :: t))
  else if c % 64 = 33 then top2 s (fun x y t => some (p + 1, bt (cp2 12 x y) :: t))
  else if c % 64 = 44 then top2 s (fun x y t => some (p + 1, bt (cp2 13 x y) :: t))
  else if c % 64 = 34 then top2 s (fun x y t => some (p + 1, bt (cp2 14 x y) :: t))
  else if c % 64 = 35 then top2 s (fun x y t => some (p + 1, bt (cp2 15 x y) :: t))
  else if c % 64 = 23 then top2 s (fun x y t => if (x = 0 ∨ x = 1) ∧ (y = 0 ∨ y = 1) then some (p + 1, bt (decide (x = 1) || decide (y = 1)) :: t) else none)
  else if c % 64 = 24 then top2 s (fun x y t => if (x = 0 ∨ x = 1) ∧ (y = 0 ∨ y = 1) then some (p + 1, bt (decide (x = 1) && decide (y = 1)) :: t) else none)
  else none
/-- the code of a text of the class -/
def TC (X : Mem) (T : Nat) (cw : Nat → Nat) : Prop := kd T = 5 ∧ ∀ p, p < 300 → cw p % 64 ≠ 63 → (X.2.1 (T + 1)).getD p 0 = nI (cw p) ∧ cw p < 2147483648
theorem bit_b {v : Int} (h : v = 0 ∨ v = 1) : jI v = b2i (decide (v = 1)) := by
  rcases h with rfl | rfl <;> rfl
theorem jI_bt (b : Bool) : b2i b = jI (bt b) := by cases b <;> rfl
theorem bt_sm (b : Bool) : sm (bt b) := by cases b <;> exact ⟨by decide, by decide⟩
