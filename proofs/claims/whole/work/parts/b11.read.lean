def pIfB (T : TS) (pe : Nat → PR SBl) (ps : Nat → PR SVl) (j : Nat) : PR SVl := bnd (pe j) (fun j1 b => bnd (pExp T 20 j1) (fun j2 _ => bnd (ps j2) (fun j3 v1 => bnd (pExp T 21 j3) (fun j4 _ => bnd (ps j4) (fun j5 v2 => bnd (pExp T 22 j5) (fun j6 _ => .inr (j6, fun e => if b e = true then v1 e else v2 e)))))))
theorem pIf_B (T : TS) (one : Nat → PR SVl) (ask : Nat → PR SBl) : pIf T one ask = pIfB T (pEith T ask) (pSum T one) := rfl
theorem bnd_r {α β : Type} (p : Nat × α) (f : Nat → α → PR β) : bnd (.inr p : PR α) f = f p.1 p.2 := rfl
theorem bnd_l {α β : Type} (q : Nat × Nat) (f : Nat → α → PR β) : bnd (.inl q : PR α) f = .inl q := rfl
theorem ex_t {B : Nat → Nat} {k j : Nat} (h : tk_ B j = k) : pExp (tkT B) k j = .inr (j + 1, 0) := if_pos h
theorem ex_f {B : Nat → Nat} {k j : Nat} (h : ¬ tk_ B j = k) : pExp (tkT B) k j = .inl (1, j) := if_neg h
theorem am_cell {X : Mem} {T pl : Nat} {v : Int32} (hX : Ok X) (hk : kd T = 5) (hp : pl < 300) : (∀ p, p ≠ pl → ((pA X (T + 1) ((X.2.1 (T + 1)).set pl v)).2.1 (T + 1)).getD p 0 = (X.2.1 (T + 1)).getD p 0) ∧ ((pA X (T + 1) ((X.2.1 (T + 1)).set pl v)).2.1 (T + 1)).getD pl 0 = v := by
  have tf := txt_f hk
  have hl : (X.2.1 (T + 1)).length = 300 := by rw [hX.1 (T + 1) (by omega)]; exact tf.2.2.1.1
  rw [pA_at]
  exact ⟨fun p h => set_ne (Ne.symm h), set_eq (by omega)⟩
def CIf (dd oo : Nat) (B : Nat → Nat) (N T : Nat) (w : Bool) (one : Nat → PR SVl) : Prop := ∀ (X : Mem) (j c : Nat), Ok X → Lv X B N T j c w → c ≤ j → CM dd m_D_readChoice [.ref 11, .int (nI oo)] X (fun r Y => r = none ∧ Out X B N T j c w (GdC T w) (one j) Y)
def CNot (dd oo : Nat) (B : Nat → Nat) (N T : Nat) (w : Bool) (one : Nat → PR SBl) : Prop := ∀ (X : Mem) (j c : Nat), Ok X → Lv X B N T j c w → c ≤ j → tk_ B j = 25 → CM dd m_D_readNot [.ref 11, .int (nI oo)] X (fun r Y => r = none ∧ Out X B N T j c w (GdB T w) (one j) Y)
def COpn (dd oo : Nat) (B : Nat → Nat) (N T : Nat) (w : Bool) (one : Nat → PR SVl) : Prop := ∀ (X : Mem) (j c : Nat), Ok X → Lv X B N T j c w → c ≤ j → opnB (tk_ B j) = true → CM dd m_D_readOpenOne [.ref 11, .int (nI oo)] X (fun r Y => r = none ∧ Out X B N T j c w (GdC T w) (one j) Y)
theorem S_D_readChoice {B : Nat → Nat} {N T dd de ds oo : Nat} {w : Bool} {pe : Nat → PR SBl} {ps : Nat → PR SVl} (hE : CEith de oo B N T w pe) (hS : CSum ds oo B N T w ps) (h1 : de < dd) (h2 : ds < dd) (h3 : 6 ≤ dd) : CIf dd oo B N T w (pIfB (tkT B) pe ps) := by
  intro X j c hX hL hcj
  have hkT := hL.1.2.1
  have h300 := hL.1.1.1
  have hjN := hL.2.1
  have hlt := tk_lt B j
  have hjl := Lv_N hL
  refine CM_of (L := [some (.ref 11), some (.int (nI oo)), none, none]) 2 ok_D_readChoice (fun _ => Nat.le_of_ble_eq_true rfl) rfl ?_
  refine J_aload_n (i := 0) d_D_readChoice_0 rfl rfl ?_
  refine J_iload_n (i := 1) d_D_readChoice_1 rfl rfl ?_
  refine M_callV (av := [.int (nI oo)]) d_D_readChoice_2 s_D_151 (M_rcv rfl (by decide) rfl) (hE _ _ _ hX hL (by omega)) (by omega) rfl rfl (Nat.le_of_ble_eq_true rfl) (fun r1 Y1 hq1 => ?_)
  obtain ⟨rfl, hq1⟩ := hq1
  rcases hr1 : pe j with q1 | q1
  · rw [hr1] at hq1
    obtain ⟨hY1, ho1, hD1⟩ := hq1
    have hD1 : Dd Y1 B N T q1.1 (stT B q1.2) := hD1
    have hf1 := hD1.2.2.2.2.1
    refine J_aload_n (i := 0) d_D_readChoice_5 rfl rfl ?_
    refine J_bipush (v := nI 20) d_D_readChoice_6 rfl ?_
    refine CV_V (av := [.int (nI 20)]) d_D_readChoice_8 s_D_84 (M_rcv rfl (by decide) rfl) (S_D_expect_d hY1 hD1 (show 20 < 46 by omega)) (by omega) rfl rfl (Nat.le_of_ble_eq_true rfl) ?_
    refine J_aload_n (i := 0) d_D_readChoice_11 rfl rfl ?_
    refine M_getI (b := T) d_D_readChoice_12 f_D_34 rfl rfl hD1.1.2.2 ?_
    refine J_bipush (v := nI 20) d_D_readChoice_15 rfl ?_
    refine J_iconst (v := nI 0) d_D_readChoice_17 rfl ?_
    obtain ⟨cd2, hcd2, hce2⟩ := hD1.2.2.2.2.2.2
    refine CV_N (av := [.int (nI 20), .int (nI 0)]) d_D_readChoice_18 s_D_136 (M_rcv hD1.1.2.1 (by decide) rfl) (S_T_write hY1 hD1.1.2.1 hce2 hcd2) (by omega) rfl rfl (Nat.le_of_ble_eq_true rfl) ?_
    have hD2 := wr_Dd (x := 0 * 64 + 20) hD1 hce2 hcd2
    refine J_istore_n (i := 2) (L1 := [some (.ref 11), some (.int (nI oo)), some (.int (nI (min cd2 299))), none]) d_D_readChoice_21 rfl (by decide) rfl ?_
    refine J_aload_n (i := 0) d_D_readChoice_22 rfl rfl ?_
    refine J_iload_n (i := 1) d_D_readChoice_23 rfl rfl ?_
    refine M_callV (av := [.int (nI oo)]) d_D_readChoice_24 s_D_93 (M_rcv rfl (by decide) rfl) (S_D_readSum_d (wr_Ok hY1 hD1.1.2.1) hD2) (by omega) rfl rfl (Nat.le_of_ble_eq_true rfl) (fun r3 Y3 hq3 => ?_)
    obtain ⟨rfl, hY3, ho3, hD3⟩ := hq3
    refine J_aload_n (i := 0) d_D_readChoice_27 rfl rfl ?_
    refine J_bipush (v := nI 21) d_D_readChoice_28 rfl ?_
    refine CV_V (av := [.int (nI 21)]) d_D_readChoice_30 s_D_84 (M_rcv rfl (by decide) rfl) (S_D_expect_d hY3 hD3 (show 21 < 46 by omega)) (by omega) rfl rfl (Nat.le_of_ble_eq_true rfl) ?_
    refine J_aload_n (i := 0) d_D_readChoice_33 rfl rfl ?_
    refine M_getI (b := T) d_D_readChoice_34 f_D_34 rfl rfl hD3.1.2.2 ?_
    refine J_bipush (v := nI 21) d_D_readChoice_37 rfl ?_
    refine J_iconst (v := nI 0) d_D_readChoice_39 rfl ?_
    obtain ⟨cd4, hcd4, hce4⟩ := hD3.2.2.2.2.2.2
    refine CV_N (av := [.int (nI 21), .int (nI 0)]) d_D_readChoice_40 s_D_136 (M_rcv hD3.1.2.1 (by decide) rfl) (S_T_write hY3 hD3.1.2.1 hce4 hcd4) (by omega) rfl rfl (Nat.le_of_ble_eq_true rfl) ?_
    have hD4 := wr_Dd (x := 0 * 64 + 21) hD3 hce4 hcd4
    refine J_istore_n (i := 3) (L1 := [some (.ref 11), some (.int (nI oo)), some (.int (nI (min cd2 299))), some (.int (nI (min cd4 299)))]) d_D_readChoice_43 rfl (by decide) rfl ?_
    refine J_aload_n (i := 0) d_D_readChoice_44 rfl rfl ?_
    refine M_getI (b := T) d_D_readChoice_45 f_D_34 rfl rfl hD4.1.2.2 ?_
    refine J_iload_n (i := 2) d_D_readChoice_48 rfl rfl ?_
    refine J_aload_n (i := 0) d_D_readChoice_49 rfl rfl ?_
    refine M_getI (b := T) d_D_readChoice_50 f_D_34 rfl rfl hD4.1.2.2 ?_
    obtain ⟨cl5, hcm5, hcx5⟩ := hD4.2.2.2.2.2.2
    refine M_get (x := (nI cl5)) d_D_readChoice_53 f_D_90 hkT rfl hcx5 ?_
    refine M_callV (av := [.int (nI (min cd2 299)), .int (nI cl5)]) d_D_readChoice_56 s_D_154 (M_rcv hkT (by decide) rfl) (S_T_aim_d (wr_Ok hY3 hD3.1.2.1) hkT (show (min cd2 299) < 300 by omega)) (by omega) rfl rfl (Nat.le_of_ble_eq_true rfl) (fun r6 Y6 hq6 => ?_)
    obtain ⟨rfl, v6, rfl⟩ := hq6
    have hD6 := am_Dd (l := (((wrX Y3 T cd4 (0 * 64 + 21)).2.1 (T + 1)).set (min cd2 299) v6)) hD4
    refine J_aload_n (i := 0) d_D_readChoice_59 rfl rfl ?_
    refine J_iload_n (i := 1) d_D_readChoice_60 rfl rfl ?_
    refine M_callV (av := [.int (nI oo)]) d_D_readChoice_61 s_D_93 (M_rcv rfl (by decide) rfl) (S_D_readSum_d (am_Ok (wr_Ok hY3 hD3.1.2.1) hkT) hD6) (by omega) rfl rfl (Nat.le_of_ble_eq_true rfl) (fun r7 Y7 hq7 => ?_)
    obtain ⟨rfl, hY7, ho7, hD7⟩ := hq7
    refine J_aload_n (i := 0) d_D_readChoice_64 rfl rfl ?_
    refine J_bipush (v := nI 22) d_D_readChoice_65 rfl ?_
    refine CV_V (av := [.int (nI 22)]) d_D_readChoice_67 s_D_84 (M_rcv rfl (by decide) rfl) (S_D_expect_d hY7 hD7 (show 22 < 46 by omega)) (by omega) rfl rfl (Nat.le_of_ble_eq_true rfl) ?_
    refine J_aload_n (i := 0) d_D_readChoice_70 rfl rfl ?_
    refine M_getI (b := T) d_D_readChoice_71 f_D_34 rfl rfl hD7.1.2.2 ?_
    refine J_iload_n (i := 3) d_D_readChoice_74 rfl rfl ?_
    refine J_aload_n (i := 0) d_D_readChoice_75 rfl rfl ?_
    refine M_getI (b := T) d_D_readChoice_76 f_D_34 rfl rfl hD7.1.2.2 ?_
    obtain ⟨cl8, hcm8, hcx8⟩ := hD7.2.2.2.2.2.2
    refine M_get (x := (nI cl8)) d_D_readChoice_79 f_D_90 hkT rfl hcx8 ?_
    refine M_callV (av := [.int (nI (min cd4 299)), .int (nI cl8)]) d_D_readChoice_82 s_D_154 (M_rcv hkT (by decide) rfl) (S_T_aim_d hY7 hkT (show (min cd4 299) < 300 by omega)) (by omega) rfl rfl (Nat.le_of_ble_eq_true rfl) (fun r9 Y9 hq9 => ?_)
    obtain ⟨rfl, v9, rfl⟩ := hq9
    have hD9 := am_Dd (l := ((Y7.2.1 (T + 1)).set (min cd4 299) v9)) hD7
    refine M_vr d_D_readChoice_85 rfl ?_
    have e : pIfB (tkT B) pe ps j = .inl q1 := by simp only [pIfB, bnd_r, bnd_l, hr1]
    rw [e]
    exact ⟨rfl, (am_Ok hY7 hkT), (offL_t (offL_t (offL_t (offL_t (offL_t (offL_t (offL_t (offL_0 T X) ho1) wr_off) ho3) wr_off) am_off) ho7) am_off), hD9⟩
  · rw [hr1] at hq1
    obtain ⟨hY1, ho1, c1, hL1, la1, lb1, lc1, hcl1, hG1⟩ := hq1
    have hN1 := hL1.2.1
    have hlt1 := tk_lt B q1.1
    have hjl1 := Lv_N hL1
    refine J_aload_n (i := 0) d_D_readChoice_5 rfl rfl ?_
    refine J_bipush (v := nI 20) d_D_readChoice_6 rfl ?_
    refine CV_V (av := [.int (nI 20)]) d_D_readChoice_8 s_D_84 (M_rcv rfl (by decide) rfl) (S_D_expect hY1 hL1 (show 20 < 46 by omega)) (by omega) rfl rfl (Nat.le_of_ble_eq_true rfl) ?_
    by_cases hx2 : tk_ B q1.1 = 20
    · rw [show exX Y1 B q1.1 20 = adX Y1 B q1.1 from if_pos hx2]
      have hL2 := ad_Lv hL1 (show tk_ B q1.1 ≠ 46 by omega)
      refine J_aload_n (i := 0) d_D_readChoice_11 rfl rfl ?_
      refine M_getI (b := T) d_D_readChoice_12 f_D_34 rfl rfl hL2.1.2.2 ?_
      refine J_bipush (v := nI 20) d_D_readChoice_15 rfl ?_
      refine J_iconst (v := nI 0) d_D_readChoice_17 rfl ?_
      refine CV_N (av := [.int (nI 20), .int (nI 0)]) d_D_readChoice_18 s_D_136 (M_rcv hL2.1.2.1 (by decide) rfl) (S_T_write (ad_Ok hY1) hL2.1.2.1 hL2.2.2.2.2.2.2.1 hL2.2.2.2.2.2.2.2.1) (by omega) rfl rfl (Nat.le_of_ble_eq_true rfl) ?_
      obtain ⟨hL3, hw3⟩ := wr_Lv (x := 0 * 64 + 20) hL2 (show c1 < 300 by omega)
      rw [show min c1 299 = c1 by omega]
      refine J_istore_n (i := 2) (L1 := [some (.ref 11), some (.int (nI oo)), some (.int (nI c1)), none]) d_D_readChoice_21 rfl (by decide) rfl ?_
      refine J_aload_n (i := 0) d_D_readChoice_22 rfl rfl ?_
      refine J_iload_n (i := 1) d_D_readChoice_23 rfl rfl ?_
      refine M_callV (av := [.int (nI oo)]) d_D_readChoice_24 s_D_93 (M_rcv rfl (by decide) rfl) (hS _ _ _ (wr_Ok (ad_Ok hY1) hL2.1.2.1) hL3 (by omega)) (by omega) rfl rfl (Nat.le_of_ble_eq_true rfl) (fun r4 Y4 hq4 => ?_)
      obtain ⟨rfl, hq4⟩ := hq4
      rcases hr4 : ps (q1.1 + 1) with q4 | q4
      · rw [hr4] at hq4
        obtain ⟨hY4, ho4, hD4⟩ := hq4
        have hD4 : Dd Y4 B N T q4.1 (stT B q4.2) := hD4
        have hf4 := hD4.2.2.2.2.1
        refine J_aload_n (i := 0) d_D_readChoice_27 rfl rfl ?_
        refine J_bipush (v := nI 21) d_D_readChoice_28 rfl ?_
        refine CV_V (av := [.int (nI 21)]) d_D_readChoice_30 s_D_84 (M_rcv rfl (by decide) rfl) (S_D_expect_d hY4 hD4 (show 21 < 46 by omega)) (by omega) rfl rfl (Nat.le_of_ble_eq_true rfl) ?_
        refine J_aload_n (i := 0) d_D_readChoice_33 rfl rfl ?_
        refine M_getI (b := T) d_D_readChoice_34 f_D_34 rfl rfl hD4.1.2.2 ?_
        refine J_bipush (v := nI 21) d_D_readChoice_37 rfl ?_
        refine J_iconst (v := nI 0) d_D_readChoice_39 rfl ?_
        obtain ⟨cd5, hcd5, hce5⟩ := hD4.2.2.2.2.2.2
        refine CV_N (av := [.int (nI 21), .int (nI 0)]) d_D_readChoice_40 s_D_136 (M_rcv hD4.1.2.1 (by decide) rfl) (S_T_write hY4 hD4.1.2.1 hce5 hcd5) (by omega) rfl rfl (Nat.le_of_ble_eq_true rfl) ?_
        have hD5 := wr_Dd (x := 0 * 64 + 21) hD4 hce5 hcd5
        refine J_istore_n (i := 3) (L1 := [some (.ref 11), some (.int (nI oo)), some (.int (nI c1)), some (.int (nI (min cd5 299)))]) d_D_readChoice_43 rfl (by decide) rfl ?_
        refine J_aload_n (i := 0) d_D_readChoice_44 rfl rfl ?_
        refine M_getI (b := T) d_D_readChoice_45 f_D_34 rfl rfl hD5.1.2.2 ?_
        refine J_iload_n (i := 2) d_D_readChoice_48 rfl rfl ?_
        refine J_aload_n (i := 0) d_D_readChoice_49 rfl rfl ?_
        refine M_getI (b := T) d_D_readChoice_50 f_D_34 rfl rfl hD5.1.2.2 ?_
        obtain ⟨cl6, hcm6, hcx6⟩ := hD5.2.2.2.2.2.2
        refine M_get (x := (nI cl6)) d_D_readChoice_53 f_D_90 hkT rfl hcx6 ?_
        refine M_callV (av := [.int (nI c1), .int (nI cl6)]) d_D_readChoice_56 s_D_154 (M_rcv hkT (by decide) rfl) (S_T_aim_d (wr_Ok hY4 hD4.1.2.1) hkT (show c1 < 300 by omega)) (by omega) rfl rfl (Nat.le_of_ble_eq_true rfl) (fun r7 Y7 hq7 => ?_)
        obtain ⟨rfl, v7, rfl⟩ := hq7
        have hD7 := am_Dd (l := (((wrX Y4 T cd5 (0 * 64 + 21)).2.1 (T + 1)).set c1 v7)) hD5
        refine J_aload_n (i := 0) d_D_readChoice_59 rfl rfl ?_
        refine J_iload_n (i := 1) d_D_readChoice_60 rfl rfl ?_
        refine M_callV (av := [.int (nI oo)]) d_D_readChoice_61 s_D_93 (M_rcv rfl (by decide) rfl) (S_D_readSum_d (am_Ok (wr_Ok hY4 hD4.1.2.1) hkT) hD7) (by omega) rfl rfl (Nat.le_of_ble_eq_true rfl) (fun r8 Y8 hq8 => ?_)
        obtain ⟨rfl, hY8, ho8, hD8⟩ := hq8
        refine J_aload_n (i := 0) d_D_readChoice_64 rfl rfl ?_
        refine J_bipush (v := nI 22) d_D_readChoice_65 rfl ?_
        refine CV_V (av := [.int (nI 22)]) d_D_readChoice_67 s_D_84 (M_rcv rfl (by decide) rfl) (S_D_expect_d hY8 hD8 (show 22 < 46 by omega)) (by omega) rfl rfl (Nat.le_of_ble_eq_true rfl) ?_
        refine J_aload_n (i := 0) d_D_readChoice_70 rfl rfl ?_
        refine M_getI (b := T) d_D_readChoice_71 f_D_34 rfl rfl hD8.1.2.2 ?_
        refine J_iload_n (i := 3) d_D_readChoice_74 rfl rfl ?_
        refine J_aload_n (i := 0) d_D_readChoice_75 rfl rfl ?_
        refine M_getI (b := T) d_D_readChoice_76 f_D_34 rfl rfl hD8.1.2.2 ?_
        obtain ⟨cl9, hcm9, hcx9⟩ := hD8.2.2.2.2.2.2
        refine M_get (x := (nI cl9)) d_D_readChoice_79 f_D_90 hkT rfl hcx9 ?_
        refine M_callV (av := [.int (nI (min cd5 299)), .int (nI cl9)]) d_D_readChoice_82 s_D_154 (M_rcv hkT (by decide) rfl) (S_T_aim_d hY8 hkT (show (min cd5 299) < 300 by omega)) (by omega) rfl rfl (Nat.le_of_ble_eq_true rfl) (fun r10 Y10 hq10 => ?_)
        obtain ⟨rfl, v10, rfl⟩ := hq10
        have hD10 := am_Dd (l := ((Y8.2.1 (T + 1)).set (min cd5 299) v10)) hD8
        refine M_vr d_D_readChoice_85 rfl ?_
        have e : pIfB (tkT B) pe ps j = .inl q4 := by simp only [pIfB, bnd_r, bnd_l, hr1, ex_t hx2, hr4]
        rw [e]
        exact ⟨rfl, (am_Ok hY8 hkT), (offL_t (offL_t (offL_t (offL_t (offL_t (offL_t (offL_t (offL_t (offL_0 T X) ho1) (ad_off (j := q1.1))) wr_off) ho4) wr_off) am_off) ho8) am_off), hD10⟩
      · rw [hr4] at hq4
        obtain ⟨hY4, ho4, c4, hL4, la4, lb4, lc4, hcl4, hG4⟩ := hq4
        have hN4 := hL4.2.1
        have hlt4 := tk_lt B q4.1
        have hjl4 := Lv_N hL4
        refine J_aload_n (i := 0) d_D_readChoice_27 rfl rfl ?_
        refine J_bipush (v := nI 21) d_D_readChoice_28 rfl ?_
        refine CV_V (av := [.int (nI 21)]) d_D_readChoice_30 s_D_84 (M_rcv rfl (by decide) rfl) (S_D_expect hY4 hL4 (show 21 < 46 by omega)) (by omega) rfl rfl (Nat.le_of_ble_eq_true rfl) ?_
        by_cases hx5 : tk_ B q4.1 = 21
        · rw [show exX Y4 B q4.1 21 = adX Y4 B q4.1 from if_pos hx5]
          have hL5 := ad_Lv hL4 (show tk_ B q4.1 ≠ 46 by omega)
          refine J_aload_n (i := 0) d_D_readChoice_33 rfl rfl ?_
          refine M_getI (b := T) d_D_readChoice_34 f_D_34 rfl rfl hL5.1.2.2 ?_
          refine J_bipush (v := nI 21) d_D_readChoice_37 rfl ?_
          refine J_iconst (v := nI 0) d_D_readChoice_39 rfl ?_
          refine CV_N (av := [.int (nI 21), .int (nI 0)]) d_D_readChoice_40 s_D_136 (M_rcv hL5.1.2.1 (by decide) rfl) (S_T_write (ad_Ok hY4) hL5.1.2.1 hL5.2.2.2.2.2.2.1 hL5.2.2.2.2.2.2.2.1) (by omega) rfl rfl (Nat.le_of_ble_eq_true rfl) ?_
          obtain ⟨hL6, hw6⟩ := wr_Lv (x := 0 * 64 + 21) hL5 (show c4 < 300 by omega)
          rw [show min c4 299 = c4 by omega]
          refine J_istore_n (i := 3) (L1 := [some (.ref 11), some (.int (nI oo)), some (.int (nI c1)), some (.int (nI c4))]) d_D_readChoice_43 rfl (by decide) rfl ?_
          refine J_aload_n (i := 0) d_D_readChoice_44 rfl rfl ?_
          refine M_getI (b := T) d_D_readChoice_45 f_D_34 rfl rfl hL6.1.2.2 ?_
          refine J_iload_n (i := 2) d_D_readChoice_48 rfl rfl ?_
          refine J_aload_n (i := 0) d_D_readChoice_49 rfl rfl ?_
          refine M_getI (b := T) d_D_readChoice_50 f_D_34 rfl rfl hL6.1.2.2 ?_
          refine M_get (x := (nI (c4 + 1))) d_D_readChoice_53 f_D_90 hkT rfl hL6.2.2.2.2.2.2.1 ?_
          have w3 := wr_cell (X := adX Y1 B q1.1) (c := c1) (x := 0 * 64 + 20) (ad_Ok hY1) hkT (by omega)
          have w6 := wr_cell (X := adX Y4 B q4.1) (c := c4) (x := 0 * 64 + 21) (ad_Ok hY4) hkT (by omega)
          have hx56 : ((wrX (adX Y4 B q4.1) T c4 (0 * 64 + 21)).2.1 (T + 1)).getD c1 0 = nI (0 * 64 + 20) := (w6.1 c1 (by omega)).trans ((hcl4 c1 (by omega)).trans w3.2)
          have a7 := am_cell (X := (wrX (adX Y4 B q4.1) T c4 (0 * 64 + 21))) (pl := c1) (v := nI ((0 * 64 + 20) % 64 + (c4 + 1) * 64)) (wr_Ok (ad_Ok hY4) hkT) hkT (by omega)
          refine CV_V (av := [.int (nI c1), .int (nI (c4 + 1))]) d_D_readChoice_56 s_D_154 (M_rcv hkT (by decide) rfl) (S_T_aim (x := (0 * 64 + 20)) (wr_Ok (ad_Ok hY4) hL5.1.2.1) hkT (show c1 < 300 by omega) hx56 (by omega)) (by omega) rfl rfl (Nat.le_of_ble_eq_true rfl) ?_
          have hL7 := am_Lv (l := (((wrX (adX Y4 B q4.1) T c4 (0 * 64 + 21)).2.1 (T + 1)).set c1 (nI ((0 * 64 + 20) % 64 + (c4 + 1) * 64)))) hL6
          refine J_aload_n (i := 0) d_D_readChoice_59 rfl rfl ?_
          refine J_iload_n (i := 1) d_D_readChoice_60 rfl rfl ?_
          refine M_callV (av := [.int (nI oo)]) d_D_readChoice_61 s_D_93 (M_rcv rfl (by decide) rfl) (hS _ _ _ (am_Ok (wr_Ok (ad_Ok hY4) hL5.1.2.1) hkT) hL7 (by omega)) (by omega) rfl rfl (Nat.le_of_ble_eq_true rfl) (fun r8 Y8 hq8 => ?_)
          obtain ⟨rfl, hq8⟩ := hq8
          rcases hr8 : ps (q4.1 + 1) with q8 | q8
          · rw [hr8] at hq8
            obtain ⟨hY8, ho8, hD8⟩ := hq8
            have hD8 : Dd Y8 B N T q8.1 (stT B q8.2) := hD8
            have hf8 := hD8.2.2.2.2.1
            refine J_aload_n (i := 0) d_D_readChoice_64 rfl rfl ?_
            refine J_bipush (v := nI 22) d_D_readChoice_65 rfl ?_
            refine CV_V (av := [.int (nI 22)]) d_D_readChoice_67 s_D_84 (M_rcv rfl (by decide) rfl) (S_D_expect_d hY8 hD8 (show 22 < 46 by omega)) (by omega) rfl rfl (Nat.le_of_ble_eq_true rfl) ?_
            refine J_aload_n (i := 0) d_D_readChoice_70 rfl rfl ?_
            refine M_getI (b := T) d_D_readChoice_71 f_D_34 rfl rfl hD8.1.2.2 ?_
            refine J_iload_n (i := 3) d_D_readChoice_74 rfl rfl ?_
            refine J_aload_n (i := 0) d_D_readChoice_75 rfl rfl ?_
            refine M_getI (b := T) d_D_readChoice_76 f_D_34 rfl rfl hD8.1.2.2 ?_
            obtain ⟨cl9, hcm9, hcx9⟩ := hD8.2.2.2.2.2.2
            refine M_get (x := (nI cl9)) d_D_readChoice_79 f_D_90 hkT rfl hcx9 ?_
            refine M_callV (av := [.int (nI c4), .int (nI cl9)]) d_D_readChoice_82 s_D_154 (M_rcv hkT (by decide) rfl) (S_T_aim_d hY8 hkT (show c4 < 300 by omega)) (by omega) rfl rfl (Nat.le_of_ble_eq_true rfl) (fun r10 Y10 hq10 => ?_)
            obtain ⟨rfl, v10, rfl⟩ := hq10
            have hD10 := am_Dd (l := ((Y8.2.1 (T + 1)).set c4 v10)) hD8
            refine M_vr d_D_readChoice_85 rfl ?_
            have e : pIfB (tkT B) pe ps j = .inl q8 := by simp only [pIfB, bnd_r, bnd_l, hr1, ex_t hx2, hr4, ex_t hx5, hr8]
            rw [e]
            exact ⟨rfl, (am_Ok hY8 hkT), (offL_t (offL_t (offL_t (offL_t (offL_t (offL_t (offL_t (offL_t (offL_t (offL_0 T X) ho1) (ad_off (j := q1.1))) wr_off) ho4) (ad_off (j := q4.1))) wr_off) am_off) ho8) am_off), hD10⟩
          · rw [hr8] at hq8
            obtain ⟨hY8, ho8, c8, hL8, la8, lb8, lc8, hcl8, hG8⟩ := hq8
            have hN8 := hL8.2.1
            have hlt8 := tk_lt B q8.1
            have hjl8 := Lv_N hL8
            refine J_aload_n (i := 0) d_D_readChoice_64 rfl rfl ?_
            refine J_bipush (v := nI 22) d_D_readChoice_65 rfl ?_
            refine CV_V (av := [.int (nI 22)]) d_D_readChoice_67 s_D_84 (M_rcv rfl (by decide) rfl) (S_D_expect hY8 hL8 (show 22 < 46 by omega)) (by omega) rfl rfl (Nat.le_of_ble_eq_true rfl) ?_
            by_cases hx9 : tk_ B q8.1 = 22
            · rw [show exX Y8 B q8.1 22 = adX Y8 B q8.1 from if_pos hx9]
              have hL9 := ad_Lv hL8 (show tk_ B q8.1 ≠ 46 by omega)
              refine J_aload_n (i := 0) d_D_readChoice_70 rfl rfl ?_
              refine M_getI (b := T) d_D_readChoice_71 f_D_34 rfl rfl hL9.1.2.2 ?_
              refine J_iload_n (i := 3) d_D_readChoice_74 rfl rfl ?_
              refine J_aload_n (i := 0) d_D_readChoice_75 rfl rfl ?_
              refine M_getI (b := T) d_D_readChoice_76 f_D_34 rfl rfl hL9.1.2.2 ?_
              refine M_get (x := (nI c8)) d_D_readChoice_79 f_D_90 hkT rfl hL9.2.2.2.2.2.2.1 ?_
              have hx82 : ((adX Y8 B q8.1).2.1 (T + 1)).getD c4 0 = nI (0 * 64 + 21) := (hcl8 c4 (by omega)).trans ((a7.1 c4 (by omega)).trans w6.2)
              have a10 := am_cell (X := (adX Y8 B q8.1)) (pl := c4) (v := nI ((0 * 64 + 21) % 64 + c8 * 64)) (ad_Ok hY8) hkT (by omega)
              refine CV_V (av := [.int (nI c4), .int (nI c8)]) d_D_readChoice_82 s_D_154 (M_rcv hkT (by decide) rfl) (S_T_aim (x := (0 * 64 + 21)) (ad_Ok hY8) hkT (show c4 < 300 by omega) hx82 (by omega)) (by omega) rfl rfl (Nat.le_of_ble_eq_true rfl) ?_
              have hL10 := am_Lv (l := (((adX Y8 B q8.1).2.1 (T + 1)).set c4 (nI ((0 * 64 + 21) % 64 + c8 * 64)))) hL9
              refine M_vr d_D_readChoice_85 rfl ?_
              have e : pIfB (tkT B) pe ps j = .inr (q8.1 + 1, fun e => if q1.2 e = true then q4.2 e else q8.2 e) := by simp only [pIfB, bnd_r, bnd_l, hr1, ex_t hx2, hr4, ex_t hx5, hr8, ex_t hx9]
              rw [e]
              refine ⟨rfl, (am_Ok (ad_Ok hY8) hkT), (offL_t (offL_t (offL_t (offL_t (offL_t (offL_t (offL_t (offL_t (offL_t (offL_t (offL_0 T X) ho1) (ad_off (j := q1.1))) wr_off) ho4) (ad_off (j := q4.1))) wr_off) am_off) ho8) (ad_off (j := q8.1))) am_off), c8, hL10, by omega, by omega, by omega, fun p hp => ?_, GC_if hG1 hG4 hG8 (by omega) (by omega) (by omega) (by omega) (fun p h1 h2 => ?_) ?_ (fun p h1 h2 => ?_) ?_ (fun p h1 h2 => ?_)⟩
              · exact (a10.1 p (by omega)).trans ((hcl8 p (by omega)).trans ((a7.1 p (by omega)).trans ((w6.1 p (by omega)).trans ((hcl4 p (by omega)).trans ((w3.1 p (by omega)).trans (hcl1 p hp))))))
              · exact (a10.1 p (by omega)).trans ((hcl8 p (by omega)).trans ((a7.1 p (by omega)).trans ((w6.1 p (by omega)).trans ((hcl4 p (by omega)).trans (w3.1 p (by omega))))))
              · exact (a10.1 c1 (by omega)).trans ((hcl8 c1 (by omega)).trans (a7.2.trans (congrArg nI (by omega))))
              · exact (a10.1 p (by omega)).trans ((hcl8 p (by omega)).trans ((a7.1 p (by omega)).trans (w6.1 p (by omega))))
              · exact a10.2.trans (congrArg nI (by omega))
              · exact a10.1 p (by omega)
            · rw [show exX Y8 B q8.1 22 = rfX Y8 1 (stT B q8.1) from if_neg hx9]
              have hD9 := rf_Dd (f := 1) (p := stT B q8.1) hL8 (by decide) (by decide)
              refine J_aload_n (i := 0) d_D_readChoice_70 rfl rfl ?_
              refine M_getI (b := T) d_D_readChoice_71 f_D_34 rfl rfl hD9.1.2.2 ?_
              refine J_iload_n (i := 3) d_D_readChoice_74 rfl rfl ?_
              refine J_aload_n (i := 0) d_D_readChoice_75 rfl rfl ?_
              refine M_getI (b := T) d_D_readChoice_76 f_D_34 rfl rfl hD9.1.2.2 ?_
              obtain ⟨cl10, hcm10, hcx10⟩ := hD9.2.2.2.2.2.2
              refine M_get (x := (nI cl10)) d_D_readChoice_79 f_D_90 hkT rfl hcx10 ?_
              refine M_callV (av := [.int (nI c4), .int (nI cl10)]) d_D_readChoice_82 s_D_154 (M_rcv hkT (by decide) rfl) (S_T_aim_d (rf_Ok hY8) hkT (show c4 < 300 by omega)) (by omega) rfl rfl (Nat.le_of_ble_eq_true rfl) (fun r11 Y11 hq11 => ?_)
              obtain ⟨rfl, v11, rfl⟩ := hq11
              have hD11 := am_Dd (l := (((rfX Y8 1 (stT B q8.1)).2.1 (T + 1)).set c4 v11)) hD9
              refine M_vr d_D_readChoice_85 rfl ?_
              have e : pIfB (tkT B) pe ps j = .inl (1, q8.1) := by simp only [pIfB, bnd_r, bnd_l, hr1, ex_t hx2, hr4, ex_t hx5, hr8, ex_f hx9]
              rw [e]
              exact ⟨rfl, (am_Ok (rf_Ok hY8) hkT), (offL_t (offL_t (offL_t (offL_t (offL_t (offL_t (offL_t (offL_t (offL_t (offL_t (offL_0 T X) ho1) (ad_off (j := q1.1))) wr_off) ho4) (ad_off (j := q4.1))) wr_off) am_off) ho8) rf_off) am_off), hD11⟩
        · rw [show exX Y4 B q4.1 21 = rfX Y4 1 (stT B q4.1) from if_neg hx5]
          have hD5 := rf_Dd (f := 1) (p := stT B q4.1) hL4 (by decide) (by decide)
          refine J_aload_n (i := 0) d_D_readChoice_33 rfl rfl ?_
          refine M_getI (b := T) d_D_readChoice_34 f_D_34 rfl rfl hD5.1.2.2 ?_
          refine J_bipush (v := nI 21) d_D_readChoice_37 rfl ?_
          refine J_iconst (v := nI 0) d_D_readChoice_39 rfl ?_
          obtain ⟨cd6, hcd6, hce6⟩ := hD5.2.2.2.2.2.2
          refine CV_N (av := [.int (nI 21), .int (nI 0)]) d_D_readChoice_40 s_D_136 (M_rcv hD5.1.2.1 (by decide) rfl) (S_T_write (rf_Ok hY4) hD5.1.2.1 hce6 hcd6) (by omega) rfl rfl (Nat.le_of_ble_eq_true rfl) ?_
          have hD6 := wr_Dd (x := 0 * 64 + 21) hD5 hce6 hcd6
          refine J_istore_n (i := 3) (L1 := [some (.ref 11), some (.int (nI oo)), some (.int (nI c1)), some (.int (nI (min cd6 299)))]) d_D_readChoice_43 rfl (by decide) rfl ?_
          refine J_aload_n (i := 0) d_D_readChoice_44 rfl rfl ?_
          refine M_getI (b := T) d_D_readChoice_45 f_D_34 rfl rfl hD6.1.2.2 ?_
          refine J_iload_n (i := 2) d_D_readChoice_48 rfl rfl ?_
          refine J_aload_n (i := 0) d_D_readChoice_49 rfl rfl ?_
          refine M_getI (b := T) d_D_readChoice_50 f_D_34 rfl rfl hD6.1.2.2 ?_
          obtain ⟨cl7, hcm7, hcx7⟩ := hD6.2.2.2.2.2.2
          refine M_get (x := (nI cl7)) d_D_readChoice_53 f_D_90 hkT rfl hcx7 ?_
          refine M_callV (av := [.int (nI c1), .int (nI cl7)]) d_D_readChoice_56 s_D_154 (M_rcv hkT (by decide) rfl) (S_T_aim_d (wr_Ok (rf_Ok hY4) hD5.1.2.1) hkT (show c1 < 300 by omega)) (by omega) rfl rfl (Nat.le_of_ble_eq_true rfl) (fun r8 Y8 hq8 => ?_)
          obtain ⟨rfl, v8, rfl⟩ := hq8
          have hD8 := am_Dd (l := (((wrX (rfX Y4 1 (stT B q4.1)) T cd6 (0 * 64 + 21)).2.1 (T + 1)).set c1 v8)) hD6
          refine J_aload_n (i := 0) d_D_readChoice_59 rfl rfl ?_
          refine J_iload_n (i := 1) d_D_readChoice_60 rfl rfl ?_
          refine M_callV (av := [.int (nI oo)]) d_D_readChoice_61 s_D_93 (M_rcv rfl (by decide) rfl) (S_D_readSum_d (am_Ok (wr_Ok (rf_Ok hY4) hD5.1.2.1) hkT) hD8) (by omega) rfl rfl (Nat.le_of_ble_eq_true rfl) (fun r9 Y9 hq9 => ?_)
          obtain ⟨rfl, hY9, ho9, hD9⟩ := hq9
          refine J_aload_n (i := 0) d_D_readChoice_64 rfl rfl ?_
          refine J_bipush (v := nI 22) d_D_readChoice_65 rfl ?_
          refine CV_V (av := [.int (nI 22)]) d_D_readChoice_67 s_D_84 (M_rcv rfl (by decide) rfl) (S_D_expect_d hY9 hD9 (show 22 < 46 by omega)) (by omega) rfl rfl (Nat.le_of_ble_eq_true rfl) ?_
          refine J_aload_n (i := 0) d_D_readChoice_70 rfl rfl ?_
          refine M_getI (b := T) d_D_readChoice_71 f_D_34 rfl rfl hD9.1.2.2 ?_
          refine J_iload_n (i := 3) d_D_readChoice_74 rfl rfl ?_
          refine J_aload_n (i := 0) d_D_readChoice_75 rfl rfl ?_
          refine M_getI (b := T) d_D_readChoice_76 f_D_34 rfl rfl hD9.1.2.2 ?_
          obtain ⟨cl10, hcm10, hcx10⟩ := hD9.2.2.2.2.2.2
          refine M_get (x := (nI cl10)) d_D_readChoice_79 f_D_90 hkT rfl hcx10 ?_
          refine M_callV (av := [.int (nI (min cd6 299)), .int (nI cl10)]) d_D_readChoice_82 s_D_154 (M_rcv hkT (by decide) rfl) (S_T_aim_d hY9 hkT (show (min cd6 299) < 300 by omega)) (by omega) rfl rfl (Nat.le_of_ble_eq_true rfl) (fun r11 Y11 hq11 => ?_)
          obtain ⟨rfl, v11, rfl⟩ := hq11
          have hD11 := am_Dd (l := ((Y9.2.1 (T + 1)).set (min cd6 299) v11)) hD9
          refine M_vr d_D_readChoice_85 rfl ?_
          have e : pIfB (tkT B) pe ps j = .inl (1, q4.1) := by simp only [pIfB, bnd_r, bnd_l, hr1, ex_t hx2, hr4, ex_f hx5]
          rw [e]
          exact ⟨rfl, (am_Ok hY9 hkT), (offL_t (offL_t (offL_t (offL_t (offL_t (offL_t (offL_t (offL_t (offL_t (offL_0 T X) ho1) (ad_off (j := q1.1))) wr_off) ho4) rf_off) wr_off) am_off) ho9) am_off), hD11⟩
    · rw [show exX Y1 B q1.1 20 = rfX Y1 1 (stT B q1.1) from if_neg hx2]
      have hD2 := rf_Dd (f := 1) (p := stT B q1.1) hL1 (by decide) (by decide)
      refine J_aload_n (i := 0) d_D_readChoice_11 rfl rfl ?_
      refine M_getI (b := T) d_D_readChoice_12 f_D_34 rfl rfl hD2.1.2.2 ?_
      refine J_bipush (v := nI 20) d_D_readChoice_15 rfl ?_
      refine J_iconst (v := nI 0) d_D_readChoice_17 rfl ?_
      obtain ⟨cd3, hcd3, hce3⟩ := hD2.2.2.2.2.2.2
      refine CV_N (av := [.int (nI 20), .int (nI 0)]) d_D_readChoice_18 s_D_136 (M_rcv hD2.1.2.1 (by decide) rfl) (S_T_write (rf_Ok hY1) hD2.1.2.1 hce3 hcd3) (by omega) rfl rfl (Nat.le_of_ble_eq_true rfl) ?_
      have hD3 := wr_Dd (x := 0 * 64 + 20) hD2 hce3 hcd3
      refine J_istore_n (i := 2) (L1 := [some (.ref 11), some (.int (nI oo)), some (.int (nI (min cd3 299))), none]) d_D_readChoice_21 rfl (by decide) rfl ?_
      refine J_aload_n (i := 0) d_D_readChoice_22 rfl rfl ?_
      refine J_iload_n (i := 1) d_D_readChoice_23 rfl rfl ?_
      refine M_callV (av := [.int (nI oo)]) d_D_readChoice_24 s_D_93 (M_rcv rfl (by decide) rfl) (S_D_readSum_d (wr_Ok (rf_Ok hY1) hD2.1.2.1) hD3) (by omega) rfl rfl (Nat.le_of_ble_eq_true rfl) (fun r4 Y4 hq4 => ?_)
      obtain ⟨rfl, hY4, ho4, hD4⟩ := hq4
      refine J_aload_n (i := 0) d_D_readChoice_27 rfl rfl ?_
      refine J_bipush (v := nI 21) d_D_readChoice_28 rfl ?_
      refine CV_V (av := [.int (nI 21)]) d_D_readChoice_30 s_D_84 (M_rcv rfl (by decide) rfl) (S_D_expect_d hY4 hD4 (show 21 < 46 by omega)) (by omega) rfl rfl (Nat.le_of_ble_eq_true rfl) ?_
      refine J_aload_n (i := 0) d_D_readChoice_33 rfl rfl ?_
      refine M_getI (b := T) d_D_readChoice_34 f_D_34 rfl rfl hD4.1.2.2 ?_
      refine J_bipush (v := nI 21) d_D_readChoice_37 rfl ?_
      refine J_iconst (v := nI 0) d_D_readChoice_39 rfl ?_
      obtain ⟨cd5, hcd5, hce5⟩ := hD4.2.2.2.2.2.2
      refine CV_N (av := [.int (nI 21), .int (nI 0)]) d_D_readChoice_40 s_D_136 (M_rcv hD4.1.2.1 (by decide) rfl) (S_T_write hY4 hD4.1.2.1 hce5 hcd5) (by omega) rfl rfl (Nat.le_of_ble_eq_true rfl) ?_
      have hD5 := wr_Dd (x := 0 * 64 + 21) hD4 hce5 hcd5
      refine J_istore_n (i := 3) (L1 := [some (.ref 11), some (.int (nI oo)), some (.int (nI (min cd3 299))), some (.int (nI (min cd5 299)))]) d_D_readChoice_43 rfl (by decide) rfl ?_
      refine J_aload_n (i := 0) d_D_readChoice_44 rfl rfl ?_
      refine M_getI (b := T) d_D_readChoice_45 f_D_34 rfl rfl hD5.1.2.2 ?_
      refine J_iload_n (i := 2) d_D_readChoice_48 rfl rfl ?_
      refine J_aload_n (i := 0) d_D_readChoice_49 rfl rfl ?_
      refine M_getI (b := T) d_D_readChoice_50 f_D_34 rfl rfl hD5.1.2.2 ?_
      obtain ⟨cl6, hcm6, hcx6⟩ := hD5.2.2.2.2.2.2
      refine M_get (x := (nI cl6)) d_D_readChoice_53 f_D_90 hkT rfl hcx6 ?_
      refine M_callV (av := [.int (nI (min cd3 299)), .int (nI cl6)]) d_D_readChoice_56 s_D_154 (M_rcv hkT (by decide) rfl) (S_T_aim_d (wr_Ok hY4 hD4.1.2.1) hkT (show (min cd3 299) < 300 by omega)) (by omega) rfl rfl (Nat.le_of_ble_eq_true rfl) (fun r7 Y7 hq7 => ?_)
      obtain ⟨rfl, v7, rfl⟩ := hq7
      have hD7 := am_Dd (l := (((wrX Y4 T cd5 (0 * 64 + 21)).2.1 (T + 1)).set (min cd3 299) v7)) hD5
      refine J_aload_n (i := 0) d_D_readChoice_59 rfl rfl ?_
      refine J_iload_n (i := 1) d_D_readChoice_60 rfl rfl ?_
      refine M_callV (av := [.int (nI oo)]) d_D_readChoice_61 s_D_93 (M_rcv rfl (by decide) rfl) (S_D_readSum_d (am_Ok (wr_Ok hY4 hD4.1.2.1) hkT) hD7) (by omega) rfl rfl (Nat.le_of_ble_eq_true rfl) (fun r8 Y8 hq8 => ?_)
      obtain ⟨rfl, hY8, ho8, hD8⟩ := hq8
      refine J_aload_n (i := 0) d_D_readChoice_64 rfl rfl ?_
      refine J_bipush (v := nI 22) d_D_readChoice_65 rfl ?_
      refine CV_V (av := [.int (nI 22)]) d_D_readChoice_67 s_D_84 (M_rcv rfl (by decide) rfl) (S_D_expect_d hY8 hD8 (show 22 < 46 by omega)) (by omega) rfl rfl (Nat.le_of_ble_eq_true rfl) ?_
      refine J_aload_n (i := 0) d_D_readChoice_70 rfl rfl ?_
      refine M_getI (b := T) d_D_readChoice_71 f_D_34 rfl rfl hD8.1.2.2 ?_
      refine J_iload_n (i := 3) d_D_readChoice_74 rfl rfl ?_
      refine J_aload_n (i := 0) d_D_readChoice_75 rfl rfl ?_
      refine M_getI (b := T) d_D_readChoice_76 f_D_34 rfl rfl hD8.1.2.2 ?_
      obtain ⟨cl9, hcm9, hcx9⟩ := hD8.2.2.2.2.2.2
      refine M_get (x := (nI cl9)) d_D_readChoice_79 f_D_90 hkT rfl hcx9 ?_
      refine M_callV (av := [.int (nI (min cd5 299)), .int (nI cl9)]) d_D_readChoice_82 s_D_154 (M_rcv hkT (by decide) rfl) (S_T_aim_d hY8 hkT (show (min cd5 299) < 300 by omega)) (by omega) rfl rfl (Nat.le_of_ble_eq_true rfl) (fun r10 Y10 hq10 => ?_)
      obtain ⟨rfl, v10, rfl⟩ := hq10
      have hD10 := am_Dd (l := ((Y8.2.1 (T + 1)).set (min cd5 299) v10)) hD8
      refine M_vr d_D_readChoice_85 rfl ?_
      have e : pIfB (tkT B) pe ps j = .inl (1, q1.1) := by simp only [pIfB, bnd_r, bnd_l, hr1, ex_f hx2]
      rw [e]
      exact ⟨rfl, (am_Ok hY8 hkT), (offL_t (offL_t (offL_t (offL_t (offL_t (offL_t (offL_t (offL_t (offL_0 T X) ho1) rf_off) wr_off) ho4) wr_off) am_off) ho8) am_off), hD10⟩

def fAskB (T : TS) (ps : Nat → PR SVl) (pn : Nat → PR SBl) (j : Nat) : PR SBl := if T.1 j = 25 then pn j else bnd (ps j) (fun j2 v => if cmpB (T.1 j2) then bnd (ps (j2 + 1)) (fun j3 v2 => .inr (j3, fun e => cp2 (cpK (T.1 j2)) (v e) (v2 e))) else .inl (1, j2))
def fNot (T : TS) (sub : Option (Nat → PR SBl)) (j : Nat) : PR SBl := match sub with
  | none => .inl (3, j)
  | some a => bnd (a (j + 1)) (fun j2 b => .inr (j2, fun e => !(b e)))
theorem fAsk_B (T : TS) (one : Nat → PR SVl) (sub : Option (Nat → PR SBl)) : fAsk T one sub = fAskB T (pSum T one) (fNot T sub) := by
  refine funext fun j => ?_
  unfold fAsk fAskB fNot
  cases sub <;> rfl
theorem fAskB_n {B : Nat → Nat} {ps : Nat → PR SVl} {pn : Nat → PR SBl} {j : Nat} (h : tk_ B j = 25) : fAskB (tkT B) ps pn j = pn j := if_pos h
theorem fAskB_s {B : Nat → Nat} {ps : Nat → PR SVl} {pn : Nat → PR SBl} {j : Nat} (h : ¬ tk_ B j = 25) : fAskB (tkT B) ps pn j = bnd (ps j) (fun j2 v => if cmpB (tk_ B j2) then bnd (ps (j2 + 1)) (fun j3 v2 => .inr (j3, fun e => cp2 (cpK (tk_ B j2)) (v e) (v2 e))) else .inl (1, j2)) := if_neg h
theorem cmp_t {k : Nat} : cmpB k = true ↔ (32 ≤ k ∧ k ≤ 35) ∨ k = 43 ∨ k = 44 := by
  unfold cmpB
  simp only [Bool.or_eq_true, Bool.and_eq_true, decide_eq_true_eq]
theorem S_D_readAsk {B : Nat → Nat} {N T dd dn ds oo : Nat} {w : Bool} {pn : Nat → PR SBl} {ps : Nat → PR SVl} (hNo : CNot dn oo B N T w pn) (hS : CSum ds oo B N T w ps) (h1 : dn < dd) (h2 : ds < dd) (h3 : 2 ≤ dd) : CAsk dd oo B N T w (fAskB (tkT B) ps pn) := by
  intro X j c hX hL hcj
  have hkT := hL.1.2.1
  have h300 := hL.1.1.1
  have hjN := hL.2.1
  have hlt := tk_lt B j
  have hjl := Lv_N hL
  refine CM_of (L := [some (.ref 11), some (.int (nI oo)), none]) 1 ok_D_readAsk (fun _ => Nat.le_of_ble_eq_true rfl) rfl ?_
  refine J_aload_n (i := 0) d_D_readAsk_0 rfl rfl ?_
  refine M_get (x := (nI (tk_ B j))) d_D_readAsk_1 f_D_32 rfl rfl hL.2.2.2.1 ?_
  refine J_bipush (v := nI 25) d_D_readAsk_4 rfl ?_
  refine N_icmp_ne (tgt := 15) d_D_readAsk_6 (by decide) (by omega) (by omega) (fun c6 => ?_) (fun c6 => ?_)
  · refine J_aload_n (i := 0) d_D_readAsk_15 rfl rfl ?_
    refine J_iload_n (i := 1) d_D_readAsk_16 rfl rfl ?_
    refine M_callV (av := [.int (nI oo)]) d_D_readAsk_17 s_D_93 (M_rcv rfl (by decide) rfl) (hS _ _ _ hX hL (by omega)) (by omega) rfl rfl (Nat.le_of_ble_eq_true rfl) (fun r1 Y1 hq1 => ?_)
    obtain ⟨rfl, hq1⟩ := hq1
    rcases hr1 : ps j with q1 | q1
    · rw [hr1] at hq1
      obtain ⟨hY1, ho1, hD1⟩ := hq1
      have hD1 : Dd Y1 B N T q1.1 (stT B q1.2) := hD1
      have hf1 := hD1.2.2.2.2.1
      refine J_aload_n (i := 0) d_D_readAsk_20 rfl rfl ?_
      refine M_get (x := (nI 47)) d_D_readAsk_21 f_D_32 rfl rfl hD1.2.2.1 ?_
      refine J_istore_n (i := 2) (L1 := [some (.ref 11), some (.int (nI oo)), some (.int (nI 47))]) d_D_readAsk_24 rfl (by decide) rfl ?_
      refine J_iload_n (i := 2) d_D_readAsk_25 rfl rfl ?_
      refine J_bipush (v := nI 32) d_D_readAsk_26 rfl ?_
      refine N_icmp_lt (tgt := 37) d_D_readAsk_28 (by decide) (by omega) (by omega) (fun c28 => absurd c28 (by decide)) (fun c28 => ?_)
      refine J_iload_n (i := 2) d_D_readAsk_31 rfl rfl ?_
      refine J_bipush (v := nI 35) d_D_readAsk_32 rfl ?_
      refine N_icmp_le (tgt := 49) d_D_readAsk_34 (by decide) (by omega) (by omega) (fun c34 => absurd c34 (by decide)) (fun c34 => ?_)
      refine J_iload_n (i := 2) d_D_readAsk_37 rfl rfl ?_
      refine J_bipush (v := nI 43) d_D_readAsk_38 rfl ?_
      refine N_icmp_eq (tgt := 49) d_D_readAsk_40 (by decide) (by omega) (by omega) (fun c40 => absurd c40 (by decide)) (fun c40 => ?_)
      refine J_iload_n (i := 2) d_D_readAsk_43 rfl rfl ?_
      refine J_bipush (v := nI 44) d_D_readAsk_44 rfl ?_
      refine N_icmp_ne (tgt := 71) d_D_readAsk_46 (by decide) (by omega) (by omega) (fun c46 => ?_) (fun c46 => absurd c46 (by decide))
      refine J_aload_n (i := 0) d_D_readAsk_71 rfl rfl ?_
      refine J_iconst (v := nI 1) d_D_readAsk_72 rfl ?_
      refine CV_V (av := [.int (nI 1)]) d_D_readAsk_73 s_D_57 (M_rcv rfl (by decide) rfl) (S_D_refuse_d hY1 hD1) (by omega) rfl rfl (Nat.le_of_ble_eq_true rfl) ?_
      refine M_vr d_D_readAsk_76 rfl ?_
      have e : fAskB (tkT B) ps pn j = .inl q1 := by rw [fAskB_s c6, hr1]; rfl
      rw [e]
      exact ⟨rfl, hY1, (offL_t (offL_0 T X) ho1), hD1⟩
    · rw [hr1] at hq1
      obtain ⟨hY1, ho1, c1, hL1, la1, lb1, lc1, hcl1, hG1⟩ := hq1
      have hN1 := hL1.2.1
      have hlt1 := tk_lt B q1.1
      have hjl1 := Lv_N hL1
      refine J_aload_n (i := 0) d_D_readAsk_20 rfl rfl ?_
      refine M_get (x := (nI (tk_ B q1.1))) d_D_readAsk_21 f_D_32 rfl rfl hL1.2.2.2.1 ?_
      refine J_istore_n (i := 2) (L1 := [some (.ref 11), some (.int (nI oo)), some (.int (nI (tk_ B q1.1)))]) d_D_readAsk_24 rfl (by decide) rfl ?_
      refine J_iload_n (i := 2) d_D_readAsk_25 rfl rfl ?_
      refine J_bipush (v := nI 32) d_D_readAsk_26 rfl ?_
      refine N_icmp_lt (tgt := 37) d_D_readAsk_28 (by decide) (by omega) (by omega) (fun c28 => ?_) (fun c28 => ?_)
      · refine J_iload_n (i := 2) d_D_readAsk_37 rfl rfl ?_
        refine J_bipush (v := nI 43) d_D_readAsk_38 rfl ?_
        refine N_icmp_eq (tgt := 49) d_D_readAsk_40 (by decide) (by omega) (by omega) (fun c40 => ?_) (fun c40 => ?_)
        · refine J_aload_n (i := 0) d_D_readAsk_49 rfl rfl ?_
          refine CV_V (av := []) d_D_readAsk_50 s_D_54 (M_rcv rfl (by decide) rfl) (S_D_advance hY1 hL1 (show tk_ B q1.1 ≠ 46 by omega)) (by omega) rfl rfl (Nat.le_of_ble_eq_true rfl) ?_
          have hL2 := ad_Lv hL1 (show tk_ B q1.1 ≠ 46 by omega)
          refine J_aload_n (i := 0) d_D_readAsk_53 rfl rfl ?_
          refine J_iload_n (i := 1) d_D_readAsk_54 rfl rfl ?_
          refine M_callV (av := [.int (nI oo)]) d_D_readAsk_55 s_D_93 (M_rcv rfl (by decide) rfl) (hS _ _ _ (ad_Ok hY1) hL2 (by omega)) (by omega) rfl rfl (Nat.le_of_ble_eq_true rfl) (fun r3 Y3 hq3 => ?_)
          obtain ⟨rfl, hq3⟩ := hq3
          rcases hr3 : ps (q1.1 + 1) with q3 | q3
          · rw [hr3] at hq3
            obtain ⟨hY3, ho3, hD3⟩ := hq3
            have hD3 : Dd Y3 B N T q3.1 (stT B q3.2) := hD3
            have hf3 := hD3.2.2.2.2.1
            refine J_aload_n (i := 0) d_D_readAsk_58 rfl rfl ?_
            refine M_getI (b := T) d_D_readAsk_59 f_D_34 rfl rfl hD3.1.2.2 ?_
            refine J_iload_n (i := 2) d_D_readAsk_62 rfl rfl ?_
            refine J_iconst (v := nI 0) d_D_readAsk_63 rfl ?_
            obtain ⟨cd4, hcd4, hce4⟩ := hD3.2.2.2.2.2.2
            refine CV_N (av := [.int (nI (tk_ B q1.1)), .int (nI 0)]) d_D_readAsk_64 s_D_136 (M_rcv hD3.1.2.1 (by decide) rfl) (S_T_write hY3 hD3.1.2.1 hce4 hcd4) (by omega) rfl rfl (Nat.le_of_ble_eq_true rfl) ?_
            have hD4 := wr_Dd (x := 0 * 64 + (tk_ B q1.1)) hD3 hce4 hcd4
            refine J_pop d_D_readAsk_67 rfl ?_
            refine J_goto (tgt := 76) d_D_readAsk_68 (by decide) ?_
            refine M_vr d_D_readAsk_76 rfl ?_
            have hc : cmpB (tk_ B q1.1) = true := cmp_t.mpr (by omega)
            have e : fAskB (tkT B) ps pn j = .inl q3 := by rw [fAskB_s c6, hr1, bnd_r, hc, if_pos rfl, hr3]; rfl
            rw [e]
            exact ⟨rfl, (wr_Ok hY3 hD3.1.2.1), (offL_t (offL_t (offL_t (offL_t (offL_0 T X) ho1) (ad_off (j := q1.1))) ho3) wr_off), hD4⟩
          · rw [hr3] at hq3
            obtain ⟨hY3, ho3, c3, hL3, la3, lb3, lc3, hcl3, hG3⟩ := hq3
            have hN3 := hL3.2.1
            have hlt3 := tk_lt B q3.1
            have hjl3 := Lv_N hL3
            refine J_aload_n (i := 0) d_D_readAsk_58 rfl rfl ?_
            refine M_getI (b := T) d_D_readAsk_59 f_D_34 rfl rfl hL3.1.2.2 ?_
            refine J_iload_n (i := 2) d_D_readAsk_62 rfl rfl ?_
            refine J_iconst (v := nI 0) d_D_readAsk_63 rfl ?_
            refine CV_N (av := [.int (nI (tk_ B q1.1)), .int (nI 0)]) d_D_readAsk_64 s_D_136 (M_rcv hL3.1.2.1 (by decide) rfl) (S_T_write hY3 hL3.1.2.1 hL3.2.2.2.2.2.2.1 hL3.2.2.2.2.2.2.2.1) (by omega) rfl rfl (Nat.le_of_ble_eq_true rfl) ?_
            obtain ⟨hL4, hw4⟩ := wr_Lv (x := 0 * 64 + (tk_ B q1.1)) hL3 (show c3 < 300 by omega)
            rw [show min c3 299 = c3 by omega]
            refine J_pop d_D_readAsk_67 rfl ?_
            refine J_goto (tgt := 76) d_D_readAsk_68 (by decide) ?_
            refine M_vr d_D_readAsk_76 rfl ?_
            have hc : cmpB (tk_ B q1.1) = true := cmp_t.mpr (by omega)
            have e : fAskB (tkT B) ps pn j = .inr (q3.1, fun e => cp2 (cpK (tk_ B q1.1)) (q1.2 e) (q3.2 e)) := by rw [fAskB_s c6, hr1, bnd_r, hc, if_pos rfl, hr3]; rfl
            rw [e]
            have hw := wr_cell (x := 0 * 64 + tk_ B q1.1) (c := c3) hY3 hkT (by omega)
            refine ⟨rfl, (wr_Ok hY3 hL3.1.2.1), (offL_t (offL_t (offL_t (offL_t (offL_0 T X) ho1) (ad_off (j := q1.1))) ho3) wr_off), c3 + 1, hL4, by omega, by omega, by omega, fun p hp => (hw.1 p (by omega)).trans ((hcl3 p (by omega)).trans (hcl1 p hp)), GB_cmp hG1 hG3 (by omega) (by omega) (fun p h1 h2 => (hw.1 p (by omega)).trans (hcl3 p (by omega))) (fun p h1 h2 => hw.1 p h2) hw.2 hc⟩
        · refine J_iload_n (i := 2) d_D_readAsk_43 rfl rfl ?_
          refine J_bipush (v := nI 44) d_D_readAsk_44 rfl ?_
          refine N_icmp_ne (tgt := 71) d_D_readAsk_46 (by decide) (by omega) (by omega) (fun c46 => ?_) (fun c46 => ?_)
          · refine J_aload_n (i := 0) d_D_readAsk_71 rfl rfl ?_
            refine J_iconst (v := nI 1) d_D_readAsk_72 rfl ?_
            refine CV_V (av := [.int (nI 1)]) d_D_readAsk_73 s_D_57 (M_rcv rfl (by decide) rfl) (S_D_refuse hY1 hL1) (by omega) rfl rfl (Nat.le_of_ble_eq_true rfl) ?_
            have hD2 := rf_Dd (f := 1) (p := stT B q1.1) hL1 (by decide) (by decide)
            refine M_vr d_D_readAsk_76 rfl ?_
            have hc : cmpB (tk_ B q1.1) = false := fls (fun z => by have := cmp_t.mp z; omega)
            have e : fAskB (tkT B) ps pn j = .inl (1, q1.1) := by rw [fAskB_s c6, hr1, bnd_r, hc]; rfl
            rw [e]
            exact ⟨rfl, (rf_Ok hY1), (offL_t (offL_t (offL_0 T X) ho1) rf_off), hD2⟩
          · refine J_aload_n (i := 0) d_D_readAsk_49 rfl rfl ?_
            refine CV_V (av := []) d_D_readAsk_50 s_D_54 (M_rcv rfl (by decide) rfl) (S_D_advance hY1 hL1 (show tk_ B q1.1 ≠ 46 by omega)) (by omega) rfl rfl (Nat.le_of_ble_eq_true rfl) ?_
            have hL2 := ad_Lv hL1 (show tk_ B q1.1 ≠ 46 by omega)
            refine J_aload_n (i := 0) d_D_readAsk_53 rfl rfl ?_
            refine J_iload_n (i := 1) d_D_readAsk_54 rfl rfl ?_
            refine M_callV (av := [.int (nI oo)]) d_D_readAsk_55 s_D_93 (M_rcv rfl (by decide) rfl) (hS _ _ _ (ad_Ok hY1) hL2 (by omega)) (by omega) rfl rfl (Nat.le_of_ble_eq_true rfl) (fun r3 Y3 hq3 => ?_)
            obtain ⟨rfl, hq3⟩ := hq3
            rcases hr3 : ps (q1.1 + 1) with q3 | q3
            · rw [hr3] at hq3
              obtain ⟨hY3, ho3, hD3⟩ := hq3
              have hD3 : Dd Y3 B N T q3.1 (stT B q3.2) := hD3
              have hf3 := hD3.2.2.2.2.1
              refine J_aload_n (i := 0) d_D_readAsk_58 rfl rfl ?_
              refine M_getI (b := T) d_D_readAsk_59 f_D_34 rfl rfl hD3.1.2.2 ?_
              refine J_iload_n (i := 2) d_D_readAsk_62 rfl rfl ?_
              refine J_iconst (v := nI 0) d_D_readAsk_63 rfl ?_
              obtain ⟨cd4, hcd4, hce4⟩ := hD3.2.2.2.2.2.2
              refine CV_N (av := [.int (nI (tk_ B q1.1)), .int (nI 0)]) d_D_readAsk_64 s_D_136 (M_rcv hD3.1.2.1 (by decide) rfl) (S_T_write hY3 hD3.1.2.1 hce4 hcd4) (by omega) rfl rfl (Nat.le_of_ble_eq_true rfl) ?_
              have hD4 := wr_Dd (x := 0 * 64 + (tk_ B q1.1)) hD3 hce4 hcd4
              refine J_pop d_D_readAsk_67 rfl ?_
              refine J_goto (tgt := 76) d_D_readAsk_68 (by decide) ?_
              refine M_vr d_D_readAsk_76 rfl ?_
              have hc : cmpB (tk_ B q1.1) = true := cmp_t.mpr (by omega)
              have e : fAskB (tkT B) ps pn j = .inl q3 := by rw [fAskB_s c6, hr1, bnd_r, hc, if_pos rfl, hr3]; rfl
              rw [e]
              exact ⟨rfl, (wr_Ok hY3 hD3.1.2.1), (offL_t (offL_t (offL_t (offL_t (offL_0 T X) ho1) (ad_off (j := q1.1))) ho3) wr_off), hD4⟩
            · rw [hr3] at hq3
              obtain ⟨hY3, ho3, c3, hL3, la3, lb3, lc3, hcl3, hG3⟩ := hq3
              have hN3 := hL3.2.1
              have hlt3 := tk_lt B q3.1
              have hjl3 := Lv_N hL3
              refine J_aload_n (i := 0) d_D_readAsk_58 rfl rfl ?_
              refine M_getI (b := T) d_D_readAsk_59 f_D_34 rfl rfl hL3.1.2.2 ?_
              refine J_iload_n (i := 2) d_D_readAsk_62 rfl rfl ?_
              refine J_iconst (v := nI 0) d_D_readAsk_63 rfl ?_
              refine CV_N (av := [.int (nI (tk_ B q1.1)), .int (nI 0)]) d_D_readAsk_64 s_D_136 (M_rcv hL3.1.2.1 (by decide) rfl) (S_T_write hY3 hL3.1.2.1 hL3.2.2.2.2.2.2.1 hL3.2.2.2.2.2.2.2.1) (by omega) rfl rfl (Nat.le_of_ble_eq_true rfl) ?_
              obtain ⟨hL4, hw4⟩ := wr_Lv (x := 0 * 64 + (tk_ B q1.1)) hL3 (show c3 < 300 by omega)
              rw [show min c3 299 = c3 by omega]
              refine J_pop d_D_readAsk_67 rfl ?_
              refine J_goto (tgt := 76) d_D_readAsk_68 (by decide) ?_
              refine M_vr d_D_readAsk_76 rfl ?_
              have hc : cmpB (tk_ B q1.1) = true := cmp_t.mpr (by omega)
              have e : fAskB (tkT B) ps pn j = .inr (q3.1, fun e => cp2 (cpK (tk_ B q1.1)) (q1.2 e) (q3.2 e)) := by rw [fAskB_s c6, hr1, bnd_r, hc, if_pos rfl, hr3]; rfl
              rw [e]
              have hw := wr_cell (x := 0 * 64 + tk_ B q1.1) (c := c3) hY3 hkT (by omega)
              refine ⟨rfl, (wr_Ok hY3 hL3.1.2.1), (offL_t (offL_t (offL_t (offL_t (offL_0 T X) ho1) (ad_off (j := q1.1))) ho3) wr_off), c3 + 1, hL4, by omega, by omega, by omega, fun p hp => (hw.1 p (by omega)).trans ((hcl3 p (by omega)).trans (hcl1 p hp)), GB_cmp hG1 hG3 (by omega) (by omega) (fun p h1 h2 => (hw.1 p (by omega)).trans (hcl3 p (by omega))) (fun p h1 h2 => hw.1 p h2) hw.2 hc⟩
      · refine J_iload_n (i := 2) d_D_readAsk_31 rfl rfl ?_
        refine J_bipush (v := nI 35) d_D_readAsk_32 rfl ?_
        refine N_icmp_le (tgt := 49) d_D_readAsk_34 (by decide) (by omega) (by omega) (fun c34 => ?_) (fun c34 => ?_)
        · refine J_aload_n (i := 0) d_D_readAsk_49 rfl rfl ?_
          refine CV_V (av := []) d_D_readAsk_50 s_D_54 (M_rcv rfl (by decide) rfl) (S_D_advance hY1 hL1 (show tk_ B q1.1 ≠ 46 by omega)) (by omega) rfl rfl (Nat.le_of_ble_eq_true rfl) ?_
          have hL2 := ad_Lv hL1 (show tk_ B q1.1 ≠ 46 by omega)
          refine J_aload_n (i := 0) d_D_readAsk_53 rfl rfl ?_
          refine J_iload_n (i := 1) d_D_readAsk_54 rfl rfl ?_
          refine M_callV (av := [.int (nI oo)]) d_D_readAsk_55 s_D_93 (M_rcv rfl (by decide) rfl) (hS _ _ _ (ad_Ok hY1) hL2 (by omega)) (by omega) rfl rfl (Nat.le_of_ble_eq_true rfl) (fun r3 Y3 hq3 => ?_)
          obtain ⟨rfl, hq3⟩ := hq3
          rcases hr3 : ps (q1.1 + 1) with q3 | q3
          · rw [hr3] at hq3
            obtain ⟨hY3, ho3, hD3⟩ := hq3
            have hD3 : Dd Y3 B N T q3.1 (stT B q3.2) := hD3
            have hf3 := hD3.2.2.2.2.1
            refine J_aload_n (i := 0) d_D_readAsk_58 rfl rfl ?_
            refine M_getI (b := T) d_D_readAsk_59 f_D_34 rfl rfl hD3.1.2.2 ?_
            refine J_iload_n (i := 2) d_D_readAsk_62 rfl rfl ?_
            refine J_iconst (v := nI 0) d_D_readAsk_63 rfl ?_
            obtain ⟨cd4, hcd4, hce4⟩ := hD3.2.2.2.2.2.2
            refine CV_N (av := [.int (nI (tk_ B q1.1)), .int (nI 0)]) d_D_readAsk_64 s_D_136 (M_rcv hD3.1.2.1 (by decide) rfl) (S_T_write hY3 hD3.1.2.1 hce4 hcd4) (by omega) rfl rfl (Nat.le_of_ble_eq_true rfl) ?_
            have hD4 := wr_Dd (x := 0 * 64 + (tk_ B q1.1)) hD3 hce4 hcd4
            refine J_pop d_D_readAsk_67 rfl ?_
            refine J_goto (tgt := 76) d_D_readAsk_68 (by decide) ?_
            refine M_vr d_D_readAsk_76 rfl ?_
            have hc : cmpB (tk_ B q1.1) = true := cmp_t.mpr (by omega)
            have e : fAskB (tkT B) ps pn j = .inl q3 := by rw [fAskB_s c6, hr1, bnd_r, hc, if_pos rfl, hr3]; rfl
            rw [e]
            exact ⟨rfl, (wr_Ok hY3 hD3.1.2.1), (offL_t (offL_t (offL_t (offL_t (offL_0 T X) ho1) (ad_off (j := q1.1))) ho3) wr_off), hD4⟩
          · rw [hr3] at hq3
            obtain ⟨hY3, ho3, c3, hL3, la3, lb3, lc3, hcl3, hG3⟩ := hq3
            have hN3 := hL3.2.1
            have hlt3 := tk_lt B q3.1
            have hjl3 := Lv_N hL3
            refine J_aload_n (i := 0) d_D_readAsk_58 rfl rfl ?_
            refine M_getI (b := T) d_D_readAsk_59 f_D_34 rfl rfl hL3.1.2.2 ?_
            refine J_iload_n (i := 2) d_D_readAsk_62 rfl rfl ?_
            refine J_iconst (v := nI 0) d_D_readAsk_63 rfl ?_
            refine CV_N (av := [.int (nI (tk_ B q1.1)), .int (nI 0)]) d_D_readAsk_64 s_D_136 (M_rcv hL3.1.2.1 (by decide) rfl) (S_T_write hY3 hL3.1.2.1 hL3.2.2.2.2.2.2.1 hL3.2.2.2.2.2.2.2.1) (by omega) rfl rfl (Nat.le_of_ble_eq_true rfl) ?_
            obtain ⟨hL4, hw4⟩ := wr_Lv (x := 0 * 64 + (tk_ B q1.1)) hL3 (show c3 < 300 by omega)
            rw [show min c3 299 = c3 by omega]
            refine J_pop d_D_readAsk_67 rfl ?_
            refine J_goto (tgt := 76) d_D_readAsk_68 (by decide) ?_
            refine M_vr d_D_readAsk_76 rfl ?_
            have hc : cmpB (tk_ B q1.1) = true := cmp_t.mpr (by omega)
            have e : fAskB (tkT B) ps pn j = .inr (q3.1, fun e => cp2 (cpK (tk_ B q1.1)) (q1.2 e) (q3.2 e)) := by rw [fAskB_s c6, hr1, bnd_r, hc, if_pos rfl, hr3]; rfl
            rw [e]
            have hw := wr_cell (x := 0 * 64 + tk_ B q1.1) (c := c3) hY3 hkT (by omega)
            refine ⟨rfl, (wr_Ok hY3 hL3.1.2.1), (offL_t (offL_t (offL_t (offL_t (offL_0 T X) ho1) (ad_off (j := q1.1))) ho3) wr_off), c3 + 1, hL4, by omega, by omega, by omega, fun p hp => (hw.1 p (by omega)).trans ((hcl3 p (by omega)).trans (hcl1 p hp)), GB_cmp hG1 hG3 (by omega) (by omega) (fun p h1 h2 => (hw.1 p (by omega)).trans (hcl3 p (by omega))) (fun p h1 h2 => hw.1 p h2) hw.2 hc⟩
        · refine J_iload_n (i := 2) d_D_readAsk_37 rfl rfl ?_
          refine J_bipush (v := nI 43) d_D_readAsk_38 rfl ?_
          refine N_icmp_eq (tgt := 49) d_D_readAsk_40 (by decide) (by omega) (by omega) (fun c40 => ?_) (fun c40 => ?_)
          · refine J_aload_n (i := 0) d_D_readAsk_49 rfl rfl ?_
            refine CV_V (av := []) d_D_readAsk_50 s_D_54 (M_rcv rfl (by decide) rfl) (S_D_advance hY1 hL1 (show tk_ B q1.1 ≠ 46 by omega)) (by omega) rfl rfl (Nat.le_of_ble_eq_true rfl) ?_
            have hL2 := ad_Lv hL1 (show tk_ B q1.1 ≠ 46 by omega)
            refine J_aload_n (i := 0) d_D_readAsk_53 rfl rfl ?_
            refine J_iload_n (i := 1) d_D_readAsk_54 rfl rfl ?_
            refine M_callV (av := [.int (nI oo)]) d_D_readAsk_55 s_D_93 (M_rcv rfl (by decide) rfl) (hS _ _ _ (ad_Ok hY1) hL2 (by omega)) (by omega) rfl rfl (Nat.le_of_ble_eq_true rfl) (fun r3 Y3 hq3 => ?_)
            obtain ⟨rfl, hq3⟩ := hq3
            rcases hr3 : ps (q1.1 + 1) with q3 | q3
            · rw [hr3] at hq3
              obtain ⟨hY3, ho3, hD3⟩ := hq3
              have hD3 : Dd Y3 B N T q3.1 (stT B q3.2) := hD3
              have hf3 := hD3.2.2.2.2.1
              refine J_aload_n (i := 0) d_D_readAsk_58 rfl rfl ?_
              refine M_getI (b := T) d_D_readAsk_59 f_D_34 rfl rfl hD3.1.2.2 ?_
              refine J_iload_n (i := 2) d_D_readAsk_62 rfl rfl ?_
              refine J_iconst (v := nI 0) d_D_readAsk_63 rfl ?_
              obtain ⟨cd4, hcd4, hce4⟩ := hD3.2.2.2.2.2.2
              refine CV_N (av := [.int (nI (tk_ B q1.1)), .int (nI 0)]) d_D_readAsk_64 s_D_136 (M_rcv hD3.1.2.1 (by decide) rfl) (S_T_write hY3 hD3.1.2.1 hce4 hcd4) (by omega) rfl rfl (Nat.le_of_ble_eq_true rfl) ?_
              have hD4 := wr_Dd (x := 0 * 64 + (tk_ B q1.1)) hD3 hce4 hcd4
              refine J_pop d_D_readAsk_67 rfl ?_
              refine J_goto (tgt := 76) d_D_readAsk_68 (by decide) ?_
              refine M_vr d_D_readAsk_76 rfl ?_
              have hc : cmpB (tk_ B q1.1) = true := cmp_t.mpr (by omega)
              have e : fAskB (tkT B) ps pn j = .inl q3 := by rw [fAskB_s c6, hr1, bnd_r, hc, if_pos rfl, hr3]; rfl
              rw [e]
              exact ⟨rfl, (wr_Ok hY3 hD3.1.2.1), (offL_t (offL_t (offL_t (offL_t (offL_0 T X) ho1) (ad_off (j := q1.1))) ho3) wr_off), hD4⟩
            · rw [hr3] at hq3
              obtain ⟨hY3, ho3, c3, hL3, la3, lb3, lc3, hcl3, hG3⟩ := hq3
              have hN3 := hL3.2.1
              have hlt3 := tk_lt B q3.1
              have hjl3 := Lv_N hL3
              refine J_aload_n (i := 0) d_D_readAsk_58 rfl rfl ?_
              refine M_getI (b := T) d_D_readAsk_59 f_D_34 rfl rfl hL3.1.2.2 ?_
              refine J_iload_n (i := 2) d_D_readAsk_62 rfl rfl ?_
              refine J_iconst (v := nI 0) d_D_readAsk_63 rfl ?_
              refine CV_N (av := [.int (nI (tk_ B q1.1)), .int (nI 0)]) d_D_readAsk_64 s_D_136 (M_rcv hL3.1.2.1 (by decide) rfl) (S_T_write hY3 hL3.1.2.1 hL3.2.2.2.2.2.2.1 hL3.2.2.2.2.2.2.2.1) (by omega) rfl rfl (Nat.le_of_ble_eq_true rfl) ?_
              obtain ⟨hL4, hw4⟩ := wr_Lv (x := 0 * 64 + (tk_ B q1.1)) hL3 (show c3 < 300 by omega)
              rw [show min c3 299 = c3 by omega]
              refine J_pop d_D_readAsk_67 rfl ?_
              refine J_goto (tgt := 76) d_D_readAsk_68 (by decide) ?_
              refine M_vr d_D_readAsk_76 rfl ?_
              have hc : cmpB (tk_ B q1.1) = true := cmp_t.mpr (by omega)
              have e : fAskB (tkT B) ps pn j = .inr (q3.1, fun e => cp2 (cpK (tk_ B q1.1)) (q1.2 e) (q3.2 e)) := by rw [fAskB_s c6, hr1, bnd_r, hc, if_pos rfl, hr3]; rfl
              rw [e]
              have hw := wr_cell (x := 0 * 64 + tk_ B q1.1) (c := c3) hY3 hkT (by omega)
              refine ⟨rfl, (wr_Ok hY3 hL3.1.2.1), (offL_t (offL_t (offL_t (offL_t (offL_0 T X) ho1) (ad_off (j := q1.1))) ho3) wr_off), c3 + 1, hL4, by omega, by omega, by omega, fun p hp => (hw.1 p (by omega)).trans ((hcl3 p (by omega)).trans (hcl1 p hp)), GB_cmp hG1 hG3 (by omega) (by omega) (fun p h1 h2 => (hw.1 p (by omega)).trans (hcl3 p (by omega))) (fun p h1 h2 => hw.1 p h2) hw.2 hc⟩
          · refine J_iload_n (i := 2) d_D_readAsk_43 rfl rfl ?_
            refine J_bipush (v := nI 44) d_D_readAsk_44 rfl ?_
            refine N_icmp_ne (tgt := 71) d_D_readAsk_46 (by decide) (by omega) (by omega) (fun c46 => ?_) (fun c46 => ?_)
            · refine J_aload_n (i := 0) d_D_readAsk_71 rfl rfl ?_
              refine J_iconst (v := nI 1) d_D_readAsk_72 rfl ?_
              refine CV_V (av := [.int (nI 1)]) d_D_readAsk_73 s_D_57 (M_rcv rfl (by decide) rfl) (S_D_refuse hY1 hL1) (by omega) rfl rfl (Nat.le_of_ble_eq_true rfl) ?_
              have hD2 := rf_Dd (f := 1) (p := stT B q1.1) hL1 (by decide) (by decide)
              refine M_vr d_D_readAsk_76 rfl ?_
              have hc : cmpB (tk_ B q1.1) = false := fls (fun z => by have := cmp_t.mp z; omega)
              have e : fAskB (tkT B) ps pn j = .inl (1, q1.1) := by rw [fAskB_s c6, hr1, bnd_r, hc]; rfl
              rw [e]
              exact ⟨rfl, (rf_Ok hY1), (offL_t (offL_t (offL_0 T X) ho1) rf_off), hD2⟩
            · refine J_aload_n (i := 0) d_D_readAsk_49 rfl rfl ?_
              refine CV_V (av := []) d_D_readAsk_50 s_D_54 (M_rcv rfl (by decide) rfl) (S_D_advance hY1 hL1 (show tk_ B q1.1 ≠ 46 by omega)) (by omega) rfl rfl (Nat.le_of_ble_eq_true rfl) ?_
              have hL2 := ad_Lv hL1 (show tk_ B q1.1 ≠ 46 by omega)
              refine J_aload_n (i := 0) d_D_readAsk_53 rfl rfl ?_
              refine J_iload_n (i := 1) d_D_readAsk_54 rfl rfl ?_
              refine M_callV (av := [.int (nI oo)]) d_D_readAsk_55 s_D_93 (M_rcv rfl (by decide) rfl) (hS _ _ _ (ad_Ok hY1) hL2 (by omega)) (by omega) rfl rfl (Nat.le_of_ble_eq_true rfl) (fun r3 Y3 hq3 => ?_)
              obtain ⟨rfl, hq3⟩ := hq3
              rcases hr3 : ps (q1.1 + 1) with q3 | q3
              · rw [hr3] at hq3
                obtain ⟨hY3, ho3, hD3⟩ := hq3
                have hD3 : Dd Y3 B N T q3.1 (stT B q3.2) := hD3
                have hf3 := hD3.2.2.2.2.1
                refine J_aload_n (i := 0) d_D_readAsk_58 rfl rfl ?_
                refine M_getI (b := T) d_D_readAsk_59 f_D_34 rfl rfl hD3.1.2.2 ?_
                refine J_iload_n (i := 2) d_D_readAsk_62 rfl rfl ?_
                refine J_iconst (v := nI 0) d_D_readAsk_63 rfl ?_
                obtain ⟨cd4, hcd4, hce4⟩ := hD3.2.2.2.2.2.2
                refine CV_N (av := [.int (nI (tk_ B q1.1)), .int (nI 0)]) d_D_readAsk_64 s_D_136 (M_rcv hD3.1.2.1 (by decide) rfl) (S_T_write hY3 hD3.1.2.1 hce4 hcd4) (by omega) rfl rfl (Nat.le_of_ble_eq_true rfl) ?_
                have hD4 := wr_Dd (x := 0 * 64 + (tk_ B q1.1)) hD3 hce4 hcd4
                refine J_pop d_D_readAsk_67 rfl ?_
                refine J_goto (tgt := 76) d_D_readAsk_68 (by decide) ?_
                refine M_vr d_D_readAsk_76 rfl ?_
                have hc : cmpB (tk_ B q1.1) = true := cmp_t.mpr (by omega)
                have e : fAskB (tkT B) ps pn j = .inl q3 := by rw [fAskB_s c6, hr1, bnd_r, hc, if_pos rfl, hr3]; rfl
                rw [e]
                exact ⟨rfl, (wr_Ok hY3 hD3.1.2.1), (offL_t (offL_t (offL_t (offL_t (offL_0 T X) ho1) (ad_off (j := q1.1))) ho3) wr_off), hD4⟩
              · rw [hr3] at hq3
                obtain ⟨hY3, ho3, c3, hL3, la3, lb3, lc3, hcl3, hG3⟩ := hq3
                have hN3 := hL3.2.1
                have hlt3 := tk_lt B q3.1
                have hjl3 := Lv_N hL3
                refine J_aload_n (i := 0) d_D_readAsk_58 rfl rfl ?_
                refine M_getI (b := T) d_D_readAsk_59 f_D_34 rfl rfl hL3.1.2.2 ?_
                refine J_iload_n (i := 2) d_D_readAsk_62 rfl rfl ?_
                refine J_iconst (v := nI 0) d_D_readAsk_63 rfl ?_
                refine CV_N (av := [.int (nI (tk_ B q1.1)), .int (nI 0)]) d_D_readAsk_64 s_D_136 (M_rcv hL3.1.2.1 (by decide) rfl) (S_T_write hY3 hL3.1.2.1 hL3.2.2.2.2.2.2.1 hL3.2.2.2.2.2.2.2.1) (by omega) rfl rfl (Nat.le_of_ble_eq_true rfl) ?_
                obtain ⟨hL4, hw4⟩ := wr_Lv (x := 0 * 64 + (tk_ B q1.1)) hL3 (show c3 < 300 by omega)
                rw [show min c3 299 = c3 by omega]
                refine J_pop d_D_readAsk_67 rfl ?_
                refine J_goto (tgt := 76) d_D_readAsk_68 (by decide) ?_
                refine M_vr d_D_readAsk_76 rfl ?_
                have hc : cmpB (tk_ B q1.1) = true := cmp_t.mpr (by omega)
                have e : fAskB (tkT B) ps pn j = .inr (q3.1, fun e => cp2 (cpK (tk_ B q1.1)) (q1.2 e) (q3.2 e)) := by rw [fAskB_s c6, hr1, bnd_r, hc, if_pos rfl, hr3]; rfl
                rw [e]
                have hw := wr_cell (x := 0 * 64 + tk_ B q1.1) (c := c3) hY3 hkT (by omega)
                refine ⟨rfl, (wr_Ok hY3 hL3.1.2.1), (offL_t (offL_t (offL_t (offL_t (offL_0 T X) ho1) (ad_off (j := q1.1))) ho3) wr_off), c3 + 1, hL4, by omega, by omega, by omega, fun p hp => (hw.1 p (by omega)).trans ((hcl3 p (by omega)).trans (hcl1 p hp)), GB_cmp hG1 hG3 (by omega) (by omega) (fun p h1 h2 => (hw.1 p (by omega)).trans (hcl3 p (by omega))) (fun p h1 h2 => hw.1 p h2) hw.2 hc⟩
  · refine J_aload_n (i := 0) d_D_readAsk_9 rfl rfl ?_
    refine J_iload_n (i := 1) d_D_readAsk_10 rfl rfl ?_
    refine M_callV (av := [.int (nI oo)]) d_D_readAsk_11 s_D_163 (M_rcv rfl (by decide) rfl) (hNo _ _ _ hX hL hcj c6) (by omega) rfl rfl (Nat.le_of_ble_eq_true rfl) (fun r1 Y1 hq1 => ?_)
    obtain ⟨rfl, hq1⟩ := hq1
    refine M_vr d_D_readAsk_14 rfl ?_
    rw [fAskB_n c6]
    exact ⟨rfl, hq1⟩

theorem S_D_readNot_0 {B : Nat → Nat} {N T : Nat} {w : Bool} : CNot 1 8 B N T w (fNot (tkT B) none) := by
  intro X j c hX hL hcj h25
  have hkT := hL.1.2.1
  have h300 := hL.1.1.1
  have hjN := hL.2.1
  have hlt := tk_lt B j
  have hjl := Lv_N hL
  refine CM_of (L := [some (.ref 11), some (.int (nI 8))]) 0 ok_D_readNot (fun _ => Nat.le_of_ble_eq_true rfl) rfl ?_
  refine J_iload_n (i := 1) d_D_readNot_0 rfl rfl ?_
  refine J_bipush (v := nI 8) d_D_readNot_1 rfl ?_
  refine N_icmp_lt (tgt := 12) d_D_readNot_3 (by decide) (by omega) (by omega) (fun c3 => absurd c3 (by decide)) (fun c3 => ?_)
  refine J_aload_n (i := 0) d_D_readNot_6 rfl rfl ?_
  refine J_iconst (v := nI 3) d_D_readNot_7 rfl ?_
  refine CV_V (av := [.int (nI 3)]) d_D_readNot_8 s_D_57 (M_rcv rfl (by decide) rfl) (S_D_refuse hX hL) (by omega) rfl rfl (Nat.le_of_ble_eq_true rfl) ?_
  have hD1 := rf_Dd (f := 3) (p := stT B j) hL (by decide) (by decide)
  refine M_vr d_D_readNot_11 rfl ?_
  exact ⟨rfl, (rf_Ok hX), (offL_t (offL_0 T X) rf_off), hD1⟩

theorem S_D_readNot_1 {B : Nat → Nat} {N T da oo : Nat} {w : Bool} {pa : Nat → PR SBl} (hA : CAsk da (oo + 1) B N T w pa) (hd : 1 ≤ da) (ho : oo < 8) : CNot (da + 1) oo B N T w (fNot (tkT B) (some pa)) := by
  intro X j c hX hL hcj h25
  have hkT := hL.1.2.1
  have h300 := hL.1.1.1
  have hjN := hL.2.1
  have hlt := tk_lt B j
  have hjl := Lv_N hL
  refine CM_of (L := [some (.ref 11), some (.int (nI oo))]) 0 ok_D_readNot (fun _ => Nat.le_of_ble_eq_true rfl) rfl ?_
  refine J_iload_n (i := 1) d_D_readNot_0 rfl rfl ?_
  refine J_bipush (v := nI 8) d_D_readNot_1 rfl ?_
  refine N_icmp_lt (tgt := 12) d_D_readNot_3 (by decide) (by omega) (by omega) (fun c3 => ?_) (fun c3 => absurd c3 (by omega))
  refine J_aload_n (i := 0) d_D_readNot_12 rfl rfl ?_
  refine CV_V (av := []) d_D_readNot_13 s_D_54 (M_rcv rfl (by decide) rfl) (S_D_advance hX hL (show tk_ B j ≠ 46 by omega)) (by omega) rfl rfl (Nat.le_of_ble_eq_true rfl) ?_
  have hL1 := ad_Lv hL (show tk_ B j ≠ 46 by omega)
  refine J_aload_n (i := 0) d_D_readNot_16 rfl rfl ?_
  refine J_iload_n (i := 1) d_D_readNot_17 rfl rfl ?_
  refine J_iconst (v := nI 1) d_D_readNot_18 rfl ?_
  refine N_iadd d_D_readNot_19 ?_
  refine M_callV (av := [.int (nI (oo + 1))]) d_D_readNot_20 s_D_160 (M_rcv rfl (by decide) rfl) (hA _ _ _ (ad_Ok hX) hL1 (by omega)) (by omega) rfl rfl (Nat.le_of_ble_eq_true rfl) (fun r2 Y2 hq2 => ?_)
  obtain ⟨rfl, hq2⟩ := hq2
  rcases hr2 : pa (j + 1) with q2 | q2
  · rw [hr2] at hq2
    obtain ⟨hY2, ho2, hD2⟩ := hq2
    have hD2 : Dd Y2 B N T q2.1 (stT B q2.2) := hD2
    have hf2 := hD2.2.2.2.2.1
    refine J_aload_n (i := 0) d_D_readNot_23 rfl rfl ?_
    refine M_getI (b := T) d_D_readNot_24 f_D_34 rfl rfl hD2.1.2.2 ?_
    refine J_bipush (v := nI 25) d_D_readNot_27 rfl ?_
    refine J_iconst (v := nI 0) d_D_readNot_29 rfl ?_
    obtain ⟨cd3, hcd3, hce3⟩ := hD2.2.2.2.2.2.2
    refine CV_N (av := [.int (nI 25), .int (nI 0)]) d_D_readNot_30 s_D_136 (M_rcv hD2.1.2.1 (by decide) rfl) (S_T_write hY2 hD2.1.2.1 hce3 hcd3) (by omega) rfl rfl (Nat.le_of_ble_eq_true rfl) ?_
    have hD3 := wr_Dd (x := 0 * 64 + 25) hD2 hce3 hcd3
    refine J_pop d_D_readNot_33 rfl ?_
    refine M_vr d_D_readNot_34 rfl ?_
    have e : fNot (tkT B) (some pa) j = .inl q2 := by rw [fNot, hr2]; rfl
    rw [e]
    exact ⟨rfl, (wr_Ok hY2 hD2.1.2.1), (offL_t (offL_t (offL_t (offL_0 T X) (ad_off (j := j))) ho2) wr_off), hD3⟩
  · rw [hr2] at hq2
    obtain ⟨hY2, ho2, c2, hL2, la2, lb2, lc2, hcl2, hG2⟩ := hq2
    have hN2 := hL2.2.1
    have hlt2 := tk_lt B q2.1
    have hjl2 := Lv_N hL2
    refine J_aload_n (i := 0) d_D_readNot_23 rfl rfl ?_
    refine M_getI (b := T) d_D_readNot_24 f_D_34 rfl rfl hL2.1.2.2 ?_
    refine J_bipush (v := nI 25) d_D_readNot_27 rfl ?_
    refine J_iconst (v := nI 0) d_D_readNot_29 rfl ?_
    refine CV_N (av := [.int (nI 25), .int (nI 0)]) d_D_readNot_30 s_D_136 (M_rcv hL2.1.2.1 (by decide) rfl) (S_T_write hY2 hL2.1.2.1 hL2.2.2.2.2.2.2.1 hL2.2.2.2.2.2.2.2.1) (by omega) rfl rfl (Nat.le_of_ble_eq_true rfl) ?_
    obtain ⟨hL3, hw3⟩ := wr_Lv (x := 0 * 64 + 25) hL2 (show c2 < 300 by omega)
    rw [show min c2 299 = c2 by omega]
    refine J_pop d_D_readNot_33 rfl ?_
    refine M_vr d_D_readNot_34 rfl ?_
    have e : fNot (tkT B) (some pa) j = .inr (q2.1, fun e => !(q2.2 e)) := by rw [fNot, hr2]; rfl
    rw [e]
    have hw := wr_cell (x := 0 * 64 + 25) (c := c2) hY2 hkT (by omega)
    exact ⟨rfl, (wr_Ok hY2 hL2.1.2.1), (offL_t (offL_t (offL_t (offL_0 T X) (ad_off (j := j))) ho2) wr_off), c2 + 1, hL3, by omega, by omega, by omega, fun p hp => (hw.1 p (by omega)).trans (hcl2 p hp), GB_not hG2 (by omega) (fun p h1 h2 => hw.1 p h2) hw.2⟩

