theorem S_R_openNow_0 {X : Mem} {P : List Nat} (hX : Ok X) (hP : PiR X P) (hl : P.length ≤ 100) (e2 : opA P = -1) : CM 1 m_R_openNow [.ref 244] X (rI (-1) X) := by
  refine CM_of (L := [some (.ref 244)]) 0 ok_R_openNow (fun _ => Nat.le_of_ble_eq_true rfl) rfl ?_
  refine J_aload_n (i := 0) d_R_openNow_0 rfl rfl ?_
  refine CV_I (av := []) d_R_openNow_1 s_R_226 (M_rcv rfl (by decide) rfl) (S_R_openAt hX hP hl) (by decide) rfl rfl (Nat.le_of_ble_eq_true rfl) ?_
  rw [e2]
  refine J_if_ge (tgt := 11) d_R_openNow_4 (by decide) (fun c4 => absurd c4 (by decide)) (fun c4 => ?_)
  refine J_iconst (v := (-1)) d_R_openNow_7 rfl ?_
  refine J_goto (tgt := 20) d_R_openNow_8 (by decide) ?_
  refine M_ir d_R_openNow_20 rfl rfl ?_
  exact ⟨rfl, rfl⟩

theorem S_R_openNow_n {X : Mem} {P : List Nat} (hX : Ok X) (hP : PiR X P) (hl : P.length ≤ 100) {k a : Nat} (e2 : opA P = nI k) (hk : k < 100) (hc : (X.2.1 254).getD k 0 = nI a) : CM 1 m_R_openNow [.ref 244] X (rI (nI a) X) := by
  refine CM_of (L := [some (.ref 244)]) 0 ok_R_openNow (fun _ => Nat.le_of_ble_eq_true rfl) rfl ?_
  refine J_aload_n (i := 0) d_R_openNow_0 rfl rfl ?_
  refine CV_I (av := []) d_R_openNow_1 s_R_226 (M_rcv rfl (by decide) rfl) (S_R_openAt hX hP hl) (by decide) rfl rfl (Nat.le_of_ble_eq_true rfl) ?_
  rw [e2]
  refine N_if_ge (tgt := 11) d_R_openNow_4 (by decide) (by omega) ?_
  refine J_aload_n (i := 0) d_R_openNow_11 rfl rfl ?_
  refine M_getR (b := 254) d_R_openNow_12 f_R_44 rfl rfl rfl ?_
  refine J_aload_n (i := 0) d_R_openNow_15 rfl rfl ?_
  refine CV_I (av := []) d_R_openNow_16 s_R_226 (M_rcv rfl (by decide) rfl) (S_R_openAt hX hP hl) (by decide) rfl rfl (Nat.le_of_ble_eq_true rfl) ?_
  rw [e2]
  refine N_iald (x := (nI a)) d_R_openNow_19 rfl (by omega) (ltL hX (a := 254) (n := 160) (by decide) rfl (by omega)) hc ?_
  refine M_ir d_R_openNow_20 rfl rfl ?_
  exact ⟨rfl, rfl⟩

theorem S_R_openNow {X : Mem} {P : List Nat} (hX : Ok X) (hP : PiR X P) (hl : P.length ≤ 100) : CM 1 m_R_openNow [.ref 244] X (rI (opR P) X) := by
  rcases opA_opn hP.2 hl with ⟨e1, e2⟩ | ⟨e1, e3, k, e2, hk, hc⟩
  · rw [show opR P = -1 from if_pos e1]
    exact S_R_openNow_0 hX hP hl e2
  · rw [show opR P = nI (opn P) from if_neg (by omega)]
    exact S_R_openNow_n hX hP hl e2 hk hc
theorem rkP_le (a : Nat) : rkP a ≤ 7 := by
  unfold rkP
  repeat' split
  all_goals decide
theorem lp_R_isCompared {d : Nat} {X : Mem} {Q : Option Value → Mem → Prop} (hd : 1 ≤ d) (hX : Ok X) : ∀ (P : List Nat), P.length ≤ 100 → PL X P → Q (some (.int (b2i (cpd P)))) X → JM d m_R_isCompared Q 7 [some (.ref 244), some (.int (ixP P))] [] X
  | [], _, _, kx => by
    refine J_iload_n (i := 1) d_R_isCompared_7 rfl rfl ?_
    refine J_if_lt (tgt := 30) d_R_isCompared_8 (by decide) (fun c8 => ?_) (fun c8 => absurd c8 (by decide))
    refine J_iload_n (i := 1) d_R_isCompared_30 rfl rfl ?_
    refine J_if_lt (tgt := 51) d_R_isCompared_31 (by decide) (fun c31 => ?_) (fun c31 => absurd c31 (by decide))
    refine J_iconst (v := nI 0) d_R_isCompared_51 rfl ?_
    refine J.eq (st1 := [.int (b2i false)]) ?_ rfl rfl rfl
    refine M_ir d_R_isCompared_52 rfl b2i_nar ?_
    exact kx
  | a :: P, hl, ⟨h1, h2, h3⟩, kx => by
    have hl : P.length + 1 ≤ 100 := hl
    have hr := rkP_le a
    have kx : Q (some (.int (b2i (if rkP a ≤ 4 then decide (rkP a = 4) else cpd P)))) X := kx
    refine J_iload_n (i := 1) d_R_isCompared_7 rfl rfl ?_
    refine N_if_lt (tgt := 30) d_R_isCompared_8 (by decide) (by omega) ?_
    refine J_aload_n (i := 0) d_R_isCompared_11 rfl rfl ?_
    refine M_getR (b := 254) d_R_isCompared_12 f_R_44 rfl rfl rfl ?_
    refine J_iload_n (i := 1) d_R_isCompared_15 rfl rfl ?_
    refine N_iald (x := (nI a)) d_R_isCompared_16 rfl (by omega) (ltL hX (a := 254) (n := 160) (by decide) rfl (by omega)) h1 ?_
    refine CS_N (av := [.int (nI a)]) d_R_isCompared_17 s_R_216 (S_R_rank h2) (by omega) rfl rfl (Nat.le_of_ble_eq_true rfl) ?_
    refine J_iconst (v := nI 4) d_R_isCompared_20 rfl ?_
    refine N_icmp_le (tgt := 30) d_R_isCompared_21 (by decide) (by omega) (by omega) (fun c21 => ?_) (fun c21 => ?_)
    · refine J_iload_n (i := 1) d_R_isCompared_30 rfl rfl ?_
      refine N_if_lt (tgt := 51) d_R_isCompared_31 (by decide) (by omega) ?_
      refine J_aload_n (i := 0) d_R_isCompared_34 rfl rfl ?_
      refine M_getR (b := 254) d_R_isCompared_35 f_R_44 rfl rfl rfl ?_
      refine J_iload_n (i := 1) d_R_isCompared_38 rfl rfl ?_
      refine N_iald (x := (nI a)) d_R_isCompared_39 rfl (by omega) (ltL hX (a := 254) (n := 160) (by decide) rfl (by omega)) h1 ?_
      refine CS_N (av := [.int (nI a)]) d_R_isCompared_40 s_R_216 (S_R_rank h2) (by omega) rfl rfl (Nat.le_of_ble_eq_true rfl) ?_
      refine J_iconst (v := nI 4) d_R_isCompared_43 rfl ?_
      refine N_icmp_ne (tgt := 51) d_R_isCompared_44 (by decide) (by omega) (by omega) (fun c44 => ?_) (fun c44 => ?_)
      · refine J_iconst (v := nI 0) d_R_isCompared_51 rfl ?_
        refine J.eq (st1 := [.int (b2i false)]) ?_ rfl rfl rfl
        refine M_ir d_R_isCompared_52 rfl b2i_nar ?_
        rw [if_pos (by omega), decide_eq_false (show ¬ rkP a = 4 by omega)] at kx
        exact kx
      · refine J_iconst (v := nI 1) d_R_isCompared_47 rfl ?_
        refine J_goto (tgt := 52) d_R_isCompared_48 (by decide) ?_
        refine J.eq (st1 := [.int (b2i true)]) ?_ rfl rfl rfl
        refine M_ir d_R_isCompared_52 rfl b2i_nar ?_
        rw [if_pos (by omega), decide_eq_true (show rkP a = 4 by omega)] at kx
        exact kx
    · refine J_iinc (v := ((nI P.length) + (-1))) (L1 := [some (.ref 244), some (.int ((nI P.length) + (-1)))]) d_R_isCompared_24 rfl rfl (by decide) rfl ?_
      refine J_goto (tgt := 7) d_R_isCompared_27 (by decide) ?_
      rw [if_neg (by omega)] at kx
      refine (lp_R_isCompared hd hX P (by omega) h3 kx).eq ?_ rfl rfl
      rw [ixP_p]
theorem S_R_isCompared {X : Mem} {P : List Nat} (hX : Ok X) (hP : PiR X P) (hl : P.length ≤ 100) : CM 1 m_R_isCompared [.ref 244] X (rB (cpd P) X) := by
  refine CM_of (L := [some (.ref 244), none]) 1 ok_R_isCompared (fun _ => Nat.le_of_ble_eq_true rfl) rfl ?_
  refine J_aload_n (i := 0) d_R_isCompared_0 rfl rfl ?_
  refine M_get (x := (nI P.length)) d_R_isCompared_1 f_R_213 rfl rfl hP.1 ?_
  refine J_iconst (v := nI 1) d_R_isCompared_4 rfl ?_
  refine J_isub d_R_isCompared_5 ?_
  refine J_istore_n (i := 1) (L1 := [some (.ref 244), some (.int ((nI P.length) - (nI 1)))]) d_R_isCompared_6 rfl (by decide) rfl ?_
  exact (lp_R_isCompared (Nat.le_refl 1) hX P hl hP.2 ⟨rfl, rfl⟩).eq (by rw [nI_m1 hl]) rfl rfl

