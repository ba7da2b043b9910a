/-- one thing written as the c-th of text t -/
def emR (X : Mem) (t c : Nat) (a v : Int32) : Mem := pF (pA X 251 (((X.2.1 251).set (681 * t + 73 + 2 * c) a).set (681 * t + 73 + 2 * c + 1) v)) 244 18 (nI (c + 1))
theorem emR_e {X : Mem} {t c : Nat} {a v : Int32} : pF (pA (pA X 251 ((X.2.1 251).set (681 * t + 73 + 2 * c) a)) 251 (((pA X 251 ((X.2.1 251).set (681 * t + 73 + 2 * c) a)).2.1 251).set (681 * t + 73 + 2 * c + 1) v)) 244 18 (nI (c + 1)) = emR X t c a v := by
  rw [pA_pA, pA_at]
  rfl
theorem S_R_emit {X : Mem} {t c : Nat} {a v : Int32} (hX : Ok X) (h17 : X.1 244 17 = nI (681 * t)) (h18 : X.1 244 18 = nI c) (ht : t < 4) (hc : c < 304) : CM 0 m_R_emit [.ref 244, .int a, .int v] X (rV (emR X t c a v)) := by
  refine CM_of (L := [some (.ref 244), some (.int a), some (.int v)]) 0 ok_R_emit (fun _ => Nat.le_of_ble_eq_true rfl) rfl ?_
  refine J_aload_n (i := 0) d_R_emit_0 rfl rfl ?_
  refine M_getR (b := 251) d_R_emit_1 f_R_28 rfl rfl rfl ?_
  refine J_aload_n (i := 0) d_R_emit_4 rfl rfl ?_
  refine M_get (x := (nI (681 * t))) d_R_emit_5 f_R_196 rfl rfl h17 ?_
  refine J_bipush (v := nI 73) d_R_emit_8 rfl ?_
  refine N_iadd d_R_emit_10 ?_
  refine J_iconst (v := nI 2) d_R_emit_11 rfl ?_
  refine J_aload_n (i := 0) d_R_emit_12 rfl rfl ?_
  refine M_get (x := (nI c)) d_R_emit_13 f_R_199 rfl rfl h18 ?_
  refine N_imul d_R_emit_16 ?_
  refine N_iadd d_R_emit_17 ?_
  refine J_iload_n (i := 1) d_R_emit_18 rfl rfl ?_
  refine N_iast d_R_emit_19 rfl (by decide) (by omega) (ltL hX (a := 251) (n := 2724) (by decide) rfl (by omega)) ?_
  refine J_aload_n (i := 0) d_R_emit_20 rfl rfl ?_
  refine M_getR (b := 251) d_R_emit_21 f_R_28 rfl rfl rfl ?_
  refine J_aload_n (i := 0) d_R_emit_24 rfl rfl ?_
  refine M_get (x := (nI (681 * t))) d_R_emit_25 f_R_196 rfl rfl h17 ?_
  refine J_bipush (v := nI 73) d_R_emit_28 rfl ?_
  refine N_iadd d_R_emit_30 ?_
  refine J_iconst (v := nI 2) d_R_emit_31 rfl ?_
  refine J_aload_n (i := 0) d_R_emit_32 rfl rfl ?_
  refine M_get (x := (nI c)) d_R_emit_33 f_R_199 rfl rfl h18 ?_
  refine N_imul d_R_emit_36 ?_
  refine N_iadd d_R_emit_37 ?_
  refine J_iconst (v := nI 1) d_R_emit_38 rfl ?_
  refine N_iadd d_R_emit_39 ?_
  refine J_iload_n (i := 2) d_R_emit_40 rfl rfl ?_
  refine N_iast d_R_emit_41 rfl (by decide) (by omega) (ltL (okS hX rfl) (a := 251) (n := 2724) (by decide) rfl (by omega)) ?_
  refine J_aload_n (i := 0) d_R_emit_42 rfl rfl ?_
  refine J_dup d_R_emit_43 rfl ?_
  refine M_get (x := (nI c)) d_R_emit_44 f_R_199 rfl rfl h18 ?_
  refine J_iconst (v := nI 1) d_R_emit_47 rfl ?_
  refine N_iadd d_R_emit_48 ?_
  refine M_put d_R_emit_49 p_R_199 rfl rfl rfl rfl ?_
  refine M_vr d_R_emit_52 rfl ?_
  exact ⟨rfl, emR_e⟩

theorem is_13 : ∀ k, k < 8 → isInB (nI k) (nI 1) (nI 3) = (decide (1 ≤ k) && decide (k ≤ 3)) := by decide +kernel
theorem S_R_isAskAhead_1 {X : Mem} {a : Nat} {P : List Nat} (hX : Ok X) (hP : PiR X (a :: P)) (hl : (a :: P).length ≤ 100) (h41 : opn (a :: P) = 41) : CM 2 m_R_isAskAhead [.ref 244] X (rB (tp3 (a :: P)) X) := by
  obtain ⟨h22, h1, h2, h3⟩ := hP
  have hP : PiR X (a :: P) := ⟨h22, h1, h2, h3⟩
  have hl2 : P.length + 1 ≤ 100 := hl
  have hr := rkP_le a
  refine CM_of (L := [some (.ref 244)]) 0 ok_R_isAskAhead (fun _ => Nat.le_of_ble_eq_true rfl) rfl ?_
  refine J_aload_n (i := 0) d_R_isAskAhead_0 rfl rfl ?_
  refine CV_I (av := []) d_R_isAskAhead_1 s_R_230 (M_rcv rfl (by decide) rfl) (S_R_openNow hX hP hl) (by decide) rfl rfl (Nat.le_of_ble_eq_true rfl) ?_
  rw [show opR (a :: P) = nI 41 by unfold opR; rw [h41]; rfl]
  refine J_bipush (v := nI 41) d_R_isAskAhead_4 rfl ?_
  refine N_icmp_ne (tgt := 51) d_R_isAskAhead_6 (by decide) (by omega) (by omega) (fun c6 => absurd c6 (by decide)) (fun c6 => ?_)
  refine J_aload_n (i := 0) d_R_isAskAhead_9 rfl rfl ?_
  refine M_getR (b := 254) d_R_isAskAhead_10 f_R_44 rfl rfl rfl ?_
  refine J_aload_n (i := 0) d_R_isAskAhead_13 rfl rfl ?_
  refine M_get (x := (nI (P.length + 1))) d_R_isAskAhead_14 f_R_213 rfl rfl h22 ?_
  refine J_iconst (v := nI 1) d_R_isAskAhead_17 rfl ?_
  refine N_isub d_R_isAskAhead_18 (by omega) ?_
  refine N_iald (x := (nI a)) d_R_isAskAhead_19 rfl (by omega) (ltL hX (a := 254) (n := 160) (by decide) rfl (by omega)) h1 ?_
  refine J_bipush (v := nI 40) d_R_isAskAhead_20 rfl ?_
  refine N_icmp_ge (tgt := 47) d_R_isAskAhead_22 (by decide) (by omega) (by omega) (fun c22 => ?_) (fun c22 => ?_)
  · refine J_iconst (v := nI 1) d_R_isAskAhead_47 rfl ?_
    refine J_goto (tgt := 52) d_R_isAskAhead_48 (by decide) ?_
    refine J.eq (st1 := [.int (b2i true)]) ?_ rfl rfl rfl
    refine M_ir d_R_isAskAhead_52 rfl b2i_nar ?_
    refine ⟨congrArg (fun b => some (Value.int (b2i b))) (show true = tp3 (a :: P) from ?_), rfl⟩
    show true = (decide (40 ≤ a) || (decide (1 ≤ rkP a) && decide (rkP a ≤ 3)))
    rw [decide_eq_true (show 40 ≤ a by omega), Bool.true_or]
  · refine J_aload_n (i := 0) d_R_isAskAhead_25 rfl rfl ?_
    refine M_getR (b := 254) d_R_isAskAhead_26 f_R_44 rfl rfl rfl ?_
    refine J_aload_n (i := 0) d_R_isAskAhead_29 rfl rfl ?_
    refine M_get (x := (nI (P.length + 1))) d_R_isAskAhead_30 f_R_213 rfl rfl h22 ?_
    refine J_iconst (v := nI 1) d_R_isAskAhead_33 rfl ?_
    refine N_isub d_R_isAskAhead_34 (by omega) ?_
    refine N_iald (x := (nI a)) d_R_isAskAhead_35 rfl (by omega) (ltL hX (a := 254) (n := 160) (by decide) rfl (by omega)) h1 ?_
    refine CS_N (av := [.int (nI a)]) d_R_isAskAhead_36 s_R_216 (S_R_rank h2) (by omega) rfl rfl (Nat.le_of_ble_eq_true rfl) ?_
    refine J_iconst (v := nI 1) d_R_isAskAhead_39 rfl ?_
    refine J_iconst (v := nI 3) d_R_isAskAhead_40 rfl ?_
    refine CS_B (av := [.int (nI (rkP a)), .int (nI 1), .int (nI 3)]) d_R_isAskAhead_41 s_R_89 S_R_isIn (by omega) rfl rfl (Nat.le_of_ble_eq_true rfl) ?_
    rw [is_13 _ (by omega)]
    refine B_if_eq (tgt := 51) d_R_isAskAhead_44 (by decide) (fun c44 => ?_) (fun c44 => ?_)
    · refine J_iconst (v := nI 0) d_R_isAskAhead_51 rfl ?_
      refine J.eq (st1 := [.int (b2i false)]) ?_ rfl rfl rfl
      refine M_ir d_R_isAskAhead_52 rfl b2i_nar ?_
      refine ⟨congrArg (fun b => some (Value.int (b2i b))) (show false = tp3 (a :: P) from ?_), rfl⟩
      show false = (decide (40 ≤ a) || (decide (1 ≤ rkP a) && decide (rkP a ≤ 3)))
      rw [c44, decide_eq_false (show ¬ 40 ≤ a by omega)]
      rfl
    · refine J_iconst (v := nI 1) d_R_isAskAhead_47 rfl ?_
      refine J_goto (tgt := 52) d_R_isAskAhead_48 (by decide) ?_
      refine J.eq (st1 := [.int (b2i true)]) ?_ rfl rfl rfl
      refine M_ir d_R_isAskAhead_52 rfl b2i_nar ?_
      refine ⟨congrArg (fun b => some (Value.int (b2i b))) (show true = tp3 (a :: P) from ?_), rfl⟩
      show true = (decide (40 ≤ a) || (decide (1 ≤ rkP a) && decide (rkP a ≤ 3)))
      rw [c44, Bool.or_true]

theorem opR_41 {X : Mem} {P : List Nat} (hP : PL X P) (hl : P.length ≤ 100) (h : opn P ≠ 41) : opR P ≠ nI 41 := by
  unfold opR
  rcases opA_opn hP hl with ⟨e1, e2⟩ | ⟨e1, e3, k, e2, hk, hc⟩
  · rw [if_pos e1]; decide
  · rw [if_neg (by omega)]
    intro z
    exact h ((nI_inj (by omega) (by decide)).mp z)
theorem S_R_isAskAhead_0 {X : Mem} {P : List Nat} (hX : Ok X) (hP : PiR X P) (hl : P.length ≤ 100) (h41 : opn P ≠ 41) : CM 2 m_R_isAskAhead [.ref 244] X (rB false X) := by
  have ho := opR_41 hP.2 hl h41
  refine CM_of (L := [some (.ref 244)]) 0 ok_R_isAskAhead (fun _ => Nat.le_of_ble_eq_true rfl) rfl ?_
  refine J_aload_n (i := 0) d_R_isAskAhead_0 rfl rfl ?_
  refine CV_I (av := []) d_R_isAskAhead_1 s_R_230 (M_rcv rfl (by decide) rfl) (S_R_openNow hX hP hl) (by decide) rfl rfl (Nat.le_of_ble_eq_true rfl) ?_
  refine J_bipush (v := nI 41) d_R_isAskAhead_4 rfl ?_
  refine J_icmp_ne (tgt := 51) d_R_isAskAhead_6 (by decide) (fun c6 => ?_) (fun c6 => absurd c6 ho)
  refine J_iconst (v := nI 0) d_R_isAskAhead_51 rfl ?_
  refine J.eq (st1 := [.int (b2i false)]) ?_ rfl rfl rfl
  refine M_ir d_R_isAskAhead_52 rfl b2i_nar ?_
  exact ⟨rfl, rfl⟩

theorem S_R_isAskAhead {X : Mem} {P : List Nat} (hX : Ok X) (hP : PiR X P) (hl : P.length ≤ 100) : CM 2 m_R_isAskAhead [.ref 244] X (rB (ahd P) X) := by
  by_cases h41 : opn P = 41
  · cases P with
    | nil => exact absurd h41 (by decide)
    | cons a P =>
      rw [show ahd (a :: P) = tp3 (a :: P) by unfold ahd; rw [h41]; rfl]
      exact S_R_isAskAhead_1 hX hP hl h41
  · rw [show ahd P = false by unfold ahd; rw [decide_eq_false h41]; rfl]
    exact S_R_isAskAhead_0 hX hP hl h41
