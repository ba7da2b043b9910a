/-- cells b .. b + i - 1 of the row taken from f -/
def rgF (q f : Nat → Int32) (b i : Nat) : Nat → Int32 := fun j => if b ≤ j ∧ j < b + i then f (j - b) else q j
theorem rgF_s (q f : Nat → Int32) {b i : Nat} : ofF 1217 (upF (rgF q f b i) (b + i) (f i)) = ofF 1217 (rgF q f b (i + 1)) := by
  refine ofF_cong (fun k hk => ?_)
  by_cases e : k = b + i
  · rw [e, upF_at]
    unfold rgF
    rw [if_pos (by omega), show b + i - b = i by omega]
  · rw [upF_o e]
    unfold rgF
    by_cases h : b ≤ k ∧ k < b + i
    · rw [if_pos h, if_pos (by omega)]
    · rw [if_neg h, if_neg (by omega)]
theorem rgF_0 (q f : Nat → Int32) {b : Nat} : rgF q f b 0 = q := by
  refine funext fun k => ?_
  unfold rgF
  rw [if_neg (by omega)]
theorem rgF_o (q f : Nat → Int32) {b i j : Nat} (h : j < b ∨ b + i ≤ j) : rgF q f b i j = q j := by
  unfold rgF
  rw [if_neg (by omega)]
theorem lp_R_undo1 {X : Mem} {q : Nat → Int32} {c : Nat} {Q : Option Value → Mem → Prop} (hX : Ok X) (hc : c < 30) (kx : JM 0 m_R_undo Q 67 [some (.ref 244), some (.int (nI (52 + 38 * c))), some (.int (nI 12))] [] (pA X 245 (ofF 1217 (rgF q (fun k => q (52 + 38 * c + 1 + k)) 6 12)))) : ∀ (f t : Nat), t + f = 12 → JM 0 m_R_undo Q 36 [some (.ref 244), some (.int (nI (52 + 38 * c))), some (.int (nI t))] [] (pA X 245 (ofF 1217 (rgF q (fun k => q (52 + 38 * c + 1 + k)) 6 t))) := by
  intro f
  induction f with
  | zero =>
    intro t ht
    obtain rfl : t = 12 := by omega
    refine J_iload_n (i := 2) d_R_undo_36 rfl rfl ?_
    refine J_bipush (v := nI 12) d_R_undo_37 rfl ?_
    refine N_icmp_ge (tgt := 67) d_R_undo_39 (by decide) (by omega) (by omega) (fun c39 => ?_) (fun c39 => absurd c39 (by decide))
    exact kx
  | succ f ih =>
    intro t ht
    have hX1 : Ok (pA X 245 (ofF 1217 (rgF q (fun k => q (52 + 38 * c + 1 + k)) 6 t))) := okRow hX
    refine J_iload_n (i := 2) d_R_undo_36 rfl rfl ?_
    refine J_bipush (v := nI 12) d_R_undo_37 rfl ?_
    refine N_icmp_ge (tgt := 67) d_R_undo_39 (by decide) (by omega) (by omega) (fun c39 => absurd c39 (by omega)) (fun c39 => ?_)
    refine J_aload_n (i := 0) d_R_undo_42 rfl rfl ?_
    refine M_getR (b := 245) d_R_undo_43 f_R_7 rfl rfl rfl ?_
    refine J_bipush (v := nI 6) d_R_undo_46 rfl ?_
    refine J_iload_n (i := 2) d_R_undo_48 rfl rfl ?_
    refine N_iadd d_R_undo_49 ?_
    refine J_aload_n (i := 0) d_R_undo_50 rfl rfl ?_
    refine M_getR (b := 245) d_R_undo_51 f_R_7 rfl rfl rfl ?_
    refine J_iload_n (i := 1) d_R_undo_54 rfl rfl ?_
    refine J_iconst (v := nI 1) d_R_undo_55 rfl ?_
    refine N_iadd d_R_undo_56 ?_
    refine J_iload_n (i := 2) d_R_undo_57 rfl rfl ?_
    refine N_iadd d_R_undo_58 ?_
    refine N_iald (x := (q (52 + 38 * c + 1 + t))) d_R_undo_59 rfl (by omega) (ltL hX1 (a := 245) (n := 1217) (by decide) rfl (by omega)) (by rw [pA_at, ofF_get (by omega), rgF_o _ _ (by omega)] <;> exact congrArg q (by omega)) ?_
    refine N_iast d_R_undo_60 rfl (by decide) (by omega) (ltL hX1 (a := 245) (n := 1217) (by decide) rfl (by omega)) ?_
    refine N_iinc (a := t) (c := 1) (L1 := [some (.ref 244), some (.int (nI (52 + 38 * c))), some (.int (nI (t + 1)))]) d_R_undo_61 rfl rfl (by decide) rfl ?_
    refine J_goto (tgt := 36) d_R_undo_64 (by decide) ?_
    rw [pA_pA, pA_at, ofF_set, rgF_s (f := (fun k => q (52 + 38 * c + 1 + k)))]
    exact ih (t + 1) (by omega)
theorem lp_R_undo3 {X : Mem} {q : Nat → Int32} {c : Nat} {Q : Option Value → Mem → Prop} (hX : Ok X) (hc : c < 30) (kx : JM 0 m_R_undo Q 145 [some (.ref 244), some (.int (nI (52 + 38 * c))), some (.int (nI 25))] [] (pA X 245 (ofF 1217 (rgF q (fun k => q (52 + 38 * c + 13 + k)) 1192 25)))) : ∀ (f t : Nat), t + f = 25 → JM 0 m_R_undo Q 110 [some (.ref 244), some (.int (nI (52 + 38 * c))), some (.int (nI t))] [] (pA X 245 (ofF 1217 (rgF q (fun k => q (52 + 38 * c + 13 + k)) 1192 t))) := by
  intro f
  induction f with
  | zero =>
    intro t ht
    obtain rfl : t = 25 := by omega
    refine J_iload_n (i := 2) d_R_undo_110 rfl rfl ?_
    refine J_bipush (v := nI 25) d_R_undo_111 rfl ?_
    refine N_icmp_ge (tgt := 145) d_R_undo_113 (by decide) (by omega) (by omega) (fun c113 => ?_) (fun c113 => absurd c113 (by decide))
    exact kx
  | succ f ih =>
    intro t ht
    have hX1 : Ok (pA X 245 (ofF 1217 (rgF q (fun k => q (52 + 38 * c + 13 + k)) 1192 t))) := okRow hX
    refine J_iload_n (i := 2) d_R_undo_110 rfl rfl ?_
    refine J_bipush (v := nI 25) d_R_undo_111 rfl ?_
    refine N_icmp_ge (tgt := 145) d_R_undo_113 (by decide) (by omega) (by omega) (fun c113 => absurd c113 (by omega)) (fun c113 => ?_)
    refine J_aload_n (i := 0) d_R_undo_116 rfl rfl ?_
    refine M_getR (b := 245) d_R_undo_117 f_R_7 rfl rfl rfl ?_
    refine J_sipush (v := nI 1192) d_R_undo_120 rfl ?_
    refine J_iload_n (i := 2) d_R_undo_123 rfl rfl ?_
    refine N_iadd d_R_undo_124 ?_
    refine J_aload_n (i := 0) d_R_undo_125 rfl rfl ?_
    refine M_getR (b := 245) d_R_undo_126 f_R_7 rfl rfl rfl ?_
    refine J_iload_n (i := 1) d_R_undo_129 rfl rfl ?_
    refine J_iconst (v := nI 1) d_R_undo_130 rfl ?_
    refine N_iadd d_R_undo_131 ?_
    refine J_bipush (v := nI 12) d_R_undo_132 rfl ?_
    refine N_iadd d_R_undo_134 ?_
    refine J_iload_n (i := 2) d_R_undo_135 rfl rfl ?_
    refine N_iadd d_R_undo_136 ?_
    refine N_iald (x := (q (52 + 38 * c + 13 + t))) d_R_undo_137 rfl (by omega) (ltL hX1 (a := 245) (n := 1217) (by decide) rfl (by omega)) (by rw [pA_at, ofF_get (by omega), rgF_o _ _ (by omega)] <;> exact congrArg q (by omega)) ?_
    refine N_iast d_R_undo_138 rfl (by decide) (by omega) (ltL hX1 (a := 245) (n := 1217) (by decide) rfl (by omega)) ?_
    refine N_iinc (a := t) (c := 1) (L1 := [some (.ref 244), some (.int (nI (52 + 38 * c))), some (.int (nI (t + 1)))]) d_R_undo_139 rfl rfl (by decide) rfl ?_
    refine J_goto (tgt := 110) d_R_undo_142 (by decide) ?_
    rw [pA_pA, pA_at, ofF_set, rgF_s (f := (fun k => q (52 + 38 * c + 13 + k)))]
    exact ih (t + 1) (by omega)
theorem lp_R_undo2 {X : Mem} {q : Nat → Int32} {x m0 M : Nat} {Q : Option Value → Mem → Prop} (hX : Ok X) (hM : M ≤ 8) (hm0 : m0 ≤ 8) (h0 : q 0 = nI M) (kx : ∀ t, JM 0 m_R_undo Q 108 [some (.ref 244), some (.int (nI x)), some (.int (nI t))] [] (pA X 245 (ofF 1217 (rgF q (fun k => q (18 + m0 + k)) (10 + m0) (M - m0))))) : ∀ (f t : Nat), M - t = f → m0 ≤ t → (t ≤ M ∨ t = m0) → JM 0 m_R_undo Q 74 [some (.ref 244), some (.int (nI x)), some (.int (nI t))] [] (pA X 245 (ofF 1217 (rgF q (fun k => q (18 + m0 + k)) (10 + m0) (t - m0)))) := by
  intro f
  induction f with
  | zero =>
    intro t ht hmt htM
    have hX1 : Ok (pA X 245 (ofF 1217 (rgF q (fun k => q (18 + m0 + k)) (10 + m0) (t - m0)))) := okRow hX
    have e : t - m0 = M - m0 := by omega
    refine J_iload_n (i := 2) d_R_undo_74 rfl rfl ?_
    refine J_aload_n (i := 0) d_R_undo_75 rfl rfl ?_
    refine M_getR (b := 245) d_R_undo_76 f_R_7 rfl rfl rfl ?_
    refine J_iconst (v := nI 0) d_R_undo_79 rfl ?_
    refine N_iald (x := (nI M)) d_R_undo_80 rfl (by omega) (ltL hX1 (a := 245) (n := 1217) (by decide) rfl (by omega)) (by rw [pA_at, ofF_get (by decide), rgF_o _ _ (by omega)]; exact h0) ?_
    refine N_icmp_ge (tgt := 108) d_R_undo_81 (by decide) (by omega) (by omega) (fun c81 => ?_) (fun c81 => absurd c81 (by omega))
    rw [e]
    exact kx t
  | succ f ih =>
    intro t ht hmt htM
    have hX1 : Ok (pA X 245 (ofF 1217 (rgF q (fun k => q (18 + m0 + k)) (10 + m0) (t - m0)))) := okRow hX
    refine J_iload_n (i := 2) d_R_undo_74 rfl rfl ?_
    refine J_aload_n (i := 0) d_R_undo_75 rfl rfl ?_
    refine M_getR (b := 245) d_R_undo_76 f_R_7 rfl rfl rfl ?_
    refine J_iconst (v := nI 0) d_R_undo_79 rfl ?_
    refine N_iald (x := (nI M)) d_R_undo_80 rfl (by omega) (ltL hX1 (a := 245) (n := 1217) (by decide) rfl (by omega)) (by rw [pA_at, ofF_get (by decide), rgF_o _ _ (by omega)]; exact h0) ?_
    refine N_icmp_ge (tgt := 108) d_R_undo_81 (by decide) (by omega) (by omega) (fun c81 => absurd c81 (by omega)) (fun c81 => ?_)
    refine J_aload_n (i := 0) d_R_undo_84 rfl rfl ?_
    refine M_getR (b := 245) d_R_undo_85 f_R_7 rfl rfl rfl ?_
    refine J_bipush (v := nI 10) d_R_undo_88 rfl ?_
    refine J_iload_n (i := 2) d_R_undo_90 rfl rfl ?_
    refine N_iadd d_R_undo_91 ?_
    refine J_aload_n (i := 0) d_R_undo_92 rfl rfl ?_
    refine M_getR (b := 245) d_R_undo_93 f_R_7 rfl rfl rfl ?_
    refine J_bipush (v := nI 18) d_R_undo_96 rfl ?_
    refine J_iload_n (i := 2) d_R_undo_98 rfl rfl ?_
    refine N_iadd d_R_undo_99 ?_
    refine N_iald (x := (q (18 + t))) d_R_undo_100 rfl (by omega) (ltL hX1 (a := 245) (n := 1217) (by decide) rfl (by omega)) (by rw [pA_at, ofF_get (by omega), rgF_o _ _ (by omega)]) ?_
    refine N_iast d_R_undo_101 rfl (by decide) (by omega) (ltL hX1 (a := 245) (n := 1217) (by decide) rfl (by omega)) ?_
    refine N_iinc (a := t) (c := 1) (L1 := [some (.ref 244), some (.int (nI x)), some (.int (nI (t + 1)))]) d_R_undo_102 rfl rfl (by decide) rfl ?_
    refine J_goto (tgt := 74) d_R_undo_105 (by decide) ?_
    have e : ofF 1217 (upF (rgF q (fun k => q (18 + m0 + k)) (10 + m0) (t - m0)) (10 + t) (q (18 + t))) = ofF 1217 (rgF q (fun k => q (18 + m0 + k)) (10 + m0) (t + 1 - m0)) := by
      have h : ofF 1217 (upF (rgF q (fun k => q (18 + m0 + k)) (10 + m0) (t - m0)) (10 + m0 + (t - m0)) (q (18 + m0 + (t - m0)))) = ofF 1217 (rgF q (fun k => q (18 + m0 + k)) (10 + m0) (t - m0 + 1)) := rgF_s q _
      rw [show 10 + m0 + (t - m0) = 10 + t by omega, show 18 + m0 + (t - m0) = 18 + t by omega, show t - m0 + 1 = t + 1 - m0 by omega] at h
      exact h
    rw [pA_pA, pA_at, ofF_set, e]
    exact ih (t + 1) (by omega) (by omega) (Or.inl (by omega))
theorem ud_eq {s : Sg} (hw : WFs s) (hc : 1 ≤ tn (s.1 3)) : ofF 1217 (rgF (rgF (rgF (upF s.1 3 (nI (tn (s.1 3) - 1))) (fun k => (upF s.1 3 (nI (tn (s.1 3) - 1))) (52 + 38 * (tn (s.1 3) - 1) + 1 + k)) 6 12) (fun k => (rgF (upF s.1 3 (nI (tn (s.1 3) - 1))) (fun k => (upF s.1 3 (nI (tn (s.1 3) - 1))) (52 + 38 * (tn (s.1 3) - 1) + 1 + k)) 6 12) (18 + (tn (s.1 (52 + 38 * (tn (s.1 3) - 1)))) + k)) (10 + (tn (s.1 (52 + 38 * (tn (s.1 3) - 1))))) (tn (s.1 0) - (tn (s.1 (52 + 38 * (tn (s.1 3) - 1)))))) (fun k => (rgF (rgF (upF s.1 3 (nI (tn (s.1 3) - 1))) (fun k => (upF s.1 3 (nI (tn (s.1 3) - 1))) (52 + 38 * (tn (s.1 3) - 1) + 1 + k)) 6 12) (fun k => (rgF (upF s.1 3 (nI (tn (s.1 3) - 1))) (fun k => (upF s.1 3 (nI (tn (s.1 3) - 1))) (52 + 38 * (tn (s.1 3) - 1) + 1 + k)) 6 12) (18 + (tn (s.1 (52 + 38 * (tn (s.1 3) - 1)))) + k)) (10 + (tn (s.1 (52 + 38 * (tn (s.1 3) - 1))))) (tn (s.1 0) - (tn (s.1 (52 + 38 * (tn (s.1 3) - 1)))))) (52 + 38 * (tn (s.1 3) - 1) + 13 + k)) 1192 25) = ofF 1217 (udR s.1) := by
  have w3 := wf_1 hw.1 (j := 3) (n := 30) (by decide) (by decide) (by decide)
  have w0 := wf_1 hw.1 (j := 0) (n := 8) (by decide) (by decide) (by decide)
  generalize hcc : tn (s.1 3) - 1 = c
  have hq0 : ∀ j, j ≠ 3 → upF s.1 3 (nI c) j = s.1 j := fun j h => upF_o h
  refine ofF_cong (fun j hj => ?_)
  unfold udR rowOf udG stG
  rw [hcc]
  by_cases e0 : j = 0
  · rw [if_pos e0, if_pos rfl, rgF_o _ _ (by omega), rgF_o _ _ (by omega), rgF_o _ _ (by omega), e0, hq0 0 (by decide)]
  · rw [if_neg e0]
    by_cases e1 : 6 ≤ j ∧ j < 18
    · rw [if_pos e1, if_neg (by omega), rgF_o _ _ (by omega)]
      by_cases e2 : 5 + tn (s.1 (52 + 38 * c + 0)) ≤ j - 5 ∧ j - 5 < 5 + tn (s.1 0)
      · have e2' : 5 + tn (s.1 (52 + 38 * c)) ≤ j - 5 ∧ j - 5 < 5 + tn (s.1 0) := e2
        rw [if_pos e2, show 13 + (j - 5) = 8 + j by omega]
        show (if 10 + tn (s.1 (52 + 38 * c)) ≤ j ∧ j < 10 + tn (s.1 (52 + 38 * c)) + (tn (s.1 0) - tn (s.1 (52 + 38 * c))) then rgF (upF s.1 3 (nI c)) _ 6 12 (18 + tn (s.1 (52 + 38 * c)) + (j - (10 + tn (s.1 (52 + 38 * c))))) else _) = _
        rw [if_pos (by omega), rgF_o _ _ (by omega), hq0 _ (by omega)]
        exact congrArg s.1 (by omega)
      · have e2' : ¬ (5 + tn (s.1 (52 + 38 * c)) ≤ j - 5 ∧ j - 5 < 5 + tn (s.1 0)) := e2
        rw [if_neg e2, rgF_o _ _ (by omega)]
        show (if 6 ≤ j ∧ j < 6 + 12 then upF s.1 3 (nI c) (52 + 38 * c + 1 + (j - 6)) else _) = _
        rw [if_pos (by omega), hq0 _ (by omega)]
        exact congrArg s.1 (by omega)
    · rw [if_neg e1]
      by_cases e3 : 1192 ≤ j ∧ j < 1217
      · rw [if_pos e3, if_neg (by omega), if_neg (by omega)]
        show (if 1192 ≤ j ∧ j < 1192 + 25 then rgF (rgF (upF s.1 3 (nI c)) _ 6 12) _ (10 + tn (s.1 (52 + 38 * c))) (tn (s.1 0) - tn (s.1 (52 + 38 * c))) (52 + 38 * c + 13 + (j - 1192)) else _) = _
        rw [if_pos (by omega), rgF_o _ _ (by omega), rgF_o _ _ (by omega), hq0 _ (by omega)]
        exact congrArg s.1 (by omega)
      · rw [if_neg e3, rgF_o _ _ (by omega), rgF_o _ _ (by omega), rgF_o _ _ (by omega)]
theorem S_R_undo {X : Mem} {s : Sg} (hX : Ok X) (hC : RI X s) (hw : WFs s) : CM 0 m_R_undo [.ref 244] X (fun q Y => q = some (.int (udF s)) ∧ pR X (udO s) Y) := by
  have w3 := wf_1 hw.1 (j := 3) (n := 30) (by decide) (by decide) (by decide)
  have w0 := wf_1 hw.1 (j := 0) (n := 8) (by decide) (by decide) (by decide)
  refine CM_of (L := [some (.ref 244), none, none]) 2 ok_R_undo (fun _ => Nat.le_of_ble_eq_true rfl) rfl ?_
  refine J_aload_n (i := 0) d_R_undo_0 rfl rfl ?_
  refine M_getR (b := 245) d_R_undo_1 f_R_7 rfl rfl rfl ?_
  refine J_iconst (v := nI 3) d_R_undo_4 rfl ?_
  refine N_iald (x := (nI (tn (s.1 3)))) d_R_undo_5 rfl (by omega) (ltL hX (a := 245) (n := 1217) (by decide) rfl (by omega)) ((ri_at hC (by decide)).trans w3.1) ?_
  refine N_if_ne (tgt := 11) d_R_undo_6 (by decide) (by omega) (fun c6 => ?_) (fun c6 => ?_)
  · refine J_aload_n (i := 0) d_R_undo_11 rfl rfl ?_
    refine M_getR (b := 245) d_R_undo_12 f_R_7 rfl rfl rfl ?_
    refine J_iconst (v := nI 3) d_R_undo_15 rfl ?_
    refine J_dup2 d_R_undo_16 rfl rfl ?_
    refine N_iald (x := (nI (tn (s.1 3)))) d_R_undo_17 rfl (by omega) (ltL hX (a := 245) (n := 1217) (by decide) rfl (by omega)) ((ri_at hC (by decide)).trans w3.1) ?_
    refine J_iconst (v := nI 1) d_R_undo_18 rfl ?_
    refine N_isub d_R_undo_19 (by omega) ?_
    refine N_iast d_R_undo_20 rfl (by decide) (by omega) (ltL hX (a := 245) (n := 1217) (by decide) rfl (by omega)) ?_
    rw [show (X.2.1 245).set 3 (nI (tn (s.1 3) - 1)) = ofF 1217 (upF s.1 3 (nI (tn (s.1 3) - 1))) by rw [hC.1, ofF_set]]
    refine J_bipush (v := nI 52) d_R_undo_21 rfl ?_
    refine J_bipush (v := nI 38) d_R_undo_23 rfl ?_
    refine J_aload_n (i := 0) d_R_undo_25 rfl rfl ?_
    refine M_getR (b := 245) d_R_undo_26 f_R_7 rfl rfl rfl ?_
    refine J_iconst (v := nI 3) d_R_undo_29 rfl ?_
    refine N_iald (x := (nI (tn (s.1 3) - 1))) d_R_undo_30 rfl (by omega) (ltL (okRow hX) (a := 245) (n := 1217) (by decide) rfl (by omega)) (by rw [pA_at, ofF_get (by decide)]; exact upF_at) ?_
    refine N_imul d_R_undo_31 ?_
    refine N_iadd d_R_undo_32 ?_
    refine J_istore_n (i := 1) (L1 := [some (.ref 244), some (.int (nI (52 + (38 * (tn (s.1 3) - 1))))), none]) d_R_undo_33 rfl (by decide) rfl ?_
    refine J_iconst (v := nI 0) d_R_undo_34 rfl ?_
    refine J_istore_n (i := 2) (L1 := [some (.ref 244), some (.int (nI (52 + (38 * (tn (s.1 3) - 1))))), some (.int (nI 0))]) d_R_undo_35 rfl (by decide) rfl ?_
    have wm := wg_n (WFg_st hw.1 (q := tn (s.1 3) - 1) (by omega)) (k := 0) (n := 8) (by decide) (by decide)
    have wm : s.1 (52 + 38 * (tn (s.1 3) - 1)) = nI (tn (s.1 (52 + 38 * (tn (s.1 3) - 1)))) ∧ (tn (s.1 (52 + 38 * (tn (s.1 3) - 1)))) ≤ 8 := wm
    have e1 : pA X 245 (ofF 1217 (upF s.1 3 (nI (tn (s.1 3) - 1)))) = pA X 245 (ofF 1217 (rgF (upF s.1 3 (nI (tn (s.1 3) - 1))) (fun k => (upF s.1 3 (nI (tn (s.1 3) - 1))) (52 + 38 * (tn (s.1 3) - 1) + 1 + k)) 6 0)) := by rw [rgF_0]
    rw [e1]
    refine lp_R_undo1 (q := (upF s.1 3 (nI (tn (s.1 3) - 1)))) hX (by omega) ?_ 12 0 rfl
    refine J_aload_n (i := 0) d_R_undo_67 rfl rfl ?_
    refine M_getR (b := 245) d_R_undo_68 f_R_7 rfl rfl rfl ?_
    refine J_iload_n (i := 1) d_R_undo_71 rfl rfl ?_
    refine N_iald (x := (nI (tn (s.1 (52 + 38 * (tn (s.1 3) - 1)))))) d_R_undo_72 rfl (by omega) (ltL (okRow hX) (a := 245) (n := 1217) (by decide) rfl (by omega)) (by rw [pA_at, ofF_get (by omega), rgF_o _ _ (by omega), upF_o (by omega)]; exact wm.1) ?_
    refine J_istore_n (i := 2) (L1 := [some (.ref 244), some (.int (nI (52 + 38 * (tn (s.1 3) - 1)))), some (.int (nI (tn (s.1 (52 + 38 * (tn (s.1 3) - 1))))))]) d_R_undo_73 rfl (by decide) rfl ?_
    have e2 : pA X 245 (ofF 1217 (rgF (upF s.1 3 (nI (tn (s.1 3) - 1))) (fun k => (upF s.1 3 (nI (tn (s.1 3) - 1))) (52 + 38 * (tn (s.1 3) - 1) + 1 + k)) 6 12)) = pA X 245 (ofF 1217 (rgF (rgF (upF s.1 3 (nI (tn (s.1 3) - 1))) (fun k => (upF s.1 3 (nI (tn (s.1 3) - 1))) (52 + 38 * (tn (s.1 3) - 1) + 1 + k)) 6 12) (fun k => (rgF (upF s.1 3 (nI (tn (s.1 3) - 1))) (fun k => (upF s.1 3 (nI (tn (s.1 3) - 1))) (52 + 38 * (tn (s.1 3) - 1) + 1 + k)) 6 12) (18 + (tn (s.1 (52 + 38 * (tn (s.1 3) - 1)))) + k)) (10 + (tn (s.1 (52 + 38 * (tn (s.1 3) - 1))))) ((tn (s.1 (52 + 38 * (tn (s.1 3) - 1)))) - (tn (s.1 (52 + 38 * (tn (s.1 3) - 1))))))) := by rw [Nat.sub_self, rgF_0]
    rw [e2]
    refine lp_R_undo2 (q := (rgF (upF s.1 3 (nI (tn (s.1 3) - 1))) (fun k => (upF s.1 3 (nI (tn (s.1 3) - 1))) (52 + 38 * (tn (s.1 3) - 1) + 1 + k)) 6 12)) (M := tn (s.1 0)) hX w0.2 wm.2 ?_ (fun t => ?_) _ (tn (s.1 (52 + 38 * (tn (s.1 3) - 1)))) rfl (Nat.le_refl _) (Or.inr rfl)
    · rw [rgF_o _ _ (by omega), upF_o (by decide)]; exact w0.1
    refine J_iconst (v := nI 0) d_R_undo_108 rfl ?_
    refine J_istore_n (i := 2) (L1 := [some (.ref 244), some (.int (nI (52 + 38 * (tn (s.1 3) - 1)))), some (.int (nI 0))]) d_R_undo_109 rfl (by decide) rfl ?_
    have e3 : pA X 245 (ofF 1217 (rgF (rgF (upF s.1 3 (nI (tn (s.1 3) - 1))) (fun k => (upF s.1 3 (nI (tn (s.1 3) - 1))) (52 + 38 * (tn (s.1 3) - 1) + 1 + k)) 6 12) (fun k => (rgF (upF s.1 3 (nI (tn (s.1 3) - 1))) (fun k => (upF s.1 3 (nI (tn (s.1 3) - 1))) (52 + 38 * (tn (s.1 3) - 1) + 1 + k)) 6 12) (18 + (tn (s.1 (52 + 38 * (tn (s.1 3) - 1)))) + k)) (10 + (tn (s.1 (52 + 38 * (tn (s.1 3) - 1))))) (tn (s.1 0) - (tn (s.1 (52 + 38 * (tn (s.1 3) - 1))))))) = pA X 245 (ofF 1217 (rgF (rgF (rgF (upF s.1 3 (nI (tn (s.1 3) - 1))) (fun k => (upF s.1 3 (nI (tn (s.1 3) - 1))) (52 + 38 * (tn (s.1 3) - 1) + 1 + k)) 6 12) (fun k => (rgF (upF s.1 3 (nI (tn (s.1 3) - 1))) (fun k => (upF s.1 3 (nI (tn (s.1 3) - 1))) (52 + 38 * (tn (s.1 3) - 1) + 1 + k)) 6 12) (18 + (tn (s.1 (52 + 38 * (tn (s.1 3) - 1)))) + k)) (10 + (tn (s.1 (52 + 38 * (tn (s.1 3) - 1))))) (tn (s.1 0) - (tn (s.1 (52 + 38 * (tn (s.1 3) - 1)))))) (fun k => (rgF (rgF (upF s.1 3 (nI (tn (s.1 3) - 1))) (fun k => (upF s.1 3 (nI (tn (s.1 3) - 1))) (52 + 38 * (tn (s.1 3) - 1) + 1 + k)) 6 12) (fun k => (rgF (upF s.1 3 (nI (tn (s.1 3) - 1))) (fun k => (upF s.1 3 (nI (tn (s.1 3) - 1))) (52 + 38 * (tn (s.1 3) - 1) + 1 + k)) 6 12) (18 + (tn (s.1 (52 + 38 * (tn (s.1 3) - 1)))) + k)) (10 + (tn (s.1 (52 + 38 * (tn (s.1 3) - 1))))) (tn (s.1 0) - (tn (s.1 (52 + 38 * (tn (s.1 3) - 1)))))) (52 + 38 * (tn (s.1 3) - 1) + 13 + k)) 1192 0)) := by rw [rgF_0]
    rw [e3]
    refine lp_R_undo3 (q := (rgF (rgF (upF s.1 3 (nI (tn (s.1 3) - 1))) (fun k => (upF s.1 3 (nI (tn (s.1 3) - 1))) (52 + 38 * (tn (s.1 3) - 1) + 1 + k)) 6 12) (fun k => (rgF (upF s.1 3 (nI (tn (s.1 3) - 1))) (fun k => (upF s.1 3 (nI (tn (s.1 3) - 1))) (52 + 38 * (tn (s.1 3) - 1) + 1 + k)) 6 12) (18 + (tn (s.1 (52 + 38 * (tn (s.1 3) - 1)))) + k)) (10 + (tn (s.1 (52 + 38 * (tn (s.1 3) - 1))))) (tn (s.1 0) - (tn (s.1 (52 + 38 * (tn (s.1 3) - 1))))))) hX (by omega) ?_ 25 0 rfl
    refine J_aload_n (i := 0) d_R_undo_145 rfl rfl ?_
    refine M_getR (b := 245) d_R_undo_146 f_R_7 rfl rfl rfl ?_
    refine J_iconst (v := nI 3) d_R_undo_149 rfl ?_
    refine N_iald (x := (nI (tn (s.1 3) - 1))) d_R_undo_150 rfl (by omega) (ltL (okRow hX) (a := 245) (n := 1217) (by decide) rfl (by omega)) (by rw [pA_at, ofF_get (by decide), rgF_o _ _ (by omega), rgF_o _ _ (by omega), rgF_o _ _ (by omega)]; exact upF_at) ?_
    refine M_ir d_R_undo_151 rfl rfl ?_
    exact ⟨by rw [udF, if_neg (by omega)], okRow hX, by rw [udO, if_neg (by omega), ud_eq hw (by omega)]; exact RI_row hC (by unfold udR; rw [row_o _ _ (by decide) (by decide) (by decide), upF_o (by decide)]), sC_A (by decide)⟩
  · refine J_iconst (v := (-1)) d_R_undo_9 rfl ?_
    refine M_ir d_R_undo_10 rfl rfl ?_
    exact ⟨by rw [udF, if_pos (by omega)], by rw [udO, if_pos (by omega)]; exact pR_0 hX hC⟩

