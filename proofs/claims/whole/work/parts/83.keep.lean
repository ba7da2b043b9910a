/-- the row r with what is now kept as its newest step -/
def kpR (r : Nat → Int32) : Nat → Int32 := fun j =>
  if j = 3 then nI (min (tn (r 3)) 29 + 1)
  else if 52 + 38 * min (tn (r 3)) 29 ≤ j ∧ j < 90 + 38 * min (tn (r 3)) 29 then nowG r (j - (52 + 38 * min (tn (r 3)) 29))
  else if tn (r 3) = 30 ∧ 52 ≤ j ∧ j < 1154 then r (j + 38) else r j
/-- the first i cells of the steps moved -/
def rSh (r : Nat → Int32) (i : Nat) : Nat → Int32 := fun j => if 52 ≤ j ∧ j < 52 + i then r (j + 38) else r j
theorem rSh_s (r : Nat → Int32) {i : Nat} : ofF 1217 (upF (rSh r i) (52 + i) (r (90 + i))) = ofF 1217 (rSh r (i + 1)) := by
  refine ofF_cong (fun k hk => ?_)
  by_cases e : k = 52 + i
  · rw [e, upF_at]
    unfold rSh
    rw [if_pos (by omega), show 52 + i + 38 = 90 + i by omega]
  · rw [upF_o e]
    unfold rSh
    by_cases q : 52 ≤ k ∧ k < 52 + i
    · rw [if_pos q, if_pos (by omega)]
    · rw [if_neg q, if_neg (by omega)]
theorem rSh_0 (r : Nat → Int32) : ofF 1217 (rSh r 0) = ofF 1217 r := ofF_cong (fun k hk => by unfold rSh; rw [if_neg (by omega)])
theorem lp_R_keep {X : Mem} {r : Nat → Int32} {Q : Option Value → Mem → Prop} (hX : Ok X) (kx : JM 0 m_R_keep Q 44 [some (.ref 244), some (.int (nI 1102)), none] [] (pA X 245 (ofF 1217 (rSh r 1102)))) : ∀ (f i : Nat), i + f = 1102 → JM 0 m_R_keep Q 13 [some (.ref 244), some (.int (nI i)), none] [] (pA X 245 (ofF 1217 (rSh r i))) := by
  intro f
  induction f with
  | zero =>
    intro i hi
    obtain rfl : i = 1102 := by omega
    refine J_iload_n (i := 1) d_R_keep_13 rfl rfl ?_
    refine J_sipush (v := nI 1102) d_R_keep_14 rfl ?_
    refine N_icmp_ge (tgt := 44) d_R_keep_17 (by decide) (by omega) (by omega) (fun c17 => ?_) (fun c17 => absurd c17 (by decide))
    exact kx
  | succ f ih =>
    intro i hi
    have hX1 : Ok (pA X 245 (ofF 1217 (rSh r i))) := okRow hX
    refine J_iload_n (i := 1) d_R_keep_13 rfl rfl ?_
    refine J_sipush (v := nI 1102) d_R_keep_14 rfl ?_
    refine N_icmp_ge (tgt := 44) d_R_keep_17 (by decide) (by omega) (by omega) (fun c17 => absurd c17 (by omega)) (fun c17 => ?_)
    refine J_aload_n (i := 0) d_R_keep_20 rfl rfl ?_
    refine M_getR (b := 245) d_R_keep_21 f_R_7 rfl rfl rfl ?_
    refine J_bipush (v := nI 52) d_R_keep_24 rfl ?_
    refine J_iload_n (i := 1) d_R_keep_26 rfl rfl ?_
    refine N_iadd d_R_keep_27 ?_
    refine J_aload_n (i := 0) d_R_keep_28 rfl rfl ?_
    refine M_getR (b := 245) d_R_keep_29 f_R_7 rfl rfl rfl ?_
    refine J_bipush (v := nI 90) d_R_keep_32 rfl ?_
    refine J_iload_n (i := 1) d_R_keep_34 rfl rfl ?_
    refine N_iadd d_R_keep_35 ?_
    refine N_iald (x := (r (90 + i))) d_R_keep_36 rfl (by omega) (ltL hX1 (a := 245) (n := 1217) (by decide) rfl (by omega)) (by rw [pA_at, ofF_get (by omega)]; unfold rSh; rw [if_neg (by omega)]) ?_
    refine N_iast d_R_keep_37 rfl (by decide) (by omega) (ltL hX1 (a := 245) (n := 1217) (by decide) rfl (by omega)) ?_
    refine N_iinc (a := i) (c := 1) (L1 := [some (.ref 244), some (.int (nI (i + 1))), none]) d_R_keep_38 rfl rfl (by decide) rfl ?_
    refine J_goto (tgt := 13) d_R_keep_41 (by decide) ?_
    rw [pA_pA, pA_at, ofF_set, rSh_s]
    exact ih (i + 1) (by omega)
/-- the first i cells of what is now copied into step c -/
def kcS (q : Nat → Int32) (c i : Nat) : Nat → Int32 := fun j => if 52 + 38 * c ≤ j ∧ j < 52 + 38 * c + i then nowG q (j - (52 + 38 * c)) else q j
theorem kcS_s (q : Nat → Int32) {c i : Nat} : ofF 1217 (upF (kcS q c i) (52 + 38 * c + i) (nowG q i)) = ofF 1217 (kcS q c (i + 1)) := by
  refine ofF_cong (fun k hk => ?_)
  by_cases e : k = 52 + 38 * c + i
  · rw [e, upF_at]
    unfold kcS
    rw [if_pos (by omega), show 52 + 38 * c + i - (52 + 38 * c) = i by omega]
  · rw [upF_o e]
    unfold kcS
    by_cases h : 52 + 38 * c ≤ k ∧ k < 52 + 38 * c + i
    · rw [if_pos h, if_pos (by omega)]
    · rw [if_neg h, if_neg (by omega)]
theorem kcS_0 (q : Nat → Int32) {c : Nat} : ofF 1217 (kcS q c 0) = ofF 1217 q := ofF_cong (fun k hk => by unfold kcS; rw [if_neg (by omega)])
theorem kcS_o (q : Nat → Int32) {c i j : Nat} (h : j < 52 ∨ 1192 ≤ j) (hc : c < 30) (hi : i ≤ 38) : kcS q c i j = q j := by
  unfold kcS
  rw [if_neg (by omega)]
theorem now_y (q : Nat → Int32) {t : Nat} (h : t < 12) : nowG q (1 + t) = q (6 + t) := by
  unfold nowG
  rw [if_neg (by omega), if_pos (by omega), show 5 + (1 + t) = 6 + t by omega]
theorem now_b (q : Nat → Int32) {t : Nat} : nowG q (13 + t) = q (1192 + t) := by
  unfold nowG
  rw [if_neg (by omega), if_neg (by omega), show 1179 + (13 + t) = 1192 + t by omega]
theorem lp_R_keep2 {X : Mem} {q : Nat → Int32} {c : Nat} {Q : Option Value → Mem → Prop} (hX : Ok X) (hc : c < 30) (kx : JM 0 m_R_keep Q 149 [some (.ref 244), some (.int (nI (52 + 38 * c))), some (.int (nI 25))] [] (pA X 245 (ofF 1217 (kcS q c (13 + 25))))) : ∀ (f t : Nat), t + f = 25 → JM 0 m_R_keep Q 114 [some (.ref 244), some (.int (nI (52 + 38 * c))), some (.int (nI t))] [] (pA X 245 (ofF 1217 (kcS q c (13 + t)))) := by
  intro f
  induction f with
  | zero =>
    intro t ht
    obtain rfl : t = 25 := by omega
    refine J_iload_n (i := 2) d_R_keep_114 rfl rfl ?_
    refine J_bipush (v := nI 25) d_R_keep_115 rfl ?_
    refine N_icmp_ge (tgt := 149) d_R_keep_117 (by decide) (by omega) (by omega) (fun c117 => ?_) (fun c117 => absurd c117 (by decide))
    exact kx
  | succ f ih =>
    intro t ht
    have hX1 : Ok (pA X 245 (ofF 1217 (kcS q c (13 + t)))) := okRow hX
    refine J_iload_n (i := 2) d_R_keep_114 rfl rfl ?_
    refine J_bipush (v := nI 25) d_R_keep_115 rfl ?_
    refine N_icmp_ge (tgt := 149) d_R_keep_117 (by decide) (by omega) (by omega) (fun c117 => absurd c117 (by omega)) (fun c117 => ?_)
    refine J_aload_n (i := 0) d_R_keep_120 rfl rfl ?_
    refine M_getR (b := 245) d_R_keep_121 f_R_7 rfl rfl rfl ?_
    refine J_iload_n (i := 1) d_R_keep_124 rfl rfl ?_
    refine J_iconst (v := nI 1) d_R_keep_125 rfl ?_
    refine N_iadd d_R_keep_126 ?_
    refine J_bipush (v := nI 12) d_R_keep_127 rfl ?_
    refine N_iadd d_R_keep_129 ?_
    refine J_iload_n (i := 2) d_R_keep_130 rfl rfl ?_
    refine N_iadd d_R_keep_131 ?_
    refine J_aload_n (i := 0) d_R_keep_132 rfl rfl ?_
    refine M_getR (b := 245) d_R_keep_133 f_R_7 rfl rfl rfl ?_
    refine J_sipush (v := nI 1192) d_R_keep_136 rfl ?_
    refine J_iload_n (i := 2) d_R_keep_139 rfl rfl ?_
    refine N_iadd d_R_keep_140 ?_
    refine N_iald (x := (q (1192 + t))) d_R_keep_141 rfl (by omega) (ltL hX1 (a := 245) (n := 1217) (by decide) rfl (by omega)) (by rw [pA_at, ofF_get (by omega)]; exact kcS_o q (by omega) hc (by omega)) ?_
    refine N_iast d_R_keep_142 rfl (by decide) (by omega) (ltL hX1 (a := 245) (n := 1217) (by decide) rfl (by omega)) ?_
    refine N_iinc (a := t) (c := 1) (L1 := [some (.ref 244), some (.int (nI (52 + 38 * c))), some (.int (nI (t + 1)))]) d_R_keep_143 rfl rfl (by decide) rfl ?_
    refine J_goto (tgt := 114) d_R_keep_146 (by decide) ?_
    rw [pA_pA, pA_at, ofF_set, ← now_b q, show (52 + 38 * c) + 1 + 12 + t = (52 + 38 * c) + (13 + t) by omega, kcS_s, show 13 + t + 1 = 13 + (t + 1) by omega]
    exact ih (t + 1) (by omega)
theorem lp_R_keep1 {X : Mem} {q : Nat → Int32} {c : Nat} {Q : Option Value → Mem → Prop} (hX : Ok X) (hc : c < 30) (kx : JM 0 m_R_keep Q 112 [some (.ref 244), some (.int (nI (52 + 38 * c))), some (.int (nI 12))] [] (pA X 245 (ofF 1217 (kcS q c (1 + 12))))) : ∀ (f t : Nat), t + f = 12 → JM 0 m_R_keep Q 81 [some (.ref 244), some (.int (nI (52 + 38 * c))), some (.int (nI t))] [] (pA X 245 (ofF 1217 (kcS q c (1 + t)))) := by
  intro f
  induction f with
  | zero =>
    intro t ht
    obtain rfl : t = 12 := by omega
    refine J_iload_n (i := 2) d_R_keep_81 rfl rfl ?_
    refine J_bipush (v := nI 12) d_R_keep_82 rfl ?_
    refine N_icmp_ge (tgt := 112) d_R_keep_84 (by decide) (by omega) (by omega) (fun c84 => ?_) (fun c84 => absurd c84 (by decide))
    exact kx
  | succ f ih =>
    intro t ht
    have hX1 : Ok (pA X 245 (ofF 1217 (kcS q c (1 + t)))) := okRow hX
    refine J_iload_n (i := 2) d_R_keep_81 rfl rfl ?_
    refine J_bipush (v := nI 12) d_R_keep_82 rfl ?_
    refine N_icmp_ge (tgt := 112) d_R_keep_84 (by decide) (by omega) (by omega) (fun c84 => absurd c84 (by omega)) (fun c84 => ?_)
    refine J_aload_n (i := 0) d_R_keep_87 rfl rfl ?_
    refine M_getR (b := 245) d_R_keep_88 f_R_7 rfl rfl rfl ?_
    refine J_iload_n (i := 1) d_R_keep_91 rfl rfl ?_
    refine J_iconst (v := nI 1) d_R_keep_92 rfl ?_
    refine N_iadd d_R_keep_93 ?_
    refine J_iload_n (i := 2) d_R_keep_94 rfl rfl ?_
    refine N_iadd d_R_keep_95 ?_
    refine J_aload_n (i := 0) d_R_keep_96 rfl rfl ?_
    refine M_getR (b := 245) d_R_keep_97 f_R_7 rfl rfl rfl ?_
    refine J_bipush (v := nI 6) d_R_keep_100 rfl ?_
    refine J_iload_n (i := 2) d_R_keep_102 rfl rfl ?_
    refine N_iadd d_R_keep_103 ?_
    refine N_iald (x := (q (6 + t))) d_R_keep_104 rfl (by omega) (ltL hX1 (a := 245) (n := 1217) (by decide) rfl (by omega)) (by rw [pA_at, ofF_get (by omega)]; exact kcS_o q (by omega) hc (by omega)) ?_
    refine N_iast d_R_keep_105 rfl (by decide) (by omega) (ltL hX1 (a := 245) (n := 1217) (by decide) rfl (by omega)) ?_
    refine N_iinc (a := t) (c := 1) (L1 := [some (.ref 244), some (.int (nI (52 + 38 * c))), some (.int (nI (t + 1)))]) d_R_keep_106 rfl rfl (by decide) rfl ?_
    refine J_goto (tgt := 81) d_R_keep_109 (by decide) ?_
    rw [pA_pA, pA_at, ofF_set, ← now_y q (t := t) (by omega), show (52 + 38 * c) + 1 + t = (52 + 38 * c) + (1 + t) by omega, kcS_s, show 1 + t + 1 = 1 + (t + 1) by omega]
    exact ih (t + 1) (by omega)
theorem kcS_1 (q : Nat → Int32) {c : Nat} : ofF 1217 (upF q (52 + 38 * c) (q 0)) = ofF 1217 (kcS q c 1) := by
  rw [← kcS_s (q := q) (i := 0)]
  refine ofF_cong (fun k hk => ?_)
  by_cases e : k = 52 + 38 * c
  · rw [e, upF_at, show 52 + 38 * c + 0 = 52 + 38 * c from rfl, upF_at]; rfl
  · rw [upF_o e, upF_o (show k ≠ 52 + 38 * c + 0 from e)]
    unfold kcS
    rw [if_neg (by omega)]
/-- the row q, c steps kept, with what is now as a step more -/
def kpC (q : Nat → Int32) (c : Nat) : Nat → Int32 := upF (kcS q c 38) 3 (nI (c + 1))
theorem lp_R_keep0 {X : Mem} {q : Nat → Int32} {c : Nat} {z1 z2 : Option Value} {Q : Option Value → Mem → Prop} (hX : Ok X) (hc : c < 30) (h3 : q 3 = nI c) (kx : Q none (pA X 245 (ofF 1217 (kpC q c)))) : JM 0 m_R_keep Q 54 [some (.ref 244), z1, z2] [] (pA X 245 (ofF 1217 q)) := by
  have hX1 : Ok (pA X 245 (ofF 1217 q)) := okRow hX
  refine J_bipush (v := nI 52) d_R_keep_54 rfl ?_
  refine J_bipush (v := nI 38) d_R_keep_56 rfl ?_
  refine J_aload_n (i := 0) d_R_keep_58 rfl rfl ?_
  refine M_getR (b := 245) d_R_keep_59 f_R_7 rfl rfl rfl ?_
  refine J_iconst (v := nI 3) d_R_keep_62 rfl ?_
  refine N_iald (x := (nI c)) d_R_keep_63 rfl (by omega) (ltL hX1 (a := 245) (n := 1217) (by decide) rfl (by omega)) (by rw [pA_at, ofF_get (by decide)]; exact h3) ?_
  refine N_imul d_R_keep_64 ?_
  refine N_iadd d_R_keep_65 ?_
  refine J_istore_n (i := 1) (L1 := [some (.ref 244), some (.int (nI (52 + (38 * c)))), z2]) d_R_keep_66 rfl (by decide) rfl ?_
  refine J_aload_n (i := 0) d_R_keep_67 rfl rfl ?_
  refine M_getR (b := 245) d_R_keep_68 f_R_7 rfl rfl rfl ?_
  refine J_iload_n (i := 1) d_R_keep_71 rfl rfl ?_
  refine J_aload_n (i := 0) d_R_keep_72 rfl rfl ?_
  refine M_getR (b := 245) d_R_keep_73 f_R_7 rfl rfl rfl ?_
  refine J_iconst (v := nI 0) d_R_keep_76 rfl ?_
  refine N_iald (x := (q 0)) d_R_keep_77 rfl (by omega) (ltL hX1 (a := 245) (n := 1217) (by decide) rfl (by omega)) (by rw [pA_at, ofF_get (by decide)]) ?_
  refine N_iast d_R_keep_78 rfl (by decide) (by omega) (ltL hX1 (a := 245) (n := 1217) (by decide) rfl (by omega)) ?_
  refine J_iconst (v := nI 0) d_R_keep_79 rfl ?_
  refine J_istore_n (i := 2) (L1 := [some (.ref 244), some (.int (nI (52 + (38 * c)))), some (.int (nI 0))]) d_R_keep_80 rfl (by decide) rfl ?_
  rw [pA_pA, pA_at, ofF_set, kcS_1]
  refine lp_R_keep1 hX hc ?_ 12 0 rfl
  refine J_iconst (v := nI 0) d_R_keep_112 rfl ?_
  refine J_istore_n (i := 2) (L1 := [some (.ref 244), some (.int (nI (52 + 38 * c))), some (.int (nI 0))]) d_R_keep_113 rfl (by decide) rfl ?_
  refine lp_R_keep2 hX hc ?_ 25 0 rfl
  refine J_aload_n (i := 0) d_R_keep_149 rfl rfl ?_
  refine M_getR (b := 245) d_R_keep_150 f_R_7 rfl rfl rfl ?_
  refine J_iconst (v := nI 3) d_R_keep_153 rfl ?_
  refine J_dup2 d_R_keep_154 rfl rfl ?_
  refine N_iald (x := (nI c)) d_R_keep_155 rfl (by omega) (ltL (okRow hX) (a := 245) (n := 1217) (by decide) rfl (by omega)) (by rw [pA_at, ofF_get (by decide), kcS_o q (by omega) hc (by decide)]; exact h3) ?_
  refine J_iconst (v := nI 1) d_R_keep_156 rfl ?_
  refine N_iadd d_R_keep_157 ?_
  refine N_iast d_R_keep_158 rfl (by decide) (by omega) (ltL (okRow hX) (a := 245) (n := 1217) (by decide) rfl (by omega)) ?_
  refine M_vr d_R_keep_159 rfl ?_
  rw [pA_pA, pA_at, ofF_set]
  exact kx
theorem kp_lo {r : Nat → Int32} (h : tn (r 3) < 30) : ofF 1217 (kpC r (tn (r 3))) = ofF 1217 (kpR r) := by
  refine ofF_cong (fun j hj => ?_)
  unfold kpC kpR
  rw [Nat.min_eq_left (show tn (r 3) ≤ 29 by omega)]
  by_cases e : j = 3
  · rw [if_pos e, e, upF_at]
  · rw [if_neg e, upF_o e]
    unfold kcS
    by_cases q : 52 + 38 * tn (r 3) ≤ j ∧ j < 52 + 38 * tn (r 3) + 38
    · rw [if_pos q, if_pos (by omega)]
    · rw [if_neg q, if_neg (by omega), if_neg (by omega)]
theorem now_sh {r : Nat → Int32} {v : Int32} {k : Nat} (hk : k < 38) : nowG (upF (rSh r 1102) 3 v) k = nowG r k := by
  have e : ∀ j, j ≠ 3 → (j < 52 ∨ 1154 ≤ j) → upF (rSh r 1102) 3 v j = r j := fun j h3 hj => by
    rw [upF_o h3]
    unfold rSh
    rw [if_neg (by omega)]
  unfold nowG
  by_cases h0 : k = 0
  · rw [if_pos h0, if_pos h0]; exact e 0 (by decide) (by decide)
  · rw [if_neg h0, if_neg h0]
    by_cases h1 : k < 13
    · rw [if_pos h1, if_pos h1]; exact e _ (by omega) (by omega)
    · rw [if_neg h1, if_neg h1]; exact e _ (by omega) (by omega)
theorem kp_hi {r : Nat → Int32} (h : tn (r 3) = 30) : ofF 1217 (kpC (upF (rSh r 1102) 3 (nI 29)) 29) = ofF 1217 (kpR r) := by
  refine ofF_cong (fun j hj => ?_)
  unfold kpC kpR
  rw [h, show min 30 29 = 29 from rfl]
  by_cases e : j = 3
  · rw [if_pos e, e, upF_at]
  · rw [if_neg e, upF_o e]
    unfold kcS
    by_cases q : 52 + 38 * 29 ≤ j ∧ j < 52 + 38 * 29 + 38
    · rw [if_pos q, if_pos (by omega), now_sh (by omega)]
    · rw [if_neg q, if_neg (by omega), upF_o e]
      unfold rSh
      by_cases p : 52 ≤ j ∧ j < 52 + 1102
      · rw [if_pos p, if_pos (by omega)]
      · rw [if_neg p, if_neg (by omega)]
theorem S_R_keep {X : Mem} {r : Nat → Int32} (hX : Ok X) (hR : X.2.1 245 = ofF 1217 r) (h3 : r 3 = nI (tn (r 3))) (h3l : tn (r 3) ≤ 30) : CM 0 m_R_keep [.ref 244] X (rV (pA X 245 (ofF 1217 (kpR r)))) := by
  refine CM_of (L := [some (.ref 244), none, none]) 2 ok_R_keep (fun _ => Nat.le_of_ble_eq_true rfl) rfl ?_
  refine J_aload_n (i := 0) d_R_keep_0 rfl rfl ?_
  refine M_getR (b := 245) d_R_keep_1 f_R_7 rfl rfl rfl ?_
  refine J_iconst (v := nI 3) d_R_keep_4 rfl ?_
  refine N_iald (x := (nI (tn (r 3)))) d_R_keep_5 rfl (by omega) (ltL hX (a := 245) (n := 1217) (by decide) rfl (by omega)) (by rw [hR, ofF_get (by decide)]; exact h3) ?_
  refine J_bipush (v := nI 30) d_R_keep_6 rfl ?_
  refine N_icmp_ne (tgt := 54) d_R_keep_8 (by decide) (by omega) (by omega) (fun c8 => ?_) (fun c8 => ?_)
  · exact (lp_R_keep0 (q := r) (c := tn (r 3)) hX (by omega) h3 ⟨rfl, by rw [kp_lo (by omega)]⟩).eq rfl rfl (congrArg hm (by rw [← hR, pA_eta]))
  · refine J_iconst (v := nI 0) d_R_keep_11 rfl ?_
    refine J_istore_n (i := 1) (L1 := [some (.ref 244), some (.int (nI 0)), none]) d_R_keep_12 rfl (by decide) rfl ?_
    have h30 : tn (r 3) = 30 := by omega
    refine (lp_R_keep (r := r) hX ?_ 1102 0 rfl).eq rfl rfl (congrArg hm (by rw [rSh_0, ← hR, pA_eta]))
    have hX1 : Ok (pA X 245 (ofF 1217 (rSh r 1102))) := okRow hX
    refine J_aload_n (i := 0) d_R_keep_44 rfl rfl ?_
    refine M_getR (b := 245) d_R_keep_45 f_R_7 rfl rfl rfl ?_
    refine J_iconst (v := nI 3) d_R_keep_48 rfl ?_
    refine J_dup2 d_R_keep_49 rfl rfl ?_
    refine N_iald (x := (nI 30)) d_R_keep_50 rfl (by omega) (ltL hX1 (a := 245) (n := 1217) (by decide) rfl (by omega)) (by rw [pA_at, ofF_get (by decide)]; exact h3.trans (congrArg nI h30)) ?_
    refine J_iconst (v := nI 1) d_R_keep_51 rfl ?_
    refine N_isub d_R_keep_52 (by omega) ?_
    refine N_iast d_R_keep_53 rfl (by decide) (by omega) (ltL hX1 (a := 245) (n := 1217) (by decide) rfl (by omega)) ?_
    rw [pA_pA, pA_at, ofF_set]
    exact lp_R_keep0 (q := upF (rSh r 1102) 3 (nI 29)) (c := 29) hX (by decide) upF_at ⟨rfl, by rw [kp_hi h30]⟩

