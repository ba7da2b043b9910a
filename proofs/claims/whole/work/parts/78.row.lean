theorem row_cong {r g g' : Nat → Int32} (h : ∀ k, k < 38 → g k = g' k) : ofF 1217 (rowOf r g) = ofF 1217 (rowOf r g') := by
  refine ofF_cong (fun j hj => ?_)
  unfold rowOf
  by_cases q0 : j = 0
  · rw [if_pos q0, if_pos q0]; exact h 0 (by decide)
  · rw [if_neg q0, if_neg q0]
    by_cases q1 : 6 ≤ j ∧ j < 18
    · rw [if_pos q1, if_pos q1]; exact h _ (by omega)
    · rw [if_neg q1, if_neg q1]
      by_cases q2 : 1192 ≤ j ∧ j < 1217
      · rw [if_pos q2, if_pos q2]; exact h _ (by omega)
      · rw [if_neg q2, if_neg q2]
theorem row_upb (r g : Nat → Int32) {i : Nat} {v : Int32} (hi : i < 25) : ofF 1217 (upF (rowOf r g) (1192 + i) v) = ofF 1217 (rowOf r (upF g (13 + i) v)) := by
  refine ofF_cong (fun j hj => ?_)
  by_cases e : j = 1192 + i
  · rw [e, upF_at, row_b _ _ hi, upF_at]
  · rw [upF_o e]
    unfold rowOf
    by_cases q0 : j = 0
    · rw [if_pos q0, if_pos q0, upF_o (by omega)]
    · rw [if_neg q0, if_neg q0]
      by_cases q1 : 6 ≤ j ∧ j < 18
      · rw [if_pos q1, if_pos q1, upF_o (by omega)]
      · rw [if_neg q1, if_neg q1]
        by_cases q2 : 1192 ≤ j ∧ j < 1217
        · rw [if_pos q2, if_pos q2, upF_o (by omega)]
        · rw [if_neg q2, if_neg q2]
theorem rn_setb {X : Mem} {r g : Nat → Int32} (h : RNow X r g) {i : Nat} {v : Int32} (hi : i < 25) : (X.2.1 245).set (1192 + i) v = ofF 1217 (rowOf r (upF g (13 + i) v)) := by
  rw [h, ofF_set, row_upb r g hi]
/-- the first i lines moved -/
def gSh (g : Nat → Int32) (i : Nat) : Nat → Int32 := fun k => if 13 ≤ k ∧ k < 13 + i then g (k + 1) else g k
theorem gSh_s (g : Nat → Int32) {i : Nat} : ∀ k, k < 38 → upF (gSh g i) (13 + i) (g (13 + (i + 1))) k = gSh g (i + 1) k := by
  intro k hk
  by_cases e : k = 13 + i
  · rw [e, upF_at]
    unfold gSh
    rw [if_pos (by omega), show 13 + (i + 1) = 13 + i + 1 by omega]
  · rw [upF_o e]
    unfold gSh
    by_cases q : 13 ≤ k ∧ k < 13 + i
    · rw [if_pos q, if_pos (by omega)]
    · rw [if_neg q, if_neg (by omega)]
theorem S_R_write_0 {X : Mem} {m wt : Nat} {k : Int32} (h30 : X.1 244 30 = nI 0) : CM 0 m_R_write [.ref 244, .int (nI m), .int (nI wt), .int k] X (rV X) := by
  refine CM_of (L := [some (.ref 244), some (.int (nI m)), some (.int (nI wt)), some (.int k), none]) 1 ok_R_write (fun _ => Nat.le_of_ble_eq_true rfl) rfl ?_
  refine J_aload_n (i := 0) d_R_write_0 rfl rfl ?_
  refine M_get (x := (nI 0)) d_R_write_1 f_R_61 rfl rfl h30 ?_
  refine N_if_ne (tgt := 8) d_R_write_4 (by decide) (by omega) (fun c4 => absurd c4 (by decide)) (fun c4 => ?_)
  refine M_vr d_R_write_7 rfl ?_
  exact ⟨rfl, rfl⟩

theorem S_R_write_s {X : Mem} {m wt s1 : Nat} {r g : Nat → Int32} {k : Int32} (hX : Ok X) (hR : RNow X r g) (hW : WFg g) (hm : m < 8) (hw : wt < 4) (hs : s1 < 21) (hk : k + nI 1 = nI s1) (h30 : X.1 244 30 = nI 1) (hL : tn (g 4) < 25) : CM 0 m_R_write [.ref 244, .int (nI m), .int (nI wt), .int k] X (rV (pA X 245 (ofF 1217 (rowOf r (gWrite g m wt s1))))) := by
  have wL := wg_n hW (k := 4) (n := 25) (by decide) (by decide)
  have wY := wg_n hW (k := 1) (n := 9999) (by decide) (by decide)
  have g9 : (X.2.1 245).getD 9 0 = nI (tn (g 4)) := (rn_y hR (k := 4) (by decide) (by decide)).trans wL.1
  have g6 : (X.2.1 245).getD 6 0 = nI (tn (g 1)) := (rn_y hR (k := 1) (by decide) (by decide)).trans wY.1
  generalize hLL : tn (g 4) = L at *
  generalize hYY : tn (g 1) = y at *
  refine CM_of (L := [some (.ref 244), some (.int (nI m)), some (.int (nI wt)), some (.int k), none]) 1 ok_R_write (fun _ => Nat.le_of_ble_eq_true rfl) rfl ?_
  refine J_aload_n (i := 0) d_R_write_0 rfl rfl ?_
  refine M_get (x := (nI 1)) d_R_write_1 f_R_61 rfl rfl h30 ?_
  refine N_if_ne (tgt := 8) d_R_write_4 (by decide) (by omega) (fun c4 => ?_) (fun c4 => absurd c4 (by decide))
  refine J_aload_n (i := 0) d_R_write_8 rfl rfl ?_
  refine M_getR (b := 245) d_R_write_9 f_R_7 rfl rfl rfl ?_
  refine J_bipush (v := nI 9) d_R_write_12 rfl ?_
  refine N_iald (x := (nI L)) d_R_write_14 rfl (by omega) (ltL hX (a := 245) (n := 1217) (by decide) rfl (by omega)) g9 ?_
  refine J_bipush (v := nI 25) d_R_write_15 rfl ?_
  refine N_icmp_ne (tgt := 71) d_R_write_17 (by decide) (by omega) (by omega) (fun c17 => ?_) (fun c17 => absurd c17 (by omega))
  refine J_aload_n (i := 0) d_R_write_71 rfl rfl ?_
  refine M_getR (b := 245) d_R_write_72 f_R_7 rfl rfl rfl ?_
  refine J_sipush (v := nI 1192) d_R_write_75 rfl ?_
  refine J_aload_n (i := 0) d_R_write_78 rfl rfl ?_
  refine M_getR (b := 245) d_R_write_79 f_R_7 rfl rfl rfl ?_
  refine J_bipush (v := nI 9) d_R_write_82 rfl ?_
  refine N_iald (x := (nI L)) d_R_write_84 rfl (by omega) (ltL hX (a := 245) (n := 1217) (by decide) rfl (by omega)) g9 ?_
  refine N_iadd d_R_write_85 ?_
  refine J_aload_n (i := 0) d_R_write_86 rfl rfl ?_
  refine M_getR (b := 245) d_R_write_87 f_R_7 rfl rfl rfl ?_
  refine J_bipush (v := nI 6) d_R_write_90 rfl ?_
  refine N_iald (x := (nI y)) d_R_write_92 rfl (by omega) (ltL hX (a := 245) (n := 1217) (by decide) rfl (by omega)) g6 ?_
  refine J_bipush (v := nI 8) d_R_write_93 rfl ?_
  refine N_imul d_R_write_95 ?_
  refine J_iload_n (i := 1) d_R_write_96 rfl rfl ?_
  refine N_iadd d_R_write_97 ?_
  refine J_iconst (v := nI 4) d_R_write_98 rfl ?_
  refine N_imul d_R_write_99 ?_
  refine J_iload_n (i := 2) d_R_write_100 rfl rfl ?_
  refine N_iadd d_R_write_101 ?_
  refine J_bipush (v := nI 21) d_R_write_102 rfl ?_
  refine N_imul d_R_write_104 ?_
  refine J_iload_n (i := 3) d_R_write_105 rfl rfl ?_
  refine J_iadd d_R_write_106 ?_
  refine J_iconst (v := nI 1) d_R_write_107 rfl ?_
  refine J_iadd d_R_write_108 ?_
  refine I_ton (n := ((y * 8 + m) * 4 + wt) * 21 + s1) (by rw [Int32.add_assoc, hk, nI_add]) ?_
  refine N_iast d_R_write_109 rfl (by decide) (by omega) (ltL hX (a := 245) (n := 1217) (by decide) rfl (by omega)) ?_
  refine J_aload_n (i := 0) d_R_write_110 rfl rfl ?_
  refine M_getR (b := 245) d_R_write_111 f_R_7 rfl rfl rfl ?_
  refine J_bipush (v := nI 9) d_R_write_114 rfl ?_
  refine J_dup2 d_R_write_116 rfl rfl ?_
  refine N_iald (x := (nI L)) d_R_write_117 rfl (by omega) (ltL (okS hX rfl) (a := 245) (n := 1217) (by decide) rfl (by omega)) (by rw [pA_at, set_ne (by omega)]; exact g9) ?_
  refine J_iconst (v := nI 1) d_R_write_118 rfl ?_
  refine N_iadd d_R_write_119 ?_
  refine N_iast d_R_write_120 rfl (by decide) (by omega) (ltL (okS hX rfl) (a := 245) (n := 1217) (by decide) rfl (by omega)) ?_
  refine M_vr d_R_write_121 rfl ?_
  refine ⟨rfl, ?_⟩
  rw [pA_pA, pA_at, rn_setb hR hL]
  have h2 : RNow (pA X 245 (ofF 1217 (rowOf r (upF g (13 + L) (nI (((y * 8 + m) * 4 + wt) * 21 + s1)))))) r (upF g (13 + L) (nI (((y * 8 + m) * 4 + wt) * 21 + s1))) := pA_at
  have h3 := rn_set h2 (k := 4) (v := nI (L + 1)) (by decide) (by decide)
  rw [pA_at] at h3
  rw [show (9 : Nat) = 5 + 4 from rfl, h3]
  refine congrArg (pA X 245) ?_
  refine row_cong (fun q hq => ?_)
  unfold gWrite
  rw [hLL, hYY, Nat.min_eq_left (show L ≤ 24 by omega)]
  by_cases e4 : q = 4
  · rw [e4, upF_at, if_pos rfl]
  · rw [upF_o e4, if_neg e4, if_pos hL]
    by_cases e : q = 13 + L
    · rw [e, upF_at, if_neg (by omega), if_pos rfl]
    · rw [upF_o e, if_neg e]
      split <;> rfl

