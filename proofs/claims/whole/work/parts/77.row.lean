/-- the row r with g as what is now -/
def rowOf (r g : Nat → Int32) : Nat → Int32 := fun j => if j = 0 then g 0 else if 6 ≤ j ∧ j < 18 then g (j - 5) else if 1192 ≤ j ∧ j < 1217 then g (j - 1179) else r j
theorem now_row (r g : Nat → Int32) {k : Nat} (hk : k < 38) : nowG (rowOf r g) k = g k := by
  unfold nowG rowOf
  by_cases h0 : k = 0
  · rw [if_pos h0, if_pos rfl, h0]
  · rw [if_neg h0]
    by_cases h1 : k < 13
    · rw [if_pos h1, if_neg (by omega), if_pos (by omega), show 5 + k - 5 = k by omega]
    · rw [if_neg h1, if_neg (by omega), if_neg (by omega), if_pos (by omega), show 1179 + k - 1179 = k by omega]
theorem row_o (r g : Nat → Int32) {j : Nat} (h0 : j ≠ 0) (h1 : j < 6 ∨ 18 ≤ j) (h2 : j < 1192) : rowOf r g j = r j := by
  unfold rowOf
  rw [if_neg h0, if_neg (by omega), if_neg (by omega)]
theorem row_y (r g : Nat → Int32) {k : Nat} (h1 : 1 ≤ k) (h2 : k < 13) : rowOf r g (5 + k) = g k := by
  unfold rowOf
  rw [if_neg (by omega), if_pos (by omega), show 5 + k - 5 = k by omega]
theorem row_b (r g : Nat → Int32) {i : Nat} (h : i < 25) : rowOf r g (1192 + i) = g (13 + i) := by
  unfold rowOf
  rw [if_neg (by omega), if_neg (by omega), if_pos (by omega), show 1192 + i - 1179 = 13 + i by omega]
theorem row_up (r g : Nat → Int32) {k : Nat} {v : Int32} (h1 : 1 ≤ k) (h2 : k < 13) : ofF 1217 (upF (rowOf r g) (5 + k) v) = ofF 1217 (rowOf r (upF g k v)) := by
  refine ofF_cong (fun j hj => ?_)
  by_cases e : j = 5 + k
  · rw [e, upF_at, row_y _ _ h1 h2, upF_at]
  · rw [upF_o e]
    unfold rowOf
    by_cases q0 : j = 0
    · rw [if_pos q0, if_pos q0, upF_o (by omega)]
    · rw [if_neg q0, if_neg q0]
      by_cases q1 : 6 ≤ j ∧ j < 18
      · rw [if_pos q1, if_pos q1, upF_o (by omega)]
      · rw [if_neg q1, if_neg q1]
        by_cases q2 : 1192 ≤ j ∧ j < 1217
        · rw [if_pos q2, if_pos q2, upF_o (by omega)]
        · rw [if_neg q2, if_neg q2]
theorem row_self (r : Nat → Int32) : ofF 1217 (rowOf r (nowG r)) = ofF 1217 r := by
  refine ofF_cong (fun j hj => ?_)
  unfold rowOf nowG
  by_cases q0 : j = 0
  · rw [if_pos q0, if_pos rfl, q0]
  · rw [if_neg q0]
    by_cases q1 : 6 ≤ j ∧ j < 18
    · rw [if_pos q1, if_neg (by omega), if_pos (by omega), show 5 + (j - 5) = j by omega]
    · rw [if_neg q1]
      by_cases q2 : 1192 ≤ j ∧ j < 1217
      · rw [if_pos q2, if_neg (by omega), if_neg (by omega), show 1179 + (j - 1179) = j by omega]
      · rw [if_neg q2]
theorem WFg_r {r : Nat → Int32} (h : WFr r) : WFg (nowG r) := by
  have c : allN (fun k => decide (bdN k = bd (if k = 0 then 0 else if k < 13 then 5 + k else 1179 + k))) 38 = true := by decide +kernel
  intro k hk
  have e := of_decide_eq_true (allN_iff.mp c k hk)
  rw [e]
  unfold nowG
  by_cases h0 : k = 0
  · rw [if_pos h0, if_pos h0]; exact h.1 0 (by decide) (by decide)
  · rw [if_neg h0, if_neg h0]
    by_cases h1 : k < 13
    · rw [if_pos h1, if_pos h1]; exact h.1 (5 + k) (by omega) (by omega)
    · rw [if_neg h1, if_neg h1]; exact h.1 (1179 + k) (by omega) (by omega)
/-- the reference's row holds r with g as what is now -/
def RNow (X : Mem) (r g : Nat → Int32) : Prop := X.2.1 245 = ofF 1217 (rowOf r g)
theorem rn_y {X : Mem} {r g : Nat → Int32} (h : RNow X r g) {k : Nat} (h1 : 1 ≤ k) (h2 : k < 13) : (X.2.1 245).getD (5 + k) 0 = g k := by
  rw [h, ofF_get (by omega)]; exact row_y r g h1 h2
theorem rn_0 {X : Mem} {r g : Nat → Int32} (h : RNow X r g) : (X.2.1 245).getD 0 0 = g 0 := by
  rw [h, ofF_get (by omega)]; rfl
theorem rn_b {X : Mem} {r g : Nat → Int32} (h : RNow X r g) {i : Nat} (hi : i < 25) : (X.2.1 245).getD (1192 + i) 0 = g (13 + i) := by
  rw [h, ofF_get (by omega)]; exact row_b r g hi
theorem rn_o {X : Mem} {r g : Nat → Int32} (h : RNow X r g) {j : Nat} (h0 : j ≠ 0) (h1 : j < 6 ∨ 18 ≤ j) (h2 : j < 1192) : (X.2.1 245).getD j 0 = r j := by
  rw [h, ofF_get (by omega)]; exact row_o r g h0 h1 h2
theorem rn_set {X : Mem} {r g : Nat → Int32} (h : RNow X r g) {k : Nat} {v : Int32} (h1 : 1 ≤ k) (h2 : k < 13) : (X.2.1 245).set (5 + k) v = ofF 1217 (rowOf r (upF g k v)) := by
  rw [h, ofF_set, row_up r g h1 h2]
theorem anew_eq {x : Nat} (hx : x < 1000000) : ((lI (x : Int) * 677 + 557) - (lI (x : Int) * 677 + 557) / 30983 * 30983).toInt32 = nI ((x * 677 + 557) % 30983) := by
  rw [show (677 : Int64) = lI 677 from rfl, show (557 : Int64) = lI 557 from rfl, show (30983 : Int64) = lI 30983 from rfl, lI_mul, lI_add, lI_div (a := (x : Int) * 677 + 557) (b := 30983) ⟨by omega, by omega⟩ ⟨by decide, by decide⟩, lI_mul, lI_sub, lI_32, ← jI_n]
  congr 1
  have e : ((x : Int) * 677 + 557).tdiv 30983 = (((x * 677 + 557) / 30983 : Nat) : Int) := by
    rw [show ((x : Int) * 677 + 557) = ((x * 677 + 557 : Nat) : Int) by omega]
    rfl
  rw [e]
  omega
theorem S_R_anew {X : Mem} {r g : Nat → Int32} (hX : Ok X) (hR : RNow X r g) (hW : WFg g) : CM 0 m_R_anew [.ref 244] X (rV (pA X 245 (ofF 1217 (rowOf r (gN g))))) := by
  have w2 := wg_n hW (k := 2) (n := 30982) (by decide) (by decide)
  refine CM_of (L := [some (.ref 244)]) 0 ok_R_anew (fun _ => Nat.le_of_ble_eq_true rfl) rfl ?_
  refine J_aload_n (i := 0) d_R_anew_0 rfl rfl ?_
  refine M_getR (b := 245) d_R_anew_1 f_R_7 rfl rfl rfl ?_
  refine J_bipush (v := nI 7) d_R_anew_4 rfl ?_
  refine J_aload_n (i := 0) d_R_anew_6 rfl rfl ?_
  refine M_getR (b := 245) d_R_anew_7 f_R_7 rfl rfl rfl ?_
  refine J_bipush (v := nI 7) d_R_anew_10 rfl ?_
  refine N_iald (x := (nI (tn (g 2)))) d_R_anew_12 rfl (by omega) (ltL hX (a := 245) (n := 1217) (by decide) rfl (by omega)) ((rn_y hR (k := 2) (by decide) (by decide)).trans w2.1) ?_
  refine J_i2l d_R_anew_13 ?_
  rw [nI_64 (v := tn (g 2)) (by omega)]
  refine J_ldc2 d_R_anew_14 w_R_373 ?_
  refine J_lmul d_R_anew_17 ?_
  refine J_ldc2 d_R_anew_18 w_R_375 ?_
  refine J_ladd d_R_anew_21 ?_
  refine J_ldc2 d_R_anew_22 w_R_377 ?_
  refine J_lrem d_R_anew_25 (by decide) ?_
  refine J_l2i d_R_anew_26 ?_
  rw [anew_eq (x := tn (g 2)) (by omega)]
  refine N_iast d_R_anew_27 rfl (by decide) (by omega) (ltL hX (a := 245) (n := 1217) (by decide) rfl (by omega)) ?_
  refine M_vr d_R_anew_28 rfl ?_
  exact ⟨rfl, by rw [rn_set hR (k := 2) (by decide) (by decide)]; rfl⟩

