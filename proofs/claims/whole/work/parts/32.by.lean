/-- how many texts there are, and which rules -/
def CTx (X : Mem) (tx : Nat) : Prop := tx ≤ 4 ∧ X.1 18 3 = nI tx
def RTx (X : Mem) (tx : Nat) : Prop := tx ≤ 4 ∧ (X.2.1 245).getD 1 0 = nI tx
def byB (tx : Nat) (v : Int32) : Bool := decide (v = -1) || mkB tx v
def byF (tx : Nat) (v : Int32) : Int32 := if byB tx v then 1 else 0
theorem by_isIn {tx : Nat} {v : Int32} (ht : tx ≤ 4) : isInB v (-1) (nI tx - nI 1) = byB tx v := by
  have hneg : ∀ tx, tx ≤ 4 → ¬ nI tx - nI 1 < -1 := by decide
  by_cases h1 : v = -1
  · subst h1
    have : ¬ nI tx - nI 1 < -1 := hneg tx ht
    simp [isInB, byB, this]
  · by_cases h0 : v < 0
    · have h2 : v < -1 := by
        rw [Int32.lt_iff_toInt_lt] at h0 ⊢
        have h3 : v.toInt ≠ (-1 : Int32).toInt := fun q => h1 (Int32.toInt_inj.mp q)
        have e1 : (-1 : Int32).toInt = -1 := by decide
        have e0 : (0 : Int32).toInt = 0 := by decide
        omega
      simp [isInB, byB, mkB, h1, h0, h2]
    · have h2 : ¬ v < -1 := fun q => h0 (by
        rw [Int32.lt_iff_toInt_lt] at q ⊢
        have e1 : (-1 : Int32).toInt = -1 := by decide
        have e0 : (0 : Int32).toInt = 0 := by decide
        omega)
      have h3 : ¬ v < nI 0 := h0
      have := mk_isIn (m := tx) (i := v) (by omega)
      rw [isInB, decide_eq_false h3] at this
      rw [isInB, decide_eq_false h2, byB, decide_eq_false h1, Bool.false_or]
      exact this
theorem S_O_isText {X : Mem} {tx : Nat} (hT : CTx X tx) {v : Int32} : CM 0 m_O_isText [.ref 8, .int v] X (rB (mkB tx v) X) := by
  refine CM_of (L := [some (.ref 8), some (.int v)]) 0 ok_O_isText (fun _ => Nat.le_of_ble_eq_true rfl) rfl ?_
  refine J_iload_n (i := 1) d_O_isText_0 rfl rfl ?_
  refine J_if_lt (tgt := 19) d_O_isText_1 (by decide) (fun c1 => ?_) (fun c1 => ?_)
  · refine J_iconst (v := nI 0) d_O_isText_19 rfl ?_
    refine J.eq (st1 := [.int (b2i false)]) ?_ rfl rfl rfl
    refine M_ir d_O_isText_20 rfl b2i_nar ?_
    exact ⟨by first | (simp [mkB, b2i, c1]; done) | rfl, rfl⟩
  · refine J_iload_n (i := 1) d_O_isText_4 rfl rfl ?_
    refine J_aload_n (i := 0) d_O_isText_5 rfl rfl ?_
    refine M_getR (b := 18) d_O_isText_6 f_O_48 rfl rfl rfl ?_
    refine M_get (x := (nI tx)) d_O_isText_9 f_O_85 rfl rfl hT.2 ?_
    refine J_icmp_ge (tgt := 19) d_O_isText_12 (by decide) (fun c12 => ?_) (fun c12 => ?_)
    · refine J_iconst (v := nI 0) d_O_isText_19 rfl ?_
      refine J.eq (st1 := [.int (b2i false)]) ?_ rfl rfl rfl
      refine M_ir d_O_isText_20 rfl b2i_nar ?_
      exact ⟨by first | (simp [mkB, b2i, c1, c12]; done) | rfl, rfl⟩
    · refine J_iconst (v := nI 1) d_O_isText_15 rfl ?_
      refine J_goto (tgt := 20) d_O_isText_16 (by decide) ?_
      refine J.eq (st1 := [.int (b2i true)]) ?_ rfl rfl rfl
      refine M_ir d_O_isText_20 rfl b2i_nar ?_
      exact ⟨by first | (simp [mkB, b2i, c1, c12]; done) | rfl, rfl⟩

def byX (tx : Nat) (v : Int32) (X : Mem) : Mem := if byB tx v then pF X 18 4 v else X
def byR (tx : Nat) (v : Int32) (l : List Int32) : List Int32 := if byB tx v then l.set 2 v else l
theorem S_O_by {X : Mem} {tx : Nat} (hT : CTx X tx) {v : Int32} : CM 1 m_O_by [.ref 8, .int v] X (rI (byF tx v) (byX tx v X)) := by
  refine CM_of (L := [some (.ref 8), some (.int v)]) 0 ok_O_by (fun _ => Nat.le_of_ble_eq_true rfl) rfl ?_
  refine J_iload_n (i := 1) d_O_by_0 rfl rfl ?_
  refine J_iconst (v := (-1)) d_O_by_1 rfl ?_
  refine J_icmp_eq (tgt := 15) d_O_by_2 (by decide) (fun c2 => ?_) (fun c2 => ?_)
  · refine J_aload_n (i := 0) d_O_by_15 rfl rfl ?_
    refine M_getR (b := 18) d_O_by_16 f_O_48 rfl rfl rfl ?_
    refine J_iload_n (i := 1) d_O_by_19 rfl rfl ?_
    refine M_put d_O_by_20 p_O_100 rfl rfl rfl rfl ?_
    refine J_iconst (v := nI 1) d_O_by_23 rfl ?_
    refine J.eq (st1 := [.int (b2i true)]) ?_ rfl rfl rfl
    refine M_ir d_O_by_24 rfl b2i_nar ?_
    have hB : byB tx v = true := by rw [byB, decide_eq_true c2, Bool.true_or]
    exact ⟨by rw [byF, hB] <;> rfl, by rw [byX, hB] <;> rfl⟩
  · refine J_aload_n (i := 0) d_O_by_5 rfl rfl ?_
    refine J_iload_n (i := 1) d_O_by_6 rfl rfl ?_
    refine CV_B (av := [.int v]) d_O_by_7 s_O_97 (M_rcv rfl (by decide) rfl) (S_O_isText hT) (by decide) rfl rfl (Nat.le_of_ble_eq_true rfl) ?_
    refine B_if_ne (tgt := 15) d_O_by_10 (by decide) (fun c10 => ?_) (fun c10 => ?_)
    · refine J_aload_n (i := 0) d_O_by_15 rfl rfl ?_
      refine M_getR (b := 18) d_O_by_16 f_O_48 rfl rfl rfl ?_
      refine J_iload_n (i := 1) d_O_by_19 rfl rfl ?_
      refine M_put d_O_by_20 p_O_100 rfl rfl rfl rfl ?_
      refine J_iconst (v := nI 1) d_O_by_23 rfl ?_
      refine J.eq (st1 := [.int (b2i true)]) ?_ rfl rfl rfl
      refine M_ir d_O_by_24 rfl b2i_nar ?_
      have hB : byB tx v = true := by rw [byB, c10, Bool.or_true]
      exact ⟨by rw [byF, hB] <;> rfl, by rw [byX, hB] <;> rfl⟩
    · refine J_iconst (v := nI 0) d_O_by_13 rfl ?_
      refine J.eq (st1 := [.int (b2i false)]) ?_ rfl rfl rfl
      refine M_ir d_O_by_14 rfl b2i_nar ?_
      have hB : byB tx v = false := by rw [byB, decide_eq_false c2, c10]; rfl
      exact ⟨by rw [byF, hB] <;> rfl, by rw [byX, hB] <;> rfl⟩

theorem S_R_by {X : Mem} (hX : Ok X) {tx : Nat} (hT : RTx X tx) {v : Int32} : CM 1 m_R_by [.ref 244, .int v] X (rI (byF tx v) (pA X 245 (byR tx v (X.2.1 245)))) := by
  refine CM_of (L := [some (.ref 244), some (.int v)]) 0 ok_R_by (fun _ => Nat.le_of_ble_eq_true rfl) rfl ?_
  refine J_iload_n (i := 1) d_R_by_0 rfl rfl ?_
  refine J_iconst (v := (-1)) d_R_by_1 rfl ?_
  refine J_aload_n (i := 0) d_R_by_2 rfl rfl ?_
  refine M_getR (b := 245) d_R_by_3 f_R_7 rfl rfl rfl ?_
  refine J_iconst (v := nI 1) d_R_by_6 rfl ?_
  refine N_iald (x := (nI tx)) d_R_by_7 rfl (by omega) (ltL hX (a := 245) (n := 1217) (by decide) rfl (by omega)) hT.2 ?_
  refine J_iconst (v := nI 1) d_R_by_8 rfl ?_
  refine J_isub d_R_by_9 ?_
  refine CS_B (av := [.int v, .int (-1), .int ((nI tx) - (nI 1))]) d_R_by_10 s_R_89 (S_R_isIn) (by decide) rfl rfl (Nat.le_of_ble_eq_true rfl) ?_
  refine B_if_ne (tgt := 18) d_R_by_13 (by decide) (fun c13 => ?_) (fun c13 => ?_)
  · refine J_aload_n (i := 0) d_R_by_18 rfl rfl ?_
    refine M_getR (b := 245) d_R_by_19 f_R_7 rfl rfl rfl ?_
    refine J_iconst (v := nI 2) d_R_by_22 rfl ?_
    refine J_iload_n (i := 1) d_R_by_23 rfl rfl ?_
    refine N_iast d_R_by_24 rfl (by decide) (by omega) (ltL hX (a := 245) (n := 1217) (by decide) rfl (by omega)) ?_
    refine J_iconst (v := nI 1) d_R_by_25 rfl ?_
    refine J.eq (st1 := [.int (b2i true)]) ?_ rfl rfl rfl
    refine M_ir d_R_by_26 rfl b2i_nar ?_
    have hB : byB tx v = true := by rw [← by_isIn hT.1]; exact c13
    exact ⟨by rw [byF, hB] <;> rfl, by rw [byR, hB] <;> rfl⟩
  · refine J_iconst (v := nI 0) d_R_by_16 rfl ?_
    refine J.eq (st1 := [.int (b2i false)]) ?_ rfl rfl rfl
    refine M_ir d_R_by_17 rfl b2i_nar ?_
    have hB : byB tx v = false := by rw [← by_isIn hT.1]; exact c13
    exact ⟨by rw [byF, hB] <;> rfl, by rw [byR, hB]; exact pA_eta.symm⟩

