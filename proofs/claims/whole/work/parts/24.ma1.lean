/-- the class's marks: m of them, their strokes st, what is registered rg -/
def CSt (X : Mem) (m : Nat) (st rg : Nat → Nat) : Prop := m ≤ 8 ∧ X.1 19 0 = nI m ∧ (∀ i, i < 8 → (X.2.1 20).getD i 0 = nI (st i) ∧ st i < 1048576) ∧ ∀ i, i < 8 → (X.2.1 114).getD i 0 = nI (rg i) ∧ rg i < 1048576
/-- the reference's -/
def RSt (X : Mem) (m : Nat) (st rg : Nat → Nat) : Prop := m ≤ 8 ∧ (X.2.1 245).getD 0 0 = nI m ∧ (∀ i, i < 8 → (X.2.1 245).getD (10 + i) 0 = nI (st i) ∧ st i < 1048576) ∧ ∀ i, i < 8 → (X.2.1 245).getD (18 + i) 0 = nI (rg i) ∧ rg i < 1048576
def mkB (m : Nat) (i : Int32) : Bool := !decide (i < 0) && !decide (nI m ≤ i)
theorem mk_n {m : Nat} {i : Int32} (hm : m ≤ 8) (h : mkB m i = true) : ∃ j, j < m ∧ i = nI j := by
  simp only [mkB, Bool.and_eq_true, Bool.not_eq_true', decide_eq_false_iff_not] at h
  obtain ⟨j, h1, rfl⟩ := nI_of h.1
  refine ⟨j, ?_, rfl⟩
  rcases Nat.lt_or_ge j m with q | q
  · exact q
  · exact absurd ((nI_leI (by omega) h1).mpr q) h.2
theorem mk_isIn {m : Nat} {i : Int32} (hm : m ≤ 8) : isInB i (nI 0) (nI m - nI 1) = mkB m i := by
  by_cases h0 : i < 0
  · have h0' : i < nI 0 := h0
    simp [isInB, mkB, h0, h0']
  · obtain ⟨j, hj, rfl⟩ := nI_of h0
    have h0' : ¬ nI j < nI 0 := h0
    cases m with
    | zero =>
      have e1 : nI 0 ≤ nI j := (nI_leI (by decide) hj).mpr (Nat.zero_le j)
      have e2 : nI 0 - nI 1 < nI j := by
        have e3 : nI 0 - nI 1 < 0 := by decide
        rw [Int32.lt_iff_toInt_lt] at e3 h0 ⊢
        omega
      simp [isInB, mkB, e1, e2]
    | succ k =>
      rw [pk_sub (by omega), Nat.add_sub_cancel]
      have e : (nI (k + 1) ≤ nI j) ↔ nI k < nI j := by rw [nI_leI (by omega) hj, nI_ltI (by omega) hj]; omega
      simp only [isInB, mkB, h0, h0']
      by_cases q : nI k < nI j
      · simp [q, e.mpr q]
      · have := fun z => q (e.mp z)
        rw [show decide (nI (k + 1) ≤ nI j) = false from decide_eq_false this, show decide (nI k < nI j) = false from decide_eq_false q]
theorem S_N_isMark {X : Mem} {m : Nat} {st rg : Nat → Nat} (hX : Ok X) (hS : CSt X m st rg) {i : Int32} : CM 0 m_N_isMark [.ref 19, .int i] X (rB (mkB m i) X) := by
  refine CM_of (L := [some (.ref 19), some (.int i)]) 0 ok_N_isMark (fun _ => Nat.le_of_ble_eq_true rfl) rfl ?_
  refine J_iload_n (i := 1) d_N_isMark_0 rfl rfl ?_
  refine J_if_lt (tgt := 16) d_N_isMark_1 (by decide) (fun c1 => ?_) (fun c1 => ?_)
  · refine J_iconst (v := nI 0) d_N_isMark_16 rfl ?_
    refine J.eq (st1 := [.int (b2i false)]) ?_ rfl rfl rfl
    refine M_ir d_N_isMark_17 rfl b2i_nar ?_
    exact ⟨by first | (simp [mkB, b2i, c1]; done) | rfl, rfl⟩
  · refine J_iload_n (i := 1) d_N_isMark_4 rfl rfl ?_
    refine J_aload_n (i := 0) d_N_isMark_5 rfl rfl ?_
    refine M_get (x := (nI m)) d_N_isMark_6 f_N_22 rfl rfl hS.2.1 ?_
    refine J_icmp_ge (tgt := 16) d_N_isMark_9 (by decide) (fun c9 => ?_) (fun c9 => ?_)
    · refine J_iconst (v := nI 0) d_N_isMark_16 rfl ?_
      refine J.eq (st1 := [.int (b2i false)]) ?_ rfl rfl rfl
      refine M_ir d_N_isMark_17 rfl b2i_nar ?_
      exact ⟨by first | (simp [mkB, b2i, c1, c9]; done) | rfl, rfl⟩
    · refine J_iconst (v := nI 1) d_N_isMark_12 rfl ?_
      refine J_goto (tgt := 17) d_N_isMark_13 (by decide) ?_
      refine J.eq (st1 := [.int (b2i true)]) ?_ rfl rfl rfl
      refine M_ir d_N_isMark_17 rfl b2i_nar ?_
      exact ⟨by first | (simp [mkB, b2i, c1, c9]; done) | rfl, rfl⟩

theorem S_O_isMark {X : Mem} {m : Nat} {st rg : Nat → Nat} (hX : Ok X) (hS : CSt X m st rg) {i : Int32} : CM 1 m_O_isMark [.ref 8, .int i] X (rB (mkB m i) X) := by
  refine CM_of (L := [some (.ref 8), some (.int i)]) 0 ok_O_isMark (fun _ => Nat.le_of_ble_eq_true rfl) rfl ?_
  refine J_aload_n (i := 0) d_O_isMark_0 rfl rfl ?_
  refine M_getR (b := 18) d_O_isMark_1 f_O_48 rfl rfl rfl ?_
  refine M_getR (b := 19) d_O_isMark_4 f_O_110 rfl rfl rfl ?_
  refine J_iload_n (i := 1) d_O_isMark_7 rfl rfl ?_
  refine CV_B (av := [.int i]) d_O_isMark_8 s_O_344 (M_rcv rfl (by decide) rfl) (S_N_isMark hX hS) (by decide) rfl rfl (Nat.le_of_ble_eq_true rfl) ?_
  refine M_ir d_O_isMark_11 rfl b2i_nar ?_
  exact ⟨rfl, rfl⟩

theorem S_R_isMark {X : Mem} {m : Nat} {st rg : Nat → Nat} (hX : Ok X) (hS : RSt X m st rg) {i : Int32} : CM 1 m_R_isMark [.ref 244, .int i] X (rB (mkB m i) X) := by
  refine CM_of (L := [some (.ref 244), some (.int i)]) 0 ok_R_isMark (fun _ => Nat.le_of_ble_eq_true rfl) rfl ?_
  refine J_iload_n (i := 1) d_R_isMark_0 rfl rfl ?_
  refine J_iconst (v := nI 0) d_R_isMark_1 rfl ?_
  refine J_aload_n (i := 0) d_R_isMark_2 rfl rfl ?_
  refine M_getR (b := 245) d_R_isMark_3 f_R_7 rfl rfl rfl ?_
  refine J_iconst (v := nI 0) d_R_isMark_6 rfl ?_
  refine N_iald (x := (nI m)) d_R_isMark_7 rfl (by omega) (ltL hX (a := 245) (n := 1217) (by decide) rfl (by omega)) hS.2.1 ?_
  refine J_iconst (v := nI 1) d_R_isMark_8 rfl ?_
  refine J_isub d_R_isMark_9 ?_
  refine CS_B (av := [.int i, .int (nI 0), .int ((nI m) - (nI 1))]) d_R_isMark_10 s_R_89 (S_R_isIn) (by decide) rfl rfl (Nat.le_of_ble_eq_true rfl) ?_
  refine M_ir d_R_isMark_13 rfl b2i_nar ?_
  exact ⟨by rw [mk_isIn hS.1], rfl⟩

def alikeF (m : Nat) (st : Nat → Nat) (i j : Int32) : Int32 := if mkB m i && mkB m j then nI (apN (st (tn i)) (st (tn j)) (nwN (st (tn i)) (st (tn j)))) else (-1)
def wayF (m : Nat) (st : Nat → Nat) (i j : Int32) : Int32 := if mkB m i && mkB m j then nI (nwN (st (tn i)) (st (tn j))) else (-1)
theorem S_O_way {X : Mem} {m : Nat} {st rg : Nat → Nat} (hX : Ok X) (hS : CSt X m st rg) {i j : Int32} : CM 3 m_O_way [.ref 8, .int i, .int j] X (rI (wayF m st i j) X) := by
  refine CM_of (L := [some (.ref 8), some (.int i), some (.int j)]) 0 ok_O_way (fun _ => Nat.le_of_ble_eq_true rfl) rfl ?_
  refine J_aload_n (i := 0) d_O_way_0 rfl rfl ?_
  refine J_iload_n (i := 1) d_O_way_1 rfl rfl ?_
  refine CV_B (av := [.int i]) d_O_way_2 s_O_166 (M_rcv rfl (by decide) rfl) (S_O_isMark hX hS) (by decide) rfl rfl (Nat.le_of_ble_eq_true rfl) ?_
  refine B_if_eq (tgt := 46) d_O_way_5 (by decide) (fun c5 => ?_) (fun c5 => ?_)
  · refine J_iconst (v := (-1)) d_O_way_46 rfl ?_
    refine M_ir d_O_way_47 rfl rfl ?_
    exact ⟨by simp [wayF, c5], rfl⟩
  · refine J_aload_n (i := 0) d_O_way_8 rfl rfl ?_
    refine J_iload_n (i := 2) d_O_way_9 rfl rfl ?_
    refine CV_B (av := [.int j]) d_O_way_10 s_O_166 (M_rcv rfl (by decide) rfl) (S_O_isMark hX hS) (by decide) rfl rfl (Nat.le_of_ble_eq_true rfl) ?_
    refine B_if_eq (tgt := 46) d_O_way_13 (by decide) (fun c13 => ?_) (fun c13 => ?_)
    · refine J_iconst (v := (-1)) d_O_way_46 rfl ?_
      refine M_ir d_O_way_47 rfl rfl ?_
      exact ⟨by simp [wayF, c5, c13], rfl⟩
    · obtain ⟨i_, hi_, rfl⟩ := mk_n hS.1 c5
      have hm8 := hS.1
      have hsti_ := (hS.2.2.1 i_ (by omega)).2
      obtain ⟨j_, hj_, rfl⟩ := mk_n hS.1 c13
      have hm8 := hS.1
      have hstj_ := (hS.2.2.1 j_ (by omega)).2
      refine J_aload_n (i := 0) d_O_way_16 rfl rfl ?_
      refine M_getR (b := 18) d_O_way_17 f_O_48 rfl rfl rfl ?_
      refine M_getR (b := 19) d_O_way_20 f_O_110 rfl rfl rfl ?_
      refine M_getR (b := 20) d_O_way_23 f_O_169 rfl rfl rfl ?_
      refine J_iload_n (i := 1) d_O_way_26 rfl rfl ?_
      refine N_iald (x := (nI (st i_))) d_O_way_27 rfl (by omega) (ltL hX (a := 20) (n := 8) (by decide) rfl (by omega)) (hS.2.2.1 i_ (by omega)).1 ?_
      refine J_aload_n (i := 0) d_O_way_28 rfl rfl ?_
      refine M_getR (b := 18) d_O_way_29 f_O_48 rfl rfl rfl ?_
      refine M_getR (b := 19) d_O_way_32 f_O_110 rfl rfl rfl ?_
      refine M_getR (b := 20) d_O_way_35 f_O_169 rfl rfl rfl ?_
      refine J_iload_n (i := 2) d_O_way_38 rfl rfl ?_
      refine N_iald (x := (nI (st j_))) d_O_way_39 rfl (by omega) (ltL hX (a := 20) (n := 8) (by decide) rfl (by omega)) (hS.2.2.1 j_ (by omega)).1 ?_
      refine CS_N (av := [.int (nI (st i_)), .int (nI (st j_))]) d_O_way_40 s_O_248 (S_K_nearestWay hX (by omega) (by omega)) (by decide) rfl rfl (Nat.le_of_ble_eq_true rfl) ?_
      refine J_goto (tgt := 47) d_O_way_43 (by decide) ?_
      refine M_ir d_O_way_47 rfl rfl ?_
      exact ⟨by simp [wayF, c5, c13, tn_nI (show i_ < 2147483648 by omega), tn_nI (show j_ < 2147483648 by omega)], rfl⟩

theorem S_R_way {X : Mem} {m : Nat} {st rg : Nat → Nat} (hX : Ok X) (hS : RSt X m st rg) {i j : Int32} : CM 3 m_R_way [.ref 244, .int i, .int j] X (rI (wayF m st i j) X) := by
  refine CM_of (L := [some (.ref 244), some (.int i), some (.int j)]) 0 ok_R_way (fun _ => Nat.le_of_ble_eq_true rfl) rfl ?_
  refine J_aload_n (i := 0) d_R_way_0 rfl rfl ?_
  refine J_iload_n (i := 1) d_R_way_1 rfl rfl ?_
  refine CV_B (av := [.int i]) d_R_way_2 s_R_379 (M_rcv rfl (by decide) rfl) (S_R_isMark hX hS) (by decide) rfl rfl (Nat.le_of_ble_eq_true rfl) ?_
  refine B_if_eq (tgt := 41) d_R_way_5 (by decide) (fun c5 => ?_) (fun c5 => ?_)
  · refine J_iconst (v := (-1)) d_R_way_41 rfl ?_
    refine M_ir d_R_way_42 rfl rfl ?_
    exact ⟨by simp [wayF, c5], rfl⟩
  · refine J_aload_n (i := 0) d_R_way_8 rfl rfl ?_
    refine J_iload_n (i := 2) d_R_way_9 rfl rfl ?_
    refine CV_B (av := [.int j]) d_R_way_10 s_R_379 (M_rcv rfl (by decide) rfl) (S_R_isMark hX hS) (by decide) rfl rfl (Nat.le_of_ble_eq_true rfl) ?_
    refine B_if_eq (tgt := 41) d_R_way_13 (by decide) (fun c13 => ?_) (fun c13 => ?_)
    · refine J_iconst (v := (-1)) d_R_way_41 rfl ?_
      refine M_ir d_R_way_42 rfl rfl ?_
      exact ⟨by simp [wayF, c5, c13], rfl⟩
    · obtain ⟨i_, hi_, rfl⟩ := mk_n hS.1 c5
      have hm8 := hS.1
      have hsti_ := (hS.2.2.1 i_ (by omega)).2
      obtain ⟨j_, hj_, rfl⟩ := mk_n hS.1 c13
      have hm8 := hS.1
      have hstj_ := (hS.2.2.1 j_ (by omega)).2
      refine J_aload_n (i := 0) d_R_way_16 rfl rfl ?_
      refine J_aload_n (i := 0) d_R_way_17 rfl rfl ?_
      refine M_getR (b := 245) d_R_way_18 f_R_7 rfl rfl rfl ?_
      refine J_bipush (v := nI 10) d_R_way_21 rfl ?_
      refine J_iload_n (i := 1) d_R_way_23 rfl rfl ?_
      refine N_iadd d_R_way_24 ?_
      refine N_iald (x := (nI (st i_))) d_R_way_25 rfl (by omega) (ltL hX (a := 245) (n := 1217) (by decide) rfl (by omega)) (hS.2.2.1 i_ (by omega)).1 ?_
      refine J_aload_n (i := 0) d_R_way_26 rfl rfl ?_
      refine M_getR (b := 245) d_R_way_27 f_R_7 rfl rfl rfl ?_
      refine J_bipush (v := nI 10) d_R_way_30 rfl ?_
      refine J_iload_n (i := 2) d_R_way_32 rfl rfl ?_
      refine N_iadd d_R_way_33 ?_
      refine N_iald (x := (nI (st j_))) d_R_way_34 rfl (by omega) (ltL hX (a := 245) (n := 1217) (by decide) rfl (by omega)) (hS.2.2.1 j_ (by omega)).1 ?_
      refine CV_N (av := [.int (nI (st i_)), .int (nI (st j_))]) d_R_way_35 s_R_455 (M_rcv rfl (by decide) rfl) (S_R_nearestWay hX (by omega) (by omega)) (by decide) rfl rfl (Nat.le_of_ble_eq_true rfl) ?_
      refine J_goto (tgt := 42) d_R_way_38 (by decide) ?_
      refine M_ir d_R_way_42 rfl rfl ?_
      exact ⟨by simp [wayF, c5, c13, tn_nI (show i_ < 2147483648 by omega), tn_nI (show j_ < 2147483648 by omega)], rfl⟩

theorem S_R_alike {X : Mem} {m : Nat} {st rg : Nat → Nat} (hX : Ok X) (hS : RSt X m st rg) {i j : Int32} : CM 4 m_R_alike [.ref 244, .int i, .int j] X (rI (alikeF m st i j) X) := by
  refine CM_of (L := [some (.ref 244), some (.int i), some (.int j)]) 0 ok_R_alike (fun _ => Nat.le_of_ble_eq_true rfl) rfl ?_
  refine J_aload_n (i := 0) d_R_alike_0 rfl rfl ?_
  refine J_iload_n (i := 1) d_R_alike_1 rfl rfl ?_
  refine CV_B (av := [.int i]) d_R_alike_2 s_R_379 (M_rcv rfl (by decide) rfl) (S_R_isMark hX hS) (by decide) rfl rfl (Nat.le_of_ble_eq_true rfl) ?_
  refine B_if_eq (tgt := 41) d_R_alike_5 (by decide) (fun c5 => ?_) (fun c5 => ?_)
  · refine J_iconst (v := (-1)) d_R_alike_41 rfl ?_
    refine M_ir d_R_alike_42 rfl rfl ?_
    exact ⟨by simp [alikeF, c5], rfl⟩
  · refine J_aload_n (i := 0) d_R_alike_8 rfl rfl ?_
    refine J_iload_n (i := 2) d_R_alike_9 rfl rfl ?_
    refine CV_B (av := [.int j]) d_R_alike_10 s_R_379 (M_rcv rfl (by decide) rfl) (S_R_isMark hX hS) (by decide) rfl rfl (Nat.le_of_ble_eq_true rfl) ?_
    refine B_if_eq (tgt := 41) d_R_alike_13 (by decide) (fun c13 => ?_) (fun c13 => ?_)
    · refine J_iconst (v := (-1)) d_R_alike_41 rfl ?_
      refine M_ir d_R_alike_42 rfl rfl ?_
      exact ⟨by simp [alikeF, c5, c13], rfl⟩
    · obtain ⟨i_, hi_, rfl⟩ := mk_n hS.1 c5
      have hm8 := hS.1
      have hsti_ := (hS.2.2.1 i_ (by omega)).2
      obtain ⟨j_, hj_, rfl⟩ := mk_n hS.1 c13
      have hm8 := hS.1
      have hstj_ := (hS.2.2.1 j_ (by omega)).2
      refine J_aload_n (i := 0) d_R_alike_16 rfl rfl ?_
      refine J_aload_n (i := 0) d_R_alike_17 rfl rfl ?_
      refine M_getR (b := 245) d_R_alike_18 f_R_7 rfl rfl rfl ?_
      refine J_bipush (v := nI 10) d_R_alike_21 rfl ?_
      refine J_iload_n (i := 1) d_R_alike_23 rfl rfl ?_
      refine N_iadd d_R_alike_24 ?_
      refine N_iald (x := (nI (st i_))) d_R_alike_25 rfl (by omega) (ltL hX (a := 245) (n := 1217) (by decide) rfl (by omega)) (hS.2.2.1 i_ (by omega)).1 ?_
      refine J_aload_n (i := 0) d_R_alike_26 rfl rfl ?_
      refine M_getR (b := 245) d_R_alike_27 f_R_7 rfl rfl rfl ?_
      refine J_bipush (v := nI 10) d_R_alike_30 rfl ?_
      refine J_iload_n (i := 2) d_R_alike_32 rfl rfl ?_
      refine N_iadd d_R_alike_33 ?_
      refine N_iald (x := (nI (st j_))) d_R_alike_34 rfl (by omega) (ltL hX (a := 245) (n := 1217) (by decide) rfl (by omega)) (hS.2.2.1 j_ (by omega)).1 ?_
      refine CV_N (av := [.int (nI (st i_)), .int (nI (st j_))]) d_R_alike_35 s_R_458 (M_rcv rfl (by decide) rfl) (S_R_apartBy hX (by omega) (by omega)) (by decide) rfl rfl (Nat.le_of_ble_eq_true rfl) ?_
      refine J_goto (tgt := 42) d_R_alike_38 (by decide) ?_
      refine M_ir d_R_alike_42 rfl rfl ?_
      exact ⟨by simp [alikeF, c5, c13, tn_nI (show i_ < 2147483648 by omega), tn_nI (show j_ < 2147483648 by omega)], rfl⟩

theorem S_O_alike {X : Mem} {m : Nat} {st rg : Nat → Nat} (hX : Ok X) (hS : CSt X m st rg) {i j : Int32} : CM 3 m_O_alike [.ref 8, .int i, .int j] X (rI (alikeF m st i j) X) := by
  refine CM_of (L := [some (.ref 8), some (.int i), some (.int j), none]) 1 ok_O_alike (fun _ => Nat.le_of_ble_eq_true rfl) rfl ?_
  refine J_aload_n (i := 0) d_O_alike_0 rfl rfl ?_
  refine J_iload_n (i := 1) d_O_alike_1 rfl rfl ?_
  refine CV_B (av := [.int i]) d_O_alike_2 s_O_166 (M_rcv rfl (by decide) rfl) (S_O_isMark hX hS) (by decide) rfl rfl (Nat.le_of_ble_eq_true rfl) ?_
  refine B_if_eq (tgt := 16) d_O_alike_5 (by decide) (fun c5 => ?_) (fun c5 => ?_)
  · refine J_iconst (v := (-1)) d_O_alike_16 rfl ?_
    refine M_ir d_O_alike_17 rfl rfl ?_
    exact ⟨by simp [alikeF, c5], rfl⟩
  · refine J_aload_n (i := 0) d_O_alike_8 rfl rfl ?_
    refine J_iload_n (i := 2) d_O_alike_9 rfl rfl ?_
    refine CV_B (av := [.int j]) d_O_alike_10 s_O_166 (M_rcv rfl (by decide) rfl) (S_O_isMark hX hS) (by decide) rfl rfl (Nat.le_of_ble_eq_true rfl) ?_
    refine B_if_ne (tgt := 18) d_O_alike_13 (by decide) (fun c13 => ?_) (fun c13 => ?_)
    · obtain ⟨i_, hi_, rfl⟩ := mk_n hS.1 c5
      have hm8 := hS.1
      have hsti_ := (hS.2.2.1 i_ (by omega)).2
      obtain ⟨j_, hj_, rfl⟩ := mk_n hS.1 c13
      have hm8 := hS.1
      have hstj_ := (hS.2.2.1 j_ (by omega)).2
      refine J_aload_n (i := 0) d_O_alike_18 rfl rfl ?_
      refine M_getR (b := 18) d_O_alike_19 f_O_48 rfl rfl rfl ?_
      refine M_getR (b := 19) d_O_alike_22 f_O_110 rfl rfl rfl ?_
      refine M_getR (b := 20) d_O_alike_25 f_O_169 rfl rfl rfl ?_
      refine J_iload_n (i := 1) d_O_alike_28 rfl rfl ?_
      refine N_iald (x := (nI (st i_))) d_O_alike_29 rfl (by omega) (ltL hX (a := 20) (n := 8) (by decide) rfl (by omega)) (hS.2.2.1 i_ (by omega)).1 ?_
      refine J_aload_n (i := 0) d_O_alike_30 rfl rfl ?_
      refine M_getR (b := 18) d_O_alike_31 f_O_48 rfl rfl rfl ?_
      refine M_getR (b := 19) d_O_alike_34 f_O_110 rfl rfl rfl ?_
      refine M_getR (b := 20) d_O_alike_37 f_O_169 rfl rfl rfl ?_
      refine J_iload_n (i := 2) d_O_alike_40 rfl rfl ?_
      refine N_iald (x := (nI (st j_))) d_O_alike_41 rfl (by omega) (ltL hX (a := 20) (n := 8) (by decide) rfl (by omega)) (hS.2.2.1 j_ (by omega)).1 ?_
      refine CS_N (av := [.int (nI (st i_)), .int (nI (st j_))]) d_O_alike_42 s_O_248 (S_K_nearestWay hX (by omega) (by omega)) (by decide) rfl rfl (Nat.le_of_ble_eq_true rfl) ?_
      have hw8 : nwN (st i_) (st j_) < 8 := nw_lt 7 (by decide)
      refine J_istore_n (i := 3) (L1 := [some (.ref 8), some (.int (nI i_)), some (.int (nI j_)), some (.int (nI (nwN (st i_) (st j_))))]) d_O_alike_45 rfl (by decide) rfl ?_
      refine J_aload_n (i := 0) d_O_alike_46 rfl rfl ?_
      refine M_getR (b := 18) d_O_alike_47 f_O_48 rfl rfl rfl ?_
      refine M_getR (b := 19) d_O_alike_50 f_O_110 rfl rfl rfl ?_
      refine M_getR (b := 20) d_O_alike_53 f_O_169 rfl rfl rfl ?_
      refine J_iload_n (i := 1) d_O_alike_56 rfl rfl ?_
      refine N_iald (x := (nI (st i_))) d_O_alike_57 rfl (by omega) (ltL hX (a := 20) (n := 8) (by decide) rfl (by omega)) (hS.2.2.1 i_ (by omega)).1 ?_
      refine J_aload_n (i := 0) d_O_alike_58 rfl rfl ?_
      refine M_getR (b := 18) d_O_alike_59 f_O_48 rfl rfl rfl ?_
      refine M_getR (b := 19) d_O_alike_62 f_O_110 rfl rfl rfl ?_
      refine M_getR (b := 20) d_O_alike_65 f_O_169 rfl rfl rfl ?_
      refine J_iload_n (i := 2) d_O_alike_68 rfl rfl ?_
      refine N_iald (x := (nI (st j_))) d_O_alike_69 rfl (by omega) (ltL hX (a := 20) (n := 8) (by decide) rfl (by omega)) (hS.2.2.1 j_ (by omega)).1 ?_
      refine J_iload_n (i := 3) d_O_alike_70 rfl rfl ?_
      refine CS_N (av := [.int (nI (st i_)), .int (nI (st j_)), .int (nI (nwN (st i_) (st j_)))]) d_O_alike_71 s_O_251 (S_K_countApart hX (by omega) (by omega) (by omega)) (by decide) rfl rfl (Nat.le_of_ble_eq_true rfl) ?_
      refine M_ir d_O_alike_74 rfl rfl ?_
      exact ⟨by simp [alikeF, c5, c13, tn_nI (show i_ < 2147483648 by omega), tn_nI (show j_ < 2147483648 by omega)], rfl⟩
    · refine J_iconst (v := (-1)) d_O_alike_16 rfl ?_
      refine M_ir d_O_alike_17 rfl rfl ?_
      exact ⟨by simp [alikeF, c5, c13], rfl⟩

def madeF (m : Nat) (st : Nat → Nat) (i j : Int32) (w : Bool) : Int32 := if mkB m i && mkB m j then (if o8 (wiN (st (tn i)) (st (tn j))) = -1 ∨ w = true then o8 (wiN (st (tn i)) (st (tn j))) else nI (bc (st (tn j))) - nI (bc (st (tn i)))) else (-1)
theorem S_O_made {X : Mem} {m : Nat} {st rg : Nat → Nat} (hX : Ok X) (hS : CSt X m st rg) {i j : Int32} {w : Bool} : CM 2 m_O_made [.ref 8, .int i, .int j, .int (b2i w)] X (rI (madeF m st i j w) X) := by
  refine CM_of (L := [some (.ref 8), some (.int i), some (.int j), some (.int (b2i w)), none, none, none]) 3 ok_O_made (fun _ => Nat.le_of_ble_eq_true rfl) rfl ?_
  refine J_aload_n (i := 0) d_O_made_0 rfl rfl ?_
  refine J_iload_n (i := 1) d_O_made_1 rfl rfl ?_
  refine CV_B (av := [.int i]) d_O_made_2 s_O_166 (M_rcv rfl (by decide) rfl) (S_O_isMark hX hS) (by decide) rfl rfl (Nat.le_of_ble_eq_true rfl) ?_
  refine B_if_eq (tgt := 16) d_O_made_5 (by decide) (fun c5 => ?_) (fun c5 => ?_)
  · refine J_iconst (v := (-1)) d_O_made_16 rfl ?_
    refine M_ir d_O_made_17 rfl rfl ?_
    exact ⟨by simp [madeF, c5], rfl⟩
  · refine J_aload_n (i := 0) d_O_made_8 rfl rfl ?_
    refine J_iload_n (i := 2) d_O_made_9 rfl rfl ?_
    refine CV_B (av := [.int j]) d_O_made_10 s_O_166 (M_rcv rfl (by decide) rfl) (S_O_isMark hX hS) (by decide) rfl rfl (Nat.le_of_ble_eq_true rfl) ?_
    refine B_if_ne (tgt := 18) d_O_made_13 (by decide) (fun c13 => ?_) (fun c13 => ?_)
    · obtain ⟨i_, hi_, rfl⟩ := mk_n hS.1 c5
      have hm8 := hS.1
      have hsti_ := (hS.2.2.1 i_ (by omega)).2
      obtain ⟨j_, hj_, rfl⟩ := mk_n hS.1 c13
      have hm8 := hS.1
      have hstj_ := (hS.2.2.1 j_ (by omega)).2
      refine J_aload_n (i := 0) d_O_made_18 rfl rfl ?_
      refine M_getR (b := 18) d_O_made_19 f_O_48 rfl rfl rfl ?_
      refine M_getR (b := 19) d_O_made_22 f_O_110 rfl rfl rfl ?_
      refine M_getR (b := 20) d_O_made_25 f_O_169 rfl rfl rfl ?_
      refine J_iload_n (i := 1) d_O_made_28 rfl rfl ?_
      refine N_iald (x := (nI (st i_))) d_O_made_29 rfl (by omega) (ltL hX (a := 20) (n := 8) (by decide) rfl (by omega)) (hS.2.2.1 i_ (by omega)).1 ?_
      refine J_istore (L1 := [some (.ref 8), some (.int (nI i_)), some (.int (nI j_)), some (.int (b2i w)), some (.int (nI (st i_))), none, none]) d_O_made_30 (by decide) rfl ?_
      refine J_aload_n (i := 0) d_O_made_32 rfl rfl ?_
      refine M_getR (b := 18) d_O_made_33 f_O_48 rfl rfl rfl ?_
      refine M_getR (b := 19) d_O_made_36 f_O_110 rfl rfl rfl ?_
      refine M_getR (b := 20) d_O_made_39 f_O_169 rfl rfl rfl ?_
      refine J_iload_n (i := 2) d_O_made_42 rfl rfl ?_
      refine N_iald (x := (nI (st j_))) d_O_made_43 rfl (by omega) (ltL hX (a := 20) (n := 8) (by decide) rfl (by omega)) (hS.2.2.1 j_ (by omega)).1 ?_
      refine J_istore (L1 := [some (.ref 8), some (.int (nI i_)), some (.int (nI j_)), some (.int (b2i w)), some (.int (nI (st i_))), some (.int (nI (st j_))), none]) d_O_made_44 (by decide) rfl ?_
      refine J_iload d_O_made_46 rfl ?_
      refine J_iload d_O_made_48 rfl ?_
      refine CS_I (av := [.int (nI (st i_)), .int (nI (st j_))]) d_O_made_50 s_O_255 (S_K_wayInto hX (by omega) (by omega)) (by decide) rfl rfl (Nat.le_of_ble_eq_true rfl) ?_
      refine J_istore (L1 := [some (.ref 8), some (.int (nI i_)), some (.int (nI j_)), some (.int (b2i w)), some (.int (nI (st i_))), some (.int (nI (st j_))), some (.int (o8 (wiN (st i_) (st j_))))]) d_O_made_53 (by decide) rfl ?_
      refine J_iload d_O_made_55 rfl ?_
      refine J_iconst (v := (-1)) d_O_made_57 rfl ?_
      refine J_icmp_eq (tgt := 65) d_O_made_58 (by decide) (fun c58 => ?_) (fun c58 => ?_)
      · refine J_iload d_O_made_65 rfl ?_
        refine M_ir d_O_made_67 rfl rfl ?_
        exact ⟨by simp [madeF, c5, c13, c58, tn_nI (show i_ < 2147483648 by omega), tn_nI (show j_ < 2147483648 by omega)], rfl⟩
      · refine J_iload_n (i := 3) d_O_made_61 rfl rfl ?_
        refine B_if_eq (tgt := 68) d_O_made_62 (by decide) (fun c62 => ?_) (fun c62 => ?_)
        · refine J_iload d_O_made_68 rfl ?_
          refine CS_N (av := [.int (nI (st j_))]) d_O_made_70 s_O_175 (S_bitCount (by omega)) (by decide) rfl rfl (Nat.le_of_ble_eq_true rfl) ?_
          refine J_iload d_O_made_73 rfl ?_
          refine CS_N (av := [.int (nI (st i_))]) d_O_made_75 s_O_175 (S_bitCount (by omega)) (by decide) rfl rfl (Nat.le_of_ble_eq_true rfl) ?_
          refine J_isub d_O_made_78 ?_
          refine M_ir d_O_made_79 rfl rfl ?_
          exact ⟨by simp [madeF, c5, c13, c58, c62, tn_nI (show i_ < 2147483648 by omega), tn_nI (show j_ < 2147483648 by omega)], rfl⟩
        · refine J_iload d_O_made_65 rfl ?_
          refine M_ir d_O_made_67 rfl rfl ?_
          exact ⟨by simp [madeF, c5, c13, c58, c62, tn_nI (show i_ < 2147483648 by omega), tn_nI (show j_ < 2147483648 by omega)], rfl⟩
    · refine J_iconst (v := (-1)) d_O_made_16 rfl ?_
      refine M_ir d_O_made_17 rfl rfl ?_
      exact ⟨by simp [madeF, c5, c13], rfl⟩

theorem S_R_made {X : Mem} {m : Nat} {st rg : Nat → Nat} (hX : Ok X) (hS : RSt X m st rg) {i j : Int32} {w : Bool} : CM 3 m_R_made [.ref 244, .int i, .int j, .int (b2i w)] X (rI (madeF m st i j w) X) := by
  refine CM_of (L := [some (.ref 244), some (.int i), some (.int j), some (.int (b2i w)), none]) 1 ok_R_made (fun _ => Nat.le_of_ble_eq_true rfl) rfl ?_
  refine J_aload_n (i := 0) d_R_made_0 rfl rfl ?_
  refine J_iload_n (i := 1) d_R_made_1 rfl rfl ?_
  refine CV_B (av := [.int i]) d_R_made_2 s_R_379 (M_rcv rfl (by decide) rfl) (S_R_isMark hX hS) (by decide) rfl rfl (Nat.le_of_ble_eq_true rfl) ?_
  refine B_if_eq (tgt := 16) d_R_made_5 (by decide) (fun c5 => ?_) (fun c5 => ?_)
  · refine J_iconst (v := (-1)) d_R_made_16 rfl ?_
    refine M_ir d_R_made_17 rfl rfl ?_
    exact ⟨by simp [madeF, c5], rfl⟩
  · refine J_aload_n (i := 0) d_R_made_8 rfl rfl ?_
    refine J_iload_n (i := 2) d_R_made_9 rfl rfl ?_
    refine CV_B (av := [.int j]) d_R_made_10 s_R_379 (M_rcv rfl (by decide) rfl) (S_R_isMark hX hS) (by decide) rfl rfl (Nat.le_of_ble_eq_true rfl) ?_
    refine B_if_ne (tgt := 18) d_R_made_13 (by decide) (fun c13 => ?_) (fun c13 => ?_)
    · obtain ⟨i_, hi_, rfl⟩ := mk_n hS.1 c5
      have hm8 := hS.1
      have hsti_ := (hS.2.2.1 i_ (by omega)).2
      obtain ⟨j_, hj_, rfl⟩ := mk_n hS.1 c13
      have hm8 := hS.1
      have hstj_ := (hS.2.2.1 j_ (by omega)).2
      refine J_aload_n (i := 0) d_R_made_18 rfl rfl ?_
      refine J_aload_n (i := 0) d_R_made_19 rfl rfl ?_
      refine M_getR (b := 245) d_R_made_20 f_R_7 rfl rfl rfl ?_
      refine J_bipush (v := nI 10) d_R_made_23 rfl ?_
      refine J_iload_n (i := 1) d_R_made_25 rfl rfl ?_
      refine N_iadd d_R_made_26 ?_
      refine N_iald (x := (nI (st i_))) d_R_made_27 rfl (by omega) (ltL hX (a := 245) (n := 1217) (by decide) rfl (by omega)) (hS.2.2.1 i_ (by omega)).1 ?_
      refine J_aload_n (i := 0) d_R_made_28 rfl rfl ?_
      refine M_getR (b := 245) d_R_made_29 f_R_7 rfl rfl rfl ?_
      refine J_bipush (v := nI 10) d_R_made_32 rfl ?_
      refine J_iload_n (i := 2) d_R_made_34 rfl rfl ?_
      refine N_iadd d_R_made_35 ?_
      refine N_iald (x := (nI (st j_))) d_R_made_36 rfl (by omega) (ltL hX (a := 245) (n := 1217) (by decide) rfl (by omega)) (hS.2.2.1 j_ (by omega)).1 ?_
      refine CV_I (av := [.int (nI (st i_)), .int (nI (st j_))]) d_R_made_37 s_R_461 (M_rcv rfl (by decide) rfl) (S_R_partWay hX (by omega) (by omega)) (by decide) rfl rfl (Nat.le_of_ble_eq_true rfl) ?_
      refine J_istore (L1 := [some (.ref 244), some (.int (nI i_)), some (.int (nI j_)), some (.int (b2i w)), some (.int (o8 (wiN (st i_) (st j_))))]) d_R_made_40 (by decide) rfl ?_
      refine J_iload d_R_made_42 rfl ?_
      refine J_iconst (v := (-1)) d_R_made_44 rfl ?_
      refine J_icmp_eq (tgt := 52) d_R_made_45 (by decide) (fun c45 => ?_) (fun c45 => ?_)
      · refine J_iload d_R_made_52 rfl ?_
        refine J_goto (tgt := 82) d_R_made_54 (by decide) ?_
        refine M_ir d_R_made_82 rfl rfl ?_
        exact ⟨by simp [madeF, c5, c13, c45, tn_nI (show i_ < 2147483648 by omega), tn_nI (show j_ < 2147483648 by omega)], rfl⟩
      · refine J_iload_n (i := 3) d_R_made_48 rfl rfl ?_
        refine B_if_eq (tgt := 57) d_R_made_49 (by decide) (fun c49 => ?_) (fun c49 => ?_)
        · refine J_aload_n (i := 0) d_R_made_57 rfl rfl ?_
          refine M_getR (b := 245) d_R_made_58 f_R_7 rfl rfl rfl ?_
          refine J_bipush (v := nI 10) d_R_made_61 rfl ?_
          refine J_iload_n (i := 2) d_R_made_63 rfl rfl ?_
          refine N_iadd d_R_made_64 ?_
          refine N_iald (x := (nI (st j_))) d_R_made_65 rfl (by omega) (ltL hX (a := 245) (n := 1217) (by decide) rfl (by omega)) (hS.2.2.1 j_ (by omega)).1 ?_
          refine CS_N (av := [.int (nI (st j_))]) d_R_made_66 s_R_121 (S_R_bits (by omega)) (by decide) rfl rfl (Nat.le_of_ble_eq_true rfl) ?_
          refine J_aload_n (i := 0) d_R_made_69 rfl rfl ?_
          refine M_getR (b := 245) d_R_made_70 f_R_7 rfl rfl rfl ?_
          refine J_bipush (v := nI 10) d_R_made_73 rfl ?_
          refine J_iload_n (i := 1) d_R_made_75 rfl rfl ?_
          refine N_iadd d_R_made_76 ?_
          refine N_iald (x := (nI (st i_))) d_R_made_77 rfl (by omega) (ltL hX (a := 245) (n := 1217) (by decide) rfl (by omega)) (hS.2.2.1 i_ (by omega)).1 ?_
          refine CS_N (av := [.int (nI (st i_))]) d_R_made_78 s_R_121 (S_R_bits (by omega)) (by decide) rfl rfl (Nat.le_of_ble_eq_true rfl) ?_
          refine J_isub d_R_made_81 ?_
          refine M_ir d_R_made_82 rfl rfl ?_
          exact ⟨by simp [madeF, c5, c13, c45, c49, tn_nI (show i_ < 2147483648 by omega), tn_nI (show j_ < 2147483648 by omega)], rfl⟩
        · refine J_iload d_R_made_52 rfl ?_
          refine J_goto (tgt := 82) d_R_made_54 (by decide) ?_
          refine M_ir d_R_made_82 rfl rfl ?_
          exact ⟨by simp [madeF, c5, c13, c45, c49, tn_nI (show i_ < 2147483648 by omega), tn_nI (show j_ < 2147483648 by omega)], rfl⟩
    · refine J_iconst (v := (-1)) d_R_made_16 rfl ?_
      refine M_ir d_R_made_17 rfl rfl ?_
      exact ⟨by simp [madeF, c5, c13], rfl⟩

