theorem nI_max {a b : Nat} (ha : a < 2147483648) (hb : b < 2147483648) : (if nI a < nI b then nI b else nI a) = nI (max a b) := by
  by_cases h : a < b
  · rw [if_pos ((nI_ltI ha hb).mpr h), Nat.max_eq_right (by omega)]
  · rw [if_neg (fun q => h ((nI_ltI ha hb).mp q)), Nat.max_eq_left (by omega)]
theorem nI_min {a b : Nat} (ha : a < 2147483648) (hb : b < 2147483648) : (if nI b < nI a then nI b else nI a) = nI (min a b) := by
  by_cases h : b < a
  · rw [if_pos ((nI_ltI hb ha).mpr h), Nat.min_eq_right (by omega)]
  · rw [if_neg (fun q => h ((nI_ltI hb ha).mp q)), Nat.min_eq_left (by omega)]
theorem tb_and1 (s k : Nat) : (s >>> k &&& 1 = 1) ↔ s.testBit k = true := by
  rw [Nat.testBit]
  simp [Nat.and_comm]
theorem S_R_has {X : Mem} {s k : Nat} (hs : s < 2147483648) (hk : k < 32) : CM 0 m_R_has [.int (nI s), .int (nI k)] X (rB (s.testBit k) X) := by
  refine CM_of (L := [some (.int (nI s)), some (.int (nI k))]) 0 ok_R_has (fun _ => Nat.le_of_ble_eq_true rfl) rfl ?_
  refine J_iload_n (i := 0) d_R_has_0 rfl rfl ?_
  refine J_iload_n (i := 1) d_R_has_1 rfl rfl ?_
  refine N_ishr d_R_has_2 (by first | omega | exact Nat.lt_of_le_of_lt Nat.and_le_right (by decide)) (by first | omega | exact Nat.lt_of_le_of_lt Nat.and_le_right (by decide)) ?_
  refine J_iconst (v := nI 1) d_R_has_3 rfl ?_
  refine N_iand d_R_has_4 ?_
  refine J_iconst (v := nI 1) d_R_has_5 rfl ?_
  refine N_icmp_ne (tgt := 13) d_R_has_6 (by decide) (by first | omega | exact Nat.lt_of_le_of_lt Nat.and_le_right (by decide)) (by first | omega | exact Nat.lt_of_le_of_lt Nat.and_le_right (by decide)) (fun c6 => ?_) (fun c6 => ?_)
  · refine J_iconst (v := nI 0) d_R_has_13 rfl ?_
    refine J.eq (st1 := [.int (b2i false)]) ?_ rfl rfl rfl
    refine M_ir d_R_has_14 rfl b2i_nar ?_
    exact ⟨by rw [Bool.eq_false_iff.mpr (fun q => c6 ((tb_and1 s k).mpr q))], rfl⟩
  · refine J_iconst (v := nI 1) d_R_has_9 rfl ?_
    refine J_goto (tgt := 14) d_R_has_10 (by decide) ?_
    refine J.eq (st1 := [.int (b2i true)]) ?_ rfl rfl rfl
    refine M_ir d_R_has_14 rfl b2i_nar ?_
    exact ⟨by rw [(tb_and1 s k).mp c6], rfl⟩

