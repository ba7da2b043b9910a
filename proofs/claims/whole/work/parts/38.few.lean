theorem shl_pos (k : Nat) : 1 ≤ 1 <<< k := by rw [shl1]; exact Nat.two_pow_pos k
theorem S_K_lowestOf {X : Mem} {k : Nat} (hk : k ≤ 4) : CM 0 m_K_lowestOf [.int (nI k)] X (rN ((1 <<< k) - 1) X) := by
  refine CM_of (L := [some (.int (nI k))]) 0 ok_K_lowestOf (fun _ => Nat.le_of_ble_eq_true rfl) rfl ?_
  refine J_iconst (v := nI 1) d_K_lowestOf_0 rfl ?_
  refine J_iload_n (i := 0) d_K_lowestOf_1 rfl rfl ?_
  refine N_ishl d_K_lowestOf_2 (by omega) ?_
  refine J_iconst (v := nI 1) d_K_lowestOf_3 rfl ?_
  refine N_isub d_K_lowestOf_4 (shl_pos k) ?_
  refine M_ir d_K_lowestOf_5 rfl rfl ?_
  exact ⟨rfl, rfl⟩

theorem S_R_isFew {X : Mem} {a b : Int32} : CM 1 m_R_isFew [.int a, .int b] X (rB (inR a 4 && inR b 20) X) := by
  refine CM_of (L := [some (.int a), some (.int b)]) 0 ok_R_isFew (fun _ => Nat.le_of_ble_eq_true rfl) rfl ?_
  refine J_iload_n (i := 0) d_R_isFew_0 rfl rfl ?_
  refine J_iconst (v := nI 0) d_R_isFew_1 rfl ?_
  refine J_iconst (v := nI 4) d_R_isFew_2 rfl ?_
  refine CS_B (av := [.int a, .int (nI 0), .int (nI 4)]) d_R_isFew_3 s_R_89 (S_R_isIn) (by decide) rfl rfl (Nat.le_of_ble_eq_true rfl) ?_
  refine B_if_eq (tgt := 23) d_R_isFew_6 (by decide) (fun c6 => ?_) (fun c6 => ?_)
  · refine J_iconst (v := nI 0) d_R_isFew_23 rfl ?_
    refine J.eq (st1 := [.int (b2i false)]) ?_ rfl rfl rfl
    refine M_ir d_R_isFew_24 rfl b2i_nar ?_
    exact ⟨by rw [show inR a 4 = _ from c6] <;> rfl, rfl⟩
  · refine J_iload_n (i := 1) d_R_isFew_9 rfl rfl ?_
    refine J_iconst (v := nI 0) d_R_isFew_10 rfl ?_
    refine J_bipush (v := nI 20) d_R_isFew_11 rfl ?_
    refine CS_B (av := [.int b, .int (nI 0), .int (nI 20)]) d_R_isFew_13 s_R_89 (S_R_isIn) (by decide) rfl rfl (Nat.le_of_ble_eq_true rfl) ?_
    refine B_if_eq (tgt := 23) d_R_isFew_16 (by decide) (fun c16 => ?_) (fun c16 => ?_)
    · refine J_iconst (v := nI 0) d_R_isFew_23 rfl ?_
      refine J.eq (st1 := [.int (b2i false)]) ?_ rfl rfl rfl
      refine M_ir d_R_isFew_24 rfl b2i_nar ?_
      exact ⟨by rw [show inR a 4 = _ from c6, show inR b 20 = _ from c16] <;> rfl, rfl⟩
    · refine J_iconst (v := nI 1) d_R_isFew_19 rfl ?_
      refine J_goto (tgt := 24) d_R_isFew_20 (by decide) ?_
      refine J.eq (st1 := [.int (b2i true)]) ?_ rfl rfl rfl
      refine M_ir d_R_isFew_24 rfl b2i_nar ?_
      exact ⟨by rw [show inR a 4 = _ from c6, show inR b 20 = _ from c16] <;> rfl, rfl⟩

