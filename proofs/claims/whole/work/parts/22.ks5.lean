def pbN (p w : Nat) : Nat := 3 * (itr (fun (_ : Nat) (q : Nat × Nat) => (q.2, 2 - q.1)) (p / 3, if 3 < w then 2 - p % 3 else p % 3) (w % 4)).1 + (itr (fun (_ : Nat) (q : Nat × Nat) => (q.2, 2 - q.1)) (p / 3, if 3 < w then 2 - p % 3 else p % 3) (w % 4)).2
theorem pb_inv {a b : Nat} (ha : a ≤ 2) (hb : b ≤ 2) : ∀ i, (itr (fun (_ : Nat) (q : Nat × Nat) => (q.2, 2 - q.1)) (a, b) i).1 ≤ 2 ∧ (itr (fun (_ : Nat) (q : Nat × Nat) => (q.2, 2 - q.1)) (a, b) i).2 ≤ 2 :=
  itr_inv (fun _ (q : Nat × Nat) => q.1 ≤ 2 ∧ q.2 ≤ 2) ⟨ha, hb⟩ (fun n q h => ⟨h.2, by show 2 - q.1 ≤ 2; omega⟩)
theorem pb_lt : ∀ p, p < 9 → ∀ w, w < 8 → pbN p w < 9 := by decide +kernel
theorem lp_R_pointBy {d : Nat} {Q : Option Value → Mem → Prop} {X : Mem} {p w a b : Nat} (hp : p < 9) (hw : w < 8) (ha : a ≤ 2) (hb : b ≤ 2) (kx : ∀ z5 : Option Value, JM d m_R_pointBy Q 48 [some (.int (nI p)), some (.int (nI w)), some (.int (nI ((itr (fun (_ : Nat) (q : Nat × Nat) => (q.2, 2 - q.1)) (a, b) (w % 4)).1))), some (.int (nI ((itr (fun (_ : Nat) (q : Nat × Nat) => (q.2, 2 - q.1)) (a, b) (w % 4)).2))), some (.int (nI (w % 4))), z5] [] X) : ∀ (n i : Nat) (z5 : Option Value), i + n = (w % 4) → JM d m_R_pointBy Q 24 [some (.int (nI p)), some (.int (nI w)), some (.int (nI ((itr (fun (_ : Nat) (q : Nat × Nat) => (q.2, 2 - q.1)) (a, b) i).1))), some (.int (nI ((itr (fun (_ : Nat) (q : Nat × Nat) => (q.2, 2 - q.1)) (a, b) i).2))), some (.int (nI i)), z5] [] X := by
  intro n
  induction n with
  | zero =>
    intro i z5 hi
    obtain rfl : i = (w % 4) := by omega
    refine J_iload d_R_pointBy_24 rfl ?_
    refine J_iload_n (i := 1) d_R_pointBy_26 rfl rfl ?_
    refine J_iconst (v := nI 4) d_R_pointBy_27 rfl ?_
    refine N_irem d_R_pointBy_28 (by omega) (by omega) (by omega) ?_
    refine N_icmp_ge (tgt := 48) d_R_pointBy_29 (by decide) (by omega) (by omega) (fun c29 => ?_) (fun c29 => absurd c29 (by omega))
    exact kx _
  | succ n ih =>
    intro i z5 hi
    have hx5 := pb_inv ha hb i
    refine J_iload d_R_pointBy_24 rfl ?_
    refine J_iload_n (i := 1) d_R_pointBy_26 rfl rfl ?_
    refine J_iconst (v := nI 4) d_R_pointBy_27 rfl ?_
    refine N_irem d_R_pointBy_28 (by omega) (by omega) (by omega) ?_
    refine N_icmp_ge (tgt := 48) d_R_pointBy_29 (by decide) (by omega) (by omega) (fun c29 => absurd c29 (by omega)) (fun c29 => ?_)
    refine J_iload_n (i := 2) d_R_pointBy_32 rfl rfl ?_
    refine J_istore (L1 := [some (.int (nI p)), some (.int (nI w)), some (.int (nI ((itr (fun (_ : Nat) (q : Nat × Nat) => (q.2, 2 - q.1)) (a, b) i).1))), some (.int (nI ((itr (fun (_ : Nat) (q : Nat × Nat) => (q.2, 2 - q.1)) (a, b) i).2))), some (.int (nI i)), some (.int (nI ((itr (fun (_ : Nat) (q : Nat × Nat) => (q.2, 2 - q.1)) (a, b) i).1)))]) d_R_pointBy_33 (by decide) rfl ?_
    refine J_iload_n (i := 3) d_R_pointBy_35 rfl rfl ?_
    refine J_istore_n (i := 2) (L1 := [some (.int (nI p)), some (.int (nI w)), some (.int (nI ((itr (fun (_ : Nat) (q : Nat × Nat) => (q.2, 2 - q.1)) (a, b) i).2))), some (.int (nI ((itr (fun (_ : Nat) (q : Nat × Nat) => (q.2, 2 - q.1)) (a, b) i).2))), some (.int (nI i)), some (.int (nI ((itr (fun (_ : Nat) (q : Nat × Nat) => (q.2, 2 - q.1)) (a, b) i).1)))]) d_R_pointBy_36 rfl (by decide) rfl ?_
    refine J_iconst (v := nI 2) d_R_pointBy_37 rfl ?_
    refine J_iload d_R_pointBy_38 rfl ?_
    refine N_isub d_R_pointBy_40 (by omega) ?_
    refine J_istore_n (i := 3) (L1 := [some (.int (nI p)), some (.int (nI w)), some (.int (nI ((itr (fun (_ : Nat) (q : Nat × Nat) => (q.2, 2 - q.1)) (a, b) i).2))), some (.int (nI (2 - (itr (fun (_ : Nat) (q : Nat × Nat) => (q.2, 2 - q.1)) (a, b) i).1))), some (.int (nI i)), some (.int (nI ((itr (fun (_ : Nat) (q : Nat × Nat) => (q.2, 2 - q.1)) (a, b) i).1)))]) d_R_pointBy_41 rfl (by decide) rfl ?_
    refine N_iinc (a := i) (c := 1) (L1 := [some (.int (nI p)), some (.int (nI w)), some (.int (nI ((itr (fun (_ : Nat) (q : Nat × Nat) => (q.2, 2 - q.1)) (a, b) i).2))), some (.int (nI (2 - (itr (fun (_ : Nat) (q : Nat × Nat) => (q.2, 2 - q.1)) (a, b) i).1))), some (.int (nI (i + 1))), some (.int (nI ((itr (fun (_ : Nat) (q : Nat × Nat) => (q.2, 2 - q.1)) (a, b) i).1)))]) d_R_pointBy_42 rfl rfl (by decide) rfl ?_
    refine J_goto (tgt := 24) d_R_pointBy_45 (by decide) ?_
    exact ih (i + 1) _ (by omega)

theorem S_R_pointBy {X : Mem} {p w : Nat} (hp : p < 9) (hw : w < 8) : CM 0 m_R_pointBy [.int (nI p), .int (nI w)] X (rN (pbN p w) X) := by
  refine CM_of (L := [some (.int (nI p)), some (.int (nI w)), none, none, none, none]) 4 ok_R_pointBy (fun _ => Nat.le_of_ble_eq_true rfl) rfl ?_
  refine J_iload_n (i := 0) d_R_pointBy_0 rfl rfl ?_
  refine J_iconst (v := nI 3) d_R_pointBy_1 rfl ?_
  refine N_idiv d_R_pointBy_2 (by omega) (by omega) (by omega) ?_
  refine J_istore_n (i := 2) (L1 := [some (.int (nI p)), some (.int (nI w)), some (.int (nI (p / 3))), none, none, none]) d_R_pointBy_3 rfl (by decide) rfl ?_
  refine J_iload_n (i := 1) d_R_pointBy_4 rfl rfl ?_
  refine J_iconst (v := nI 3) d_R_pointBy_5 rfl ?_
  refine N_icmp_le (tgt := 17) d_R_pointBy_6 (by decide) (by omega) (by omega) (fun c6 => ?_) (fun c6 => ?_)
  · refine J_iload_n (i := 0) d_R_pointBy_17 rfl rfl ?_
    refine J_iconst (v := nI 3) d_R_pointBy_18 rfl ?_
    refine N_irem d_R_pointBy_19 (by omega) (by omega) (by omega) ?_
    refine J_istore_n (i := 3) (L1 := [some (.int (nI p)), some (.int (nI w)), some (.int (nI (p / 3))), some (.int (nI (p % 3))), none, none]) d_R_pointBy_20 rfl (by decide) rfl ?_
    refine J_iconst (v := nI 0) d_R_pointBy_21 rfl ?_
    refine J_istore (L1 := [some (.int (nI p)), some (.int (nI w)), some (.int (nI (p / 3))), some (.int (nI (p % 3))), some (.int (nI 0)), none]) d_R_pointBy_22 (by decide) rfl ?_
    refine lp_R_pointBy (a := (p / 3)) (b := (p % 3)) hp hw (by omega) (by omega) (fun z5 => ?_) (w % 4) 0 none (by omega)
    refine J_iconst (v := nI 3) d_R_pointBy_48 rfl ?_
    refine J_iload_n (i := 2) d_R_pointBy_49 rfl rfl ?_
    refine N_imul d_R_pointBy_50 ?_
    refine J_iload_n (i := 3) d_R_pointBy_51 rfl rfl ?_
    refine N_iadd d_R_pointBy_52 ?_
    refine M_ir d_R_pointBy_53 rfl rfl ?_
    exact ⟨by unfold pbN; first | rw [if_pos (show 3 < w by omega)] | rw [if_neg (show ¬ 3 < w by omega)], rfl⟩
  · refine J_iconst (v := nI 2) d_R_pointBy_9 rfl ?_
    refine J_iload_n (i := 0) d_R_pointBy_10 rfl rfl ?_
    refine J_iconst (v := nI 3) d_R_pointBy_11 rfl ?_
    refine N_irem d_R_pointBy_12 (by omega) (by omega) (by omega) ?_
    refine N_isub d_R_pointBy_13 (by omega) ?_
    refine J_goto (tgt := 20) d_R_pointBy_14 (by decide) ?_
    refine J_istore_n (i := 3) (L1 := [some (.int (nI p)), some (.int (nI w)), some (.int (nI (p / 3))), some (.int (nI (2 - (p % 3)))), none, none]) d_R_pointBy_20 rfl (by decide) rfl ?_
    refine J_iconst (v := nI 0) d_R_pointBy_21 rfl ?_
    refine J_istore (L1 := [some (.int (nI p)), some (.int (nI w)), some (.int (nI (p / 3))), some (.int (nI (2 - (p % 3)))), some (.int (nI 0)), none]) d_R_pointBy_22 (by decide) rfl ?_
    refine lp_R_pointBy (a := (p / 3)) (b := (2 - (p % 3))) hp hw (by omega) (by omega) (fun z5 => ?_) (w % 4) 0 none (by omega)
    refine J_iconst (v := nI 3) d_R_pointBy_48 rfl ?_
    refine J_iload_n (i := 2) d_R_pointBy_49 rfl rfl ?_
    refine N_imul d_R_pointBy_50 ?_
    refine J_iload_n (i := 3) d_R_pointBy_51 rfl rfl ?_
    refine N_iadd d_R_pointBy_52 ?_
    refine M_ir d_R_pointBy_53 rfl rfl ?_
    exact ⟨by unfold pbN; first | rw [if_pos (show 3 < w by omega)] | rw [if_neg (show ¬ 3 < w by omega)], rfl⟩

