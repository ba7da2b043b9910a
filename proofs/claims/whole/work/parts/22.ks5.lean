def pbN (p w : Nat) : Nat := 3 * (itr (fun (_ : Nat) (q : Nat × Nat) => (q.2, 2 - q.1)) (p / 3, if 3 < w then 2 - p % 3 else p % 3) (w % 4)).1 + (itr (fun (_ : Nat) (q : Nat × Nat) => (q.2, 2 - q.1)) (p / 3, if 3 < w then 2 - p % 3 else p % 3) (w % 4)).2
theorem pb_inv {a b : Nat} (ha : a ≤ 2) (hb : b ≤ 2) : ∀ i, (itr (fun (_ : Nat) (q : Nat × Nat) => (q.2, 2 - q.1)) (a, b) i).1 ≤ 2 ∧ (itr (fun (_ : Nat) (q : Nat × Nat) => (q.2, 2 - q.1)) (a, b) i).2 ≤ 2 :=
  itr_inv (fun _ (q : Nat × Nat) => q.1 ≤ 2 ∧ q.2 ≤ 2) ⟨ha, hb⟩ (fun n q h => ⟨h.2, by show 2 - q.1 ≤ 2; omega⟩)
theorem pb_lt : ∀ p, p < 9 → ∀ w, w < 8 → pbN p w < 9 := by decide +kernel
theorem lp_R_pointBy {d : Nat} {Q : Option Value → Mem → Prop} {X : Mem} {p w a b : Nat} (hp : p < 9) (hw : w < 8) (ha : a ≤ 2) (hb : b ≤ 2) (kx : ∀ z5 : Option Value, JM d m_R_pointBy Q 48 [some (.int (nI p)), some (.int (nI w)), some (.int (nI ((itr (fun (_ : Nat) (q : Nat × Nat) => (q.2, 2 - q.1)) (a, b) (w % 4)).1))), some (.int (nI ((itr (fun (_ : Nat) (q : Nat × Nat) => (q.2, 2 - q.1)) (a, b) (w % 4)).2))), some (.int (nI (w % 4))), z5] [] X) : ∀ (n i : Nat) (z5 : Option Value), i + n = (w % 4) → JM d m_R_pointBy Q 24 [some (.int (nI p)), some (.int (nI w)), some (.int (nI ((itr (fun (_ : Nat) (q : Nat × Nat) => (q.2, 2 - q.1)) (a, b) i).1))), some (.int (nI ((itr (fun (_ : Nat) (q : Nat × Nat) => (q.2, 2 - q.1)) (a, b) i).2))), some (.int (nI i)), z5] [] X := by
  intro n
  induction n with
  | zero =>
    intro i z5 hi
    obtain rfl : i = (w % 4) := by omega
    refine J_iload d_R_pointBy_24 rfl ?_
    refine J_iload_n (i := 1) d_R_pointBy_26 rfl rfl ?_
    refine J_iconst (v := nI 4) d_R_pointBy_27 rfl ?_
    refine N_irem d_R_pointBy_28 (by omega) (by omega) (by omega) ?_
    refine N_icmp_ge (tgt := 48) d_R_pointBy_29 (by decide) (by omega) (by omega) (fun c29 => ?_) (fun c29 => absurd c29 (by omega))
    exact kx _
  | succ n ih =>
    intro i z5 hi
    have hx5 := pb_inv ha hb i
    refine J_iload d_R_pointBy_24 rfl ?_
    refine J_iload_n (i := 1) d_R_pointBy_26 rfl rfl ?_
    refine J_iconst (v := nI 4) d_R_pointBy_27 rfl ?_
    refine N_irem d_R_pointBy_28 (by omega) (by omega) (by omega) ?_
    refine N_icmp_ge (tgt := 48) d_R_pointBy_29 (by decide) (by omega) (by omega) (fun c29 => absurd c29 (by omega)) (fun c29 => ?_)
    refine J_iload_n (i := 2) d_R_pointBy_32 rfl rfl ?_
    refine J_istore (L1 := [some (.int (nI p)), some (.int (nI w)), some (.int (nI ((itr (fun (_ : Nat) (q : Nat × Nat) => (q.2, 2 - q.1)) (a, b) i).1))), some (.int (nI ((itr (fun (_ : Nat) (q : Nat × Nat) => (q.2, 2 - q.1)) (a, b) i).2))), some (.int (nI i)), some (.int (nI ((itr (fun (_ : Nat) (q : Nat × Nat) => (q.2, 2 - q.1)) (a, b) i).1)))]) d_R_pointBy_33 (by decide) rfl ?_
    refine J_iload_n (i := 3) d_R_pointBy_35 rfl rfl ?_
    refine J_istore_n (i := 2) (L1 := [some (.int (nI p)), some (.int (nI w)), some (.int (nI ((itr (fun (_ : Nat) (q : Nat × Nat) => (q.2, 2 - q.1)) (a, b) i).2))), some (.int (nI ((itr (fun (_ : Nat) (q : Nat × Nat) => (q.2, 2 - q.1)) (a, b) i).2))), some (.int (nI i)), some (.int (nI ((itr (fun (_ : Nat) (q : Nat × Nat) => (q.2, 2 - q.1)) (a, b) i).1)))]) d_R_pointBy_36 rfl (by decide) rfl ?_
    refine J_iconst (v := nI 2) d_R_pointBy_37 rfl ?_
    refine J_iload d_R_pointBy_38 rfl ?_
    refine N_isub d_R_pointBy_40 (by omega) ?_
    refine J_istore_n (i := 3) (L1 := [some (.int (nI p)), some (.int (nI w)), some (.int (nI ((itr (fun (_ : Nat) (q : Nat × Nat) => (q.2, 2 - q.1)) (a, b) i).2))), some (.int (nI (2 - (itr (fun (_ : Nat) (q : Nat × Nat) => (q.2, 2 - q.1)) (a, b) i).1))), some (.int (nI i)), some (.int (nI ((itr (fun (_ : Nat) (q : Nat × Nat) => (q.2, 2 - q.1)) (a, b) i).1)))]) d_R_pointBy_41 rfl (by decide) rfl ?_
    refine N_iinc (a := i) (c := 1) (L1 := [some (.int (nI p)), some (.int (nI w)), some (.int (nI ((itr (fun (_ : Nat) (q : Nat × Nat) => (q.2, 2 - q.1)) (a, b) i).2))), some (.int (nI (2 - (itr (fun (_ : Nat) (q : Nat × Nat) => (q.2, 2 - q.1)) (a, b) i).1))), some (.int (nI (i + 1))), some (.int (nI ((itr (fun (_ : Nat) (q : Nat × Nat) => (q.2, 2 - q.1)) (a, b) i).1)))]) d_R_pointBy_42 rfl rfl (by decide) rfl ?_
    refine J_goto (tgt := 24) d_R_pointBy_45 (by decide) ?_
    exact ih (i + 1) _ (by omega)

theorem S_R_pointBy {X : Mem} {p w : Nat} (hp : p < 9) (hw : w < 8) : CM 0 m_R_pointBy [.int (nI p), .int (nI w)] X (rN (pbN p w) X) := by
  refine CM_of (L := [some (.int (nI p)), some (.int (nI w)), none, none, none, none]) 4 ok_R_pointBy (fun _ => Nat.le_of_ble_eq_true rfl) rfl ?_
  refine J_iload_n (i := 0) d_R_pointBy_0 rfl rfl ?_
  refine J_iconst (v := nI 3) d_R_pointBy_1 rfl ?_
  refine N_idiv d_R_pointBy_2 (by omega) (by omega) (by omega) ?_
  refine J_istore_n (i := 2) (L1 := [some (.int (nI p)), some (.int (nI w)), some (.int (nI (p / 3))), none, none, none]) d_R_pointBy_3 rfl (by decide) rfl ?_
  refine J_iload_n (i := 1) d_R_pointBy_4 rfl rfl ?_
  refine J_iconst (v := nI 3) d_R_pointBy_5 rfl ?_
  refine N_icmp_le (tgt := 17) d_R_pointBy_6 (by decide) (by omega) (by omega) (fun c6 => ?_) (fun c6 => ?_)
  · refine J_iload_n (i := 0) d_R_pointBy_17 rfl rfl ?_
    refine J_iconst (v := nI 3) d_R_pointBy_18 rfl ?_
    refine N_irem d_R_pointBy_19 (by omega) (by omega) (by omega) ?_
    refine J_istore_n (i := 3) (L1 := [some (.int (nI p)), some (.int (nI w)), some (.int (nI (p / 3))), some (.int (nI (p % 3))), none, none]) d_R_pointBy_20 rfl (by decide) rfl ?_
    refine J_iconst (v := nI 0) d_R_pointBy_21 rfl ?_
    refine J_istore (L1 := [some (.int (nI p)), some (.int (nI w)), some (.int (nI (p / 3))), some (.int (nI (p % 3))), some (.int (nI 0)), none]) d_R_pointBy_22 (by decide) rfl ?_
    refine lp_R_pointBy (a := (p / 3)) (b := (p % 3)) hp hw (by omega) (by omega) (fun z5 => ?_) (w % 4) 0 none (by omega)
    refine J_iconst (v := nI 3) d_R_pointBy_48 rfl ?_
    refine J_iload_n (i := 2) d_R_pointBy_49 rfl rfl ?_
    refine N_imul d_R_pointBy_50 ?_
    refine J_iload_n (i := 3) d_R_pointBy_51 rfl rfl ?_
    refine N_iadd d_R_pointBy_52 ?_
    refine M_ir d_R_pointBy_53 rfl rfl ?_
    exact ⟨by unfold pbN; first | rw [if_pos (show 3 < w by omega)] | rw [if_neg (show ¬ 3 < w by omega)], rfl⟩
  · refine J_iconst (v := nI 2) d_R_pointBy_9 rfl ?_
    refine J_iload_n (i := 0) d_R_pointBy_10 rfl rfl ?_
    refine J_iconst (v := nI 3) d_R_pointBy_11 rfl ?_
    refine N_irem d_R_pointBy_12 (by omega) (by omega) (by omega) ?_
    refine N_isub d_R_pointBy_13 (by omega) ?_
    refine J_goto (tgt := 20) d_R_pointBy_14 (by decide) ?_
    refine J_istore_n (i := 3) (L1 := [some (.int (nI p)), some (.int (nI w)), some (.int (nI (p / 3))), some (.int (nI (2 - (p % 3)))), none, none]) d_R_pointBy_20 rfl (by decide) rfl ?_
    refine J_iconst (v := nI 0) d_R_pointBy_21 rfl ?_
    refine J_istore (L1 := [some (.int (nI p)), some (.int (nI w)), some (.int (nI (p / 3))), some (.int (nI (2 - (p % 3)))), some (.int (nI 0)), none]) d_R_pointBy_22 (by decide) rfl ?_
    refine lp_R_pointBy (a := (p / 3)) (b := (2 - (p % 3))) hp hw (by omega) (by omega) (fun z5 => ?_) (w % 4) 0 none (by omega)
    refine J_iconst (v := nI 3) d_R_pointBy_48 rfl ?_
    refine J_iload_n (i := 2) d_R_pointBy_49 rfl rfl ?_
    refine N_imul d_R_pointBy_50 ?_
    refine J_iload_n (i := 3) d_R_pointBy_51 rfl rfl ?_
    refine N_iadd d_R_pointBy_52 ?_
    refine M_ir d_R_pointBy_53 rfl rfl ?_
    exact ⟨by unfold pbN; first | rw [if_pos (show 3 < w by omega)] | rw [if_neg (show ¬ 3 < w by omega)], rfl⟩

def allN (P : Nat → Bool) : Nat → Bool
  | 0 => true
  | n + 1 => allN P n && P n
theorem allN_no {P : Nat → Bool} {i : Nat} (h : P i = false) : ∀ {n : Nat}, i < n → allN P n = false
  | 0, q => by omega
  | n + 1, q => by
    rcases Nat.lt_or_ge i n with z | z
    · rw [allN, allN_no h z]; rfl
    · obtain rfl : i = n := by omega
      rw [allN, h, Bool.and_false]
theorem allN_yes {P : Nat → Bool} : ∀ {n : Nat}, (∀ i, i < n → P i = true) → allN P n = true
  | 0, _ => rfl
  | n + 1, h => by rw [allN, allN_yes (fun i q => h i (by omega)), h n (by omega)]; rfl
def likB (c a b : Nat) : Bool := allN (fun p => pbN p c == pbN (pbN p a) b) 9
def joinN (a b : Nat) : Nat := (if b < 4 then b % 4 + a % 4 else b % 4 + 4 - a % 4) % 4 + if (a < 4) = (b < 4) then 0 else 4
theorem join_lik : ∀ a, a < 8 → ∀ b, b < 8 → joinN a b < 8 ∧ likB (joinN a b) a b = true ∧ ∀ c, c < joinN a b → likB c a b = false := by decide +kernel
def joinF (a b : Int32) : Int32 := if inR a 7 && inR b 7 then nI (joinN (tn a) (tn b)) else (-1)
theorem lp_R_areLike {X : Mem} {c a b : Nat} {Q : Option Value → Mem → Prop} (hc : c < 8) (ha : a < 8) (hb : b < 8) (kq : Q (some (.int (b2i (likB c a b)))) X) : ∀ (n i : Nat), i + n = 9 → (∀ p, p < i → pbN p c = pbN (pbN p a) b) → JM 1 m_R_areLike Q 2 [some (.int (nI c)), some (.int (nI a)), some (.int (nI b)), some (.int (nI i))] [] X := by
  intro n
  induction n with
  | zero =>
    intro i hi hk
    obtain rfl : i = 9 := by omega
    refine J_iload_n (i := 3) d_R_areLike_2 rfl rfl ?_
    refine J_bipush (v := nI 9) d_R_areLike_3 rfl ?_
    refine N_icmp_ge (tgt := 33) d_R_areLike_5 (by decide) (by omega) (by omega) (fun c5 => ?_) (fun c5 => absurd c5 (by omega))
    refine J_iconst (v := nI 1) d_R_areLike_33 rfl ?_
    refine J.eq (st1 := [.int (b2i true)]) ?_ rfl rfl rfl
    refine M_ir d_R_areLike_34 rfl b2i_nar ?_
    rw [show likB c a b = true from allN_yes (fun i q => beq_iff_eq.mpr (hk i q))] at kq
    exact kq
  | succ n ih =>
    intro i hi hk
    have hpa := pb_lt i (by omega) a ha
    have hpb := pb_lt _ hpa b hb
    have hpc := pb_lt i (by omega) c hc
    refine J_iload_n (i := 3) d_R_areLike_2 rfl rfl ?_
    refine J_bipush (v := nI 9) d_R_areLike_3 rfl ?_
    refine N_icmp_ge (tgt := 33) d_R_areLike_5 (by decide) (by omega) (by omega) (fun c5 => absurd c5 (by omega)) (fun c5 => ?_)
    refine J_iload_n (i := 3) d_R_areLike_8 rfl rfl ?_
    refine J_iload_n (i := 0) d_R_areLike_9 rfl rfl ?_
    refine CS_N (av := [.int (nI i), .int (nI c)]) d_R_areLike_10 s_R_81 (S_R_pointBy (by omega) (by omega)) (by decide) rfl rfl (Nat.le_of_ble_eq_true rfl) ?_
    refine J_iload_n (i := 3) d_R_areLike_13 rfl rfl ?_
    refine J_iload_n (i := 1) d_R_areLike_14 rfl rfl ?_
    refine CS_N (av := [.int (nI i), .int (nI a)]) d_R_areLike_15 s_R_81 (S_R_pointBy (by omega) (by omega)) (by decide) rfl rfl (Nat.le_of_ble_eq_true rfl) ?_
    refine J_iload_n (i := 2) d_R_areLike_18 rfl rfl ?_
    refine CS_N (av := [.int (nI (pbN i a)), .int (nI b)]) d_R_areLike_19 s_R_81 (S_R_pointBy (by omega) (by omega)) (by decide) rfl rfl (Nat.le_of_ble_eq_true rfl) ?_
    refine N_icmp_eq (tgt := 27) d_R_areLike_22 (by decide) (by omega) (by omega) (fun c22 => ?_) (fun c22 => ?_)
    · refine N_iinc (a := i) (c := 1) (L1 := [some (.int (nI c)), some (.int (nI a)), some (.int (nI b)), some (.int (nI (i + 1)))]) d_R_areLike_27 rfl rfl (by decide) rfl ?_
      refine J_goto (tgt := 2) d_R_areLike_30 (by decide) ?_
      exact ih (i + 1) (by omega) (fun p q => by rcases Nat.lt_or_ge p i with z | z; exact hk p z; rw [show p = i by omega]; exact c22)
    · refine J_iconst (v := nI 0) d_R_areLike_25 rfl ?_
      refine J.eq (st1 := [.int (b2i false)]) ?_ rfl rfl rfl
      refine M_ir d_R_areLike_26 rfl b2i_nar ?_
      rw [show likB c a b = false from allN_no (P := fun p => pbN p c == pbN (pbN p a) b) (i := i) (beq_eq_false_iff_ne.mpr c22) (by omega)] at kq
      exact kq
theorem S_R_areLike {X : Mem} {c a b : Nat} (hc : c < 8) (ha : a < 8) (hb : b < 8) : CM 1 m_R_areLike [.int (nI c), .int (nI a), .int (nI b)] X (rB (likB c a b) X) := by
  refine CM_of (L := [some (.int (nI c)), some (.int (nI a)), some (.int (nI b)), none]) 1 ok_R_areLike (fun _ => Nat.le_of_ble_eq_true rfl) rfl ?_
  refine J_iconst (v := nI 0) d_R_areLike_0 rfl ?_
  refine J_istore_n (i := 3) (L1 := [some (.int (nI c)), some (.int (nI a)), some (.int (nI b)), some (.int (nI 0))]) d_R_areLike_1 rfl (by decide) rfl ?_
  exact lp_R_areLike hc ha hb ⟨rfl, rfl⟩ 9 0 (by omega) (fun k q => by omega)

theorem lp_R_joined {X : Mem} {a b : Nat} {Q : Option Value → Mem → Prop} (ha : a < 8) (hb : b < 8) (kq : Q (some (.int (nI (joinN a b)))) X) : ∀ (n i : Nat), i + n = joinN a b → JM 2 m_R_joined Q 18 [some (.ref 244), some (.int (nI a)), some (.int (nI b)), some (.int (nI i))] [] X := by
  have hj := join_lik a ha b hb
  intro n
  induction n with
  | zero =>
    intro i hi
    obtain rfl : i = joinN a b := by omega
    refine J_iload_n (i := 3) d_R_joined_18 rfl rfl ?_
    refine J_iload_n (i := 1) d_R_joined_19 rfl rfl ?_
    refine J_iload_n (i := 2) d_R_joined_20 rfl rfl ?_
    refine CS_B (av := [.int (nI (joinN a b)), .int (nI a), .int (nI b)]) d_R_joined_21 s_R_108 (S_R_areLike (by omega) (by omega) (by omega)) (by decide) rfl rfl (Nat.le_of_ble_eq_true rfl) ?_
    refine B_if_ne (tgt := 33) d_R_joined_24 (by decide) (fun c24 => ?_) (fun c24 => absurd c24 (by rw [hj.2.1]; decide))
    refine J_iload_n (i := 3) d_R_joined_33 rfl rfl ?_
    refine M_ir d_R_joined_34 rfl rfl ?_
    exact kq
  | succ n ih =>
    intro i hi
    refine J_iload_n (i := 3) d_R_joined_18 rfl rfl ?_
    refine J_iload_n (i := 1) d_R_joined_19 rfl rfl ?_
    refine J_iload_n (i := 2) d_R_joined_20 rfl rfl ?_
    refine CS_B (av := [.int (nI i), .int (nI a), .int (nI b)]) d_R_joined_21 s_R_108 (S_R_areLike (by omega) (by omega) (by omega)) (by decide) rfl rfl (Nat.le_of_ble_eq_true rfl) ?_
    refine B_if_ne (tgt := 33) d_R_joined_24 (by decide) (fun c24 => absurd c24 (by rw [hj.2.2 i (by omega)]; decide)) (fun c24 => ?_)
    refine N_iinc (a := i) (c := 1) (L1 := [some (.ref 244), some (.int (nI a)), some (.int (nI b)), some (.int (nI (i + 1)))]) d_R_joined_27 rfl rfl (by decide) rfl ?_
    refine J_goto (tgt := 18) d_R_joined_30 (by decide) ?_
    exact ih (i + 1) (by omega)
theorem S_R_joined {X : Mem} {a b : Int32} : CM 2 m_R_joined [.ref 244, .int a, .int b] X (rI (joinF a b) X) := by
  refine CM_of (L := [some (.ref 244), some (.int a), some (.int b), none]) 1 ok_R_joined (fun _ => Nat.le_of_ble_eq_true rfl) rfl ?_
  refine J_iload_n (i := 1) d_R_joined_0 rfl rfl ?_
  refine CS_B (av := [.int a]) d_R_joined_1 s_R_102 (S_R_isWay) (by decide) rfl rfl (Nat.le_of_ble_eq_true rfl) ?_
  refine B_if_eq (tgt := 14) d_R_joined_4 (by decide) (fun c4 => ?_) (fun c4 => ?_)
  · refine J_iconst (v := (-1)) d_R_joined_14 rfl ?_
    refine M_ir d_R_joined_15 rfl rfl ?_
    exact ⟨by simp [joinF, c4], rfl⟩
  · refine J_iload_n (i := 2) d_R_joined_7 rfl rfl ?_
    refine CS_B (av := [.int b]) d_R_joined_8 s_R_102 (S_R_isWay) (by decide) rfl rfl (Nat.le_of_ble_eq_true rfl) ?_
    refine B_if_ne (tgt := 16) d_R_joined_11 (by decide) (fun c11 => ?_) (fun c11 => ?_)
    · obtain ⟨a_, ha_, rfl⟩ := inR_n (n := 7) c4 (by decide)
      obtain ⟨b_, hb_, rfl⟩ := inR_n (n := 7) c11 (by decide)
      refine J_iconst (v := nI 0) d_R_joined_16 rfl ?_
      refine J_istore_n (i := 3) (L1 := [some (.ref 244), some (.int (nI a_)), some (.int (nI b_)), some (.int (nI 0))]) d_R_joined_17 rfl (by decide) rfl ?_
      exact lp_R_joined (by omega) (by omega) ⟨by simp [joinF, c4, c11, tn_nI (show a_ < 2147483648 by omega), tn_nI (show b_ < 2147483648 by omega)], rfl⟩ (joinN a_ b_) 0 (by omega)
    · refine J_iconst (v := (-1)) d_R_joined_14 rfl ?_
      refine M_ir d_R_joined_15 rfl rfl ?_
      exact ⟨by simp [joinF, c4, c11], rfl⟩

theorem jn_sub (x y : Nat) (hx : x < 4) (hy : y < 4) : nI y - nI x + nI 4 = nI (y + 4 - x) := by
  have g : ∀ x, x < 4 → ∀ y, y < 4 → nI y - nI x + nI 4 = nI (y + 4 - x) := by decide
  exact g x hx y hy
theorem S_O_joined {X : Mem} {a b : Int32} : CM 1 m_O_joined [.ref 8, .int a, .int b] X (rI (joinF a b) X) := by
  refine CM_of (L := [some (.ref 8), some (.int a), some (.int b), none, none, none]) 3 ok_O_joined (fun _ => Nat.le_of_ble_eq_true rfl) rfl ?_
  refine J_iload_n (i := 1) d_O_joined_0 rfl rfl ?_
  refine CS_B (av := [.int a]) d_O_joined_1 s_O_227 (S_O_isWay) (by decide) rfl rfl (Nat.le_of_ble_eq_true rfl) ?_
  refine B_if_eq (tgt := 14) d_O_joined_4 (by decide) (fun c4 => ?_) (fun c4 => ?_)
  · refine J_iconst (v := (-1)) d_O_joined_14 rfl ?_
    refine M_ir d_O_joined_15 rfl rfl ?_
    exact ⟨by simp [joinF, c4], rfl⟩
  · refine J_iload_n (i := 2) d_O_joined_7 rfl rfl ?_
    refine CS_B (av := [.int b]) d_O_joined_8 s_O_227 (S_O_isWay) (by decide) rfl rfl (Nat.le_of_ble_eq_true rfl) ?_
    refine B_if_ne (tgt := 16) d_O_joined_11 (by decide) (fun c11 => ?_) (fun c11 => ?_)
    · obtain ⟨a_, ha_, rfl⟩ := inR_n (n := 7) c4 (by decide)
      obtain ⟨b_, hb_, rfl⟩ := inR_n (n := 7) c11 (by decide)
      refine J_iload_n (i := 2) d_O_joined_16 rfl rfl ?_
      refine J_iconst (v := nI 4) d_O_joined_17 rfl ?_
      refine N_icmp_lt (tgt := 25) d_O_joined_18 (by decide) (by omega) (by omega) (fun c18 => ?_) (fun c18 => ?_)
      · refine J_iconst (v := nI 0) d_O_joined_25 rfl ?_
        refine J_istore_n (i := 3) (L1 := [some (.ref 8), some (.int (nI a_)), some (.int (nI b_)), some (.int (nI 0)), none, none]) d_O_joined_26 rfl (by decide) rfl ?_
        refine J_iload_n (i := 3) d_O_joined_27 rfl rfl ?_
        refine N_if_eq (tgt := 43) d_O_joined_28 (by decide) (by omega) (fun c28 => ?_) (fun c28 => absurd c28 (by decide))
        refine J_iload_n (i := 2) d_O_joined_43 rfl rfl ?_
        refine J_iconst (v := nI 4) d_O_joined_44 rfl ?_
        refine N_irem d_O_joined_45 (by omega) (by omega) (by omega) ?_
        refine J_iload_n (i := 1) d_O_joined_46 rfl rfl ?_
        refine J_iconst (v := nI 4) d_O_joined_47 rfl ?_
        refine N_irem d_O_joined_48 (by omega) (by omega) (by omega) ?_
        refine N_iadd d_O_joined_49 ?_
        refine N_nm (fun v50 hv50 => ?_)
        refine J_istore (L1 := [some (.ref 8), some (.int (nI a_)), some (.int (nI b_)), some (.int (nI 0)), some (.int (nI v50)), none]) d_O_joined_50 (by decide) rfl ?_
        refine J_iload_n (i := 1) d_O_joined_52 rfl rfl ?_
        refine J_iconst (v := nI 4) d_O_joined_53 rfl ?_
        refine N_icmp_lt (tgt := 61) d_O_joined_54 (by decide) (by omega) (by omega) (fun c54 => ?_) (fun c54 => ?_)
        · refine J_iconst (v := nI 0) d_O_joined_61 rfl ?_
          refine J_iload_n (i := 3) d_O_joined_62 rfl rfl ?_
          refine N_icmp_eq (tgt := 70) d_O_joined_63 (by decide) (by omega) (by omega) (fun c63 => ?_) (fun c63 => absurd c63 (by decide))
          refine J_iconst (v := nI 0) d_O_joined_70 rfl ?_
          refine J_istore (L1 := [some (.ref 8), some (.int (nI a_)), some (.int (nI b_)), some (.int (nI 0)), some (.int (nI v50)), some (.int (nI 0))]) d_O_joined_71 (by decide) rfl ?_
          refine J_iload d_O_joined_73 rfl ?_
          refine J_iconst (v := nI 4) d_O_joined_75 rfl ?_
          refine N_irem d_O_joined_76 (by omega) (by omega) (by omega) ?_
          refine J_iload d_O_joined_77 rfl ?_
          refine N_if_eq (tgt := 86) d_O_joined_79 (by decide) (by omega) (fun c79 => ?_) (fun c79 => absurd c79 (by decide))
          refine J_iconst (v := nI 0) d_O_joined_86 rfl ?_
          refine N_iadd d_O_joined_87 ?_
          refine M_ir d_O_joined_88 rfl rfl ?_
          first | (exfalso; omega) | exact ⟨by simp [joinF, joinN, c4, c11, c18, c28, hv50, c54, c63, c79, tn_nI (show a_ < 2147483648 by omega), tn_nI (show b_ < 2147483648 by omega)], rfl⟩
        · refine J_iconst (v := nI 1) d_O_joined_57 rfl ?_
          refine J_goto (tgt := 62) d_O_joined_58 (by decide) ?_
          refine J_iload_n (i := 3) d_O_joined_62 rfl rfl ?_
          refine N_icmp_eq (tgt := 70) d_O_joined_63 (by decide) (by omega) (by omega) (fun c63 => absurd c63 (by decide)) (fun c63 => ?_)
          refine J_iconst (v := nI 1) d_O_joined_66 rfl ?_
          refine J_goto (tgt := 71) d_O_joined_67 (by decide) ?_
          refine J_istore (L1 := [some (.ref 8), some (.int (nI a_)), some (.int (nI b_)), some (.int (nI 0)), some (.int (nI v50)), some (.int (nI 1))]) d_O_joined_71 (by decide) rfl ?_
          refine J_iload d_O_joined_73 rfl ?_
          refine J_iconst (v := nI 4) d_O_joined_75 rfl ?_
          refine N_irem d_O_joined_76 (by omega) (by omega) (by omega) ?_
          refine J_iload d_O_joined_77 rfl ?_
          refine N_if_eq (tgt := 86) d_O_joined_79 (by decide) (by omega) (fun c79 => absurd c79 (by decide)) (fun c79 => ?_)
          refine J_iconst (v := nI 4) d_O_joined_82 rfl ?_
          refine J_goto (tgt := 87) d_O_joined_83 (by decide) ?_
          refine N_iadd d_O_joined_87 ?_
          refine M_ir d_O_joined_88 rfl rfl ?_
          first | (exfalso; omega) | exact ⟨by simp [joinF, joinN, c4, c11, c18, c28, hv50, c54, c63, c79, tn_nI (show a_ < 2147483648 by omega), tn_nI (show b_ < 2147483648 by omega)], rfl⟩
      · refine J_iconst (v := nI 1) d_O_joined_21 rfl ?_
        refine J_goto (tgt := 26) d_O_joined_22 (by decide) ?_
        refine J_istore_n (i := 3) (L1 := [some (.ref 8), some (.int (nI a_)), some (.int (nI b_)), some (.int (nI 1)), none, none]) d_O_joined_26 rfl (by decide) rfl ?_
        refine J_iload_n (i := 3) d_O_joined_27 rfl rfl ?_
        refine N_if_eq (tgt := 43) d_O_joined_28 (by decide) (by omega) (fun c28 => absurd c28 (by decide)) (fun c28 => ?_)
        refine J_iload_n (i := 2) d_O_joined_31 rfl rfl ?_
        refine J_iconst (v := nI 4) d_O_joined_32 rfl ?_
        refine N_irem d_O_joined_33 (by omega) (by omega) (by omega) ?_
        refine J_iload_n (i := 1) d_O_joined_34 rfl rfl ?_
        refine J_iconst (v := nI 4) d_O_joined_35 rfl ?_
        refine N_irem d_O_joined_36 (by omega) (by omega) (by omega) ?_
        refine J_isub d_O_joined_37 ?_
        refine J_iconst (v := nI 4) d_O_joined_38 rfl ?_
        refine J_iadd d_O_joined_39 ?_
        refine J_goto (tgt := 50) d_O_joined_40 (by decide) ?_
        refine I_ton (n := b_ % 4 + 4 - a_ % 4) (jn_sub _ _ (Nat.mod_lt _ (by decide)) (Nat.mod_lt _ (by decide))) ?_
        refine N_nm (fun v50 hv50 => ?_)
        refine J_istore (L1 := [some (.ref 8), some (.int (nI a_)), some (.int (nI b_)), some (.int (nI 1)), some (.int (nI v50)), none]) d_O_joined_50 (by decide) rfl ?_
        refine J_iload_n (i := 1) d_O_joined_52 rfl rfl ?_
        refine J_iconst (v := nI 4) d_O_joined_53 rfl ?_
        refine N_icmp_lt (tgt := 61) d_O_joined_54 (by decide) (by omega) (by omega) (fun c54 => ?_) (fun c54 => ?_)
        · refine J_iconst (v := nI 0) d_O_joined_61 rfl ?_
          refine J_iload_n (i := 3) d_O_joined_62 rfl rfl ?_
          refine N_icmp_eq (tgt := 70) d_O_joined_63 (by decide) (by omega) (by omega) (fun c63 => absurd c63 (by decide)) (fun c63 => ?_)
          refine J_iconst (v := nI 1) d_O_joined_66 rfl ?_
          refine J_goto (tgt := 71) d_O_joined_67 (by decide) ?_
          refine J_istore (L1 := [some (.ref 8), some (.int (nI a_)), some (.int (nI b_)), some (.int (nI 1)), some (.int (nI v50)), some (.int (nI 1))]) d_O_joined_71 (by decide) rfl ?_
          refine J_iload d_O_joined_73 rfl ?_
          refine J_iconst (v := nI 4) d_O_joined_75 rfl ?_
          refine N_irem d_O_joined_76 (by omega) (by omega) (by omega) ?_
          refine J_iload d_O_joined_77 rfl ?_
          refine N_if_eq (tgt := 86) d_O_joined_79 (by decide) (by omega) (fun c79 => absurd c79 (by decide)) (fun c79 => ?_)
          refine J_iconst (v := nI 4) d_O_joined_82 rfl ?_
          refine J_goto (tgt := 87) d_O_joined_83 (by decide) ?_
          refine N_iadd d_O_joined_87 ?_
          refine M_ir d_O_joined_88 rfl rfl ?_
          first | (exfalso; omega) | exact ⟨by simp [joinF, joinN, c4, c11, c18, c28, hv50, c54, c63, c79, tn_nI (show a_ < 2147483648 by omega), tn_nI (show b_ < 2147483648 by omega)], rfl⟩
        · refine J_iconst (v := nI 1) d_O_joined_57 rfl ?_
          refine J_goto (tgt := 62) d_O_joined_58 (by decide) ?_
          refine J_iload_n (i := 3) d_O_joined_62 rfl rfl ?_
          refine N_icmp_eq (tgt := 70) d_O_joined_63 (by decide) (by omega) (by omega) (fun c63 => ?_) (fun c63 => absurd c63 (by decide))
          refine J_iconst (v := nI 0) d_O_joined_70 rfl ?_
          refine J_istore (L1 := [some (.ref 8), some (.int (nI a_)), some (.int (nI b_)), some (.int (nI 1)), some (.int (nI v50)), some (.int (nI 0))]) d_O_joined_71 (by decide) rfl ?_
          refine J_iload d_O_joined_73 rfl ?_
          refine J_iconst (v := nI 4) d_O_joined_75 rfl ?_
          refine N_irem d_O_joined_76 (by omega) (by omega) (by omega) ?_
          refine J_iload d_O_joined_77 rfl ?_
          refine N_if_eq (tgt := 86) d_O_joined_79 (by decide) (by omega) (fun c79 => ?_) (fun c79 => absurd c79 (by decide))
          refine J_iconst (v := nI 0) d_O_joined_86 rfl ?_
          refine N_iadd d_O_joined_87 ?_
          refine M_ir d_O_joined_88 rfl rfl ?_
          first | (exfalso; omega) | exact ⟨by simp [joinF, joinN, c4, c11, c18, c28, hv50, c54, c63, c79, tn_nI (show a_ < 2147483648 by omega), tn_nI (show b_ < 2147483648 by omega)], rfl⟩
    · refine J_iconst (v := (-1)) d_O_joined_14 rfl ?_
      refine M_ir d_O_joined_15 rfl rfl ?_
      exact ⟨by simp [joinF, c4, c11], rfl⟩

theorem pcn_lt2 : ∀ (f g n : Nat), n < 2 ^ g → pcn f n ≤ g
  | 0, g, n, _ => Nat.zero_le _
  | f + 1, 0, n, h => by
    have : n = 0 := by simpa using h
    rw [this, pcn_0]
    exact Nat.le_refl 0
  | f + 1, g + 1, n, h => by
    have := pcn_lt2 f g (n / 2) (by rw [Nat.pow_succ] at h; omega)
    rw [pcn]
    omega
theorem bc20 {n : Nat} (h : n < 1048576) : bc n ≤ 20 := pcn_lt2 32 20 n h
theorem ap_le {a b w : Nat} (ha : a < 1048576) : apN a b w ≤ 20 := bc20 (xor_lt 20 ha mvs_lt)
def nwN (a b : Nat) : Nat := itr (fun k x => if apN a b (k + 1) < apN a b x then k + 1 else x) 0 7
theorem nw_lt {a b : Nat} : ∀ i, i ≤ 7 → itr (fun k x => if apN a b (k + 1) < apN a b x then k + 1 else x) 0 i < 8 :=
  itr_invN (fun _ (x : Nat) => x < 8) 7 (by decide) (fun n x hn hx => by
    try dsimp only
    split <;> omega)
theorem lp_R_nearestWay {d : Nat} {Q : Option Value → Mem → Prop} {X : Mem} {a b : Nat} (hX : Ok X) (ha : a < 1048576) (hb : b < 1048576) (hd : 2 ≤ d) (kx : JM d m_R_nearestWay Q 47 [some (.ref 244), some (.int (nI a)), some (.int (nI b)), some (.int (nI (itr (fun k x => if apN a b (k + 1) < apN a b x then k + 1 else x) 0 7))), some (.int (nI 8))] [] X) : ∀ (n i : Nat), i + n = 7 → JM d m_R_nearestWay Q 5 [some (.ref 244), some (.int (nI a)), some (.int (nI b)), some (.int (nI (itr (fun k x => if apN a b (k + 1) < apN a b x then k + 1 else x) 0 i))), some (.int (nI (i + 1)))] [] X := by
  intro n
  induction n with
  | zero =>
    intro i hi
    obtain rfl : i = 7 := by omega
    refine J_iload d_R_nearestWay_5 rfl ?_
    refine J_bipush (v := nI 8) d_R_nearestWay_7 rfl ?_
    refine N_icmp_ge (tgt := 47) d_R_nearestWay_9 (by decide) (by omega) (by omega) (fun c9 => ?_) (fun c9 => absurd c9 (by omega))
    exact kx
  | succ n ih =>
    intro i hi
    generalize hx : (itr (fun k x => if apN a b (k + 1) < apN a b x then k + 1 else x) 0 i) = x
    have hx5 : x < 8 := by rw [← hx]; exact nw_lt i (by omega)
    refine J_iload d_R_nearestWay_5 rfl ?_
    refine J_bipush (v := nI 8) d_R_nearestWay_7 rfl ?_
    refine N_icmp_ge (tgt := 47) d_R_nearestWay_9 (by decide) (by omega) (by omega) (fun c9 => absurd c9 (by omega)) (fun c9 => ?_)
    refine J_iload_n (i := 1) d_R_nearestWay_12 rfl rfl ?_
    refine J_aload_n (i := 0) d_R_nearestWay_13 rfl rfl ?_
    refine J_iload_n (i := 2) d_R_nearestWay_14 rfl rfl ?_
    refine J_iload d_R_nearestWay_15 rfl ?_
    refine CV_N (av := [.int (nI b), .int (nI (i + 1))]) d_R_nearestWay_17 s_R_105 (M_rcv rfl (by decide) rfl) (S_R_byWay hX (by omega) (by omega)) (by omega) rfl rfl (Nat.le_of_ble_eq_true rfl) ?_
    refine N_ixor d_R_nearestWay_20 ?_
    refine CS_N (av := [.int (nI (a ^^^ (mvs (i + 1) b)))]) d_R_nearestWay_21 s_R_121 (S_R_bits (Nat.lt_trans (xor_lt 20 ha mvs_lt) (by decide))) (by omega) rfl rfl (Nat.le_of_ble_eq_true rfl) ?_
    refine J_iload_n (i := 1) d_R_nearestWay_24 rfl rfl ?_
    refine J_aload_n (i := 0) d_R_nearestWay_25 rfl rfl ?_
    refine J_iload_n (i := 2) d_R_nearestWay_26 rfl rfl ?_
    refine J_iload_n (i := 3) d_R_nearestWay_27 rfl rfl ?_
    refine CV_N (av := [.int (nI b), .int (nI x)]) d_R_nearestWay_28 s_R_105 (M_rcv rfl (by decide) rfl) (S_R_byWay hX (by omega) (by omega)) (by omega) rfl rfl (Nat.le_of_ble_eq_true rfl) ?_
    refine N_ixor d_R_nearestWay_31 ?_
    refine CS_N (av := [.int (nI (a ^^^ (mvs x b)))]) d_R_nearestWay_32 s_R_121 (S_R_bits (Nat.lt_trans (xor_lt 20 ha mvs_lt) (by decide))) (by omega) rfl rfl (Nat.le_of_ble_eq_true rfl) ?_
    refine N_icmp_ge (tgt := 41) d_R_nearestWay_35 (by decide) (by first | omega | exact Nat.lt_of_le_of_lt (bc_le _) (by decide)) (by first | omega | exact Nat.lt_of_le_of_lt (bc_le _) (by decide)) (fun c35 => ?_) (fun c35 => ?_)
    · refine N_iinc (a := (i + 1)) (c := 1) (L1 := [some (.ref 244), some (.int (nI a)), some (.int (nI b)), some (.int (nI x)), some (.int (nI ((i + 1) + 1)))]) d_R_nearestWay_41 rfl rfl (by decide) rfl ?_
      refine J_goto (tgt := 5) d_R_nearestWay_44 (by decide) ?_
      exact (ih (i + 1) (by omega)).eq (by rw [show itr (fun k x => if apN a b (k + 1) < apN a b x then k + 1 else x) 0 (i + 1) = x from itr_g hx (by first | exact if_neg (Nat.not_lt.mpr c35) | exact if_pos (Nat.lt_of_not_le c35))]) rfl rfl
    · refine J_iload d_R_nearestWay_38 rfl ?_
      refine J_istore_n (i := 3) (L1 := [some (.ref 244), some (.int (nI a)), some (.int (nI b)), some (.int (nI (i + 1))), some (.int (nI (i + 1)))]) d_R_nearestWay_40 rfl (by decide) rfl ?_
      refine N_iinc (a := (i + 1)) (c := 1) (L1 := [some (.ref 244), some (.int (nI a)), some (.int (nI b)), some (.int (nI (i + 1))), some (.int (nI ((i + 1) + 1)))]) d_R_nearestWay_41 rfl rfl (by decide) rfl ?_
      refine J_goto (tgt := 5) d_R_nearestWay_44 (by decide) ?_
      exact (ih (i + 1) (by omega)).eq (by rw [show itr (fun k x => if apN a b (k + 1) < apN a b x then k + 1 else x) 0 (i + 1) = (i + 1) from itr_g hx (by first | exact if_neg (Nat.not_lt.mpr c35) | exact if_pos (Nat.lt_of_not_le c35))]) rfl rfl

theorem S_R_nearestWay {X : Mem} {a b : Nat} (hX : Ok X) (ha : a < 1048576) (hb : b < 1048576) : CM 2 m_R_nearestWay [.ref 244, .int (nI a), .int (nI b)] X (rN (nwN a b) X) := by
  refine CM_of (L := [some (.ref 244), some (.int (nI a)), some (.int (nI b)), none, none]) 2 ok_R_nearestWay (fun _ => Nat.le_of_ble_eq_true rfl) rfl ?_
  refine J_iconst (v := nI 0) d_R_nearestWay_0 rfl ?_
  refine J_istore_n (i := 3) (L1 := [some (.ref 244), some (.int (nI a)), some (.int (nI b)), some (.int (nI 0)), none]) d_R_nearestWay_1 rfl (by decide) rfl ?_
  refine J_iconst (v := nI 1) d_R_nearestWay_2 rfl ?_
  refine J_istore (L1 := [some (.ref 244), some (.int (nI a)), some (.int (nI b)), some (.int (nI 0)), some (.int (nI 1))]) d_R_nearestWay_3 (by decide) rfl ?_
  refine lp_R_nearestWay hX ha hb (by decide) ?_ 7 0 (by omega)
  refine J_iload_n (i := 3) d_R_nearestWay_47 rfl rfl ?_
  refine M_ir d_R_nearestWay_48 rfl rfl ?_
  exact ⟨rfl, rfl⟩

theorem S_R_apartBy {X : Mem} {a b : Nat} (hX : Ok X) (ha : a < 1048576) (hb : b < 1048576) : CM 3 m_R_apartBy [.ref 244, .int (nI a), .int (nI b)] X (rN (apN a b (nwN a b)) X) := by
  have hx5 : nwN a b < 8 := nw_lt 7 (by decide)
  refine CM_of (L := [some (.ref 244), some (.int (nI a)), some (.int (nI b))]) 0 ok_R_apartBy (fun _ => Nat.le_of_ble_eq_true rfl) rfl ?_
  refine J_iload_n (i := 1) d_R_apartBy_0 rfl rfl ?_
  refine J_aload_n (i := 0) d_R_apartBy_1 rfl rfl ?_
  refine J_iload_n (i := 2) d_R_apartBy_2 rfl rfl ?_
  refine J_aload_n (i := 0) d_R_apartBy_3 rfl rfl ?_
  refine J_iload_n (i := 1) d_R_apartBy_4 rfl rfl ?_
  refine J_iload_n (i := 2) d_R_apartBy_5 rfl rfl ?_
  refine CV_N (av := [.int (nI a), .int (nI b)]) d_R_apartBy_6 s_R_455 (M_rcv rfl (by decide) rfl) (S_R_nearestWay hX (by omega) (by omega)) (by decide) rfl rfl (Nat.le_of_ble_eq_true rfl) ?_
  refine CV_N (av := [.int (nI b), .int (nI (nwN a b))]) d_R_apartBy_9 s_R_105 (M_rcv rfl (by decide) rfl) (S_R_byWay hX (by omega) (by omega)) (by decide) rfl rfl (Nat.le_of_ble_eq_true rfl) ?_
  refine N_ixor d_R_apartBy_12 ?_
  refine CS_N (av := [.int (nI (a ^^^ (mvs (nwN a b) b)))]) d_R_apartBy_13 s_R_121 (S_R_bits (Nat.lt_trans (xor_lt 20 ha mvs_lt) (by decide))) (by decide) rfl rfl (Nat.le_of_ble_eq_true rfl) ?_
  refine M_ir d_R_apartBy_16 rfl rfl ?_
  exact ⟨rfl, rfl⟩

theorem lp_K_nearestWay {d : Nat} {Q : Option Value → Mem → Prop} {X : Mem} {a b : Nat} (hX : Ok X) (ha : a < 1048576) (hb : b < 1048576) (hd : 2 ≤ d) (kx : ∀ z5 : Option Value, JM d m_K_nearestWay Q 42 [some (.int (nI a)), some (.int (nI b)), some (.int (nI (itr (fun k x => if apN a b (k + 1) < apN a b x then k + 1 else x) 0 7))), some (.int (nI (apN a b (itr (fun k x => if apN a b (k + 1) < apN a b x then k + 1 else x) 0 7)))), some (.int (nI 8)), z5] [] X) : ∀ (n i : Nat) (z5 : Option Value), i + n = 7 → JM d m_K_nearestWay Q 8 [some (.int (nI a)), some (.int (nI b)), some (.int (nI (itr (fun k x => if apN a b (k + 1) < apN a b x then k + 1 else x) 0 i))), some (.int (nI (apN a b (itr (fun k x => if apN a b (k + 1) < apN a b x then k + 1 else x) 0 i)))), some (.int (nI (i + 1))), z5] [] X := by
  intro n
  induction n with
  | zero =>
    intro i z5 hi
    obtain rfl : i = 7 := by omega
    refine J_iload d_K_nearestWay_8 rfl ?_
    refine J_bipush (v := nI 8) d_K_nearestWay_10 rfl ?_
    refine N_icmp_ge (tgt := 42) d_K_nearestWay_12 (by decide) (by omega) (by omega) (fun c12 => ?_) (fun c12 => absurd c12 (by omega))
    exact kx _
  | succ n ih =>
    intro i z5 hi
    generalize hx : (itr (fun k x => if apN a b (k + 1) < apN a b x then k + 1 else x) 0 i) = x
    have hx5 : x < 8 := by rw [← hx]; exact nw_lt i (by omega)
    have hq1 := ap_le (a := a) (b := b) (w := x) ha
    have hq2 := ap_le (a := a) (b := b) (w := i + 1) ha
    refine J_iload d_K_nearestWay_8 rfl ?_
    refine J_bipush (v := nI 8) d_K_nearestWay_10 rfl ?_
    refine N_icmp_ge (tgt := 42) d_K_nearestWay_12 (by decide) (by omega) (by omega) (fun c12 => absurd c12 (by omega)) (fun c12 => ?_)
    refine J_iload_n (i := 0) d_K_nearestWay_15 rfl rfl ?_
    refine J_iload_n (i := 1) d_K_nearestWay_16 rfl rfl ?_
    refine J_iload d_K_nearestWay_17 rfl ?_
    refine CS_N (av := [.int (nI a), .int (nI b), .int (nI (i + 1))]) d_K_nearestWay_19 s_K_57 (S_K_countApart hX (by omega) (by omega) (by omega)) (by omega) rfl rfl (Nat.le_of_ble_eq_true rfl) ?_
    refine N_nm (fun v22 hv22 => ?_)
    refine J_istore (L1 := [some (.int (nI a)), some (.int (nI b)), some (.int (nI x)), some (.int (nI (apN a b x))), some (.int (nI (i + 1))), some (.int (nI v22))]) d_K_nearestWay_22 (by decide) rfl ?_
    refine J_iload d_K_nearestWay_24 rfl ?_
    refine J_iload_n (i := 3) d_K_nearestWay_26 rfl rfl ?_
    refine N_icmp_ge (tgt := 36) d_K_nearestWay_27 (by decide) (by omega) (by omega) (fun c27 => ?_) (fun c27 => ?_)
    · refine N_iinc (a := (i + 1)) (c := 1) (L1 := [some (.int (nI a)), some (.int (nI b)), some (.int (nI x)), some (.int (nI (apN a b x))), some (.int (nI ((i + 1) + 1))), some (.int (nI v22))]) d_K_nearestWay_36 rfl rfl (by decide) rfl ?_
      refine J_goto (tgt := 8) d_K_nearestWay_39 (by decide) ?_
      have e : itr (fun k x => if apN a b (k + 1) < apN a b x then k + 1 else x) 0 (i + 1) = x := itr_g hx (by show (if _ then _ else _) = _; rw [if_neg (by rw [← hv22]; omega)])
      exact (ih (i + 1) _ (by omega)).eq (by rw [e]) rfl rfl
    · refine J_iload d_K_nearestWay_30 rfl ?_
      refine J_istore_n (i := 3) (L1 := [some (.int (nI a)), some (.int (nI b)), some (.int (nI x)), some (.int (nI v22)), some (.int (nI (i + 1))), some (.int (nI v22))]) d_K_nearestWay_32 rfl (by decide) rfl ?_
      refine J_iload d_K_nearestWay_33 rfl ?_
      refine J_istore_n (i := 2) (L1 := [some (.int (nI a)), some (.int (nI b)), some (.int (nI (i + 1))), some (.int (nI v22)), some (.int (nI (i + 1))), some (.int (nI v22))]) d_K_nearestWay_35 rfl (by decide) rfl ?_
      refine N_iinc (a := (i + 1)) (c := 1) (L1 := [some (.int (nI a)), some (.int (nI b)), some (.int (nI (i + 1))), some (.int (nI v22)), some (.int (nI ((i + 1) + 1))), some (.int (nI v22))]) d_K_nearestWay_36 rfl rfl (by decide) rfl ?_
      refine J_goto (tgt := 8) d_K_nearestWay_39 (by decide) ?_
      have e : itr (fun k x => if apN a b (k + 1) < apN a b x then k + 1 else x) 0 (i + 1) = (i + 1) := itr_g hx (by show (if _ then _ else _) = _; rw [if_pos (by rw [← hv22]; omega)])
      exact (ih (i + 1) _ (by omega)).eq (by rw [e, hv22]) rfl rfl

theorem S_K_nearestWay {X : Mem} {a b : Nat} (hX : Ok X) (ha : a < 1048576) (hb : b < 1048576) : CM 2 m_K_nearestWay [.int (nI a), .int (nI b)] X (rN (nwN a b) X) := by
  have hq1 := ap_le (a := a) (b := b) (w := 0) ha
  refine CM_of (L := [some (.int (nI a)), some (.int (nI b)), none, none, none, none]) 4 ok_K_nearestWay (fun _ => Nat.le_of_ble_eq_true rfl) rfl ?_
  refine J_iconst (v := nI 0) d_K_nearestWay_0 rfl ?_
  refine J_istore_n (i := 2) (L1 := [some (.int (nI a)), some (.int (nI b)), some (.int (nI 0)), none, none, none]) d_K_nearestWay_1 rfl (by decide) rfl ?_
  refine J_bipush (v := nI 21) d_K_nearestWay_2 rfl ?_
  refine J_istore_n (i := 3) (L1 := [some (.int (nI a)), some (.int (nI b)), some (.int (nI 0)), some (.int (nI 21)), none, none]) d_K_nearestWay_4 rfl (by decide) rfl ?_
  refine J_iconst (v := nI 0) d_K_nearestWay_5 rfl ?_
  refine J_istore (L1 := [some (.int (nI a)), some (.int (nI b)), some (.int (nI 0)), some (.int (nI 21)), some (.int (nI 0)), none]) d_K_nearestWay_6 (by decide) rfl ?_
  refine J_iload d_K_nearestWay_8 rfl ?_
  refine J_bipush (v := nI 8) d_K_nearestWay_10 rfl ?_
  refine N_icmp_ge (tgt := 42) d_K_nearestWay_12 (by decide) (by omega) (by omega) (fun c12 => absurd c12 (by omega)) (fun c12 => ?_)
  refine J_iload_n (i := 0) d_K_nearestWay_15 rfl rfl ?_
  refine J_iload_n (i := 1) d_K_nearestWay_16 rfl rfl ?_
  refine J_iload d_K_nearestWay_17 rfl ?_
  refine CS_N (av := [.int (nI a), .int (nI b), .int (nI 0)]) d_K_nearestWay_19 s_K_57 (S_K_countApart hX (by omega) (by omega) (by omega)) (by decide) rfl rfl (Nat.le_of_ble_eq_true rfl) ?_
  refine J_istore (L1 := [some (.int (nI a)), some (.int (nI b)), some (.int (nI 0)), some (.int (nI 21)), some (.int (nI 0)), some (.int (nI (apN a b 0)))]) d_K_nearestWay_22 (by decide) rfl ?_
  refine J_iload d_K_nearestWay_24 rfl ?_
  refine J_iload_n (i := 3) d_K_nearestWay_26 rfl rfl ?_
  refine N_icmp_ge (tgt := 36) d_K_nearestWay_27 (by decide) (by omega) (by omega) (fun c27 => absurd c27 (by omega)) (fun c27 => ?_)
  refine J_iload d_K_nearestWay_30 rfl ?_
  refine J_istore_n (i := 3) (L1 := [some (.int (nI a)), some (.int (nI b)), some (.int (nI 0)), some (.int (nI (apN a b 0))), some (.int (nI 0)), some (.int (nI (apN a b 0)))]) d_K_nearestWay_32 rfl (by decide) rfl ?_
  refine J_iload d_K_nearestWay_33 rfl ?_
  refine J_istore_n (i := 2) (L1 := [some (.int (nI a)), some (.int (nI b)), some (.int (nI 0)), some (.int (nI (apN a b 0))), some (.int (nI 0)), some (.int (nI (apN a b 0)))]) d_K_nearestWay_35 rfl (by decide) rfl ?_
  refine N_iinc (a := 0) (c := 1) (L1 := [some (.int (nI a)), some (.int (nI b)), some (.int (nI 0)), some (.int (nI (apN a b 0))), some (.int (nI 1)), some (.int (nI (apN a b 0)))]) d_K_nearestWay_36 rfl rfl (by decide) rfl ?_
  refine J_goto (tgt := 8) d_K_nearestWay_39 (by decide) ?_
  refine lp_K_nearestWay hX ha hb (by decide) (fun z5 => ?_) 7 0 _ (by omega)
  refine J_iload_n (i := 2) d_K_nearestWay_42 rfl rfl ?_
  refine M_ir d_K_nearestWay_43 rfl rfl ?_
  exact ⟨rfl, rfl⟩

