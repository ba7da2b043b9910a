theorem num_m {T : TS} {hi j n : Nat} {P : List (Nat × Nat)} {f : Nat → Nat} : (match (bnd (pNum T 0 hi (j + 1)) (fun j2 x => (.inr (j2, f x) : PR Nat))) with
  | .inl q => numM T hi j P n f = .inl q
  | .inr q => j < q.1 ∧ numM T hi j P n f = .inr (finP q.1 P n q.2)) := by
  by_cases h45 : T.1 (j + 1) = 45
  · by_cases h9 : hi < T.2 (j + 1)
    · rw [show pNum T 0 hi (j + 1) = .inl (2, j + 1) from (if_pos h45).trans (if_pos (Or.inr h9))]
      exact (if_pos h45).trans (if_pos h9)
    · rw [show pNum T 0 hi (j + 1) = .inr (j + 2, T.2 (j + 1)) from (if_pos h45).trans (if_neg (by omega))]
      exact ⟨by show j < j + 2; omega, (if_pos h45).trans (if_neg h9)⟩
  · rw [show pNum T 0 hi (j + 1) = .inl (1, j + 1) from if_neg h45]
    exact if_neg h45
theorem par_num {T : TS} {hi j m D : Nat} {P : List (Nat × Nat)} {f : Nat → Nat} (hb : begS T j P m D = numM T hi j P m f) : (match (bnd (pNum T 0 hi (j + 1)) (fun j2 x => (.inr (j2, f x) : PR Nat))) with
  | .inl q => FiS T (j, (P, (m, (false, D)))) (.inl q)
  | .inr q => j < q.1 ∧ RcS T (j, (P, (m, (false, D)))) (finP q.1 P m q.2)) := by
  have t := num_m (T := T) (hi := hi) (j := j) (n := m) (P := P) (f := f)
  cases hq : bnd (pNum T 0 hi (j + 1)) (fun j2 x => (.inr (j2, f x) : PR Nat)) with
  | inl q => rw [hq] at t; exact fiS_1 (ss_begf (hb.trans t))
  | inr q => rw [hq] at t; exact ⟨t.1, rcS_1 (ss_beg (hb.trans t.2))⟩
theorem par_b {T : TS} {sub : Option (Nat → PR Nat)} {j m D : Nat} {P : List (Nat × Nat)} (hop : ¬ (T.1 j = 13 ∨ T.1 j = 14 ∨ T.1 j = 40)) : (match fPart T sub j with
  | .inl q => FiS T (j, (P, (m, (false, D)))) (.inl q)
  | .inr q => j < q.1 ∧ RcS T (j, (P, (m, (false, D)))) (finP q.1 P m q.2)) := by
  unfold fPart
  by_cases h9 : T.1 j = 9
  · rw [if_pos h9]
    exact par_num (if_pos h9)
  · rw [if_neg h9]
    by_cases h10 : T.1 j = 10
    · rw [if_pos h10]
      exact par_num ((if_neg h9).trans (if_pos h10))
    · rw [if_neg h10]
      by_cases h11 : T.1 j = 11
      · rw [if_pos h11]
        exact par_num ((if_neg h9).trans ((if_neg h10).trans (if_pos h11)))
      · rw [if_neg h11]
        have e : ∀ {x y : Sum (Nat × Nat) MS}, (if T.1 j = 12 then x else y) = begS T j P m D → True := fun _ => trivial
        by_cases h12 : T.1 j = 12
        · rw [if_pos h12]
          exact ⟨Nat.lt_succ_self j, rcS_1 (ss_beg (show begS T j P m D = .inr (finP (j + 1) P m 2931) by unfold begS; rw [if_neg h9, if_neg h10, if_neg h11, if_neg (by omega), if_neg (by omega), if_neg (by omega), if_pos h12]))⟩
        · rw [if_neg h12, if_neg hop]
          exact fiS_1 (ss_begf (show begS T j P m D = .inl (1, j) by unfold begS; rw [if_neg h9, if_neg h10, if_neg h11, if_neg (by omega), if_neg (by omega), if_neg (by omega), if_neg h12]))
def mkS (k : Nat) : Nat := if k = 40 then 40 else if k = 13 then 50 else 51
theorem beg_op {T : TS} {j m D : Nat} {P : List (Nat × Nat)} (hop : T.1 j = 13 ∨ T.1 j = 14 ∨ T.1 j = 40) : begS T j P m D = opdS (mkS (T.1 j)) j P m D := by
  rcases hop with h | h | h <;> simp [begS, h, mkS]
theorem fP_op {T : TS} {sub : Option (Nat → PR Nat)} {j : Nat} (hop : T.1 j = 13 ∨ T.1 j = 14 ∨ T.1 j = 40) : fPart T sub j = match sub with
    | none => .inl (3, j)
    | some s => if T.1 j = 40 then bnd (pShape T s (j + 1)) (fun j2 v => bnd (pExp T 41 j2) (fun j3 _ => .inr (j3, v))) else bnd (s (j + 1)) (fun j2 v => .inr (j2, mvs (if T.1 j = 13 then 1 else 4) v)) := by
  unfold fPart
  rw [if_neg (by omega), if_neg (by omega), if_neg (by omega), if_neg (by omega), if_pos hop]
  cases sub <;> rfl
theorem par_0 {T : TS} : ParG T 0 (fPart T none) := by
  intro j P m D hm
  by_cases hop : T.1 j = 13 ∨ T.1 j = 14 ∨ T.1 j = 40
  · rw [fP_op hop]
    exact fiS_1 (ss_begf (by rw [beg_op hop]; exact if_pos (by omega)))
  · exact par_b hop
theorem par_s {T : TS} {n : Nat} {s : Nat → PR Nat} (h46 : ∀ j, 300 ≤ j → T.1 j = 46) (hS : ParG T n s) : ParG T (n + 1) (fPart T (some s)) := by
  intro j P m D hm
  by_cases hop : T.1 j = 13 ∨ T.1 j = 14 ∨ T.1 j = 40
  · rw [fP_op hop]
    have hR := rcS_1 (ss_beg ((beg_op (P := P) (m := m) (D := D) hop).trans (if_neg (show ¬ m = 8 by omega))))
    show match (if T.1 j = 40 then bnd (pShape T s (j + 1)) (fun j2 v => bnd (pExp T 41 j2) (fun j3 _ => .inr (j3, v))) else bnd (s (j + 1)) (fun j2 v => .inr (j2, mvs (if T.1 j = 13 then 1 else 4) v)) : PR Nat) with
      | .inl q => FiS T (j, (P, (m, (false, D)))) (.inl q)
      | .inr q => j < q.1 ∧ RcS T (j, (P, (m, (false, D)))) (finP q.1 P m q.2)
    by_cases h40 : T.1 j = 40
    · rw [if_pos h40]
      rw [show mkS (T.1 j) = 40 from if_pos h40] at hR
      have t := shp_m (D := D) (j0 := j + 1) (m := m + 1) (P := (40, D) :: P) h46 hS (by omega) (fun n D => if_pos rfl)
      cases hq : pShape T s (j + 1) with
      | inl q => rw [hq] at t; exact fiS_t hR t
      | inr q =>
        rw [hq] at t
        obtain ⟨t1, t2, t3⟩ := t
        have hR2 := rcS_t hR t3
        rw [bnd_r]
        have n1 : ¬ (T.1 q.1 = 15 ∨ T.1 q.1 = 16) := fun z => by
          rcases z with z | z
          · exact t2.1 z
          · exact t2.2 z
        by_cases h41 : T.1 q.1 = 41
        · rw [show pExp T 41 q.1 = .inr (q.1 + 1, 0) from if_pos h41]
          exact ⟨by show j < q.1 + 1; omega, rcS_t hR2 (rcS_1 (ss_beh ((if_neg n1).trans (if_pos ⟨h41, List.cons_ne_nil _ _⟩))))⟩
        · rw [show pExp T 41 q.1 = .inl (1, q.1) from if_neg h41]
          exact fiS_t hR2 (fiS_1 (by rw [ss_no ((if_neg n1).trans (if_neg (fun z => h41 z.1))), if_pos (List.cons_ne_nil _ _)]))
    · rw [if_neg h40]
      have t := hS (j + 1) ((mkS (T.1 j), D) :: P) (m + 1) D (by omega)
      cases hq : s (j + 1) with
      | inl q => rw [hq] at t; exact fiS_t hR t
      | inr q =>
        rw [hq] at t
        obtain ⟨t1, t2⟩ := t
        refine ⟨by show j < q.1; omega, rcS_t hR ?_⟩
        have e : endP ((mkS (T.1 j), D) :: P) (m + 1) q.2 = endP P m (mvs (if T.1 j = 13 then 1 else 4) q.2) := by
          by_cases h13 : T.1 j = 13
          · rw [if_pos h13, h13]; rfl
          · rw [if_neg h13, show T.1 j = 14 by omega]; rfl
        unfold finP at t2
        rw [e] at t2
        exact t2
  · exact par_b hop
theorem levS_m {T : TS} (h46 : ∀ j, 300 ≤ j → T.1 j = 46) : ∀ n, ParG T n (levS T n)
  | 0 => par_0
  | n + 1 => par_s h46 (levS_m h46 n)
/-- a shape read by the machine, with nothing open around -/
theorem shape_m {T : TS} (h46 : ∀ j, 300 ≤ j → T.1 j = 46) (j D : Nat) : (match pShape T (levS T 8) j with
  | .inl q => FiS T (j, ([], (0, (false, D)))) (.inl q)
  | .inr q => j < q.1 ∧ FiS T (j, ([], (0, (false, D)))) (.inr (q.1, q.2))) := by
  have t := shp_m (j0 := j) (m := 0) (D := D) (P := []) h46 (levS_m h46 8) rfl (fun n D => rfl)
  cases hq : pShape T (levS T 8) j with
  | inl q => rw [hq] at t; exact t
  | inr q =>
    rw [hq] at t
    obtain ⟨t1, t2, t3⟩ := t
    refine ⟨t1, fiS_t t3 (fiS_1 ?_)⟩
    rw [ss_no ((if_neg (fun z => by
      rcases z with z | z
      · exact t2.1 z
      · exact t2.2 z)).trans (if_neg (fun z => z.2 rfl))), if_neg (fun z => z rfl)]
