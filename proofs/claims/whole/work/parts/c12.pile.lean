/-- behind a whole part: what waits is done to it -/
def endP : List (Nat × Nat) → Nat → Nat → List (Nat × Nat) × (Nat × Nat)
  | [], n, D => ([], (n, D))
  | p :: P, n, D => if p.1 = 40 then (p :: P, (n, D)) else if p.1 = 50 ∨ p.1 = 51 then endP P (n - 1) (mvs (if p.1 = 50 then 1 else 4) D) else endP P n (if p.1 = 52 then p.2 ||| D else andn p.2 D)
abbrev MS : Type := Nat × (List (Nat × Nat) × (Nat × (Bool × Nat)))
abbrev MT : Type := Sum (Nat × Nat) (Nat × Nat)
def finP (j : Nat) (P : List (Nat × Nat)) (n D : Nat) : MS := (j, ((endP P n D).1, ((endP P n D).2.1, (true, (endP P n D).2.2))))
def numM (T : TS) (hi j : Nat) (P : List (Nat × Nat)) (n : Nat) (f : Nat → Nat) : Sum (Nat × Nat) MS := if T.1 (j + 1) = 45 then (if hi < T.2 (j + 1) then .inl (2, j + 1) else .inr (finP (j + 2) P n (f (T.2 (j + 1))))) else .inl (1, j + 1)
def opdS (a j : Nat) (P : List (Nat × Nat)) (n D : Nat) : Sum (Nat × Nat) MS := if n = 8 then .inl (3, j) else .inr (j + 1, ((a, D) :: P, (n + 1, (false, D))))
def begS (T : TS) (j : Nat) (P : List (Nat × Nat)) (n D : Nat) : Sum (Nat × Nat) MS :=
  if T.1 j = 9 then numM T 19 j P n (fun x => 1 <<< x)
  else if T.1 j = 10 then numM T 2 j P n (fun x => 3 <<< (2 * x))
  else if T.1 j = 11 then numM T 2 j P n (fun x => 9 <<< (6 + x))
  else if T.1 j = 40 then opdS 40 j P n D
  else if T.1 j = 13 then opdS 50 j P n D
  else if T.1 j = 14 then opdS 51 j P n D
  else if T.1 j = 12 then .inr (finP (j + 1) P n 2931)
  else .inl (1, j)
def behS (T : TS) (j : Nat) (P : List (Nat × Nat)) (n D : Nat) : Option MS :=
  if T.1 j = 15 ∨ T.1 j = 16 then some (j + 1, ((if T.1 j = 15 then 52 else 53, D) :: P, (n, (false, D))))
  else if T.1 j = 41 ∧ P ≠ [] then some (finP (j + 1) P.tail (n - 1) D)
  else none
def sstep (T : TS) (c : MS) : Sum MT MS :=
  if c.2.2.2.1 = true then (match behS T c.1 c.2.1 c.2.2.1 c.2.2.2.2 with
    | some c2 => .inr c2
    | none => if c.2.1 ≠ [] then .inl (.inl (1, c.1)) else .inl (.inr (c.1, c.2.2.2.2)))
  else match begS T c.1 c.2.1 c.2.2.1 c.2.2.2.2 with
    | .inl f => .inl (.inl f)
    | .inr c2 => .inr c2
def srun (T : TS) : Nat → MS → Option MT
  | 0, _ => none
  | f + 1, c => match sstep T c with
    | .inl r => some r
    | .inr c2 => srun T f c2
def RcS (T : TS) (c c2 : MS) : Prop := ∃ n, ∀ m, srun T (n + m) c = srun T m c2
def FiS (T : TS) (c : MS) (r : MT) : Prop := ∃ n, srun T n c = some r
theorem rcS_t {T : TS} {a b c : MS} (h1 : RcS T a b) (h2 : RcS T b c) : RcS T a c := by
  obtain ⟨n, h1⟩ := h1
  obtain ⟨k, h2⟩ := h2
  exact ⟨n + k, fun m => by rw [Nat.add_assoc, h1, h2]⟩
theorem rcS_1 {T : TS} {c c2 : MS} (h : sstep T c = .inr c2) : RcS T c c2 := ⟨1, fun m => by
  rw [Nat.add_comm]
  show (match sstep T c with
    | .inl r => some r
    | .inr c2 => srun T m c2) = _
  rw [h]⟩
theorem fiS_1 {T : TS} {c : MS} {r : MT} (h : sstep T c = .inl r) : FiS T c r := ⟨1, by
  show (match sstep T c with
    | .inl r => some r
    | .inr c2 => srun T 0 c2) = _
  rw [h]⟩
theorem fiS_t {T : TS} {a b : MS} {r : MT} (h1 : RcS T a b) (h2 : FiS T b r) : FiS T a r := by
  obtain ⟨n, h1⟩ := h1
  obtain ⟨k, h2⟩ := h2
  exact ⟨n + k, (h1 k).trans h2⟩
theorem ss_beh {T : TS} {j n D : Nat} {P : List (Nat × Nat)} {c2 : MS} (h : behS T j P n D = some c2) : sstep T (j, (P, (n, (true, D)))) = Sum.inr c2 := by
  unfold sstep
  dsimp only
  rw [if_pos rfl, h]
theorem ss_no {T : TS} {j n D : Nat} {P : List (Nat × Nat)} (h : behS T j P n D = none) : sstep T (j, (P, (n, (true, D)))) = if P ≠ [] then Sum.inl (Sum.inl (1, j)) else Sum.inl (Sum.inr (j, D)) := by
  unfold sstep
  dsimp only
  rw [if_pos rfl, h]
theorem ss_beg {T : TS} {j n D : Nat} {P : List (Nat × Nat)} {c2 : MS} (h : begS T j P n D = Sum.inr c2) : sstep T (j, (P, (n, (false, D)))) = Sum.inr c2 := by
  unfold sstep
  dsimp only
  rw [if_neg (by decide), h]
theorem ss_begf {T : TS} {j n D : Nat} {P : List (Nat × Nat)} {f : Nat × Nat} (h : begS T j P n D = Sum.inl f) : sstep T (j, (P, (n, (false, D)))) = Sum.inl (Sum.inl f) := by
  unfold sstep
  dsimp only
  rw [if_neg (by decide), h]
def ParG (T : TS) (n : Nat) (one : Nat → PR Nat) : Prop := ∀ (j : Nat) (P : List (Nat × Nat)) (m D : Nat), m + n = 8 → (match one j with
  | .inl q => FiS T (j, (P, (m, (false, D)))) (.inl q)
  | .inr q => j < q.1 ∧ RcS T (j, (P, (m, (false, D)))) (finP q.1 P m q.2))
/-- nothing is done at once to what stands before -/
def quP (P : List (Nat × Nat)) : Prop := ∀ n D, endP P n D = (P, (n, D))
def nxW (k : Nat) : Prop := k ≠ 15 ∧ k ≠ 16
theorem shp_m {T : TS} {n : Nat} {one : Nat → PR Nat} (h46 : ∀ j, 300 ≤ j → T.1 j = 46) (hS : ParG T n one) {j0 m D : Nat} {P : List (Nat × Nat)} (hm : m + n = 8) (hP : quP P) : (match pShape T one j0 with
  | .inl q => FiS T (j0, (P, (m, (false, D)))) (.inl q)
  | .inr q => j0 < q.1 ∧ (nxW (T.1 q.1) ∧ RcS T (j0, (P, (m, (false, D)))) (q.1, (P, (m, (true, q.2)))))) := by
  have key : ∀ (f j v : Nat), 300 ≤ j + f → j0 < j → RcS T (j0, (P, (m, (false, D)))) (j, (P, (m, (true, v)))) → (match pLoop T wlB one (fun k a b => if k = 15 then a ||| b else andn a b) f j v with
    | .inl q => FiS T (j0, (P, (m, (false, D)))) (.inl q)
    | .inr q => j0 < q.1 ∧ (nxW (T.1 q.1) ∧ RcS T (j0, (P, (m, (false, D)))) (q.1, (P, (m, (true, q.2)))))) := by
    intro f
    induction f with
    | zero =>
      intro j v hf hj hR
      refine ⟨hj, ?_, hR⟩
      show nxW (T.1 j)
      rw [h46 j (by omega)]
      exact ⟨by decide, by decide⟩
    | succ f ih =>
      intro j v hf hj hR
      rcases Bool.eq_false_or_eq_true (wlB (T.1 j)) with hop | hop
      · have hk := wl_t.mp hop
        rw [show pLoop T wlB one (fun k a b => if k = 15 then a ||| b else andn a b) (f + 1) j v = bnd (one (j + 1)) (fun j2 v2 => pLoop T wlB one (fun k a b => if k = 15 then a ||| b else andn a b) f j2 (if T.1 j = 15 then v ||| v2 else andn v v2)) by show (if wlB (T.1 j) = true then _ else _) = _; rw [hop]; rfl]
        have hR1 := rcS_t hR (rcS_1 (ss_beh (if_pos hk)))
        have t := hS (j + 1) ((if T.1 j = 15 then 52 else 53, v) :: P) m v hm
        cases hq : one (j + 1) with
        | inl q => rw [hq] at t; exact fiS_t hR1 t
        | inr q =>
          rw [hq] at t
          obtain ⟨t1, t2⟩ := t
          refine ih q.1 (if T.1 j = 15 then v ||| q.2 else andn v q.2) (by omega) (by omega) (rcS_t hR1 ?_)
          have e : endP ((if T.1 j = 15 then 52 else 53, v) :: P) m q.2 = (P, (m, if T.1 j = 15 then v ||| q.2 else andn v q.2)) := by
            by_cases h15 : T.1 j = 15
            · rw [if_pos h15, if_pos h15]
              exact hP m (v ||| q.2)
            · rw [if_neg h15, if_neg h15]
              exact hP m (andn v q.2)
          unfold finP at t2
          rw [e] at t2
          exact t2
      · rw [show pLoop T wlB one (fun k a b => if k = 15 then a ||| b else andn a b) (f + 1) j v = .inr (j, v) by show (if wlB (T.1 j) = true then _ else _) = _; rw [hop]; rfl]
        exact ⟨hj, ⟨fun z => (by rw [wl_t.mpr (Or.inl z)] at hop; cases hop), fun z => (by rw [wl_t.mpr (Or.inr z)] at hop; cases hop)⟩, hR⟩
  have t := hS j0 P m D hm
  unfold pShape
  cases hq : one j0 with
  | inl q => rw [hq] at t; exact t
  | inr q =>
    rw [hq] at t
    obtain ⟨t1, t2⟩ := t
    unfold finP at t2
    rw [hP] at t2
    exact key 300 q.1 q.2 (by omega) t1 t2
