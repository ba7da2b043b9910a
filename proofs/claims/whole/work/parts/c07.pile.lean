/-- how closely what waits binds -/
def rkP (a : Nat) : Nat := if 40 ≤ a then 0 else if a = 22 then 1 else if a = 21 then 2 else if a = 20 then 3 else if 10 ≤ a then 4 else if 8 ≤ a then 6 else if 6 ≤ a then 5 else 7
def ctP (a : Nat) : Nat := if rkP a = 7 ∨ a = 20 then 1 else 0
abbrev Kd : Type := List (Nat × Nat)
def stl (r : Nat) : List Nat → Nat → Kd → List Nat × (Nat × Kd)
  | [], n, K => ([], (n, K))
  | a :: P, n, K => if r ≤ rkP a then stl r P (n - ctP a) ((a, 0) :: K) else (a :: P, (n, K))
def opn : List Nat → Nat
  | [] => 0
  | a :: P => if 40 ≤ a then a else opn P
def cpd : List Nat → Bool
  | [] => false
  | a :: P => if rkP a ≤ 4 then decide (rkP a = 4) else cpd P
def tp3 : List Nat → Bool
  | [] => false
  | a :: _ => decide (40 ≤ a) || (decide (1 ≤ rkP a) && decide (rkP a ≤ 3))
def ahd (P : List Nat) : Bool := decide (opn P = 41) && tp3 P
def btw (k : Nat) (P : List Nat) : Nat := if k = 36 then 6 else if k = 37 then 7 else if k = 38 then 8 else if k = 39 then 9 else if opn P = 41 then (if cpd P = true then (if k = 24 then 21 else if k = 23 then 22 else 0) else if cmpB k = true then cpK k else 0) else 0
def pof (k op : Nat) (c : Bool) : Nat := if op = 40 then (if k = 41 then 0 else 100) else if op = 41 then (if k = 20 ∧ c = true then 42 else 100) else if op = 42 then (if k = 21 then 43 else 100) else if op = 43 then (if k = 22 then 0 else 100) else 100
/-- token at hand, what waits (its top first), how many are open, is one whole, what is written (the last first) -/
abbrev MC : Type := Nat × (List Nat × (Nat × (Bool × Kd)))
abbrev MR : Type := Sum (Nat × Nat) (Nat × Kd)
def opd (a j : Nat) (P : List Nat) (n : Nat) (K : Kd) : Sum Nat MC := if n = 8 then .inl 3 else .inr (j + 1, (a :: P, (n + 1, (false, K))))
def fin7 (j : Nat) (P : List Nat) (n : Nat) (K : Kd) : MC := (j, ((stl 7 P n K).1, ((stl 7 P n K).2.1, (true, (stl 7 P n K).2.2))))
def begM (T : TS) (w : Bool) (j : Nat) (P : List Nat) (n : Nat) (K : Kd) : Sum Nat MC :=
  if T.1 j = 45 ∧ 9999 < T.2 j then .inl 2
  else if nameB (T.1 j) = true ∧ ((T.1 j = 30 ∧ w = false) ∨ (T.1 j = 31 ∧ w = true)) then .inl 5
  else if T.1 j = 45 then .inr (fin7 (j + 1) P n ((0, T.2 j) :: K))
  else if nameB (T.1 j) = true then .inr (fin7 (j + 1) P n ((1, nmI (T.1 j)) :: K))
  else if T.1 j = 40 then opd 40 j P n K
  else if T.1 j = 37 then opd 5 j P n K
  else if T.1 j = 17 then opd 4 j P n K
  else if T.1 j = 18 then opd 2 j P n K
  else if T.1 j = 19 then opd 41 j P n K
  else if T.1 j = 25 ∧ ahd P = true then opd 20 j P n K
  else .inl 1
def lstP (b : Nat) : Nat := if rkP b = 4 then 5 else rkP b
def behM (T : TS) (j : Nat) (P : List Nat) (n : Nat) (K : Kd) : Option MC :=
  if btw (T.1 j) P ≠ 0 then some (j + 1, (btw (T.1 j) P :: (stl (lstP (btw (T.1 j) P)) P n K).1, ((stl (lstP (btw (T.1 j) P)) P n K).2.1, (false, (stl (lstP (btw (T.1 j) P)) P n K).2.2))))
  else if pof (T.1 j) (opn P) (cpd P) = 100 then none
  else if pof (T.1 j) (opn P) (cpd P) = 0 then some (fin7 (j + 1) (stl 1 P n K).1.tail ((stl 1 P n K).2.1 - 1) (if opn P = 43 then (3, 0) :: (stl 1 P n K).2.2 else (stl 1 P n K).2.2))
  else some (j + 1, (pof (T.1 j) (opn P) (cpd P) :: (stl 1 P n K).1.tail, ((stl 1 P n K).2.1, (false, (stl 1 P n K).2.2))))
def mstep (T : TS) (w : Bool) (c : MC) : Sum MR MC :=
  if c.2.2.2.1 = true then (match behM T c.1 c.2.1 c.2.2.1 c.2.2.2.2 with
    | some c2 => .inr c2
    | none => if opn c.2.1 ≠ 0 then .inl (.inl (1, c.1)) else .inl (.inr (c.1, (stl 1 c.2.1 c.2.2.1 c.2.2.2.2).2.2)))
  else match begM T w c.1 c.2.1 c.2.2.1 c.2.2.2.2 with
    | .inl f => .inl (.inl (f, c.1))
    | .inr c2 => .inr c2
def mrun (T : TS) (w : Bool) : Nat → MC → Option MR
  | 0, _ => none
  | f + 1, c => match mstep T w c with
    | .inl r => some r
    | .inr c2 => mrun T w f c2
def Rch (T : TS) (w : Bool) (c c2 : MC) : Prop := ∃ n, ∀ m, mrun T w (n + m) c = mrun T w m c2
def Fin_ (T : TS) (w : Bool) (c : MC) (r : MR) : Prop := ∃ n, mrun T w n c = some r
theorem rch_0 {T : TS} {w : Bool} {c : MC} : Rch T w c c := ⟨0, fun m => by rw [Nat.zero_add]⟩
theorem rch_t {T : TS} {w : Bool} {a b c : MC} (h1 : Rch T w a b) (h2 : Rch T w b c) : Rch T w a c := by
  obtain ⟨n, h1⟩ := h1
  obtain ⟨k, h2⟩ := h2
  exact ⟨n + k, fun m => by rw [Nat.add_assoc, h1, h2]⟩
theorem rch_1 {T : TS} {w : Bool} {c c2 : MC} (h : mstep T w c = .inr c2) : Rch T w c c2 := ⟨1, fun m => by
  rw [Nat.add_comm]
  show (match mstep T w c with
    | .inl r => some r
    | .inr c2 => mrun T w m c2) = _
  rw [h]⟩
theorem fin_1 {T : TS} {w : Bool} {c : MC} {r : MR} (h : mstep T w c = .inl r) : Fin_ T w c r := ⟨1, by
  show (match mstep T w c with
    | .inl r => some r
    | .inr c2 => mrun T w 0 c2) = _
  rw [h]⟩
theorem fin_t {T : TS} {w : Bool} {a b : MC} {r : MR} (h1 : Rch T w a b) (h2 : Fin_ T w b r) : Fin_ T w a r := by
  obtain ⟨n, h1⟩ := h1
  obtain ⟨k, h2⟩ := h2
  exact ⟨n + k, (h1 k).trans h2⟩
/-- what waits, written -/
def emQ : List Nat → Kd → Kd
  | [], K => K
  | a :: Q, K => emQ Q ((a, 0) :: K)
def ctQ : List Nat → Nat
  | [] => 0
  | a :: Q => ctP a + ctQ Q
theorem emQ_app : ∀ (Q : List Nat) (L K : Kd), emQ Q (L ++ K) = emQ Q L ++ K
  | [], _, _ => rfl
  | a :: Q, L, K => emQ_app Q ((a, 0) :: L) K
theorem emQ_cat : ∀ (Q R : List Nat) (K : Kd), emQ (Q ++ R) K = emQ R (emQ Q K)
  | [], _, _ => rfl
  | a :: Q, R, K => emQ_cat Q R ((a, 0) :: K)
theorem ctQ_cat : ∀ (Q R : List Nat), ctQ (Q ++ R) = ctQ Q + ctQ R
  | [], R => (Nat.zero_add _).symm
  | a :: Q, R => by
    show ctP a + ctQ (Q ++ R) = ctP a + ctQ Q + ctQ R
    rw [ctQ_cat Q R]
    omega
/-- the top binds no closer than r -/
def tpR (r : Nat) : List Nat → Prop
  | [] => True
  | a :: _ => rkP a ≤ r
theorem tpR_le {r s : Nat} (h : r ≤ s) : ∀ {P : List Nat}, tpR r P → tpR s P
  | [], _ => trivial
  | _ :: _, q => Nat.le_trans q h
theorem stl_no {r : Nat} : ∀ {P : List Nat} {n : Nat} {K : Kd}, tpR r P → stl (r + 1) P n K = (P, (n, K))
  | [], _, _, _ => rfl
  | a :: P, n, K, h => if_neg (show ¬ r + 1 ≤ rkP a by have h : rkP a ≤ r := h; omega)
theorem stl_Q {r : Nat} {P : List Nat} (hP : tpR r P) : ∀ {Q : List Nat} {n : Nat} {K : Kd}, (∀ a, a ∈ Q → r + 1 ≤ rkP a) → stl (r + 1) (Q ++ P) (n + ctQ Q) K = (P, (n, emQ Q K))
  | [], n, K, _ => stl_no hP
  | a :: Q, n, K, h => by
    show (if r + 1 ≤ rkP a then stl (r + 1) (Q ++ P) (n + (ctP a + ctQ Q) - ctP a) ((a, 0) :: K) else _) = _
    rw [if_pos (h a (List.mem_cons_self)), show n + (ctP a + ctQ Q) - ctP a = n + ctQ Q by omega]
    exact stl_Q hP (fun b hb => h b (List.mem_cons_of_mem _ hb))
theorem rk_40 {a : Nat} : rkP a = 0 ↔ 40 ≤ a := by
  unfold rkP
  constructor
  · intro h
    rcases Nat.lt_or_ge a 40 with q | q
    · rw [if_neg (by omega)] at h
      repeat' split at h
      all_goals omega
    · exact q
  · intro h
    rw [if_pos h]
theorem opn_Q {P : List Nat} : ∀ {Q : List Nat}, (∀ a, a ∈ Q → 1 ≤ rkP a) → opn (Q ++ P) = opn P
  | [], _ => rfl
  | a :: Q, h => by
    have h1 := h a (List.mem_cons_self)
    show (if 40 ≤ a then a else opn (Q ++ P)) = _
    rw [if_neg (fun z => by have := rk_40.mpr z; omega)]
    exact opn_Q (fun b hb => h b (List.mem_cons_of_mem _ hb))
theorem cpd_Q {P : List Nat} : ∀ {Q : List Nat}, (∀ a, a ∈ Q → 5 ≤ rkP a) → cpd (Q ++ P) = cpd P
  | [], _ => rfl
  | a :: Q, h => by
    have h1 := h a (List.mem_cons_self)
    show (if rkP a ≤ 4 then _ else cpd (Q ++ P)) = _
    rw [if_neg (by omega)]
    exact cpd_Q (fun b hb => h b (List.mem_cons_of_mem _ hb))
/-- what code that is written comes to -/
def runL (e : Env) : Kd → List Int → List Bool → Option (List Int × List Bool)
  | [], vs, bs => some (vs, bs)
  | p :: L, vs, bs => match runL e L vs bs with
    | none => none
    | some s => stepR e p.1 p.2 s.1 s.2
theorem runL_app {e : Env} {K : Kd} {vs v1 : List Int} {bs b1 : List Bool} (h : runL e K vs bs = some (v1, b1)) : ∀ (L : Kd), runL e (L ++ K) vs bs = runL e L v1 b1
  | [] => h
  | p :: L => by
    show (match runL e (L ++ K) vs bs with
      | none => none
      | some s => stepR e p.1 p.2 s.1 s.2) = _
    rw [runL_app h L]
    rfl
def CodV (L : Kd) (v : SVl) : Prop := ∀ e, okE e → sm (v e) ∧ ∀ vs bs, runL e L vs bs = some (v e :: vs, bs)
def CodB (L : Kd) (b : SBl) : Prop := ∀ e, okE e → ∀ vs bs, runL e L vs bs = some (vs, b e :: bs)
/-- one part read by the machine: what waits behind it binds no less than r -/
def Ct {α : Type} (T : TS) (w : Bool) (n r : Nat) (pre : Nat → List Nat → Prop) (ex : List Nat → Prop) (Cod : Kd → α → Prop) (nx : Nat → Prop) (one : Nat → PR α) : Prop := ∀ (j : Nat) (P : List Nat) (m : Nat) (K : Kd), m + n = 8 → pre (T.1 j) P → (match one j with
  | .inl q => Fin_ T w (j, (P, (m, (false, K)))) (.inl q)
  | .inr q => j < q.1 ∧ (nx (T.1 q.1) ∧ ∃ L Q, Cod (emQ Q L) q.2 ∧ ((∀ a, a ∈ Q → r ≤ rkP a) ∧ (ex (Q ++ P) ∧ Rch T w (j, (P, (m, (false, K)))) (q.1, (Q ++ P, (m + ctQ Q, (true, L ++ K))))))))
theorem ms_beh {T : TS} {w : Bool} {j n : Nat} {P : List Nat} {K : Kd} {c2 : MC} (h : behM T j P n K = some c2) : mstep T w (j, (P, (n, (true, K)))) = Sum.inr c2 := by
  unfold mstep
  dsimp only
  rw [if_pos rfl, h]
theorem ms_no {T : TS} {w : Bool} {j n : Nat} {P : List Nat} {K : Kd} (h : behM T j P n K = none) : mstep T w (j, (P, (n, (true, K)))) = if opn P ≠ 0 then Sum.inl (Sum.inl (1, j)) else Sum.inl (Sum.inr (j, (stl 1 P n K).2.2)) := by
  unfold mstep
  dsimp only
  rw [if_pos rfl, h]
theorem ms_beg {T : TS} {w : Bool} {j n : Nat} {P : List Nat} {K : Kd} {c2 : MC} (h : begM T w j P n K = Sum.inr c2) : mstep T w (j, (P, (n, (false, K)))) = Sum.inr c2 := by
  unfold mstep
  dsimp only
  rw [if_neg (by decide), h]
theorem ms_begf {T : TS} {w : Bool} {j n f : Nat} {P : List Nat} {K : Kd} (h : begM T w j P n K = Sum.inl f) : mstep T w (j, (P, (n, (false, K)))) = Sum.inl (Sum.inl (f, j)) := by
  unfold mstep
  dsimp only
  rw [if_neg (by decide), h]
theorem beh_op {T : TS} {w : Bool} {j n : Nat} {P : List Nat} {K : Kd} (h : btw (T.1 j) P ≠ 0) : mstep T w (j, (P, (n, (true, K)))) = Sum.inr (j + 1, (btw (T.1 j) P :: (stl (lstP (btw (T.1 j) P)) P n K).1, ((stl (lstP (btw (T.1 j) P)) P n K).2.1, (false, (stl (lstP (btw (T.1 j) P)) P n K).2.2)))) := ms_beh (if_pos h)
/-- the loops: parts between which something stands -/
theorem ct_loop {α : Type} {T : TS} {w : Bool} {n r : Nat} {pre preS : Nat → List Nat → Prop} {ex : List Nat → Prop} {Cod : Kd → α → Prop} {nxS : Nat → Prop} {one : Nat → PR α} {op : Nat → Bool} {mc : Nat → Nat} {cmb : Nat → α → α → α} (h46 : ∀ j, 300 ≤ j → T.1 j = 46) (ho46 : op 46 = false) (hS : Ct T w n (r + 2) preS ex Cod nxS one) (hp : ∀ k0 P, pre k0 P → tpR r P ∧ (preS k0 P ∧ ∀ k, op k = true → ∀ k2, preS k2 (mc k :: P))) (hex : ∀ k k0 P Q, op k = true → pre k0 P → ex (Q ++ mc k :: P) → ex ((Q ++ [mc k]) ++ P)) (hm : ∀ k, op k = true → mc k ≠ 0 ∧ (rkP (mc k) = r + 1 ∧ (lstP (mc k) = r + 1 ∧ ctP (mc k) = 0))) (hb : ∀ k k0 P Q, op k = true → pre k0 P → (∀ a, a ∈ Q → r + 1 ≤ rkP a) → ex (Q ++ P) → btw k (Q ++ P) = mc k) (hc : ∀ k L1 L2 v1 v2, op k = true → Cod L1 v1 → Cod L2 v2 → Cod ((mc k, 0) :: (L2 ++ L1)) (cmb k v1 v2)) : Ct T w n (r + 1) pre ex Cod (fun k => nxS k ∧ op k = false) (fun j => bnd (one j) (pLoop T op one cmb 300)) := by
  intro j0 P m K hmn hP
  obtain ⟨p1, p2, p3⟩ := hp _ P hP
  have key : ∀ (f j : Nat) (v : α) (L : Kd) (Q : List Nat), 300 ≤ j + f → j0 < j → nxS (T.1 j) → Cod (emQ Q L) v → (∀ a, a ∈ Q → r + 1 ≤ rkP a) → ex (Q ++ P) → Rch T w (j0, (P, (m, (false, K)))) (j, (Q ++ P, (m + ctQ Q, (true, L ++ K)))) → (match pLoop T op one cmb f j v with
    | .inl q => Fin_ T w (j0, (P, (m, (false, K)))) (.inl q)
    | .inr q => j0 < q.1 ∧ ((nxS (T.1 q.1) ∧ op (T.1 q.1) = false) ∧ ∃ L Q, Cod (emQ Q L) q.2 ∧ ((∀ a, a ∈ Q → r + 1 ≤ rkP a) ∧ (ex (Q ++ P) ∧ Rch T w (j0, (P, (m, (false, K)))) (q.1, (Q ++ P, (m + ctQ Q, (true, L ++ K)))))))) := by
    intro f
    induction f with
    | zero =>
      intro j v L Q hf hj hn hC hQ hE hR
      exact ⟨hj, ⟨hn, by rw [h46 j (by omega)]; exact ho46⟩, L, Q, hC, hQ, hE, hR⟩
    | succ f ih =>
      intro j v L Q hf hj hn hC hQ hE hR
      rcases Bool.eq_false_or_eq_true (op (T.1 j)) with hop | hop
      · rw [show pLoop T op one cmb (f + 1) j v = bnd (one (j + 1)) (fun j2 v2 => pLoop T op one cmb f j2 (cmb (T.1 j) v v2)) by show (if op (T.1 j) = true then _ else _) = _; rw [hop]; rfl]
        have hbt := hb _ _ P Q hop hP hQ hE
        obtain ⟨m1, m2, m3, m4⟩ := hm _ hop
        have h1 := beh_op (T := T) (w := w) (j := j) (n := m + ctQ Q) (P := Q ++ P) (K := L ++ K) (by rw [hbt]; exact m1)
        rw [hbt, m3, stl_Q p1 hQ] at h1
        have hS1 := hS (j + 1) (mc (T.1 j) :: P) m (emQ Q (L ++ K)) hmn (p3 _ hop _)
        have hR1 := rch_t hR (rch_1 h1)
        cases hq : one (j + 1) with
        | inl q =>
          rw [hq] at hS1
          exact fin_t hR1 hS1
        | inr q =>
          rw [hq] at hS1
          obtain ⟨s1, s2, L2, Q2, s3, s4, s5, s6⟩ := hS1
          refine ih q.1 (cmb (T.1 j) v q.2) (L2 ++ emQ Q L) (Q2 ++ [mc (T.1 j)]) (by omega) (by omega) s2 ?_ (fun a ha => ?_) (hex _ _ P Q2 hop hP s5) (rch_t hR1 ?_)
          · rw [emQ_cat, emQ_app]
            exact hc _ _ _ _ _ hop hC s3
          · rcases List.mem_append.mp ha with ha | ha
            · have := s4 a ha; omega
            · rw [List.mem_singleton.mp ha, m2]
              exact Nat.le_refl _
          · rw [ctQ_cat, show ctQ [mc (T.1 j)] = 0 from m4, List.append_assoc, List.append_assoc, ← emQ_app]
            exact s6
      · rw [show pLoop T op one cmb (f + 1) j v = .inr (j, v) by show (if op (T.1 j) = true then _ else _) = _; rw [hop]; rfl]
        exact ⟨hj, ⟨hn, hop⟩, L, Q, hC, hQ, hE, hR⟩
  have h0 := hS j0 P m K hmn p2
  show match bnd (one j0) (pLoop T op one cmb 300) with
    | .inl q => _
    | .inr q => _
  cases hq : one j0 with
  | inl q =>
    rw [hq] at h0
    exact h0
  | inr q =>
    rw [hq] at h0
    obtain ⟨s1, s2, L2, Q2, s3, s4, s5, s6⟩ := h0
    exact key 300 q.1 q.2 L2 Q2 (by omega) s1 s2 s3 (fun a ha => by have := s4 a ha; omega) s5 s6
