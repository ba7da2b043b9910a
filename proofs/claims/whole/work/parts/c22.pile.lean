/-- what is counted of what waits -/
def cnO (a : Nat) : Nat := if rkP a = 0 ∨ (rkP a = 7 ∨ a = 20) then 1 else 0
def cnP : List Nat → Nat
  | [] => 0
  | a :: P => cnO a + cnP P
def hdP : List Nat → Nat
  | [] => 0
  | a :: _ => if cnO a = 1 then 0 else rkP a
def inP : List Nat → Prop
  | [] => True
  | a :: P => (P.length + 1 ≤ 7 * (cnO a + cnP P) + (if cnO a = 1 then 0 else rkP a)) ∧ inP P
theorem cnO_c (a : Nat) : (cnO a = 1 ∧ (rkP a = 0 ∨ (rkP a = 7 ∨ a = 20))) ∨ (cnO a = 0 ∧ ¬ (rkP a = 0 ∨ (rkP a = 7 ∨ a = 20))) := by
  unfold cnO
  split
  · exact Or.inl ⟨rfl, by assumption⟩
  · exact Or.inr ⟨rfl, by assumption⟩
theorem hdP_le (P : List Nat) : hdP P ≤ 6 := by
  cases P with
  | nil => exact Nat.zero_le _
  | cons a P =>
    show (if cnO a = 1 then 0 else rkP a) ≤ 6
    have h := rkP_le a
    rcases cnO_c a with ⟨q, _⟩ | ⟨q, z⟩
    · rw [if_pos q]; omega
    · rw [if_neg (by omega)]; omega
theorem inP_le : ∀ {P : List Nat}, inP P → P.length ≤ 7 * cnP P + hdP P
  | [], _ => Nat.zero_le _
  | _ :: _, h => h.1
theorem inP_c {a : Nat} {P : List Nat} (h : inP P) (ha : cnO a = 1) : inP (a :: P) := by
  refine ⟨?_, h⟩
  have h1 := inP_le h
  have h2 := hdP_le P
  rw [ha, if_pos rfl]
  omega
theorem inP_o {a : Nat} {P : List Nat} (h : inP P) (ha : cnO a = 0) (hr : hdP P < rkP a) : inP (a :: P) := by
  refine ⟨?_, h⟩
  have h1 := inP_le h
  rw [ha, if_neg (by decide)]
  omega
theorem ctQ_cn : ∀ P : List Nat, ctQ P ≤ cnP P
  | [] => Nat.le_refl _
  | a :: P => by
    show ctP a + ctQ P ≤ cnO a + cnP P
    have h := ctQ_cn P
    have : ctP a ≤ cnO a := by
      unfold ctP
      rcases cnO_c a with ⟨q, _⟩ | ⟨q, z⟩
      · rw [q]; split <;> omega
      · rw [q, if_neg (by omega)]; exact Nat.le_refl _
    omega
theorem stl_in {r : Nat} (hr : 1 ≤ r) : ∀ (P : List Nat) (m : Nat) (K : Kd), inP P → m = cnP P → inP (stl r P m K).1 ∧ ((stl r P m K).2.1 = cnP (stl r P m K).1 ∧ ((stl r P m K).2.2.length + (stl r P m K).1.length = K.length + P.length ∧ ((stl r P m K).1.length ≤ P.length ∧ (tpR (r - 1) (stl r P m K).1 ∧ (cnP (stl r P m K).1 ≤ cnP P ∧ (K.length ≤ (stl r P m K).2.2.length ∧ (r = 5 → cpd P = false → tpR 3 (stl r P m K).1)))))))
  | [], m, K, h, hm => ⟨trivial, hm, rfl, Nat.le_refl _, trivial, Nat.le_refl _, Nat.le_refl _, fun _ _ => trivial⟩
  | a :: P, m, K, h, hm => by
    have hm : m = cnO a + cnP P := hm
    by_cases c : r ≤ rkP a
    · rw [show stl r (a :: P) m K = stl r P (m - ctP a) ((a, 0) :: K) from if_pos c]
      have e : ctP a = cnO a := by
        unfold ctP cnO
        by_cases q : rkP a = 7 ∨ a = 20
        · rw [if_pos q, if_pos (Or.inr q)]
        · rw [if_neg q, if_neg (by omega)]
      obtain ⟨i1, i2, i3, i4, i5, i6, i7, i8⟩ := stl_in hr P (m - ctP a) ((a, 0) :: K) h.2 (by omega)
      have i3 : _ = K.length + 1 + P.length := i3
      have i7 : K.length + 1 ≤ _ := i7
      refine ⟨i1, i2, ?_, ?_, i5, ?_, by omega, fun q1 q2 => i8 q1 ?_⟩
      · show _ = K.length + (P.length + 1)
        omega
      · show _ ≤ P.length + 1
        omega
      · show _ ≤ cnO a + cnP P
        omega
      · have q2 : (if rkP a ≤ 4 then decide (rkP a = 4) else cpd P) = false := q2
        rw [if_neg (by omega)] at q2
        exact q2
    · rw [show stl r (a :: P) m K = (a :: P, (m, K)) from if_neg c]
      refine ⟨h, hm, rfl, Nat.le_refl _, ?_, Nat.le_refl _, Nat.le_refl _, fun q1 q2 => ?_⟩
      · show rkP a ≤ r - 1
        omega
      · show rkP a ≤ 3
        have q2 : (if rkP a ≤ 4 then decide (rkP a = 4) else cpd P) = false := q2
        rw [if_pos (by omega)] at q2
        have := of_decide_eq_false q2
        omega
theorem hd_tp {r : Nat} {P : List Nat} (h : tpR r P) : hdP P ≤ r := by
  cases P with
  | nil => exact Nat.zero_le _
  | cons a P =>
    have h : rkP a ≤ r := h
    show (if cnO a = 1 then 0 else rkP a) ≤ r
    split <;> omega
/-- what a state of the machine can be -/
def IV (c0 : Nat) (c : MC) : Prop := c.2.2.1 ≤ 8 ∧ (c.2.2.1 = cnP c.2.1 ∧ (inP c.2.1 ∧ (c.2.2.2.2.length + c.2.1.length ≤ c.1 ∧ (c0 ≤ c.2.2.2.2.length ∧ c.1 ≤ 300))))
theorem iv_l {c0 : Nat} {c : MC} (h : IV c0 c) : c.2.1.length ≤ 62 := by
  have h1 := inP_le h.2.2.1
  have h2 := hdP_le c.2.1
  have h3 := h.1
  have h4 := h.2.1
  omega
theorem iv_f {c0 j : Nat} {P : List Nat} {m : Nat} {K : Kd} (h1 : m ≤ 8) (h2 : m = cnP P) (h3 : inP P) (h4 : K.length + P.length ≤ j) (h5 : c0 ≤ K.length) (h6 : j ≤ 300) : IV c0 (fin7 j P m K) := by
  obtain ⟨i1, i2, i3, i4, i5, i6, i7, i8⟩ := stl_in (r := 7) (by decide) P m K h3 h2
  exact ⟨show (stl 7 P m K).2.1 ≤ 8 by omega, i2, i1, show (stl 7 P m K).2.2.length + (stl 7 P m K).1.length ≤ j by omega, show c0 ≤ (stl 7 P m K).2.2.length by omega, h6⟩
theorem iv_o {c0 a j : Nat} {P : List Nat} {m : Nat} {K : Kd} {c2 : MC} (ha : cnO a = 1) (h2 : m = cnP P) (h3 : inP P) (h1 : m ≤ 8) (h4 : K.length + P.length ≤ j) (h5 : c0 ≤ K.length) (h6 : j < 300) (h : opd a j P m K = .inr c2) : IV c0 c2 := by
  by_cases q : m = 8
  · rw [opd_8 q] at h; cases h
  · rw [opd_n q] at h
    cases h
    exact ⟨show m + 1 ≤ 8 by omega, show m + 1 = cnO a + cnP P by omega, inP_c h3 ha, show K.length + (P.length + 1) ≤ j + 1 by omega, h5, show j + 1 ≤ 300 by omega⟩
theorem iv_beg {T : TS} {w : Bool} (h46 : ∀ j, 300 ≤ j → T.1 j = 46) {c0 j : Nat} {P : List Nat} {m : Nat} {K : Kd} {wh : Bool} {c2 : MC} (hI : IV c0 (j, (P, (m, (wh, K))))) (h : begM T w j P m K = .inr c2) : IV c0 c2 := by
  obtain ⟨h1, h2, h3, h4, h5, h6⟩ := hI
  have h1 : m ≤ 8 := h1
  have h2 : m = cnP P := h2
  have h3 : inP P := h3
  have h4 : K.length + P.length ≤ j := h4
  have h5 : c0 ≤ K.length := h5
  have h6 : j ≤ 300 := h6
  rcases Nat.lt_or_ge j 300 with q | q
  · unfold begM at h
    repeat' split at h
    all_goals first
      | (cases h; done)
      | exact iv_o (by decide) h2 h3 h1 h4 h5 q h
      | (cases h; exact iv_f h1 h2 h3 (show K.length + 1 + P.length ≤ j + 1 by omega) (show c0 ≤ K.length + 1 by omega) (by omega))
  · have e := h46 j q
    unfold begM at h
    rw [e] at h
    cases h
theorem btw_f {k : Nat} {P : List Nat} (h : btw k P ≠ 0) : cnO (btw k P) = 0 ∧ (btw k P < 64 ∧ (1 ≤ rkP (btw k P) ∧ (rkP (btw k P) ≤ 6 ∧ ((rkP (btw k P) = 4 → cpd P = false) ∧ k ≠ 46)))) := by
  have hc : cmpB k = true → cnO (cpK k) = 0 ∧ (cpK k < 64 ∧ (rkP (cpK k) = 4 ∧ k ≠ 46)) := fun z => by
    rcases cmp_k z with e | e | e | e | e | e <;> subst e <;> decide
  by_cases k1 : k = 36
  · rw [show btw k P = 6 from if_pos k1]; subst k1; exact ⟨by decide, by decide, by decide, by decide, fun z => absurd z (by decide), by decide⟩
  by_cases k2 : k = 37
  · rw [show btw k P = 7 from (if_neg k1).trans (if_pos k2)]; subst k2; exact ⟨by decide, by decide, by decide, by decide, fun z => absurd z (by decide), by decide⟩
  by_cases k3 : k = 38
  · rw [show btw k P = 8 from (if_neg k1).trans ((if_neg k2).trans (if_pos k3))]; subst k3; exact ⟨by decide, by decide, by decide, by decide, fun z => absurd z (by decide), by decide⟩
  by_cases k4 : k = 39
  · rw [show btw k P = 9 from (if_neg k1).trans ((if_neg k2).trans ((if_neg k3).trans (if_pos k4)))]; subst k4; exact ⟨by decide, by decide, by decide, by decide, fun z => absurd z (by decide), by decide⟩
  by_cases h41 : opn P = 41
  · have e := btw_c ⟨k1, k2, k3, k4⟩ h41
    rcases Bool.eq_false_or_eq_true (cpd P) with q | q
    · rw [q, if_pos rfl] at e
      by_cases k5 : k = 24
      · rw [if_pos k5] at e; rw [e]; subst k5; exact ⟨by decide, by decide, by decide, by decide, fun z => absurd z (by decide), by decide⟩
      · rw [if_neg k5] at e
        by_cases k6 : k = 23
        · rw [if_pos k6] at e; rw [e]; subst k6; exact ⟨by decide, by decide, by decide, by decide, fun z => absurd z (by decide), by decide⟩
        · rw [if_neg k6] at e; exact absurd e h
    · rw [q, if_neg (by decide)] at e
      rcases Bool.eq_false_or_eq_true (cmpB k) with p | p
      · rw [if_pos p] at e
        rw [e]
        obtain ⟨z1, z2, z3, z4⟩ := hc p
        exact ⟨z1, z2, by omega, by omega, fun _ => q, z4⟩
      · rw [if_neg (by rw [p]; decide)] at e; exact absurd e h
  · exact absurd (btw_n ⟨k1, k2, k3, k4⟩ h41) h
theorem lst_e {b : Nat} (h : 1 ≤ rkP b) : 1 ≤ lstP b := by
  unfold lstP
  split <;> omega
theorem iv_op {c0 j : Nat} {P : List Nat} {m : Nat} {K : Kd} {b : Nat} (h1 : m ≤ 8) (h2 : m = cnP P) (h3 : inP P) (h4 : K.length + P.length ≤ j) (h5 : c0 ≤ K.length) (h6 : j < 300) (hb : cnO b = 0 ∧ (b < 64 ∧ (1 ≤ rkP b ∧ (rkP b ≤ 6 ∧ (rkP b = 4 → cpd P = false))))) : IV c0 (j + 1, (b :: (stl (lstP b) P m K).1, ((stl (lstP b) P m K).2.1, (false, (stl (lstP b) P m K).2.2)))) := by
  obtain ⟨b1, b2, b3, b4, b5⟩ := hb
  obtain ⟨i1, i2, i3, i4, i5, i6, i7, i8⟩ := stl_in (r := lstP b) (lst_e b3) P m K h3 h2
  have hh : hdP (stl (lstP b) P m K).1 < rkP b := by
    by_cases q : rkP b = 4
    · have e : lstP b = 5 := if_pos q
      have := hd_tp (i8 e (b5 q))
      omega
    · have e : lstP b = rkP b := if_neg q
      have := hd_tp i5
      omega
  refine ⟨show (stl (lstP b) P m K).2.1 ≤ 8 by omega, ?_, inP_o i1 b1 hh, ?_, show c0 ≤ (stl (lstP b) P m K).2.2.length by omega, show j + 1 ≤ 300 by omega⟩
  · show (stl (lstP b) P m K).2.1 = cnO b + cnP (stl (lstP b) P m K).1
    omega
  · show (stl (lstP b) P m K).2.2.length + ((stl (lstP b) P m K).1.length + 1) ≤ j + 1
    omega
/-- behind the first of what is open nothing that binds stands -/
theorem stl1_o : ∀ {P : List Nat} {m : Nat} {K : Kd}, opn P ≠ 0 → ∃ P2, (stl 1 P m K).1 = opn P :: P2
  | [], _, _, h => absurd rfl h
  | a :: P, m, K, h => by
    have h : (if 40 ≤ a then a else opn P) ≠ 0 := h
    show ∃ P2, (stl 1 (a :: P) m K).1 = (if 40 ≤ a then a else opn P) :: P2
    by_cases q : 40 ≤ a
    · rw [if_pos q, show stl 1 (a :: P) m K = (a :: P, (m, K)) from if_neg (by rw [rk_40.mpr q]; decide)]
      exact ⟨P, rfl⟩
    · rw [if_neg q] at h
      have hr : rkP a ≠ 0 := fun z => q (rk_40.mp z)
      rw [if_neg q, show stl 1 (a :: P) m K = stl 1 P (m - ctP a) ((a, 0) :: K) from if_pos (by omega)]
      exact stl1_o h
theorem opn_40 : ∀ {P : List Nat}, opn P ≠ 0 → 40 ≤ opn P
  | [], h => absurd rfl h
  | a :: P, h => by
    have h : (if 40 ≤ a then a else opn P) ≠ 0 := h
    show 40 ≤ (if 40 ≤ a then a else opn P)
    by_cases q : 40 ≤ a
    · rw [if_pos q]; exact q
    · rw [if_neg q] at h ⊢; exact opn_40 h
theorem cnO_40 {a : Nat} (h : 40 ≤ a) : cnO a = 1 := if_pos (Or.inl (rk_40.mpr h))
theorem pof_f {k a : Nat} {c : Bool} (h : pof k a c ≠ 100) : k ≠ 46 ∧ (40 ≤ a ∧ (pof k a c = 0 ∨ (40 ≤ pof k a c ∧ pof k a c < 64))) := by
  unfold pof at h ⊢
  repeat' split at h
  all_goals first
    | exact absurd rfl h
    | (refine ⟨by omega, by omega, ?_⟩; simp_all)
theorem iv_shut {c0 j : Nat} {P : List Nat} {m : Nat} {K : Kd} {k : Nat} (h1 : m ≤ 8) (h2 : m = cnP P) (h3 : inP P) (h4 : K.length + P.length ≤ j) (h5 : c0 ≤ K.length) (h6 : j < 300) (ho : opn P ≠ 0) : IV c0 (fin7 (j + 1) (stl 1 P m K).1.tail ((stl 1 P m K).2.1 - 1) (if opn P = 43 then (3, 0) :: (stl 1 P m K).2.2 else (stl 1 P m K).2.2)) ∧ IV c0 (j + 1, (k :: (stl 1 P m K).1.tail, ((stl 1 P m K).2.1, (false, (stl 1 P m K).2.2)))) ∨ ¬ 40 ≤ k := by
  by_cases hk : 40 ≤ k
  · refine Or.inl ?_
    obtain ⟨i1, i2, i3, i4, i5, i6, i7, i8⟩ := stl_in (r := 1) (by decide) P m K h3 h2
    obtain ⟨P2, e⟩ := stl1_o (m := m) (K := K) ho
    have c1 := cnO_40 (opn_40 ho)
    have c2 := cnO_40 hk
    rw [e] at i1 i2 i3 i4 i6 ⊢
    have i2 : (stl 1 P m K).2.1 = cnO (opn P) + cnP P2 := i2
    have i3 : (stl 1 P m K).2.2.length + (P2.length + 1) = K.length + P.length := i3
    have i6 : cnO (opn P) + cnP P2 ≤ cnP P := i6
    refine ⟨?_, show (stl 1 P m K).2.1 ≤ 8 by omega, show (stl 1 P m K).2.1 = cnO k + cnP P2 by omega, inP_c i1.2 c2, show (stl 1 P m K).2.2.length + (P2.length + 1) ≤ j + 1 by omega, show c0 ≤ (stl 1 P m K).2.2.length by omega, show j + 1 ≤ 300 by omega⟩
    show IV c0 (fin7 (j + 1) P2 ((stl 1 P m K).2.1 - 1) (if opn P = 43 then (3, 0) :: (stl 1 P m K).2.2 else (stl 1 P m K).2.2))
    refine iv_f (by omega) (by omega) i1.2 ?_ ?_ (by omega)
    · split
      · show (stl 1 P m K).2.2.length + 1 + P2.length ≤ j + 1
        omega
      · omega
    · split
      · show c0 ≤ (stl 1 P m K).2.2.length + 1
        omega
      · omega
  · exact Or.inr hk
theorem iv_beh {T : TS} (h46 : ∀ j, 300 ≤ j → T.1 j = 46) {c0 j : Nat} {P : List Nat} {m : Nat} {K : Kd} {wh : Bool} {c2 : MC} (hI : IV c0 (j, (P, (m, (wh, K))))) (h : behM T j P m K = some c2) : IV c0 c2 ∧ j < 300 := by
  obtain ⟨h1, h2, h3, h4, h5, h6⟩ := hI
  have h1 : m ≤ 8 := h1
  have h2 : m = cnP P := h2
  have h3 : inP P := h3
  have h4 : K.length + P.length ≤ j := h4
  have h5 : c0 ≤ K.length := h5
  have h6 : j ≤ 300 := h6
  have hj : T.1 j ≠ 46 → j < 300 := fun z => by
    rcases Nat.lt_or_ge j 300 with q | q
    · exact q
    · exact absurd (h46 j q) z
  unfold behM at h
  by_cases q : btw (T.1 j) P ≠ 0
  · rw [if_pos q] at h
    obtain ⟨b1, b2, b3, b4, b5, b6⟩ := btw_f q
    cases h
    exact ⟨iv_op h1 h2 h3 h4 h5 (hj b6) ⟨b1, b2, b3, b4, b5⟩, hj b6⟩
  · rw [if_neg q] at h
    by_cases q1 : pof (T.1 j) (opn P) (cpd P) = 100
    · rw [if_pos q1] at h; cases h
    · rw [if_neg q1] at h
      obtain ⟨f1, f2, f3⟩ := pof_f q1
      have ho : opn P ≠ 0 := by omega
      by_cases q2 : pof (T.1 j) (opn P) (cpd P) = 0
      · rw [if_pos q2] at h
        cases h
        rcases iv_shut (k := 40) h1 h2 h3 h4 h5 (hj f1) ho with z | z
        · exact ⟨z.1, hj f1⟩
        · exact absurd (by decide) z
      · rw [if_neg q2] at h
        cases h
        rcases iv_shut (k := pof (T.1 j) (opn P) (cpd P)) h1 h2 h3 h4 h5 (hj f1) ho with z | z
        · exact ⟨z.2, hj f1⟩
        · omega
theorem iv_s {T : TS} {w : Bool} (h46 : ∀ j, 300 ≤ j → T.1 j = 46) {c0 : Nat} {c c2 : MC} (hI : IV c0 c) (h : mstep T w c = .inr c2) : IV c0 c2 := by
  obtain ⟨j, P, m, wh, K⟩ := c
  cases wh with
  | true =>
    cases hq : behM T j P m K with
    | some c3 =>
      rw [ms_beh hq] at h
      cases h
      exact (iv_beh h46 hI hq).1
    | none =>
      rw [ms_no hq] at h
      split at h <;> cases h
  | false =>
    cases hq : begM T w j P m K with
    | inl f => rw [ms_begf hq] at h; cases h
    | inr c3 =>
      rw [ms_beg hq] at h
      cases h
      exact iv_beg h46 hI hq
/-- what is written and what waits: small numbers -/
def KB (K : Kd) : Prop := ∀ p, p ∈ K → p.1 < 64 ∧ p.2 < 10000
def P64 (P : List Nat) : Prop := ∀ a, a ∈ P → a < 64
def KV (c : MC) : Prop := KB c.2.2.2.2 ∧ P64 c.2.1
theorem kb_c {a v : Nat} {K : Kd} (ha : a < 64) (hv : v < 10000) (h : KB K) : KB ((a, v) :: K) := fun p hp => by
  rcases List.mem_cons.mp hp with q | q
  · rw [q]; exact ⟨ha, hv⟩
  · exact h p q
theorem p64_c {a : Nat} {P : List Nat} (ha : a < 64) (h : P64 P) : P64 (a :: P) := fun p hp => by
  rcases List.mem_cons.mp hp with q | q
  · rw [q]; exact ha
  · exact h p q
theorem p64_t {P : List Nat} (h : P64 P) : P64 P.tail := by
  cases P with
  | nil => exact h
  | cons a P => exact fun p hp => h p (List.mem_cons_of_mem _ hp)
theorem stl_kb {r : Nat} : ∀ (P : List Nat) (m : Nat) (K : Kd), KB K → P64 P → KB (stl r P m K).2.2 ∧ P64 (stl r P m K).1
  | [], _, _, h1, h2 => ⟨h1, h2⟩
  | a :: P, m, K, h1, h2 => by
    by_cases c : r ≤ rkP a
    · rw [show stl r (a :: P) m K = stl r P (m - ctP a) ((a, 0) :: K) from if_pos c]
      exact stl_kb P _ _ (kb_c (h2 a List.mem_cons_self) (by decide) h1) (fun p hp => h2 p (List.mem_cons_of_mem _ hp))
    · rw [show stl r (a :: P) m K = (a :: P, (m, K)) from if_neg c]
      exact ⟨h1, h2⟩
theorem kv_o {a j n : Nat} {P : List Nat} {K : Kd} {c2 : MC} (ha : a < 64) (h1 : KB K) (h2 : P64 P) (h : opd a j P n K = .inr c2) : KV c2 := by
  by_cases q : n = 8
  · rw [opd_8 q] at h; cases h
  · rw [opd_n q] at h
    cases h
    exact ⟨h1, p64_c ha h2⟩
theorem nm_7 {k : Nat} (h : nameB k = true) : nmI k < 7 := by
  simp only [nameB, Bool.or_eq_true, Bool.and_eq_true, decide_eq_true_eq] at h
  unfold nmI
  split <;> omega
theorem kv_beg {T : TS} {w : Bool} {j n : Nat} {P : List Nat} {K : Kd} {c2 : MC} (h1 : KB K) (h2 : P64 P) (h : begM T w j P n K = .inr c2) : KV c2 := by
  by_cases q1 : T.1 j = 45 ∧ 9999 < T.2 j
  · rw [show begM T w j P n K = .inl 2 from if_pos q1] at h; cases h
  by_cases q2 : nameB (T.1 j) = true ∧ ((T.1 j = 30 ∧ w = false) ∨ (T.1 j = 31 ∧ w = true))
  · rw [show begM T w j P n K = .inl 5 from (if_neg q1).trans (if_pos q2)] at h; cases h
  by_cases q3 : T.1 j = 45
  · rw [show begM T w j P n K = .inr (fin7 (j + 1) P n ((0, T.2 j) :: K)) from (if_neg q1).trans ((if_neg q2).trans (if_pos q3))] at h
    cases h
    exact stl_kb (r := 7) P n _ (kb_c (by decide) (show T.2 j < 10000 by omega) h1) h2
  by_cases q4 : nameB (T.1 j) = true
  · rw [show begM T w j P n K = .inr (fin7 (j + 1) P n ((1, nmI (T.1 j)) :: K)) from (if_neg q1).trans ((if_neg q2).trans ((if_neg q3).trans (if_pos q4)))] at h
    cases h
    exact stl_kb (r := 7) P n _ (kb_c (by decide) (by have := nm_7 q4; omega) h1) h2
  unfold begM at h
  rw [if_neg q1, if_neg q2, if_neg q3, if_neg q4] at h
  repeat' split at h
  all_goals first
    | (cases h; done)
    | exact kv_o (by decide) h1 h2 h
theorem kv_s {T : TS} {w : Bool} {c c2 : MC} (hK : KV c) (h : mstep T w c = .inr c2) : KV c2 := by
  obtain ⟨j, P, m, wh, K⟩ := c
  obtain ⟨h1, h2⟩ := hK
  have h1 : KB K := h1
  have h2 : P64 P := h2
  cases wh with
  | true =>
    cases hq : behM T j P m K with
    | some c3 =>
      rw [ms_beh hq] at h
      cases h
      by_cases q : btw (T.1 j) P ≠ 0
      · rw [show behM T j P m K = _ from if_pos q] at hq
        cases hq
        have z := stl_kb (r := lstP (btw (T.1 j) P)) P m K h1 h2
        exact ⟨z.1, p64_c (btw_f q).2.1 z.2⟩
      · by_cases q1 : pof (T.1 j) (opn P) (cpd P) = 100
        · rw [show behM T j P m K = none from (if_neg q).trans (if_pos q1)] at hq; cases hq
        · have z := stl_kb (r := 1) P m K h1 h2
          have f := pof_f q1
          by_cases q2 : pof (T.1 j) (opn P) (cpd P) = 0
          · rw [show behM T j P m K = _ from (if_neg q).trans ((if_neg q1).trans (if_pos q2))] at hq
            cases hq
            refine stl_kb (r := 7) _ _ _ ?_ (p64_t z.2)
            split
            · exact kb_c (by decide) (by decide) z.1
            · exact z.1
          · rw [show behM T j P m K = _ from (if_neg q).trans ((if_neg q1).trans (if_neg q2))] at hq
            cases hq
            exact ⟨z.1, p64_c (by omega) (p64_t z.2)⟩
    | none =>
      rw [ms_no hq] at h
      split at h <;> cases h
  | false =>
    cases hq : begM T w j P m K with
    | inl f => rw [ms_begf hq] at h; cases h
    | inr c3 =>
      rw [ms_beg hq] at h
      cases h
      exact kv_beg h1 h2 hq
