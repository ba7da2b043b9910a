theorem cod_num {x : Nat} (h : ¬ 9999 < x) : CodV [(0, x)] (fun _ => (x : Int)) := fun e _ => ⟨sm_nat (by omega), fun vs bs => by
  show stepR e 0 x vs bs = _
  unfold stepR
  rw [if_pos rfl, if_pos (by omega)]⟩
theorem cod_nm {k : Nat} (h : nameB k = true) : CodV [(1, nmI k)] (fun e => nmV e (nmI k)) := fun e he => ⟨nm_sm he _, fun vs bs => by
  have hk : nmI k < 7 := by
    simp only [nameB, Bool.or_eq_true, Bool.and_eq_true, decide_eq_true_eq] at h
    unfold nmI
    split <;> omega
  show stepR e 1 (nmI k) vs bs = _
  unfold stepR
  rw [if_neg (by decide), if_pos rfl, if_pos hk]⟩
theorem one_base {T : TS} {w : Bool} {sub : Option ((Nat → PR SVl) × (Nat → PR SBl))} {j m : Nat} {P : List Nat} {K : Kd} (hop : opnB (T.1 j) = false) (hA : T.1 j = 25 → ahd P = false) : (match fOne T w sub j with
  | .inl q => Fin_ T w (j, (P, (m, (false, K)))) (.inl q)
  | .inr q => j < q.1 ∧ ∃ L, CodV L q.2 ∧ Rch T w (j, (P, (m, (false, K)))) (fin7 q.1 P m (L ++ K))) := by
  by_cases h45 : T.1 j = 45
  · rw [show fOne T w sub j = bnd (pNum T 0 9999 j) (fun j2 x => .inr (j2, fun _ => (x : Int))) from if_pos h45]
    by_cases h9 : 9999 < T.2 j
    · rw [show pNum T 0 9999 j = .inl (2, j) from (if_pos h45).trans (if_pos (Or.inr h9))]
      exact fin_1 (ms_begf (if_pos ⟨h45, h9⟩))
    · rw [show pNum T 0 9999 j = .inr (j + 1, T.2 j) from (if_pos h45).trans (if_neg (by omega))]
      refine ⟨Nat.lt_succ_self j, [(0, T.2 j)], cod_num h9, rch_1 (ms_beg ?_)⟩
      unfold begM
      rw [if_neg (fun z => h9 z.2), if_neg (fun z => by rw [h45] at z; exact absurd z.1 (by decide)), if_pos h45]
      rfl
  · rw [show fOne T w sub j = pName T w j from (if_neg h45).trans (if_neg (by rw [hop]; decide))]
    by_cases hn : nameB (T.1 j) = true
    · by_cases hx : (T.1 j = 30 ∧ w = false) ∨ (T.1 j = 31 ∧ w = true)
      · rw [show pName T w j = .inl (5, j) from (if_pos hn).trans (if_pos hx)]
        exact fin_1 (ms_begf ((if_neg (fun z => h45 z.1)).trans (if_pos ⟨hn, hx⟩)))
      · rw [show pName T w j = .inr (j + 1, fun e => nmV e (nmI (T.1 j))) from (if_pos hn).trans (if_neg hx)]
        refine ⟨Nat.lt_succ_self j, [(1, nmI (T.1 j))], cod_nm hn, rch_1 (ms_beg ?_)⟩
        unfold begM
        rw [if_neg (fun z => h45 z.1), if_neg (fun z => hx z.2), if_neg h45, if_pos hn]
        rfl
    · rw [show pName T w j = .inl (1, j) from if_neg hn]
      refine fin_1 (ms_begf ?_)
      have ho : ¬ opnB (T.1 j) = true := by rw [hop]; decide
      simp only [opnB, Bool.or_eq_true, decide_eq_true_eq] at ho
      unfold begM
      rw [if_neg (fun z => h45 z.1), if_neg (fun z => hn z.1), if_neg h45, if_neg hn, if_neg (by omega), if_neg (by omega), if_neg (by omega), if_neg (by omega), if_neg (by omega), if_neg (fun z => by rw [hA z.1] at z; exact absurd z.2 (by decide))]
theorem one_0 {T : TS} {w : Bool} : OneG T w 0 (fOne T w none) := by
  intro j P m K hm hA
  rcases Bool.eq_false_or_eq_true (opnB (T.1 j)) with hop | hop
  · have h45 : ¬ T.1 j = 45 := fun z => by rw [z] at hop; cases hop
    rw [show fOne T w none j = .inl (3, j) from (if_neg h45).trans (if_pos hop)]
    exact fin_1 (ms_begf (by rw [beg_opn hop, opd_8 (by omega)]))
  · exact one_base hop hA
theorem fin7_u {a j m : Nat} {P : List Nat} {K : Kd} (h : rkP a = 7) : fin7 j (a :: P) (m + 1) K = fin7 j P m ((a, 0) :: K) := by
  have e : stl 7 (a :: P) (m + 1) K = stl 7 P m ((a, 0) :: K) := by
    show (if 7 ≤ rkP a then stl 7 P (m + 1 - ctP a) ((a, 0) :: K) else _) = _
    rw [if_pos (by omega), show ctP a = 1 from if_pos (Or.inl h)]
    rfl
  unfold fin7
  rw [e]
theorem cod_un {k : Nat} {L : Kd} {v : SVl} (hk : k = 37 ∨ k = 17 ∨ k = 18) (h : CodV L v) : CodV ((mkO k, 0) :: L) (un1 k v) := by
  intro e he
  obtain ⟨h1, h2⟩ := h e he
  refine ⟨?_, fun vs bs => ?_⟩
  · rcases hk with rfl | rfl | rfl
    · exact sm_neg h1
    · exact szV_sm
    · exact hsV_sm
  · show (match runL e L vs bs with
      | none => none
      | some s => stepR e (mkO k) 0 s.1 s.2) = _
    rw [h2]
    rcases hk with rfl | rfl | rfl <;> rfl
/-- what is open is shut -/
theorem beh_shut {T : TS} {j m a : Nat} {P Q : List Nat} {K : Kd} (hQ : ∀ b, b ∈ Q → 1 ≤ rkP b) (ha : 40 ≤ a) (h1 : btw (T.1 j) (Q ++ a :: P) = 0) (h2 : pof (T.1 j) a (cpd (Q ++ a :: P)) = 0) : behM T j (Q ++ a :: P) (m + 1 + ctQ Q) K = some (fin7 (j + 1) P m (if a = 43 then (3, 0) :: emQ Q K else emQ Q K)) := by
  have ho : opn (Q ++ a :: P) = a := (opn_Q hQ).trans (if_pos ha)
  have hs : stl 1 (Q ++ a :: P) (m + 1 + ctQ Q) K = (a :: P, (m + 1, emQ Q K)) := stl_Q (r := 0) (P := a :: P) (show rkP a ≤ 0 by rw [rk_40.mpr ha]; exact Nat.le_refl 0) hQ
  unfold behM
  rw [if_neg (by rw [h1]; exact fun z => z rfl), ho, if_neg (by rw [h2]; decide), if_pos h2, hs]
  rfl
/-- the next part of what is open -/
theorem beh_next {T : TS} {j m a b : Nat} {P Q : List Nat} {K : Kd} (hQ : ∀ b, b ∈ Q → 1 ≤ rkP b) (ha : 40 ≤ a) (h1 : btw (T.1 j) (Q ++ a :: P) = 0) (h2 : pof (T.1 j) a (cpd (Q ++ a :: P)) = b) (hb : b ≠ 0 ∧ b ≠ 100) : behM T j (Q ++ a :: P) (m + 1 + ctQ Q) K = some (j + 1, (b :: P, (m + 1, (false, emQ Q K)))) := by
  have ho : opn (Q ++ a :: P) = a := (opn_Q hQ).trans (if_pos ha)
  have hs : stl 1 (Q ++ a :: P) (m + 1 + ctQ Q) K = (a :: P, (m + 1, emQ Q K)) := stl_Q (r := 0) (P := a :: P) (show rkP a ≤ 0 by rw [rk_40.mpr ha]; exact Nat.le_refl 0) hQ
  unfold behM
  rw [if_neg (by rw [h1]; exact fun z => z rfl), ho, if_neg (by rw [h2]; exact hb.2), if_neg (by rw [h2]; exact hb.1), hs, h2]
  rfl
theorem ahd_o {a : Nat} {P : List Nat} (h : 40 ≤ a) (h1 : a ≠ 41) : ahd (a :: P) = false := by
  unfold ahd
  rw [show opn (a :: P) = a from if_pos h, decide_eq_false h1, Bool.false_and]
theorem par_c {T : TS} {w : Bool} {n j m : Nat} {P : List Nat} {K : Kd} {s : Nat → PR SVl} (hs : SumCt T w n s) (hm : m + 1 + n = 8) : (match bnd (s j) (fun j2 v => bnd (pExp T 41 j2) (fun j3 _ => (.inr (j3, v) : PR SVl))) with
  | .inl q => Fin_ T w (j, (40 :: P, (m + 1, (false, K)))) (.inl q)
  | .inr q => j < q.1 ∧ ∃ L, CodV L q.2 ∧ Rch T w (j, (40 :: P, (m + 1, (false, K)))) (fin7 q.1 P m (L ++ K))) := by
  have t := hs j (40 :: P) (m + 1) K hm ⟨Nat.zero_le _, fun _ => ahd_o (by decide) (by decide)⟩
  cases hq : s j with
  | inl q => rw [hq] at t; exact t
  | inr q =>
    rw [hq] at t
    obtain ⟨t1, t2, L, Q, t3, t4, _, t6⟩ := t
    have hQ : ∀ b, b ∈ Q → 1 ≤ rkP b := fun b hb => by have := t4 b hb; omega
    have ho : opn (Q ++ 40 :: P) = 40 := (opn_Q hQ).trans (if_pos (by decide))
    have hb : btw (T.1 q.1) (Q ++ 40 :: P) = 0 := btw_n (nx_op t2) (by rw [ho]; decide)
    rw [bnd_r]
    by_cases h41 : T.1 q.1 = 41
    · rw [show pExp T 41 q.1 = .inr (q.1 + 1, 0) from if_pos h41]
      refine ⟨by show j < q.1 + 1; omega, emQ Q L, t3, rch_t t6 (rch_1 (ms_beh ?_))⟩
      rw [beh_shut hQ (by decide) hb (by rw [h41]; rfl), if_neg (by decide), emQ_app]
    · rw [show pExp T 41 q.1 = .inl (1, q.1) from if_neg h41]
      refine fin_t t6 (fin_no hb ?_ (by rw [ho]; decide))
      rw [ho]
      exact (if_pos rfl).trans (if_neg h41)
