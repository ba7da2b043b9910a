theorem cod_if {L1 L2 L3 : Kd} {b : SBl} {v1 v2 : SVl} (h1 : CodB L1 b) (h2 : CodV L2 v1) (h3 : CodV L3 v2) : CodV ((3, 0) :: (L3 ++ (L2 ++ L1))) (fun e => if b e = true then v1 e else v2 e) := by
  intro e he
  refine ⟨?_, fun vs bs => ?_⟩
  · show sm (if b e = true then v1 e else v2 e)
    split
    · exact (h2 e he).1
    · exact (h3 e he).1
  · show (match runL e (L3 ++ (L2 ++ L1)) vs bs with
      | none => none
      | some s => stepR e 3 0 s.1 s.2) = _
    rw [runL_app ((runL_app (h1 e he vs bs) L2).trans ((h2 e he).2 vs (b e :: bs))) L3, (h3 e he).2]
    rfl
theorem pof_t {k : Nat} {a b t : Nat} (h : (a = 41 ∧ b = 42 ∧ t = 20) ∨ (a = 42 ∧ b = 43 ∧ t = 21) ∨ (a = 43 ∧ b = 0 ∧ t = 22)) : (k = t → pof k a true = b) ∧ (k ≠ t → pof k a true = 100) := by
  rcases h with ⟨rfl, rfl, rfl⟩ | ⟨rfl, rfl, rfl⟩ | ⟨rfl, rfl, rfl⟩
  · exact ⟨fun z => by rw [z]; rfl, fun z => by unfold pof; rw [if_neg (by decide), if_pos rfl, if_neg (fun q => z q.1)]⟩
  · exact ⟨fun z => by rw [z]; rfl, fun z => by unfold pof; rw [if_neg (by decide), if_neg (by decide), if_pos rfl, if_neg z]⟩
  · exact ⟨fun z => by rw [z]; rfl, fun z => by unfold pof; rw [if_neg (by decide), if_neg (by decide), if_neg (by decide), if_pos rfl, if_neg z]⟩
theorem pof_x {k a : Nat} {c : Bool} (h : a ≠ 41) : pof k a c = pof k a true := by
  unfold pof
  rw [if_neg h, if_neg h]
theorem if_c {T : TS} {w : Bool} {n j m : Nat} {P : List Nat} {K : Kd} {s : Nat → PR SVl} {a : Nat → PR SBl} (hs : SumCt T w n s) (ha : EitCt T w n a) (hm : m + 1 + n = 8) : (match bnd (a j) (fun j1 b => bnd (pExp T 20 j1) (fun j2 _ => bnd (s j2) (fun j3 v1 => bnd (pExp T 21 j3) (fun j4 _ => bnd (s j4) (fun j5 v2 => bnd (pExp T 22 j5) (fun j6 _ => (.inr (j6, fun e => if b e = true then v1 e else v2 e) : PR SVl))))))) with
  | .inl q => Fin_ T w (j, (41 :: P, (m + 1, (false, K)))) (.inl q)
  | .inr q => j < q.1 ∧ ∃ L, CodV L q.2 ∧ Rch T w (j, (41 :: P, (m + 1, (false, K)))) (fin7 q.1 P m (L ++ K))) := by
  have t := ha j (41 :: P) (m + 1) K hm ⟨⟨⟨rfl, rfl, rfl⟩, Nat.zero_le _⟩, Nat.le_refl 0⟩
  cases hq : a j with
  | inl q => rw [hq] at t; exact t
  | inr q =>
    rw [hq] at t
    obtain ⟨t1, t2, L1, Q1, t3, t4, ⟨t5, t5'⟩, t6⟩ := t
    have n24 : T.1 q.1 ≠ 24 := of_decide_eq_false t2.1.2
    have n23 : T.1 q.1 ≠ 23 := of_decide_eq_false t2.2
    have hb : btw (T.1 q.1) (Q1 ++ 41 :: P) = 0 := by rw [btw_c (nx_op t2.1.1) t5', if_pos t5, if_neg n24, if_neg n23]
    rw [bnd_r]
    by_cases h20 : T.1 q.1 = 20
    · rw [show pExp T 20 q.1 = .inr (q.1 + 1, 0) from if_pos h20, bnd_r]
      have r1 := rch_t t6 (rch_1 (w := w) (ms_beh (beh_next (K := L1 ++ K) (m := m) t4 (by decide) hb (b := 42) (by rw [t5]; exact (pof_t (Or.inl ⟨rfl, rfl, rfl⟩)).1 h20) (by decide))))
      rw [emQ_app] at r1
      have u := hs (q.1 + 1) (42 :: P) (m + 1) (emQ Q1 L1 ++ K) hm ⟨Nat.zero_le _, fun _ => ahd_o (by decide) (by decide)⟩
      show match bnd (s (q.1 + 1)) (fun j3 v1 => bnd (pExp T 21 j3) (fun j4 _ => bnd (s j4) (fun j5 v2 => bnd (pExp T 22 j5) (fun j6 _ => (.inr (j6, fun e => if q.2 e = true then v1 e else v2 e) : PR SVl))))) with
        | .inl q => Fin_ T w (j, (41 :: P, (m + 1, (false, K)))) (.inl q)
        | .inr q => j < q.1 ∧ ∃ L, CodV L q.2 ∧ Rch T w (j, (41 :: P, (m + 1, (false, K)))) (fin7 q.1 P m (L ++ K))
      cases hr : s (q.1 + 1) with
      | inl r => rw [hr] at u; exact fin_t r1 u
      | inr r =>
        rw [hr] at u
        obtain ⟨u1, u2, L2, Q2, u3, u4, _, u6⟩ := u
        have r2 := rch_t r1 u6
        have hQ2 : ∀ b, b ∈ Q2 → 1 ≤ rkP b := fun b hb => by have := u4 b hb; omega
        have ho2 : opn (Q2 ++ 42 :: P) = 42 := (opn_Q hQ2).trans (if_pos (by decide))
        have hb2 : btw (T.1 r.1) (Q2 ++ 42 :: P) = 0 := btw_n (nx_op u2) (by rw [ho2]; decide)
        rw [bnd_r]
        by_cases h21 : T.1 r.1 = 21
        · rw [show pExp T 21 r.1 = .inr (r.1 + 1, 0) from if_pos h21, bnd_r]
          have r3 := rch_t r2 (rch_1 (w := w) (ms_beh (beh_next (K := L2 ++ (emQ Q1 L1 ++ K)) (m := m) hQ2 (by decide) hb2 (b := 43) (by rw [pof_x (by decide)]; exact (pof_t (Or.inr (Or.inl ⟨rfl, rfl, rfl⟩))).1 h21) (by decide))))
          rw [emQ_app] at r3
          have x := hs (r.1 + 1) (43 :: P) (m + 1) (emQ Q2 L2 ++ (emQ Q1 L1 ++ K)) hm ⟨Nat.zero_le _, fun _ => ahd_o (by decide) (by decide)⟩
          show match bnd (s (r.1 + 1)) (fun j5 v2 => bnd (pExp T 22 j5) (fun j6 _ => (.inr (j6, fun e => if q.2 e = true then r.2 e else v2 e) : PR SVl))) with
            | .inl q => Fin_ T w (j, (41 :: P, (m + 1, (false, K)))) (.inl q)
            | .inr q => j < q.1 ∧ ∃ L, CodV L q.2 ∧ Rch T w (j, (41 :: P, (m + 1, (false, K)))) (fin7 q.1 P m (L ++ K))
          cases hy : s (r.1 + 1) with
          | inl y => rw [hy] at x; exact fin_t r3 x
          | inr y =>
            rw [hy] at x
            obtain ⟨x1, x2, L3, Q3, x3, x4, _, x6⟩ := x
            have r4 := rch_t r3 x6
            have hQ3 : ∀ b, b ∈ Q3 → 1 ≤ rkP b := fun b hb => by have := x4 b hb; omega
            have ho3 : opn (Q3 ++ 43 :: P) = 43 := (opn_Q hQ3).trans (if_pos (by decide))
            have hb3 : btw (T.1 y.1) (Q3 ++ 43 :: P) = 0 := btw_n (nx_op x2) (by rw [ho3]; decide)
            rw [bnd_r]
            by_cases h22 : T.1 y.1 = 22
            · rw [show pExp T 22 y.1 = .inr (y.1 + 1, 0) from if_pos h22]
              refine ⟨by show j < y.1 + 1; omega, (3, 0) :: (emQ Q3 L3 ++ (emQ Q2 L2 ++ emQ Q1 L1)), cod_if t3 u3 x3, rch_t r4 (rch_1 (ms_beh ?_))⟩
              rw [beh_shut hQ3 (by decide) hb3 (by rw [pof_x (by decide)]; exact (pof_t (Or.inr (Or.inr ⟨rfl, rfl, rfl⟩))).1 h22), if_pos rfl, emQ_app, List.cons_append, List.append_assoc, List.append_assoc]
            · rw [show pExp T 22 y.1 = .inl (1, y.1) from if_neg h22]
              exact fin_t r4 (fin_no hb3 (by rw [ho3, pof_x (by decide)]; exact (pof_t (Or.inr (Or.inr ⟨rfl, rfl, rfl⟩))).2 h22) (by rw [ho3]; decide))
        · rw [show pExp T 21 r.1 = .inl (1, r.1) from if_neg h21]
          exact fin_t r2 (fin_no hb2 (by rw [ho2, pof_x (by decide)]; exact (pof_t (Or.inr (Or.inl ⟨rfl, rfl, rfl⟩))).2 h21) (by rw [ho2]; decide))
    · rw [show pExp T 20 q.1 = .inl (1, q.1) from if_neg h20]
      exact fin_t t6 (fin_no hb (by rw [t5', t5]; exact (pof_t (Or.inl ⟨rfl, rfl, rfl⟩)).2 h20) (by rw [t5']; decide))
theorem un_k {T : TS} {w : Bool} {n j m : Nat} {P : List Nat} {K : Kd} {one : Nat → PR SVl} (h : OneG T w n one) (hm : m + 1 + n = 8) {k : Nat} (hk : k = 37 ∨ k = 17 ∨ k = 18) : (match bnd (one j) (fun j2 v => (.inr (j2, un1 k v) : PR SVl)) with
  | .inl q => Fin_ T w (j, (mkO k :: P, (m + 1, (false, K)))) (.inl q)
  | .inr q => j < q.1 ∧ ∃ L, CodV L q.2 ∧ Rch T w (j, (mkO k :: P, (m + 1, (false, K)))) (fin7 q.1 P m (L ++ K))) := by
  have h7 : rkP (mkO k) = 7 := by rcases hk with rfl | rfl | rfl <;> decide
  have t := h j (mkO k :: P) (m + 1) K hm (fun _ => ahd_r (by omega))
  cases hq : one j with
  | inl q => rw [hq] at t; exact t
  | inr q =>
    rw [hq] at t
    obtain ⟨t1, L, t2, t3⟩ := t
    rw [fin7_u h7] at t3
    exact ⟨t1, (mkO k, 0) :: L, cod_un hk t2, t3⟩
theorem one_s {T : TS} {w : Bool} {n : Nat} {p : Nat → PR SVl} {a : Nat → PR SBl} (h46 : ∀ j, 300 ≤ j → T.1 j = 46) (hp : OneG T w n p) (ha : AskCt T w n a) : OneG T w (n + 1) (fOne T w (some (p, a))) := by
  intro j P m K hm hA
  rcases Bool.eq_false_or_eq_true (opnB (T.1 j)) with hop | hop
  · have h45 : ¬ T.1 j = 45 := fun z => by rw [z] at hop; cases hop
    have hR := rch_1 (w := w) (ms_beg (w := w) (n := m) (P := P) (K := K) ((beg_opn hop).trans (opd_n (show m ≠ 8 by omega))))
    have e : fOne T w (some (p, a)) j = if T.1 j = 40 then bnd (pSum T p (j + 1)) (fun j2 v => bnd (pExp T 41 j2) (fun j3 _ => .inr (j3, v))) else if T.1 j = 19 then pIf T p a (j + 1) else bnd (p (j + 1)) (fun j2 v => .inr (j2, un1 (T.1 j) v)) := (if_neg h45).trans (if_pos hop)
    have fin : ∀ (R : PR SVl), (match R with
      | .inl q => Fin_ T w (j + 1, (mkO (T.1 j) :: P, (m + 1, (false, K)))) (.inl q)
      | .inr q => j + 1 < q.1 ∧ ∃ L, CodV L q.2 ∧ Rch T w (j + 1, (mkO (T.1 j) :: P, (m + 1, (false, K)))) (fin7 q.1 P m (L ++ K))) → (match R with
      | .inl q => Fin_ T w (j, (P, (m, (false, K)))) (.inl q)
      | .inr q => j < q.1 ∧ ∃ L, CodV L q.2 ∧ Rch T w (j, (P, (m, (false, K)))) (fin7 q.1 P m (L ++ K))) := by
      intro R h
      cases R with
      | inl q => exact fin_t hR h
      | inr q =>
        obtain ⟨g1, L, g2, g3⟩ := h
        exact ⟨by omega, L, g2, rch_t hR g3⟩
    refine fin _ ?_
    rw [e]
    rcases opn_k hop with h | h | h | h | h
    · rw [if_pos h, h]
      exact par_c (sum_ct h46 hp) (by omega)
    · rw [if_neg (by omega), if_neg (by omega), h]
      exact un_k hp (by omega) (Or.inl rfl)
    · rw [if_neg (by omega), if_neg (by omega), h]
      exact un_k hp (by omega) (Or.inr (Or.inl rfl))
    · rw [if_neg (by omega), if_neg (by omega), h]
      exact un_k hp (by omega) (Or.inr (Or.inr rfl))
    · rw [if_neg (by omega), if_pos h, h]
      exact if_c (sum_ct h46 hp) (eit_ct h46 ha) (by omega)
  · exact one_base hop hA
theorem lev_m {T : TS} {w : Bool} (h46 : ∀ j, 300 ≤ j → T.1 j = 46) : ∀ n, OneG T w n (lev T w n).1 ∧ AskCt T w n (lev T w n).2
  | 0 => ⟨one_0, ask_0 (sum_ct h46 one_0)⟩
  | n + 1 => by
    obtain ⟨h1, h2⟩ := lev_m h46 n
    have h3 : OneG T w (n + 1) (fOne T w (some (lev T w n))) := one_s h46 h1 h2
    exact ⟨h3, ask_s (sum_ct h46 h3) h2⟩
/-- a law read by the machine, with nothing open around -/
theorem law_m {T : TS} {w : Bool} (h46 : ∀ j, 300 ≤ j → T.1 j = 46) (j : Nat) (K : Kd) : (match pSum T (lev T w 8).1 j with
  | .inl q => Fin_ T w (j, ([], (0, (false, K)))) (.inl q)
  | .inr q => j < q.1 ∧ ∃ L, CodV L q.2 ∧ Fin_ T w (j, ([], (0, (false, K)))) (.inr (q.1, L ++ K))) := by
  have t := sum_ct h46 (lev_m (w := w) h46 8).1 j [] 0 K rfl ⟨trivial, fun _ => rfl⟩
  cases hq : pSum T (lev T w 8).1 j with
  | inl q => rw [hq] at t; exact t
  | inr q =>
    rw [hq] at t
    obtain ⟨t1, t2, L, Q, t3, t4, _, t6⟩ := t
    have hQ : ∀ b, b ∈ Q → 1 ≤ rkP b := fun b hb => by have := t4 b hb; omega
    have ho : opn (Q ++ []) = 0 := opn_Q hQ
    refine ⟨t1, emQ Q L, t3, fin_t t6 (fin_1 ?_)⟩
    rw [ms_no (beh_none (btw_n (nx_op t2) (by rw [ho]; decide)) (by rw [ho]; rfl)), if_neg (by rw [ho]; decide), stl_Q (r := 0) (P := []) trivial hQ, emQ_app]
