/-- strokes that are free: fm of them, fr tells them in order; U is the set of them -/
def frE (U fm : Nat) (fr : Nat → Nat) : Prop := (∀ j, j < fm → fr j < 20 ∧ U.testBit (fr j) = true) ∧ (∀ i j, i < j → j < fm → fr i < fr j) ∧ ∀ k, k < 20 → U.testBit k = true → ∃ j, j < fm ∧ fr j = k
/-- so far, of those below b -/
def frL (U b c : Nat) (l : List Int32) : Prop := l.length = 20 ∧ c = smN (fun k => if U.testBit k then 1 else 0) b ∧ (∀ j, j < c → ∃ k, l.getD j 0 = nI k ∧ k < b ∧ k < 20 ∧ U.testBit k = true) ∧ (∀ i j, i < j → j < c → tn (l.getD i 0) < tn (l.getD j 0)) ∧ ∀ k, k < b → U.testBit k = true → ∃ j, j < c ∧ l.getD j 0 = nI k
theorem frL_skip {U b c : Nat} {l : List Int32} (h : U.testBit b = false) (hl : frL U b c l) : frL U (b + 1) c l := by
  obtain ⟨h1, h2, h3, h4, h5⟩ := hl
  refine ⟨h1, by rw [smN, h]; exact h2, fun j hj => ?_, h4, fun k hk hu => ?_⟩
  · obtain ⟨k, q1, q2, q3⟩ := h3 j hj
    exact ⟨k, q1, by omega, q3⟩
  · by_cases e : k = b
    · rw [e, h] at hu; cases hu
    · exact h5 k (by omega) hu
theorem frL_c {U b c : Nat} {l : List Int32} (hl : frL U b c l) : c ≤ b := by
  rw [hl.2.1]
  have := smN_le (f := fun k => if U.testBit k = true then 1 else 0) (g := fun _ => 1) (n := b) (fun k _ => by
    show (if U.testBit k = true then 1 else 0) ≤ 1
    split <;> omega)
  have g : ∀ n, smN (fun _ => 1) n = n := by
    intro n
    induction n with
    | zero => rfl
    | succ n ih => rw [smN, ih]
  rw [g] at this
  exact this
theorem frL_put {U b c : Nat} {l : List Int32} (hb : b < 20) (h : U.testBit b = true) (hl : frL U b c l) : frL U (b + 1) (c + 1) (l.set c (nI b)) := by
  have hc := frL_c hl
  obtain ⟨h1, h2, h3, h4, h5⟩ := hl
  have e1 : (l.set c (nI b)).getD c 0 = nI b := set_eq (by omega)
  have e2 : ∀ j, j ≠ c → (l.set c (nI b)).getD j 0 = l.getD j 0 := fun j hj => set_ne (Ne.symm hj)
  refine ⟨by rw [List.length_set]; exact h1, by rw [smN, h, ← h2]; rfl, fun j hj => ?_, fun i j hij hj => ?_, fun k hk hu => ?_⟩
  · by_cases e : j = c
    · subst e
      exact ⟨b, e1, by omega, hb, h⟩
    · obtain ⟨k, q1, q2, q3⟩ := h3 j (by omega)
      exact ⟨k, by rw [e2 j e]; exact q1, by omega, q3⟩
  · rw [e2 i (by omega)]
    by_cases e : j = c
    · subst e
      rw [e1, tn_nI (by omega)]
      obtain ⟨k, q1, q2, _⟩ := h3 i hij
      rw [q1, tn_nI (by omega)]
      exact q2
    · rw [e2 j e]
      exact h4 i j hij (by omega)
  · by_cases e : k = b
    · exact ⟨c, by omega, by rw [e1, e]⟩
    · obtain ⟨j, q1, q2⟩ := h5 k (by omega) hu
      exact ⟨j, by omega, by rw [e2 j (by omega)]; exact q2⟩
theorem frL_E {U c : Nat} {l : List Int32} (hl : frL U 20 c l) : frE U c (fun j => tn (l.getD j 0)) := by
  obtain ⟨h1, h2, h3, h4, h5⟩ := hl
  refine ⟨fun j hj => ?_, h4, fun k hk hu => ?_⟩
  · obtain ⟨k, q1, q2, q3, q4⟩ := h3 j hj
    show tn (l.getD j 0) < 20 ∧ U.testBit (tn (l.getD j 0)) = true
    rw [q1, tn_nI (by omega)]
    exact ⟨q3, q4⟩
  · obtain ⟨j, q1, q2⟩ := h5 k hk hu
    exact ⟨j, q1, by show tn (l.getD j 0) = k; rw [q2, tn_nI (by omega)]⟩
theorem frL_bc {U c : Nat} {l : List Int32} (hU : U < 1048576) (hl : frL U 20 c l) : c = bc U := by
  have g : ∀ j, smN (fun k => if U.testBit k then 1 else 0) (20 + j) = smN (fun k => if U.testBit k then 1 else 0) 20 := by
    intro j
    induction j with
    | zero => rfl
    | succ j ih =>
      rw [← Nat.add_assoc, smN, ih, lt_tb (f := 20) hU (by omega)]
      rfl
  rw [hl.2.1, show bc U = pcn 32 U from rfl, pcn_sm U 32]
  exact (g 12).symm
/-- strokes with those of a set of the free ones -/
def wfN (fm : Nat) (fr : Nat → Nat) (S set : Nat) : Nat := itr (fun k v => v ||| if set.testBit k then 1 <<< fr k else 0) S fm
theorem wf_tb (fr : Nat → Nat) (S set b : Nat) : ∀ fm, (wfN fm fr S set).testBit b = true ↔ S.testBit b = true ∨ ∃ k, k < fm ∧ set.testBit k = true ∧ fr k = b := by
  intro fm
  induction fm with
  | zero =>
    constructor
    · intro h; exact Or.inl h
    · rintro (h | ⟨k, hk, _⟩)
      · exact h
      · omega
  | succ m ih =>
    show (wfN m fr S set ||| if set.testBit m then 1 <<< fr m else 0).testBit b = true ↔ _
    rw [Nat.testBit_or, Bool.or_eq_true, ih]
    cases e : set.testBit m
    · rw [if_neg (by decide), Nat.zero_testBit]
      constructor
      · rintro ((h | ⟨k, h1, h2⟩) | h)
        · exact Or.inl h
        · exact Or.inr ⟨k, by omega, h2⟩
        · cases h
      · rintro (h | ⟨k, h1, h2, h3⟩)
        · exact Or.inl (Or.inl h)
        · by_cases z : k = m
          · rw [z, e] at h2; cases h2
          · exact Or.inl (Or.inr ⟨k, by omega, h2, h3⟩)
    · rw [if_pos rfl, tb_1, decide_eq_true_eq]
      constructor
      · rintro ((h | ⟨k, h1, h2⟩) | h)
        · exact Or.inl h
        · exact Or.inr ⟨k, by omega, h2⟩
        · exact Or.inr ⟨m, by omega, e, h⟩
      · rintro (h | ⟨k, h1, h2, h3⟩)
        · exact Or.inl (Or.inl h)
        · by_cases z : k = m
          · rw [z] at h3; exact Or.inr h3
          · exact Or.inl (Or.inr ⟨k, by omega, h2, h3⟩)
theorem wf_lt {fm : Nat} {fr : Nat → Nat} {S set : Nat} (hS : S < 1048576) (hf : ∀ j, j < fm → fr j < 20) : ∀ i, i ≤ fm → wfN i fr S set < 1048576 :=
  itr_invN (fun _ (x : Nat) => x < 1048576) fm hS (fun i x hi hx => by
    refine or_lt 20 hx ?_
    split
    · exact sh_lt (hf i hi) (by decide)
    · decide)
/-- who begins wins from a set on -/
def wnB (fm : Nat) (fr : Nat → Nat) (S set : Nat) : Bool := decide ((rk (wfN fm fr S (2 ^ fm - 1)) - rk (wfN fm fr S set)) % 2 = 1)
def wnP (fm : Nat) (fr : Nat → Nat) (S set k : Nat) : Bool := !set.testBit k && (!wnB fm fr S (set ||| 1 <<< k) && decide (hol (wfN fm fr S set ||| 1 <<< fr k) = hol (wfN fm fr S set)))
theorem rk_mono {s t : Nat} (h : subT s t) : rk s ≤ rk t := by
  refine smN_le (fun p hp => ?_)
  cases e : rpB t p
  · have : (if rpB s p = true then 0 else 1) ≤ 1 := by split <;> omega
    exact this
  · have : rpB s p = true := allN_iff.mpr (fun q hq => by
      have h2 := rp_t e hq
      cases z : (pcs s q).testBit p
      · rfl
      · have := pc_min (clo_sub h (pc_clo (s := t) (p := q) (by omega))) (pc_self t q) p z
        rw [h2] at this
        cases this)
    rw [this]
    exact Nat.le_refl _
theorem frE_inj {U fm : Nat} {fr : Nat → Nat} (h : frE U fm fr) {i j : Nat} (hi : i < fm) (hj : j < fm) (e : fr i = fr j) : i = j := by
  rcases Nat.lt_trichotomy i j with z | z | z
  · have := h.2.1 i j z hj; omega
  · exact z
  · have := h.2.1 j i z hi; omega
theorem wf_put {U fm : Nat} {fr : Nat → Nat} {S set k : Nat} (h : frE U fm fr) (hk : k < fm) : wfN fm fr S (set ||| 1 <<< k) = wfN fm fr S set ||| 1 <<< fr k := by
  apply Nat.eq_of_testBit_eq
  intro b
  apply Bool.eq_iff_iff.mpr
  rw [wf_tb, Nat.testBit_or, Bool.or_eq_true, wf_tb, tb_1, decide_eq_true_eq]
  constructor
  · rintro (q | ⟨j, h1, h2, h3⟩)
    · exact Or.inl (Or.inl q)
    · rw [Nat.testBit_or, tb_1, Bool.or_eq_true, decide_eq_true_eq] at h2
      rcases h2 with z | z
      · exact Or.inl (Or.inr ⟨j, h1, z, h3⟩)
      · rw [z]; exact Or.inr h3
  · rintro ((q | ⟨j, h1, h2, h3⟩) | q)
    · exact Or.inl q
    · exact Or.inr ⟨j, h1, by rw [Nat.testBit_or, h2]; rfl, h3⟩
    · exact Or.inr ⟨k, hk, by rw [Nat.testBit_or, tb_1, decide_eq_true rfl, Bool.or_true], q⟩
theorem wf_no {U fm : Nat} {fr : Nat → Nat} {S set k : Nat} (h : frE U fm fr) (hU : ∀ b, U.testBit b = true → S.testBit b = false) (hk : k < fm) (hs : set.testBit k = false) : (wfN fm fr S set).testBit (fr k) = false := by
  cases e : (wfN fm fr S set).testBit (fr k)
  · rfl
  · rcases (wf_tb ..).mp e with q | ⟨j, h1, h2, h3⟩
    · rw [hU _ (h.1 k hk).2] at q; cases q
    · rw [frE_inj h h1 hk h3, hs] at h2; cases h2
theorem wf_all {U fm : Nat} {fr : Nat → Nat} {S : Nat} (h : frE U fm fr) (hU : U < 1048576) : wfN fm fr S (2 ^ fm - 1) = S ||| U := by
  apply Nat.eq_of_testBit_eq
  intro b
  apply Bool.eq_iff_iff.mpr
  rw [wf_tb, Nat.testBit_or, Bool.or_eq_true]
  constructor
  · rintro (q | ⟨j, h1, h2, h3⟩)
    · exact Or.inl q
    · rw [← h3]; exact Or.inr (h.1 j h1).2
  · rintro (q | q)
    · exact Or.inl q
    · have hb : b < 20 := by
        rcases Nat.lt_or_ge b 20 with z | z
        · exact z
        · rw [lt_tb (f := 20) hU z] at q; cases q
      obtain ⟨j, h1, h2⟩ := h.2.2 b hb q
      exact Or.inr ⟨j, h1, by rw [Nat.testBit_two_pow_sub_one]; exact decide_eq_true h1, h2⟩
theorem wf_0 {fm : Nat} {fr : Nat → Nat} {S : Nat} : wfN fm fr S 0 = S := by
  apply Nat.eq_of_testBit_eq
  intro b
  apply Bool.eq_iff_iff.mpr
  rw [wf_tb]
  constructor
  · rintro (q | ⟨j, _, h2, _⟩)
    · exact q
    · rw [Nat.zero_testBit] at h2; cases h2
  · exact Or.inl
theorem wf_sub {fm : Nat} {fr : Nat → Nat} {S set : Nat} : subT (wfN fm fr S set) (wfN fm fr S (2 ^ fm - 1)) := by
  intro b hb
  rcases (wf_tb ..).mp hb with q | ⟨j, h1, _, h3⟩
  · exact (wf_tb ..).mpr (Or.inl q)
  · exact (wf_tb ..).mpr (Or.inr ⟨j, h1, by rw [Nat.testBit_two_pow_sub_one]; exact decide_eq_true h1, h3⟩)
theorem wn_move {U fm : Nat} {fr : Nat → Nat} {S set k : Nat} (h : frE U fm fr) (hU : ∀ b, U.testBit b = true → S.testBit b = false) (hk : k < fm) (hs : set.testBit k = false) (hh : hol (wfN fm fr S set ||| 1 <<< fr k) = hol (wfN fm fr S set)) : wnB fm fr S (set ||| 1 <<< k) = !wnB fm fr S set := by
  have hc := (hol_ad (h.1 k hk).1 (wf_no h hU hk hs)).mp hh
  have h1 := rk_join (h.1 k hk).1 hc
  have h2 := rk_mono (wf_sub (fm := fm) (fr := fr) (S := S) (set := set ||| 1 <<< k))
  rw [wf_put h hk, h1] at h2
  rw [wnB, wnB, wf_put h hk, h1]
  rcases Nat.mod_two_eq_zero_or_one (rk (wfN fm fr S (2 ^ fm - 1)) - rk (wfN fm fr S set)) with z | z
  · rw [decide_eq_false (by omega : ¬ (rk (wfN fm fr S (2 ^ fm - 1)) - rk (wfN fm fr S set)) % 2 = 1), decide_eq_true (by omega)]
    rfl
  · rw [decide_eq_true z, decide_eq_false (by omega)]
    rfl
theorem wn_ex {U fm : Nat} {fr : Nat → Nat} {S set : Nat} (h : frE U fm fr) (hU : ∀ b, U.testBit b = true → S.testBit b = false) : (∃ k, k < fm ∧ wnP fm fr S set k = true) ↔ wnB fm fr S set = true := by
  constructor
  · rintro ⟨k, hk, hp⟩
    rw [wnP, Bool.and_eq_true, Bool.and_eq_true, decide_eq_true_eq] at hp
    have hs : set.testBit k = false := by
      cases z : set.testBit k
      · rfl
      · rw [z] at hp; cases hp.1
    have hm := wn_move h hU hk hs hp.2.2
    rw [hm, Bool.not_not] at hp
    exact hp.2.1
  · intro hw
    have hcase : (∃ k, k < fm ∧ set.testBit k = false ∧ hol (wfN fm fr S set ||| 1 <<< fr k) = hol (wfN fm fr S set)) ∨ ∀ k, k < fm → set.testBit k = false → ¬ hol (wfN fm fr S set ||| 1 <<< fr k) = hol (wfN fm fr S set) := by
      by_cases q : ∃ k, k < fm ∧ set.testBit k = false ∧ hol (wfN fm fr S set ||| 1 <<< fr k) = hol (wfN fm fr S set)
      · exact Or.inl q
      · exact Or.inr (fun k h1 h2 h3 => q ⟨k, h1, h2, h3⟩)
    rcases hcase with ⟨k, h1, h2, h3⟩ | hno
    · refine ⟨k, h1, ?_⟩
      rw [wnP, wn_move h hU h1 h2 h3, h2, hw, decide_eq_true h3]
      rfl
    · exfalso
      have he : eqc (wfN fm fr S (2 ^ fm - 1)) (wfN fm fr S set) := by
        intro C
        refine ⟨fun q => clo_sub wf_sub q, fun q k hk hb => ?_⟩
        rcases (wf_tb ..).mp hb with z | ⟨j, h1, _, h3⟩
        · exact q k hk ((wf_tb ..).mpr (Or.inl z))
        · cases e : set.testBit j
          · have hc : (pcs (wfN fm fr S set) (ONEL.getD k 0)).testBit (OTHL.getD k 0) = true := by
              cases z : (pcs (wfN fm fr S set) (ONEL.getD k 0)).testBit (OTHL.getD k 0)
              · have := hno j h1 e
                rw [h3] at this
                exact absurd ((hol_ad hk (by rw [← h3]; exact wf_no h hU h1 e)).mpr z) this
              · rfl
            exact pc_tr q hc
          · exact q k hk ((wf_tb ..).mpr (Or.inr ⟨j, h1, e, h3⟩))
      rw [wnB, eqc_rk he, Nat.sub_self] at hw
      cases hw
/-- the lowest move that wins, of fm -/
def pfN (fm : Nat) (fr : Nat → Nat) (S set : Nat) : Nat := fstN (wnP fm fr S set) 0 fm
def pfI (fm : Nat) (fr : Nat → Nat) (S set : Nat) : Int32 := if pfN fm fr S set = fm then (-1) else nI (fr (pfN fm fr S set))
theorem fstN_f (P : Nat → Bool) : ∀ (n i q : Nat), i ≤ q → q < fstN P i n → P q = false
  | 0, i, q, h1, h2 => by
    have h2 : q < i := h2
    omega
  | n + 1, i, q, h1, h2 => by
    rw [fstN] at h2
    split at h2
    · omega
    · rename_i e
      rcases Nat.lt_or_ge i q with z | z
      · exact fstN_f P n (i + 1) q z h2
      · rw [show q = i by omega]
        cases hp : P i
        · rfl
        · exact absurd hp e
theorem fstN_eq {P : Nat → Bool} : ∀ {n i k : Nat}, i ≤ k → k < i + n → P k = true → (∀ q, i ≤ q → q < k → P q = false) → fstN P i n = k
  | 0, i, k, h1, h2, _, _ => by omega
  | n + 1, i, k, h1, h2, h3, h4 => by
    rw [fstN]
    by_cases e : i = k
    · rw [e, if_pos h3]
    · rw [h4 i (Nat.le_refl i) (by omega), if_neg (by decide)]
      exact fstN_eq (by omega) (by omega) h3 (fun q a b => h4 q (by omega) b)
theorem fstN_no {P : Nat → Bool} {n i : Nat} (h : ∀ q, i ≤ q → q < i + n → P q = false) : fstN P i n = i + n := by
  have h1 := fstN_le P n i
  rcases Nat.lt_or_ge (fstN P i n) (i + n) with z | z
  · have h2 := fstN_t P n i z
    rw [h _ h1.1 z] at h2
    cases h2
  · omega
theorem pf_le (fm : Nat) (fr : Nat → Nat) (S set : Nat) : pfN fm fr S set ≤ fm := by
  have h := fstN_le (wnP fm fr S set) fm 0
  have : pfN fm fr S set = fstN (wnP fm fr S set) 0 fm := rfl
  omega
theorem pf_wn {U fm : Nat} {fr : Nat → Nat} {S set : Nat} (h : frE U fm fr) (hU : ∀ b, U.testBit b = true → S.testBit b = false) : pfN fm fr S set = fm ↔ wnB fm fr S set = false := by
  have h1 := wn_ex (set := set) h hU
  constructor
  · intro e
    cases z : wnB fm fr S set
    · rfl
    · obtain ⟨k, hk, hp⟩ := h1.mpr z
      have := fstN_f (wnP fm fr S set) fm 0 k (Nat.zero_le k) (by have : pfN fm fr S set = fstN (wnP fm fr S set) 0 fm := rfl; omega)
      rw [hp] at this
      cases this
  · intro e
    have h2 := pf_le fm fr S set
    rcases Nat.lt_or_ge (pfN fm fr S set) fm with z | z
    · have h3 := fstN_t (wnP fm fr S set) fm 0 (by have : pfN fm fr S set = fstN (wnP fm fr S set) 0 fm := rfl; omega)
      rw [h1.mp ⟨_, z, h3⟩] at e
      cases e
    · omega
theorem pf_m1 {U fm : Nat} {fr : Nat → Nat} {S set : Nat} (h : frE U fm fr) (hU : ∀ b, U.testBit b = true → S.testBit b = false) : pfI fm fr S set = -1 ↔ wnB fm fr S set = false := by
  rw [pfI]
  split
  · rename_i e
    exact ⟨fun _ => (pf_wn h hU).mp e, fun _ => rfl⟩
  · rename_i e
    have hl := pf_le fm fr S set
    have := (h.1 _ (show pfN fm fr S set < fm by omega)).1
    exact ⟨fun q => absurd q (nI_nm1 (by omega)), fun q => absurd ((pf_wn h hU).mpr q) e⟩
theorem pf_game {S F fm : Nat} {fr : Nat → Nat} (hF : F < 1048576) (h : frE (andn F S) fm fr) : wnB fm fr S 0 = decide (jnN S F % 2 = 1) := by
  have hU : andn F S < 1048576 := andn_lt hF
  have h1 := jn_eq (S := S) hF
  rw [wnB, wf_all h hU, wf_0]
  have e : S ||| andn F S = S ||| F := by
    apply Nat.eq_of_testBit_eq
    intro b
    rw [Nat.testBit_or, Nat.testBit_or, andn_tb]
    cases S.testBit b <;> cases F.testBit b <;> rfl
  rw [e, ← h1, Nat.add_sub_cancel]
theorem pf_play {S F fm : Nat} {fr : Nat → Nat} (hF : F < 1048576) (h : frE (andn F S) fm fr) : pfI fm fr S 0 = if jnN S F % 2 = 1 then (if plN S F = 20 then (-1) else nI (plN S F)) else (-1) := by
  have hUS : ∀ b, (andn F S).testBit b = true → S.testBit b = false := fun b q => by
    rw [andn_tb] at q
    cases z : S.testBit b
    · rfl
    · rw [z, Bool.not_true, Bool.and_false] at q; cases q
  have hg := pf_game hF h
  by_cases ho : jnN S F % 2 = 1
  · rw [if_pos ho]
    rw [decide_eq_true ho] at hg
    have hn : pfN fm fr S 0 ≠ fm := fun q => by
      rw [(pf_wn h hUS).mp q] at hg; cases hg
    have hlt : pfN fm fr S 0 < fm := by have := pf_le fm fr S 0; omega
    have hp := fstN_t (wnP fm fr S 0) fm 0 (by have : pfN fm fr S 0 = fstN (wnP fm fr S 0) 0 fm := rfl; omega)
    have hp : wnP fm fr S 0 (pfN fm fr S 0) = true := hp
    rw [wnP, Bool.and_eq_true, Bool.and_eq_true, decide_eq_true_eq, wf_0] at hp
    have hb := h.1 _ hlt
    have e : plN S F = fr (pfN fm fr S 0) := by
      refine fstN_eq (Nat.zero_le _) (by omega) ?_ (fun q _ hq => ?_)
      · have := hb.2
        rw [andn_tb] at this
        rw [jnP, decide_eq_true hp.2.2, this]
        rfl
      · cases z : jnP S F q
        · rfl
        · exfalso
          rw [jnP, Bool.and_eq_true, decide_eq_true_eq] at z
          obtain ⟨j, hj, hj2⟩ := h.2.2 q (by omega) (by rw [andn_tb]; exact z.1)
          have hlt2 : j < pfN fm fr S 0 := by
            rcases Nat.lt_trichotomy j (pfN fm fr S 0) with y | y | y
            · exact y
            · rw [y] at hj2; omega
            · have := h.2.1 _ _ y hj; omega
          have h5 := fstN_f (wnP fm fr S 0) fm 0 j (Nat.zero_le _) hlt2
          have h6 : wnB fm fr S (0 ||| 1 <<< j) = !wnB fm fr S 0 := wn_move h hUS hj (Nat.zero_testBit j) (by rw [wf_0, hj2]; exact z.2)
          rw [wnP, h6, hg, wf_0, hj2, decide_eq_true z.2, Nat.zero_testBit] at h5
          cases h5
    rw [pfI, if_neg hn, e, if_neg (by omega)]
  · rw [if_neg ho]
    rw [decide_eq_false ho] at hg
    exact (pf_m1 h hUS).mpr hg
