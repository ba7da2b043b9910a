/-- a set of points that no stroke leaves -/
def clo (s C : Nat) : Prop := ∀ k, k < 20 → s.testBit k = true → C.testBit (ONEL.getD k 0) = C.testBit (OTHL.getD k 0)
def rdf (s k x : Nat) : Nat := if s.testBit k && (x.testBit (ONEL.getD k 0) || x.testBit (OTHL.getD k 0)) then x ||| (1 <<< ONEL.getD k 0 ||| 1 <<< OTHL.getD k 0) else x
theorem rd_itr (s q : Nat) : rd s q = itr (rdf s) q 20 := rfl
theorem rdf_mono {s k x b : Nat} (h : x.testBit b = true) : (rdf s k x).testBit b = true := by
  unfold rdf
  split
  · rw [Nat.testBit_or, h]; rfl
  · exact h
theorem itr_tb {f : Nat → Nat → Nat} (hf : ∀ k x b, x.testBit b = true → (f k x).testBit b = true) {a b : Nat} : ∀ j k, (itr f a k).testBit b = true → (itr f a (k + j)).testBit b = true
  | 0, _, h => h
  | j + 1, k, h => hf (k + j) _ b (itr_tb hf j k h)
theorem tb_1 (a b : Nat) : (1 <<< a).testBit b = decide (a = b) := by rw [shl1, Nat.testBit_two_pow]
theorem rd_clo {s q : Nat} (h : rd s q = q) : clo s q := by
  intro k hk hs
  have e : ∀ i, i ≤ 20 → itr (rdf s) q i = q := by
    intro i hi
    apply Nat.eq_of_testBit_eq
    intro b
    apply Bool.eq_iff_iff.mpr
    constructor
    · intro hb
      have h2 := itr_tb (fun k x b => rdf_mono) (20 - i) i hb
      rw [show i + (20 - i) = 20 by omega, ← rd_itr, h] at h2
      exact h2
    · intro hb
      have h2 := itr_tb (f := rdf s) (a := q) (fun k x b => rdf_mono) i 0 hb
      rw [Nat.zero_add] at h2
      exact h2
  have e2 : rdf s k (itr (rdf s) q k) = q := e (k + 1) hk
  rw [e k (by omega)] at e2
  cases h1 : q.testBit (ONEL.getD k 0) || q.testBit (OTHL.getD k 0)
  · rw [Bool.or_eq_false_iff] at h1
    rw [h1.1, h1.2]
  · rw [rdf, hs, h1, if_pos (show (true && true) = true from rfl)] at e2
    have a1 : q.testBit (ONEL.getD k 0) = true := by
      rw [← e2, Nat.testBit_or, Nat.testBit_or, tb_1, decide_eq_true rfl, Bool.true_or, Bool.or_true]
    have a2 : q.testBit (OTHL.getD k 0) = true := by
      rw [← e2, Nat.testBit_or, Nat.testBit_or, tb_1, tb_1, decide_eq_true (show OTHL.getD k 0 = OTHL.getD k 0 from rfl), Bool.or_true, Bool.or_true]
    rw [a1, a2]
def subT (a b : Nat) : Prop := ∀ k, a.testBit k = true → b.testBit k = true
theorem eq_sub {a b : Nat} (h1 : subT a b) (h2 : subT b a) : a = b := Nat.eq_of_testBit_eq (fun i => Bool.eq_iff_iff.mpr ⟨h1 i, h2 i⟩)
theorem rdf_sub {s C k x : Nat} (hc : clo s C) (hk : k < 20) (h : subT x C) : subT (rdf s k x) C := by
  intro b hb
  unfold rdf at hb
  split at hb
  · rename_i q
    rw [Bool.and_eq_true, Bool.or_eq_true] at q
    have hcc := hc k hk q.1
    have ho : C.testBit (ONEL.getD k 0) = true := by
      rcases q.2 with z | z
      · exact h _ z
      · rw [hcc]; exact h _ z
    rw [Nat.testBit_or, Nat.testBit_or, tb_1, tb_1, Bool.or_eq_true, Bool.or_eq_true, decide_eq_true_eq, decide_eq_true_eq] at hb
    rcases hb with z | z | z
    · exact h b z
    · rw [← z]; exact ho
    · rw [← z, ← hcc]; exact ho
  · exact h b hb
theorem clo_rd {s C q : Nat} (hc : clo s C) (h : subT q C) : subT (rd s q) C :=
  itr_invN (f := rdf s) (fun _ (x : Nat) => subT x C) 20 h (fun k x hk hx => rdf_sub hc hk hx) 20 (Nat.le_refl 20)
theorem pc_min {s C p : Nat} (hc : clo s C) (hp : C.testBit p = true) : subT (pcs s p) C := by
  have g : ∀ n, subT (rdn s p n) C := by
    intro n
    induction n with
    | zero =>
      intro b hb
      have hb : (1 <<< p).testBit b = true := hb
      rw [tb_1, decide_eq_true_eq] at hb
      rw [← hb]; exact hp
    | succ n ih => exact clo_rd hc ih
  exact g 8
theorem pc_self (s p : Nat) : (pcs s p).testBit p = true := by
  have g : ∀ n, (rdn s p n).testBit p = true := by
    intro n
    induction n with
    | zero =>
      show (1 <<< p).testBit p = true
      rw [tb_1, decide_eq_true rfl]
    | succ n ih => exact rd_ge _ _ _ ih
  exact g 8
theorem pc_clo {s p : Nat} (hp : p < 9) : clo s (pcs s p) := rd_clo (pcs_fix hp)
theorem clo_andn {s A B : Nat} (ha : clo s A) (hb : clo s B) : clo s (andn A B) := fun k hk hs => by rw [andn_tb, andn_tb, ha k hk hs, hb k hk hs]
theorem clo_or {s A B : Nat} (ha : clo s A) (hb : clo s B) : clo s (A ||| B) := fun k hk hs => by rw [Nat.testBit_or, Nat.testBit_or, ha k hk hs, hb k hk hs]
theorem clo_and {s A B : Nat} (ha : clo s A) (hb : clo s B) : clo s (A &&& B) := fun k hk hs => by rw [Nat.testBit_and, Nat.testBit_and, ha k hk hs, hb k hk hs]
theorem pc_sym {s p q : Nat} (hp : p < 9) (hq : q < 9) (h : (pcs s p).testBit q = true) : (pcs s q).testBit p = true := by
  cases e : (pcs s q).testBit p
  · have := pc_min (C := andn (pcs s p) (pcs s q)) (clo_andn (pc_clo hp) (pc_clo hq)) (by rw [andn_tb, pc_self, e]; rfl) q h
    rw [andn_tb, pc_self, Bool.not_true, Bool.and_false] at this
    cases this
  · rfl
theorem pc_eq {s p q : Nat} (hp : p < 9) (hq : q < 9) (h : (pcs s p).testBit q = true) : pcs s q = pcs s p :=
  eq_sub (pc_min (pc_clo hp) h) (pc_min (pc_clo hq) (pc_sym hp hq h))
theorem pc_9 {s p q : Nat} (hp : p < 9) (h : (pcs s p).testBit q = true) : q < 9 := by
  rcases Nat.lt_or_ge q 9 with z | z
  · exact z
  · rw [lt_tb (f := 9) (pcs_lt hp) z] at h
    cases h
theorem pts_tb {s b : Nat} : (pts s).testBit b = true ↔ ∃ k, k < 20 ∧ s.testBit k = true ∧ (ONEL.getD k 0 = b ∨ OTHL.getD k 0 = b) := by
  have g : ∀ n, (itr (fun k q => if s.testBit k then q ||| (1 <<< ONEL.getD k 0 ||| 1 <<< OTHL.getD k 0) else q) 0 n).testBit b = true ↔ ∃ k, k < n ∧ s.testBit k = true ∧ (ONEL.getD k 0 = b ∨ OTHL.getD k 0 = b) := by
    intro n
    induction n with
    | zero =>
      constructor
      · intro h
        rw [itr, Nat.zero_testBit] at h
        cases h
      · rintro ⟨k, hk, _⟩
        omega
    | succ n ih =>
      have key : ∀ x : Nat, (x.testBit b = true ↔ ∃ k, k < n ∧ s.testBit k = true ∧ (ONEL.getD k 0 = b ∨ OTHL.getD k 0 = b)) → ((if s.testBit n then x ||| (1 <<< ONEL.getD n 0 ||| 1 <<< OTHL.getD n 0) else x).testBit b = true ↔ ∃ k, k < n + 1 ∧ s.testBit k = true ∧ (ONEL.getD k 0 = b ∨ OTHL.getD k 0 = b)) := by
        intro x ih
        by_cases hs : s.testBit n = true
        · rw [if_pos hs, Nat.testBit_or, Nat.testBit_or, tb_1, tb_1, Bool.or_eq_true, Bool.or_eq_true, decide_eq_true_eq, decide_eq_true_eq, ih]
          constructor
          · rintro (⟨k, h1, h2⟩ | h)
            · exact ⟨k, by omega, h2⟩
            · exact ⟨n, by omega, hs, h⟩
          · rintro ⟨k, h1, h2⟩
            by_cases e : k = n
            · subst e; exact Or.inr h2.2
            · exact Or.inl ⟨k, by omega, h2⟩
        · rw [if_neg hs, ih]
          constructor
          · rintro ⟨k, h1, h2⟩
            exact ⟨k, by omega, h2⟩
          · rintro ⟨k, h1, h2⟩
            by_cases e : k = n
            · subst e; exact absurd h2.1 hs
            · exact ⟨k, by omega, h2⟩
      exact key _ ih
  exact g 20
theorem pc_iso {s p b : Nat} (h : (pts s).testBit p = false) (hb : (pcs s p).testBit b = true) : b = p := by
  have hc : clo s (1 <<< p) := by
    intro k hk hs
    have g1 : ¬ p = ONEL.getD k 0 := fun e => by
      rw [pts_tb.mpr ⟨k, hk, hs, Or.inl e.symm⟩] at h
      cases h
    have g2 : ¬ p = OTHL.getD k 0 := fun e => by
      rw [pts_tb.mpr ⟨k, hk, hs, Or.inr e.symm⟩] at h
      cases h
    rw [tb_1, tb_1, decide_eq_false g1, decide_eq_false g2]
  have := pc_min hc (by rw [tb_1, decide_eq_true rfl]) b hb
  rw [tb_1, decide_eq_true_eq] at this
  exact this.symm
/-- the lowest of its piece -/
def rpB (s p : Nat) : Bool := allN (fun q => !(pcs s q).testBit p) p
def smN (f : Nat → Nat) : Nat → Nat
  | 0 => 0
  | n + 1 => smN f n + f n
theorem smN_cong {f g : Nat → Nat} : ∀ {n : Nat}, (∀ k, k < n → f k = g k) → smN f n = smN g n
  | 0, _ => rfl
  | n + 1, h => by rw [smN, smN, smN_cong (fun k hk => h k (by omega)), h n (by omega)]
theorem smN_add {f g : Nat → Nat} : ∀ n : Nat, smN (fun k => f k + g k) n = smN f n + smN g n
  | 0 => rfl
  | n + 1 => by rw [smN, smN, smN, smN_add n]; omega
theorem smN_le {f g : Nat → Nat} : ∀ {n : Nat}, (∀ k, k < n → f k ≤ g k) → smN f n ≤ smN g n
  | 0, _ => Nat.le_refl 0
  | n + 1, h => by
    have := smN_le (n := n) (fun k hk => h k (by omega))
    have := h n (by omega)
    rw [smN, smN]
    omega
theorem smN_inc {f g : Nat → Nat} {c : Nat} (h1 : f c = g c + 1) (h2 : ∀ k, k ≠ c → f k = g k) : ∀ {n : Nat}, c < n → smN f n = smN g n + 1
  | 0, h => by omega
  | n + 1, h => by
    rcases Nat.lt_or_ge c n with z | z
    · rw [smN, smN, smN_inc h1 h2 z, h2 n (by omega)]
      omega
    · obtain rfl : n = c := by omega
      rw [smN, smN, smN_cong (fun k hk => h2 k (by omega)), h1]
      omega
theorem rp_f {s p : Nat} (h : rpB s p = false) : ∃ q, q < p ∧ (pcs s q).testBit p = true := by
  have g : ¬ ∀ q, q < p → (fun q => !(pcs s q).testBit p) q = true := fun q => by
    have := allN_iff.mpr q
    rw [show allN (fun q => !(pcs s q).testBit p) p = rpB s p from rfl, h] at this
    cases this
  have g2 : ∀ n, n ≤ p → (∃ q, q < n ∧ (pcs s q).testBit p = true) ∨ ∀ q, q < n → (!(pcs s q).testBit p) = true := by
    intro n
    induction n with
    | zero => exact fun _ => Or.inr (fun q hq => by omega)
    | succ n ih =>
      intro hn
      rcases ih (by omega) with ⟨q, h1, h2⟩ | h1
      · exact Or.inl ⟨q, by omega, h2⟩
      · cases e : (pcs s n).testBit p
        · refine Or.inr (fun q hq => ?_)
          rcases Nat.lt_or_ge q n with z | z
          · exact h1 q z
          · rw [show q = n by omega, e]; rfl
        · exact Or.inl ⟨n, by omega, e⟩
  rcases g2 p (Nat.le_refl p) with z | z
  · exact z
  · exact absurd z g
theorem rp_t {s p : Nat} (h : rpB s p = true) {q : Nat} (hq : q < p) : (pcs s q).testBit p = false := by
  have := allN_iff.mp h q hq
  cases e : (pcs s q).testBit p
  · rfl
  · rw [e] at this; cases this
theorem pk_it {s : Nat} (g : Nat → Nat) : ∀ i, i ≤ 9 → (∀ b, (itr (fun p (x : Nat × Nat) => if x.1.testBit p then (andn x.1 (pcs s p), x.2 + g p) else x) (pts s, 0) i).1.testBit b = ((pts s).testBit b && allN (fun q => !(pcs s q).testBit b) i)) ∧ (itr (fun p (x : Nat × Nat) => if x.1.testBit p then (andn x.1 (pcs s p), x.2 + g p) else x) (pts s, 0) i).2 = smN (fun p => if (pts s).testBit p && rpB s p then g p else 0) i := by
  intro i
  induction i with
  | zero =>
    intro _
    exact ⟨fun b => by rw [allN, Bool.and_true]; rfl, rfl⟩
  | succ i ih =>
    intro hi
    obtain ⟨h1, h2⟩ := ih (by omega)
    have key : ∀ x : Nat × Nat, (∀ b, x.1.testBit b = ((pts s).testBit b && allN (fun q => !(pcs s q).testBit b) i)) → x.2 = smN (fun p => if (pts s).testBit p && rpB s p then g p else 0) i → (∀ b, (if x.1.testBit i then (andn x.1 (pcs s i), x.2 + g i) else x).1.testBit b = ((pts s).testBit b && allN (fun q => !(pcs s q).testBit b) (i + 1))) ∧ (if x.1.testBit i then (andn x.1 (pcs s i), x.2 + g i) else x).2 = smN (fun p => if (pts s).testBit p && rpB s p then g p else 0) (i + 1) := by
      intro x h1 h2
      have hi1 : x.1.testBit i = ((pts s).testBit i && rpB s i) := h1 i
      by_cases e : x.1.testBit i = true
      · rw [if_pos e]
        refine ⟨fun b => ?_, ?_⟩
        · show (andn x.1 (pcs s i)).testBit b = _
          rw [andn_tb, h1 b, allN, Bool.and_assoc]
        · show x.2 + g i = _
          rw [smN, ← hi1, if_pos e, h2]
      · rw [if_neg e]
        refine ⟨fun b => ?_, ?_⟩
        · rw [h1 b, allN]
          cases hp : (pts s).testBit b
          · rfl
          · cases ha : allN (fun q => !(pcs s q).testBit b) i
            · rfl
            · cases hc : (pcs s i).testBit b
              · rfl
              · exfalso
                cases hpi : (pts s).testBit i
                · have := pc_iso hpi hc
                  rw [this, hpi] at hp
                  cases hp
                · have hr : rpB s i = false := by
                    cases hr : rpB s i
                    · rfl
                    · exact absurd (by rw [hi1, hpi, hr]; rfl) e
                  obtain ⟨q, hq, hq2⟩ := rp_f hr
                  have h3 := pc_eq (by omega) (by omega) hq2
                  rw [h3] at hc
                  have := allN_iff.mp ha q hq
                  rw [hc] at this
                  cases this
        · rw [smN, ← hi1, if_neg e, h2]
          rfl
    exact key _ h1 h2
theorem pic_eq (s : Nat) : pic s = smN (fun p => if (pts s).testBit p && rpB s p then 1 else 0) 9 := (pk_it (fun _ => 1) 9 (Nat.le_refl 9)).2
theorem pens_eq (s : Nat) : pens s = smN (fun p => if (pts s).testBit p && rpB s p then (if odd s &&& pcs s p = 0 then 1 else bc (odd s &&& pcs s p) / 2) else 0) 9 := (pk_it (fun p => if odd s &&& pcs s p = 0 then 1 else bc (odd s &&& pcs s p) / 2) 9 (Nat.le_refl 9)).2
theorem pcn_sm (x : Nat) : ∀ f, pcn f x = smN (fun k => if x.testBit k then 1 else 0) f
  | 0 => rfl
  | f + 1 => by rw [pcn_last, smN, pcn_sm x f]
theorem bc_9 {x : Nat} (h : x < 512) : bc x = smN (fun k => if x.testBit k then 1 else 0) 9 := by
  have g : ∀ j, smN (fun k => if x.testBit k then 1 else 0) (9 + j) = smN (fun k => if x.testBit k then 1 else 0) 9 := by
    intro j
    induction j with
    | zero => rfl
    | succ j ih =>
      rw [← Nat.add_assoc, smN, ih, lt_tb (f := 9) h (by omega)]
      rfl
  rw [show bc x = pcn 32 x from rfl, pcn_sm x 32]
  exact g 23
/-- how many points aren't the lowest of their piece -/
def rk (s : Nat) : Nat := smN (fun p => if rpB s p then 0 else 1) 9
theorem rk_pts {s p : Nat} (hp : p < 9) (h : rpB s p = false) : (pts s).testBit p = true := by
  obtain ⟨q, hq, h2⟩ := rp_f h
  cases e : (pts s).testBit p
  · have := pc_iso e (pc_sym (by omega) hp h2)
    omega
  · rfl
theorem pic_rk (s : Nat) : pic s + rk s = bc (pts s) := by
  rw [pic_eq, rk, ← smN_add, bc_9 (pts_lt s)]
  refine smN_cong (fun p hp => ?_)
  cases h : rpB s p
  · rw [rk_pts hp h]
    rfl
  · cases (pts s).testBit p <;> rfl
theorem rk_le (s : Nat) : rk s ≤ 9 := by
  have := smN_le (f := fun p => if rpB s p then 0 else 1) (g := fun _ => 1) (n := 9) (fun k _ => by
    show (if rpB s k then 0 else 1) ≤ 1
    split <;> omega)
  exact this
theorem clo_ad {s k C : Nat} (hk : k < 20) : clo (s ||| 1 <<< k) C ↔ clo s C ∧ C.testBit (ONEL.getD k 0) = C.testBit (OTHL.getD k 0) := by
  constructor
  · intro h
    refine ⟨fun j hj hs => h j hj (by rw [Nat.testBit_or, hs]; rfl), h k hk (by rw [Nat.testBit_or, tb_1, decide_eq_true rfl, Bool.or_true])⟩
  · rintro ⟨h1, h2⟩ j hj hs
    rw [Nat.testBit_or, tb_1, Bool.or_eq_true, decide_eq_true_eq] at hs
    rcases hs with z | z
    · exact h1 j hj z
    · rw [← z]; exact h2
theorem clo_sub {s t C : Nat} (h : subT s t) (hc : clo t C) : clo s C := fun k hk hs => hc k hk (h k hs)
def eqc (s t : Nat) : Prop := ∀ C, clo s C ↔ clo t C
theorem eqc_pcs {s t p : Nat} (hp : p < 9) (h : eqc s t) : pcs s p = pcs t p :=
  eq_sub (pc_min ((h _).mpr (pc_clo hp)) (pc_self t p)) (pc_min ((h _).mp (pc_clo hp)) (pc_self s p))
theorem rp_cong {s t p : Nat} (h : ∀ q, q < p → (pcs s q).testBit p = (pcs t q).testBit p) : rpB s p = rpB t p := by
  apply Bool.eq_iff_iff.mpr
  rw [rpB, rpB, allN_iff, allN_iff]
  constructor
  · intro g q hq
    rw [← h q hq]; exact g q hq
  · intro g q hq
    rw [h q hq]; exact g q hq
theorem eqc_rk {s t : Nat} (h : eqc s t) : rk s = rk t :=
  smN_cong (fun p hp => by rw [rp_cong (s := s) (t := t) (p := p) (fun q hq => by rw [eqc_pcs (by omega) h])])
theorem cn_eqc {s k : Nat} (hk : k < 20) (h : (pcs s (ONEL.getD k 0)).testBit (OTHL.getD k 0) = true) : eqc (s ||| 1 <<< k) s := by
  intro C
  rw [clo_ad hk]
  refine ⟨fun z => z.1, fun z => ⟨z, Bool.eq_iff_iff.mpr ⟨fun q => pc_min z q _ h, fun q => pc_min z q _ (pc_sym one_lt oth_lt h)⟩⟩⟩
theorem pc_tr {s k C : Nat} (hc : clo s C) (h : (pcs s (ONEL.getD k 0)).testBit (OTHL.getD k 0) = true) : C.testBit (ONEL.getD k 0) = C.testBit (OTHL.getD k 0) :=
  Bool.eq_iff_iff.mpr ⟨fun q => pc_min hc q _ h, fun q => pc_min hc q _ (pc_sym one_lt oth_lt h)⟩
theorem least_ex {P : Nat → Bool} : ∀ n, P n = true → ∃ r, r ≤ n ∧ P r = true ∧ ∀ q, q < r → P q = false := by
  intro n
  induction n using Nat.strongRecOn with
  | ind n ih =>
    intro h
    by_cases g : ∃ q, q < n ∧ P q = true
    · obtain ⟨q, h1, h2⟩ := g
      obtain ⟨r, h3, h4, h5⟩ := ih q h1 h2
      exact ⟨r, by omega, h4, h5⟩
    · refine ⟨n, Nat.le_refl n, h, fun q hq => ?_⟩
      cases e : P q
      · rfl
      · exact absurd ⟨q, hq, e⟩ g
theorem rk_mrg {s t a b ra rb : Nat} (ha : a < 9) (hb : b < 9) (hA : ∀ p, p < 9 → ∀ q, (pcs t p).testBit q = if (pcs s a ||| pcs s b).testBit p then (pcs s a ||| pcs s b).testBit q else (pcs s p).testBit q)
    (h1 : (pcs s a).testBit ra = true) (h2 : ∀ q, q < ra → (pcs s a).testBit q = false) (h3 : (pcs s b).testBit rb = true) (h4 : ∀ q, q < rb → (pcs s b).testBit q = false) (hlt : ra < rb) : rk t = rk s + 1 := by
  have hrb := pc_9 hb h3
  have hra := pc_9 ha h1
  have hrep : rpB s rb = true := by
    cases e : rpB s rb
    · obtain ⟨q, hq, h5⟩ := rp_f e
      have h6 := pc_sym (by omega) hrb h5
      rw [pc_eq hb hrb h3, h4 q hq] at h6
      cases h6
    · rfl
  have hU : ∀ p, (pcs s a ||| pcs s b).testBit p = ((pcs s a).testBit p || (pcs s b).testBit p) := fun p => Nat.testBit_or ..
  have key : ∀ p, p < 9 → rpB t p = (rpB s p && !decide (p = rb)) := by
    intro p hp
    apply Bool.eq_iff_iff.mpr
    rw [Bool.and_eq_true]
    constructor
    · intro h
      constructor
      · refine allN_iff.mpr (fun q hq => ?_)
        have h5 := rp_t h hq
        rw [hA q (by omega) p] at h5
        cases e : (pcs s q).testBit p
        · rfl
        · exfalso
          split at h5
          · rename_i hu
            rw [hU, Bool.or_eq_true] at hu
            rw [hU, Bool.or_eq_false_iff] at h5
            rcases hu with z | z
            · have := pc_min (pc_clo ha) z p e
              rw [h5.1] at this; cases this
            · have := pc_min (pc_clo hb) z p e
              rw [h5.2] at this; cases this
          · rw [e] at h5; cases h5
      · cases e : decide (p = rb)
        · rfl
        · rw [decide_eq_true_eq] at e
          subst e
          have h5 := rp_t h hlt
          rw [hA ra hra p, if_pos (by rw [hU, h1]; rfl), hU, h3, Bool.or_true] at h5
          cases h5
    · rintro ⟨h, hn⟩
      have hn : ¬ p = rb := by
        intro e
        rw [decide_eq_true e] at hn
        cases hn
      refine allN_iff.mpr (fun q hq => ?_)
      have h5 := rp_t h hq
      show (!(pcs t q).testBit p) = true
      cases e : (pcs t q).testBit p
      · rfl
      · exfalso
        rw [hA q (by omega) p] at e
        split at e
        · rename_i hu
          rw [hU, Bool.or_eq_true] at hu e
          rcases e with z | z
          · -- p is the lowest of a's piece
            have h6 : ra = p := by
              rcases Nat.lt_trichotomy ra p with y | y | y
              · have := rp_t h y
                rw [pc_eq ha hra h1, z] at this
                cases this
              · exact y
              · rw [h2 p y] at z; cases z
            rcases hu with y | y
            · rw [h2 q (by omega)] at y; cases y
            · rw [h4 q (by omega)] at y; cases y
          · have h6 : rb = p := by
              rcases Nat.lt_trichotomy rb p with y | y | y
              · have := rp_t h y
                rw [pc_eq hb hrb h3, z] at this
                cases this
              · exact y
              · rw [h4 p y] at z; cases z
            exact hn h6.symm
        · rw [h5] at e; cases e
  rw [rk, rk, smN_cong (g := fun p => if p < 9 then (if rpB t p then 0 else 1) else (if rpB s p then 0 else 1)) (fun p hp => by rw [if_pos hp])]
  refine smN_inc (c := rb) ?_ (fun p hp => ?_) hrb
  · rw [if_pos hrb, key rb hrb, hrep, decide_eq_true rfl]
    rfl
  · by_cases h9 : p < 9
    · rw [if_pos h9, key p h9, decide_eq_false hp, Bool.not_false, Bool.and_true]
    · rw [if_neg h9]
theorem rk_join {s k : Nat} (hk : k < 20) (h : (pcs s (ONEL.getD k 0)).testBit (OTHL.getD k 0) = false) : rk (s ||| 1 <<< k) = rk s + 1 := by
  have ha : ONEL.getD k 0 < 9 := one_lt
  have hb : OTHL.getD k 0 < 9 := oth_lt
  generalize ea : ONEL.getD k 0 = a at ha h
  generalize eb : OTHL.getD k 0 = b at hb h
  have hU : ∀ p, (pcs s a ||| pcs s b).testBit p = ((pcs s a).testBit p || (pcs s b).testBit p) := fun p => Nat.testBit_or ..
  have cU : clo (s ||| 1 <<< k) (pcs s a ||| pcs s b) := (clo_ad hk).mpr ⟨clo_or (pc_clo ha) (pc_clo hb), by rw [ea, eb, hU, hU, pc_self, pc_self, Bool.true_or, Bool.or_true]⟩
  have hs : subT s (s ||| 1 <<< k) := fun j hj => by rw [Nat.testBit_or, hj]; rfl
  have hA : ∀ p, p < 9 → ∀ q, (pcs (s ||| 1 <<< k) p).testBit q = if (pcs s a ||| pcs s b).testBit p then (pcs s a ||| pcs s b).testBit q else (pcs s p).testBit q := by
    intro p hp q
    have c1 := (clo_ad hk).mp (pc_clo (s := s ||| 1 <<< k) hp)
    rw [ea, eb] at c1
    by_cases hu : (pcs s a ||| pcs s b).testBit p = true
    · rw [if_pos hu]
      have hin : (pcs (s ||| 1 <<< k) p).testBit a = true ∧ (pcs (s ||| 1 <<< k) p).testBit b = true := by
        rw [hU, Bool.or_eq_true] at hu
        rcases hu with z | z
        · have := pc_min c1.1 (pc_self _ p) _ (pc_sym ha hp z)
          exact ⟨this, by rw [← c1.2]; exact this⟩
        · have := pc_min c1.1 (pc_self _ p) _ (pc_sym hb hp z)
          exact ⟨by rw [c1.2]; exact this, this⟩
      apply Bool.eq_iff_iff.mpr
      constructor
      · exact pc_min cU hu q
      · intro z
        rw [hU, Bool.or_eq_true] at z
        rcases z with z | z
        · exact pc_min c1.1 hin.1 q z
        · exact pc_min c1.1 hin.2 q z
    · rw [if_neg hu]
      have hu1 : (pcs s p).testBit a = false := by
        cases e : (pcs s p).testBit a
        · rfl
        · exact absurd (by rw [hU, pc_sym hp ha e]; rfl) hu
      have hu2 : (pcs s p).testBit b = false := by
        cases e : (pcs s p).testBit b
        · rfl
        · exact absurd (by rw [hU, pc_sym hp hb e, Bool.or_true]) hu
      have c2 : clo (s ||| 1 <<< k) (pcs s p) := (clo_ad hk).mpr ⟨pc_clo hp, by rw [ea, eb, hu1, hu2]⟩
      apply Bool.eq_iff_iff.mpr
      exact ⟨pc_min c2 (pc_self s p) q, pc_min c1.1 (pc_self _ p) q⟩
  obtain ⟨ra, g1, g2, g3⟩ := least_ex (P := fun q => (pcs s a).testBit q) a (pc_self s a)
  obtain ⟨rb, f1, f2, f3⟩ := least_ex (P := fun q => (pcs s b).testBit q) b (pc_self s b)
  rcases Nat.lt_trichotomy ra rb with z | z | z
  · exact rk_mrg ha hb hA g2 g3 f2 f3 z
  · subst z
    have h1 := pc_eq ha (pc_9 ha g2) g2
    have h2 := pc_eq hb (pc_9 ha g2) f2
    have h3 := pc_self s b
    rw [← h2, h1, h] at h3
    cases h3
  · refine rk_mrg hb ha (fun p hp q => ?_) f2 f3 g2 g3 z
    rw [hA p hp q, Nat.or_comm (pcs s b)]
theorem bc_ad {s k : Nat} (hk : k < 20) (h : s.testBit k = false) : bc (s ||| 1 <<< k) = bc s + 1 := pcn_or2 32 k s (by omega) h
theorem hol_ad {s k : Nat} (hk : k < 20) (h : s.testBit k = false) : (hol (s ||| 1 <<< k) = hol s) ↔ (pcs s (ONEL.getD k 0)).testBit (OTHL.getD k 0) = false := by
  have g : ∀ x, hol x + nI (rk x) = nI (bc x) := by
    intro x
    rw [hol, ← pic_rk x]
    show nI (bc x + pic x) - nI (pic x + rk x) + nI (rk x) = nI (bc x)
    rw [← nI_add, ← nI_add, Int32.sub_eq_add_neg, Int32.neg_add, Int32.sub_eq_add_neg]
    simp only [Int32.add_assoc]
    rw [Int32.add_left_neg, Int32.add_zero, Int32.add_right_neg, Int32.add_zero]
  have h1 := g s
  have h2 := g (s ||| 1 <<< k)
  rw [bc_ad hk h] at h2
  have hb : bc s ≤ 32 := bc_le s
  have hr := rk_le s
  constructor
  · intro e
    cases z : (pcs s (ONEL.getD k 0)).testBit (OTHL.getD k 0)
    · rfl
    · rw [e, eqc_rk (cn_eqc hk z), h1] at h2
      have := (nI_inj (by omega) (by omega)).mp h2
      omega
  · intro e
    rw [rk_join hk e, ← nI_add, ← nI_add, ← h1] at h2
    have h3 : hol (s ||| 1 <<< k) + (nI (rk s) + nI 1) = hol s + (nI (rk s) + nI 1) := by rw [h2, Int32.add_assoc]
    exact (Int32.add_left_inj _).mp h3
