theorem smN_ge {f : Nat → Nat} {a : Nat} : ∀ {n : Nat}, a < n → f a ≤ smN f n
  | 0, h => by omega
  | n + 1, h => by
    rw [smN]
    rcases Nat.lt_or_ge a n with z | z
    · have := smN_ge (f := f) z; omega
    · rw [show a = n by omega]; omega
theorem smN_two {f : Nat → Nat} {a b : Nat} (hab : a < b) : ∀ {n : Nat}, b < n → f a + f b ≤ smN f n
  | 0, h => by omega
  | n + 1, h => by
    rw [smN]
    rcases Nat.lt_or_ge b n with z | z
    · have := smN_two (f := f) hab z; omega
    · obtain rfl : b = n := by omega
      have := smN_ge (f := f) hab
      omega
theorem smN_0 {f : Nat → Nat} : ∀ {n : Nat}, (∀ k, k < n → f k = 0) → smN f n = 0
  | 0, _ => rfl
  | n + 1, h => by rw [smN, smN_0 (fun k hk => h k (by omega)), h n (by omega)]
theorem smN_one {f : Nat → Nat} {r : Nat} : ∀ {n : Nat}, (∀ k, k < n → k ≠ r → f k = 0) → r < n → smN f n = f r
  | 0, _, h => by omega
  | n + 1, h, hr => by
    rw [smN]
    rcases Nat.lt_or_ge r n with z | z
    · rw [smN_one (fun k hk => h k (by omega)) z, h n (by omega) (by omega), Nat.add_zero]
    · obtain rfl : r = n := by omega
      rw [smN_0 (fun k hk => h k (by omega) (by omega)), Nat.zero_add]
theorem odd_pts {s p : Nat} (h : (odd s).testBit p = true) : (pts s).testBit p = true := by
  cases e : (pts s).testBit p
  · exfalso
    have hp : p < 9 := by
      rcases Nat.lt_or_ge p 9 with z | z
      · exact z
      · rw [lt_tb (f := 9) (odd_lt s) z] at h; cases h
    rw [odd_tb s p hp, decide_eq_true_eq] at h
    have g : stA s p = 0 := itr_invN (f := fun k c => c + if s.testBit k && (ONEL.getD k 0 == p || OTHL.getD k 0 == p) then 1 else 0) (fun _ (x : Nat) => x = 0) 20 rfl (fun k x hk hx => by
      show x + (if _ then _ else _) = 0
      rw [hx]
      cases hs : s.testBit k
      · rfl
      · cases h1 : (ONEL.getD k 0 == p)
        · cases h2 : (OTHL.getD k 0 == p)
          · rfl
          · rw [pts_tb.mpr ⟨k, hk, hs, Or.inr (beq_iff_eq.mp h2)⟩] at e; cases e
        · rw [pts_tb.mpr ⟨k, hk, hs, Or.inl (beq_iff_eq.mp h1)⟩] at e; cases e) 20 (Nat.le_refl 20)
    rw [g] at h
    cases h
  · rfl
theorem pts_9 {s b : Nat} (h : (pts s).testBit b = true) : b < 9 := by
  rcases Nat.lt_or_ge b 9 with z | z
  · exact z
  · rw [lt_tb (f := 9) (pts_lt s) z] at h; cases h
theorem root_ex {s b : Nat} (hb : (pts s).testBit b = true) : ∃ r, r < 9 ∧ (pcs s b).testBit r = true ∧ (pts s).testBit r = true ∧ rpB s r = true := by
  have hb9 := pts_9 hb
  obtain ⟨r, h1, h2, h3⟩ := least_ex (P := fun q => (pcs s b).testBit q) b (pc_self s b)
  have hr := pc_9 hb9 h2
  refine ⟨r, hr, h2, ?_, ?_⟩
  · cases e : (pts s).testBit r
    · have := pc_iso e (pc_sym hb9 hr h2)
      rw [← this, hb] at e
      cases e
    · rfl
  · cases e : rpB s r
    · obtain ⟨q, hq, h4⟩ := rp_f e
      have h5 := pc_sym (by omega) hr h4
      rw [pc_eq hb9 hr h2] at h5
      have := h3 q hq
      rw [h5] at this
      cases this
    · rfl
def pnF (s p : Nat) : Nat := if (pts s).testBit p && rpB s p then (if odd s &&& pcs s p = 0 then 1 else bc (odd s &&& pcs s p) / 2) else 0
theorem pens_sm (s : Nat) : pens s = smN (pnF s) 9 := pens_eq s
theorem pnF_r {s r : Nat} (hr : r < 9) (h1 : (pts s).testBit r = true) (h2 : rpB s r = true) : pnF s r = max 1 (bc (odd s &&& pcs s r) / 2) := by
  rw [pnF, h1, h2, pens_one hr]; rfl
theorem sub_and {a b : Nat} (h : subT a b) : a &&& b = a := sub_tb.mpr h
theorem po_clo {s C k : Nat} (hc : clo s C) (hk : k < 20) (hb : s.testBit k = true) : POL.getD k 0 &&& C = 0 ∨ POL.getD k 0 &&& C = POL.getD k 0 := by
  have h := hc k hk hb
  cases e : C.testBit (ONEL.getD k 0)
  · left
    rw [e] at h
    exact (po_and k hk C).mpr (by rw [e, ← h]; rfl)
  · right
    rw [e] at h
    refine sub_and (fun i hi => ?_)
    rw [po_eq k hk, Nat.testBit_or, tb_1, tb_1, Bool.or_eq_true, decide_eq_true_eq, decide_eq_true_eq] at hi
    rcases hi with z | z
    · rw [← z]; exact e
    · rw [← z]; exact h.symm
theorem odd_clo {s C : Nat} (hc : clo s C) : bc (odd s &&& C) % 2 = 0 := by
  rw [← odx_eq s]
  exact itr_invN (f := fun k q => if s.testBit k then q ^^^ POL.getD k 0 else q) (fun _ (x : Nat) => pcn 32 (x &&& C) % 2 = 0) 20 (by rw [Nat.zero_and]; exact congrArg (· % 2) (pcn_0 32)) (fun k x hk hx => oe_step hk hx (fun hb => po_clo hc hk hb)) 20 (Nat.le_refl 20)
theorem odd_ev (s : Nat) : bc (odd s) % 2 = 0 := by
  have h := odd_clo (s := s) (C := 511) (fun k hk _ => by
    have g : ∀ b, b < 9 → (511 : Nat).testBit b = true := by decide
    rw [g _ one_lt, g _ oth_lt])
  rw [sub_and (fun b hb => by
    have g : ∀ b, b < 9 → (511 : Nat).testBit b = true := by decide
    exact g b (by
      rcases Nat.lt_or_ge b 9 with z | z
      · exact z
      · rw [lt_tb (f := 9) (odd_lt s) z] at hb; cases hb))] at h
  exact h
theorem line_f {s p : Nat} (hp : p < 9) (h0 : s ≠ 0) (h : isLine s p = true) : subT (pts s) (pcs s p) ∧ bc (odd s) ≤ 2 ∧ (pts s).testBit p = true ∧ (odd s = 0 ∨ (odd s).testBit p = true) := by
  rw [isLine, if_neg h0, Bool.and_eq_true, Bool.and_eq_true, Bool.or_eq_true, decide_eq_true_eq, decide_eq_true_eq] at h
  obtain ⟨h1, h2, h3⟩ := h
  rw [pens_sm] at h2
  obtain ⟨r, r1, r2, r3, r4⟩ := root_ex h1
  have fr := pnF_r r1 r3 r4
  have hsub : subT (pts s) (pcs s p) := by
    intro b hb
    have hb9 := pts_9 hb
    obtain ⟨u, u1, u2, u3, u4⟩ := root_ex hb
    have fu := pnF_r u1 u3 u4
    have e : r = u := by
      rcases Nat.lt_trichotomy r u with z | z | z
      · have := smN_two (f := pnF s) z u1; omega
      · exact z
      · have := smN_two (f := pnF s) z r1; omega
    rw [← pc_eq hp r1 r2, e, pc_eq hb9 u1 u2]
    exact pc_self s b
  refine ⟨hsub, ?_, h1, h3⟩
  have ho : odd s &&& pcs s r = odd s := sub_and (fun b hb => by rw [pc_eq hp r1 r2]; exact hsub b (odd_pts hb))
  rw [ho] at fr
  have := smN_ge (f := pnF s) r1
  have := odd_ev s
  omega
theorem line_b {s q : Nat} (hq : q < 9) (h1 : (pts s).testBit q = true) (h2 : pcs s q = pts s) (h3 : bc (odd s) ≤ 2) (h4 : odd s = 0 ∨ (odd s).testBit q = true) : isLine s q = true := by
  rw [isLine]
  split
  · rfl
  · have hp : pens s = 1 := by
      rw [pens_sm]
      obtain ⟨r, r1, r2, r3, r4⟩ := root_ex h1
      rw [smN_one (r := r) (fun k hk hkr => ?_) r1]
      · rw [pnF_r r1 r3 r4]
        have ho : bc (odd s &&& pcs s r) ≤ bc (odd s) := pcn_sub 32 _ _ (fun b hb => by rw [Nat.testBit_and, Bool.and_eq_true] at hb; exact hb.1)
        omega
      · rw [pnF]
        cases e : (pts s).testBit k
        · rfl
        · cases e2 : rpB s k
          · rfl
          · exfalso
            have hk2 : (pcs s q).testBit k = true := by rw [h2]; exact e
            have e3 : (pcs s r).testBit k = true := by rw [pc_eq hq r1 r2]; exact hk2
            rcases Nat.lt_trichotomy r k with z | z | z
            · have := rp_t e2 z; rw [e3] at this; cases this
            · exact hkr z.symm
            · have := rp_t r4 z; rw [pc_sym r1 hk e3] at this; cases this
    rw [h1, decide_eq_true hp]
    rcases h4 with z | z
    · rw [decide_eq_true z]; rfl
    · rw [z, Bool.or_true]; rfl
theorem rm_tb (s k j : Nat) : (andn s (1 <<< k)).testBit j = (s.testBit j && !decide (k = j)) := by rw [andn_tb, tb_1]
theorem rm_ad {s k : Nat} (h : s.testBit k = true) : andn s (1 <<< k) ||| 1 <<< k = s := by
  apply Nat.eq_of_testBit_eq
  intro j
  rw [Nat.testBit_or, rm_tb, tb_1]
  by_cases e : k = j
  · rw [← e, h, decide_eq_true rfl]; rfl
  · rw [decide_eq_false e, Bool.not_false, Bool.and_true, Bool.or_false]
theorem odd_rm {s k : Nat} (hk : k < 20) (h : s.testBit k = true) : odd (andn s (1 <<< k)) = odd s ^^^ POL.getD k 0 := by
  rw [← odx_eq, ← odx_eq s]
  have g : ∀ n, n ≤ 20 → itr (fun j q => if (andn s (1 <<< k)).testBit j then q ^^^ POL.getD j 0 else q) 0 n = if k < n then itr (fun j q => if s.testBit j then q ^^^ POL.getD j 0 else q) 0 n ^^^ POL.getD k 0 else itr (fun j q => if s.testBit j then q ^^^ POL.getD j 0 else q) 0 n := by
    intro n
    induction n with
    | zero => intro _; rw [if_neg (by omega)]; rfl
    | succ n ih =>
      intro hn
      have e := ih (by omega)
      have key : ∀ x y : Nat, x = (if k < n then y ^^^ POL.getD k 0 else y) → (if (andn s (1 <<< k)).testBit n then x ^^^ POL.getD n 0 else x) = if k < n + 1 then (if s.testBit n then y ^^^ POL.getD n 0 else y) ^^^ POL.getD k 0 else (if s.testBit n then y ^^^ POL.getD n 0 else y) := by
        intro x y e
        rw [rm_tb]
        by_cases h1 : k = n
        · subst h1
          rw [if_neg (Nat.lt_irrefl k)] at e
          rw [decide_eq_true rfl, h, if_pos (Nat.lt_succ_self k), if_pos rfl, Nat.xor_assoc, Nat.xor_self, Nat.xor_zero, e]
          rfl
        · rw [decide_eq_false h1, Bool.not_false, Bool.and_true]
          rcases Nat.lt_or_ge k n with z | z
          · rw [if_pos z] at e
            rw [if_pos (show k < n + 1 by omega), e]
            cases s.testBit n
            · rfl
            · rw [if_pos rfl, if_pos rfl, Nat.xor_assoc, Nat.xor_assoc, Nat.xor_comm (POL.getD k 0)]
          · rw [if_neg (by omega)] at e
            rw [if_neg (show ¬ k < n + 1 by omega), e]
      exact key _ _ e
  have := g 20 (Nat.le_refl 20)
  rw [if_pos hk] at this
  exact this
/-- stroke k goes from p to q -/
def edg (k p q : Nat) : Bool := (ONEL.getD k 0 == p && OTHL.getD k 0 == q) || (ONEL.getD k 0 == q && OTHL.getD k 0 == p)
theorem edg_sof : ∀ p, p < 9 → ∀ q, q < 9 → ∀ k, k < 20 → (edg k p q = true ↔ SOFL.getD (9 * p + q) 0 = k) := by decide +kernel
theorem edg_ne : ∀ p, p < 9 → ∀ k, k < 20 → edg k p p = false := by decide +kernel
theorem edg_C {k p q C : Nat} (h : edg k p q = true) : (C.testBit (ONEL.getD k 0) = C.testBit (OTHL.getD k 0)) ↔ C.testBit p = C.testBit q := by
  rw [edg, Bool.or_eq_true, Bool.and_eq_true, Bool.and_eq_true, beq_iff_eq, beq_iff_eq, beq_iff_eq, beq_iff_eq] at h
  rcases h with ⟨h1, h2⟩ | ⟨h1, h2⟩
  · rw [h1, h2]
  · rw [h1, h2]; exact ⟨Eq.symm, Eq.symm⟩
theorem edg_9 {k p q : Nat} (h : edg k p q = true) : p < 9 ∧ q < 9 := by
  have h1 : ONEL.getD k 0 < 9 := one_lt
  have h2 : OTHL.getD k 0 < 9 := oth_lt
  rw [edg, Bool.or_eq_true, Bool.and_eq_true, Bool.and_eq_true, beq_iff_eq, beq_iff_eq, beq_iff_eq, beq_iff_eq] at h
  rcases h with ⟨h3, h4⟩ | ⟨h3, h4⟩
  · rw [h3] at h1; rw [h4] at h2; exact ⟨h1, h2⟩
  · rw [h3] at h1; rw [h4] at h2; exact ⟨h2, h1⟩
theorem clo_rm {s k p q C : Nat} (hk : k < 20) (h : s.testBit k = true) (he : edg k p q = true) : clo s C ↔ clo (andn s (1 <<< k)) C ∧ C.testBit p = C.testBit q := by
  have := clo_ad (s := andn s (1 <<< k)) (C := C) hk
  rw [rm_ad h, edg_C he] at this
  exact this
theorem pts_sub {s t : Nat} (h : subT s t) : subT (pts s) (pts t) := fun b hb => by
  obtain ⟨k, h1, h2, h3⟩ := pts_tb.mp hb
  exact pts_tb.mpr ⟨k, h1, h k h2, h3⟩
theorem rm_sub (s k : Nat) : subT (andn s (1 <<< k)) s := fun j hj => by
  rw [rm_tb, Bool.and_eq_true] at hj
  exact hj.1
theorem pc_pts {s q b : Nat} (hq : (pts s).testBit q = true) (h : (pcs s q).testBit b = true) : (pts s).testBit b = true := by
  have hq9 := pts_9 hq
  have hb9 := pc_9 hq9 h
  cases e : (pts s).testBit b
  · have := pc_iso e (pc_sym hq9 hb9 h)
    rw [this, e] at hq
    cases hq
  · rfl
theorem ne_bit {a : Nat} (h : a ≠ 0) : ∃ b, a.testBit b = true := by
  by_cases g : ∃ b, a.testBit b = true
  · exact g
  · refine absurd (Nat.eq_of_testBit_eq (fun b => ?_)) h
    rw [Nat.zero_testBit]
    cases e : a.testBit b
    · rfl
    · exact absurd ⟨b, e⟩ g
theorem pts_ne {t : Nat} (ht : t < 1048576) (h : t ≠ 0) : ∃ b, (pts t).testBit b = true := by
  obtain ⟨k, hk⟩ := ne_bit h
  have hk20 : k < 20 := by
    rcases Nat.lt_or_ge k 20 with z | z
    · exact z
    · rw [lt_tb (f := 20) ht z] at hk; cases hk
  exact ⟨_, pts_tb.mpr ⟨k, hk20, hk, Or.inl rfl⟩⟩
/-- a stroke that is no bridge, or the only one there, leaves all joined -/
theorem ok_a {s k p q : Nat} (hk : k < 20) (h : s.testBit k = true) (he : edg k p q = true) (hall : subT (pts s) (pcs s p)) (hb : (pcs (andn s (1 <<< k)) q).testBit p = true) : (pts (andn s (1 <<< k))).testBit q = true ∧ pcs (andn s (1 <<< k)) q = pts (andn s (1 <<< k)) := by
  obtain ⟨hp, hq⟩ := edg_9 he
  have hq2 : (pts (andn s (1 <<< k))).testBit q = true := by
    cases e : (pts (andn s (1 <<< k))).testBit q
    · have := pc_iso e hb
      rw [this, edg_ne q hq k hk] at he
      cases he
    · rfl
  have hE : eqc s (andn s (1 <<< k)) := fun C => by
    rw [clo_rm hk h he]
    exact ⟨fun z => z.1, fun z => ⟨z, Bool.eq_iff_iff.mpr ⟨fun y => pc_min z y _ (pc_sym hq hp hb), fun y => pc_min z y _ hb⟩⟩⟩
  refine ⟨hq2, eq_sub (fun b hb2 => pc_pts hq2 hb2) (fun b hb2 => ?_)⟩
  have h1 := hall b (pts_sub (rm_sub s k) b hb2)
  rw [eqc_pcs hp hE] at h1
  rw [← pc_eq hq hp hb]
  exact h1
theorem ok_b {s k p q : Nat} (hs : s < 1048576) (hk : k < 20) (h : s.testBit k = true) (he : edg k p q = true) (hall : subT (pts s) (pcs s p)) (hb : (pts (andn s (1 <<< k))).testBit p = false) (h0 : andn s (1 <<< k) ≠ 0) : (pts (andn s (1 <<< k))).testBit q = true ∧ pcs (andn s (1 <<< k)) q = pts (andn s (1 <<< k)) := by
  obtain ⟨hp, hq⟩ := edg_9 he
  have hC : clo s (pcs (andn s (1 <<< k)) q ||| 1 <<< p) := by
    rw [clo_rm hk h he]
    refine ⟨clo_or (pc_clo hq) (fun j hj hj2 => ?_), ?_⟩
    · have g1 : ¬ p = ONEL.getD j 0 := fun e => by
        rw [pts_tb.mpr ⟨j, hj, hj2, Or.inl e.symm⟩] at hb; cases hb
      have g2 : ¬ p = OTHL.getD j 0 := fun e => by
        rw [pts_tb.mpr ⟨j, hj, hj2, Or.inr e.symm⟩] at hb; cases hb
      rw [tb_1, tb_1, decide_eq_false g1, decide_eq_false g2]
    · rw [Nat.testBit_or, Nat.testBit_or, pc_self, tb_1, decide_eq_true rfl, Bool.or_true, Bool.true_or]
  have hin : subT (pts (andn s (1 <<< k))) (pcs (andn s (1 <<< k)) q) := by
    intro b hb2
    have h1 := pc_min hC (by rw [Nat.testBit_or, tb_1, decide_eq_true rfl, Bool.or_true]) b (hall b (pts_sub (rm_sub s k) b hb2))
    rw [Nat.testBit_or, tb_1, Bool.or_eq_true, decide_eq_true_eq] at h1
    rcases h1 with z | z
    · exact z
    · rw [← z, hb] at hb2; cases hb2
  have hq2 : (pts (andn s (1 <<< k))).testBit q = true := by
    obtain ⟨b, hb2⟩ := pts_ne (andn_lt hs) h0
    cases e : (pts (andn s (1 <<< k))).testBit q
    · have := pc_iso e (hin b hb2)
      rw [this, e] at hb2
      cases hb2
    · rfl
  exact ⟨hq2, eq_sub (fun b hb2 => pc_pts hq2 hb2) hin⟩
theorem three_ck : allN (fun a => allN (fun b => allN (fun c => decide (a = b) || decide (a = c) || decide (b = c) || decide (3 ≤ bc (1 <<< a ||| 1 <<< b ||| 1 <<< c))) 9) 9) 9 = true := by decide +kernel
theorem three_le (a : Nat) (ha : a < 9) (b : Nat) (hb : b < 9) (c : Nat) (hc : c < 9) (h1 : a ≠ b) (h2 : a ≠ c) (h3 : b ≠ c) : 3 ≤ bc (1 <<< a ||| 1 <<< b ||| 1 <<< c) := by
  have h := allN_iff.mp (allN_iff.mp (allN_iff.mp three_ck a ha) b hb) c hc
  rw [decide_eq_false h1, decide_eq_false h2, decide_eq_false h3, show (false || false || false) = false from rfl, Bool.false_or, decide_eq_true_eq] at h
  exact h
theorem bit_one : ∀ k, k < 20 → ∀ q, q < 9 → ∀ p, p < 9 → edg k p q = true → POL.getD k 0 = 1 <<< p ||| 1 <<< q := by decide +kernel
theorem bc_1 : ∀ q, q < 9 → bc (1 <<< q) = 1 := by decide
/-- behind a bridge lies a point with an odd number of strokes -/
theorem br_odd {s k p q : Nat} (hk : k < 20) (h : s.testBit k = true) (he : edg k p q = true) (hb : (pcs (andn s (1 <<< k)) q).testBit p = false) : ∃ x, (odd s).testBit x = true ∧ (pcs (andn s (1 <<< k)) q).testBit x = true := by
  obtain ⟨hp, hq⟩ := edg_9 he
  have h1 := odd_clo (pc_clo (s := andn s (1 <<< k)) hq)
  rw [odd_rm hk h, Nat.and_xor_distrib_right] at h1
  have h2 : POL.getD k 0 &&& pcs (andn s (1 <<< k)) q = 1 <<< q := by
    rw [bit_one k hk q hq p hp he]
    apply Nat.eq_of_testBit_eq
    intro b
    rw [Nat.testBit_and, Nat.testBit_or, tb_1, tb_1]
    by_cases e : q = b
    · rw [← e, pc_self, decide_eq_true rfl, Bool.or_true]; rfl
    · rw [decide_eq_false e, Bool.or_false]
      by_cases e2 : p = b
      · rw [← e2, hb, Bool.and_false]
      · rw [decide_eq_false e2]; rfl
  rw [h2, show bc ((odd s &&& pcs (andn s (1 <<< k)) q) ^^^ 1 <<< q) = pcn 32 ((odd s &&& pcs (andn s (1 <<< k)) q) ^^^ 1 <<< q) from rfl, pcn_xor, show pcn 32 (1 <<< q) = 1 from bc_1 q hq] at h1
  have h3 : odd s &&& pcs (andn s (1 <<< k)) q ≠ 0 := fun e => by
    rw [e, pcn_0] at h1
    cases h1
  obtain ⟨x, hx⟩ := ne_bit h3
  rw [Nat.testBit_and, Bool.and_eq_true] at hx
  exact ⟨x, hx⟩
theorem no_two {s p k1 q1 k2 q2 : Nat} (hk1 : k1 < 20) (h1 : s.testBit k1 = true) (he1 : edg k1 p q1 = true) (hk2 : k2 < 20) (h2 : s.testBit k2 = true) (he2 : edg k2 p q2 = true) (hne : k1 ≠ k2) (hall : subT (pts s) (pcs s p)) (ho : bc (odd s) ≤ 2) (hop : odd s = 0 ∨ (odd s).testBit p = true) (hb1 : (pcs (andn s (1 <<< k1)) q1).testBit p = false) (hb2 : (pcs (andn s (1 <<< k2)) q2).testBit p = false) : False := by
  obtain ⟨hp, hq1⟩ := edg_9 he1
  obtain ⟨_, hq2⟩ := edg_9 he2
  obtain ⟨x, x1, x2⟩ := br_odd hk1 h1 he1 hb1
  obtain ⟨y, y1, y2⟩ := br_odd hk2 h2 he2 hb2
  have hx9 := pc_9 hq1 x2
  have hy9 := pc_9 hq2 y2
  have hp1 : (odd s).testBit p = true := by
    rcases hop with z | z
    · rw [z, Nat.zero_testBit] at x1; cases x1
    · exact z
  have hxp : p ≠ x := fun e => by rw [← e, hb1] at x2; cases x2
  have hyp : p ≠ y := fun e => by rw [← e, hb2] at y2; cases y2
  have hxy : x = y := by
    by_cases e : x = y
    · exact e
    · have h3 := three_le p hp x hx9 y hy9 hxp hyp e
      have h4 : bc (1 <<< p ||| 1 <<< x ||| 1 <<< y) ≤ bc (odd s) := pcn_sub 32 _ _ (fun b hb => by
        rw [Nat.testBit_or, Nat.testBit_or, tb_1, tb_1, tb_1, Bool.or_eq_true, Bool.or_eq_true, decide_eq_true_eq, decide_eq_true_eq, decide_eq_true_eq] at hb
        rcases hb with (z | z) | z
        · rw [← z]; exact hp1
        · rw [← z]; exact x1
        · rw [← z]; exact y1)
      omega
  subst hxy
  have c1 := pc_clo (s := andn s (1 <<< k1)) hq1
  have c2 := pc_clo (s := andn s (1 <<< k2)) hq2
  -- the other bridge's far end lies in neither
  have n1 : (pcs (andn s (1 <<< k2)) q2).testBit q1 = false := by
    have := c2 k1 hk1 (by rw [rm_tb, h1, decide_eq_false (Ne.symm hne)]; rfl)
    rw [edg_C he1, hb2] at this
    exact this.symm
  have n2 : (pcs (andn s (1 <<< k1)) q1).testBit q2 = false := by
    have := c1 k2 hk2 (by rw [rm_tb, h2, decide_eq_false hne]; rfl)
    rw [edg_C he2, hb1] at this
    exact this.symm
  have cD : clo s (pcs (andn s (1 <<< k1)) q1 &&& pcs (andn s (1 <<< k2)) q2) := by
    intro j hj hsj
    by_cases e1 : j = k1
    · subst e1
      rw [edg_C he1, Nat.testBit_and, Nat.testBit_and, hb1, n1, Bool.and_false]; rfl
    · by_cases e2 : j = k2
      · subst e2
        rw [edg_C he2, Nat.testBit_and, Nat.testBit_and, hb1, n2]; rfl
      · rw [Nat.testBit_and, Nat.testBit_and, c1 j hj (by rw [rm_tb, hsj, decide_eq_false (Ne.symm e1)]; rfl), c2 j hj (by rw [rm_tb, hsj, decide_eq_false (Ne.symm e2)]; rfl)]
  have h5 := pc_sym hp hx9 (hall x (odd_pts x1))
  have h6 := pc_min cD (by rw [Nat.testBit_and, x2, y2]; rfl) p h5
  rw [Nat.testBit_and, hb1] at h6
  cases h6
def odB (k v a b : Nat) : Bool := !(decide (v = 0) || v.testBit a) || (decide (bc (v ^^^ POL.getD k 0) ≤ 2) && (decide (v ^^^ POL.getD k 0 = 0) || (v ^^^ POL.getD k 0).testBit b))
theorem od_ck : allN (fun k => allN (fun v => !(decide (bc v ≤ 2) && decide (bc v % 2 = 0)) || (odB k v (ONEL.getD k 0) (OTHL.getD k 0) && odB k v (OTHL.getD k 0) (ONEL.getD k 0))) 512) 20 = true := by decide +kernel
theorem odB_f {k v a b : Nat} (h : odB k v a b = true) (hv : v = 0 ∨ v.testBit a = true) : bc (v ^^^ POL.getD k 0) ≤ 2 ∧ (v ^^^ POL.getD k 0 = 0 ∨ (v ^^^ POL.getD k 0).testBit b = true) := by
  have h1 : (decide (v = 0) || v.testBit a) = true := by
    rcases hv with z | z
    · rw [decide_eq_true z]; rfl
    · rw [z, Bool.or_true]
  rw [odB, h1, Bool.not_true, Bool.false_or, Bool.and_eq_true, Bool.or_eq_true, decide_eq_true_eq, decide_eq_true_eq] at h
  exact h
theorem odd_nx (k : Nat) (hk : k < 20) (v : Nat) (hv : v < 512) (h1 : bc v ≤ 2) (h2 : bc v % 2 = 0) : odB k v (ONEL.getD k 0) (OTHL.getD k 0) = true ∧ odB k v (OTHL.getD k 0) (ONEL.getD k 0) = true := by
  have h := allN_iff.mp (allN_iff.mp od_ck k hk) v hv
  rw [decide_eq_true h1, decide_eq_true h2, Bool.and_self, Bool.not_true, Bool.false_or, Bool.and_eq_true] at h
  exact h
theorem odd_t {s k p q : Nat} (hk : k < 20) (h : s.testBit k = true) (he : edg k p q = true) (ho : bc (odd s) ≤ 2) (hop : odd s = 0 ∨ (odd s).testBit p = true) : bc (odd (andn s (1 <<< k))) ≤ 2 ∧ (odd (andn s (1 <<< k)) = 0 ∨ (odd (andn s (1 <<< k))).testBit q = true) := by
  rw [odd_rm hk h]
  have g := odd_nx k hk (odd s) (odd_lt s) ho (odd_ev s)
  rw [edg, Bool.or_eq_true, Bool.and_eq_true, Bool.and_eq_true, beq_iff_eq, beq_iff_eq, beq_iff_eq, beq_iff_eq] at he
  rcases he with ⟨e1, e2⟩ | ⟨e1, e2⟩
  · rw [e1, e2] at g; exact odB_f g.1 hop
  · rw [e1, e2] at g; exact odB_f g.2 hop
/-- what the class asks of a next point is what the reference asks -/
theorem nx_iff {s k p q : Nat} (hk : k < 20) (h : s.testBit k = true) (he : edg k p q = true) (hl : isLine s p = true) (h0 : s ≠ 0) : (andn s (1 <<< k) = 0 ∨ pcs (andn s (1 <<< k)) q = pts (andn s (1 <<< k))) ↔ isLine (andn s (1 <<< k)) q = true := by
  obtain ⟨hp, hq⟩ := edg_9 he
  obtain ⟨g1, g2, g3, g4⟩ := line_f hp h0 hl
  obtain ⟨o1, o2⟩ := odd_t hk h he g2 g4
  constructor
  · rintro (z | z)
    · rw [isLine, if_pos z]
    · exact line_b hq (by rw [← z]; exact pc_self _ q) z o1 o2
  · intro z
    by_cases e : andn s (1 <<< k) = 0
    · exact Or.inl e
    · obtain ⟨f1, _, f3, _⟩ := line_f hq e z
      exact Or.inr (eq_sub (fun b hb => pc_pts f3 hb) f1)
theorem end_ex {s p : Nat} (h : (pts s).testBit p = true) : ∃ k q, k < 20 ∧ s.testBit k = true ∧ edg k p q = true := by
  obtain ⟨k, hk, hs, e | e⟩ := pts_tb.mp h
  · exact ⟨k, OTHL.getD k 0, hk, hs, by rw [edg, e, beq_self_eq_true, beq_self_eq_true]; rfl⟩
  · exact ⟨k, ONEL.getD k 0, hk, hs, by rw [edg, e, beq_self_eq_true, beq_self_eq_true, Bool.and_self, Bool.or_true]⟩
theorem nx_ex {s p : Nat} (hs : s < 1048576) (hp : p < 9) (hl : isLine s p = true) (h0 : s ≠ 0) : ∃ k q, k < 20 ∧ s.testBit k = true ∧ edg k p q = true ∧ isLine (andn s (1 <<< k)) q = true := by
  obtain ⟨g1, g2, g3, g4⟩ := line_f hp h0 hl
  obtain ⟨k, q, hk, hb, he⟩ := end_ex g3
  by_cases ha : (pcs (andn s (1 <<< k)) q).testBit p = true
  · exact ⟨k, q, hk, hb, he, (nx_iff hk hb he hl h0).mp (Or.inr (ok_a hk hb he g1 ha).2)⟩
  · have ha : (pcs (andn s (1 <<< k)) q).testBit p = false := by
      cases z : (pcs (andn s (1 <<< k)) q).testBit p
      · rfl
      · exact absurd z ha
    cases hpt : (pts (andn s (1 <<< k))).testBit p
    · by_cases e0 : andn s (1 <<< k) = 0
      · exact ⟨k, q, hk, hb, he, (nx_iff hk hb he hl h0).mp (Or.inl e0)⟩
      · exact ⟨k, q, hk, hb, he, (nx_iff hk hb he hl h0).mp (Or.inr (ok_b hs hk hb he g1 hpt e0).2)⟩
    · obtain ⟨k2, q2, hk2, hb2, he2⟩ := end_ex hpt
      have hb3 := rm_sub s k k2 hb2
      have hne : k ≠ k2 := fun e => by
        rw [e, rm_tb, decide_eq_true rfl, Bool.not_true, Bool.and_false] at hb2
        cases hb2
      have ha2 : (pcs (andn s (1 <<< k2)) q2).testBit p = true := by
        cases z : (pcs (andn s (1 <<< k2)) q2).testBit p
        · exact (no_two hk hb he hk2 hb3 he2 hne g1 g2 g4 ha z).elim
        · rfl
      exact ⟨k2, q2, hk2, hb3, he2, (nx_iff hk2 hb3 he2 hl h0).mp (Or.inr (ok_a hk2 hb3 he2 g1 ha2).2)⟩
/-- q can be the next point -/
def nxP (s p q : Nat) : Bool := SOFL.getD (9 * p + q) 0 != 20 && (s.testBit (SOFL.getD (9 * p + q) 0) && isLine (andn s (1 <<< SOFL.getD (9 * p + q) 0)) q)
def nxQ (s p : Nat) : Nat := fstN (nxP s p) 0 9
theorem sof_le : ∀ i, i < 81 → SOFL.getD i 0 ≤ 20 := by decide
theorem nxQ_t {s p : Nat} (hs : s < 1048576) (hp : p < 9) (hl : isLine s p = true) (h0 : s ≠ 0) : nxQ s p < 9 ∧ nxP s p (nxQ s p) = true := by
  obtain ⟨k, q, hk, hb, he, hl2⟩ := nx_ex hs hp hl h0
  have hq := (edg_9 he).2
  have e := (edg_sof p hp q hq k hk).mp he
  have hP : nxP s p q = true := by
    rw [nxP, e, hb, hl2]
    have : (k != 20) = true := bne_iff_ne.mpr (by omega)
    rw [this]; rfl
  have hlt : nxQ s p < 9 := by
    rcases Nat.lt_or_ge (nxQ s p) 9 with z | z
    · exact z
    · have := fstN_f (nxP s p) 9 0 q (Nat.zero_le q) (by have : nxQ s p = fstN (nxP s p) 0 9 := rfl; omega)
      rw [hP] at this
      cases this
  exact ⟨hlt, fstN_t (nxP s p) 9 0 (by have : nxQ s p = fstN (nxP s p) 0 9 := rfl; omega)⟩
/-- along a trail: what is left, where one is -/
def trS (x : Nat × Nat) : Nat × Nat := (andn x.1 (1 <<< SOFL.getD (9 * x.2 + nxQ x.1 x.2) 0), nxQ x.1 x.2)
def stP (s : Nat) : Nat := fstN (isLine s) 0 9
def trN (s i : Nat) : Nat × Nat := itr (fun _ x => trS x) (s, stP s) i
theorem tr_step {x : Nat × Nat} {n : Nat} (hs : x.1 < 1048576) (hp : x.2 < 9) (hl : isLine x.1 x.2 = true) (hn : bc x.1 = n + 1) : (trS x).1 < 1048576 ∧ (trS x).2 < 9 ∧ isLine (trS x).1 (trS x).2 = true ∧ bc (trS x).1 = n := by
  have h0 : x.1 ≠ 0 := fun e => by
    rw [e, show bc 0 = 0 from pcn_0 32] at hn
    cases hn
  obtain ⟨h1, h2⟩ := nxQ_t hs hp hl h0
  rw [nxP, Bool.and_eq_true, Bool.and_eq_true, bne_iff_ne] at h2
  have hle := sof_le (9 * x.2 + nxQ x.1 x.2) (by omega)
  refine ⟨andn_lt hs, h1, h2.2.2, ?_⟩
  have h3 := pcn_or2 32 (SOFL.getD (9 * x.2 + nxQ x.1 x.2) 0) (andn x.1 (1 <<< SOFL.getD (9 * x.2 + nxQ x.1 x.2) 0)) (by omega) (by rw [rm_tb, decide_eq_true rfl, Bool.not_true, Bool.and_false])
  rw [rm_ad h2.2.1] at h3
  show bc (andn x.1 (1 <<< SOFL.getD (9 * x.2 + nxQ x.1 x.2) 0)) = n
  have h4 : bc x.1 = pcn 32 x.1 := rfl
  have h5 : bc (andn x.1 (1 <<< SOFL.getD (9 * x.2 + nxQ x.1 x.2) 0)) = pcn 32 (andn x.1 (1 <<< SOFL.getD (9 * x.2 + nxQ x.1 x.2) 0)) := rfl
  omega
theorem st_ok {s : Nat} (h0 : s ≠ 0) (hp : pens s = 1) : stP s < 9 ∧ isLine s (stP s) = true := by
  have hex : ∃ p, p < 9 ∧ isLine s p = true := by
    have g : ∀ p, p < 9 → (pts s).testBit p = true → (odd s = 0 ∨ (odd s).testBit p = true) → isLine s p = true := by
      intro p _ h1 h2
      rw [isLine, if_neg h0, h1, decide_eq_true hp]
      rcases h2 with z | z
      · rw [decide_eq_true z]; rfl
      · rw [z, Bool.or_true]; rfl
    by_cases e : odd s = 0
    · have hne : pts s ≠ 0 := fun z => by
        rw [pens_sm, smN_0 (fun k _ => by rw [pnF, z, Nat.zero_testBit]; rfl)] at hp
        cases hp
      obtain ⟨b, hb⟩ := ne_bit hne
      exact ⟨b, pts_9 hb, g b (pts_9 hb) hb (Or.inl e)⟩
    · obtain ⟨b, hb⟩ := ne_bit e
      exact ⟨b, pts_9 (odd_pts hb), g b (pts_9 (odd_pts hb)) (odd_pts hb) (Or.inr hb)⟩
  obtain ⟨p, hp9, hl⟩ := hex
  have hlt : stP s < 9 := by
    rcases Nat.lt_or_ge (stP s) 9 with z | z
    · exact z
    · have := fstN_f (isLine s) 9 0 p (Nat.zero_le p) (by have : stP s = fstN (isLine s) 0 9 := rfl; omega)
      rw [hl] at this
      cases this
  exact ⟨hlt, fstN_t (isLine s) 9 0 (by have : stP s = fstN (isLine s) 0 9 := rfl; omega)⟩
theorem tr_inv {s : Nat} (hs : s < 1048576) (h0 : s ≠ 0) (hp : pens s = 1) : ∀ i, i ≤ bc s → (trN s i).1 < 1048576 ∧ (trN s i).2 < 9 ∧ isLine (trN s i).1 (trN s i).2 = true ∧ bc (trN s i).1 + i = bc s
  | 0, _ => ⟨hs, (st_ok h0 hp).1, (st_ok h0 hp).2, Nat.add_zero (bc s)⟩
  | i + 1, h => by
    obtain ⟨h1, h2, h3, h4⟩ := tr_inv hs h0 hp i (by omega)
    obtain ⟨g1, g2, g3, g4⟩ := tr_step (n := bc s - (i + 1)) h1 h2 h3 (by omega)
    exact ⟨g1, g2, g3, by show bc (trS (trN s i)).1 + (i + 1) = bc s; omega⟩
def lowF : Nat → Bool := fun v => decide (0 < lwN v) && decide (lwN v < 1048576) && decide (bc (lwN v - 1) < 9) && v.testBit (bc (lwN v - 1)) && allN (fun q => !v.testBit q) (bc (lwN v - 1))
theorem low_ok : ∀ v, v < 512 → 0 < v → lowF v = true := by decide +kernel
theorem low_st {s : Nat} (h0 : s ≠ 0) (hp : pens s = 1) : bc (lwN (if odd s = 0 then pts s else odd s) - 1) = stP s := by
  have hne : (if odd s = 0 then pts s else odd s) ≠ 0 := by
    split
    · intro z
      rw [pens_sm, smN_0 (fun k _ => by rw [pnF, z, Nat.zero_testBit]; rfl)] at hp
      cases hp
    · assumption
  have hlt : (if odd s = 0 then pts s else odd s) < 512 := by
    split
    · exact pts_lt s
    · exact odd_lt s
  have hl := low_ok _ hlt (by omega)
  rw [lowF, Bool.and_eq_true, Bool.and_eq_true, Bool.and_eq_true, Bool.and_eq_true, decide_eq_true_eq, decide_eq_true_eq, decide_eq_true_eq] at hl
  obtain ⟨⟨⟨⟨_, _⟩, h3⟩, h4⟩, h5⟩ := hl
  have key : ∀ b, (if odd s = 0 then pts s else odd s).testBit b = isLine s b := by
    intro b
    rw [isLine, if_neg h0, decide_eq_true hp, Bool.true_and]
    split
    · rename_i e
      rw [decide_eq_true e, Bool.true_or, Bool.and_true]
    · rename_i e
      rw [decide_eq_false e, Bool.false_or]
      cases z : (odd s).testBit b
      · rw [Bool.and_false]
      · rw [odd_pts z]; rfl
  refine (fstN_eq (Nat.zero_le _) (by omega) (by rw [← key]; exact h4) (fun q _ hq => ?_)).symm
  have := allN_iff.mp h5 q hq
  rw [← key]
  cases z : (if odd s = 0 then pts s else odd s).testBit q
  · rfl
  · rw [z] at this; cases this
