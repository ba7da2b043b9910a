def inW (w : Nat) : Nat := if w < 4 then (4 - w) % 4 else w
theorem mv_inv : ∀ w, w < 8 → ∀ k, k < 20 → ∀ j, j < 20 → (MVL.getD (20 * w + k) 0 = j ↔ MVL.getD (20 * inW w + j) 0 = k) := by decide +kernel
theorem mvs_step {w s x k j : Nat} (hw : w < 8) (hk : k < 20) (hj : j < 20) (h : x.testBit j = (s.testBit (MVL.getD (20 * inW w + j) 0) && decide (MVL.getD (20 * inW w + j) 0 < k))) : (if s.testBit k = true then x ||| 1 <<< MVL.getD (20 * w + k) 0 else x).testBit j = (s.testBit (MVL.getD (20 * inW w + j) 0) && decide (MVL.getD (20 * inW w + j) 0 < k + 1)) := by
  have hi := mv_inv w hw k hk j hj
  by_cases e : MVL.getD (20 * inW w + j) 0 = k
  · have e2 := hi.mpr e
    rw [e] at h ⊢
    rw [e2]
    rcases Bool.eq_false_or_eq_true (s.testBit k) with hb | hb
    · rw [if_pos hb, Nat.testBit_or, shl1, Nat.testBit_two_pow_self, Bool.or_true, hb, decide_eq_true (Nat.lt_succ_self k)]
      rfl
    · rw [if_neg (by rw [hb]; decide), h, hb]
      rfl
  · have e2 : ¬ MVL.getD (20 * w + k) 0 = j := fun q => e (hi.mp q)
    have e3 : decide (MVL.getD (20 * inW w + j) 0 < k + 1) = decide (MVL.getD (20 * inW w + j) 0 < k) := by
      apply decide_eq_decide.mpr
      omega
    rw [e3, ← h]
    rcases Bool.eq_false_or_eq_true (s.testBit k) with hb | hb
    · rw [if_pos hb, Nat.testBit_or, shl1, Nat.testBit_two_pow, decide_eq_false e2, Bool.or_false]
    · rw [if_neg (by rw [hb]; decide)]
theorem mvs_tb {w s j : Nat} (hw : w < 8) (hj : j < 20) : (mvs w s).testBit j = s.testBit (MVL.getD (20 * inW w + j) 0) := by
  have g := itr_invN (f := fun k r => if s.testBit k = true then r ||| 1 <<< MVL.getD (20 * w + k) 0 else r) (a := 0) (fun k (x : Nat) => x.testBit j = (s.testBit (MVL.getD (20 * inW w + j) 0) && decide (MVL.getD (20 * inW w + j) 0 < k))) 20 (by simp) (fun k x hk hx => mvs_step hw hk hj hx) 20 (Nat.le_refl 20)
  rw [decide_eq_true mv_lt, Bool.and_true] at g
  exact g
theorem mv_back : ∀ w, w < 8 → inW w < 8 ∧ ∀ j, j < 20 → MVL.getD (20 * w + MVL.getD (20 * inW w + j) 0) 0 = j := by decide +kernel
theorem inW_inW : ∀ w, w < 8 → inW (inW w) = w := by decide
theorem mvs_inv {w s : Nat} (hw : w < 8) (hs : s < 1048576) : mvs (inW w) (mvs w s) = s := by
  apply Nat.eq_of_testBit_eq
  intro j
  by_cases hj : j < 20
  · rw [mvs_tb (mv_back w hw).1 hj, inW_inW w hw, mvs_tb hw mv_lt]
    have := (mv_back (inW w) (mv_back w hw).1).2 j hj
    rw [inW_inW w hw] at this
    rw [this]
  · rw [lt_tb (f := 20) mvs_lt (by omega), lt_tb (f := 20) hs (by omega)]
theorem mvs_bc {w s : Nat} (hw : w < 8) (hs : s < 1048576) : bc (mvs w s) = bc s := by
  have h1 := bc_mvs (w := w) (b := s)
  have h2 := bc_mvs (w := inW w) (b := mvs w s)
  rw [mvs_inv hw hs] at h2
  exact Nat.le_antisymm h1 h2
