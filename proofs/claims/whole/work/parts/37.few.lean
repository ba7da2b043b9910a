theorem nwg_step {f : Nat → Nat} {i x : Nat} (h : ∀ w, w ≤ i → f x ≤ f w) : ∀ w, w ≤ i + 1 → f (if f (i + 1) < f x then i + 1 else x) ≤ f w := by
  intro w hw
  by_cases e : f (i + 1) < f x
  · rw [if_pos e]
    by_cases z : w = i + 1
    · rw [z]; exact Nat.le_refl _
    · exact Nat.le_of_lt (Nat.lt_of_lt_of_le e (h w (by omega)))
  · rw [if_neg e]
    by_cases z : w = i + 1
    · rw [z]; exact Nat.not_lt.mp e
    · exact h w (by omega)
theorem nwg_all {f : Nat → Nat} : ∀ i w, w ≤ i → f (itr (fun k x => if f (k + 1) < f x then k + 1 else x) 0 i) ≤ f w
  | 0, w, h => by
    obtain rfl : w = 0 := by omega
    exact Nat.le_refl _
  | i + 1, w, h => nwg_step (nwg_all i) w h
theorem nw_min {a b w : Nat} (hw : w < 8) : apN a b (nwN a b) ≤ apN a b w := nwg_all (f := apN a b) 7 w (Nat.le_of_lt_succ hw)
theorem nw_iff {a b n : Nat} : n ≤ apN a b (nwN a b) ↔ ∀ w, w < 8 → n ≤ apN a b w :=
  ⟨fun h w hw => Nat.le_trans h (nw_min hw), fun h => h _ (nw_lt 7 (by decide))⟩
