/-- what a year of the reference leaves as it was -/
def offR (X Y : Mem) : Prop := (∀ b k, b ≠ 244 ∨ k ≠ 31 → Y.1 b k = X.1 b k) ∧ (∀ b, b ≠ 245 → b ≠ 256 → b ≠ 258 → Y.2.1 b = X.2.1 b) ∧ (∀ b, b ≠ 257 → Y.2.2.1 b = X.2.2.1 b) ∧ Y.2.2.2 = X.2.2.2
theorem offR_0 (X : Mem) : offR X X := ⟨fun _ _ _ => rfl, fun _ _ _ _ => rfl, fun _ _ => rfl, rfl⟩
theorem offR_t {X Y Z : Mem} (h1 : offR X Y) (h2 : offR Y Z) : offR X Z := ⟨fun b k q => (h2.1 b k q).trans (h1.1 b k q), fun b q1 q2 q3 => (h2.2.1 b q1 q2 q3).trans (h1.2.1 b q1 q2 q3), fun b q => (h2.2.2.1 b q).trans (h1.2.2.1 b q), h2.2.2.2.trans h1.2.2.2⟩
theorem offR_A {X : Mem} {l : List Int32} : offR X (pA X 245 l) := ⟨fun _ _ _ => rfl, fun b q1 _ _ => if_neg q1, fun _ _ => rfl, rfl⟩
theorem offR_F {X : Mem} {v : Int32} : offR X (pF X 244 31 v) := ⟨fun b k q => by
    rcases q with q | q
    · exact pF_o q
    · by_cases e : b = 244
      · rw [e]; exact pF_k q
      · exact pF_o e, fun _ _ _ _ => rfl, fun _ _ => rfl, rfl⟩
theorem offR_L {X Y : Mem} (h : lawR X Y) : offR X Y := by
  obtain ⟨l0, l1, l2, _, _, _, rfl⟩ := h
  exact ⟨fun _ _ _ => rfl, fun b _ q2 q3 => (if_neg q3).trans (if_neg q2), fun b q => if_neg q, rfl⟩
theorem OkR_L {X Y : Mem} (h : lawR X Y) (hX : Ok X) : Ok Y := by
  obtain ⟨l0, l1, l2, h0, h1, h2, rfl⟩ := h
  exact okRk (okA hX rfl (by rw [h0]; exact (hX.1 256 (by decide)).symm)) h1 h2
theorem RNow_L {X Y : Mem} {r g : Nat → Int32} (h : lawR X Y) (hR : RNow X r g) : RNow Y r g := by
  obtain ⟨l0, l1, l2, _, _, _, rfl⟩ := h
  exact hR
theorem TxR_c {X Y : Mem} {v : Int32} {DW DF : Option (Env → Int)} (h : Y.2.1 251 = X.2.1 251) (hx : TxR X v DW DF) : TxR Y v DW DF := by
  unfold TxR TRw TRl LwR at hx ⊢
  rw [h]
  exact hx
theorem TxR_o {X Y : Mem} {v : Int32} {DW DF : Option (Env → Int)} (h : offR X Y) (hx : TxR X v DW DF) : TxR Y v DW DF := TxR_c (h.2.1 251 (by decide) (by decide) (by decide)) hx
theorem RE_g {X : Mem} {r g : Nat → Int32} (hR : RNow X r g) (hW : WFg g) (k : Nat) (w : Int) : RE X (envG g k w) :=
  ⟨(rn_0 hR).trans (wg_n hW (k := 0) (n := 8) (by decide) (by decide)).1, fun i hi => by
    rw [show 10 + i = 5 + (5 + i) by omega]
    exact (rn_y hR (k := 5 + i) (by omega) (by omega)).trans (wg_n hW (k := 5 + i) (n := 1048575) (by omega) (by rw [bdN_s i hi]; exact Nat.le_refl _)).1,
    (rn_y hR (k := 1) (by decide) (by decide)).trans (wg_n hW (k := 1) (n := 9999) (by decide) (by decide)).1, (rn_y hR (k := 3) (by decide) (by decide)).trans (wg_n hW (k := 3) (n := 999999) (by decide) (by decide)).1⟩
theorem held_min {a : Nat} (ha : a < 2000000000) : (if lg_cmp (nI a).toInt64 ((nI 0).toInt64) < 0 then nI 0 else if 0 < lg_cmp (nI a).toInt64 ((nI 999999).toInt64) then nI 999999 else (nI a).toInt64.toInt32) = nI (min 999999 a) := by
  have hb : bL (a : Int) := ⟨by omega, by omega⟩
  rw [nI_64 ha, nI_64 (v := 0) (by decide), nI_64 (v := 999999) (by decide), if_neg (fun q => by have := (lc_lt (b := ((0 : Nat) : Int)) hb ⟨by decide, by decide⟩).mp q; omega)]
  by_cases h : 999999 < a
  · rw [if_pos ((lc_gt (b := ((999999 : Nat) : Int)) hb ⟨by decide, by decide⟩).mpr (by omega)), Nat.min_eq_left (by omega)]
  · rw [if_neg (fun q => by have := (lc_gt (b := ((999999 : Nat) : Int)) hb ⟨by decide, by decide⟩).mp q; omega), Nat.min_eq_right (by omega), lI_32, ← jI_n]
