def envG (g : Nat → Int32) (k : Nat) (w : Int) : Env := (tn (g 0), ((fun i => if i < 8 then tn (g (5 + i)) else 0), (tn (g 1), (tn (g 3), (k, w)))))
/-- a law that doesn't ask which stroke -/
def nwD (D : Option (Env → Int)) : Prop := ∀ d, D = some d → ∀ (m : Nat) (st : Nat → Nat) (y f k : Nat) (w w' : Int), d (m, st, y, f, k, w) = d (m, st, y, f, k, w')
theorem fe_nw {D : Option (Env → Int)} (h : nwD D) (g : Nat → Int32) (k : Nat) (w : Int) : feV D (envG g k w) = feV D (envG g k 0) := by
  cases D with
  | none => rfl
  | some d =>
    show cgN _ 99 = cgN _ 99
    exact congrArg (fun z => cgN z 99) (h d rfl _ _ _ _ _ _ _)
theorem okE_g {g : Nat → Int32} (h : WFg g) {k : Nat} {w : Int} (hk : k < tn (g 0)) (h1 : -1 ≤ w) (h2 : w ≤ 19) : okE (envG g k w) := by
  refine ⟨(wg_n h (k := 0) (n := 8) (by decide) (by decide)).2, hk, fun i hi => ?_, (wg_n h (k := 1) (n := 9999) (by decide) (by decide)).2, (wg_n h (k := 3) (n := 999999) (by decide) (by decide)).2, h1, h2⟩
  have w := wg_n h (k := 5 + i) (n := 1048575) (by omega) (by rw [bdN_s i hi]; exact Nat.le_refl _)
  show (if i < 8 then tn (g (5 + i)) else 0) < 1048576
  rw [if_pos hi]
  omega
theorem CE_g {X : Mem} {a : Nat} {g : Nat → Int32} (hN : CNow X a g) (hW : WFg g) (k : Nat) (w : Int) : CE X a (envG g k w) := by
  obtain ⟨h1, h2, h3, _, h5, _, h7, _⟩ := hN
  refine ⟨h1, h2.trans (wg_n hW (k := 0) (n := 8) (by decide) (by decide)).1, fun i hi => ?_, h3.trans (wg_n hW (k := 1) (n := 9999) (by decide) (by decide)).1, h5.trans (wg_n hW (k := 3) (n := 999999) (by decide) (by decide)).1⟩
  show (X.2.1 (a + 1)).getD i 0 = nI (if i < 8 then tn (g (5 + i)) else 0)
  rw [if_pos hi]
  exact (h7 i hi).trans (wg_n hW (k := 5 + i) (n := 1048575) (by omega) (by rw [bdN_s i hi]; exact Nat.le_refl _)).1
/-- one mark's part of a year; w tells whether it is written down -/
def gMark (DW DF : Option (Env → Int)) (wr : Bool) (k : Nat) (p : (Nat → Int32) × Nat) : (Nat → Int32) × Nat :=
  if (tn (gN (upF p.1 3 (nI (min 999999 (tn (p.1 3) + feV DF (envG p.1 k 0))))) (5 + k))).testBit (tn (p.1 2) % 20) then
    (if tn (gN (upF p.1 3 (nI (min 999999 (tn (p.1 3) + feV DF (envG p.1 k 0))))) 2) % 10 < wrV DW (envG (gN (gN (upF p.1 3 (nI (min 999999 (tn (p.1 3) + feV DF (envG p.1 k 0))))))) k ((tn (p.1 2) % 20 : Nat) : Int)) then
      ((if wr then gWrite (gX (gN (gN (upF p.1 3 (nI (min 999999 (tn (p.1 3) + feV DF (envG p.1 k 0))))))) k (tn (p.1 2) % 20)) k 3 (tn (p.1 2) % 20 + 1) else gX (gN (gN (upF p.1 3 (nI (min 999999 (tn (p.1 3) + feV DF (envG p.1 k 0))))))) k (tn (p.1 2) % 20)), p.2 + 1)
    else (gN (gN (upF p.1 3 (nI (min 999999 (tn (p.1 3) + feV DF (envG p.1 k 0)))))), p.2))
  else (gN (upF p.1 3 (nI (min 999999 (tn (p.1 3) + feV DF (envG p.1 k 0))))), p.2)
def gMarks (DW DF : Option (Env → Int)) (wr : Bool) (g : Nat → Int32) (k : Nat) : (Nat → Int32) × Nat := itr (gMark DW DF wr) (g, 0) k
def gPass (DW DF : Option (Env → Int)) (wr : Bool) (g : Nat → Int32) : (Nat → Int32) × Nat := (upF (gMarks DW DF wr g (tn (g 0))).1 1 (nI (tn ((gMarks DW DF wr g (tn (g 0))).1 1) + 1)), (gMarks DW DF wr g (tn (g 0))).2)
theorem gMark_ok {DW DF : Option (Env → Int)} {wr : Bool} {k : Nat} {p : (Nat → Int32) × Nat} (h : WFg p.1) (hk : k < 8) : WFg (gMark DW DF wr k p).1 ∧ (gMark DW DF wr k p).1 0 = p.1 0 ∧ (gMark DW DF wr k p).1 1 = p.1 1 ∧ (gMark DW DF wr k p).2 ≤ p.2 + 1 := by
  have h1 : WFg (upF p.1 3 (nI (min 999999 (tn (p.1 3) + feV DF (envG p.1 k 0))))) := WFg_up h (show _ ≤ 999999 by omega) (by decide)
  have h2 := WFg_N h1
  have h3 := WFg_N h2
  have hs : tn (p.1 2) % 20 < 20 := Nat.mod_lt _ (by decide)
  have h4 := WFg_X h3 hk hs
  have e3 : ∀ j, j < 2 → gN (gN (upF p.1 3 (nI (min 999999 (tn (p.1 3) + feV DF (envG p.1 k 0)))))) j = p.1 j := fun j hj => by
    unfold gN
    rw [upF_o (by omega), upF_o (by omega), upF_o (by omega)]
  have e2 : ∀ j, j < 2 → gN (upF p.1 3 (nI (min 999999 (tn (p.1 3) + feV DF (envG p.1 k 0))))) j = p.1 j := fun j hj => by
    unfold gN
    rw [upF_o (by omega), upF_o (by omega)]
  have e4 : ∀ j, j < 2 → gX (gN (gN (upF p.1 3 (nI (min 999999 (tn (p.1 3) + feV DF (envG p.1 k 0))))))) k (tn (p.1 2) % 20) j = p.1 j := fun j hj => by
    unfold gX
    rw [upF_o (by omega)]
    exact e3 j hj
  unfold gMark
  split
  · split
    · cases wr
      · exact ⟨h4, e4 0 (by decide), e4 1 (by decide), Nat.le_refl _⟩
      · refine ⟨WFg_W h4 hk (by decide) (by omega), ?_, ?_, Nat.le_refl _⟩
        · exact e4 0 (by decide)
        · exact e4 1 (by decide)
    · exact ⟨h3, e3 0 (by decide), e3 1 (by decide), Nat.le_succ _⟩
  · exact ⟨h2, e2 0 (by decide), e2 1 (by decide), Nat.le_succ _⟩
theorem gMarks_ok {DW DF : Option (Env → Int)} {wr : Bool} {g : Nat → Int32} (h : WFg g) : ∀ k, k ≤ 8 → WFg (gMarks DW DF wr g k).1 ∧ (gMarks DW DF wr g k).1 0 = g 0 ∧ (gMarks DW DF wr g k).1 1 = g 1 ∧ (gMarks DW DF wr g k).2 ≤ k :=
  itr_invN (f := gMark DW DF wr) (fun k (p : (Nat → Int32) × Nat) => WFg p.1 ∧ p.1 0 = g 0 ∧ p.1 1 = g 1 ∧ p.2 ≤ k) 8 ⟨h, rfl, rfl, Nat.le_refl 0⟩ (fun k p hk hp => by
    obtain ⟨q1, q2, q3, q4⟩ := gMark_ok (DW := DW) (DF := DF) (wr := wr) hp.1 hk
    exact ⟨q1, q2.trans hp.2.1, q3.trans hp.2.2.1, by omega⟩)
theorem gPass_ok {DW DF : Option (Env → Int)} {wr : Bool} {g : Nat → Int32} (h : WFg g) (hy : tn (g 1) < 9999) : WFg (gPass DW DF wr g).1 := by
  have w0 := wg_n h (k := 0) (n := 8) (by decide) (by decide)
  obtain ⟨q1, _, q3, _⟩ := gMarks_ok (DW := DW) (DF := DF) (wr := wr) h (tn (g 0)) w0.2
  refine WFg_up q1 ?_ (by decide)
  rw [q3]
  exact hy
/-- beside the office at a and its laws nothing is other -/
def offP (a : Nat) (X Y : Mem) : Prop := (∀ b, b ≠ a → b ≠ 16 → ∀ k, Y.1 b k = X.1 b k) ∧ (∀ b, b ≠ a + 1 → b ≠ a + 2 → b ≠ 17 → Y.2.1 b = X.2.1 b) ∧ Y.2.2 = X.2.2
theorem offP_0 (a : Nat) (X : Mem) : offP a X X := ⟨fun _ _ _ _ => rfl, fun _ _ _ _ => rfl, rfl⟩
theorem offP_t {a : Nat} {X Y Z : Mem} (h1 : offP a X Y) (h2 : offP a Y Z) : offP a X Z := ⟨fun b q1 q2 k => (h2.1 b q1 q2 k).trans (h1.1 b q1 q2 k), fun b q1 q2 q3 => (h2.2.1 b q1 q2 q3).trans (h1.2.1 b q1 q2 q3), h2.2.2.trans h1.2.2⟩
theorem offP_N {a : Nat} {X Y : Mem} (h : offN a X Y) : offP a X Y := ⟨fun b q _ k => h.1 b q k, fun b q1 q2 _ => h.2.1 b q1 q2, h.2.2⟩
theorem offP_L {a : Nat} {X Y : Mem} (h : lawY X Y) : offP a X Y := by
  obtain ⟨v, l, _, rfl⟩ := h
  exact ⟨fun b _ q k => pF_o q, fun b _ _ q => if_neg q, rfl⟩
theorem CNow_L {a : Nat} {X Y : Mem} {g : Nat → Int32} (h : lawY X Y) (hN : CNow X a g) : CNow Y a g := by
  have nf := now_f hN.1
  have h16 : a ≠ 16 := fun e => by have := hN.1; rw [e] at this; cases this
  obtain ⟨v, l, _, rfl⟩ := h
  exact CNow_on (X := X) (fun k => pF_o h16) (if_neg (by omega)) (if_neg (fun e => by have := hN.1; rw [show a = 15 by omega] at this; cases this)) hN
theorem Ok_L {X Y : Mem} (h : lawY X Y) (hX : Ok X) : Ok Y := by
  obtain ⟨v, l, h1, rfl⟩ := h
  exact okA (okF hX) rfl (by rw [h1]; exact (hX.1 17 (by decide)).symm)
theorem rvL_P {a : Nat} {X Y : Mem} {rv : Value} {DW DF : Option (Env → Int)} (ha : a < 222) (h : offP a X Y) (hr : rvL X rv DW DF) : rvL Y rv DW DF := by
  rcases hr with q | ⟨T, cw, e, h1, h2, h3⟩
  · exact Or.inl q
  · have t5 := (txt_f h1.1).2.2.2.2
    have e0 := h.1 T (by omega) (by omega)
    exact Or.inr ⟨T, cw, e, ⟨h1.1, fun p hp => by rw [h.2.1 (T + 1) (by omega) (by omega) (by omega)]; exact h1.2 p hp⟩, LwV_c e0 h2, LwV_c e0 h3⟩
