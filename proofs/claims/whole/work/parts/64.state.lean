/-- the class's half, the reference's half, are the same -/
def sC (X Y : Mem) : Prop := (∀ a, a < 244 → (∀ k, Y.1 a k = X.1 a k) ∧ Y.2.1 a = X.2.1 a ∧ Y.2.2.1 a = X.2.2.1 a) ∧ Y.2.2.2.1 = X.2.2.2.1
def sR (X Y : Mem) : Prop := (∀ a, 244 ≤ a → (∀ k, Y.1 a k = X.1 a k) ∧ Y.2.1 a = X.2.1 a ∧ Y.2.2.1 a = X.2.2.1 a) ∧ Y.2.2.2.2 = X.2.2.2.2
theorem sC_0 (X : Mem) : sC X X := ⟨fun _ _ => ⟨fun _ => rfl, rfl, rfl⟩, rfl⟩
theorem sR_0 (X : Mem) : sR X X := ⟨fun _ _ => ⟨fun _ => rfl, rfl, rfl⟩, rfl⟩
theorem sC_t {X Y Z : Mem} (h1 : sC X Y) (h2 : sC Y Z) : sC X Z := ⟨fun a ha => ⟨fun k => ((h2.1 a ha).1 k).trans ((h1.1 a ha).1 k), (h2.1 a ha).2.1.trans (h1.1 a ha).2.1, (h2.1 a ha).2.2.trans (h1.1 a ha).2.2⟩, h2.2.trans h1.2⟩
theorem sR_t {X Y Z : Mem} (h1 : sR X Y) (h2 : sR Y Z) : sR X Z := ⟨fun a ha => ⟨fun k => ((h2.1 a ha).1 k).trans ((h1.1 a ha).1 k), (h2.1 a ha).2.1.trans (h1.1 a ha).2.1, (h2.1 a ha).2.2.trans (h1.1 a ha).2.2⟩, h2.2.trans h1.2⟩
theorem pF_o {X : Mem} {a b k j : Nat} {v : Int32} (h : b ≠ a) : (pF X a k v).1 b j = X.1 b j := by
  show (if j = k then (if b = a then v else X.1 b j) else X.1 b j) = X.1 b j
  rw [if_neg h]
  split <;> rfl
theorem pF_k {X : Mem} {a b k j : Nat} {v : Int32} (h : j ≠ k) : (pF X a k v).1 b j = X.1 b j := if_neg h
theorem pF_at {X : Mem} {a k : Nat} {v : Int32} : (pF X a k v).1 a k = v := by
  show (if k = k then (if a = a then v else X.1 a k) else X.1 a k) = v
  rw [if_pos rfl, if_pos rfl]
theorem sR_F {X : Mem} {a k : Nat} {v : Int32} (h : a < 244) : sR X (pF X a k v) := ⟨fun b hb => ⟨fun j => pF_o (by omega), rfl, rfl⟩, rfl⟩
theorem sC_F {X : Mem} {a k : Nat} {v : Int32} (h : 244 ≤ a) : sC X (pF X a k v) := ⟨fun b hb => ⟨fun j => pF_o (by omega), rfl, rfl⟩, rfl⟩
theorem sR_A {X : Mem} {a : Nat} {l : List Int32} (h : a < 244) : sR X (pA X a l) := ⟨fun b hb => ⟨fun _ => rfl, if_neg (by omega), rfl⟩, rfl⟩
theorem sC_A {X : Mem} {a : Nat} {l : List Int32} (h : 244 ≤ a) : sC X (pA X a l) := ⟨fun b hb => ⟨fun _ => rfl, if_neg (by omega), rfl⟩, rfl⟩
theorem sR_L {X : Mem} {a : Nat} {l : List Int64} (h : a < 244) : sR X (pL X a l) := ⟨fun b hb => ⟨fun _ => rfl, rfl, if_neg (by omega)⟩, rfl⟩
theorem sC_L {X : Mem} {a : Nat} {l : List Int64} (h : 244 ≤ a) : sC X (pL X a l) := ⟨fun b hb => ⟨fun _ => rfl, rfl, if_neg (by omega)⟩, rfl⟩
theorem sC_W {X : Mem} {w : Int64} : sC X (pW X w) := ⟨fun _ _ => ⟨fun _ => rfl, rfl, rfl⟩, rfl⟩
theorem sR_I {X : Mem} {b : Option Nat} : sR X (pI X b) := ⟨fun _ _ => ⟨fun _ => rfl, rfl, rfl⟩, rfl⟩
/-- a line of the class's book by one of the reference's -/
def c32 (v : Int32) : Int32 := nI (tn v / 21 * 32 + tn v % 21)
/-- what is now, by 38 numbers: marks, year, x, fund, lines, strokes, book -/
def nowG (r : Nat → Int32) (k : Nat) : Int32 := if k = 0 then r 0 else if k < 13 then r (5 + k) else r (1179 + k)
def stG (r : Nat → Int32) (i k : Nat) : Int32 := r (52 + 38 * i + k)
def CNow (X : Mem) (a : Nat) (g : Nat → Int32) : Prop := kd a = 2 ∧ X.1 a 0 = g 0 ∧ X.1 a 3 = g 1 ∧ X.1 a 4 = g 2 ∧ X.1 a 2 = g 3 ∧ X.1 a 5 = g 4 ∧ (∀ i, i < 8 → (X.2.1 (a + 1)).getD i 0 = g (5 + i)) ∧ ∀ i, i < 25 → (X.2.1 (a + 2)).getD i 0 = c32 (g (13 + i))
/-- the class's office at H holds what the row r tells -/
def CHeld (X : Mem) (H : Nat) (r : Nat → Int32) : Prop := CNow X (H + 1) (nowG r) ∧ (X.1 (H + 4) 2 = r 3 ∧ ∃ e, e < 30 ∧ X.1 (H + 4) 1 = nI e ∧ ∀ i, i < tn (r 3) → CNow X (H + 6 + 3 * ((e + i) % 30)) (stG r i)) ∧ (∀ i, i < 8 → (X.2.1 (H + 96)).getD i 0 = r (18 + i)) ∧ (X.1 H 3 = r 1 ∧ X.1 H 4 = r 2 ∧ X.1 H 5 = r 26 ∧ X.1 H 6 = r 27 ∧ X.1 H 7 = r 5) ∧ ∀ i, i < 8 → (X.2.1 (H + 97)).getD i 0 = r (28 + 3 * i) ∧ (X.2.1 (H + 98)).getD i 0 = r (28 + 3 * i + 1) ∧ (X.2.1 (H + 99)).getD i 0 = r (28 + 3 * i + 2)
/-- a text: its laws, how many clauses, their kinds, first and second numbers -/
abbrev TX : Type := Option (Env → Int) × (Option (Env → Int) × (Nat × ((Nat → Nat) × ((Nat → Nat) × (Nat → Nat)))))
def CTxt (X : Mem) (T : Nat) (x : TX) : Prop := ∃ cw, TC X T cw ∧ LwV X T 2 cw x.1 ∧ LwV X T 5 cw x.2.1 ∧ X.1 T 8 = nI x.2.2.1 ∧ ∀ k, k < x.2.2.1 → (X.2.1 (T + 2)).getD k 0 = nI (x.2.2.2.1 k) ∧ (2 ≤ x.2.2.2.1 k → (X.2.1 (T + 3)).getD k 0 = nI (x.2.2.2.2.1 k)) ∧ (x.2.2.2.1 k = 3 ∨ x.2.2.2.1 k = 4 → (X.2.1 (T + 4)).getD k 0 = nI (x.2.2.2.2.2 k))
def RTxt (X : Mem) (t : Nat) (x : TX) : Prop := ∃ oc vc, TRw X t oc vc ∧ TRl X t x.2.2.1 x.2.2.2.1 ∧ LwR X t 0 x.2.2.1 x.2.2.2.1 oc vc x.1 ∧ LwR X t 1 x.2.2.1 x.2.2.2.1 oc vc x.2.1 ∧ ∀ k, k < x.2.2.1 → (2 ≤ x.2.2.2.1 k → (X.2.1 251).getD (681 * t + 1 + 3 * k + 1) 0 = nI (x.2.2.2.2.1 k)) ∧ (x.2.2.2.1 k = 3 ∨ x.2.2.2.1 k = 4 → (X.2.1 251).getD (681 * t + 1 + 3 * k + 2) 0 = nI (x.2.2.2.2.2 k))
/-- what a text can be -/
def okT (x : TX) : Prop := x.2.2.1 ≤ 24 ∧ (∀ k, k < x.2.2.1 → x.2.2.2.1 k < 7 ∧ (x.2.2.2.1 k = 2 → x.2.2.2.2.1 k < 1048576) ∧ (x.2.2.2.1 k = 3 ∨ x.2.2.2.1 k = 4 → x.2.2.2.2.1 k < 20 ∧ x.2.2.2.2.2 k < 8) ∧ (x.2.2.2.1 k = 5 → x.2.2.2.2.1 k < 8) ∧ (x.2.2.2.1 k = 6 → 1 ≤ x.2.2.2.2.1 k ∧ x.2.2.2.2.1 k ≤ 60)) ∧ ∀ d, x.2.1 = some d → ∀ (m : Nat) (st : Nat → Nat) (y f k : Nat) (w w' : Int), d (m, st, y, f, k, w) = d (m, st, y, f, k, w')
/-- all that both hold: the row, the image's, the tape, its length, fault, place, texts -/
abbrev Sg : Type := (Nat → Int32) × ((Nat → Int32) × ((Nat → Int32) × (Nat × (Int32 × (Int32 × (Nat → TX))))))
def CI (X : Mem) (s : Sg) : Prop := CHeld X 18 s.1 ∧ CHeld X 118 s.2.1 ∧ (∀ i, i < 300 → (X.2.1 9).getD i 0 = s.2.2.1 i) ∧ (X.1 8 1 = nI s.2.2.2.1 ∧ X.1 8 2 = s.2.2.2.2.1 ∧ X.1 8 3 = s.2.2.2.2.2.1) ∧ ∀ t, t < tn (s.1 1) → t < 4 → CTxt X (txT t) (s.2.2.2.2.2.2 t)
def RI (X : Mem) (s : Sg) : Prop := X.2.1 245 = ofF 1217 s.1 ∧ X.2.1 246 = ofF 1217 s.2.1 ∧ (∀ i, i < 300 → (X.2.1 253).getD i 0 = s.2.2.1 i) ∧ (X.1 244 9 = nI s.2.2.2.1 ∧ X.1 244 10 = s.2.2.2.2.1 ∧ X.1 244 11 = s.2.2.2.2.2.1 ∧ X.1 244 30 = nI 1) ∧ ∀ t, t < tn (s.1 1) → t < 4 → RTxt X t (s.2.2.2.2.2.2 t)
def bdN (k : Nat) : Nat := if k = 0 then 8 else if k = 1 then 9999 else if k = 2 then 30982 else if k = 3 then 999999 else if k = 4 then 25 else if k < 13 then 1048575 else 6719999
def bdS (k : Nat) : Nat := if k % 3 = 0 then 7 else if k % 3 = 1 then 19 else 10
def bd (j : Nat) : Nat := if j = 0 then 8 else if j = 1 then 4 else if j = 3 then 30 else if j = 4 then 20 else if j = 5 then 8 else if j = 6 then 9999 else if j = 7 then 30982 else if j = 8 then 999999 else if j = 9 then 25 else if j < 28 then 1048575 else if j < 52 then bdS (j - 28) else if j < 1192 then bdN ((j - 52) % 38) else 6719999
/-- what a row can be -/
def WFr (r : Nat → Int32) : Prop := (∀ j, j < 1217 → j ≠ 2 → inR (r j) (bd j) = true) ∧ (r 2 = -1 ∨ mkB (tn (r 1)) (r 2) = true) ∧ r 4 = nI (bc (tn (r 26) ||| tn (r 27))) ∧ ∀ i, i < tn (r 5) → tn (r (28 + 3 * i)) < tn (r 0)
def WFs (s : Sg) : Prop := WFr s.1 ∧ WFr s.2.1 ∧ tn (s.2.1 1) ≤ tn (s.1 1) ∧ (s.2.2.2.1 ≤ 300 ∧ ∀ i, i < 300 → inR (s.2.2.1 i) 255 = true) ∧ ∀ t, t < tn (s.1 1) → okT (s.2.2.2.2.2.2 t)
theorem bd_ck : allN (fun j => decide (bd j < 2147483648)) 1217 = true := by decide +kernel
theorem wf_n {r : Nat → Int32} (h : WFr r) {j : Nat} (hj : j < 1217) (h2 : j ≠ 2) : r j = nI (tn (r j)) ∧ tn (r j) ≤ bd j := by
  have hb : bd j < 2147483648 := of_decide_eq_true (allN_iff.mp bd_ck j hj)
  obtain ⟨q, hq, e⟩ := inR_n (h.1 j hj h2) hb
  rw [e, tn_nI (by omega)]
  exact ⟨rfl, hq⟩
theorem CNow_c {X Y : Mem} (h : sC X Y) {a : Nat} {g : Nat → Int32} (hn : CNow X a g) : CNow Y a g := by
  have ha := now_f hn.1
  obtain ⟨h1, h2, h3, h4, h5, h6, h7, h8⟩ := hn
  have e := (h.1 a (by omega)).1
  refine ⟨h1, by rw [e, h2], by rw [e, h3], by rw [e, h4], by rw [e, h5], by rw [e, h6], fun i hi => ?_, fun i hi => ?_⟩
  · rw [(h.1 (a + 1) (by omega)).2.1]; exact h7 i hi
  · rw [(h.1 (a + 2) (by omega)).2.1]; exact h8 i hi
theorem CHeld_c {X Y : Mem} (h : sC X Y) {H : Nat} {r : Nat → Int32} (hH : H + 99 < 244) (hn : CHeld X H r) : CHeld Y H r := by
  obtain ⟨h1, ⟨h2, e, he, h3, h4⟩, h5, ⟨g1, g2, g3, g4, g5⟩, h7⟩ := hn
  have e0 := (h.1 H (by omega)).1
  have e4 := (h.1 (H + 4) (by omega)).1
  refine ⟨CNow_c h h1, ⟨by rw [e4, h2], e, he, by rw [e4, h3], fun i hi => CNow_c h (h4 i hi)⟩, fun i hi => ?_, ⟨by rw [e0, g1], by rw [e0, g2], by rw [e0, g3], by rw [e0, g4], by rw [e0, g5]⟩, fun i hi => ?_⟩
  · rw [(h.1 (H + 96) (by omega)).2.1]; exact h5 i hi
  · rw [(h.1 (H + 97) (by omega)).2.1, (h.1 (H + 98) (by omega)).2.1, (h.1 (H + 99) (by omega)).2.1]; exact h7 i hi
theorem TC_c {X Y : Mem} (h : sC X Y) {T : Nat} {cw : Nat → Nat} (hT : TC X T cw) : TC Y T cw := by
  have h5 := (txt_f hT.1).2.2.2.2
  refine ⟨hT.1, fun p hp => ?_⟩
  rw [(h.1 (T + 1) (by omega)).2.1]
  exact hT.2 p hp
theorem LwV_c {X Y : Mem} {T f : Nat} {cw : Nat → Nat} {D : Option (Env → Int)} (e : ∀ k, Y.1 T k = X.1 T k) (hl : LwV X T f cw D) : LwV Y T f cw D := by
  refine ⟨by rw [e]; exact hl.1, fun d hd => ?_⟩
  obtain ⟨a, b, h1, h2, h3⟩ := hl.2 d hd
  exact ⟨a, b, by rw [e]; exact h1, by rw [e]; exact h2, h3⟩
theorem CTxt_c {X Y : Mem} (h : sC X Y) {T : Nat} {x : TX} (hT : CTxt X T x) : CTxt Y T x := by
  obtain ⟨cw, h1, h2, h3, h4, h5⟩ := hT
  have t5 := (txt_f h1.1).2.2.2.2
  have e := (h.1 T (by omega)).1
  refine ⟨cw, TC_c h h1, LwV_c e h2, LwV_c e h3, by rw [e]; exact h4, fun k hk => ?_⟩
  rw [(h.1 (T + 2) (by omega)).2.1, (h.1 (T + 3) (by omega)).2.1, (h.1 (T + 4) (by omega)).2.1]
  exact h5 k hk
theorem CI_c {X Y : Mem} (h : sC X Y) {s : Sg} (hc : CI X s) : CI Y s := by
  obtain ⟨h1, h2, h3, ⟨g1, g2, g3⟩, h5⟩ := hc
  have e := (h.1 8 (by decide)).1
  refine ⟨CHeld_c h (by decide) h1, CHeld_c h (by decide) h2, fun i hi => ?_, ⟨by rw [e]; exact g1, by rw [e]; exact g2, by rw [e]; exact g3⟩, fun t ht ht4 => CTxt_c h (h5 t ht ht4)⟩
  rw [(h.1 9 (by decide)).2.1]
  exact h3 i hi
theorem RTxt_e {X Y : Mem} (e : Y.2.1 251 = X.2.1 251) {t : Nat} {x : TX} (hT : RTxt X t x) : RTxt Y t x := by
  obtain ⟨oc, vc, h1, h2, h3, h4, h5⟩ := hT
  refine ⟨oc, vc, ⟨h1.1, fun i hi => by rw [e]; exact h1.2 i hi⟩, ⟨h2.1, h2.2.1, by rw [e]; exact h2.2.2.1, fun k hk => by rw [e]; exact h2.2.2.2 k hk⟩, ⟨h3.1, fun d hd => by rw [e]; exact h3.2 d hd⟩, ⟨h4.1, fun d hd => by rw [e]; exact h4.2 d hd⟩, fun k hk => by rw [e]; exact h5 k hk⟩
theorem RI_r {X Y : Mem} (h : sR X Y) {s : Sg} (hc : RI X s) : RI Y s := by
  obtain ⟨h1, h2, h3, ⟨g1, g2, g3, g4⟩, h5⟩ := hc
  have e := (h.1 244 (by decide)).1
  refine ⟨by rw [(h.1 245 (by decide)).2.1]; exact h1, by rw [(h.1 246 (by decide)).2.1]; exact h2, fun i hi => ?_, ⟨by rw [e]; exact g1, by rw [e]; exact g2, by rw [e]; exact g3, by rw [e]; exact g4⟩, fun t ht ht4 => RTxt_e (h.1 251 (by decide)).2.1 (h5 t ht ht4)⟩
  rw [(h.1 253 (by decide)).2.1]
  exact h3 i hi
