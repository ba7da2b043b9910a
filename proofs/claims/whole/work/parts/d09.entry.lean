/-! what the Statement gives of the start, and the picture of it -/
def preL : List Cond := flatC (Jvm.Cond.and given_1 narrow_1)
def tmP : Term := .static "MarkOffice$Strokes" "POINTS_OF" "[I"
def tmM : Term := .static "MarkOffice$Strokes" "MOVED" "[I"
def tmS (k : Nat) : Term := .string "MarkOffice$Tokens" k
def tmV (k : Nat) : Term := .field (tmS k) "java/lang/String" "value" "[B"
def elC (tm : Term) (xs : List Nat) : List Cond := (List.range xs.length).map (fun j => .eq (.elem tm (.int (Int32.ofNat j))) (.int (nI (xs.getD j 0))))
theorem pr_P : (preL.drop 175).take 20 = elC tmP POL := by decide +kernel
theorem pr_M : (preL.drop 12).take 160 = elC tmM MVL := by decide +kernel
theorem pr_W : (preL.drop 217).take 156 = elC (tmV 55) WBL := by decide +kernel
theorem pr_S : (preL.drop 377).take 11 = elC (tmV 65) SBL := by decide +kernel
theorem len_lt {args : Array Value} {first s : State} {o : Option Outcome} {idx : List Nat} {t : Term} {v : Value} (h : (Term.length t).eval args first o idx s = some v) : ∃ (a : Nat) (cell : Cell), t.eval args first o idx s = some (.ref a) ∧ s.heap[a]? = some cell ∧ cell.slots.size < 2147483648 := by
  simp only [Term.eval, Option.bind_eq_bind] at h
  cases ht : t.eval args first o idx s with
  | none => simp [ht] at h
  | some x =>
    cases x <;> simp [ht] at h
    case ref a =>
      obtain ⟨cell, hcell, h⟩ := Option.bind_eq_some_iff.mp h
      by_cases hn : cell.slots.size < 2147483648
      · exact ⟨a, cell, rfl, (State.arrayAt?_spec hcell).1, hn⟩
      · rw [if_neg hn] at h; cases h
/-- a table of whole numbers stands at t -/
def Tb (s : State) (ty : FieldType) (t : Nat) (xs : List Int32) : Prop := ∃ cell : Cell, s.heap[t]? = some cell ∧ s.isArrayOf cell ty ∧ cell.vm ≠ .unknown ∧ cell.slots.toList = xs.map Value.int
theorem Tb.lt {s : State} {ty : FieldType} {t : Nat} {xs : List Int32} (h : Tb s ty t xs) : t < s.heap.size := by
  obtain ⟨cell, h1, -⟩ := h
  exact (Array.getElem?_eq_some_iff.mp h1).1
theorem tab_at {args : Array Value} {s : State} {tm : Term} {ty : FieldType} {xs : List Nat} (i0 n : Nat) (hn : xs.length = n) (hx : n < 2 ^ 31) (h : ∀ w ∈ preL, w.before args s = true) (harr : Cond.arrayOf tm ty ∈ preL) (hlen : Cond.eq (.length tm) (.int (Int32.ofNat n)) ∈ preL) (hel : (preL.drop i0).take n = elC tm xs) : ∃ t : Nat, tm.eval args s none [] s = some (.ref t) ∧ Tb s ty t (xs.map nI) := by
  subst hn
  have he : ∀ j : Nat, j < xs.length → Cond.eq (.elem tm (.int (Int32.ofNat j))) (.int (nI (xs.getD j 0))) ∈ preL := by
    intro j hj
    have hm : Cond.eq (.elem tm (.int (Int32.ofNat j))) (.int (nI (xs.getD j 0))) ∈ (preL.drop i0).take xs.length := by
      rw [hel]
      exact List.mem_map.mpr ⟨j, List.mem_range.mpr hj, rfl⟩
    exact List.mem_of_mem_drop (List.mem_of_mem_take hm)
  have hl := va_eqt (h _ hlen)
  obtain ⟨t, ht, cell, c1, c2, c3, c4, c5, c6, -⟩ := va_Tof (f := fun j => .int (nI (xs.getD j 0))) (A := fun _ => False) hx (h _ harr) hl (fun j hj => va_eqt (h _ (he j hj))) (fun _ _ q => q)
  obtain ⟨a, cell2, q1, q2, q3⟩ := len_lt hl
  cases ht.symm.trans q1
  cases c1.symm.trans q2
  have hs : cell.slots.size = xs.length := by
    have e := congrArg Int32.toNatClampNeg c5
    have e1 : (cell.slots.size.toInt32).toNatClampNeg = cell.slots.size := Int32.toNatClampNeg_ofNat_of_lt q3
    have e2 : (Int32.ofNat xs.length).toNatClampNeg = xs.length := Int32.toNatClampNeg_ofNat_of_lt hx
    omega
  refine ⟨t, ht, cell, c1, c2, c3, ?_⟩
  apply List.ext_getElem?
  intro j
  rw [Array.getElem?_toList, List.getElem?_map, List.getElem?_map]
  by_cases hj : j < xs.length
  · rw [c6 j hj]
    show some (Value.int (nI (xs.getD j 0))) = _
    rw [List.getElem?_eq_getElem hj, List.getD_eq_getElem?_getD, List.getElem?_eq_getElem hj]
    rfl
  · rw [Array.getElem?_eq_none (by omega), List.getElem?_eq_none (by omega)]
    rfl
theorem str_at {args : Array Value} {s : State} {k t : Nat} (h : ∀ w ∈ preL, w.before args s = true) (hex : Cond.exactly (tmS k) "java/lang/String" ∈ preL) (hco : Cond.eq (.field (tmS k) "java/lang/String" "coder" "B") (.int 0) ∈ preL) (ht : (tmV k).eval args s none [] s = some (.ref t)) : ∃ a : Nat, a < s.heap.size ∧ (tmS k).eval args s none [] s = some (.ref a) ∧ va_O "java/lang/String" a (fun q => s.heap.size ≤ q) s s.heap ∧ va_OF "java/lang/String" "coder" "B" (.int 0) a (fun q => s.heap.size ≤ q) s s.heap ∧ va_OF "java/lang/String" "value" "[B" (.ref t) a (fun q => s.heap.size ≤ q) s s.heap := by
  obtain ⟨a, c, cA, kA, q1, q2, q3, q4, q5, q6, -⟩ := Cond.exactly_spec (args := args) (first := s) (o := none) (s := s) (idx := []) (h _ hex)
  have hA : ∀ q : Nat, q < s.heap.size → ¬ (fun q => s.heap.size ≤ q) q := fun _ hq => Nat.not_le.mpr hq
  exact ⟨a, (Array.getElem?_eq_some_iff.mp q3).1, q1, va_Oof (h _ hex) q1 hA, vk_OFof q1 (va_eqt (h _ hco)) hA, vk_OFof q1 ht hA⟩
theorem st_K {args : Array Value} {s : State} (hta : ∀ w ∈ ALLW, w.before args s = true) : ∃ D : va_G, va_K D vwCl [] s := by
  obtain ⟨c0, i0, h0⟩ := u_known (C := RX0) (T := TX0) (N := 11) (n := 11) hta cw_0 (hta _ w_inst_0)
  obtain ⟨c1, i1, h1⟩ := u_known (C := RX1) (T := TX1) (N := 2) (n := 2) hta cw_1 (hta _ w_inst_1)
  obtain ⟨c2, i2, h2⟩ := u_known (C := RX2) (T := TX2) (N := 7) (n := 7) hta cw_2 (hta _ w_inst_2)
  obtain ⟨c3, i3, h3⟩ := u_known (C := RX3) (T := TX3) (N := 7) (n := 7) hta cw_3 (hta _ w_inst_3)
  obtain ⟨c4, i4, h4⟩ := u_known (C := RX4) (T := TX4) (N := 3) (n := 3) hta cw_4 (hta _ w_inst_4)
  obtain ⟨c5, i5, h5⟩ := u_known (C := RX6) (T := TX6) (N := 12) (n := 12) hta cw_5 (hta _ w_inst_5)
  obtain ⟨c6, i6, h6⟩ := u_known (C := RX7) (T := TX7) (N := 6) (n := 6) hta cw_6 (hta _ w_inst_6)
  obtain ⟨c7, i7, h7⟩ := u_known (C := RX8) (T := TX8) (N := 13) (n := 13) hta cw_7 (hta _ w_inst_7)
  obtain ⟨c8, i8, h8⟩ := u_known (C := RX9) (T := TX9) (N := 37) (n := 37) hta cw_8 (hta _ w_inst_8)
  have h0 : ∀ k : Nat, ∃ y : ClassId × (Nat → Nat), ∀ q : vw_C, vwCl[k]? = some q → u_Kn s q.1 q.2.1 q.2.2 y.1 y.2 := by
    intro k
    match k with
    | 0 => exact ⟨(c0, i0), fun q hq => by cases hq; exact h0⟩
    | 1 => exact ⟨(c1, i1), fun q hq => by cases hq; exact h1⟩
    | 2 => exact ⟨(c2, i2), fun q hq => by cases hq; exact h2⟩
    | 3 => exact ⟨(c3, i3), fun q hq => by cases hq; exact h3⟩
    | 4 => exact ⟨(c4, i4), fun q hq => by cases hq; exact h4⟩
    | 5 => exact ⟨(c5, i5), fun q hq => by cases hq; exact h5⟩
    | 6 => exact ⟨(c6, i6), fun q hq => by cases hq; exact h6⟩
    | 7 => exact ⟨(c7, i7), fun q hq => by cases hq; exact h7⟩
    | 8 => exact ⟨(c8, i8), fun q hq => by cases hq; exact h8⟩
    | k + 9 => exact ⟨(c0, i0), fun q hq => by simp [vwCl] at hq⟩
  obtain ⟨f, hf⟩ := Classical.axiomOfChoice h0
  exact ⟨(fun k => (f k).1, fun k => (f k).2), hf, fun k q h => by simp at h⟩
/-- the formatter: a reference or null, nobody asks which -/
theorem st_F {args : Array Value} {s : State} (hts : ∀ w ∈ lw_tbl, w.before args s = true) (h : ∀ w ∈ preL, w.before args s = true) : ∃ z t : Nat, va_Z "jdk/internal/util/Preconditions" "SIOOBE_FORMATTER" "Ljava/util/function/BiFunction;" (if z = 0 then .null else .ref t) (fun q => s.heap.size ≤ q) s s.heap := by
  rcases va_Zqof (A := fun q => s.heap.size ≤ q) (hts (.laysStatic "jdk/internal/util/Preconditions" "SIOOBE_FORMATTER" "Ljava/util/function/BiFunction;") (by decide +kernel)) (hts (.initialized "jdk/internal/util/Preconditions") (by decide +kernel)) (h (.isRef (.static "jdk/internal/util/Preconditions" "SIOOBE_FORMATTER" "Ljava/util/function/BiFunction;")) (by decide +kernel)) (fun _ hq => Nat.not_le.mpr hq) with q | ⟨t, q⟩
  · exact ⟨0, 0, by rw [if_pos rfl]; exact q⟩
  · exact ⟨1, t, by rw [if_neg (by decide)]; exact q⟩
def Gp0 (b p m w wv g gv z t : Nat) (k : Nat) : Nat := if k = 0 then b else if k = 1 then p else if k = 2 then m else if k = 3 then w else if k = 4 then wv else if k = 5 then g else if k = 6 then gv else if k = 8 then z else if k = 9 then t else b
theorem st_Fx {args : Array Value} {s : State} {b : Nat} (hts : ∀ w ∈ lw_tbl, w.before args s = true) (h : ∀ w ∈ preL, w.before args s = true) (hb : b < s.heap.size) : ∃ (p m w wv g gv z t : Nat) (D : va_G), Fx (s.heap, (Gp0 b p m w wv g gv z t, D)) s ∧ Tb s .int p (POL.map nI) ∧ Tb s .int m (MVL.map nI) ∧ Tb s .byte wv (WBL.map nI) ∧ Tb s .byte gv (SBL.map nI) := by
  obtain ⟨D, hK⟩ := st_K (fun w hw => hts w (List.mem_filter.mp hw).1)
  obtain ⟨p, p1, p2⟩ := tab_at (tm := tmP) (ty := .int) (xs := POL) 175 20 rfl (by decide) h (by decide +kernel) (by decide +kernel) pr_P
  obtain ⟨m, m1, m2⟩ := tab_at (tm := tmM) (ty := .int) (xs := MVL) 12 160 rfl (by decide) h (by decide +kernel) (by decide +kernel) pr_M
  obtain ⟨wv, w1, w2⟩ := tab_at (tm := tmV 55) (ty := .byte) (xs := WBL) 217 156 rfl (by decide) h (by decide +kernel) (by decide +kernel) pr_W
  obtain ⟨gv, g1, g2⟩ := tab_at (tm := tmV 65) (ty := .byte) (xs := SBL) 377 11 rfl (by decide) h (by decide +kernel) (by decide +kernel) pr_S
  obtain ⟨w, w3, w4, w5⟩ := str_at (k := 55) h (by decide +kernel) (by decide +kernel) w1
  obtain ⟨g, g3, g4, g5⟩ := str_at (k := 65) h (by decide +kernel) (by decide +kernel) g1
  obtain ⟨z, t, f1⟩ := st_F hts h
  have hA : ∀ q : Nat, q < s.heap.size → ¬ (fun q => s.heap.size ≤ q) q := fun _ hq => Nat.not_le.mpr hq
  have zP := va_Zof (A := fun q => s.heap.size ≤ q) (hts (.laysStatic "MarkOffice$Strokes" "POINTS_OF" "[I") (by decide +kernel)) (hts (.initialized "MarkOffice$Strokes") (by decide +kernel)) p1 hA
  have zM := va_Zof (A := fun q => s.heap.size ≤ q) (hts (.laysStatic "MarkOffice$Strokes" "MOVED" "[I") (by decide +kernel)) (hts (.initialized "MarkOffice$Strokes") (by decide +kernel)) m1 hA
  have zC := va_Zof (A := fun q => s.heap.size ≤ q) (hts (.laysStatic "java/lang/String" "COMPACT_STRINGS" "Z") (by decide +kernel)) (hts (.initialized "java/lang/String") (by decide +kernel)) (va_eqt (z := 1) (h (.eq (.static "java/lang/String" "COMPACT_STRINGS" "Z") (.int 1)) (by decide +kernel))) hA
  have lp := p2.lt
  have lm := m2.lt
  have lw := w2.lt
  have lg := g2.lt
  refine ⟨p, m, w, wv, g, gv, z, t, D, ⟨hK, fun q hq => ?_, fun k hk => ?_, ⟨zP, zM, zC, f1⟩, ⟨vk_R.of (A := args) (hts (.stringRef "MarkOffice$Tokens" 55 WORDS0) (by decide +kernel)) w4, vk_R.of (A := args) (hts (.stringRef "MarkOffice$Tokens" 65 SIGNS0) (by decide +kernel)) g4⟩, ⟨va_AO.of (A := args) (hts (.arrayOver (.object "MarkOffice$Text")) (by decide +kernel)), va_AO.of (A := args) (hts (.arrayOver (.object "MarkOffice$Now")) (by decide +kernel))⟩, fun k hk => ?_⟩, p2, m2, w2, g2⟩
  · have hq2 := (List.mem_filter.mp hq).2
    refine va_Nw.of ?_ (hts q (List.mem_filter.mp hq).1)
    cases q <;> first | rfl | (exact absurd hq2 (by decide)) | (simp [isNestW] at hq2)
  · show Gp0 b p m w wv g gv z t k < s.heap.size
    unfold Gp0
    repeat' split
    all_goals first | assumption | omega
  · rcases hk with rfl | rfl
    · exact w5
    · exact g5
