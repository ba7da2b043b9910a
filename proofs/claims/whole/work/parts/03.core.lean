/-! The judgement J: from this place of a method's code, with these locals, this stack and this picture of the heap, the method ends, and answer and picture are as Q says. Its rules, one an instruction, stand on the kit's rows. -/
abbrev MInfo : Type := MethodName × (ByteArray × (Nat × (Option FieldType × String)))
abbrev MCell : Type := Nat × (List Value ⊕ (List Int32 ⊕ List Int64))
abbrev MH : Type := Nat × (Nat × List MCell)
abbrev MLoc : Type := List (Option Value)
abbrev GC : Type := Heap × ((Nat → Nat) × va_G)
def ALLW : List Cond := lw_tbl.filter goodWord
def isNestW : Cond → Bool
  | .methodLinkNest .. => true
  | _ => false
def nestW : List Cond := lw_tbl.filter isNestW
theorem aw_of {i : Nat} {w : Cond} (h : lw_tbl[i]? = some w) (g : goodWord w = true) : w ∈ ALLW := List.mem_filter.mpr ⟨List.mem_of_getElem? h, g⟩
theorem nw_of {i : Nat} {w : Cond} (h : lw_tbl[i]? = some w) (g : isNestW w = true) : w ∈ nestW := List.mem_filter.mpr ⟨List.mem_of_getElem? h, g⟩
def gb (G : GC) : Nat := G.1.size
def gA (G : GC) : Nat → Prop := fun q => gb G ≤ q
def gr (G : GC) (k : Nat) : Nat := if k < 8 then G.2.1 k else gb G + (k - 8)
def up (G : GC) : Value → Value
  | .ref k => .ref (gr G k)
  | v => v
def aty : Nat → Option FieldType
  | 20 => some .int
  | 21 => some .long
  | 22 => some .boolean
  | 23 => some .byte
  | _ => none
def cellR (G : GC) (U : State) (a : Nat) (H : Heap) (cl : MCell) : Prop := match cl.2 with
  | .inl vs => if cl.1 < 9 then ∃ r : vw_C, vwCl[cl.1]? = some r ∧ vs.length = r.2.2 ∧ t_OB a (G.2.2.1 cl.1) r.2.2 (G.2.2.2 cl.1) H (vp_V (vs.map (up G)))
      else if cl.1 < 30 then True
      else ∃ (r : vw_C) (cell : Cell), vwCl[cl.1 - 30]? = some r ∧ H[a]? = some cell ∧ U.isArrayOf cell (.object r.1) ∧ cell.vm = .none ∧ cell.slots.toList = vs.map (up G)
  | .inr (.inl xs) => ∃ (ty : FieldType) (cell : Cell), aty cl.1 = some ty ∧ H[a]? = some cell ∧ U.isArrayOf cell ty ∧ cell.vm ≠ .unknown ∧ cell.slots.toList = xs.map Value.int
  | .inr (.inr xs) => ∃ cell : Cell, cl.1 = 21 ∧ H[a]? = some cell ∧ U.isArrayOf cell .long ∧ cell.vm ≠ .unknown ∧ cell.slots.toList = xs.map Value.long
def WORDS0 : String := "wears fee draw add rub renew year to of stroke bar post frame turn tip with less size has if then else end or and not number strokes ends fund which pieces "
def SIGNS0 : String := "<>=#+-*/();"
/-- what is so of the tables in every state of a run, and of the cells that stood before it began -/
def Fx (G : GC) (U : State) : Prop :=
  va_K G.2.2 vwCl [] U ∧ (∀ w ∈ nestW, va_Nw w U) ∧ (∀ k, k < 8 → G.2.1 k < gb G) ∧
  (va_Z "MarkOffice$Strokes" "POINTS_OF" "[I" (.ref (G.2.1 1)) (gA G) U G.1 ∧ va_Z "MarkOffice$Strokes" "MOVED" "[I" (.ref (G.2.1 2)) (gA G) U G.1 ∧ va_Z "java/lang/String" "COMPACT_STRINGS" "Z" (.int 1) (gA G) U G.1 ∧ va_Z "jdk/internal/util/Preconditions" "SIOOBE_FORMATTER" "Ljava/util/function/BiFunction;" (.ref (G.2.1 7)) (gA G) U G.1) ∧
  (vk_R "MarkOffice$Tokens" 55 WORDS0 (G.2.1 3) U ∧ vk_R "MarkOffice$Tokens" 65 SIGNS0 (G.2.1 5) U) ∧
  ∀ k, (k = 3 ∨ k = 5) → va_O "java/lang/String" (G.2.1 k) (gA G) U G.1 ∧ va_OF "java/lang/String" "coder" "B" (.int 0) (G.2.1 k) (gA G) U G.1 ∧ va_OF "java/lang/String" "value" "[B" (.ref (G.2.1 (k + 1))) (G.2.1 k) (gA G) U G.1
theorem Fx.moved {G : GC} {u U : State} (hW : u.WarmedH U.vm) (h : Fx G u) : Fx G U := by
  obtain ⟨h1, h2, h3, ⟨z1, z2, z3, z4⟩, ⟨r1, r2⟩, h6⟩ := h
  have ha := hW.alike
  refine ⟨h1.moved ha, fun w hw => ?_, h3, ⟨z1.moved ha, z2.moved ha, z3.moved ha, z4.moved ha⟩, ⟨r1.warm hW, r2.warm hW⟩, fun k hk => ?_⟩
  · have hw2 := (List.mem_filter.mp hw).2
    have h0 := h2 w hw
    cases w <;> first | exact h0.warmM hW | (exact absurd hw2 (by decide)) | (simp [isNestW] at hw2)
  · obtain ⟨a, b, c⟩ := h6 k hk
    exact ⟨a.moved ha, b.moved ha, c.moved ha⟩
theorem Fx.same {G : GC} {u U : State} (hv : U.vm = u.vm) (h : Fx G u) : Fx G U := by
  obtain ⟨h1, h2, h3, ⟨z1, z2, z3, z4⟩, ⟨r1, r2⟩, h6⟩ := h
  have ha : u.vm.Alike U.vm := by rw [hv]; exact Vm.Alike.refl _
  refine ⟨h1.moved ha, fun w hw => ?_, h3, ⟨z1.moved ha, z2.moved ha, z3.moved ha, z4.moved ha⟩, ⟨r1.same hv, r2.same hv⟩, fun k hk => ?_⟩
  · have hw2 := (List.mem_filter.mp hw).2
    have h0 := h2 w hw
    cases w <;> first | exact h0.same rfl hv.symm | (exact absurd hw2 (by decide)) | (simp [isNestW] at hw2)
  · obtain ⟨a, b, c⟩ := h6 k hk
    exact ⟨a.moved ha, b.moved ha, c.moved ha⟩
/-- the picture of the heap -/
def Rl (G : GC) (U : State) (h : MH) (H : Heap) : Prop := H.size + 8 = gb G + h.1 ∧ h.2.2.length = h.1 ∧ 8 ≤ h.1 ∧ ∀ (k : Nat) (cl : MCell), h.2.2[k]? = some cl → cellR G U (gr G k) H cl
theorem cellR.moved {G : GC} {u U : State} {a : Nat} {H : Heap} {cl : MCell} (ha : u.vm.Alike U.vm) (h : cellR G u a H cl) : cellR G U a H cl := by
  obtain ⟨t, v⟩ := cl
  cases v with
  | inl vs =>
    unfold cellR at h ⊢
    dsimp only at h ⊢
    split
    · rw [if_pos (by assumption)] at h
      exact h
    · rw [if_neg (by assumption)] at h
      split
      · trivial
      · rw [if_neg (by assumption)] at h
        obtain ⟨r, cell, a1, a2, a3, a4, a5⟩ := h
        exact ⟨r, cell, a1, a2, State.isArrayOf_alike ha a3, a4, a5⟩
  | inr v =>
    cases v with
    | inl xs =>
      obtain ⟨ty, cell, a1, a2, a3, a4⟩ := h
      exact ⟨ty, cell, a1, a2, State.isArrayOf_alike ha a3, a4⟩
    | inr xs =>
      obtain ⟨cell, a1, a2, a3, a4⟩ := h
      exact ⟨cell, a1, a2, State.isArrayOf_alike ha a3, a4⟩
theorem Rl.moved {G : GC} {u U : State} {h : MH} {H : Heap} (ha : u.vm.Alike U.vm) (hR : Rl G u h H) : Rl G U h H := ⟨hR.1, hR.2.1, hR.2.2.1, fun k cl hk => (hR.2.2.2 k cl hk).moved ha⟩
theorem cellR.kept {G : GC} {U : State} {a : Nat} {H H1 : Heap} {cl : MCell} (hq : H1[a]? = H[a]?) (h : cellR G U a H cl) : cellR G U a H1 cl := by
  obtain ⟨t, v⟩ := cl
  cases v with
  | inl vs =>
    unfold cellR at h ⊢
    dsimp only at h ⊢
    split
    · rw [if_pos (by assumption)] at h
      obtain ⟨r, a1, a2, a3⟩ := h
      exact ⟨r, a1, a2, a3.kept hq⟩
    · rw [if_neg (by assumption)] at h
      split
      · trivial
      · rw [if_neg (by assumption)] at h
        obtain ⟨r, cell, a1, a2, a3⟩ := h
        exact ⟨r, cell, a1, by rw [hq]; exact a2, a3⟩
  | inr v =>
    cases v with
    | inl xs =>
      obtain ⟨ty, cell, a1, a2, a3⟩ := h
      exact ⟨ty, cell, a1, by rw [hq]; exact a2, a3⟩
    | inr xs =>
      obtain ⟨cell, a1, a2, a3⟩ := h
      exact ⟨cell, a1, by rw [hq]; exact a2, a3⟩
/-- the locals -/
def clr : Option Value → Option Value
  | some (.long _) => none
  | some (.double _) => none
  | x => x
def stL (L : MLoc) (i : Nat) (v : Value) : MLoc := match i with
  | 0 => L.set 0 (some v)
  | i + 1 => (L.modify i clr).set (i + 1) (some v)
def stL2 (L : MLoc) (i : Nat) (v : Value) : MLoc := (stL L i v).set (i + 1) none
def lvR (G : GC) (ls : Array Slot) (nL : Nat) (L : MLoc) : Prop := ls.size = nL ∧ lv_wf ls ∧ ∀ (i : Nat) (v : Value), L[i]? = some (some v) → ls[i]? = some (.val (up G v))
def asc (G : GC) (L : MLoc) : List (Nat × Value) := (List.range L.length).filterMap (fun i => match L[i]? with
  | some (some v) => some (i, up G v)
  | _ => none)
theorem asc_mem {G : GC} {L : MLoc} {i : Nat} {v : Value} (h : L[i]? = some (some v)) : (i, up G v) ∈ asc G L := by
  have hl : i < L.length := (List.getElem?_eq_some_iff.mp h).1
  exact List.mem_filterMap.mpr ⟨i, List.mem_range.mpr hl, by rw [h]⟩
theorem lvR.has {G : GC} {ls : Array Slot} {nL : Nat} {L : MLoc} (h : lvR G ls nL L) : lv_has ls nL (asc G L) := by
  refine ⟨h.1, h.2.1, fun q hq => ?_⟩
  obtain ⟨i, -, hi⟩ := List.mem_filterMap.mp hq
  split at hi
  · rename_i v hv
    cases hi
    exact h.2.2 i v hv
  · cases hi
theorem stL_get {L : MLoc} {i j : Nat} {v w : Value} (h : (stL L i v)[j]? = some (some w)) : (j = i ∧ w = v) ∨ (j ≠ i ∧ L[j]? = some (some w) ∧ (j + 1 = i → w.category = 1)) := by
  cases i with
  | zero =>
    unfold stL at h
    dsimp only at h
    rw [List.getElem?_set] at h
    split at h
    · rename_i e
      split at h
      · cases h; exact Or.inl ⟨e.symm, rfl⟩
      · cases h
    · rename_i e
      exact Or.inr ⟨fun q => e q.symm, h, fun q => by omega⟩
  | succ i =>
    unfold stL at h
    dsimp only at h
    rw [List.getElem?_set] at h
    split at h
    · rename_i e
      split at h
      · cases h; exact Or.inl ⟨e.symm, rfl⟩
      · cases h
    · rename_i e
      rw [List.getElem?_modify] at h
      by_cases hij : i = j
      · subst hij
        simp only [if_true] at h
        cases hx : L[i]? with
        | none => rw [hx] at h; cases h
        | some o =>
          rw [hx] at h
          cases o with
          | none => simp [clr] at h
          | some x =>
            cases x <;> simp [clr] at h <;> (subst h; exact Or.inr ⟨by omega, rfl, fun _ => rfl⟩)
      · simp only [if_neg hij] at h
        exact Or.inr ⟨fun q => e q.symm, by simpa using h, fun q => by omega⟩
theorem lvR_st1 {G : GC} {ls' : Array Slot} {nL i : Nat} {L : MLoc} {v : Value} (h : lv_has ls' nL ((i, up G v) :: (asc G L).filter (fun q => !(q.1 == i) && !(q.1 + 1 == i && q.2.category == 2)))) : lvR G ls' nL (stL L i v) := by
  refine ⟨h.1, h.2.1, fun j w hj => ?_⟩
  rcases stL_get hj with ⟨rfl, rfl⟩ | ⟨h1, h2, h3⟩
  · exact h.2.2 (j, up G w) List.mem_cons_self
  · refine h.2.2 (j, up G w) (List.mem_cons_of_mem _ (List.mem_filter.mpr ⟨asc_mem h2, ?_⟩))
    have hc : (up G w).category = w.category := by cases w <;> rfl
    by_cases e : j + 1 = i
    · simp [h1, hc, h3 e]
    · simp [h1, e]
theorem lvR_st2 {G : GC} {ls' : Array Slot} {nL i : Nat} {L : MLoc} {v : Value} (h : lv_has ls' nL ((i, up G v) :: (asc G L).filter (fun q => !(q.1 == i) && (!(q.1 == i + 1) && !(q.1 + 1 == i && q.2.category == 2))))) : lvR G ls' nL (stL2 L i v) := by
  refine ⟨h.1, h.2.1, fun j w hj => ?_⟩
  unfold stL2 at hj
  rw [List.getElem?_set] at hj
  split at hj
  · split at hj <;> cases hj
  · rename_i e
    rcases stL_get hj with ⟨rfl, rfl⟩ | ⟨h1, h2, h3⟩
    · exact h.2.2 (j, up G w) List.mem_cons_self
    · refine h.2.2 (j, up G w) (List.mem_cons_of_mem _ (List.mem_filter.mpr ⟨asc_mem h2, ?_⟩))
      have hc : (up G w).category = w.category := by cases w <;> rfl
      have e' : ¬ j = i + 1 := fun q => e q.symm
      by_cases e2 : j + 1 = i
      · simp [h1, e', hc, h3 e2]
      · simp [h1, e', e2]
/-- a method's own surroundings -/
def Cx (G : GC) (M : MInfo) (d : Nat) (p : Program) (R : Room) (s : State) (m : MethodId) (args : Array Value) (meth : Method) (c : Code) : Prop :=
  p.tables.exec = Jvm.exec ∧ c.code = M.2.1 ∧ c.maxLocals = M.2.2.1 ∧ s.vm.findClass M.2.2.2.2 = some m.cls ∧ (∀ w ∈ ALLW, w.before args s = true) ∧ (M.1.name = "<init>" → meth.name = "<init>") ∧ Fx G s ∧ d ≤ R.frames ∧ 64 * d ≤ R.locals
def RetAt (M : MInfo) (pc : Nat) : Option Value → Prop
  | none => decode M.2.1 pc = .ok (.return_, 1) ∧ M.2.2.2.1 = none
  | some (.int v) => decode M.2.1 pc = .ok (.ireturn, 1) ∧ ∃ ty, M.2.2.2.1 = some ty ∧ narrow ty (.int v) = .int v
  | some (.long _) => decode M.2.1 pc = .ok (.lreturn, 1) ∧ M.2.2.2.1 = some .long
  | some (.ref _) => decode M.2.1 pc = .ok (.areturn, 1) ∧ ∃ rt, M.2.2.2.1 = some rt ∧ ((∃ n, rt = .object n) ∨ ∃ t, rt = .array t)
  | some .null => decode M.2.1 pc = .ok (.areturn, 1) ∧ ∃ rt, M.2.2.2.1 = some rt ∧ ((∃ n, rt = .object n) ∨ ∃ t, rt = .array t)
  | _ => False

def J (d : Nat) (M : MInfo) (fc fs : Nat) (Q : Option Value → MH → Prop) (pc : Nat) (L : MLoc) (st : List Value) (h : MH) : Prop :=
  ∀ (G : GC) (p : Program) (l : Launch) (e : Env) (R : Room) (s : State) (m : MethodId) (args : Array Value) (below : List Frame) (meth : Method) (c : Code) (H : Heap) (locs : List Loc) (cells slots : Nat) (QQ : State → Prop) (ls : Array Slot), Cx G M d p R s m args meth c → lvR G ls M.2.2.1 L → Rl G s h H → va_S (gA G) G.1 H locs → (h.1 ≤ fc ∧ h.2.1 ≤ fs ∧ cells + (fc - h.1) ≤ R.cells ∧ slots + (fs - h.2.1) ≤ R.slots) →
    (∀ (r : Option Value) (h1 : MH) (H1 : Heap) (locs1 : List Loc) (pc1 : Nat) (ls1 : Array Slot), Q r h1 → h1.1 = fc → h1.2.1 = fs → Rl G s h1 H1 → va_S (gA G) G.1 H1 locs1 → RetAt M pc1 r → W p l e R s m args below meth c H1 locs1 (cells + (fc - h.1)) (slots + (fs - h.2.1)) QQ (F0 m pc1 ls1 ((r.map (up G)).toList))) →
    W p l e R s m args below meth c H locs cells slots QQ (F0 m pc ls (st.map (up G)))
theorem J_go {d : Nat} {M : MInfo} {fc fs : Nat} {Q : Option Value → MH → Prop} {pc : Nat} {L : MLoc} {st : List Value} {h : MH} {pc1 : Nat} {st1 : List Value} (hs : ∀ (G : GC) (p : Program) (l : Launch) (e : Env) (R : Room) (s : State) (m : MethodId) (args : Array Value) (below : List Frame) (meth : Method) (c : Code) (H : Heap) (locs : List Loc) (cells slots : Nat) (QQ : State → Prop) (ls : Array Slot), Cx G M d p R s m args meth c → lvR G ls M.2.2.1 L → Rl G s h H → va_S (gA G) G.1 H locs → W p l e R s m args below meth c H locs cells slots QQ (F0 m pc1 ls (st1.map (up G))) → W p l e R s m args below meth c H locs cells slots QQ (F0 m pc ls (st.map (up G)))) (k : J d M fc fs Q pc1 L st1 h) : J d M fc fs Q pc L st h :=
  fun G p l e R s m args below meth c H locs cells slots QQ ls hC hl hR hS hB hK => hs G p l e R s m args below meth c H locs cells slots QQ ls hC hl hR hS (k G p l e R s m args below meth c H locs cells slots QQ ls hC hl hR hS hB hK)
theorem J_br {d : Nat} {M : MInfo} {fc fs : Nat} {Q : Option Value → MH → Prop} {pc : Nat} {L : MLoc} {st : List Value} {h : MH} {pc1 pc2 : Nat} {st1 : List Value} {A B : Prop} (hs : ∀ (G : GC) (p : Program) (l : Launch) (e : Env) (R : Room) (s : State) (m : MethodId) (args : Array Value) (below : List Frame) (meth : Method) (c : Code) (H : Heap) (locs : List Loc) (cells slots : Nat) (QQ : State → Prop) (ls : Array Slot), Cx G M d p R s m args meth c → lvR G ls M.2.2.1 L → Rl G s h H → va_S (gA G) G.1 H locs → (A → W p l e R s m args below meth c H locs cells slots QQ (F0 m pc1 ls (st1.map (up G)))) → (B → W p l e R s m args below meth c H locs cells slots QQ (F0 m pc2 ls (st1.map (up G)))) → W p l e R s m args below meth c H locs cells slots QQ (F0 m pc ls (st.map (up G)))) (k1 : A → J d M fc fs Q pc1 L st1 h) (k2 : B → J d M fc fs Q pc2 L st1 h) : J d M fc fs Q pc L st h :=
  fun G p l e R s m args below meth c H locs cells slots QQ ls hC hl hR hS hB hK => hs G p l e R s m args below meth c H locs cells slots QQ ls hC hl hR hS (fun a => k1 a G p l e R s m args below meth c H locs cells slots QQ ls hC hl hR hS hB hK) (fun b => k2 b G p l e R s m args below meth c H locs cells slots QQ ls hC hl hR hS hB hK)
theorem J_st {d : Nat} {M : MInfo} {fc fs : Nat} {Q : Option Value → MH → Prop} {pc : Nat} {L : MLoc} {st : List Value} {h : MH} {pc1 : Nat} {st1 : List Value} {L1 : MLoc} (hs : ∀ (G : GC) (p : Program) (l : Launch) (e : Env) (R : Room) (s : State) (m : MethodId) (args : Array Value) (below : List Frame) (meth : Method) (c : Code) (H : Heap) (locs : List Loc) (cells slots : Nat) (QQ : State → Prop) (ls : Array Slot), Cx G M d p R s m args meth c → lvR G ls M.2.2.1 L → Rl G s h H → va_S (gA G) G.1 H locs → (∀ ls1 : Array Slot, lvR G ls1 M.2.2.1 L1 → W p l e R s m args below meth c H locs cells slots QQ (F0 m pc1 ls1 (st1.map (up G)))) → W p l e R s m args below meth c H locs cells slots QQ (F0 m pc ls (st.map (up G)))) (k : J d M fc fs Q pc1 L1 st1 h) : J d M fc fs Q pc L st h :=
  fun G p l e R s m args below meth c H locs cells slots QQ ls hC hl hR hS hB hK => hs G p l e R s m args below meth c H locs cells slots QQ ls hC hl hR hS (fun ls1 hl1 => k G p l e R s m args below meth c H locs cells slots QQ ls1 hC hl1 hR hS hB hK)
theorem J.eq {d : Nat} {M : MInfo} {fc fs : Nat} {Q : Option Value → MH → Prop} {pc : Nat} {L : MLoc} {st : List Value} {h : MH} {L1 : MLoc} {st1 : List Value} {h1 : MH} (k : J d M fc fs Q pc L1 st1 h1) (e1 : L = L1) (e2 : st = st1) (e3 : h = h1) : J d M fc fs Q pc L st h := by subst e1; subst e2; subst e3; exact k
theorem J.imp {d : Nat} {M : MInfo} {fc fs : Nat} {Q : Option Value → MH → Prop} {pc : Nat} {L : MLoc} {st : List Value} {h : MH} {Q1 : Option Value → MH → Prop} (k : J d M fc fs Q1 pc L st h) (hq : ∀ r h1, Q1 r h1 → Q r h1) : J d M fc fs Q pc L st h :=
  fun G p l e R s m args below meth c H locs cells slots QQ ls hC hl hR hS hB hK => k G p l e R s m args below meth c H locs cells slots QQ ls hC hl hR hS hB (fun r h1 H1 locs1 pc1 ls1 q => hK r h1 H1 locs1 pc1 ls1 (hq r h1 q))
theorem J_iconst {d : Nat} {M : MInfo} {fc fs : Nat} {Q : Option Value → MH → Prop} {pc : Nat} {L : MLoc} {st : List Value} {h : MH} {n : Int} {v : Int32} (hd : decode M.2.1 pc = .ok (.iconst n, 1)) (hv : Int32.ofInt n = v) (k : J d M fc fs Q (pc + 1) L (.int v :: st) h) : J d M fc fs Q pc L (st) h :=
  J_go (fun G p l e R s m args below meth c H locs cells slots QQ ls hC hl hR hS w => lv_iconst hC.1 hC.2.1 hd hv w) k
theorem J_bipush {d : Nat} {M : MInfo} {fc fs : Nat} {Q : Option Value → MH → Prop} {pc : Nat} {L : MLoc} {st : List Value} {h : MH} {n : Int} {v : Int32} (hd : decode M.2.1 pc = .ok (.bipush n, 2)) (hv : (Int8.ofInt n).toInt32 = v) (k : J d M fc fs Q (pc + 2) L (.int v :: st) h) : J d M fc fs Q pc L (st) h :=
  J_go (fun G p l e R s m args below meth c H locs cells slots QQ ls hC hl hR hS w => lv_bipush hC.1 hC.2.1 hd hv w) k
theorem J_sipush {d : Nat} {M : MInfo} {fc fs : Nat} {Q : Option Value → MH → Prop} {pc : Nat} {L : MLoc} {st : List Value} {h : MH} {n : Int} {v : Int32} (hd : decode M.2.1 pc = .ok (.sipush n, 3)) (hv : (Int16.ofInt n).toInt32 = v) (k : J d M fc fs Q (pc + 3) L (.int v :: st) h) : J d M fc fs Q pc L (st) h :=
  J_go (fun G p l e R s m args below meth c H locs cells slots QQ ls hC hl hR hS w => lv_sipush hC.1 hC.2.1 hd hv w) k
theorem J_lconst {d : Nat} {M : MInfo} {fc fs : Nat} {Q : Option Value → MH → Prop} {pc : Nat} {L : MLoc} {st : List Value} {h : MH} {n : Fin 2} {v : Int64} (hd : decode M.2.1 pc = .ok (.lconst n, 1)) (hv : Int64.ofNat (n : Nat) = v) (k : J d M fc fs Q (pc + 1) L (.long v :: st) h) : J d M fc fs Q pc L (st) h :=
  J_go (fun G p l e R s m args below meth c H locs cells slots QQ ls hC hl hR hS w => lv_lconst hC.1 hC.2.1 hd hv w) k
theorem J_null {d : Nat} {M : MInfo} {fc fs : Nat} {Q : Option Value → MH → Prop} {pc : Nat} {L : MLoc} {st : List Value} {h : MH} (hd : decode M.2.1 pc = .ok (.aconst_null, 1)) (k : J d M fc fs Q (pc + 1) L (.null :: st) h) : J d M fc fs Q pc L (st) h :=
  J_go (fun G p l e R s m args below meth c H locs cells slots QQ ls hC hl hR hS w => lv_null hC.1 hC.2.1 hd w) k
theorem J_ldc {d : Nat} {M : MInfo} {fc fs : Nat} {Q : Option Value → MH → Prop} {pc : Nat} {L : MLoc} {st : List Value} {h : MH} {k1 : Nat} {v : Int32} (hd : decode M.2.1 pc = .ok (.ldc k1, 2)) (hw : Cond.constant M.2.2.2.2 k1 v ∈ ALLW) (k : J d M fc fs Q (pc + 2) L (.int v :: st) h) : J d M fc fs Q pc L (st) h :=
  J_go (fun G p l e R s m args below meth c H locs cells slots QQ ls hC hl hR hS w => lv_ldc hC.1 hC.2.1 hC.2.2.2.1 (hC.2.2.2.2.1 _ hw) hd w) k
theorem J_ldcw {d : Nat} {M : MInfo} {fc fs : Nat} {Q : Option Value → MH → Prop} {pc : Nat} {L : MLoc} {st : List Value} {h : MH} {k1 : Nat} {v : Int32} (hd : decode M.2.1 pc = .ok (.ldc_w k1, 3)) (hw : Cond.constant M.2.2.2.2 k1 v ∈ ALLW) (k : J d M fc fs Q (pc + 3) L (.int v :: st) h) : J d M fc fs Q pc L (st) h :=
  J_go (fun G p l e R s m args below meth c H locs cells slots QQ ls hC hl hR hS w => lv_ldcw hC.1 hC.2.1 hC.2.2.2.1 (hC.2.2.2.2.1 _ hw) hd w) k
theorem J_ldc2 {d : Nat} {M : MInfo} {fc fs : Nat} {Q : Option Value → MH → Prop} {pc : Nat} {L : MLoc} {st : List Value} {h : MH} {k1 : Nat} {v : Int64} (hd : decode M.2.1 pc = .ok (.ldc2_w k1, 3)) (hw : Cond.constantLong M.2.2.2.2 k1 v ∈ ALLW) (k : J d M fc fs Q (pc + 3) L (.long v :: st) h) : J d M fc fs Q pc L (st) h :=
  J_go (fun G p l e R s m args below meth c H locs cells slots QQ ls hC hl hR hS w => lv_ldc2 hC.1 hC.2.1 hC.2.2.2.1 (hC.2.2.2.2.1 _ hw) hd w) k
theorem J_iload_n {d : Nat} {M : MInfo} {fc fs : Nat} {Q : Option Value → MH → Prop} {pc : Nat} {L : MLoc} {st : List Value} {h : MH} {n : Fin 4} {i : Nat} {x : Int32} (hd : decode M.2.1 pc = .ok (.iload_n n, 1)) (hi : (n : Nat) = i) (hx : L[i]? = some (some (.int x))) (k : J d M fc fs Q (pc + 1) L (.int x :: st) h) : J d M fc fs Q pc L (st) h :=
  J_go (fun G p l e R s m args below meth c H locs cells slots QQ ls hC hl hR hS w => lv_iload_n hC.1 hC.2.1 hd hi (hl.2.2 i _ hx) w) k
theorem J_iload {d : Nat} {M : MInfo} {fc fs : Nat} {Q : Option Value → MH → Prop} {pc : Nat} {L : MLoc} {st : List Value} {h : MH} {i : Nat} {x : Int32} (hd : decode M.2.1 pc = .ok (.iload i, 2)) (hx : L[i]? = some (some (.int x))) (k : J d M fc fs Q (pc + 2) L (.int x :: st) h) : J d M fc fs Q pc L (st) h :=
  J_go (fun G p l e R s m args below meth c H locs cells slots QQ ls hC hl hR hS w => lv_iload hC.1 hC.2.1 hd (hl.2.2 i _ hx) w) k
theorem J_lload_n {d : Nat} {M : MInfo} {fc fs : Nat} {Q : Option Value → MH → Prop} {pc : Nat} {L : MLoc} {st : List Value} {h : MH} {n : Fin 4} {i : Nat} {x : Int64} (hd : decode M.2.1 pc = .ok (.lload_n n, 1)) (hi : (n : Nat) = i) (hx : L[i]? = some (some (.long x))) (k : J d M fc fs Q (pc + 1) L (.long x :: st) h) : J d M fc fs Q pc L (st) h :=
  J_go (fun G p l e R s m args below meth c H locs cells slots QQ ls hC hl hR hS w => lv_lload_n hC.1 hC.2.1 hd hi (hl.2.2 i _ hx) w) k
theorem J_lload {d : Nat} {M : MInfo} {fc fs : Nat} {Q : Option Value → MH → Prop} {pc : Nat} {L : MLoc} {st : List Value} {h : MH} {i : Nat} {x : Int64} (hd : decode M.2.1 pc = .ok (.lload i, 2)) (hx : L[i]? = some (some (.long x))) (k : J d M fc fs Q (pc + 2) L (.long x :: st) h) : J d M fc fs Q pc L (st) h :=
  J_go (fun G p l e R s m args below meth c H locs cells slots QQ ls hC hl hR hS w => lv_lload hC.1 hC.2.1 hd (hl.2.2 i _ hx) w) k
theorem J_aload_n {d : Nat} {M : MInfo} {fc fs : Nat} {Q : Option Value → MH → Prop} {pc : Nat} {L : MLoc} {st : List Value} {h : MH} {n : Fin 4} {i : Nat} {x : Nat} (hd : decode M.2.1 pc = .ok (.aload_n n, 1)) (hi : (n : Nat) = i) (hx : L[i]? = some (some (.ref x))) (k : J d M fc fs Q (pc + 1) L (.ref x :: st) h) : J d M fc fs Q pc L (st) h :=
  J_go (fun G p l e R s m args below meth c H locs cells slots QQ ls hC hl hR hS w => lv_aload_n hC.1 hC.2.1 hd hi (hl.2.2 i _ hx) w) k
theorem J_aload {d : Nat} {M : MInfo} {fc fs : Nat} {Q : Option Value → MH → Prop} {pc : Nat} {L : MLoc} {st : List Value} {h : MH} {i : Nat} {x : Nat} (hd : decode M.2.1 pc = .ok (.aload i, 2)) (hx : L[i]? = some (some (.ref x))) (k : J d M fc fs Q (pc + 2) L (.ref x :: st) h) : J d M fc fs Q pc L (st) h :=
  J_go (fun G p l e R s m args below meth c H locs cells slots QQ ls hC hl hR hS w => lv_aload hC.1 hC.2.1 hd (hl.2.2 i _ hx) w) k
theorem J_aload_nN {d : Nat} {M : MInfo} {fc fs : Nat} {Q : Option Value → MH → Prop} {pc : Nat} {L : MLoc} {st : List Value} {h : MH} {n : Fin 4} {i : Nat} (hd : decode M.2.1 pc = .ok (.aload_n n, 1)) (hi : (n : Nat) = i) (hx : L[i]? = some (some .null)) (k : J d M fc fs Q (pc + 1) L (.null :: st) h) : J d M fc fs Q pc L (st) h :=
  J_go (fun G p l e R s m args below meth c H locs cells slots QQ ls hC hl hR hS w => lv_aload_nN hC.1 hC.2.1 hd hi (hl.2.2 i _ hx) w) k
theorem J_aloadN {d : Nat} {M : MInfo} {fc fs : Nat} {Q : Option Value → MH → Prop} {pc : Nat} {L : MLoc} {st : List Value} {h : MH} {i : Nat} (hd : decode M.2.1 pc = .ok (.aload i, 2)) (hx : L[i]? = some (some .null)) (k : J d M fc fs Q (pc + 2) L (.null :: st) h) : J d M fc fs Q pc L (st) h :=
  J_go (fun G p l e R s m args below meth c H locs cells slots QQ ls hC hl hR hS w => lv_aloadN hC.1 hC.2.1 hd (hl.2.2 i _ hx) w) k
theorem J_iadd {d : Nat} {M : MInfo} {fc fs : Nat} {Q : Option Value → MH → Prop} {pc : Nat} {L : MLoc} {st : List Value} {h : MH} {x y : Int32} (hd : decode M.2.1 pc = .ok (.iadd, 1)) (k : J d M fc fs Q (pc + 1) L (.int (x + y) :: st) h) : J d M fc fs Q pc L (.int y :: .int x :: st) h :=
  J_go (fun G p l e R s m args below meth c H locs cells slots QQ ls hC hl hR hS w => lv_iadd hC.1 hC.2.1 hd w) k
theorem J_isub {d : Nat} {M : MInfo} {fc fs : Nat} {Q : Option Value → MH → Prop} {pc : Nat} {L : MLoc} {st : List Value} {h : MH} {x y : Int32} (hd : decode M.2.1 pc = .ok (.isub, 1)) (k : J d M fc fs Q (pc + 1) L (.int (x - y) :: st) h) : J d M fc fs Q pc L (.int y :: .int x :: st) h :=
  J_go (fun G p l e R s m args below meth c H locs cells slots QQ ls hC hl hR hS w => lv_isub hC.1 hC.2.1 hd w) k
theorem J_imul {d : Nat} {M : MInfo} {fc fs : Nat} {Q : Option Value → MH → Prop} {pc : Nat} {L : MLoc} {st : List Value} {h : MH} {x y : Int32} (hd : decode M.2.1 pc = .ok (.imul, 1)) (k : J d M fc fs Q (pc + 1) L (.int (x * y) :: st) h) : J d M fc fs Q pc L (.int y :: .int x :: st) h :=
  J_go (fun G p l e R s m args below meth c H locs cells slots QQ ls hC hl hR hS w => lv_imul hC.1 hC.2.1 hd w) k
theorem J_iand {d : Nat} {M : MInfo} {fc fs : Nat} {Q : Option Value → MH → Prop} {pc : Nat} {L : MLoc} {st : List Value} {h : MH} {x y : Int32} (hd : decode M.2.1 pc = .ok (.iand, 1)) (k : J d M fc fs Q (pc + 1) L (.int (x &&& y) :: st) h) : J d M fc fs Q pc L (.int y :: .int x :: st) h :=
  J_go (fun G p l e R s m args below meth c H locs cells slots QQ ls hC hl hR hS w => lv_iand hC.1 hC.2.1 hd w) k
theorem J_ior {d : Nat} {M : MInfo} {fc fs : Nat} {Q : Option Value → MH → Prop} {pc : Nat} {L : MLoc} {st : List Value} {h : MH} {x y : Int32} (hd : decode M.2.1 pc = .ok (.ior, 1)) (k : J d M fc fs Q (pc + 1) L (.int (x ||| y) :: st) h) : J d M fc fs Q pc L (.int y :: .int x :: st) h :=
  J_go (fun G p l e R s m args below meth c H locs cells slots QQ ls hC hl hR hS w => lv_ior hC.1 hC.2.1 hd w) k
theorem J_ixor {d : Nat} {M : MInfo} {fc fs : Nat} {Q : Option Value → MH → Prop} {pc : Nat} {L : MLoc} {st : List Value} {h : MH} {x y : Int32} (hd : decode M.2.1 pc = .ok (.ixor, 1)) (k : J d M fc fs Q (pc + 1) L (.int (x ^^^ y) :: st) h) : J d M fc fs Q pc L (.int y :: .int x :: st) h :=
  J_go (fun G p l e R s m args below meth c H locs cells slots QQ ls hC hl hR hS w => lv_ixor hC.1 hC.2.1 hd w) k
theorem J_ishl {d : Nat} {M : MInfo} {fc fs : Nat} {Q : Option Value → MH → Prop} {pc : Nat} {L : MLoc} {st : List Value} {h : MH} {x y : Int32} (hd : decode M.2.1 pc = .ok (.ishl, 1)) (k : J d M fc fs Q (pc + 1) L (.int (x <<< (y &&& 31)) :: st) h) : J d M fc fs Q pc L (.int y :: .int x :: st) h :=
  J_go (fun G p l e R s m args below meth c H locs cells slots QQ ls hC hl hR hS w => lv_ishl hC.1 hC.2.1 hd w) k
theorem J_ishr {d : Nat} {M : MInfo} {fc fs : Nat} {Q : Option Value → MH → Prop} {pc : Nat} {L : MLoc} {st : List Value} {h : MH} {x y : Int32} (hd : decode M.2.1 pc = .ok (.ishr, 1)) (k : J d M fc fs Q (pc + 1) L (.int (x >>> (y &&& 31)) :: st) h) : J d M fc fs Q pc L (.int y :: .int x :: st) h :=
  J_go (fun G p l e R s m args below meth c H locs cells slots QQ ls hC hl hR hS w => lv_ishr hC.1 hC.2.1 hd w) k
theorem J_iushr {d : Nat} {M : MInfo} {fc fs : Nat} {Q : Option Value → MH → Prop} {pc : Nat} {L : MLoc} {st : List Value} {h : MH} {x y : Int32} (hd : decode M.2.1 pc = .ok (.iushr, 1)) (k : J d M fc fs Q (pc + 1) L (.int ((x.toUInt32 >>> (y.toUInt32 &&& Int32.toUInt32 31)).toInt32) :: st) h) : J d M fc fs Q pc L (.int y :: .int x :: st) h :=
  J_go (fun G p l e R s m args below meth c H locs cells slots QQ ls hC hl hR hS w => lv_iushr hC.1 hC.2.1 hd rfl w) k
theorem J_idiv {d : Nat} {M : MInfo} {fc fs : Nat} {Q : Option Value → MH → Prop} {pc : Nat} {L : MLoc} {st : List Value} {h : MH} {x y : Int32} (hd : decode M.2.1 pc = .ok (.idiv, 1)) (hne : ¬ y = 0) (k : J d M fc fs Q (pc + 1) L (.int (x / y) :: st) h) : J d M fc fs Q pc L (.int y :: .int x :: st) h :=
  J_go (fun G p l e R s m args below meth c H locs cells slots QQ ls hC hl hR hS w => lv_idiv hC.1 hC.2.1 hd hne w) k
theorem J_irem {d : Nat} {M : MInfo} {fc fs : Nat} {Q : Option Value → MH → Prop} {pc : Nat} {L : MLoc} {st : List Value} {h : MH} {x y : Int32} (hd : decode M.2.1 pc = .ok (.irem, 1)) (hne : ¬ y = 0) (k : J d M fc fs Q (pc + 1) L (.int (x - x / y * y) :: st) h) : J d M fc fs Q pc L (.int y :: .int x :: st) h :=
  J_go (fun G p l e R s m args below meth c H locs cells slots QQ ls hC hl hR hS w => lv_irem hC.1 hC.2.1 hd hne w) k
theorem J_ineg {d : Nat} {M : MInfo} {fc fs : Nat} {Q : Option Value → MH → Prop} {pc : Nat} {L : MLoc} {st : List Value} {h : MH} {x : Int32} (hd : decode M.2.1 pc = .ok (.ineg, 1)) (k : J d M fc fs Q (pc + 1) L (.int (-x) :: st) h) : J d M fc fs Q pc L (.int x :: st) h :=
  J_go (fun G p l e R s m args below meth c H locs cells slots QQ ls hC hl hR hS w => lv_ineg hC.1 hC.2.1 hd w) k
theorem J_ladd {d : Nat} {M : MInfo} {fc fs : Nat} {Q : Option Value → MH → Prop} {pc : Nat} {L : MLoc} {st : List Value} {h : MH} {x y : Int64} (hd : decode M.2.1 pc = .ok (.ladd, 1)) (k : J d M fc fs Q (pc + 1) L (.long (x + y) :: st) h) : J d M fc fs Q pc L (.long y :: .long x :: st) h :=
  J_go (fun G p l e R s m args below meth c H locs cells slots QQ ls hC hl hR hS w => lv_ladd hC.1 hC.2.1 hd w) k
theorem J_lsub {d : Nat} {M : MInfo} {fc fs : Nat} {Q : Option Value → MH → Prop} {pc : Nat} {L : MLoc} {st : List Value} {h : MH} {x y : Int64} (hd : decode M.2.1 pc = .ok (.lsub, 1)) (k : J d M fc fs Q (pc + 1) L (.long (x - y) :: st) h) : J d M fc fs Q pc L (.long y :: .long x :: st) h :=
  J_go (fun G p l e R s m args below meth c H locs cells slots QQ ls hC hl hR hS w => lv_lsub hC.1 hC.2.1 hd w) k
theorem J_lmul {d : Nat} {M : MInfo} {fc fs : Nat} {Q : Option Value → MH → Prop} {pc : Nat} {L : MLoc} {st : List Value} {h : MH} {x y : Int64} (hd : decode M.2.1 pc = .ok (.lmul, 1)) (k : J d M fc fs Q (pc + 1) L (.long (x * y) :: st) h) : J d M fc fs Q pc L (.long y :: .long x :: st) h :=
  J_go (fun G p l e R s m args below meth c H locs cells slots QQ ls hC hl hR hS w => lv_lmul hC.1 hC.2.1 hd w) k
theorem J_lor {d : Nat} {M : MInfo} {fc fs : Nat} {Q : Option Value → MH → Prop} {pc : Nat} {L : MLoc} {st : List Value} {h : MH} {x y : Int64} (hd : decode M.2.1 pc = .ok (.lor, 1)) (k : J d M fc fs Q (pc + 1) L (.long (x ||| y) :: st) h) : J d M fc fs Q pc L (.long y :: .long x :: st) h :=
  J_go (fun G p l e R s m args below meth c H locs cells slots QQ ls hC hl hR hS w => lv_lor hC.1 hC.2.1 hd w) k
theorem J_land {d : Nat} {M : MInfo} {fc fs : Nat} {Q : Option Value → MH → Prop} {pc : Nat} {L : MLoc} {st : List Value} {h : MH} {x y : Int64} (hd : decode M.2.1 pc = .ok (.land, 1)) (k : J d M fc fs Q (pc + 1) L (.long (x &&& y) :: st) h) : J d M fc fs Q pc L (.long y :: .long x :: st) h :=
  J_go (fun G p l e R s m args below meth c H locs cells slots QQ ls hC hl hR hS w => lv_land hC.1 hC.2.1 hd w) k
theorem J_ldiv {d : Nat} {M : MInfo} {fc fs : Nat} {Q : Option Value → MH → Prop} {pc : Nat} {L : MLoc} {st : List Value} {h : MH} {x y : Int64} (hd : decode M.2.1 pc = .ok (.ldiv, 1)) (hne : ¬ y = 0) (k : J d M fc fs Q (pc + 1) L (.long (x / y) :: st) h) : J d M fc fs Q pc L (.long y :: .long x :: st) h :=
  J_go (fun G p l e R s m args below meth c H locs cells slots QQ ls hC hl hR hS w => lv_ldiv hC.1 hC.2.1 hd hne w) k
theorem J_lrem {d : Nat} {M : MInfo} {fc fs : Nat} {Q : Option Value → MH → Prop} {pc : Nat} {L : MLoc} {st : List Value} {h : MH} {x y : Int64} (hd : decode M.2.1 pc = .ok (.lrem, 1)) (hne : ¬ y = 0) (k : J d M fc fs Q (pc + 1) L (.long (x - x / y * y) :: st) h) : J d M fc fs Q pc L (.long y :: .long x :: st) h :=
  J_go (fun G p l e R s m args below meth c H locs cells slots QQ ls hC hl hR hS w => lv_lrem hC.1 hC.2.1 hd hne w) k
theorem J_lneg {d : Nat} {M : MInfo} {fc fs : Nat} {Q : Option Value → MH → Prop} {pc : Nat} {L : MLoc} {st : List Value} {h : MH} {x : Int64} (hd : decode M.2.1 pc = .ok (.lneg, 1)) (k : J d M fc fs Q (pc + 1) L (.long (-x) :: st) h) : J d M fc fs Q pc L (.long x :: st) h :=
  J_go (fun G p l e R s m args below meth c H locs cells slots QQ ls hC hl hR hS w => lv_lneg hC.1 hC.2.1 hd w) k
theorem J_lshl {d : Nat} {M : MInfo} {fc fs : Nat} {Q : Option Value → MH → Prop} {pc : Nat} {L : MLoc} {st : List Value} {h : MH} {x : Int64} {y : Int32} (hd : decode M.2.1 pc = .ok (.lshl, 1)) (k : J d M fc fs Q (pc + 1) L (.long (x <<< (y.toInt64 &&& 63)) :: st) h) : J d M fc fs Q pc L (.int y :: .long x :: st) h :=
  J_go (fun G p l e R s m args below meth c H locs cells slots QQ ls hC hl hR hS w => lv_lshl hC.1 hC.2.1 hd rfl w) k
theorem J_lshr {d : Nat} {M : MInfo} {fc fs : Nat} {Q : Option Value → MH → Prop} {pc : Nat} {L : MLoc} {st : List Value} {h : MH} {x : Int64} {y : Int32} (hd : decode M.2.1 pc = .ok (.lshr, 1)) (k : J d M fc fs Q (pc + 1) L (.long (x >>> (y.toInt64 &&& 63)) :: st) h) : J d M fc fs Q pc L (.int y :: .long x :: st) h :=
  J_go (fun G p l e R s m args below meth c H locs cells slots QQ ls hC hl hR hS w => lv_lshr hC.1 hC.2.1 hd rfl w) k
theorem J_lcmp {d : Nat} {M : MInfo} {fc fs : Nat} {Q : Option Value → MH → Prop} {pc : Nat} {L : MLoc} {st : List Value} {h : MH} {x y : Int64} (hd : decode M.2.1 pc = .ok (.lcmp, 1)) (k : J d M fc fs Q (pc + 1) L (.int (lg_cmp x y) :: st) h) : J d M fc fs Q pc L (.long y :: .long x :: st) h :=
  J_go (fun G p l e R s m args below meth c H locs cells slots QQ ls hC hl hR hS w => W.lcmp hC.1 hC.2.1 hd w) k
theorem J_i2l {d : Nat} {M : MInfo} {fc fs : Nat} {Q : Option Value → MH → Prop} {pc : Nat} {L : MLoc} {st : List Value} {h : MH} {x : Int32} (hd : decode M.2.1 pc = .ok (.i2l, 1)) (k : J d M fc fs Q (pc + 1) L (.long x.toInt64 :: st) h) : J d M fc fs Q pc L (.int x :: st) h :=
  J_go (fun G p l e R s m args below meth c H locs cells slots QQ ls hC hl hR hS w => lv_i2l hC.1 hC.2.1 hd rfl w) k
theorem J_l2i {d : Nat} {M : MInfo} {fc fs : Nat} {Q : Option Value → MH → Prop} {pc : Nat} {L : MLoc} {st : List Value} {h : MH} {x : Int64} (hd : decode M.2.1 pc = .ok (.l2i, 1)) (k : J d M fc fs Q (pc + 1) L (.int x.toInt32 :: st) h) : J d M fc fs Q pc L (.long x :: st) h :=
  J_go (fun G p l e R s m args below meth c H locs cells slots QQ ls hC hl hR hS w => lv_l2i hC.1 hC.2.1 hd rfl w) k
theorem J_i2c {d : Nat} {M : MInfo} {fc fs : Nat} {Q : Option Value → MH → Prop} {pc : Nat} {L : MLoc} {st : List Value} {h : MH} {x : Int32} (hd : decode M.2.1 pc = .ok (.i2c, 1)) (k : J d M fc fs Q (pc + 1) L (.int (x.toUInt32 % 65536).toInt32 :: st) h) : J d M fc fs Q pc L (.int x :: st) h :=
  J_go (fun G p l e R s m args below meth c H locs cells slots QQ ls hC hl hR hS w => lv_i2c hC.1 hC.2.1 hd rfl w) k
theorem up_cat {G : GC} {v : Value} : (up G v).category = v.category := by cases v <;> rfl
theorem J_dup {d : Nat} {M : MInfo} {fc fs : Nat} {Q : Option Value → MH → Prop} {pc : Nat} {L : MLoc} {st : List Value} {h : MH} {v : Value} (hd : decode M.2.1 pc = .ok (.dup, 1)) (hv : v.category = 1) (k : J d M fc fs Q (pc + 1) L (v :: v :: st) h) : J d M fc fs Q pc L (v :: st) h :=
  J_go (fun G p l e R s m args below meth c H locs cells slots QQ ls hC hl hR hS w => lv_dup hC.1 hC.2.1 hd (by rw [up_cat]; exact hv) w) k
theorem J_pop {d : Nat} {M : MInfo} {fc fs : Nat} {Q : Option Value → MH → Prop} {pc : Nat} {L : MLoc} {st : List Value} {h : MH} {v : Value} (hd : decode M.2.1 pc = .ok (.pop, 1)) (hv : v.category = 1) (k : J d M fc fs Q (pc + 1) L (st) h) : J d M fc fs Q pc L (v :: st) h :=
  J_go (fun G p l e R s m args below meth c H locs cells slots QQ ls hC hl hR hS w => lv_pop hC.1 hC.2.1 hd (by rw [up_cat]; exact hv) w) k
theorem J_dup2 {d : Nat} {M : MInfo} {fc fs : Nat} {Q : Option Value → MH → Prop} {pc : Nat} {L : MLoc} {st : List Value} {h : MH} {u v : Value} (hd : decode M.2.1 pc = .ok (.dup2, 1)) (hu : u.category = 1) (hv : v.category = 1) (k : J d M fc fs Q (pc + 1) L (u :: v :: u :: v :: st) h) : J d M fc fs Q pc L (u :: v :: st) h :=
  J_go (fun G p l e R s m args below meth c H locs cells slots QQ ls hC hl hR hS w => lv_dup2_11 hC.1 hC.2.1 hd (by rw [up_cat]; exact hu) (by rw [up_cat]; exact hv) w) k
theorem J_goto {d : Nat} {M : MInfo} {fc fs : Nat} {Q : Option Value → MH → Prop} {pc : Nat} {L : MLoc} {st : List Value} {h : MH} {off : Int} {tgt : Nat} (hd : decode M.2.1 pc = .ok (.goto off, 3)) (ht : (pc : Int) + off = (tgt : Int)) (k : J d M fc fs Q (tgt) L (st) h) : J d M fc fs Q pc L (st) h :=
  J_go (fun G p l e R s m args below meth c H locs cells slots QQ ls hC hl hR hS w => lv_goto hC.1 hC.2.1 hd ht w) k
theorem J_ifnull_r {d : Nat} {M : MInfo} {fc fs : Nat} {Q : Option Value → MH → Prop} {pc : Nat} {L : MLoc} {st : List Value} {h : MH} {x : Nat} {off : Int} (hd : decode M.2.1 pc = .ok (.ifnull off, 3)) (k : J d M fc fs Q (pc + 3) L (st) h) : J d M fc fs Q pc L (.ref x :: st) h :=
  J_go (fun G p l e R s m args below meth c H locs cells slots QQ ls hC hl hR hS w => lv_ifnull hC.1 hC.2.1 hd w) k
theorem J_ifnull_n {d : Nat} {M : MInfo} {fc fs : Nat} {Q : Option Value → MH → Prop} {pc : Nat} {L : MLoc} {st : List Value} {h : MH} {off : Int} {tgt : Nat} (hd : decode M.2.1 pc = .ok (.ifnull off, 3)) (ht : (pc : Int) + off = (tgt : Int)) (k : J d M fc fs Q (tgt) L (st) h) : J d M fc fs Q pc L (.null :: st) h :=
  J_go (fun G p l e R s m args below meth c H locs cells slots QQ ls hC hl hR hS w => lv_ifnullN hC.1 hC.2.1 hd ht w) k
theorem J_ifnonnull_r {d : Nat} {M : MInfo} {fc fs : Nat} {Q : Option Value → MH → Prop} {pc : Nat} {L : MLoc} {st : List Value} {h : MH} {x : Nat} {off : Int} {tgt : Nat} (hd : decode M.2.1 pc = .ok (.ifnonnull off, 3)) (ht : (pc : Int) + off = (tgt : Int)) (k : J d M fc fs Q (tgt) L (st) h) : J d M fc fs Q pc L (.ref x :: st) h :=
  J_go (fun G p l e R s m args below meth c H locs cells slots QQ ls hC hl hR hS w => lv_ifnonnull hC.1 hC.2.1 hd ht w) k
theorem J_ifnonnull_n {d : Nat} {M : MInfo} {fc fs : Nat} {Q : Option Value → MH → Prop} {pc : Nat} {L : MLoc} {st : List Value} {h : MH} {off : Int} (hd : decode M.2.1 pc = .ok (.ifnonnull off, 3)) (k : J d M fc fs Q (pc + 3) L (st) h) : J d M fc fs Q pc L (.null :: st) h :=
  J_go (fun G p l e R s m args below meth c H locs cells slots QQ ls hC hl hR hS w => lv_ifnonnullN hC.1 hC.2.1 hd w) k
theorem J_if_eq {d : Nat} {M : MInfo} {fc fs : Nat} {Q : Option Value → MH → Prop} {pc : Nat} {L : MLoc} {st : List Value} {h : MH} {x : Int32} {off : Int} {tgt : Nat} (hd : decode M.2.1 pc = .ok (.ifCond .eq off, 3)) (ht : (pc : Int) + off = (tgt : Int)) (k1 : x = 0 → J d M fc fs Q tgt L st h) (k2 : ¬ x = 0 → J d M fc fs Q (pc + 3) L st h) : J d M fc fs Q pc L (.int x :: st) h :=
  J_br (fun G p l e R s m args below meth c H locs cells slots QQ ls hC hl hR hS w1 w2 => lv_if_eq hC.1 hC.2.1 hd ht w1 w2) k1 k2
theorem J_icmp_eq {d : Nat} {M : MInfo} {fc fs : Nat} {Q : Option Value → MH → Prop} {pc : Nat} {L : MLoc} {st : List Value} {h : MH} {x y : Int32} {off : Int} {tgt : Nat} (hd : decode M.2.1 pc = .ok (.if_icmp .eq off, 3)) (ht : (pc : Int) + off = (tgt : Int)) (k1 : x = y → J d M fc fs Q tgt L st h) (k2 : ¬ x = y → J d M fc fs Q (pc + 3) L st h) : J d M fc fs Q pc L (.int y :: .int x :: st) h :=
  J_br (fun G p l e R s m args below meth c H locs cells slots QQ ls hC hl hR hS w1 w2 => lv_icmp_eq hC.1 hC.2.1 hd ht w1 w2) k1 k2
theorem J_if_ne {d : Nat} {M : MInfo} {fc fs : Nat} {Q : Option Value → MH → Prop} {pc : Nat} {L : MLoc} {st : List Value} {h : MH} {x : Int32} {off : Int} {tgt : Nat} (hd : decode M.2.1 pc = .ok (.ifCond .ne off, 3)) (ht : (pc : Int) + off = (tgt : Int)) (k1 : ¬ x = 0 → J d M fc fs Q tgt L st h) (k2 : x = 0 → J d M fc fs Q (pc + 3) L st h) : J d M fc fs Q pc L (.int x :: st) h :=
  J_br (fun G p l e R s m args below meth c H locs cells slots QQ ls hC hl hR hS w1 w2 => lv_if_ne hC.1 hC.2.1 hd ht w1 w2) k1 k2
theorem J_icmp_ne {d : Nat} {M : MInfo} {fc fs : Nat} {Q : Option Value → MH → Prop} {pc : Nat} {L : MLoc} {st : List Value} {h : MH} {x y : Int32} {off : Int} {tgt : Nat} (hd : decode M.2.1 pc = .ok (.if_icmp .ne off, 3)) (ht : (pc : Int) + off = (tgt : Int)) (k1 : ¬ x = y → J d M fc fs Q tgt L st h) (k2 : x = y → J d M fc fs Q (pc + 3) L st h) : J d M fc fs Q pc L (.int y :: .int x :: st) h :=
  J_br (fun G p l e R s m args below meth c H locs cells slots QQ ls hC hl hR hS w1 w2 => lv_icmp_ne hC.1 hC.2.1 hd ht w1 w2) k1 k2
theorem J_if_lt {d : Nat} {M : MInfo} {fc fs : Nat} {Q : Option Value → MH → Prop} {pc : Nat} {L : MLoc} {st : List Value} {h : MH} {x : Int32} {off : Int} {tgt : Nat} (hd : decode M.2.1 pc = .ok (.ifCond .lt off, 3)) (ht : (pc : Int) + off = (tgt : Int)) (k1 : x < 0 → J d M fc fs Q tgt L st h) (k2 : ¬ x < 0 → J d M fc fs Q (pc + 3) L st h) : J d M fc fs Q pc L (.int x :: st) h :=
  J_br (fun G p l e R s m args below meth c H locs cells slots QQ ls hC hl hR hS w1 w2 => lv_if_lt hC.1 hC.2.1 hd ht w1 w2) k1 k2
theorem J_icmp_lt {d : Nat} {M : MInfo} {fc fs : Nat} {Q : Option Value → MH → Prop} {pc : Nat} {L : MLoc} {st : List Value} {h : MH} {x y : Int32} {off : Int} {tgt : Nat} (hd : decode M.2.1 pc = .ok (.if_icmp .lt off, 3)) (ht : (pc : Int) + off = (tgt : Int)) (k1 : x < y → J d M fc fs Q tgt L st h) (k2 : ¬ x < y → J d M fc fs Q (pc + 3) L st h) : J d M fc fs Q pc L (.int y :: .int x :: st) h :=
  J_br (fun G p l e R s m args below meth c H locs cells slots QQ ls hC hl hR hS w1 w2 => lv_icmp_lt hC.1 hC.2.1 hd ht w1 w2) k1 k2
theorem J_if_ge {d : Nat} {M : MInfo} {fc fs : Nat} {Q : Option Value → MH → Prop} {pc : Nat} {L : MLoc} {st : List Value} {h : MH} {x : Int32} {off : Int} {tgt : Nat} (hd : decode M.2.1 pc = .ok (.ifCond .ge off, 3)) (ht : (pc : Int) + off = (tgt : Int)) (k1 : 0 ≤ x → J d M fc fs Q tgt L st h) (k2 : ¬ 0 ≤ x → J d M fc fs Q (pc + 3) L st h) : J d M fc fs Q pc L (.int x :: st) h :=
  J_br (fun G p l e R s m args below meth c H locs cells slots QQ ls hC hl hR hS w1 w2 => lv_if_ge hC.1 hC.2.1 hd ht w1 w2) k1 k2
theorem J_icmp_ge {d : Nat} {M : MInfo} {fc fs : Nat} {Q : Option Value → MH → Prop} {pc : Nat} {L : MLoc} {st : List Value} {h : MH} {x y : Int32} {off : Int} {tgt : Nat} (hd : decode M.2.1 pc = .ok (.if_icmp .ge off, 3)) (ht : (pc : Int) + off = (tgt : Int)) (k1 : y ≤ x → J d M fc fs Q tgt L st h) (k2 : ¬ y ≤ x → J d M fc fs Q (pc + 3) L st h) : J d M fc fs Q pc L (.int y :: .int x :: st) h :=
  J_br (fun G p l e R s m args below meth c H locs cells slots QQ ls hC hl hR hS w1 w2 => lv_icmp_ge hC.1 hC.2.1 hd ht w1 w2) k1 k2
theorem J_if_gt {d : Nat} {M : MInfo} {fc fs : Nat} {Q : Option Value → MH → Prop} {pc : Nat} {L : MLoc} {st : List Value} {h : MH} {x : Int32} {off : Int} {tgt : Nat} (hd : decode M.2.1 pc = .ok (.ifCond .gt off, 3)) (ht : (pc : Int) + off = (tgt : Int)) (k1 : 0 < x → J d M fc fs Q tgt L st h) (k2 : ¬ 0 < x → J d M fc fs Q (pc + 3) L st h) : J d M fc fs Q pc L (.int x :: st) h :=
  J_br (fun G p l e R s m args below meth c H locs cells slots QQ ls hC hl hR hS w1 w2 => lv_if_gt hC.1 hC.2.1 hd ht w1 w2) k1 k2
theorem J_icmp_gt {d : Nat} {M : MInfo} {fc fs : Nat} {Q : Option Value → MH → Prop} {pc : Nat} {L : MLoc} {st : List Value} {h : MH} {x y : Int32} {off : Int} {tgt : Nat} (hd : decode M.2.1 pc = .ok (.if_icmp .gt off, 3)) (ht : (pc : Int) + off = (tgt : Int)) (k1 : y < x → J d M fc fs Q tgt L st h) (k2 : ¬ y < x → J d M fc fs Q (pc + 3) L st h) : J d M fc fs Q pc L (.int y :: .int x :: st) h :=
  J_br (fun G p l e R s m args below meth c H locs cells slots QQ ls hC hl hR hS w1 w2 => lv_icmp_gt hC.1 hC.2.1 hd ht w1 w2) k1 k2
theorem J_if_le {d : Nat} {M : MInfo} {fc fs : Nat} {Q : Option Value → MH → Prop} {pc : Nat} {L : MLoc} {st : List Value} {h : MH} {x : Int32} {off : Int} {tgt : Nat} (hd : decode M.2.1 pc = .ok (.ifCond .le off, 3)) (ht : (pc : Int) + off = (tgt : Int)) (k1 : x ≤ 0 → J d M fc fs Q tgt L st h) (k2 : ¬ x ≤ 0 → J d M fc fs Q (pc + 3) L st h) : J d M fc fs Q pc L (.int x :: st) h :=
  J_br (fun G p l e R s m args below meth c H locs cells slots QQ ls hC hl hR hS w1 w2 => lv_if_le hC.1 hC.2.1 hd ht w1 w2) k1 k2
theorem J_icmp_le {d : Nat} {M : MInfo} {fc fs : Nat} {Q : Option Value → MH → Prop} {pc : Nat} {L : MLoc} {st : List Value} {h : MH} {x y : Int32} {off : Int} {tgt : Nat} (hd : decode M.2.1 pc = .ok (.if_icmp .le off, 3)) (ht : (pc : Int) + off = (tgt : Int)) (k1 : x ≤ y → J d M fc fs Q tgt L st h) (k2 : ¬ x ≤ y → J d M fc fs Q (pc + 3) L st h) : J d M fc fs Q pc L (.int y :: .int x :: st) h :=
  J_br (fun G p l e R s m args below meth c H locs cells slots QQ ls hC hl hR hS w1 w2 => lv_icmp_le hC.1 hC.2.1 hd ht w1 w2) k1 k2
theorem J_istore_n {d : Nat} {M : MInfo} {fc fs : Nat} {Q : Option Value → MH → Prop} {pc : Nat} {L : MLoc} {st : List Value} {h : MH} {n : Fin 4} {i : Nat} {x : Int32} {L1 : MLoc} (hd : decode M.2.1 pc = .ok (.istore_n n, 1)) (hi : (n : Nat) = i) (hn : i < M.2.2.1) (hL : stL L i (.int x) = L1) (k : J d M fc fs Q (pc + 1) L1 st h) : J d M fc fs Q pc L (.int x :: st) h := by
  subst hL
  exact J_st (fun G p l e R s m args below meth c H locs cells slots QQ ls hC hl hR hS w => lv_istore_n hC.1 hC.2.1 hd hi hl.has hn rfl (fun ls1 h1 => w ls1 (lvR_st1 (v := .int x) h1))) k
theorem J_istore {d : Nat} {M : MInfo} {fc fs : Nat} {Q : Option Value → MH → Prop} {pc : Nat} {L : MLoc} {st : List Value} {h : MH} {i : Nat} {x : Int32} {L1 : MLoc} (hd : decode M.2.1 pc = .ok (.istore i, 2)) (hn : i < M.2.2.1) (hL : stL L i (.int x) = L1) (k : J d M fc fs Q (pc + 2) L1 st h) : J d M fc fs Q pc L (.int x :: st) h := by
  subst hL
  exact J_st (fun G p l e R s m args below meth c H locs cells slots QQ ls hC hl hR hS w => lv_istore hC.1 hC.2.1 hd hl.has hn rfl (fun ls1 h1 => w ls1 (lvR_st1 (v := .int x) h1))) k
theorem J_astore_n {d : Nat} {M : MInfo} {fc fs : Nat} {Q : Option Value → MH → Prop} {pc : Nat} {L : MLoc} {st : List Value} {h : MH} {n : Fin 4} {i : Nat} {x : Nat} {L1 : MLoc} (hd : decode M.2.1 pc = .ok (.astore_n n, 1)) (hi : (n : Nat) = i) (hn : i < M.2.2.1) (hL : stL L i (.ref x) = L1) (k : J d M fc fs Q (pc + 1) L1 st h) : J d M fc fs Q pc L (.ref x :: st) h := by
  subst hL
  exact J_st (fun G p l e R s m args below meth c H locs cells slots QQ ls hC hl hR hS w => lv_astore_n hC.1 hC.2.1 hd hi hl.has hn rfl (fun ls1 h1 => w ls1 (lvR_st1 (v := .ref x) h1))) k
theorem J_astore {d : Nat} {M : MInfo} {fc fs : Nat} {Q : Option Value → MH → Prop} {pc : Nat} {L : MLoc} {st : List Value} {h : MH} {i : Nat} {x : Nat} {L1 : MLoc} (hd : decode M.2.1 pc = .ok (.astore i, 2)) (hn : i < M.2.2.1) (hL : stL L i (.ref x) = L1) (k : J d M fc fs Q (pc + 2) L1 st h) : J d M fc fs Q pc L (.ref x :: st) h := by
  subst hL
  exact J_st (fun G p l e R s m args below meth c H locs cells slots QQ ls hC hl hR hS w => lv_astore hC.1 hC.2.1 hd hl.has hn rfl (fun ls1 h1 => w ls1 (lvR_st1 (v := .ref x) h1))) k
theorem J_lstore_n {d : Nat} {M : MInfo} {fc fs : Nat} {Q : Option Value → MH → Prop} {pc : Nat} {L : MLoc} {st : List Value} {h : MH} {n : Fin 4} {i : Nat} {x : Int64} {L1 : MLoc} (hd : decode M.2.1 pc = .ok (.lstore_n n, 1)) (hi : (n : Nat) = i) (hn : i + 1 < M.2.2.1) (hL : stL2 L i (.long x) = L1) (k : J d M fc fs Q (pc + 1) L1 st h) : J d M fc fs Q pc L (.long x :: st) h := by
  subst hL
  exact J_st (fun G p l e R s m args below meth c H locs cells slots QQ ls hC hl hR hS w => lv_lstore_n hC.1 hC.2.1 hd hi hl.has hn rfl (fun ls1 h1 => w ls1 (lvR_st2 (v := .long x) h1))) k
theorem J_lstore {d : Nat} {M : MInfo} {fc fs : Nat} {Q : Option Value → MH → Prop} {pc : Nat} {L : MLoc} {st : List Value} {h : MH} {i : Nat} {x : Int64} {L1 : MLoc} (hd : decode M.2.1 pc = .ok (.lstore i, 2)) (hn : i + 1 < M.2.2.1) (hL : stL2 L i (.long x) = L1) (k : J d M fc fs Q (pc + 2) L1 st h) : J d M fc fs Q pc L (.long x :: st) h := by
  subst hL
  exact J_st (fun G p l e R s m args below meth c H locs cells slots QQ ls hC hl hR hS w => lv_lstore hC.1 hC.2.1 hd hl.has hn rfl (fun ls1 h1 => w ls1 (lvR_st2 (v := .long x) h1))) k
theorem J_astore_nN {d : Nat} {M : MInfo} {fc fs : Nat} {Q : Option Value → MH → Prop} {pc : Nat} {L : MLoc} {st : List Value} {h : MH} {n : Fin 4} {i : Nat} {L1 : MLoc} (hd : decode M.2.1 pc = .ok (.astore_n n, 1)) (hi : (n : Nat) = i) (hn : i < M.2.2.1) (hL : stL L i .null = L1) (k : J d M fc fs Q (pc + 1) L1 st h) : J d M fc fs Q pc L (.null :: st) h := by
  subst hL
  exact J_st (fun G p l e R s m args below meth c H locs cells slots QQ ls hC hl hR hS w => lv_astore_nN hC.1 hC.2.1 hd hi hl.has hn rfl (fun ls1 h1 => w ls1 (lvR_st1 (v := .null) h1))) k
theorem asc_at {G : GC} {L : MLoc} {i : Nat} {v : Value} (h : L[i]? = some (some v)) : ∃ k : Nat, (asc G L)[k]? = some (i, up G v) := List.getElem?_of_mem (asc_mem h)
theorem J_iinc {d : Nat} {M : MInfo} {fc fs : Nat} {Q : Option Value → MH → Prop} {pc : Nat} {L : MLoc} {st : List Value} {h : MH} {i : Nat} {n : Int} {x v : Int32} {L1 : MLoc} (hd : decode M.2.1 pc = .ok (.iinc i n, 3)) (hx : L[i]? = some (some (.int x))) (hv : x + Int32.ofInt n = v) (hn : i < M.2.2.1) (hL : stL L i (.int v) = L1) (k : J d M fc fs Q (pc + 3) L1 st h) : J d M fc fs Q pc L st h := by
  subst hL
  refine J_st (fun G p l e R s m args below meth c H locs cells slots QQ ls hC hl hR hS w => ?_) k
  obtain ⟨q, hq⟩ := asc_at (G := G) hx
  exact lv_iinc hC.1 hC.2.1 hd hl.has hq hv hn rfl (fun ls1 h1 => w ls1 (lvR_st1 (v := .int v) h1))
theorem J_lookup {d : Nat} {M : MInfo} {fc fs : Nat} {Q : Option Value → MH → Prop} {pc : Nat} {L : MLoc} {st : List Value} {h : MH} {dflt : Int} {ps : Array (Int × Int)} {len : Nat} {x : Int32} {off : Int} {tgt : Nat} (hd : decode M.2.1 pc = .ok (.lookupswitch dflt ps, len)) (hp : (ps.toList.zip (ps.toList.drop 1)).all (fun (a, next) => a.1 < next.1) = true) (ho : Op.lookupswitch.offset ps.toList dflt x.toInt = off) (ht : (pc : Int) + off = (tgt : Int)) (k : J d M fc fs Q tgt L st h) : J d M fc fs Q pc L (.int x :: st) h :=
  J_go (fun G p l e R s m args below meth c H locs cells slots QQ ls hC hl hR hS w => lv_lookup hC.1 hC.2.1 hd hp ho ht w) k
theorem J_tableOut {d : Nat} {M : MInfo} {fc fs : Nat} {Q : Option Value → MH → Prop} {pc : Nat} {L : MLoc} {st : List Value} {h : MH} {dflt lo hi : Int} {offs : Array Int} {len : Nat} {x : Int32} {tgt : Nat} (hd : decode M.2.1 pc = .ok (.tableswitch dflt lo hi offs, len)) (hx : x.toInt < lo ∨ hi < x.toInt) (ht : (pc : Int) + dflt = (tgt : Int)) (k : J d M fc fs Q tgt L st h) : J d M fc fs Q pc L (.int x :: st) h :=
  J_go (fun G p l e R s m args below meth c H locs cells slots QQ ls hC hl hR hS w => lv_tableOut hC.1 hC.2.1 hd hx ht w) k
theorem J_tableIn {d : Nat} {M : MInfo} {fc fs : Nat} {Q : Option Value → MH → Prop} {pc : Nat} {L : MLoc} {st : List Value} {h : MH} {dflt lo hi : Int} {offs : Array Int} {len : Nat} {x : Int32} {off : Int} {tgt : Nat} (hd : decode M.2.1 pc = .ok (.tableswitch dflt lo hi offs, len)) (h1 : ¬ x.toInt < lo) (h2 : ¬ hi < x.toInt) (ho : offs[(x.toInt - lo).toNat]? = some off) (ht : (pc : Int) + off = (tgt : Int)) (k : J d M fc fs Q tgt L st h) : J d M fc fs Q pc L (.int x :: st) h :=
  J_go (fun G p l e R s m args below meth c H locs cells slots QQ ls hC hl hR hS w => lv_tableIn hC.1 hC.2.1 hd h1 h2 ho ht w) k
