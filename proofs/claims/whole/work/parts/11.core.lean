/-! The judgement J: from this place of a method's code, with these locals, this stack and this picture of the heap, the method ends, and answer and picture are as Q says. Its rules, one an instruction, stand on the kit's rows. -/
def gb (G : GC) : Nat := G.1.size
def gA (G : GC) : Nat → Prop := fun q => gb G ≤ q
def gr (G : GC) (k : Nat) : Nat := if k < 8 then G.2.1 k else gb G + (k - 8)
def up (G : GC) : Value → Value
  | .ref k => .ref (gr G k)
  | .retAddr _ => if G.2.1 8 = 0 then .null else .ref (G.2.1 9)
  | v => v
def aty : Nat → Option FieldType
  | 20 => some .int
  | 21 => some .long
  | 22 => some .boolean
  | 23 => some .byte
  | _ => none
def cellR (G : GC) (U : State) (a : Nat) (H : Heap) (cl : MCell) : Prop := match cl.2 with
  | .inl vs => if cl.1 < 9 then ∃ r : vw_C, vwCl[cl.1]? = some r ∧ vs.length = r.2.2 ∧ t_OB a (G.2.2.1 cl.1) r.2.2 (G.2.2.2 cl.1) H (vp_V (vs.map (up G)))
      else if cl.1 < 30 then True
      else ∃ (r : vw_C) (cell : Cell), vwCl[cl.1 - 30]? = some r ∧ H[a]? = some cell ∧ va_RA U cell.cls (.object r.1) ∧ cell.vm = .none ∧ cell.slots.toList = vs.map (up G)
  | .inr (.inl xs) => ∃ (ty : FieldType) (cell : Cell), aty cl.1 = some ty ∧ H[a]? = some cell ∧ U.isArrayOf cell ty ∧ cell.vm ≠ .unknown ∧ cell.slots.toList = xs.map Value.int
  | .inr (.inr xs) => ∃ cell : Cell, cl.1 = 21 ∧ H[a]? = some cell ∧ U.isArrayOf cell .long ∧ cell.vm ≠ .unknown ∧ cell.slots.toList = xs.map Value.long
def WORDS0 : String := "wears fee draw add rub renew year to of stroke bar post frame turn tip with less size has if then else end or and not number strokes ends fund which pieces "
def SIGNS0 : String := "<>=#+-*/();"
/-- what is so of the tables in every state of a run, and of the cells that stood before it began -/
def Fx (G : GC) (U : State) : Prop :=
  va_K G.2.2 vwCl [] U ∧ (∀ w ∈ nestW, va_Nw w U) ∧ (∀ k, k < 8 → G.2.1 k < gb G) ∧
  (va_Z "MarkOffice$Strokes" "POINTS_OF" "[I" (.ref (G.2.1 1)) (gA G) U G.1 ∧ va_Z "MarkOffice$Strokes" "MOVED" "[I" (.ref (G.2.1 2)) (gA G) U G.1 ∧ va_Z "java/lang/String" "COMPACT_STRINGS" "Z" (.int 1) (gA G) U G.1 ∧ va_Z "jdk/internal/util/Preconditions" "SIOOBE_FORMATTER" "Ljava/util/function/BiFunction;" (up G (.retAddr 0)) (gA G) U G.1) ∧
  (vk_R "MarkOffice$Tokens" 55 WORDS0 (G.2.1 3) U ∧ vk_R "MarkOffice$Tokens" 65 SIGNS0 (G.2.1 5) U) ∧
  (va_AO "MarkOffice$Text" U ∧ va_AO "MarkOffice$Now" U) ∧
  ∀ k, (k = 3 ∨ k = 5) → va_O "java/lang/String" (G.2.1 k) (gA G) U G.1 ∧ va_OF "java/lang/String" "coder" "B" (.int 0) (G.2.1 k) (gA G) U G.1 ∧ va_OF "java/lang/String" "value" "[B" (.ref (G.2.1 (k + 1))) (G.2.1 k) (gA G) U G.1
theorem Fx.moved {G : GC} {u U : State} (hW : u.WarmedH U.vm) (h : Fx G u) : Fx G U := by
  obtain ⟨h1, h2, h3, ⟨z1, z2, z3, z4⟩, ⟨r1, r2⟩, ⟨o1, o2⟩, h6⟩ := h
  have ha := hW.alike
  refine ⟨h1.moved ha, fun w hw => ?_, h3, ⟨z1.moved ha, z2.moved ha, z3.moved ha, z4.moved ha⟩, ⟨r1.warm hW, r2.warm hW⟩, ⟨o1.moved ha, o2.moved ha⟩, fun k hk => ?_⟩
  · have hw2 := (List.mem_filter.mp hw).2
    have h0 := h2 w hw
    cases w <;> first | exact h0.warmM hW | (exact absurd hw2 (by decide)) | (simp [isNestW] at hw2)
  · obtain ⟨a, b, c⟩ := h6 k hk
    exact ⟨a.moved ha, b.moved ha, c.moved ha⟩
theorem Fx.same {G : GC} {u U : State} (hv : U.vm = u.vm) (h : Fx G u) : Fx G U := by
  obtain ⟨h1, h2, h3, ⟨z1, z2, z3, z4⟩, ⟨r1, r2⟩, ⟨o1, o2⟩, h6⟩ := h
  have ha : u.vm.Alike U.vm := by rw [hv]; exact Vm.Alike.refl _
  refine ⟨h1.moved ha, fun w hw => ?_, h3, ⟨z1.moved ha, z2.moved ha, z3.moved ha, z4.moved ha⟩, ⟨r1.same hv, r2.same hv⟩, ⟨o1.moved ha, o2.moved ha⟩, fun k hk => ?_⟩
  · have hw2 := (List.mem_filter.mp hw).2
    have h0 := h2 w hw
    cases w <;> first | exact h0.same rfl hv.symm | (exact absurd hw2 (by decide)) | (simp [isNestW] at hw2)
  · obtain ⟨a, b, c⟩ := h6 k hk
    exact ⟨a.moved ha, b.moved ha, c.moved ha⟩
/-- the picture of the heap -/
def Rl (G : GC) (U : State) (h : MH) (H : Heap) : Prop := H.size + 8 = gb G + h.1 ∧ h.2.2.length = h.1 ∧ 8 ≤ h.1 ∧ ∀ (k : Nat) (cl : MCell), h.2.2[k]? = some cl → cellR G U (gr G k) H cl
theorem cellR.moved {G : GC} {u U : State} {a : Nat} {H : Heap} {cl : MCell} (ha : u.vm.Alike U.vm) (h : cellR G u a H cl) : cellR G U a H cl := by
  obtain ⟨t, v⟩ := cl
  cases v with
  | inl vs =>
    unfold cellR at h ⊢
    dsimp only at h ⊢
    split
    · rw [if_pos (by assumption)] at h
      exact h
    · rw [if_neg (by assumption)] at h
      split
      · trivial
      · rw [if_neg (by assumption)] at h
        obtain ⟨r, cell, a1, a2, a3, a4, a5⟩ := h
        exact ⟨r, cell, a1, a2, a3.moved ha, a4, a5⟩
  | inr v =>
    cases v with
    | inl xs =>
      obtain ⟨ty, cell, a1, a2, a3, a4⟩ := h
      exact ⟨ty, cell, a1, a2, State.isArrayOf_alike ha a3, a4⟩
    | inr xs =>
      obtain ⟨cell, a1, a2, a3, a4⟩ := h
      exact ⟨cell, a1, a2, State.isArrayOf_alike ha a3, a4⟩
theorem Rl.moved {G : GC} {u U : State} {h : MH} {H : Heap} (ha : u.vm.Alike U.vm) (hR : Rl G u h H) : Rl G U h H := ⟨hR.1, hR.2.1, hR.2.2.1, fun k cl hk => (hR.2.2.2 k cl hk).moved ha⟩
theorem cellR.kept {G : GC} {U : State} {a : Nat} {H H1 : Heap} {cl : MCell} (hq : H1[a]? = H[a]?) (h : cellR G U a H cl) : cellR G U a H1 cl := by
  obtain ⟨t, v⟩ := cl
  cases v with
  | inl vs =>
    unfold cellR at h ⊢
    dsimp only at h ⊢
    split
    · rw [if_pos (by assumption)] at h
      obtain ⟨r, a1, a2, a3⟩ := h
      exact ⟨r, a1, a2, a3.kept hq⟩
    · rw [if_neg (by assumption)] at h
      split
      · trivial
      · rw [if_neg (by assumption)] at h
        obtain ⟨r, cell, a1, a2, a3⟩ := h
        exact ⟨r, cell, a1, by rw [hq]; exact a2, a3⟩
  | inr v =>
    cases v with
    | inl xs =>
      obtain ⟨ty, cell, a1, a2, a3⟩ := h
      exact ⟨ty, cell, a1, by rw [hq]; exact a2, a3⟩
    | inr xs =>
      obtain ⟨cell, a1, a2, a3⟩ := h
      exact ⟨cell, a1, by rw [hq]; exact a2, a3⟩
/-- the locals -/
def clr : Option Value → Option Value
  | some (.long _) => none
  | some (.double _) => none
  | x => x
def stL (L : MLoc) (i : Nat) (v : Value) : MLoc := match i with
  | 0 => L.set 0 (some v)
  | i + 1 => (L.modify i clr).set (i + 1) (some v)
def stL2 (L : MLoc) (i : Nat) (v : Value) : MLoc := (stL L i v).set (i + 1) none
def lvR (G : GC) (ls : Array Slot) (nL : Nat) (L : MLoc) : Prop := ls.size = nL ∧ lv_wf ls ∧ ∀ (i : Nat) (v : Value), L[i]? = some (some v) → ls[i]? = some (.val (up G v))
def asc (G : GC) (L : MLoc) : List (Nat × Value) := (List.range L.length).filterMap (fun i => match L[i]? with
  | some (some v) => some (i, up G v)
  | _ => none)
theorem asc_mem {G : GC} {L : MLoc} {i : Nat} {v : Value} (h : L[i]? = some (some v)) : (i, up G v) ∈ asc G L := by
  have hl : i < L.length := (List.getElem?_eq_some_iff.mp h).1
  exact List.mem_filterMap.mpr ⟨i, List.mem_range.mpr hl, by rw [h]⟩
theorem lvR.has {G : GC} {ls : Array Slot} {nL : Nat} {L : MLoc} (h : lvR G ls nL L) : lv_has ls nL (asc G L) := by
  refine ⟨h.1, h.2.1, fun q hq => ?_⟩
  obtain ⟨i, -, hi⟩ := List.mem_filterMap.mp hq
  split at hi
  · rename_i v hv
    cases hi
    exact h.2.2 i v hv
  · cases hi
theorem stL_get {L : MLoc} {i j : Nat} {v w : Value} (h : (stL L i v)[j]? = some (some w)) : (j = i ∧ w = v) ∨ (j ≠ i ∧ L[j]? = some (some w) ∧ (j + 1 = i → w.category = 1)) := by
  cases i with
  | zero =>
    unfold stL at h
    dsimp only at h
    rw [List.getElem?_set] at h
    split at h
    · rename_i e
      split at h
      · cases h; exact Or.inl ⟨e.symm, rfl⟩
      · cases h
    · rename_i e
      exact Or.inr ⟨fun q => e q.symm, h, fun q => by omega⟩
  | succ i =>
    unfold stL at h
    dsimp only at h
    rw [List.getElem?_set] at h
    split at h
    · rename_i e
      split at h
      · cases h; exact Or.inl ⟨e.symm, rfl⟩
      · cases h
    · rename_i e
      rw [List.getElem?_modify] at h
      by_cases hij : i = j
      · subst hij
        simp only [if_true] at h
        cases hx : L[i]? with
        | none => rw [hx] at h; cases h
        | some o =>
          rw [hx] at h
          cases o with
          | none => simp [clr] at h
          | some x =>
            cases x <;> simp [clr] at h <;> (subst h; exact Or.inr ⟨by omega, rfl, fun _ => rfl⟩)
      · simp only [if_neg hij] at h
        exact Or.inr ⟨fun q => e q.symm, by simpa using h, fun q => by omega⟩
theorem lvR_st1 {G : GC} {ls' : Array Slot} {nL i : Nat} {L : MLoc} {v : Value} (h : lv_has ls' nL ((i, up G v) :: (asc G L).filter (fun q => !(q.1 == i) && !(q.1 + 1 == i && q.2.category == 2)))) : lvR G ls' nL (stL L i v) := by
  refine ⟨h.1, h.2.1, fun j w hj => ?_⟩
  rcases stL_get hj with ⟨rfl, rfl⟩ | ⟨h1, h2, h3⟩
  · exact h.2.2 (j, up G w) List.mem_cons_self
  · refine h.2.2 (j, up G w) (List.mem_cons_of_mem _ (List.mem_filter.mpr ⟨asc_mem h2, ?_⟩))
    have hc : (up G w).category = w.category := by cases w <;> first | rfl | (simp only [up]; split <;> rfl)
    by_cases e : j + 1 = i
    · simp [h1, hc, h3 e]
    · simp [h1, e]
theorem lvR_st2 {G : GC} {ls' : Array Slot} {nL i : Nat} {L : MLoc} {v : Value} (h : lv_has ls' nL ((i, up G v) :: (asc G L).filter (fun q => !(q.1 == i) && (!(q.1 == i + 1) && !(q.1 + 1 == i && q.2.category == 2))))) : lvR G ls' nL (stL2 L i v) := by
  refine ⟨h.1, h.2.1, fun j w hj => ?_⟩
  unfold stL2 at hj
  rw [List.getElem?_set] at hj
  split at hj
  · split at hj <;> cases hj
  · rename_i e
    rcases stL_get hj with ⟨rfl, rfl⟩ | ⟨h1, h2, h3⟩
    · exact h.2.2 (j, up G w) List.mem_cons_self
    · refine h.2.2 (j, up G w) (List.mem_cons_of_mem _ (List.mem_filter.mpr ⟨asc_mem h2, ?_⟩))
      have hc : (up G w).category = w.category := by cases w <;> first | rfl | (simp only [up]; split <;> rfl)
      have e' : ¬ j = i + 1 := fun q => e q.symm
      by_cases e2 : j + 1 = i
      · simp [h1, e', hc, h3 e2]
      · simp [h1, e', e2]
/-- a method's own surroundings -/
def Cx (G : GC) (M : MInfo) (d : Nat) (p : Program) (R : Room) (s : State) (m : MethodId) (args : Array Value) (meth : Method) (c : Code) : Prop :=
  p.tables.exec = Jvm.exec ∧ c.code = M.2.1 ∧ c.maxLocals = M.2.2.1 ∧ s.vm.findClass M.2.2.2.2 = some m.cls ∧ (∀ w ∈ ALLW, w.before args s = true) ∧ (M.1.name = "<init>" → meth.name = "<init>") ∧ Fx G s ∧ d ≤ R.frames ∧ 64 * d ≤ R.locals
def RetAt (M : MInfo) (pc : Nat) : Option Value → Prop
  | none => decode M.2.1 pc = .ok (.return_, 1) ∧ M.2.2.2.1 = none
  | some (.int v) => decode M.2.1 pc = .ok (.ireturn, 1) ∧ ∃ ty, M.2.2.2.1 = some ty ∧ narrow ty (.int v) = .int v
  | some (.long _) => decode M.2.1 pc = .ok (.lreturn, 1) ∧ M.2.2.2.1 = some .long
  | some (.ref _) => decode M.2.1 pc = .ok (.areturn, 1) ∧ ∃ rt, M.2.2.2.1 = some rt ∧ ((∃ n, rt = .object n) ∨ ∃ t, rt = .array t)
  | some .null => decode M.2.1 pc = .ok (.areturn, 1) ∧ ∃ rt, M.2.2.2.1 = some rt ∧ ((∃ n, rt = .object n) ∨ ∃ t, rt = .array t)
  | _ => False

def J (d : Nat) (M : MInfo) (fc fs : Nat) (Q : Option Value → MH → Prop) (pc : Nat) (L : MLoc) (st : List Value) (h : MH) : Prop :=
  ∀ (G : GC) (p : Program) (l : Launch) (e : Env) (R : Room) (s : State) (m : MethodId) (args : Array Value) (below : List Frame) (meth : Method) (c : Code) (H : Heap) (locs : List Loc) (cells slots : Nat) (QQ : State → Prop) (ls : Array Slot), Cx G M d p R s m args meth c → lvR G ls M.2.2.1 L → Rl G s h H → va_S (gA G) G.1 H locs → (h.1 ≤ fc ∧ h.2.1 ≤ fs ∧ cells + (fc - h.1) ≤ R.cells ∧ slots + (fs - h.2.1) ≤ R.slots) →
    (∀ (r : Option Value) (h1 : MH) (H1 : Heap) (locs1 : List Loc) (pc1 : Nat) (ls1 : Array Slot), Q r h1 → h1.1 = fc → h1.2.1 = fs → Rl G s h1 H1 → va_S (gA G) G.1 H1 locs1 → RetAt M pc1 r → W p l e R s m args below meth c H1 locs1 (cells + (fc - h.1)) (slots + (fs - h.2.1)) QQ (F0 m pc1 ls1 ((r.map (up G)).toList))) →
    W p l e R s m args below meth c H locs cells slots QQ (F0 m pc ls (st.map (up G)))
theorem J_go {d : Nat} {M : MInfo} {fc fs : Nat} {Q : Option Value → MH → Prop} {pc : Nat} {L : MLoc} {st : List Value} {h : MH} {pc1 : Nat} {st1 : List Value} (hs : ∀ (G : GC) (p : Program) (l : Launch) (e : Env) (R : Room) (s : State) (m : MethodId) (args : Array Value) (below : List Frame) (meth : Method) (c : Code) (H : Heap) (locs : List Loc) (cells slots : Nat) (QQ : State → Prop) (ls : Array Slot), Cx G M d p R s m args meth c → lvR G ls M.2.2.1 L → Rl G s h H → va_S (gA G) G.1 H locs → W p l e R s m args below meth c H locs cells slots QQ (F0 m pc1 ls (st1.map (up G))) → W p l e R s m args below meth c H locs cells slots QQ (F0 m pc ls (st.map (up G)))) (k : J d M fc fs Q pc1 L st1 h) : J d M fc fs Q pc L st h :=
  fun G p l e R s m args below meth c H locs cells slots QQ ls hC hl hR hS hB hK => hs G p l e R s m args below meth c H locs cells slots QQ ls hC hl hR hS (k G p l e R s m args below meth c H locs cells slots QQ ls hC hl hR hS hB hK)
theorem J_br {d : Nat} {M : MInfo} {fc fs : Nat} {Q : Option Value → MH → Prop} {pc : Nat} {L : MLoc} {st : List Value} {h : MH} {pc1 pc2 : Nat} {st1 : List Value} {A B : Prop} (hs : ∀ (G : GC) (p : Program) (l : Launch) (e : Env) (R : Room) (s : State) (m : MethodId) (args : Array Value) (below : List Frame) (meth : Method) (c : Code) (H : Heap) (locs : List Loc) (cells slots : Nat) (QQ : State → Prop) (ls : Array Slot), Cx G M d p R s m args meth c → lvR G ls M.2.2.1 L → Rl G s h H → va_S (gA G) G.1 H locs → (A → W p l e R s m args below meth c H locs cells slots QQ (F0 m pc1 ls (st1.map (up G)))) → (B → W p l e R s m args below meth c H locs cells slots QQ (F0 m pc2 ls (st1.map (up G)))) → W p l e R s m args below meth c H locs cells slots QQ (F0 m pc ls (st.map (up G)))) (k1 : A → J d M fc fs Q pc1 L st1 h) (k2 : B → J d M fc fs Q pc2 L st1 h) : J d M fc fs Q pc L st h :=
  fun G p l e R s m args below meth c H locs cells slots QQ ls hC hl hR hS hB hK => hs G p l e R s m args below meth c H locs cells slots QQ ls hC hl hR hS (fun a => k1 a G p l e R s m args below meth c H locs cells slots QQ ls hC hl hR hS hB hK) (fun b => k2 b G p l e R s m args below meth c H locs cells slots QQ ls hC hl hR hS hB hK)
theorem J_st {d : Nat} {M : MInfo} {fc fs : Nat} {Q : Option Value → MH → Prop} {pc : Nat} {L : MLoc} {st : List Value} {h : MH} {pc1 : Nat} {st1 : List Value} {L1 : MLoc} (hs : ∀ (G : GC) (p : Program) (l : Launch) (e : Env) (R : Room) (s : State) (m : MethodId) (args : Array Value) (below : List Frame) (meth : Method) (c : Code) (H : Heap) (locs : List Loc) (cells slots : Nat) (QQ : State → Prop) (ls : Array Slot), Cx G M d p R s m args meth c → lvR G ls M.2.2.1 L → Rl G s h H → va_S (gA G) G.1 H locs → (∀ ls1 : Array Slot, lvR G ls1 M.2.2.1 L1 → W p l e R s m args below meth c H locs cells slots QQ (F0 m pc1 ls1 (st1.map (up G)))) → W p l e R s m args below meth c H locs cells slots QQ (F0 m pc ls (st.map (up G)))) (k : J d M fc fs Q pc1 L1 st1 h) : J d M fc fs Q pc L st h :=
  fun G p l e R s m args below meth c H locs cells slots QQ ls hC hl hR hS hB hK => hs G p l e R s m args below meth c H locs cells slots QQ ls hC hl hR hS (fun ls1 hl1 => k G p l e R s m args below meth c H locs cells slots QQ ls1 hC hl1 hR hS hB hK)
theorem J.eq {d : Nat} {M : MInfo} {fc fs : Nat} {Q : Option Value → MH → Prop} {pc : Nat} {L : MLoc} {st : List Value} {h : MH} {L1 : MLoc} {st1 : List Value} {h1 : MH} (k : J d M fc fs Q pc L1 st1 h1) (e1 : L = L1) (e2 : st = st1) (e3 : h = h1) : J d M fc fs Q pc L st h := by subst e1; subst e2; subst e3; exact k
theorem J.imp {d : Nat} {M : MInfo} {fc fs : Nat} {Q : Option Value → MH → Prop} {pc : Nat} {L : MLoc} {st : List Value} {h : MH} {Q1 : Option Value → MH → Prop} (k : J d M fc fs Q1 pc L st h) (hq : ∀ r h1, Q1 r h1 → Q r h1) : J d M fc fs Q pc L st h :=
  fun G p l e R s m args below meth c H locs cells slots QQ ls hC hl hR hS hB hK => k G p l e R s m args below meth c H locs cells slots QQ ls hC hl hR hS hB (fun r h1 H1 locs1 pc1 ls1 q => hK r h1 H1 locs1 pc1 ls1 (hq r h1 q))
theorem J_iconst {d : Nat} {M : MInfo} {fc fs : Nat} {Q : Option Value → MH → Prop} {pc : Nat} {L : MLoc} {st : List Value} {h : MH} {n : Int} {v : Int32} (hd : decode M.2.1 pc = .ok (.iconst n, 1)) (hv : Int32.ofInt n = v) (k : J d M fc fs Q (pc + 1) L (.int v :: st) h) : J d M fc fs Q pc L (st) h :=
  J_go (fun G p l e R s m args below meth c H locs cells slots QQ ls hC hl hR hS w => lv_iconst hC.1 hC.2.1 hd hv w) k
theorem J_bipush {d : Nat} {M : MInfo} {fc fs : Nat} {Q : Option Value → MH → Prop} {pc : Nat} {L : MLoc} {st : List Value} {h : MH} {n : Int} {v : Int32} (hd : decode M.2.1 pc = .ok (.bipush n, 2)) (hv : (Int8.ofInt n).toInt32 = v) (k : J d M fc fs Q (pc + 2) L (.int v :: st) h) : J d M fc fs Q pc L (st) h :=
  J_go (fun G p l e R s m args below meth c H locs cells slots QQ ls hC hl hR hS w => lv_bipush hC.1 hC.2.1 hd hv w) k
theorem J_sipush {d : Nat} {M : MInfo} {fc fs : Nat} {Q : Option Value → MH → Prop} {pc : Nat} {L : MLoc} {st : List Value} {h : MH} {n : Int} {v : Int32} (hd : decode M.2.1 pc = .ok (.sipush n, 3)) (hv : (Int16.ofInt n).toInt32 = v) (k : J d M fc fs Q (pc + 3) L (.int v :: st) h) : J d M fc fs Q pc L (st) h :=
  J_go (fun G p l e R s m args below meth c H locs cells slots QQ ls hC hl hR hS w => lv_sipush hC.1 hC.2.1 hd hv w) k
theorem J_lconst {d : Nat} {M : MInfo} {fc fs : Nat} {Q : Option Value → MH → Prop} {pc : Nat} {L : MLoc} {st : List Value} {h : MH} {n : Fin 2} {v : Int64} (hd : decode M.2.1 pc = .ok (.lconst n, 1)) (hv : Int64.ofNat (n : Nat) = v) (k : J d M fc fs Q (pc + 1) L (.long v :: st) h) : J d M fc fs Q pc L (st) h :=
  J_go (fun G p l e R s m args below meth c H locs cells slots QQ ls hC hl hR hS w => lv_lconst hC.1 hC.2.1 hd hv w) k
theorem J_null {d : Nat} {M : MInfo} {fc fs : Nat} {Q : Option Value → MH → Prop} {pc : Nat} {L : MLoc} {st : List Value} {h : MH} (hd : decode M.2.1 pc = .ok (.aconst_null, 1)) (k : J d M fc fs Q (pc + 1) L (.null :: st) h) : J d M fc fs Q pc L (st) h :=
  J_go (fun G p l e R s m args below meth c H locs cells slots QQ ls hC hl hR hS w => lv_null hC.1 hC.2.1 hd w) k
theorem J_ldc {d : Nat} {M : MInfo} {fc fs : Nat} {Q : Option Value → MH → Prop} {pc : Nat} {L : MLoc} {st : List Value} {h : MH} {k1 : Nat} {v : Int32} (hd : decode M.2.1 pc = .ok (.ldc k1, 2)) (hw : Cond.constant M.2.2.2.2 k1 v ∈ ALLW) (k : J d M fc fs Q (pc + 2) L (.int v :: st) h) : J d M fc fs Q pc L (st) h :=
  J_go (fun G p l e R s m args below meth c H locs cells slots QQ ls hC hl hR hS w => lv_ldc hC.1 hC.2.1 hC.2.2.2.1 (hC.2.2.2.2.1 _ hw) hd w) k
theorem J_ldcw {d : Nat} {M : MInfo} {fc fs : Nat} {Q : Option Value → MH → Prop} {pc : Nat} {L : MLoc} {st : List Value} {h : MH} {k1 : Nat} {v : Int32} (hd : decode M.2.1 pc = .ok (.ldc_w k1, 3)) (hw : Cond.constant M.2.2.2.2 k1 v ∈ ALLW) (k : J d M fc fs Q (pc + 3) L (.int v :: st) h) : J d M fc fs Q pc L (st) h :=
  J_go (fun G p l e R s m args below meth c H locs cells slots QQ ls hC hl hR hS w => lv_ldcw hC.1 hC.2.1 hC.2.2.2.1 (hC.2.2.2.2.1 _ hw) hd w) k
theorem J_ldc2 {d : Nat} {M : MInfo} {fc fs : Nat} {Q : Option Value → MH → Prop} {pc : Nat} {L : MLoc} {st : List Value} {h : MH} {k1 : Nat} {v : Int64} (hd : decode M.2.1 pc = .ok (.ldc2_w k1, 3)) (hw : Cond.constantLong M.2.2.2.2 k1 v ∈ ALLW) (k : J d M fc fs Q (pc + 3) L (.long v :: st) h) : J d M fc fs Q pc L (st) h :=
  J_go (fun G p l e R s m args below meth c H locs cells slots QQ ls hC hl hR hS w => lv_ldc2 hC.1 hC.2.1 hC.2.2.2.1 (hC.2.2.2.2.1 _ hw) hd w) k
theorem J_iload_n {d : Nat} {M : MInfo} {fc fs : Nat} {Q : Option Value → MH → Prop} {pc : Nat} {L : MLoc} {st : List Value} {h : MH} {n : Fin 4} {i : Nat} {x : Int32} (hd : decode M.2.1 pc = .ok (.iload_n n, 1)) (hi : (n : Nat) = i) (hx : L[i]? = some (some (.int x))) (k : J d M fc fs Q (pc + 1) L (.int x :: st) h) : J d M fc fs Q pc L (st) h :=
  J_go (fun G p l e R s m args below meth c H locs cells slots QQ ls hC hl hR hS w => lv_iload_n hC.1 hC.2.1 hd hi (hl.2.2 i _ hx) w) k
theorem J_iload {d : Nat} {M : MInfo} {fc fs : Nat} {Q : Option Value → MH → Prop} {pc : Nat} {L : MLoc} {st : List Value} {h : MH} {i : Nat} {x : Int32} (hd : decode M.2.1 pc = .ok (.iload i, 2)) (hx : L[i]? = some (some (.int x))) (k : J d M fc fs Q (pc + 2) L (.int x :: st) h) : J d M fc fs Q pc L (st) h :=
  J_go (fun G p l e R s m args below meth c H locs cells slots QQ ls hC hl hR hS w => lv_iload hC.1 hC.2.1 hd (hl.2.2 i _ hx) w) k
theorem J_lload_n {d : Nat} {M : MInfo} {fc fs : Nat} {Q : Option Value → MH → Prop} {pc : Nat} {L : MLoc} {st : List Value} {h : MH} {n : Fin 4} {i : Nat} {x : Int64} (hd : decode M.2.1 pc = .ok (.lload_n n, 1)) (hi : (n : Nat) = i) (hx : L[i]? = some (some (.long x))) (k : J d M fc fs Q (pc + 1) L (.long x :: st) h) : J d M fc fs Q pc L (st) h :=
  J_go (fun G p l e R s m args below meth c H locs cells slots QQ ls hC hl hR hS w => lv_lload_n hC.1 hC.2.1 hd hi (hl.2.2 i _ hx) w) k
theorem J_lload {d : Nat} {M : MInfo} {fc fs : Nat} {Q : Option Value → MH → Prop} {pc : Nat} {L : MLoc} {st : List Value} {h : MH} {i : Nat} {x : Int64} (hd : decode M.2.1 pc = .ok (.lload i, 2)) (hx : L[i]? = some (some (.long x))) (k : J d M fc fs Q (pc + 2) L (.long x :: st) h) : J d M fc fs Q pc L (st) h :=
  J_go (fun G p l e R s m args below meth c H locs cells slots QQ ls hC hl hR hS w => lv_lload hC.1 hC.2.1 hd (hl.2.2 i _ hx) w) k
theorem J_aload_n {d : Nat} {M : MInfo} {fc fs : Nat} {Q : Option Value → MH → Prop} {pc : Nat} {L : MLoc} {st : List Value} {h : MH} {n : Fin 4} {i : Nat} {x : Nat} (hd : decode M.2.1 pc = .ok (.aload_n n, 1)) (hi : (n : Nat) = i) (hx : L[i]? = some (some (.ref x))) (k : J d M fc fs Q (pc + 1) L (.ref x :: st) h) : J d M fc fs Q pc L (st) h :=
  J_go (fun G p l e R s m args below meth c H locs cells slots QQ ls hC hl hR hS w => lv_aload_n hC.1 hC.2.1 hd hi (hl.2.2 i _ hx) w) k
theorem J_aload {d : Nat} {M : MInfo} {fc fs : Nat} {Q : Option Value → MH → Prop} {pc : Nat} {L : MLoc} {st : List Value} {h : MH} {i : Nat} {x : Nat} (hd : decode M.2.1 pc = .ok (.aload i, 2)) (hx : L[i]? = some (some (.ref x))) (k : J d M fc fs Q (pc + 2) L (.ref x :: st) h) : J d M fc fs Q pc L (st) h :=
  J_go (fun G p l e R s m args below meth c H locs cells slots QQ ls hC hl hR hS w => lv_aload hC.1 hC.2.1 hd (hl.2.2 i _ hx) w) k
theorem J_aload_nN {d : Nat} {M : MInfo} {fc fs : Nat} {Q : Option Value → MH → Prop} {pc : Nat} {L : MLoc} {st : List Value} {h : MH} {n : Fin 4} {i : Nat} (hd : decode M.2.1 pc = .ok (.aload_n n, 1)) (hi : (n : Nat) = i) (hx : L[i]? = some (some .null)) (k : J d M fc fs Q (pc + 1) L (.null :: st) h) : J d M fc fs Q pc L (st) h :=
  J_go (fun G p l e R s m args below meth c H locs cells slots QQ ls hC hl hR hS w => lv_aload_nN hC.1 hC.2.1 hd hi (hl.2.2 i _ hx) w) k
theorem J_aloadN {d : Nat} {M : MInfo} {fc fs : Nat} {Q : Option Value → MH → Prop} {pc : Nat} {L : MLoc} {st : List Value} {h : MH} {i : Nat} (hd : decode M.2.1 pc = .ok (.aload i, 2)) (hx : L[i]? = some (some .null)) (k : J d M fc fs Q (pc + 2) L (.null :: st) h) : J d M fc fs Q pc L (st) h :=
  J_go (fun G p l e R s m args below meth c H locs cells slots QQ ls hC hl hR hS w => lv_aloadN hC.1 hC.2.1 hd (hl.2.2 i _ hx) w) k
theorem J_iadd {d : Nat} {M : MInfo} {fc fs : Nat} {Q : Option Value → MH → Prop} {pc : Nat} {L : MLoc} {st : List Value} {h : MH} {x y : Int32} (hd : decode M.2.1 pc = .ok (.iadd, 1)) (k : J d M fc fs Q (pc + 1) L (.int (x + y) :: st) h) : J d M fc fs Q pc L (.int y :: .int x :: st) h :=
  J_go (fun G p l e R s m args below meth c H locs cells slots QQ ls hC hl hR hS w => lv_iadd hC.1 hC.2.1 hd w) k
theorem J_isub {d : Nat} {M : MInfo} {fc fs : Nat} {Q : Option Value → MH → Prop} {pc : Nat} {L : MLoc} {st : List Value} {h : MH} {x y : Int32} (hd : decode M.2.1 pc = .ok (.isub, 1)) (k : J d M fc fs Q (pc + 1) L (.int (x - y) :: st) h) : J d M fc fs Q pc L (.int y :: .int x :: st) h :=
  J_go (fun G p l e R s m args below meth c H locs cells slots QQ ls hC hl hR hS w => lv_isub hC.1 hC.2.1 hd w) k
theorem J_imul {d : Nat} {M : MInfo} {fc fs : Nat} {Q : Option Value → MH → Prop} {pc : Nat} {L : MLoc} {st : List Value} {h : MH} {x y : Int32} (hd : decode M.2.1 pc = .ok (.imul, 1)) (k : J d M fc fs Q (pc + 1) L (.int (x * y) :: st) h) : J d M fc fs Q pc L (.int y :: .int x :: st) h :=
  J_go (fun G p l e R s m args below meth c H locs cells slots QQ ls hC hl hR hS w => lv_imul hC.1 hC.2.1 hd w) k
theorem J_iand {d : Nat} {M : MInfo} {fc fs : Nat} {Q : Option Value → MH → Prop} {pc : Nat} {L : MLoc} {st : List Value} {h : MH} {x y : Int32} (hd : decode M.2.1 pc = .ok (.iand, 1)) (k : J d M fc fs Q (pc + 1) L (.int (x &&& y) :: st) h) : J d M fc fs Q pc L (.int y :: .int x :: st) h :=
  J_go (fun G p l e R s m args below meth c H locs cells slots QQ ls hC hl hR hS w => lv_iand hC.1 hC.2.1 hd w) k
theorem J_ior {d : Nat} {M : MInfo} {fc fs : Nat} {Q : Option Value → MH → Prop} {pc : Nat} {L : MLoc} {st : List Value} {h : MH} {x y : Int32} (hd : decode M.2.1 pc = .ok (.ior, 1)) (k : J d M fc fs Q (pc + 1) L (.int (x ||| y) :: st) h) : J d M fc fs Q pc L (.int y :: .int x :: st) h :=
  J_go (fun G p l e R s m args below meth c H locs cells slots QQ ls hC hl hR hS w => lv_ior hC.1 hC.2.1 hd w) k
theorem J_ixor {d : Nat} {M : MInfo} {fc fs : Nat} {Q : Option Value → MH → Prop} {pc : Nat} {L : MLoc} {st : List Value} {h : MH} {x y : Int32} (hd : decode M.2.1 pc = .ok (.ixor, 1)) (k : J d M fc fs Q (pc + 1) L (.int (x ^^^ y) :: st) h) : J d M fc fs Q pc L (.int y :: .int x :: st) h :=
  J_go (fun G p l e R s m args below meth c H locs cells slots QQ ls hC hl hR hS w => lv_ixor hC.1 hC.2.1 hd w) k
theorem J_ishl {d : Nat} {M : MInfo} {fc fs : Nat} {Q : Option Value → MH → Prop} {pc : Nat} {L : MLoc} {st : List Value} {h : MH} {x y : Int32} (hd : decode M.2.1 pc = .ok (.ishl, 1)) (k : J d M fc fs Q (pc + 1) L (.int (x <<< (y &&& 31)) :: st) h) : J d M fc fs Q pc L (.int y :: .int x :: st) h :=
  J_go (fun G p l e R s m args below meth c H locs cells slots QQ ls hC hl hR hS w => lv_ishl hC.1 hC.2.1 hd w) k
theorem J_ishr {d : Nat} {M : MInfo} {fc fs : Nat} {Q : Option Value → MH → Prop} {pc : Nat} {L : MLoc} {st : List Value} {h : MH} {x y : Int32} (hd : decode M.2.1 pc = .ok (.ishr, 1)) (k : J d M fc fs Q (pc + 1) L (.int (x >>> (y &&& 31)) :: st) h) : J d M fc fs Q pc L (.int y :: .int x :: st) h :=
  J_go (fun G p l e R s m args below meth c H locs cells slots QQ ls hC hl hR hS w => lv_ishr hC.1 hC.2.1 hd w) k
theorem J_iushr {d : Nat} {M : MInfo} {fc fs : Nat} {Q : Option Value → MH → Prop} {pc : Nat} {L : MLoc} {st : List Value} {h : MH} {x y : Int32} (hd : decode M.2.1 pc = .ok (.iushr, 1)) (k : J d M fc fs Q (pc + 1) L (.int ((x.toUInt32 >>> (y.toUInt32 &&& Int32.toUInt32 31)).toInt32) :: st) h) : J d M fc fs Q pc L (.int y :: .int x :: st) h :=
  J_go (fun G p l e R s m args below meth c H locs cells slots QQ ls hC hl hR hS w => lv_iushr hC.1 hC.2.1 hd rfl w) k
theorem J_idiv {d : Nat} {M : MInfo} {fc fs : Nat} {Q : Option Value → MH → Prop} {pc : Nat} {L : MLoc} {st : List Value} {h : MH} {x y : Int32} (hd : decode M.2.1 pc = .ok (.idiv, 1)) (hne : ¬ y = 0) (k : J d M fc fs Q (pc + 1) L (.int (x / y) :: st) h) : J d M fc fs Q pc L (.int y :: .int x :: st) h :=
  J_go (fun G p l e R s m args below meth c H locs cells slots QQ ls hC hl hR hS w => lv_idiv hC.1 hC.2.1 hd hne w) k
theorem J_irem {d : Nat} {M : MInfo} {fc fs : Nat} {Q : Option Value → MH → Prop} {pc : Nat} {L : MLoc} {st : List Value} {h : MH} {x y : Int32} (hd : decode M.2.1 pc = .ok (.irem, 1)) (hne : ¬ y = 0) (k : J d M fc fs Q (pc + 1) L (.int (x - x / y * y) :: st) h) : J d M fc fs Q pc L (.int y :: .int x :: st) h :=
  J_go (fun G p l e R s m args below meth c H locs cells slots QQ ls hC hl hR hS w => lv_irem hC.1 hC.2.1 hd hne w) k
theorem J_ineg {d : Nat} {M : MInfo} {fc fs : Nat} {Q : Option Value → MH → Prop} {pc : Nat} {L : MLoc} {st : List Value} {h : MH} {x : Int32} (hd : decode M.2.1 pc = .ok (.ineg, 1)) (k : J d M fc fs Q (pc + 1) L (.int (-x) :: st) h) : J d M fc fs Q pc L (.int x :: st) h :=
  J_go (fun G p l e R s m args below meth c H locs cells slots QQ ls hC hl hR hS w => lv_ineg hC.1 hC.2.1 hd w) k
theorem J_ladd {d : Nat} {M : MInfo} {fc fs : Nat} {Q : Option Value → MH → Prop} {pc : Nat} {L : MLoc} {st : List Value} {h : MH} {x y : Int64} (hd : decode M.2.1 pc = .ok (.ladd, 1)) (k : J d M fc fs Q (pc + 1) L (.long (x + y) :: st) h) : J d M fc fs Q pc L (.long y :: .long x :: st) h :=
  J_go (fun G p l e R s m args below meth c H locs cells slots QQ ls hC hl hR hS w => lv_ladd hC.1 hC.2.1 hd w) k
theorem J_lsub {d : Nat} {M : MInfo} {fc fs : Nat} {Q : Option Value → MH → Prop} {pc : Nat} {L : MLoc} {st : List Value} {h : MH} {x y : Int64} (hd : decode M.2.1 pc = .ok (.lsub, 1)) (k : J d M fc fs Q (pc + 1) L (.long (x - y) :: st) h) : J d M fc fs Q pc L (.long y :: .long x :: st) h :=
  J_go (fun G p l e R s m args below meth c H locs cells slots QQ ls hC hl hR hS w => lv_lsub hC.1 hC.2.1 hd w) k
theorem J_lmul {d : Nat} {M : MInfo} {fc fs : Nat} {Q : Option Value → MH → Prop} {pc : Nat} {L : MLoc} {st : List Value} {h : MH} {x y : Int64} (hd : decode M.2.1 pc = .ok (.lmul, 1)) (k : J d M fc fs Q (pc + 1) L (.long (x * y) :: st) h) : J d M fc fs Q pc L (.long y :: .long x :: st) h :=
  J_go (fun G p l e R s m args below meth c H locs cells slots QQ ls hC hl hR hS w => lv_lmul hC.1 hC.2.1 hd w) k
theorem J_lor {d : Nat} {M : MInfo} {fc fs : Nat} {Q : Option Value → MH → Prop} {pc : Nat} {L : MLoc} {st : List Value} {h : MH} {x y : Int64} (hd : decode M.2.1 pc = .ok (.lor, 1)) (k : J d M fc fs Q (pc + 1) L (.long (x ||| y) :: st) h) : J d M fc fs Q pc L (.long y :: .long x :: st) h :=
  J_go (fun G p l e R s m args below meth c H locs cells slots QQ ls hC hl hR hS w => lv_lor hC.1 hC.2.1 hd w) k
theorem J_land {d : Nat} {M : MInfo} {fc fs : Nat} {Q : Option Value → MH → Prop} {pc : Nat} {L : MLoc} {st : List Value} {h : MH} {x y : Int64} (hd : decode M.2.1 pc = .ok (.land, 1)) (k : J d M fc fs Q (pc + 1) L (.long (x &&& y) :: st) h) : J d M fc fs Q pc L (.long y :: .long x :: st) h :=
  J_go (fun G p l e R s m args below meth c H locs cells slots QQ ls hC hl hR hS w => lv_land hC.1 hC.2.1 hd w) k
theorem J_ldiv {d : Nat} {M : MInfo} {fc fs : Nat} {Q : Option Value → MH → Prop} {pc : Nat} {L : MLoc} {st : List Value} {h : MH} {x y : Int64} (hd : decode M.2.1 pc = .ok (.ldiv, 1)) (hne : ¬ y = 0) (k : J d M fc fs Q (pc + 1) L (.long (x / y) :: st) h) : J d M fc fs Q pc L (.long y :: .long x :: st) h :=
  J_go (fun G p l e R s m args below meth c H locs cells slots QQ ls hC hl hR hS w => lv_ldiv hC.1 hC.2.1 hd hne w) k
theorem J_lrem {d : Nat} {M : MInfo} {fc fs : Nat} {Q : Option Value → MH → Prop} {pc : Nat} {L : MLoc} {st : List Value} {h : MH} {x y : Int64} (hd : decode M.2.1 pc = .ok (.lrem, 1)) (hne : ¬ y = 0) (k : J d M fc fs Q (pc + 1) L (.long (x - x / y * y) :: st) h) : J d M fc fs Q pc L (.long y :: .long x :: st) h :=
  J_go (fun G p l e R s m args below meth c H locs cells slots QQ ls hC hl hR hS w => lv_lrem hC.1 hC.2.1 hd hne w) k
theorem J_lneg {d : Nat} {M : MInfo} {fc fs : Nat} {Q : Option Value → MH → Prop} {pc : Nat} {L : MLoc} {st : List Value} {h : MH} {x : Int64} (hd : decode M.2.1 pc = .ok (.lneg, 1)) (k : J d M fc fs Q (pc + 1) L (.long (-x) :: st) h) : J d M fc fs Q pc L (.long x :: st) h :=
  J_go (fun G p l e R s m args below meth c H locs cells slots QQ ls hC hl hR hS w => lv_lneg hC.1 hC.2.1 hd w) k
theorem J_lshl {d : Nat} {M : MInfo} {fc fs : Nat} {Q : Option Value → MH → Prop} {pc : Nat} {L : MLoc} {st : List Value} {h : MH} {x : Int64} {y : Int32} (hd : decode M.2.1 pc = .ok (.lshl, 1)) (k : J d M fc fs Q (pc + 1) L (.long (x <<< (y.toInt64 &&& 63)) :: st) h) : J d M fc fs Q pc L (.int y :: .long x :: st) h :=
  J_go (fun G p l e R s m args below meth c H locs cells slots QQ ls hC hl hR hS w => lv_lshl hC.1 hC.2.1 hd rfl w) k
theorem J_lshr {d : Nat} {M : MInfo} {fc fs : Nat} {Q : Option Value → MH → Prop} {pc : Nat} {L : MLoc} {st : List Value} {h : MH} {x : Int64} {y : Int32} (hd : decode M.2.1 pc = .ok (.lshr, 1)) (k : J d M fc fs Q (pc + 1) L (.long (x >>> (y.toInt64 &&& 63)) :: st) h) : J d M fc fs Q pc L (.int y :: .long x :: st) h :=
  J_go (fun G p l e R s m args below meth c H locs cells slots QQ ls hC hl hR hS w => lv_lshr hC.1 hC.2.1 hd rfl w) k
theorem J_lcmp {d : Nat} {M : MInfo} {fc fs : Nat} {Q : Option Value → MH → Prop} {pc : Nat} {L : MLoc} {st : List Value} {h : MH} {x y : Int64} (hd : decode M.2.1 pc = .ok (.lcmp, 1)) (k : J d M fc fs Q (pc + 1) L (.int (lg_cmp x y) :: st) h) : J d M fc fs Q pc L (.long y :: .long x :: st) h :=
  J_go (fun G p l e R s m args below meth c H locs cells slots QQ ls hC hl hR hS w => W.lcmp hC.1 hC.2.1 hd w) k
theorem J_i2l {d : Nat} {M : MInfo} {fc fs : Nat} {Q : Option Value → MH → Prop} {pc : Nat} {L : MLoc} {st : List Value} {h : MH} {x : Int32} (hd : decode M.2.1 pc = .ok (.i2l, 1)) (k : J d M fc fs Q (pc + 1) L (.long x.toInt64 :: st) h) : J d M fc fs Q pc L (.int x :: st) h :=
  J_go (fun G p l e R s m args below meth c H locs cells slots QQ ls hC hl hR hS w => lv_i2l hC.1 hC.2.1 hd rfl w) k
theorem J_l2i {d : Nat} {M : MInfo} {fc fs : Nat} {Q : Option Value → MH → Prop} {pc : Nat} {L : MLoc} {st : List Value} {h : MH} {x : Int64} (hd : decode M.2.1 pc = .ok (.l2i, 1)) (k : J d M fc fs Q (pc + 1) L (.int x.toInt32 :: st) h) : J d M fc fs Q pc L (.long x :: st) h :=
  J_go (fun G p l e R s m args below meth c H locs cells slots QQ ls hC hl hR hS w => lv_l2i hC.1 hC.2.1 hd rfl w) k
theorem J_i2c {d : Nat} {M : MInfo} {fc fs : Nat} {Q : Option Value → MH → Prop} {pc : Nat} {L : MLoc} {st : List Value} {h : MH} {x : Int32} (hd : decode M.2.1 pc = .ok (.i2c, 1)) (k : J d M fc fs Q (pc + 1) L (.int (x.toUInt32 % 65536).toInt32 :: st) h) : J d M fc fs Q pc L (.int x :: st) h :=
  J_go (fun G p l e R s m args below meth c H locs cells slots QQ ls hC hl hR hS w => lv_i2c hC.1 hC.2.1 hd rfl w) k
theorem up_cat {G : GC} {v : Value} : (up G v).category = v.category := by cases v <;> first | rfl | (simp only [up]; split <;> rfl)
theorem J_dup {d : Nat} {M : MInfo} {fc fs : Nat} {Q : Option Value → MH → Prop} {pc : Nat} {L : MLoc} {st : List Value} {h : MH} {v : Value} (hd : decode M.2.1 pc = .ok (.dup, 1)) (hv : v.category = 1) (k : J d M fc fs Q (pc + 1) L (v :: v :: st) h) : J d M fc fs Q pc L (v :: st) h :=
  J_go (fun G p l e R s m args below meth c H locs cells slots QQ ls hC hl hR hS w => lv_dup hC.1 hC.2.1 hd (by rw [up_cat]; exact hv) w) k
theorem J_pop {d : Nat} {M : MInfo} {fc fs : Nat} {Q : Option Value → MH → Prop} {pc : Nat} {L : MLoc} {st : List Value} {h : MH} {v : Value} (hd : decode M.2.1 pc = .ok (.pop, 1)) (hv : v.category = 1) (k : J d M fc fs Q (pc + 1) L (st) h) : J d M fc fs Q pc L (v :: st) h :=
  J_go (fun G p l e R s m args below meth c H locs cells slots QQ ls hC hl hR hS w => lv_pop hC.1 hC.2.1 hd (by rw [up_cat]; exact hv) w) k
theorem J_dup2 {d : Nat} {M : MInfo} {fc fs : Nat} {Q : Option Value → MH → Prop} {pc : Nat} {L : MLoc} {st : List Value} {h : MH} {u v : Value} (hd : decode M.2.1 pc = .ok (.dup2, 1)) (hu : u.category = 1) (hv : v.category = 1) (k : J d M fc fs Q (pc + 1) L (u :: v :: u :: v :: st) h) : J d M fc fs Q pc L (u :: v :: st) h :=
  J_go (fun G p l e R s m args below meth c H locs cells slots QQ ls hC hl hR hS w => lv_dup2_11 hC.1 hC.2.1 hd (by rw [up_cat]; exact hu) (by rw [up_cat]; exact hv) w) k
theorem J_goto {d : Nat} {M : MInfo} {fc fs : Nat} {Q : Option Value → MH → Prop} {pc : Nat} {L : MLoc} {st : List Value} {h : MH} {off : Int} {tgt : Nat} (hd : decode M.2.1 pc = .ok (.goto off, 3)) (ht : (pc : Int) + off = (tgt : Int)) (k : J d M fc fs Q (tgt) L (st) h) : J d M fc fs Q pc L (st) h :=
  J_go (fun G p l e R s m args below meth c H locs cells slots QQ ls hC hl hR hS w => lv_goto hC.1 hC.2.1 hd ht w) k
theorem J_ifnull_r {d : Nat} {M : MInfo} {fc fs : Nat} {Q : Option Value → MH → Prop} {pc : Nat} {L : MLoc} {st : List Value} {h : MH} {x : Nat} {off : Int} (hd : decode M.2.1 pc = .ok (.ifnull off, 3)) (k : J d M fc fs Q (pc + 3) L (st) h) : J d M fc fs Q pc L (.ref x :: st) h :=
  J_go (fun G p l e R s m args below meth c H locs cells slots QQ ls hC hl hR hS w => lv_ifnull hC.1 hC.2.1 hd w) k
theorem J_ifnull_n {d : Nat} {M : MInfo} {fc fs : Nat} {Q : Option Value → MH → Prop} {pc : Nat} {L : MLoc} {st : List Value} {h : MH} {off : Int} {tgt : Nat} (hd : decode M.2.1 pc = .ok (.ifnull off, 3)) (ht : (pc : Int) + off = (tgt : Int)) (k : J d M fc fs Q (tgt) L (st) h) : J d M fc fs Q pc L (.null :: st) h :=
  J_go (fun G p l e R s m args below meth c H locs cells slots QQ ls hC hl hR hS w => lv_ifnullN hC.1 hC.2.1 hd ht w) k
theorem J_ifnonnull_r {d : Nat} {M : MInfo} {fc fs : Nat} {Q : Option Value → MH → Prop} {pc : Nat} {L : MLoc} {st : List Value} {h : MH} {x : Nat} {off : Int} {tgt : Nat} (hd : decode M.2.1 pc = .ok (.ifnonnull off, 3)) (ht : (pc : Int) + off = (tgt : Int)) (k : J d M fc fs Q (tgt) L (st) h) : J d M fc fs Q pc L (.ref x :: st) h :=
  J_go (fun G p l e R s m args below meth c H locs cells slots QQ ls hC hl hR hS w => lv_ifnonnull hC.1 hC.2.1 hd ht w) k
theorem J_ifnonnull_n {d : Nat} {M : MInfo} {fc fs : Nat} {Q : Option Value → MH → Prop} {pc : Nat} {L : MLoc} {st : List Value} {h : MH} {off : Int} (hd : decode M.2.1 pc = .ok (.ifnonnull off, 3)) (k : J d M fc fs Q (pc + 3) L (st) h) : J d M fc fs Q pc L (.null :: st) h :=
  J_go (fun G p l e R s m args below meth c H locs cells slots QQ ls hC hl hR hS w => lv_ifnonnullN hC.1 hC.2.1 hd w) k
theorem J_if_eq {d : Nat} {M : MInfo} {fc fs : Nat} {Q : Option Value → MH → Prop} {pc : Nat} {L : MLoc} {st : List Value} {h : MH} {x : Int32} {off : Int} {tgt : Nat} (hd : decode M.2.1 pc = .ok (.ifCond .eq off, 3)) (ht : (pc : Int) + off = (tgt : Int)) (k1 : x = 0 → J d M fc fs Q tgt L st h) (k2 : ¬ x = 0 → J d M fc fs Q (pc + 3) L st h) : J d M fc fs Q pc L (.int x :: st) h :=
  J_br (fun G p l e R s m args below meth c H locs cells slots QQ ls hC hl hR hS w1 w2 => lv_if_eq hC.1 hC.2.1 hd ht w1 w2) k1 k2
theorem J_icmp_eq {d : Nat} {M : MInfo} {fc fs : Nat} {Q : Option Value → MH → Prop} {pc : Nat} {L : MLoc} {st : List Value} {h : MH} {x y : Int32} {off : Int} {tgt : Nat} (hd : decode M.2.1 pc = .ok (.if_icmp .eq off, 3)) (ht : (pc : Int) + off = (tgt : Int)) (k1 : x = y → J d M fc fs Q tgt L st h) (k2 : ¬ x = y → J d M fc fs Q (pc + 3) L st h) : J d M fc fs Q pc L (.int y :: .int x :: st) h :=
  J_br (fun G p l e R s m args below meth c H locs cells slots QQ ls hC hl hR hS w1 w2 => lv_icmp_eq hC.1 hC.2.1 hd ht w1 w2) k1 k2
theorem J_if_ne {d : Nat} {M : MInfo} {fc fs : Nat} {Q : Option Value → MH → Prop} {pc : Nat} {L : MLoc} {st : List Value} {h : MH} {x : Int32} {off : Int} {tgt : Nat} (hd : decode M.2.1 pc = .ok (.ifCond .ne off, 3)) (ht : (pc : Int) + off = (tgt : Int)) (k1 : ¬ x = 0 → J d M fc fs Q tgt L st h) (k2 : x = 0 → J d M fc fs Q (pc + 3) L st h) : J d M fc fs Q pc L (.int x :: st) h :=
  J_br (fun G p l e R s m args below meth c H locs cells slots QQ ls hC hl hR hS w1 w2 => lv_if_ne hC.1 hC.2.1 hd ht w1 w2) k1 k2
theorem J_icmp_ne {d : Nat} {M : MInfo} {fc fs : Nat} {Q : Option Value → MH → Prop} {pc : Nat} {L : MLoc} {st : List Value} {h : MH} {x y : Int32} {off : Int} {tgt : Nat} (hd : decode M.2.1 pc = .ok (.if_icmp .ne off, 3)) (ht : (pc : Int) + off = (tgt : Int)) (k1 : ¬ x = y → J d M fc fs Q tgt L st h) (k2 : x = y → J d M fc fs Q (pc + 3) L st h) : J d M fc fs Q pc L (.int y :: .int x :: st) h :=
  J_br (fun G p l e R s m args below meth c H locs cells slots QQ ls hC hl hR hS w1 w2 => lv_icmp_ne hC.1 hC.2.1 hd ht w1 w2) k1 k2
theorem J_if_lt {d : Nat} {M : MInfo} {fc fs : Nat} {Q : Option Value → MH → Prop} {pc : Nat} {L : MLoc} {st : List Value} {h : MH} {x : Int32} {off : Int} {tgt : Nat} (hd : decode M.2.1 pc = .ok (.ifCond .lt off, 3)) (ht : (pc : Int) + off = (tgt : Int)) (k1 : x < 0 → J d M fc fs Q tgt L st h) (k2 : ¬ x < 0 → J d M fc fs Q (pc + 3) L st h) : J d M fc fs Q pc L (.int x :: st) h :=
  J_br (fun G p l e R s m args below meth c H locs cells slots QQ ls hC hl hR hS w1 w2 => lv_if_lt hC.1 hC.2.1 hd ht w1 w2) k1 k2
theorem J_icmp_lt {d : Nat} {M : MInfo} {fc fs : Nat} {Q : Option Value → MH → Prop} {pc : Nat} {L : MLoc} {st : List Value} {h : MH} {x y : Int32} {off : Int} {tgt : Nat} (hd : decode M.2.1 pc = .ok (.if_icmp .lt off, 3)) (ht : (pc : Int) + off = (tgt : Int)) (k1 : x < y → J d M fc fs Q tgt L st h) (k2 : ¬ x < y → J d M fc fs Q (pc + 3) L st h) : J d M fc fs Q pc L (.int y :: .int x :: st) h :=
  J_br (fun G p l e R s m args below meth c H locs cells slots QQ ls hC hl hR hS w1 w2 => lv_icmp_lt hC.1 hC.2.1 hd ht w1 w2) k1 k2
theorem J_if_ge {d : Nat} {M : MInfo} {fc fs : Nat} {Q : Option Value → MH → Prop} {pc : Nat} {L : MLoc} {st : List Value} {h : MH} {x : Int32} {off : Int} {tgt : Nat} (hd : decode M.2.1 pc = .ok (.ifCond .ge off, 3)) (ht : (pc : Int) + off = (tgt : Int)) (k1 : 0 ≤ x → J d M fc fs Q tgt L st h) (k2 : ¬ 0 ≤ x → J d M fc fs Q (pc + 3) L st h) : J d M fc fs Q pc L (.int x :: st) h :=
  J_br (fun G p l e R s m args below meth c H locs cells slots QQ ls hC hl hR hS w1 w2 => lv_if_ge hC.1 hC.2.1 hd ht w1 w2) k1 k2
theorem J_icmp_ge {d : Nat} {M : MInfo} {fc fs : Nat} {Q : Option Value → MH → Prop} {pc : Nat} {L : MLoc} {st : List Value} {h : MH} {x y : Int32} {off : Int} {tgt : Nat} (hd : decode M.2.1 pc = .ok (.if_icmp .ge off, 3)) (ht : (pc : Int) + off = (tgt : Int)) (k1 : y ≤ x → J d M fc fs Q tgt L st h) (k2 : ¬ y ≤ x → J d M fc fs Q (pc + 3) L st h) : J d M fc fs Q pc L (.int y :: .int x :: st) h :=
  J_br (fun G p l e R s m args below meth c H locs cells slots QQ ls hC hl hR hS w1 w2 => lv_icmp_ge hC.1 hC.2.1 hd ht w1 w2) k1 k2
theorem J_if_gt {d : Nat} {M : MInfo} {fc fs : Nat} {Q : Option Value → MH → Prop} {pc : Nat} {L : MLoc} {st : List Value} {h : MH} {x : Int32} {off : Int} {tgt : Nat} (hd : decode M.2.1 pc = .ok (.ifCond .gt off, 3)) (ht : (pc : Int) + off = (tgt : Int)) (k1 : 0 < x → J d M fc fs Q tgt L st h) (k2 : ¬ 0 < x → J d M fc fs Q (pc + 3) L st h) : J d M fc fs Q pc L (.int x :: st) h :=
  J_br (fun G p l e R s m args below meth c H locs cells slots QQ ls hC hl hR hS w1 w2 => lv_if_gt hC.1 hC.2.1 hd ht w1 w2) k1 k2
theorem J_icmp_gt {d : Nat} {M : MInfo} {fc fs : Nat} {Q : Option Value → MH → Prop} {pc : Nat} {L : MLoc} {st : List Value} {h : MH} {x y : Int32} {off : Int} {tgt : Nat} (hd : decode M.2.1 pc = .ok (.if_icmp .gt off, 3)) (ht : (pc : Int) + off = (tgt : Int)) (k1 : y < x → J d M fc fs Q tgt L st h) (k2 : ¬ y < x → J d M fc fs Q (pc + 3) L st h) : J d M fc fs Q pc L (.int y :: .int x :: st) h :=
  J_br (fun G p l e R s m args below meth c H locs cells slots QQ ls hC hl hR hS w1 w2 => lv_icmp_gt hC.1 hC.2.1 hd ht w1 w2) k1 k2
theorem J_if_le {d : Nat} {M : MInfo} {fc fs : Nat} {Q : Option Value → MH → Prop} {pc : Nat} {L : MLoc} {st : List Value} {h : MH} {x : Int32} {off : Int} {tgt : Nat} (hd : decode M.2.1 pc = .ok (.ifCond .le off, 3)) (ht : (pc : Int) + off = (tgt : Int)) (k1 : x ≤ 0 → J d M fc fs Q tgt L st h) (k2 : ¬ x ≤ 0 → J d M fc fs Q (pc + 3) L st h) : J d M fc fs Q pc L (.int x :: st) h :=
  J_br (fun G p l e R s m args below meth c H locs cells slots QQ ls hC hl hR hS w1 w2 => lv_if_le hC.1 hC.2.1 hd ht w1 w2) k1 k2
theorem J_icmp_le {d : Nat} {M : MInfo} {fc fs : Nat} {Q : Option Value → MH → Prop} {pc : Nat} {L : MLoc} {st : List Value} {h : MH} {x y : Int32} {off : Int} {tgt : Nat} (hd : decode M.2.1 pc = .ok (.if_icmp .le off, 3)) (ht : (pc : Int) + off = (tgt : Int)) (k1 : x ≤ y → J d M fc fs Q tgt L st h) (k2 : ¬ x ≤ y → J d M fc fs Q (pc + 3) L st h) : J d M fc fs Q pc L (.int y :: .int x :: st) h :=
  J_br (fun G p l e R s m args below meth c H locs cells slots QQ ls hC hl hR hS w1 w2 => lv_icmp_le hC.1 hC.2.1 hd ht w1 w2) k1 k2
theorem J_istore_n {d : Nat} {M : MInfo} {fc fs : Nat} {Q : Option Value → MH → Prop} {pc : Nat} {L : MLoc} {st : List Value} {h : MH} {n : Fin 4} {i : Nat} {x : Int32} {L1 : MLoc} (hd : decode M.2.1 pc = .ok (.istore_n n, 1)) (hi : (n : Nat) = i) (hn : i < M.2.2.1) (hL : stL L i (.int x) = L1) (k : J d M fc fs Q (pc + 1) L1 st h) : J d M fc fs Q pc L (.int x :: st) h := by
  subst hL
  exact J_st (fun G p l e R s m args below meth c H locs cells slots QQ ls hC hl hR hS w => lv_istore_n hC.1 hC.2.1 hd hi hl.has hn rfl (fun ls1 h1 => w ls1 (lvR_st1 (v := .int x) h1))) k
theorem J_istore {d : Nat} {M : MInfo} {fc fs : Nat} {Q : Option Value → MH → Prop} {pc : Nat} {L : MLoc} {st : List Value} {h : MH} {i : Nat} {x : Int32} {L1 : MLoc} (hd : decode M.2.1 pc = .ok (.istore i, 2)) (hn : i < M.2.2.1) (hL : stL L i (.int x) = L1) (k : J d M fc fs Q (pc + 2) L1 st h) : J d M fc fs Q pc L (.int x :: st) h := by
  subst hL
  exact J_st (fun G p l e R s m args below meth c H locs cells slots QQ ls hC hl hR hS w => lv_istore hC.1 hC.2.1 hd hl.has hn rfl (fun ls1 h1 => w ls1 (lvR_st1 (v := .int x) h1))) k
theorem J_astore_n {d : Nat} {M : MInfo} {fc fs : Nat} {Q : Option Value → MH → Prop} {pc : Nat} {L : MLoc} {st : List Value} {h : MH} {n : Fin 4} {i : Nat} {x : Nat} {L1 : MLoc} (hd : decode M.2.1 pc = .ok (.astore_n n, 1)) (hi : (n : Nat) = i) (hn : i < M.2.2.1) (hL : stL L i (.ref x) = L1) (k : J d M fc fs Q (pc + 1) L1 st h) : J d M fc fs Q pc L (.ref x :: st) h := by
  subst hL
  exact J_st (fun G p l e R s m args below meth c H locs cells slots QQ ls hC hl hR hS w => lv_astore_n hC.1 hC.2.1 hd hi hl.has hn rfl (fun ls1 h1 => w ls1 (lvR_st1 (v := .ref x) h1))) k
theorem J_astore {d : Nat} {M : MInfo} {fc fs : Nat} {Q : Option Value → MH → Prop} {pc : Nat} {L : MLoc} {st : List Value} {h : MH} {i : Nat} {x : Nat} {L1 : MLoc} (hd : decode M.2.1 pc = .ok (.astore i, 2)) (hn : i < M.2.2.1) (hL : stL L i (.ref x) = L1) (k : J d M fc fs Q (pc + 2) L1 st h) : J d M fc fs Q pc L (.ref x :: st) h := by
  subst hL
  exact J_st (fun G p l e R s m args below meth c H locs cells slots QQ ls hC hl hR hS w => lv_astore hC.1 hC.2.1 hd hl.has hn rfl (fun ls1 h1 => w ls1 (lvR_st1 (v := .ref x) h1))) k
theorem J_lstore_n {d : Nat} {M : MInfo} {fc fs : Nat} {Q : Option Value → MH → Prop} {pc : Nat} {L : MLoc} {st : List Value} {h : MH} {n : Fin 4} {i : Nat} {x : Int64} {L1 : MLoc} (hd : decode M.2.1 pc = .ok (.lstore_n n, 1)) (hi : (n : Nat) = i) (hn : i + 1 < M.2.2.1) (hL : stL2 L i (.long x) = L1) (k : J d M fc fs Q (pc + 1) L1 st h) : J d M fc fs Q pc L (.long x :: st) h := by
  subst hL
  exact J_st (fun G p l e R s m args below meth c H locs cells slots QQ ls hC hl hR hS w => lv_lstore_n hC.1 hC.2.1 hd hi hl.has hn rfl (fun ls1 h1 => w ls1 (lvR_st2 (v := .long x) h1))) k
theorem J_lstore {d : Nat} {M : MInfo} {fc fs : Nat} {Q : Option Value → MH → Prop} {pc : Nat} {L : MLoc} {st : List Value} {h : MH} {i : Nat} {x : Int64} {L1 : MLoc} (hd : decode M.2.1 pc = .ok (.lstore i, 2)) (hn : i + 1 < M.2.2.1) (hL : stL2 L i (.long x) = L1) (k : J d M fc fs Q (pc + 2) L1 st h) : J d M fc fs Q pc L (.long x :: st) h := by
  subst hL
  exact J_st (fun G p l e R s m args below meth c H locs cells slots QQ ls hC hl hR hS w => lv_lstore hC.1 hC.2.1 hd hl.has hn rfl (fun ls1 h1 => w ls1 (lvR_st2 (v := .long x) h1))) k
theorem J_astore_nN {d : Nat} {M : MInfo} {fc fs : Nat} {Q : Option Value → MH → Prop} {pc : Nat} {L : MLoc} {st : List Value} {h : MH} {n : Fin 4} {i : Nat} {L1 : MLoc} (hd : decode M.2.1 pc = .ok (.astore_n n, 1)) (hi : (n : Nat) = i) (hn : i < M.2.2.1) (hL : stL L i .null = L1) (k : J d M fc fs Q (pc + 1) L1 st h) : J d M fc fs Q pc L (.null :: st) h := by
  subst hL
  exact J_st (fun G p l e R s m args below meth c H locs cells slots QQ ls hC hl hR hS w => lv_astore_nN hC.1 hC.2.1 hd hi hl.has hn rfl (fun ls1 h1 => w ls1 (lvR_st1 (v := .null) h1))) k
theorem asc_at {G : GC} {L : MLoc} {i : Nat} {v : Value} (h : L[i]? = some (some v)) : ∃ k : Nat, (asc G L)[k]? = some (i, up G v) := List.getElem?_of_mem (asc_mem h)
theorem J_iinc {d : Nat} {M : MInfo} {fc fs : Nat} {Q : Option Value → MH → Prop} {pc : Nat} {L : MLoc} {st : List Value} {h : MH} {i : Nat} {n : Int} {x v : Int32} {L1 : MLoc} (hd : decode M.2.1 pc = .ok (.iinc i n, 3)) (hx : L[i]? = some (some (.int x))) (hv : x + Int32.ofInt n = v) (hn : i < M.2.2.1) (hL : stL L i (.int v) = L1) (k : J d M fc fs Q (pc + 3) L1 st h) : J d M fc fs Q pc L st h := by
  subst hL
  refine J_st (fun G p l e R s m args below meth c H locs cells slots QQ ls hC hl hR hS w => ?_) k
  obtain ⟨q, hq⟩ := asc_at (G := G) hx
  exact lv_iinc hC.1 hC.2.1 hd hl.has hq hv hn rfl (fun ls1 h1 => w ls1 (lvR_st1 (v := .int v) h1))
theorem J_lookup {d : Nat} {M : MInfo} {fc fs : Nat} {Q : Option Value → MH → Prop} {pc : Nat} {L : MLoc} {st : List Value} {h : MH} {dflt : Int} {ps : Array (Int × Int)} {len : Nat} {x : Int32} {off : Int} {tgt : Nat} (hd : decode M.2.1 pc = .ok (.lookupswitch dflt ps, len)) (hp : (ps.toList.zip (ps.toList.drop 1)).all (fun (a, next) => a.1 < next.1) = true) (ho : Op.lookupswitch.offset ps.toList dflt x.toInt = off) (ht : (pc : Int) + off = (tgt : Int)) (k : J d M fc fs Q tgt L st h) : J d M fc fs Q pc L (.int x :: st) h :=
  J_go (fun G p l e R s m args below meth c H locs cells slots QQ ls hC hl hR hS w => lv_lookup hC.1 hC.2.1 hd hp ho ht w) k
theorem J_tableOut {d : Nat} {M : MInfo} {fc fs : Nat} {Q : Option Value → MH → Prop} {pc : Nat} {L : MLoc} {st : List Value} {h : MH} {dflt lo hi : Int} {offs : Array Int} {len : Nat} {x : Int32} {tgt : Nat} (hd : decode M.2.1 pc = .ok (.tableswitch dflt lo hi offs, len)) (hx : x.toInt < lo ∨ hi < x.toInt) (ht : (pc : Int) + dflt = (tgt : Int)) (k : J d M fc fs Q tgt L st h) : J d M fc fs Q pc L (.int x :: st) h :=
  J_go (fun G p l e R s m args below meth c H locs cells slots QQ ls hC hl hR hS w => lv_tableOut hC.1 hC.2.1 hd hx ht w) k
theorem J_tableIn {d : Nat} {M : MInfo} {fc fs : Nat} {Q : Option Value → MH → Prop} {pc : Nat} {L : MLoc} {st : List Value} {h : MH} {dflt lo hi : Int} {offs : Array Int} {len : Nat} {x : Int32} {off : Int} {tgt : Nat} (hd : decode M.2.1 pc = .ok (.tableswitch dflt lo hi offs, len)) (h1 : ¬ x.toInt < lo) (h2 : ¬ hi < x.toInt) (ho : offs[(x.toInt - lo).toNat]? = some off) (ht : (pc : Int) + off = (tgt : Int)) (k : J d M fc fs Q tgt L st h) : J d M fc fs Q pc L (.int x :: st) h :=
  J_go (fun G p l e R s m args below meth c H locs cells slots QQ ls hC hl hR hS w => lv_tableIn hC.1 hC.2.1 hd h1 h2 ho ht w) k
theorem gq_new {G : GC} {a : Nat} (ha : 8 ≤ a) : gr G a = gb G + (a - 8) := if_neg (by omega)
theorem gq_gA {G : GC} {a : Nat} (ha : 8 ≤ a) : gA G (gr G a) := by rw [gq_new ha]; exact Nat.le_add_right _ _
theorem gq_ne {G : GC} (hb : ∀ k, k < 8 → G.2.1 k < gb G) {a k : Nat} (ha : 8 ≤ a) (hk : k ≠ a) : gr G k ≠ gr G a := by
  rw [gq_new ha]
  unfold gr
  split
  · have := hb k (by assumption); omega
  · omega
theorem Rl_set {G : GC} {U : State} {h : MH} {H H1 : Heap} {a : Nat} {c1 : MCell} (hb : ∀ k, k < 8 → G.2.1 k < gb G) (hR : Rl G U h H) (ha : 8 ≤ a) (hz : H1.size = H.size) (oq : ∀ q : Nat, q ≠ gr G a → H1[q]? = H[q]?) (hc : cellR G U (gr G a) H1 c1) : Rl G U (h.1, h.2.1, h.2.2.set a c1) H1 := by
  refine ⟨by rw [hz]; exact hR.1, by simpa using hR.2.1, hR.2.2.1, fun k cl hk => ?_⟩
  rw [List.getElem?_set] at hk
  split at hk
  · rename_i e
    subst e
    split at hk
    · cases hk; exact hc
    · cases hk
  · rename_i e
    exact (hR.2.2.2 k cl hk).kept (oq _ (gq_ne hb ha (fun q => e q.symm)))
theorem Rl_push {G : GC} {U : State} {h : MH} {H H1 : Heap} {n : Nat} {c1 : MCell} (hb : ∀ k, k < 8 → G.2.1 k < gb G) (hR : Rl G U h H) (hz : H1.size = H.size + 1) (oq : ∀ q : Nat, q < H.size → H1[q]? = H[q]?) (hc : cellR G U (gr G h.1) H1 c1) : Rl G U (h.1 + 1, h.2.1 + n, h.2.2 ++ [c1]) H1 := by
  obtain ⟨r1, r2, r3, r4⟩ := hR
  refine ⟨by rw [hz]; show H.size + 1 + 8 = gb G + (h.1 + 1); omega, by simp [r2], by show 8 ≤ h.1 + 1; omega, fun k cl hk => ?_⟩
  rw [List.getElem?_append] at hk
  split at hk
  · rename_i hl
    refine (r4 k cl hk).kept (oq _ ?_)
    rw [r2] at hl
    unfold gr
    split
    · have := hb k (by assumption); omega
    · omega
  · rename_i hl
    rw [r2] at hl hk
    have hz1 : k - h.1 < 1 := (List.getElem?_eq_some_iff.mp hk).1
    have hk0 : k = h.1 := by omega
    subst hk0
    rw [Nat.sub_self] at hk
    cases hk
    exact hc
theorem gq_size {G : GC} {U : State} {h : MH} {H : Heap} (hR : Rl G U h H) : gr G h.1 = H.size := by
  rw [gq_new hR.2.2.1]
  have := hR.1
  have := hR.2.2.1
  omega
theorem J_wr {d : Nat} {M : MInfo} {fc fs : Nat} {Q : Option Value → MH → Prop} {pc : Nat} {L : MLoc} {st : List Value} {h : MH} {pc1 : Nat} {st1 : List Value} {a : Nat} {c1 : MCell} (ha : 8 ≤ a) (hs : ∀ (G : GC) (p : Program) (l : Launch) (e : Env) (R : Room) (s : State) (m : MethodId) (args : Array Value) (below : List Frame) (meth : Method) (c : Code) (H : Heap) (locs : List Loc) (cells slots : Nat) (QQ : State → Prop) (ls : Array Slot), Cx G M d p R s m args meth c → lvR G ls M.2.2.1 L → Rl G s h H → va_S (gA G) G.1 H locs → (∀ (H1 : Heap) (locs1 : List Loc), H1.size = H.size → (∀ q : Nat, q ≠ gr G a → H1[q]? = H[q]?) → cellR G s (gr G a) H1 c1 → va_S (gA G) G.1 H1 locs1 → W p l e R s m args below meth c H1 locs1 cells slots QQ (F0 m pc1 ls (st1.map (up G)))) → W p l e R s m args below meth c H locs cells slots QQ (F0 m pc ls (st.map (up G)))) (k : J d M fc fs Q pc1 L st1 (h.1, h.2.1, h.2.2.set a c1)) : J d M fc fs Q pc L st h :=
  fun G p l e R s m args below meth c H locs cells slots QQ ls hC hl hR hS hB hK => hs G p l e R s m args below meth c H locs cells slots QQ ls hC hl hR hS (fun H1 locs1 hz oq hc hS1 => k G p l e R s m args below meth c H1 locs1 cells slots QQ ls hC hl (Rl_set hC.2.2.2.2.2.2.1.2.2.1 hR ha hz oq hc) hS1 hB hK)
theorem J_mk {d : Nat} {M : MInfo} {fc fs : Nat} {Q : Option Value → MH → Prop} {pc : Nat} {L : MLoc} {st : List Value} {h : MH} {pc1 : Nat} {st1 : List Value} {n : Nat} {c1 : MCell} (hb1 : h.1 + 1 ≤ fc) (hb2 : h.2.1 + n ≤ fs) (hs : ∀ (G : GC) (p : Program) (l : Launch) (e : Env) (R : Room) (s : State) (m : MethodId) (args : Array Value) (below : List Frame) (meth : Method) (c : Code) (H : Heap) (locs : List Loc) (cells slots : Nat) (QQ : State → Prop) (ls : Array Slot), Cx G M d p R s m args meth c → lvR G ls M.2.2.1 L → Rl G s h H → va_S (gA G) G.1 H locs → cells + 1 ≤ R.cells → slots + n ≤ R.slots → (∀ (H1 : Heap), H1.size = H.size + 1 → (∀ q : Nat, q < H.size → H1[q]? = H[q]?) → cellR G s (gr G h.1) H1 c1 → va_S (gA G) G.1 H1 locs → W p l e R s m args below meth c H1 locs (cells + 1) (slots + n) QQ (F0 m pc1 ls (st1.map (up G)))) → W p l e R s m args below meth c H locs cells slots QQ (F0 m pc ls (st.map (up G)))) (k : J d M fc fs Q pc1 L st1 (h.1 + 1, h.2.1 + n, h.2.2 ++ [c1])) : J d M fc fs Q pc L st h :=
  fun G p l e R s m args below meth c H locs cells slots QQ ls hC hl hR hS hB hK => hs G p l e R s m args below meth c H locs cells slots QQ ls hC hl hR hS (by have := hB.2.2.1; omega) (by have := hB.2.2.2; omega) (fun H1 hz oq hc hS1 => k G p l e R s m args below meth c H1 locs (cells + 1) (slots + n) QQ ls hC hl (Rl_push hC.2.2.2.2.2.2.1.2.2.1 hR hz oq hc) hS1 ⟨hb1, hb2, by have := hB.2.2.1; show cells + 1 + (fc - (h.1 + 1)) ≤ R.cells; omega, by have := hB.2.2.2; show slots + n + (fs - (h.2.1 + n)) ≤ R.slots; omega⟩ (fun r h1 H2 locs1 pc1 ls1 q1 q2 q3 q4 q5 q6 => by
    have e1 : cells + 1 + (fc - (h.1 + 1)) = cells + (fc - h.1) := by omega
    have e2 : slots + n + (fs - (h.2.1 + n)) = slots + (fs - h.2.1) := by omega
    show W p l e R s m args below meth c H2 locs1 (cells + 1 + (fc - (h.1 + 1))) (slots + n + (fs - (h.2.1 + n))) QQ (F0 m pc1 ls1 ((r.map (up G)).toList))
    rw [e1, e2]
    exact hK r h1 H2 locs1 pc1 ls1 q1 q2 q3 q4 q5 q6))
theorem cell_ob {G : GC} {U : State} {a ci : Nat} {H : Heap} {vs : List Value} (hci : ci < 9) (h : cellR G U a H (ci, .inl vs)) : ∃ r : vw_C, vwCl[ci]? = some r ∧ vs.length = r.2.2 ∧ t_OB a (G.2.2.1 ci) r.2.2 (G.2.2.2 ci) H (vp_V (vs.map (up G))) := by
  unfold cellR at h
  dsimp only at h
  rwa [if_pos hci] at h
theorem cell_ra {G : GC} {U : State} {a t : Nat} {H : Heap} {vs : List Value} (ht : 30 ≤ t) (h : cellR G U a H (t, .inl vs)) : ∃ (r : vw_C) (cell : Cell), vwCl[t - 30]? = some r ∧ H[a]? = some cell ∧ va_RA U cell.cls (.object r.1) ∧ cell.vm = .none ∧ cell.slots.toList = vs.map (up G) := by
  unfold cellR at h
  dsimp only at h
  rwa [if_neg (by omega), if_neg (by omega)] at h
theorem J_getfield {d : Nat} {M : MInfo} {fc fs : Nat} {Q : Option Value → MH → Prop} {pc : Nat} {L : MLoc} {st : List Value} {h : MH} {k1 ci f a : Nat} {vs : List Value} {v : Value} (hd : decode M.2.1 pc = .ok (.getfield k1, 3)) (hf : FS M.2.2.2.2 k1 ci f) (h0 : h.2.2[a]? = some (ci, .inl vs)) (hv : vs[f]? = some v) (k : J d M fc fs Q (pc + 3) L (v :: st) h) : J d M fc fs Q pc L (.ref a :: st) h := by
  refine J_go (fun G p l e R s m args below meth c H locs cells slots QQ ls hC hl hR hS w => ?_) k
  obtain ⟨C, T, N, e1, e2, e3, e4, e5⟩ := hf
  obtain ⟨r, r1, r2, r3⟩ := cell_ob e2 (hR.2.2.2 a _ h0)
  have hP : va_P G.2.2 vwCl [(gr G a, .inr (ci, vs.map (up G)))] H := by
    intro i q hq
    cases i with
    | zero => cases hq; exact ⟨r, r1, r3⟩
    | succ i => simp at hq
  exact va_get (C := C) (T := T) (N := N) hC.1 hC.2.1 hC.2.2.2.2.1 e4 hC.2.2.2.1 hC.2.2.2.2.2.2.1.1 hP 0 rfl e1 f e3 (hC.2.2.2.2.1 _ e5) (fun _ z => z) (v := up G v) (by rw [List.getElem?_map, hv]; rfl) hd w
theorem nar_up {G : GC} {ty : FieldType} {v : Value} (h : narrow ty v = v) : narrow ty (up G v) = up G v := by
  cases v <;> first | exact h | (cases ty <;> rfl) | (simp only [up]; split <;> cases ty <;> rfl)
theorem fit_up {G : GC} {ty : FieldType} {v : Value} (h : fits ty v = true) : fits ty (up G v) = true := by
  cases v <;> first | exact h | (cases ty <;> first | rfl | exact h | cases h)
theorem J_putfield {d : Nat} {M : MInfo} {fc fs : Nat} {Q : Option Value → MH → Prop} {pc : Nat} {L : MLoc} {st : List Value} {h : MH} {k1 ci f a : Nat} {vs : List Value} {v : Value} {ty : FieldType} (hd : decode M.2.1 pc = .ok (.putfield k1, 3)) (hf : FP M.2.2.2.2 k1 ci f ty) (ha : 8 ≤ a) (h0 : h.2.2[a]? = some (ci, .inl vs)) (hn : narrow ty v = v) (hfit : fits ty v = true) (k : J d M fc fs Q (pc + 3) L st (h.1, h.2.1, h.2.2.set a (ci, .inl (vs.set f v)))) : J d M fc fs Q pc L (v :: .ref a :: st) h := by
  refine J_wr ha (fun G p l e R s m args below meth c H locs cells slots QQ ls hC hl hR hS w => ?_) k
  obtain ⟨C, T, N, ty0, e1, e2, e3, e4, e5, hty, hnm, hfin, rfl⟩ := hf
  obtain ⟨r, r1, r2, cell, q1, q2, q3, q4⟩ := cell_ob e2 (hR.2.2.2 a _ h0)
  have hr : r = (C, T, N) := Option.some.inj (r1.symm.trans e1)
  subst hr
  have hK := hC.2.2.2.2.2.2.1.1
  have hts := hC.2.2.2.2.1
  have hap := va_apart (own := C) hts e4 ty0 hty hnm hK e1
  obtain ⟨hSl, hfc, kC, hkC, hkind⟩ := hK.1 ci _ e1
  obtain ⟨cf, kf, fi, fd, hi, hsl⟩ := hSl f e3
  have hlay := hts _ (e4 _ (u_in_lay e3))
  unfold u_lay at hlay
  rw [if_neg (by rw [hfin]; decide)] at hlay
  have hst := (u_facts hfc hkC (u_lays hts e4 e3) hi).1
  have h6 := u_store hfc hkC hkind hlay hi (hty f e3) (nar_up (G := G) hn) (fit_up (G := G) hfit)
  refine W.putK hC.1 hC.2.1 (f := fd) ⟨hC.2.2.2.1, hts _ e5, ⟨_, _, _, hi⟩, hst⟩ (by rw [q2]; exact h6) q1 q3 (by rw [hsl]; exact k2_hasslot (q4 f e3)) rfl rfl hd fun H1 z1 z2 z3 => ?_
  rw [hsl] at z1 ⊢
  refine w H1 _ z2 z3 ?_ (hS.put z2 z3 (gq_gA ha))
  unfold cellR
  dsimp only
  rw [if_pos e2]
  refine ⟨_, e1, by rw [List.length_set]; exact r2, t_OB.to (V := updV (vp_V (vs.map (up G))) f (up G v)) ⟨_, z1, q2, q3, t_set q4 hap e3 (up G v)⟩ (fun j _ => ?_)⟩
  rw [vp_updV_set (by rw [List.length_map, r2]; exact e3), List.map_set]
theorem J_putfieldF {d : Nat} {M : MInfo} {fc fs : Nat} {Q : Option Value → MH → Prop} {pc : Nat} {L : MLoc} {st : List Value} {h : MH} {k1 ci f a : Nat} {vs : List Value} {v : Value} {ty : FieldType} (hd : decode M.2.1 pc = .ok (.putfield k1, 3)) (hi0 : M.1.name = "<init>") (hf : FPF M.2.2.2.2 k1 ci f ty) (ha : 8 ≤ a) (h0 : h.2.2[a]? = some (ci, .inl vs)) (hn : narrow ty v = v) (hfit : fits ty v = true) (k : J d M fc fs Q (pc + 3) L st (h.1, h.2.1, h.2.2.set a (ci, .inl (vs.set f v)))) : J d M fc fs Q pc L (v :: .ref a :: st) h := by
  refine J_wr ha (fun G p l e R s m args below meth c H locs cells slots QQ ls hC hl hR hS w => ?_) k
  obtain ⟨C, T, N, ty0, e1, e2, e3, e4, e5, hty, hnm, hfin, rfl, hdecl⟩ := hf
  obtain ⟨r, r1, r2, cell, q1, q2, q3, q4⟩ := cell_ob e2 (hR.2.2.2 a _ h0)
  have hr : r = (C, T, N) := Option.some.inj (r1.symm.trans e1)
  subst hr
  have hK := hC.2.2.2.2.2.2.1.1
  have hts := hC.2.2.2.2.1
  have hap := va_apart (own := C) hts e4 ty0 hty hnm hK e1
  obtain ⟨hSl, hfc, kC, hkC, hkind⟩ := hK.1 ci _ e1
  obtain ⟨cf, kf, fi, fd, hi, hsl⟩ := hSl f e3
  have hlay := hts _ (e4 _ (u_in_lay e3))
  unfold u_lay at hlay
  rw [if_pos hfin] at hlay
  have hst := (u_facts hfc hkC (u_lays hts e4 e3) hi).1
  have hcf : m.cls = cf := by
    obtain ⟨_, _, c', _, _, _, -, -, hf', -, -, -, hown2, -⟩ := Cond.laysFinal_spec hlay
    have e1 : c' = cf := by have := hi.symm.trans hf'; simp at this; exact this.1.symm
    rw [hdecl] at hown2
    rw [← e1]; exact Option.some.inj (hC.2.2.2.1.symm.trans hown2)
  have h6 := u_fits hfc hkC hkind (Or.inr hlay) hi (hty f e3) (nar_up (G := G) hn) (fit_up (G := G) hfit)
  refine W.putFinK hC.1 hC.2.1 hC.2.2.2.1 (hts _ e5) hi hst hcf (hC.2.2.2.2.2.1 hi0) (by rw [q2]; exact h6) q1 q3 (by rw [hsl]; exact k2_hasslot (q4 f e3)) rfl rfl hd fun H1 z1 z2 z3 => ?_
  rw [hsl] at z1 ⊢
  refine w H1 _ z2 z3 ?_ (hS.put z2 z3 (gq_gA ha))
  unfold cellR
  dsimp only
  rw [if_pos e2]
  refine ⟨_, e1, by rw [List.length_set]; exact r2, t_OB.to (V := updV (vp_V (vs.map (up G))) f (up G v)) ⟨_, z1, q2, q3, t_set q4 hap e3 (up G v)⟩ (fun j _ => ?_)⟩
  rw [vp_updV_set (by rw [List.length_map, r2]; exact e3), List.map_set]
theorem tl_get {cell : Cell} {vs : List Value} (h : cell.slots.toList = vs) (j : Nat) : cell.slots[j]? = vs[j]? := by rw [← h, Array.getElem?_toList]
theorem tl_size {cell : Cell} {vs : List Value} (h : cell.slots.toList = vs) : cell.slots.size = vs.length := by rw [← h, Array.length_toList]
theorem ix_in {cell : Cell} {vs : List Value} {i : Int32} (h : cell.slots.toList = vs) (hi : ¬ i < 0) (hl : i.toNatClampNeg < vs.length) : ¬ (i < 0 ∨ cell.slots.size ≤ i.toNatClampNeg) := by
  rw [tl_size h]
  intro q
  cases q with
  | inl q => exact hi q
  | inr q => omega
theorem tl_set {cell : Cell} {vs : List Value} (h : cell.slots.toList = vs) (j : Nat) (v : Value) : (cell.setSlot j v).slots.toList = vs.set j v := by
  rw [← h]
  simp [Cell.setSlot]
theorem ty_int {ty : FieldType} {t : Nat} (ht : t = 20) (h : aty t = some ty) : ty = .int := by subst ht; cases h; rfl
theorem J_iaload {d : Nat} {M : MInfo} {fc fs : Nat} {Q : Option Value → MH → Prop} {pc : Nat} {L : MLoc} {st : List Value} {h : MH} {a j : Nat} {xs : List Int32} {i x : Int32} (hd : decode M.2.1 pc = .ok (.iaload, 1)) (h0 : h.2.2[a]? = some (20, .inr (.inl xs))) (hi : ¬ i < 0) (hj : i.toNatClampNeg = j) (hx : xs[j]? = some x) (k : J d M fc fs Q (pc + 1) L (.int x :: st) h) : J d M fc fs Q pc L (.int i :: .ref a :: st) h := by
  refine J_go (fun G p l e R s m args below meth c H locs cells slots QQ ls hC hl hR hS w => ?_) k
  obtain ⟨ty, cell, c1, c2, c3, c4, c5⟩ := hR.2.2.2 a _ h0
  cases c1
  subst hj
  have hl : i.toNatClampNeg < xs.length := (List.getElem?_eq_some_iff.mp hx).1
  exact W.iald (v := .int x) hC.1 hC.2.1 c2 c3 c4 (ix_in c5 hi (by rw [List.length_map]; exact hl)) (by rw [tl_get c5, List.getElem?_map, hx]; rfl) rfl rfl hd w
theorem J_laload {d : Nat} {M : MInfo} {fc fs : Nat} {Q : Option Value → MH → Prop} {pc : Nat} {L : MLoc} {st : List Value} {h : MH} {a j : Nat} {xs : List Int64} {i : Int32} {x : Int64} (hd : decode M.2.1 pc = .ok (.laload, 1)) (h0 : h.2.2[a]? = some (21, .inr (.inr xs))) (hi : ¬ i < 0) (hj : i.toNatClampNeg = j) (hx : xs[j]? = some x) (k : J d M fc fs Q (pc + 1) L (.long x :: st) h) : J d M fc fs Q pc L (.int i :: .ref a :: st) h := by
  refine J_go (fun G p l e R s m args below meth c H locs cells slots QQ ls hC hl hR hS w => ?_) k
  obtain ⟨cell, c1, c2, c3, c4, c5⟩ := hR.2.2.2 a _ h0
  subst hj
  have hl : i.toNatClampNeg < xs.length := (List.getElem?_eq_some_iff.mp hx).1
  exact W.lald (v := .long x) hC.1 hC.2.1 c2 c3 c4 (ix_in c5 hi (by rw [List.length_map]; exact hl)) (by rw [tl_get c5, List.getElem?_map, hx]; rfl) rfl rfl hd w
theorem J_zaload {d : Nat} {M : MInfo} {fc fs : Nat} {Q : Option Value → MH → Prop} {pc : Nat} {L : MLoc} {st : List Value} {h : MH} {a j : Nat} {xs : List Int32} {i x : Int32} (hd : decode M.2.1 pc = .ok (.baload, 1)) (h0 : h.2.2[a]? = some (22, .inr (.inl xs))) (hi : ¬ i < 0) (hj : i.toNatClampNeg = j) (hx : xs[j]? = some x) (k : J d M fc fs Q (pc + 1) L (.int x :: st) h) : J d M fc fs Q pc L (.int i :: .ref a :: st) h := by
  refine J_go (fun G p l e R s m args below meth c H locs cells slots QQ ls hC hl hR hS w => ?_) k
  obtain ⟨ty, cell, c1, c2, c3, c4, c5⟩ := hR.2.2.2 a _ h0
  cases c1
  subst hj
  have hl : i.toNatClampNeg < xs.length := (List.getElem?_eq_some_iff.mp hx).1
  exact W.zald (v := .int x) hC.1 hC.2.1 c2 c3 c4 (ix_in c5 hi (by rw [List.length_map]; exact hl)) (by rw [tl_get c5, List.getElem?_map, hx]; rfl) rfl rfl hd w
theorem J_baload {d : Nat} {M : MInfo} {fc fs : Nat} {Q : Option Value → MH → Prop} {pc : Nat} {L : MLoc} {st : List Value} {h : MH} {a j : Nat} {xs : List Int32} {i x : Int32} (hd : decode M.2.1 pc = .ok (.baload, 1)) (h0 : h.2.2[a]? = some (23, .inr (.inl xs))) (hi : ¬ i < 0) (hj : i.toNatClampNeg = j) (hx : xs[j]? = some x) (k : J d M fc fs Q (pc + 1) L (.int x :: st) h) : J d M fc fs Q pc L (.int i :: .ref a :: st) h := by
  refine J_go (fun G p l e R s m args below meth c H locs cells slots QQ ls hC hl hR hS w => ?_) k
  obtain ⟨ty, cell, c1, c2, c3, c4, c5⟩ := hR.2.2.2 a _ h0
  cases c1
  subst hj
  have hl : i.toNatClampNeg < xs.length := (List.getElem?_eq_some_iff.mp hx).1
  exact W.bald (v := .int x) hC.1 hC.2.1 c2 c3 c4 (ix_in c5 hi (by rw [List.length_map]; exact hl)) (by rw [tl_get c5, List.getElem?_map, hx]; rfl) rfl rfl hd w
theorem J_iastore {d : Nat} {M : MInfo} {fc fs : Nat} {Q : Option Value → MH → Prop} {pc : Nat} {L : MLoc} {st : List Value} {h : MH} {a j : Nat} {xs : List Int32} {i x : Int32} (hd : decode M.2.1 pc = .ok (.iastore, 1)) (ha : 8 ≤ a) (h0 : h.2.2[a]? = some (20, .inr (.inl xs))) (hi : ¬ i < 0) (hj : i.toNatClampNeg = j) (hl0 : j < xs.length) (k : J d M fc fs Q (pc + 1) L st (h.1, h.2.1, h.2.2.set a (20, .inr (.inl (xs.set j x))))) : J d M fc fs Q pc L (.int x :: .int i :: .ref a :: st) h := by
  refine J_wr ha (fun G p l e R s m args below meth c H locs cells slots QQ ls hC hl hR hS w => ?_) k
  obtain ⟨ty, cell, c1, c2, c3, c4, c5⟩ := hR.2.2.2 a _ h0
  cases c1
  subst hj
  refine W.iast hC.1 hC.2.1 c2 c3 c4 (ix_in c5 hi (by rw [List.length_map]; exact hl0)) rfl rfl hd fun H1 z1 z2 z3 => ?_
  refine w H1 _ z2 z3 ⟨.int, _, rfl, z1, c3, c4, ?_⟩ (hS.put z2 z3 (gq_gA ha))
  rw [tl_set c5, List.map_set]
theorem J_lastore {d : Nat} {M : MInfo} {fc fs : Nat} {Q : Option Value → MH → Prop} {pc : Nat} {L : MLoc} {st : List Value} {h : MH} {a j : Nat} {xs : List Int64} {i : Int32} {x : Int64} (hd : decode M.2.1 pc = .ok (.lastore, 1)) (ha : 8 ≤ a) (h0 : h.2.2[a]? = some (21, .inr (.inr xs))) (hi : ¬ i < 0) (hj : i.toNatClampNeg = j) (hl0 : j < xs.length) (k : J d M fc fs Q (pc + 1) L st (h.1, h.2.1, h.2.2.set a (21, .inr (.inr (xs.set j x))))) : J d M fc fs Q pc L (.long x :: .int i :: .ref a :: st) h := by
  refine J_wr ha (fun G p l e R s m args below meth c H locs cells slots QQ ls hC hl hR hS w => ?_) k
  obtain ⟨cell, c1, c2, c3, c4, c5⟩ := hR.2.2.2 a _ h0
  subst hj
  refine W.last hC.1 hC.2.1 c2 c3 c4 (ix_in c5 hi (by rw [List.length_map]; exact hl0)) rfl rfl hd fun H1 z1 z2 z3 => ?_
  refine w H1 _ z2 z3 ⟨_, rfl, z1, c3, c4, ?_⟩ (hS.put z2 z3 (gq_gA ha))
  rw [tl_set c5, List.map_set]
theorem J_zastore {d : Nat} {M : MInfo} {fc fs : Nat} {Q : Option Value → MH → Prop} {pc : Nat} {L : MLoc} {st : List Value} {h : MH} {a j : Nat} {xs : List Int32} {i x : Int32} (hd : decode M.2.1 pc = .ok (.bastore, 1)) (ha : 8 ≤ a) (h0 : h.2.2[a]? = some (22, .inr (.inl xs))) (hi : ¬ i < 0) (hj : i.toNatClampNeg = j) (hl0 : j < xs.length) (k : J d M fc fs Q (pc + 1) L st (h.1, h.2.1, h.2.2.set a (22, .inr (.inl (xs.set j (x &&& 1)))))) : J d M fc fs Q pc L (.int x :: .int i :: .ref a :: st) h := by
  refine J_wr ha (fun G p l e R s m args below meth c H locs cells slots QQ ls hC hl hR hS w => ?_) k
  obtain ⟨ty, cell, c1, c2, c3, c4, c5⟩ := hR.2.2.2 a _ h0
  cases c1
  subst hj
  refine W.zast hC.1 hC.2.1 c2 c3 c4 (ix_in c5 hi (by rw [List.length_map]; exact hl0)) rfl rfl hd fun H1 z1 z2 z3 => ?_
  refine w H1 _ z2 z3 ⟨.boolean, _, rfl, z1, c3, c4, ?_⟩ (hS.put z2 z3 (gq_gA ha))
  rw [tl_set c5, List.map_set]
  rfl
theorem ra_of {U : State} {cell : Cell} {C : String} (hv : cell.vm = .none) (h : va_RA U cell.cls (.object C)) : U.isArrayOf cell (.object C) := by
  obtain ⟨kA, comp, h1, h2, -⟩ := h
  exact ⟨(fun k hk => by rw [hv] at hk; cases hk), kA, h1, comp, h2⟩
theorem J_aaload {d : Nat} {M : MInfo} {fc fs : Nat} {Q : Option Value → MH → Prop} {pc : Nat} {L : MLoc} {st : List Value} {h : MH} {a j t : Nat} {vs : List Value} {i : Int32} {v : Value} (hd : decode M.2.1 pc = .ok (.aaload, 1)) (ht : 30 ≤ t) (h0 : h.2.2[a]? = some (t, .inl vs)) (hi : ¬ i < 0) (hj : i.toNatClampNeg = j) (hx : vs[j]? = some v) (k : J d M fc fs Q (pc + 1) L (v :: st) h) : J d M fc fs Q pc L (.int i :: .ref a :: st) h := by
  refine J_go (fun G p l e R s m args below meth c H locs cells slots QQ ls hC hl hR hS w => ?_) k
  obtain ⟨r, cell, c1, c2, c3, c4, c5⟩ := cell_ra ht (hR.2.2.2 a _ h0)
  subst hj
  have hl : i.toNatClampNeg < vs.length := (List.getElem?_eq_some_iff.mp hx).1
  exact W.aald (v := up G v) hC.1 hC.2.1 c2 (ra_of c4 c3) rfl (by rw [c4]; exact fun q => by cases q) (ix_in c5 hi (by rw [List.length_map]; exact hl)) (by rw [tl_get c5, List.getElem?_map, hx]; rfl) rfl rfl hd w
theorem J_aastore {d : Nat} {M : MInfo} {fc fs : Nat} {Q : Option Value → MH → Prop} {pc : Nat} {L : MLoc} {st : List Value} {h : MH} {a j ci b : Nat} {vs fs1 : List Value} {i : Int32} (hd : decode M.2.1 pc = .ok (.aastore, 1)) (ha : 8 ≤ a) (hci : ci < 9) (h0 : h.2.2[a]? = some (30 + ci, .inl vs)) (hb : h.2.2[b]? = some (ci, .inl fs1)) (hi : ¬ i < 0) (hj : i.toNatClampNeg = j) (hl0 : j < vs.length) (k : J d M fc fs Q (pc + 1) L st (h.1, h.2.1, h.2.2.set a (30 + ci, .inl (vs.set j (.ref b))))) : J d M fc fs Q pc L (.ref b :: .int i :: .ref a :: st) h := by
  refine J_wr ha (fun G p l e R s m args below meth c H locs cells slots QQ ls hC hl hR hS w => ?_) k
  obtain ⟨r, cell, c1, c2, c3, c4, c5⟩ := cell_ra (by omega) (hR.2.2.2 a _ h0)
  obtain ⟨r', r1, r2, cv, q1, q2, q3, q4⟩ := cell_ob hci (hR.2.2.2 b _ hb)
  rw [Nat.add_sub_cancel_left] at c1
  have hr : r' = r := Option.some.inj (r1.symm.trans c1)
  subst hr
  subst hj
  have hcls := (hC.2.2.2.2.2.2.1.1.1 ci _ r1).2
  obtain ⟨kA, comp, k1, k2, k3, k4⟩ := c3
  have hcomp : comp = G.2.2.1 ci := Option.some.inj (k3.symm.trans hcls.1)
  subst hcomp
  obtain ⟨kC, hkC, hkk⟩ := hcls.2
  refine W.aast hC.1 hC.2.1 c2 (fun q e => by rw [c4] at e; cases e) (by rw [c4]; exact fun e => by cases e) k1 k2 rfl hkC ⟨hi, by rw [tl_size c5, List.length_map]; exact hl0⟩ q1 (fun q e => by rw [q3] at e; cases e) (by rw [q2]; exact hkC) (by rw [q2]; exact va_assign hcls) rfl rfl hd fun H1 z1 z2 z3 => ?_
  refine w H1 _ z2 z3 ?_ (hS.put z2 z3 (gq_gA ha))
  unfold cellR
  dsimp only
  rw [if_neg (by omega), if_neg (by omega), Nat.add_sub_cancel_left]
  exact ⟨r', _, r1, z1, ⟨kA, _, k1, k2, k3, k4⟩, c4, by rw [tl_set c5, List.map_set]; rfl⟩
theorem J_ilen {d : Nat} {M : MInfo} {fc fs : Nat} {Q : Option Value → MH → Prop} {pc : Nat} {L : MLoc} {st : List Value} {h : MH} {a t : Nat} {xs : List Int32} (hd : decode M.2.1 pc = .ok (.arraylength, 1)) (h0 : h.2.2[a]? = some (t, .inr (.inl xs))) (k : J d M fc fs Q (pc + 1) L (.int (nI xs.length) :: st) h) : J d M fc fs Q pc L (.ref a :: st) h := by
  refine J_go (fun G p l e R s m args below meth c H locs cells slots QQ ls hC hl hR hS w => ?_) k
  obtain ⟨ty, cell, c1, c2, c3, c4, c5⟩ := hR.2.2.2 a _ h0
  exact W.alen hC.1 hC.2.1 c2 c3 (by rw [tl_size c5, List.length_map]; rfl) rfl rfl hd w
theorem ofFn_c {α : Type} (N : Nat) (v : α) : (List.ofFn fun _ : Fin N => v) = List.replicate N v := by apply List.ext_getElem <;> simp
theorem J_newarray {d : Nat} {M : MInfo} {fc fs : Nat} {Q : Option Value → MH → Prop} {pc : Nat} {L : MLoc} {st : List Value} {h : MH} {t N : Nat} {n : Int32} {aT : ArrayType} {ty : FieldType} (hd : decode M.2.1 pc = .ok (.newarray aT, 2)) (hw : Cond.arrayClass ty ∈ ALLW) (hty : newarray.typeOf aT = ty) (hat : aty t = some ty) (hdf : defaultValue ty = .int 0) (hn : ¬ n < 0) (hN : n.toNatClampNeg = N) (hbyt : N * componentBytes ty ≤ 536870912) (hb1 : h.1 + 1 ≤ fc) (hb2 : h.2.1 + N ≤ fs) (k : J d M fc fs Q (pc + 2) L (.ref h.1 :: st) (h.1 + 1, h.2.1 + N, h.2.2 ++ [(t, .inr (.inl (List.replicate N 0)))])) : J d M fc fs Q pc L (.int n :: st) h := by
  refine J_mk hb1 hb2 (fun G p l e R s m args below meth c H locs cells slots QQ ls hC hl hR hS hc1 hc2 w => ?_) k
  subst hty
  refine va_newaK hC.1 hC.2.1 (hC.2.2.2.2.1 _ hw) rfl hd rfl hn hN hbyt hc1 hc2 rfl fun H1 cA e1 z1 o1 hAr hNm => ?_
  have hg := gq_size hR
  refine W.eq ?_ (w H1 z1 o1 ?_ ⟨Nat.le_trans hS.1 (by omega), fun x h1 h2 => (o1 x (Nat.lt_of_lt_of_le h1 hS.1)).trans (hS.2.1 x h1 h2), hS.2.2⟩)
  · show F0 m (pc + 2) ls (.ref H.size :: _) = F0 m (pc + 2) ls (.ref (gr G h.1) :: _)
    rw [hg]
  · rw [hg]
    refine ⟨_, _, hat, e1, hAr N _, (fun q => by cases q), ?_⟩
    rw [hdf]
    simp [arrV, ofFn_c]
theorem J_newarrayL {d : Nat} {M : MInfo} {fc fs : Nat} {Q : Option Value → MH → Prop} {pc : Nat} {L : MLoc} {st : List Value} {h : MH} {N : Nat} {n : Int32} (hd : decode M.2.1 pc = .ok (.newarray .long, 2)) (hw : Cond.arrayClass .long ∈ ALLW) (hn : ¬ n < 0) (hN : n.toNatClampNeg = N) (hbyt : N * componentBytes .long ≤ 536870912) (hb1 : h.1 + 1 ≤ fc) (hb2 : h.2.1 + N ≤ fs) (k : J d M fc fs Q (pc + 2) L (.ref h.1 :: st) (h.1 + 1, h.2.1 + N, h.2.2 ++ [(21, .inr (.inr (List.replicate N 0)))])) : J d M fc fs Q pc L (.int n :: st) h := by
  refine J_mk hb1 hb2 (fun G p l e R s m args below meth c H locs cells slots QQ ls hC hl hR hS hc1 hc2 w => ?_) k
  refine va_newaK (atype := .long) hC.1 hC.2.1 (hC.2.2.2.2.1 _ hw) rfl hd rfl hn hN hbyt hc1 hc2 rfl fun H1 cA e1 z1 o1 hAr hNm => ?_
  have hg := gq_size hR
  refine W.eq ?_ (w H1 z1 o1 ?_ ⟨Nat.le_trans hS.1 (by omega), fun x h1 h2 => (o1 x (Nat.lt_of_lt_of_le h1 hS.1)).trans (hS.2.1 x h1 h2), hS.2.2⟩)
  · show F0 m (pc + 2) ls (.ref H.size :: _) = F0 m (pc + 2) ls (.ref (gr G h.1) :: _)
    rw [hg]
  · rw [hg]
    refine ⟨_, rfl, e1, hAr N _, (fun q => by cases q), ?_⟩
    simp [arrV, newarray.typeOf, defaultValue, ofFn_c]
theorem J_anewarray {d : Nat} {M : MInfo} {fc fs : Nat} {Q : Option Value → MH → Prop} {pc : Nat} {L : MLoc} {st : List Value} {h : MH} {ci k1 N : Nat} {n : Int32} {C : String} {T : u_T} {Nf : Nat} (hd : decode M.2.1 pc = .ok (.anewarray k1, 3)) (hci : ci < 9) (hc : vwCl[ci]? = some (C, T, Nf)) (hw1 : Cond.classLink M.2.2.2.2 k1 C ∈ ALLW) (hw2 : C = "MarkOffice$Text" ∨ C = "MarkOffice$Now") (hn : ¬ n < 0) (hN : n.toNatClampNeg = N) (hbyt : N * 4 ≤ 536870912) (hb1 : h.1 + 1 ≤ fc) (hb2 : h.2.1 + N ≤ fs) (k : J d M fc fs Q (pc + 3) L (.ref h.1 :: st) (h.1 + 1, h.2.1 + N, h.2.2 ++ [(30 + ci, .inl (List.replicate N .null))])) : J d M fc fs Q pc L (.int n :: st) h := by
  refine J_mk hb1 hb2 (fun G p l e R s m args below meth c H locs cells slots QQ ls hC hl hR hS hc1 hc2 w => ?_) k
  subst hN
  refine W.anew hC.1 hC.2.1 hC.2.2.2.1 (hC.2.2.2.2.1 _ hw1) (by
    rcases hw2 with e | e
    · rw [e]; exact hC.2.2.2.2.2.2.1.2.2.2.2.2.1.1
    · rw [e]; exact hC.2.2.2.2.2.2.1.2.2.2.2.2.1.2) rfl hd rfl hn hbyt hc1 hc2 fun cA kA comp f1 f2 f3 f4 => ?_
  have hg := gq_size hR
  have o1 : ∀ q : Nat, q < H.size → (H.push { cls := cA, slots := Array.replicate n.toNatClampNeg .null, vm := .none })[q]? = H[q]? := fun q hq => by
    rw [Array.getElem?_push, if_neg (Nat.ne_of_lt hq)]
  refine W.eq ?_ (w _ (by simp) o1 ?_ ⟨Nat.le_trans hS.1 (by simp), fun x h1 h2 => (o1 x (Nat.lt_of_lt_of_le h1 hS.1)).trans (hS.2.1 x h1 h2), hS.2.2⟩)
  · show F0 m (pc + 3) ls (.ref H.size :: _) = F0 m (pc + 3) ls (.ref (gr G h.1) :: _)
    rw [hg]
  · rw [hg]
    unfold cellR
    dsimp only
    rw [if_neg (by omega), if_neg (by omega), Nat.add_sub_cancel_left]
    refine ⟨_, { cls := cA, slots := Array.replicate n.toNatClampNeg .null, vm := .none }, hc, by simp, ⟨kA, comp, f2, f3, f4, f1⟩, rfl, ?_⟩
    simp [up]
theorem J_new {d : Nat} {M : MInfo} {fc fs : Nat} {Q : Option Value → MH → Prop} {pc : Nat} {L : MLoc} {st : List Value} {h : MH} {ci k1 : Nat} {C : String} {T : u_T} {N : Nat} {ty0 : Nat → FieldType} {vs : List Value} (hd : decode M.2.1 pc = .ok (.new k1, 3)) (hci : ci < 9) (hc : vwCl[ci]? = some (C, T, N)) (hin : ∀ w ∈ u_ws C T N, w ∈ ALLW) (hty : ∀ k, k < N → parseFieldDescriptor (T k).2.2.1 = some (ty0 k)) (hw1 : Cond.classLink M.2.2.2.2 k1 C ∈ ALLW) (hw2 : Cond.instantiable C N ∈ ALLW) (hw3 : Cond.initialized C ∈ ALLW) (hvs : vs.length = N) (hfs : ∀ (G : GC) (j : Nat), j < N → defaultValue (ty0 j) = vp_V (vs.map (up G)) j) (hb1 : h.1 + 1 ≤ fc) (hb2 : h.2.1 + N ≤ fs) (k : J d M fc fs Q (pc + 3) L (.ref h.1 :: st) (h.1 + 1, h.2.1 + N, h.2.2 ++ [(ci, .inl vs)])) : J d M fc fs Q pc L st h := by
  refine J_mk hb1 hb2 (fun G p l e R s m args below meth c H locs cells slots QQ ls hC hl hR hS hc1 hc2 w => ?_) k
  have hts := hC.2.2.2.2.1
  have hKn := hC.2.2.2.2.2.2.1.1.1 ci _ hc
  have hg := gq_size hR
  refine W.newcK hC.1 hC.2.1 hC.2.2.2.1 (hts _ hw1) (hts _ hw2) (hts _ hw3) rfl hd hc1 hc2 hKn.2.1 rfl fun H1 kC hkC e1 z1 o1 => ?_
  refine W.eq ?_ (w H1 z1 o1 ?_ ⟨Nat.le_trans hS.1 (by omega), fun x h1 h2 => (o1 x (Nat.lt_of_lt_of_le h1 hS.1)).trans (hS.2.1 x h1 h2), hS.2.2⟩)
  · show F0 m (pc + 3) ls (.ref H.size :: _) = F0 m (pc + 3) ls (.ref (gr G h.1) :: _)
    rw [hg]
  · rw [hg]
    unfold cellR
    dsimp only
    rw [if_pos hci]
    exact ⟨_, hc, hvs, (u_born ty0 hts hin hKn hkC e1 hty).to (hfs G)⟩
theorem J_ireturn {d : Nat} {M : MInfo} {fc fs : Nat} {Q : Option Value → MH → Prop} {pc : Nat} {L : MLoc} {h : MH} {v : Int32} {ty : FieldType} (hd : decode M.2.1 pc = .ok (.ireturn, 1)) (ht : M.2.2.2.1 = some ty) (hn : narrow ty (.int v) = .int v) (h1 : h.1 = fc) (h2 : h.2.1 = fs) (q : Q (some (.int v)) h) : J d M fc fs Q pc L [.int v] h := by
  intro G p l e R s m args below meth c H locs cells slots QQ ls hC hl hR hS hB hK
  have w := hK (some (.int v)) h H locs pc ls q h1 h2 hR hS ⟨hd, ty, ht, hn⟩
  rwa [h1, h2, Nat.sub_self, Nat.sub_self] at w
theorem J_lreturn {d : Nat} {M : MInfo} {fc fs : Nat} {Q : Option Value → MH → Prop} {pc : Nat} {L : MLoc} {h : MH} {v : Int64} (hd : decode M.2.1 pc = .ok (.lreturn, 1)) (ht : M.2.2.2.1 = some .long) (h1 : h.1 = fc) (h2 : h.2.1 = fs) (q : Q (some (.long v)) h) : J d M fc fs Q pc L [.long v] h := by
  intro G p l e R s m args below meth c H locs cells slots QQ ls hC hl hR hS hB hK
  have w := hK (some (.long v)) h H locs pc ls q h1 h2 hR hS ⟨hd, ht⟩
  rwa [h1, h2, Nat.sub_self, Nat.sub_self] at w
theorem J_areturn {d : Nat} {M : MInfo} {fc fs : Nat} {Q : Option Value → MH → Prop} {pc : Nat} {L : MLoc} {h : MH} {v : Nat} {rt : FieldType} (hd : decode M.2.1 pc = .ok (.areturn, 1)) (ht : M.2.2.2.1 = some rt) (hr : (∃ n, rt = .object n) ∨ ∃ t, rt = .array t) (h1 : h.1 = fc) (h2 : h.2.1 = fs) (q : Q (some (.ref v)) h) : J d M fc fs Q pc L [.ref v] h := by
  intro G p l e R s m args below meth c H locs cells slots QQ ls hC hl hR hS hB hK
  have w := hK (some (.ref v)) h H locs pc ls q h1 h2 hR hS ⟨hd, rt, ht, hr⟩
  rwa [h1, h2, Nat.sub_self, Nat.sub_self] at w
theorem J_areturnN {d : Nat} {M : MInfo} {fc fs : Nat} {Q : Option Value → MH → Prop} {pc : Nat} {L : MLoc} {h : MH} {rt : FieldType} (hd : decode M.2.1 pc = .ok (.areturn, 1)) (ht : M.2.2.2.1 = some rt) (hr : (∃ n, rt = .object n) ∨ ∃ t, rt = .array t) (h1 : h.1 = fc) (h2 : h.2.1 = fs) (q : Q (some .null) h) : J d M fc fs Q pc L [.null] h := by
  intro G p l e R s m args below meth c H locs cells slots QQ ls hC hl hR hS hB hK
  have w := hK (some .null) h H locs pc ls q h1 h2 hR hS ⟨hd, rt, ht, hr⟩
  rwa [h1, h2, Nat.sub_self, Nat.sub_self] at w
theorem J_return {d : Nat} {M : MInfo} {fc fs : Nat} {Q : Option Value → MH → Prop} {pc : Nat} {L : MLoc} {h : MH} (hd : decode M.2.1 pc = .ok (.return_, 1)) (ht : M.2.2.2.1 = none) (h1 : h.1 = fc) (h2 : h.2.1 = fs) (q : Q none h) : J d M fc fs Q pc L [] h := by
  intro G p l e R s m args below meth c H locs cells slots QQ ls hC hl hR hS hB hK
  have w := hK none h H locs pc ls q h1 h2 hR hS ⟨hd, ht⟩
  rwa [h1, h2, Nat.sub_self, Nat.sub_self] at w
theorem J_gets {d : Nat} {M : MInfo} {fc fs : Nat} {Q : Option Value → MH → Prop} {pc : Nat} {L : MLoc} {st : List Value} {h : MH} {k1 : Nat} {C n de : String} {v : Value} (hd : decode M.2.1 pc = .ok (.getstatic k1, 3)) (hz : ∀ (G : GC) (s : State), Fx G s → va_Z C n de (up G v) (gA G) s G.1) (hw : Cond.fieldLink M.2.2.2.2 k1 C n de ∈ ALLW) (k : J d M fc fs Q (pc + 3) L (v :: st) h) : J d M fc fs Q pc L st h := by
  refine J_go (fun G p l e R s m args below meth c H locs cells slots QQ ls hC hl hR hS w => ?_) k
  obtain ⟨cf, kf, fi, f, a, cell, h1, h2, h3, h4, h5, h6, h7, h8⟩ := hz G s hC.2.2.2.2.2.2.1
  exact W.gets hC.1 hC.2.1 hC.2.2.2.1 (hC.2.2.2.2.1 _ hw) h1 h2 h3 h4 (by rw [hS.2.1 a (Array.getElem?_eq_some_iff.mp h5).1 h8]; exact h5) (fun e => by rw [e] at h6; cases h6) h7 rfl hd w
theorem Fx_z1 (G : GC) (s : State) (h : Fx G s) : va_Z "MarkOffice$Strokes" "POINTS_OF" "[I" (up G (.ref 1)) (gA G) s G.1 := h.2.2.2.1.1
theorem Fx_z2 (G : GC) (s : State) (h : Fx G s) : va_Z "MarkOffice$Strokes" "MOVED" "[I" (up G (.ref 2)) (gA G) s G.1 := h.2.2.2.1.2.1
theorem Fx_z3 (G : GC) (s : State) (h : Fx G s) : va_Z "java/lang/String" "COMPACT_STRINGS" "Z" (up G (.int 1)) (gA G) s G.1 := h.2.2.2.1.2.2.1
theorem Fx_z4 (G : GC) (s : State) (h : Fx G s) : va_Z "jdk/internal/util/Preconditions" "SIOOBE_FORMATTER" "Ljava/util/function/BiFunction;" (up G (.retAddr 0)) (gA G) s G.1 := h.2.2.2.1.2.2.2
theorem J_ldcS {d : Nat} {M : MInfo} {fc fs : Nat} {Q : Option Value → MH → Prop} {pc : Nat} {L : MLoc} {st : List Value} {h : MH} {k1 a : Nat} {tx : String} (hd : decode M.2.1 pc = .ok (.ldc k1, 2)) (hz : ∀ (G : GC) (s : State), Fx G s → vk_R M.2.2.2.2 k1 tx (gr G a) s) (k : J d M fc fs Q (pc + 2) L (.ref a :: st) h) : J d M fc fs Q pc L st h :=
  J_go (fun G p l e R s m args below meth c H locs cells slots QQ ls hC hl hR hS w => va_ldcS hC.1 hC.2.1 hC.2.2.2.1 (hz G s hC.2.2.2.2.2.2.1) hd w) k
theorem J_strV {d : Nat} {M : MInfo} {fc fs : Nat} {Q : Option Value → MH → Prop} {pc : Nat} {L : MLoc} {st : List Value} {h : MH} {k1 a : Nat} (ha : a = 3 ∨ a = 5) (hd : decode M.2.1 pc = .ok (.getfield k1, 3)) (hw : Cond.fieldLink M.2.2.2.2 k1 "java/lang/String" "value" "[B" ∈ ALLW) (k : J d M fc fs Q (pc + 3) L (.ref (a + 1) :: st) h) : J d M fc fs Q pc L (.ref a :: st) h := by
  refine J_go (fun G p l e R s m args below meth c H locs cells slots QQ ls hC hl hR hS w => ?_) k
  obtain ⟨-, -, cf, k9, fi, f, cell, h1, h2, h3, h4, h5, h6⟩ := hC.2.2.2.2.2.2.1.2.2.2.2.2.2 a ha
  have e1 : gr G a = G.2.1 a := if_pos (by omega)
  have e2 : gr G (a + 1) = G.2.1 (a + 1) := if_pos (by omega)
  refine W.getf (g := F0 m pc ls (.ref (gr G a) :: st.map (up G))) hC.1 hC.2.1 hC.2.2.2.1 (hC.2.2.2.2.1 _ hw) h1 h2 (a := gr G a) (cell := cell) (by rw [e1, hS.2.1 _ (Array.getElem?_eq_some_iff.mp h3).1 h6]; exact h3) h4 h5 rfl rfl hd ?_
  rw [← e2]
  exact w
theorem J_strC {d : Nat} {M : MInfo} {fc fs : Nat} {Q : Option Value → MH → Prop} {pc : Nat} {L : MLoc} {st : List Value} {h : MH} {k1 a : Nat} (ha : a = 3 ∨ a = 5) (hd : decode M.2.1 pc = .ok (.getfield k1, 3)) (hw : Cond.fieldLink M.2.2.2.2 k1 "java/lang/String" "coder" "B" ∈ ALLW) (k : J d M fc fs Q (pc + 3) L (.int 0 :: st) h) : J d M fc fs Q pc L (.ref a :: st) h := by
  refine J_go (fun G p l e R s m args below meth c H locs cells slots QQ ls hC hl hR hS w => ?_) k
  obtain ⟨-, ⟨cf, k9, fi, f, cell, h1, h2, h3, h4, h5, h6⟩, -⟩ := hC.2.2.2.2.2.2.1.2.2.2.2.2.2 a ha
  have e1 : gr G a = G.2.1 a := if_pos (by omega)
  exact W.getf (g := F0 m pc ls (.ref (gr G a) :: st.map (up G))) hC.1 hC.2.1 hC.2.2.2.1 (hC.2.2.2.2.1 _ hw) h1 h2 (a := gr G a) (cell := cell) (by rw [e1, hS.2.1 _ (Array.getElem?_eq_some_iff.mp h3).1 h6]; exact h3) h4 h5 rfl rfl hd w
/-- what stands in a row behind a copy of a run of another's (or its own) -/
def cpyL (xs ys : List Int32) (sp dp n : Nat) : List Int32 := (List.range ys.length).map (fun k => if dp ≤ k ∧ k < dp + n then xs.getD (sp + (k - dp)) 0 else ys.getD k 0)
theorem cat_up {G : GC} {st : List Value} : ((st.map (up G)).map fun v => v.category).sum = (st.map fun v => v.category).sum := by
  rw [List.map_map]
  congr 1
  apply List.map_congr_left
  intro v _
  exact up_cat
theorem J_acopy {d : Nat} {M : MInfo} {fc fs : Nat} {Q : Option Value → MH → Prop} {pc : Nat} {L : MLoc} {st : List Value} {h : MH} {k1 a b sp dp n : Nat} {xs ys : List Int32} {vs vd vn : Int32} (hd : decode M.2.1 pc = .ok (.invokestatic k1, 3)) (hw1 : Cond.methodLink M.2.2.2.2 k1 arraycopyName ∈ ALLW) (hw2 : Cond.native arraycopyName ∈ ALLW) (hw3 : Cond.static arraycopyName ∈ ALLW) (hw4 : Cond.initialized "java/lang/System" ∈ ALLW)
    (hb : 8 ≤ b) (h0 : h.2.2[a]? = some (20, .inr (.inl xs))) (h1 : h.2.2[b]? = some (20, .inr (.inl ys))) (hs0 : ¬ vs < 0) (hd0 : ¬ vd < 0) (hn0 : ¬ vn < 0) (es : vs.toNatClampNeg = sp) (ed : vd.toNatClampNeg = dp) (en : vn.toNatClampNeg = n) (hls : sp + n ≤ xs.length) (hld : dp + n ≤ ys.length) (hdd : 1 ≤ d) (hcat : (st.map fun v => v.category).sum ≤ 8)
    (k : J d M fc fs Q (pc + 3) L st (h.1, h.2.1, h.2.2.set b (20, .inr (.inl (cpyL xs ys sp dp n))))) : J d M fc fs Q pc L (.int vn :: .int vd :: .ref b :: .int vs :: .ref a :: st) h := by
  refine J_wr hb (fun G p l e R s m args below meth c H locs cells slots QQ ls hC hl hR hS w => ?_) k
  obtain ⟨ty0, cs, b1, b2, b3, b4, b5⟩ := hR.2.2.2 a _ h0
  obtain ⟨ty1, cd, c1, c2, c3, c4, c5⟩ := hR.2.2.2 b _ h1
  cases b1
  cases c1
  have hts := hC.2.2.2.2.1
  have hfr : 1 ≤ R.frames := Nat.le_trans hdd hC.2.2.2.2.2.2.2.1
  have hlo : 64 ≤ R.locals := Nat.le_trans (by omega : 64 ≤ 64 * d) hC.2.2.2.2.2.2.2.2
  subst es; subst ed; subst en
  have nn : ∀ z : Int32, ¬ z < 0 → z.toInt = (z.toNatClampNeg : Int) := by
    intro z hz
    have hz0 : (0 : Int) ≤ z.toInt := by
      have := Int32.not_lt.mp hz
      simpa using Int32.le_iff_toInt_le.mp this
    show z.toInt = ((z.toInt.toNat : Nat) : Int)
    omega
  have get_s : ∀ i, i < xs.length → cs.slots.getD i .null = .int (xs.getD i 0) := fun i hi => by
    rw [Array.getD_eq_getD_getElem?, tl_get b5, List.getElem?_map, List.getElem?_eq_getElem hi, List.getD_eq_getElem?_getD, List.getElem?_eq_getElem hi]
    rfl
  obtain ⟨hs6, k0, hk0, cm0, hkk0⟩ := b3
  obtain ⟨hd6, k1', hk1, cm1, hkk1⟩ := c3
  intro T hT XX
  obtain ⟨vm', X', step⟩ := XX.arraycopy hC.1 hC.2.2.2.1 (hts _ hw1) (hts _ hw2) (hts _ hw3) (hts _ hw4) (src := gr G a) (dst := gr G b) (cs := cs) (cd := cd) (srcPos := vs) (destPos := vd) (n := vn) (by rw [hT]; exact b2) (by rw [hT]; exact c2)
    hs6 hd6 b4 c4 hk0 hk1 hkk0 hkk1 (by simp [refKind]) hs0 hd0 hn0
    (by rw [nn vs hs0, nn vn hn0, tl_size b5, List.length_map]; omega)
    (by rw [nn vd hd0, nn vn hn0, tl_size c5, List.length_map]; omega)
    (fun vm₁ _ i hi => by
      rw [get_s _ (by omega)]
      exact ⟨rfl, trivial⟩)
    (g := F0 m pc ls (.int vn :: .int vd :: .ref (gr G b) :: .int vs :: .ref (gr G a) :: st.map (up G))) rfl (by show ls.size = _; rw [hl.1, hC.2.2.1]) (rest := st.map (up G)) rfl (by rw [hC.2.1]; exact hd) hfr (by
      show 2 * 0 + _ + _ ≤ _
      rw [cat_up]
      have : nativeFrameWords "java/lang/System" "arraycopy" 5 + 11 ≤ 50 := by decide +kernel
      omega)
  have hcl : b < 8 ∨ 8 ≤ b := Or.inr hb
  have hlt : gr G b < H.size := (Array.getElem?_eq_some_iff.mp c2).1
  have hfacts := Cell.storeRun_facts cd vd.toNatClampNeg (cs.stretch vs.toNatClampNeg vn.toNatClampNeg)
  have hlenS : (cs.stretch vs.toNatClampNeg vn.toNatClampNeg).length = vn.toNatClampNeg := by simp [Cell.stretch]
  have hheap : ((T.setVm vm').setCell (gr G b) (copied cs cd vs vd vn)).heap = H.setIfInBounds (gr G b) (copied cs cd vs vd vn) := by rw [← hT]; rfl
  have oq : ∀ q : Nat, q ≠ gr G b → (H.setIfInBounds (gr G b) (copied cs cd vs vd vn))[q]? = H[q]? := fun q hq => by simp [Array.getElem?_setIfInBounds, Ne.symm hq]
  have hz : (H.setIfInBounds (gr G b) (copied cs cd vs vd vn)).size = H.size := by simp
  have hLL : (copied cs cd vs vd vn).slots.toList = (cpyL xs ys vs.toNatClampNeg vd.toNatClampNeg vn.toNatClampNeg).map Value.int := by
    apply List.ext_getElem?
    intro i
    rw [Array.getElem?_toList, show (copied cs cd vs vd vn).slots[i]? = _ from Cell.storeRun_get cd _ _ i (by rw [hlenS, tl_size c5, List.length_map]; exact hld), hlenS]
    unfold cpyL
    rw [List.map_map, List.getElem?_map]
    by_cases hi : i < ys.length
    · rw [List.getElem?_range hi]
      by_cases hc : vd.toNatClampNeg ≤ i ∧ i < vd.toNatClampNeg + vn.toNatClampNeg
      · rw [if_pos hc]
        unfold Cell.stretch
        rw [List.getElem?_map, List.getElem?_range (by omega)]
        simp only [Option.map_some, Function.comp, if_pos hc]
        rw [get_s _ (by omega)]
      · rw [if_neg hc, tl_get c5, List.getElem?_map, List.getElem?_eq_getElem hi]
        simp only [Option.map_some, Function.comp, if_neg hc, List.getD_eq_getElem?_getD, List.getElem?_eq_getElem hi, Option.getD_some]
    · rw [if_neg (by omega), tl_get c5, List.getElem?_map, List.getElem?_eq_none (by omega), List.getElem?_eq_none (by simpa using hi)]
      rfl
  obtain ⟨t, a1, b1'⟩ := w (H.setIfInBounds (gr G b) (copied cs cd vs vd vn)) _ hz oq ⟨.int, copied cs cd vs vd vn, rfl, by simp [Array.getElem?_setIfInBounds, hlt], ⟨by rw [show (copied cs cd vs vd vn).vm = cd.vm from hfacts.2.1]; exact hd6, k1', by rw [show (copied cs cd vs vd vn).cls = cd.cls from hfacts.1]; exact hk1, cm1, hkk1⟩, by rw [show (copied cs cd vs vd vn).vm = cd.vm from hfacts.2.1]; exact c4, hLL⟩ ⟨by rw [hz]; exact hS.1, fun q g1 g2 => by
      rw [oq q (fun e => g2 (by rw [e]; exact gq_gA hb))]
      exact hS.2.1 q g1 g2, fun q hq => by
      rcases List.mem_append.mp hq with z | z
      · exact hS.2.2 q z
      · obtain ⟨z1, -, z2⟩ := List.mem_map.mp z
        rw [← z2]
        exact gq_gA hb⟩ _ hheap X'
  exact ⟨t, step t a1, b1'⟩
def wsM (M : MInfo) : List Cond := Cond.code M.1 M.2.1 M.2.2.1 M.2.2.2.1 :: ALLW
def PcM (G : GC) (av : List Value) (h : MH) : Array Value → State → Prop := va_Pc (av.map (up G)) (fun U => Fx G U ∧ Rl G U h U.heap ∧ va_S (gA G) G.1 U.heap [])
def QcM (G : GC) (nc ns : Nat) (Q1 : Option Value → MH → Prop) : Array Value → State → Outcome → State → Prop := fun _ _ o t => ∃ (r : Option Value) (h1 : MH), Q1 r h1 ∧ h1.1 = nc ∧ h1.2.1 = ns ∧ o = .returned (r.map (up G)) ∧ Rl G t h1 t.heap ∧ va_S (gA G) G.1 t.heap []
/-- a call of a method with these arguments over this picture ends; answer and picture are as Q1 says; nc cells and ns slots are there then; d frames are enough -/
def Call (d : Nat) (M : MInfo) (av : List Value) (h : MH) (nc ns : Nat) (Q1 : Option Value → MH → Prop) : Prop :=
  h.1 ≤ nc ∧ h.2.1 ≤ ns ∧ ∀ (l : Launch) (G : GC), Met l M.1 (wsM M) { frames := d, cells := nc - h.1, slots := ns - h.2.1, locals := 64 * d } (PcM G av h) (QcM G nc ns Q1) (nc - h.1) (ns - h.2.1) (gA G)
theorem aw_warm {args : Array Value} {s : State} (hts : ∀ w ∈ ALLW, w.before args s = true) {M : MInfo} (hc : Cond.code M.1 M.2.1 M.2.2.1 M.2.2.2.1 ∈ ALLW) : ∀ w ∈ wsM M, ∀ (a' : Array Value) (U : State), s.WarmedH U.vm → w.before a' U = true := by
  intro w hw a' U hW
  have hw' : w ∈ ALLW := by
    rcases List.mem_cons.mp hw with e | e
    · rw [e]; exact hc
    · exact e
  exact word_at hW (good_of_word (List.mem_filter.mp hw').2) (hts w hw')
theorem PcM_blind {G : GC} {av : List Value} {h : MH} : FrameBlind (PcM G av h) := by
  intro a U g mk ⟨h1, h2, h3, h4⟩
  exact ⟨h1, Fx.same (u := U) (U := U.calling g mk a) rfl h2, h3.moved (u := U) (U := U.calling g mk a) (Vm.Alike.refl U.vm), h4⟩
theorem PcM_of {G : GC} {s U : State} {av : List Value} {h : MH} {H : Heap} {locs : List Loc} (hF : Fx G s) (hR : Rl G s h H) (hS : va_S (gA G) G.1 H locs) (hU : U.heap = H) (hW : s.WarmedH U.vm) : PcM G av h ((av.map (up G)).toArray) U := by
  subst hU
  exact ⟨rfl, hF.moved hW, hR.moved hW.alike, hS.1, hS.2.1, fun _ z => by cases z⟩
theorem W_call {G : GC} {p : Program} {l : Launch} {e : Env} {R : Room} {s : State} {m : MethodId} {args : Array Value} {below : List Frame} {meth : Method} {c : Code} {H : Heap} {locs : List Loc} {cells slots mc ms nc ns : Nat} {QQ : State → Prop} {pc : Nat} {ls : Array Slot} {rest st0 : List Value} {a : Array Value} {Q1 : Option Value → MH → Prop}
    (hr : va_Run p l e R s m args below meth c H locs cells slots mc ms (F0 m pc ls st0) rest (QcM G nc ns Q1 a) (gA G)) (hS : va_S (gA G) G.1 H locs)
    (kk : ∀ (r : Option Value) (h1 : MH) (H1 : Heap) (locs1 : List Loc), Q1 r h1 → h1.1 = nc → h1.2.1 = ns → Rl G s h1 H1 → va_S (gA G) G.1 H1 locs1 → W p l e R s m args below meth c H1 locs1 (cells + mc) (slots + ms) QQ (F0 m (pc + 3) ls ((r.map (up G)).toList ++ rest))) : W p l e R s m args below meth c H locs cells slots QQ (F0 m pc ls st0) := by
  intro T hT X
  obtain ⟨v, st₀, t, T', L, h0, X', hL, e1, e2, ⟨r, h1, hQ, hz1, hz2, hv, hq, hs⟩, st⟩ := hr T hT X
  cases hv
  have ha : t.vm.Alike s.vm := by rw [← e2]; exact X'.warmed.alike.symm
  obtain ⟨t2, a1, b1⟩ := kk r h1 T'.heap (locs ++ L) hQ hz1 hz2 (by rw [e1]; exact hq.moved ha) ⟨by rw [e1]; exact hs.1, fun q z1 z2 => by rw [e1]; exact hs.2.1 q z1 z2, fun q hq => by
      rcases List.mem_append.mp hq with z | z
      · exact hS.2.2 q z
      · exact hL q z⟩ T' rfl X'
  exact ⟨t2, st t2 a1, b1⟩
theorem J_k {d : Nat} {M : MInfo} {fc fs : Nat} {Q : Option Value → MH → Prop} {pc : Nat} {L : MLoc} {st : List Value} {h : MH} {nc ns : Nat} {Q1 : Option Value → MH → Prop} {st1 : Option Value → List Value} {pc1 : Nat} (g1 : h.1 ≤ nc) (g2 : h.2.1 ≤ ns) (f1 : nc ≤ fc) (f2 : ns ≤ fs) (hs : ∀ (G : GC) (p : Program) (l : Launch) (e : Env) (R : Room) (s : State) (m : MethodId) (args : Array Value) (below : List Frame) (meth : Method) (c : Code) (H : Heap) (locs : List Loc) (cells slots : Nat) (QQ : State → Prop) (ls : Array Slot), Cx G M d p R s m args meth c → lvR G ls M.2.2.1 L → Rl G s h H → va_S (gA G) G.1 H locs → cells + (nc - h.1) ≤ R.cells → slots + (ns - h.2.1) ≤ R.slots → (∀ (r : Option Value) (h1 : MH) (H1 : Heap) (locs1 : List Loc), Q1 r h1 → h1.1 = nc → h1.2.1 = ns → Rl G s h1 H1 → va_S (gA G) G.1 H1 locs1 → W p l e R s m args below meth c H1 locs1 (cells + (nc - h.1)) (slots + (ns - h.2.1)) QQ (F0 m pc1 ls ((st1 r).map (up G)))) → W p l e R s m args below meth c H locs cells slots QQ (F0 m pc ls (st.map (up G)))) (k : ∀ (r : Option Value) (h1 : MH), Q1 r h1 → J d M fc fs Q pc1 L (st1 r) h1) : J d M fc fs Q pc L st h :=
  fun G p l e R s m args below meth c H locs cells slots QQ ls hC hl hR hS hB hK => hs G p l e R s m args below meth c H locs cells slots QQ ls hC hl hR hS (by have := hB.2.2.1; omega) (by have := hB.2.2.2; omega) (fun r h1 H1 locs1 hQ hz1 hz2 hR1 hS1 => k r h1 hQ G p l e R s m args below meth c H1 locs1 (cells + (nc - h.1)) (slots + (ns - h.2.1)) QQ ls hC hl hR1 hS1 ⟨by omega, by omega, by have := hB.2.2.1; omega, by have := hB.2.2.2; omega⟩ (fun r h2 H2 locs2 pc2 ls2 q1 q2 q3 q4 q5 q6 => by
    have e1 : cells + (nc - h.1) + (fc - h1.1) = cells + (fc - h.1) := by omega
    have e2 : slots + (ns - h.2.1) + (fs - h1.2.1) = slots + (fs - h.2.1) := by omega
    rw [e1, e2]
    exact hK r h2 H2 locs2 pc2 ls2 q1 q2 q3 q4 q5 q6))
theorem room_of {M : MInfo} {d d1 : Nat} {R : Room} (hok : MOK M) (hd : d1 + 1 ≤ d) (h1 : d ≤ R.frames) (h2 : 64 * d ≤ R.locals) : d1 + 1 ≤ R.frames ∧ 8 + (M.2.2.1 + 11) + 64 * d1 ≤ R.locals := by
  have := hok.2.2.2.2.1
  omega
theorem len_of {y : MethodName} {n : Nat} (h2 : (parseMethodDescriptor y.desc).map (fun d => d.parameters.length) = some n) : ∀ sig, parseMethodDescriptor y.desc = some sig → n = sig.parameters.length := by
  intro sig h
  rw [h] at h2
  exact (Option.some.inj h2).symm
theorem mon0 {m : MethodId} {pc : Nat} {ls : Array Slot} {st rest : List Value} {G : GC} (h : (rest.map fun v => v.category).sum ≤ 8) : 2 * (F0 m pc ls st).monitorRoom + ((rest.map (up G)).map fun v => v.category).sum ≤ 8 := by
  rw [cat_up]
  show 2 * 0 + _ ≤ 8
  omega
theorem rev_up {G : GC} {av rest : List Value} : (av.reverse ++ rest).map (up G) = (av.map (up G)).reverse ++ rest.map (up G) := by simp
theorem rl_up {G : GC} {r : Option Value} {rest : List Value} : (r.map (up G)).toList ++ rest.map (up G) = (r.toList ++ rest).map (up G) := by cases r <;> rfl
theorem J_callS {d : Nat} {M : MInfo} {fc fs : Nat} {Q : Option Value → MH → Prop} {pc : Nat} {L : MLoc} {st : List Value} {h : MH} {d1 k1 n : Nat} {M1 : MInfo} {av rest : List Value} {nc ns : Nat} {Q1 : Option Value → MH → Prop} (hd : decode M.2.1 pc = .ok (.invokestatic k1, 3)) (hsite : ST M.2.2.2.2 k1 n M1) (hc : Call d1 M1 av h nc ns Q1) (hdd : d1 + 1 ≤ d) (hst : st = av.reverse ++ rest) (hn : av.length = n) (hcat : (rest.map fun v => v.category).sum ≤ 8) (f1 : nc ≤ fc) (f2 : ns ≤ fs) (k : ∀ (r : Option Value) (h1 : MH), Q1 r h1 → J d M fc fs Q (pc + 3) L (r.toList ++ rest) h1) : J d M fc fs Q pc L st h := by
  subst hst
  refine J_k (st1 := fun r => r.toList ++ rest) hc.1 hc.2.1 f1 f2 (fun G p l e R s m args below meth c H locs cells slots QQ ls hC hl hR hS b1 b2 w => ?_) k
  obtain ⟨hok, s1, s2, s3⟩ := hsite
  have hts := hC.2.2.2.2.1
  have hrm := room_of hok hdd hC.2.2.2.2.2.2.2.1 hC.2.2.2.2.2.2.2.2
  rw [rev_up]
  refine W_call (va_runS (As := av.map (up G)) (rest := rest.map (up G)) (Ts := ALLW) ⟨hC.1, hC.2.1, hC.2.2.1, hC.2.2.2.1, hts⟩ (hc.2.2 l G) ⟨⟨rfl, rfl, hrm.1, hrm.2, aw_warm hts hok.1, List.mem_cons_self, hts _ hok.1, hts _ hok.2.1, hok.2.2.1, len_of s3, hts _ s1⟩, hts _ s2⟩ ⟨PcM_blind, fun U hU hW => PcM_of hC.2.2.2.2.2.2.1 hR hS hU hW⟩ rfl (by rw [List.length_map]; exact hn) hl.1 rfl (mon0 hcat) hd ⟨b1, b2⟩) hS (fun r h1 H1 locs1 hQ z1 z2 hR1 hS1 => ?_)
  rw [rl_up]
  exact w r h1 H1 locs1 hQ z1 z2 hR1 hS1
theorem J_callSN {d : Nat} {M : MInfo} {fc fs : Nat} {Q : Option Value → MH → Prop} {pc : Nat} {L : MLoc} {st : List Value} {h : MH} {d1 k1 n : Nat} {M1 : MInfo} {av rest : List Value} {nc ns : Nat} {Q1 : Option Value → MH → Prop} (hd : decode M.2.1 pc = .ok (.invokestatic k1, 3)) (hsite : STN M.2.2.2.2 k1 n M1) (hc : Call d1 M1 av h nc ns Q1) (hdd : d1 + 1 ≤ d) (hst : st = av.reverse ++ rest) (hn : av.length = n) (hcat : (rest.map fun v => v.category).sum ≤ 8) (f1 : nc ≤ fc) (f2 : ns ≤ fs) (k : ∀ (r : Option Value) (h1 : MH), Q1 r h1 → J d M fc fs Q (pc + 3) L (r.toList ++ rest) h1) : J d M fc fs Q pc L st h := by
  subst hst
  refine J_k (st1 := fun r => r.toList ++ rest) hc.1 hc.2.1 f1 f2 (fun G p l e R s m args below meth c H locs cells slots QQ ls hC hl hR hS b1 b2 w => ?_) k
  obtain ⟨hok, ⟨host, s1⟩, s2, s3⟩ := hsite
  have hts := hC.2.2.2.2.1
  have hrm := room_of hok hdd hC.2.2.2.2.2.2.2.1 hC.2.2.2.2.2.2.2.2
  have hl1 := hC.2.2.2.2.2.2.1.2.1 _ s1
  rw [rev_up]
  refine W_call (va_runSN (host := host) (As := av.map (up G)) (rest := rest.map (up G)) (Ts := ALLW) ⟨hC.1, hC.2.1, hC.2.2.1, hC.2.2.2.1, hts⟩ (hc.2.2 l G) ⟨⟨⟨rfl, rfl, hrm.1, hrm.2, aw_warm hts hok.1, List.mem_cons_self⟩, hts _ hok.1, hts _ hok.2.1, hok.2.2.1, len_of s3, va_Nw.use rfl hl1⟩, hts _ s2, trivial⟩ ⟨PcM_blind, fun U hU hW => PcM_of hC.2.2.2.2.2.2.1 hR hS hU hW⟩ rfl (by rw [List.length_map]; exact hn) hl.1 rfl (mon0 hcat) hd ⟨b1, b2⟩) hS (fun r h1 H1 locs1 hQ z1 z2 hR1 hS1 => ?_)
  rw [rl_up]
  exact w r h1 H1 locs1 hQ z1 z2 hR1 hS1
/-- what a receiver is -/
def Rcv (C : String) (b : Nat) (h : MH) : Prop := (∃ (ci : Nat) (vs : List Value) (T : u_T) (N : Nat), ci < 9 ∧ h.2.2[b]? = some (ci, .inl vs) ∧ vwCl[ci]? = some (C, T, N)) ∨ (C = "java/lang/String" ∧ (b = 3 ∨ b = 5))
theorem Rcv.cell {G : GC} {s : State} {C : String} {b : Nat} {h : MH} {H : Heap} {locs : List Loc} (hr : Rcv C b h) (hF : Fx G s) (hR : Rl G s h H) (hS : va_S (gA G) G.1 H locs) : ∃ cellB : Cell, H[gr G b]? = some cellB ∧ cellB.vm.isStatics = false ∧ s.vm.findClass C = some cellB.cls := by
  rcases hr with ⟨ci, vs, T, N, h1, h2, h3⟩ | ⟨rfl, h2⟩
  · obtain ⟨r, r1, r2, cell, g1, g2, g3, -⟩ := cell_ob h1 (hR.2.2.2 b _ h2)
    exact ⟨cell, g1, by rw [g3]; rfl, by rw [g2]; exact (hF.1.1 ci _ h3).2.1⟩
  · obtain ⟨⟨cell, o1, o2, o3, o4⟩, -, -⟩ := hF.2.2.2.2.2.2 b h2
    have e1 : gr G b = G.2.1 b := if_pos (by omega)
    exact ⟨cell, by rw [e1, hS.2.1 _ (Array.getElem?_eq_some_iff.mp o1).1 o4]; exact o1, o2, o3⟩
theorem J_callV {d : Nat} {M : MInfo} {fc fs : Nat} {Q : Option Value → MH → Prop} {pc : Nat} {L : MLoc} {st : List Value} {h : MH} {d1 k1 n b : Nat} {M1 : MInfo} {av rest : List Value} {nc ns : Nat} {Q1 : Option Value → MH → Prop} (hd : decode M.2.1 pc = .ok (.invokevirtual k1, 3)) (hsite : SV M.2.2.2.2 k1 n M1) (hrc : Rcv M1.1.cls b h) (hc : Call d1 M1 (.ref b :: av) h nc ns Q1) (hdd : d1 + 1 ≤ d) (hst : st = av.reverse ++ .ref b :: rest) (hn : av.length = n) (hcat : (rest.map fun v => v.category).sum ≤ 8) (f1 : nc ≤ fc) (f2 : ns ≤ fs) (k : ∀ (r : Option Value) (h1 : MH), Q1 r h1 → J d M fc fs Q (pc + 3) L (r.toList ++ rest) h1) : J d M fc fs Q pc L st h := by
  subst hst
  refine J_k (st1 := fun r => r.toList ++ rest) hc.1 hc.2.1 f1 f2 (fun G p l e R s m args below meth c H locs cells slots QQ ls hC hl hR hS b1 b2 w => ?_) k
  obtain ⟨hok, s1, s2, s4, s3⟩ := hsite
  have hts := hC.2.2.2.2.1
  have hrm := room_of hok hdd hC.2.2.2.2.2.2.2.1 hC.2.2.2.2.2.2.2.2
  rw [rev_up]
  refine W_call (va_runV (C := M1.1.cls) (b := gr G b) (As := av.map (up G)) (rest := rest.map (up G)) (Ts := ALLW) ⟨hC.1, hC.2.1, hC.2.2.1, hC.2.2.2.1, hts⟩ (hc.2.2 l G) ⟨⟨rfl, rfl, hrm.1, hrm.2, aw_warm hts hok.1, List.mem_cons_self, hts _ hok.1, hts _ hok.2.1, hok.2.2.1, len_of s3, hts _ s1⟩, hts _ s2, hts _ s4⟩ ⟨PcM_blind, hrc.cell hC.2.2.2.2.2.2.1 hR hS, fun U hU hW => PcM_of hC.2.2.2.2.2.2.1 hR hS hU hW⟩ rfl (by rw [List.length_map]; exact hn) hl.1 rfl (mon0 hcat) hd ⟨b1, b2⟩) hS (fun r h1 H1 locs1 hQ z1 z2 hR1 hS1 => ?_)
  rw [rl_up]
  exact w r h1 H1 locs1 hQ z1 z2 hR1 hS1
theorem J_callI {d : Nat} {M : MInfo} {fc fs : Nat} {Q : Option Value → MH → Prop} {pc : Nat} {L : MLoc} {st : List Value} {h : MH} {d1 k1 n b : Nat} {M1 : MInfo} {av rest : List Value} {nc ns : Nat} {Q1 : Option Value → MH → Prop} (hd : decode M.2.1 pc = .ok (.invokespecial k1, 3)) (hsite : SI M.2.2.2.2 k1 n M1) (hc : Call d1 M1 (.ref b :: av) h nc ns Q1) (hdd : d1 + 1 ≤ d) (hst : st = av.reverse ++ .ref b :: rest) (hn : av.length = n) (hcat : (rest.map fun v => v.category).sum ≤ 8) (f1 : nc ≤ fc) (f2 : ns ≤ fs) (k : ∀ (r : Option Value) (h1 : MH), Q1 r h1 → J d M fc fs Q (pc + 3) L (r.toList ++ rest) h1) : J d M fc fs Q pc L st h := by
  subst hst
  refine J_k (st1 := fun r => r.toList ++ rest) hc.1 hc.2.1 f1 f2 (fun G p l e R s m args below meth c H locs cells slots QQ ls hC hl hR hS b1 b2 w => ?_) k
  obtain ⟨hok, s1, s2, s4, s5, s3⟩ := hsite
  have hts := hC.2.2.2.2.1
  have hrm := room_of hok hdd hC.2.2.2.2.2.2.2.1 hC.2.2.2.2.2.2.2.2
  obtain ⟨y1, by1, mx, rt, ow⟩ := M1
  dsimp only at s5
  subst s5
  rw [rev_up]
  exact W_call (va_runI (b := gr G b) (As := av.map (up G)) (rest := rest.map (up G)) (Ts := ALLW) ⟨hC.1, hC.2.1, hC.2.2.1, hC.2.2.2.1, hts⟩ (hc.2.2 l G) ⟨⟨rfl, rfl, hrm.1, hrm.2, aw_warm hts hok.1, List.mem_cons_self, hts _ hok.1, hts _ hok.2.1, hok.2.2.1, len_of s3, hts _ s1⟩, s4, hts _ s2⟩ ⟨PcM_blind, fun U hU hW => PcM_of hC.2.2.2.2.2.2.1 hR hS hU hW⟩ rfl (by rw [List.length_map]; exact hn) hl.1 rfl (mon0 hcat) hd ⟨b1, b2⟩) hS (fun r h1 H1 locs1 hQ z1 z2 hR1 hS1 => by
    rw [rl_up]
    exact w r h1 H1 locs1 hQ z1 z2 hR1 hS1)
theorem J_callIN {d : Nat} {M : MInfo} {fc fs : Nat} {Q : Option Value → MH → Prop} {pc : Nat} {L : MLoc} {st : List Value} {h : MH} {d1 k1 n b : Nat} {M1 : MInfo} {av rest : List Value} {nc ns : Nat} {Q1 : Option Value → MH → Prop} (hd : decode M.2.1 pc = .ok (.invokespecial k1, 3)) (hsite : SIN M.2.2.2.2 k1 n M1) (hc : Call d1 M1 (.ref b :: av) h nc ns Q1) (hdd : d1 + 1 ≤ d) (hst : st = av.reverse ++ .ref b :: rest) (hn : av.length = n) (hcat : (rest.map fun v => v.category).sum ≤ 8) (f1 : nc ≤ fc) (f2 : ns ≤ fs) (k : ∀ (r : Option Value) (h1 : MH), Q1 r h1 → J d M fc fs Q (pc + 3) L (r.toList ++ rest) h1) : J d M fc fs Q pc L st h := by
  subst hst
  refine J_k (st1 := fun r => r.toList ++ rest) hc.1 hc.2.1 f1 f2 (fun G p l e R s m args below meth c H locs cells slots QQ ls hC hl hR hS b1 b2 w => ?_) k
  obtain ⟨hok, ⟨host, s1⟩, s2, s4, s5, s3⟩ := hsite
  have hts := hC.2.2.2.2.1
  have hrm := room_of hok hdd hC.2.2.2.2.2.2.2.1 hC.2.2.2.2.2.2.2.2
  have hl1 := hC.2.2.2.2.2.2.1.2.1 _ s1
  obtain ⟨y1, by1, mx, rt, ow⟩ := M1
  dsimp only at s5
  subst s5
  rw [rev_up]
  exact W_call (va_runIN (host := host) (b := gr G b) (As := av.map (up G)) (rest := rest.map (up G)) (Ts := ALLW) ⟨hC.1, hC.2.1, hC.2.2.1, hC.2.2.2.1, hts⟩ (hc.2.2 l G) ⟨⟨⟨rfl, rfl, hrm.1, hrm.2, aw_warm hts hok.1, List.mem_cons_self⟩, hts _ hok.1, hts _ hok.2.1, hok.2.2.1, len_of s3, va_Nw.use rfl hl1⟩, s4, hts _ s2⟩ ⟨PcM_blind, fun U hU hW => PcM_of hC.2.2.2.2.2.2.1 hR hS hU hW⟩ rfl (by rw [List.length_map]; exact hn) hl.1 rfl (mon0 hcat) hd ⟨b1, b2⟩) hS (fun r h1 H1 locs1 hQ z1 z2 hR1 hS1 => by
    rw [rl_up]
    exact w r h1 H1 locs1 hQ z1 z2 hR1 hS1)
theorem J_objInit {d : Nat} {M : MInfo} {fc fs : Nat} {Q : Option Value → MH → Prop} {pc : Nat} {L : MLoc} {st : List Value} {h : MH} {k1 b : Nat} (hd : decode M.2.1 pc = .ok (.invokespecial k1, 3)) (hw1 : Cond.methodLink M.2.2.2.2 k1 Lib.objectInit ∈ ALLW) (hw2 : Cond.instanceMethod Lib.objectInit ∈ ALLW) (hw3 : Cond.code Lib.objectInit ⟨#[0xb1]⟩ 1 none ∈ ALLW) (hdd : 1 ≤ d) (hcat : (st.map fun v => v.category).sum ≤ 8) (k : J d M fc fs Q (pc + 3) L st h) : J d M fc fs Q pc L (.ref b :: st) h := by
  refine J_go (fun G p l e R s m args below meth c H locs cells slots QQ ls hC hl hR hS w => ?_) k
  have hts := hC.2.2.2.2.1
  have h1 := hC.2.2.2.2.2.2.2.1
  have h2 := hC.2.2.2.2.2.2.2.2
  refine W.objInit hC.1 hC.2.1 hC.2.2.2.1 (hts _ hw1) (hts _ hw2) (hts _ hw3) (g := F0 m pc ls (.ref (gr G b) :: st.map (up G))) rfl (by show ls.size = _; rw [hl.1, hC.2.2.1]) (rest := st.map (up G)) rfl hd (by omega) (by
    show 2 * 0 + _ + 12 ≤ _
    rw [cat_up]
    omega) w
theorem J_mmax {d : Nat} {M : MInfo} {fc fs : Nat} {Q : Option Value → MH → Prop} {pc : Nat} {L : MLoc} {st : List Value} {h : MH} {k1 : Nat} {x y : Int32} (hd : decode M.2.1 pc = .ok (.invokestatic k1, 3)) (hw1 : Cond.methodLink M.2.2.2.2 k1 Lib.Math.max.name ∈ ALLW) (hw2 : Cond.static Lib.Math.max.name ∈ ALLW) (hw3 : Cond.initialized "java/lang/Math" ∈ ALLW) (hw4 : Cond.code Lib.Math.max.name Lib.Math.max.code 2 (some .int) ∈ ALLW) (hdd : 1 ≤ d) (hcat : (st.map fun v => v.category).sum ≤ 8) (k : J d M fc fs Q (pc + 3) L (.int (if x < y then y else x) :: st) h) : J d M fc fs Q pc L (.int y :: .int x :: st) h :=
  fun G p l e R s m args below meth c H locs cells slots QQ ls hC hl hR hS hB hK => va_mmax hC.1 hC.2.1 (by rw [hC.2.2.1]; exact hl.1.symm) hC.2.2.2.1 (hC.2.2.2.2.1 _ hw1) (hC.2.2.2.2.1 _ hw2) (hC.2.2.2.2.1 _ hw3) (hC.2.2.2.2.1 _ hw4) (Nat.le_trans hdd hC.2.2.2.2.2.2.2.1) (by rw [cat_up]; have := hC.2.2.2.2.2.2.2.2; omega) (Nat.le_trans (Nat.le_add_right _ _) hB.2.2.1) (Nat.le_trans (Nat.le_add_right _ _) hB.2.2.2) hd (k G p l e R s m args below meth c H locs cells slots QQ ls hC hl hR hS hB hK)
theorem J_mmin {d : Nat} {M : MInfo} {fc fs : Nat} {Q : Option Value → MH → Prop} {pc : Nat} {L : MLoc} {st : List Value} {h : MH} {k1 : Nat} {x y : Int32} (hd : decode M.2.1 pc = .ok (.invokestatic k1, 3)) (hw1 : Cond.methodLink M.2.2.2.2 k1 Lib.Math.min.name ∈ ALLW) (hw2 : Cond.static Lib.Math.min.name ∈ ALLW) (hw3 : Cond.initialized "java/lang/Math" ∈ ALLW) (hw4 : Cond.code Lib.Math.min.name Lib.Math.min.code 2 (some .int) ∈ ALLW) (hdd : 1 ≤ d) (hcat : (st.map fun v => v.category).sum ≤ 8) (k : J d M fc fs Q (pc + 3) L (.int (if y < x then y else x) :: st) h) : J d M fc fs Q pc L (.int y :: .int x :: st) h :=
  fun G p l e R s m args below meth c H locs cells slots QQ ls hC hl hR hS hB hK => va_mmin hC.1 hC.2.1 (by rw [hC.2.2.1]; exact hl.1.symm) hC.2.2.2.1 (hC.2.2.2.2.1 _ hw1) (hC.2.2.2.2.1 _ hw2) (hC.2.2.2.2.1 _ hw3) (hC.2.2.2.2.1 _ hw4) (Nat.le_trans hdd hC.2.2.2.2.2.2.2.1) (by rw [cat_up]; have := hC.2.2.2.2.2.2.2.2; omega) (Nat.le_trans (Nat.le_add_right _ _) hB.2.2.1) (Nat.le_trans (Nat.le_add_right _ _) hB.2.2.2) hd (k G p l e R s m args below meth c H locs cells slots QQ ls hC hl hR hS hB hK)
theorem J_mmaxL {d : Nat} {M : MInfo} {fc fs : Nat} {Q : Option Value → MH → Prop} {pc : Nat} {L : MLoc} {st : List Value} {h : MH} {k1 : Nat} {x y : Int64} (hd : decode M.2.1 pc = .ok (.invokestatic k1, 3)) (hw1 : Cond.methodLink M.2.2.2.2 k1 Lib.MathLoose.max_long.x ∈ ALLW) (hw2 : Cond.static Lib.MathLoose.max_long.x ∈ ALLW) (hw3 : Cond.initialized "java/lang/Math" ∈ ALLW) (hw4 : Cond.code Lib.MathLoose.max_long.x Lib.MathLoose.max_long.code 4 (some .long) ∈ ALLW) (hdd : 1 ≤ d) (hcat : (st.map fun v => v.category).sum ≤ 8) (k : J d M fc fs Q (pc + 3) L (.long (if y < x then x else y) :: st) h) : J d M fc fs Q pc L (.long y :: .long x :: st) h :=
  fun G p l e R s m args below meth c H locs cells slots QQ ls hC hl hR hS hB hK => va_mmax_long hC.1 hC.2.1 (by rw [hC.2.2.1]; exact hl.1.symm) hC.2.2.2.1 (hC.2.2.2.2.1 _ hw1) (hC.2.2.2.2.1 _ hw2) (hC.2.2.2.2.1 _ hw3) (hC.2.2.2.2.1 _ hw4) (Nat.le_trans hdd hC.2.2.2.2.2.2.2.1) (by rw [cat_up]; have := hC.2.2.2.2.2.2.2.2; omega) (Nat.le_trans (Nat.le_add_right _ _) hB.2.2.1) (Nat.le_trans (Nat.le_add_right _ _) hB.2.2.2) hd (k G p l e R s m args below meth c H locs cells slots QQ ls hC hl hR hS hB hK)
theorem J_mminL {d : Nat} {M : MInfo} {fc fs : Nat} {Q : Option Value → MH → Prop} {pc : Nat} {L : MLoc} {st : List Value} {h : MH} {k1 : Nat} {x y : Int64} (hd : decode M.2.1 pc = .ok (.invokestatic k1, 3)) (hw1 : Cond.methodLink M.2.2.2.2 k1 Lib.MathLoose.min_long.x ∈ ALLW) (hw2 : Cond.static Lib.MathLoose.min_long.x ∈ ALLW) (hw3 : Cond.initialized "java/lang/Math" ∈ ALLW) (hw4 : Cond.code Lib.MathLoose.min_long.x Lib.MathLoose.min_long.code 4 (some .long) ∈ ALLW) (hdd : 1 ≤ d) (hcat : (st.map fun v => v.category).sum ≤ 8) (k : J d M fc fs Q (pc + 3) L (.long (if y < x then y else x) :: st) h) : J d M fc fs Q pc L (.long y :: .long x :: st) h :=
  fun G p l e R s m args below meth c H locs cells slots QQ ls hC hl hR hS hB hK => va_mmin_long hC.1 hC.2.1 (by rw [hC.2.2.1]; exact hl.1.symm) hC.2.2.2.1 (hC.2.2.2.2.1 _ hw1) (hC.2.2.2.2.1 _ hw2) (hC.2.2.2.2.1 _ hw3) (hC.2.2.2.2.1 _ hw4) (Nat.le_trans hdd hC.2.2.2.2.2.2.2.1) (by rw [cat_up]; have := hC.2.2.2.2.2.2.2.2; omega) (Nat.le_trans (Nat.le_add_right _ _) hB.2.2.1) (Nat.le_trans (Nat.le_add_right _ _) hB.2.2.2) hd (k G p l e R s m args below meth c H locs cells slots QQ ls hC hl hR hS hB hK)
def slots_of (av : List Value) : Nat := (lg_sl av).length
/-- the locals at a method's entry -/
def ent : List Value → MLoc
  | [] => []
  | .long x :: r => some (.long x) :: none :: ent r
  | .double x :: r => some (.double x) :: none :: ent r
  | v :: r => some v :: ent r
theorem ent_1 {v : Value} {r : List Value} (hc : v.category = 1) : ent (v :: r) = some v :: ent r := by cases v <;> first | rfl | (cases hc)
theorem ent_2 {v : Value} {r : List Value} (hc : v.category = 2) : ent (v :: r) = some v :: none :: ent r := by cases v <;> first | rfl | (cases hc)
theorem ent_args {G : GC} : ∀ (av : List Value) (o i : Nat) (v : Value), (ent av)[i]? = some (some v) → (o + i, up G v) ∈ lv_args o (av.map (up G))
  | [], o, i, v, h => by simp [ent] at h
  | a :: r, o, i, v, h => by
    have ih := ent_args (G := G) r
    have hc : (up G a).category = a.category := up_cat
    rw [List.map_cons]
    unfold lv_args
    rcases lv_cat a with e | e
    · rw [ent_1 e] at h
      rw [hc, e, if_neg (by decide)]
      cases i with
      | zero =>
        cases h
        exact List.mem_cons_self
      | succ i =>
        rw [List.getElem?_cons_succ] at h
        have z := ih (o + 1) i v h
        rw [show o + (i + 1) = o + 1 + i by omega]
        exact List.mem_cons_of_mem _ z
    · rw [ent_2 e] at h
      rw [hc, e, if_pos rfl]
      cases i with
      | zero =>
        cases h
        exact List.mem_cons_self
      | succ i =>
        cases i with
        | zero => cases h
        | succ i =>
          rw [List.getElem?_cons_succ, List.getElem?_cons_succ] at h
          have z := ih (o + 2) i v h
          rw [show o + (i + 1 + 1) = o + 2 + i by omega]
          exact List.mem_cons_of_mem _ z
theorem Call_of {d : Nat} {M : MInfo} {av : List Value} {h : MH} {nc ns : Nat} {Q1 : Option Value → MH → Prop} {L : MLoc} (nn : Nat) (hok : MOK M) (hn : ∀ G : GC, (lg_sl (av.map (up G))).length ≤ M.2.2.1) (g1 : h.1 ≤ nc) (g2 : h.2.1 ≤ ns) (hL : ent av ++ List.replicate nn none = L) (k : J d M nc ns Q1 0 L [] h) : Call d M av h nc ns Q1 := by
  refine ⟨g1, g2, fun l G => Met.ofW (cc := M.2.1) (maxL := M.2.2.1) (ret := M.2.2.2.1) hok.2.2.2.1 rfl ?_⟩
  intro p e s m args below meth c s₁ B hml hv
  obtain ⟨rfl, hF, hR, hS⟩ := hv
  have hts := atoms_spec (ws := wsM M) B.pre
  have hown : s.vm.findClass M.1.cls = some m.cls := findClass_of_methodNamed B.named
  have hC : Cx G M d p (headSpec (wsM M) { frames := d, cells := nc - h.1, slots := ns - h.2.1, locals := 64 * d }).room s m ((av.map (up G)).toArray) meth c :=
    ⟨B.exec, B.bytes, hml, by rw [← hok.2.2.2.2.2]; exact hown, fun w hw => hts w (List.mem_cons_of_mem _ hw), fun hi => by rw [← hi]; exact (name_of_methodNamed B.named B.method).1, hF, Nat.le_refl _, Nat.le_refl _⟩
  have hl := lv_entry (av.map (up G)) (hn G)
  rw [lg_entry_eq]
  generalize (lg_sl (av.map (up G)) ++ List.replicate (M.2.2.1 - (lg_sl (av.map (up G))).length) Slot.unset).toArray = ls at hl ⊢
  have hl' : lvR G ls M.2.2.1 L := ⟨hl.1, hl.2.1, fun i v hi => by
    rw [← hL, List.getElem?_append] at hi
    split at hi
    · have := hl.2.2 _ (ent_args (G := G) av 0 i v hi)
      simpa using this
    · rw [List.getElem?_replicate] at hi
      split at hi <;> cases hi⟩
  have hlocks := B.notSynchronized
  have hr := B.returns
  refine k G p l e _ s m _ below meth c s.heap [] 0 0 _ ls hC hl' hR hS ⟨g1, g2, by simp [headSpec], by simp [headSpec]⟩ ?_
  intro r' h' H1 locs1 pc1 ls1 hq hf1 hf2 hR1 hS1 hret
  rw [Nat.zero_add, Nat.zero_add]
  have post : ∀ t : State, t.heap = H1 → s.WarmedH t.vm → QcM G nc ns Q1 ((av.map (up G)).toArray) s (.returned (r'.map (up G))) t := fun t ht hW => by
    subst ht
    exact ⟨r', h', hq, hf1, hf2, rfl, hR1.moved hW.alike, hS1.1, hS1.2.1, fun _ z => by cases z⟩
  cases r' with
  | none => exact W.vret B.exec B.bytes (hr.trans hret.2) post hS1.2.2 hret.1 hlocks
  | some v =>
    cases v with
    | int v =>
      obtain ⟨hd, ty, ht, hn⟩ := hret
      exact W.zret B.exec B.bytes (hr.trans ht) hn post hS1.2.2 hd hlocks
    | long v => exact W.lret B.exec B.bytes (hr.trans hret.2) post hS1.2.2 hret.1 hlocks
    | ref a =>
      obtain ⟨hd, rt, ht, hrt⟩ := hret
      exact W.aret B.exec B.bytes (hr.trans ht) hrt (Or.inr ⟨_, rfl⟩) post hS1.2.2 hd hlocks
    | null =>
      obtain ⟨hd, rt, ht, hrt⟩ := hret
      exact W.aret B.exec B.bytes (hr.trans ht) hrt (Or.inl rfl) post hS1.2.2 hd hlocks
    | _ => exact absurd hret (fun z => z)
theorem Call.imp {d d1 : Nat} {M : MInfo} {av : List Value} {h : MH} {nc ns : Nat} {Q1 Q2 : Option Value → MH → Prop} (hc : Call d M av h nc ns Q1) (hq : ∀ r h1, Q1 r h1 → Q2 r h1) : Call d M av h nc ns Q2 := by
  refine ⟨hc.1, hc.2.1, fun l G => ?_⟩
  intro p e ha hcc hk s m args below hf hpre hP hT
  obtain ⟨k, o, t, g1, g2, ⟨⟨r, h1, q1, q2⟩, g3⟩⟩ := hc.2.2 l G p e ha hcc hk s m args below hf hpre hP hT
  exact ⟨k, o, t, g1, g2, ⟨⟨r, h1, hq r h1 q1, q2⟩, g3⟩⟩
