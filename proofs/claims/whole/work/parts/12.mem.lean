/-! The whole heap of a run behind both constructors: what kind of cell each place is, which references the objects hold (none of them changes but Reader.into), and the numbers as functions of place and field. -/
def kdL : List Nat := [20, 20, 20, 10, 23, 10, 23, 10, 7, 20, 35, 3, 6, 20, 20, 20, 1, 20, 0, 2, 20, 20, 4, 32, 2, 20, 20, 2, 20, 20, 2, 20, 20, 2, 20, 20, 2, 20, 20, 2, 20, 20, 2, 20, 20, 2, 20, 20, 2, 20, 20, 2, 20, 20, 2, 20, 20, 2, 20, 20, 2, 20, 20, 2, 20, 20, 2, 20, 20, 2, 20, 20, 2, 20, 20, 2, 20, 20, 2, 20, 20, 2, 20, 20, 2, 20, 20, 2, 20, 20, 2, 20, 20, 2, 20, 20, 2, 20, 20, 2, 20, 20, 2, 20, 20, 2, 20, 20, 2, 20, 20, 2, 20, 20, 20, 20, 20, 20, 0, 2, 20, 20, 4, 32, 2, 20, 20, 2, 20, 20, 2, 20, 20, 2, 20, 20, 2, 20, 20, 2, 20, 20, 2, 20, 20, 2, 20, 20, 2, 20, 20, 2, 20, 20, 2, 20, 20, 2, 20, 20, 2, 20, 20, 2, 20, 20, 2, 20, 20, 2, 20, 20, 2, 20, 20, 2, 20, 20, 2, 20, 20, 2, 20, 20, 2, 20, 20, 2, 20, 20, 2, 20, 20, 2, 20, 20, 2, 20, 20, 2, 20, 20, 2, 20, 20, 2, 20, 20, 2, 20, 20, 2, 20, 20, 20, 20, 20, 20, 2, 20, 20, 20, 20, 21, 5, 20, 20, 20, 20, 5, 20, 20, 20, 20, 5, 20, 20, 20, 20, 5, 20, 20, 20, 20, 8, 20, 20, 20, 20, 20, 20, 20, 20, 20, 20, 20, 20, 21, 22, 20, 21, 22, 20]
def kd (a : Nat) : Nat := kdL.getD a 99
def rfL : List (List Nat) := [[], [], [], [], [], [], [], [], [9, 0, 0, 0, 10, 11, 16, 18, 118, 218, 221, 222, 223], [], [224, 229, 234, 239], [12, 0, 0, 0, 0, 0, 0], [13, 14, 15, 9, 0, 0], [], [], [], [17, 0], [], [19, 22, 114, 0, 0, 0, 0, 0, 115, 116, 117], [0, 20, 0, 0, 0, 0, 21], [], [], [23, 0, 0], [24, 27, 30, 33, 36, 39, 42, 45, 48, 51, 54, 57, 60, 63, 66, 69, 72, 75, 78, 81, 84, 87, 90, 93, 96, 99, 102, 105, 108, 111], [0, 25, 0, 0, 0, 0, 26], [], [], [0, 28, 0, 0, 0, 0, 29], [], [], [0, 31, 0, 0, 0, 0, 32], [], [], [0, 34, 0, 0, 0, 0, 35], [], [], [0, 37, 0, 0, 0, 0, 38], [], [], [0, 40, 0, 0, 0, 0, 41], [], [], [0, 43, 0, 0, 0, 0, 44], [], [], [0, 46, 0, 0, 0, 0, 47], [], [], [0, 49, 0, 0, 0, 0, 50], [], [], [0, 52, 0, 0, 0, 0, 53], [], [], [0, 55, 0, 0, 0, 0, 56], [], [], [0, 58, 0, 0, 0, 0, 59], [], [], [0, 61, 0, 0, 0, 0, 62], [], [], [0, 64, 0, 0, 0, 0, 65], [], [], [0, 67, 0, 0, 0, 0, 68], [], [], [0, 70, 0, 0, 0, 0, 71], [], [], [0, 73, 0, 0, 0, 0, 74], [], [], [0, 76, 0, 0, 0, 0, 77], [], [], [0, 79, 0, 0, 0, 0, 80], [], [], [0, 82, 0, 0, 0, 0, 83], [], [], [0, 85, 0, 0, 0, 0, 86], [], [], [0, 88, 0, 0, 0, 0, 89], [], [], [0, 91, 0, 0, 0, 0, 92], [], [], [0, 94, 0, 0, 0, 0, 95], [], [], [0, 97, 0, 0, 0, 0, 98], [], [], [0, 100, 0, 0, 0, 0, 101], [], [], [0, 103, 0, 0, 0, 0, 104], [], [], [0, 106, 0, 0, 0, 0, 107], [], [], [0, 109, 0, 0, 0, 0, 110], [], [], [0, 112, 0, 0, 0, 0, 113], [], [], [], [], [], [], [119, 122, 214, 0, 0, 0, 0, 0, 215, 216, 217], [0, 120, 0, 0, 0, 0, 121], [], [], [123, 0, 0], [124, 127, 130, 133, 136, 139, 142, 145, 148, 151, 154, 157, 160, 163, 166, 169, 172, 175, 178, 181, 184, 187, 190, 193, 196, 199, 202, 205, 208, 211], [0, 125, 0, 0, 0, 0, 126], [], [], [0, 128, 0, 0, 0, 0, 129], [], [], [0, 131, 0, 0, 0, 0, 132], [], [], [0, 134, 0, 0, 0, 0, 135], [], [], [0, 137, 0, 0, 0, 0, 138], [], [], [0, 140, 0, 0, 0, 0, 141], [], [], [0, 143, 0, 0, 0, 0, 144], [], [], [0, 146, 0, 0, 0, 0, 147], [], [], [0, 149, 0, 0, 0, 0, 150], [], [], [0, 152, 0, 0, 0, 0, 153], [], [], [0, 155, 0, 0, 0, 0, 156], [], [], [0, 158, 0, 0, 0, 0, 159], [], [], [0, 161, 0, 0, 0, 0, 162], [], [], [0, 164, 0, 0, 0, 0, 165], [], [], [0, 167, 0, 0, 0, 0, 168], [], [], [0, 170, 0, 0, 0, 0, 171], [], [], [0, 173, 0, 0, 0, 0, 174], [], [], [0, 176, 0, 0, 0, 0, 177], [], [], [0, 179, 0, 0, 0, 0, 180], [], [], [0, 182, 0, 0, 0, 0, 183], [], [], [0, 185, 0, 0, 0, 0, 186], [], [], [0, 188, 0, 0, 0, 0, 189], [], [], [0, 191, 0, 0, 0, 0, 192], [], [], [0, 194, 0, 0, 0, 0, 195], [], [], [0, 197, 0, 0, 0, 0, 198], [], [], [0, 200, 0, 0, 0, 0, 201], [], [], [0, 203, 0, 0, 0, 0, 204], [], [], [0, 206, 0, 0, 0, 0, 207], [], [], [0, 209, 0, 0, 0, 0, 210], [], [], [0, 212, 0, 0, 0, 0, 213], [], [], [], [], [], [], [0, 219, 0, 0, 0, 0, 220], [], [], [], [], [], [225, 0, 0, 0, 0, 0, 0, 0, 0, 226, 227, 228], [], [], [], [], [230, 0, 0, 0, 0, 0, 0, 0, 0, 231, 232, 233], [], [], [], [], [235, 0, 0, 0, 0, 0, 0, 0, 0, 236, 237, 238], [], [], [], [], [240, 0, 0, 0, 0, 0, 0, 0, 0, 241, 242, 243], [], [], [], [], [245, 246, 247, 248, 249, 250, 251, 252, 253, 0, 0, 0, 0, 0, 0, 0, 0, 0, 0, 0, 254, 255, 0, 0, 0, 0, 0, 256, 257, 258, 0, 0, 259, 260, 261, 262, 0], [], [], [], [], [], [], [], [], [], [], [], [], [], [], [], [], [], []]
def rf (a k : Nat) : Nat := (rfL.getD a []).getD k 0
def rl (a : Nat) : Nat := (rfL.getD a []).length
def ftL : List (List Nat) := [[1, 1, 1, 0, 0, 0, 0, 0, 1, 1, 1], [1, 0], [0, 1, 0, 0, 0, 0, 1], [1, 0, 0, 0, 2, 0, 0], [1, 0, 0], [1, 0, 0, 0, 0, 0, 0, 0, 0, 1, 1, 1], [1, 1, 1, 1, 0, 0], [1, 0, 0, 0, 1, 1, 1, 1, 1, 1, 1, 1, 1], [1, 1, 1, 1, 1, 1, 1, 1, 1, 0, 0, 0, 0, 0, 0, 0, 3, 0, 0, 0, 1, 1, 0, 0, 0, 0, 0, 1, 1, 1, 0, 0, 1, 1, 1, 1, 0]]
def ft (c k : Nat) : Nat := (ftL.getD c []).getD k 9
def nf (c : Nat) : Nat := (ftL.getD c []).length
abbrev Mem : Type := (Nat → Nat → Int32) × ((Nat → List Int32) × ((Nat → List Int64) × (Option Nat × Int64)))
def fv (X : Mem) (a c k : Nat) : Value := match ft c k with
  | 0 => .int (X.1 a k)
  | 1 => .ref (rf a k)
  | 2 => (match X.2.2.2.1 with
    | none => .null
    | some b => .ref b)
  | _ => .long X.2.2.2.2
def cellM (X : Mem) (a : Nat) : MCell := if kd a < 9 then (kd a, .inl ((List.range (nf (kd a))).map (fv X a (kd a)))) else if kd a = 10 then (10, .inl []) else if kd a = 21 then (21, .inr (.inr (X.2.2.1 a))) else if kd a < 30 then (kd a, .inr (.inl (X.2.1 a))) else (kd a, .inl ((rfL.getD a []).map Value.ref))
def cellsM (X : Mem) : List MCell := (List.range 263).map (cellM X)
def hm (X : Mem) : MH := (263, (13716, cellsM X))
def pF (X : Mem) (a k : Nat) (v : Int32) : Mem := (fun b j => if j = k then (if b = a then v else X.1 b j) else X.1 b j, X.2)
def pA (X : Mem) (a : Nat) (xs : List Int32) : Mem := (X.1, (fun b => if b = a then xs else X.2.1 b, X.2.2))
def pL (X : Mem) (a : Nat) (xs : List Int64) : Mem := (X.1, (X.2.1, (fun b => if b = a then xs else X.2.2.1 b, X.2.2.2)))
def pI (X : Mem) (o : Option Nat) : Mem := (X.1, (X.2.1, (X.2.2.1, (o, X.2.2.2.2))))
def pW (X : Mem) (w : Int64) : Mem := (X.1, (X.2.1, (X.2.2.1, (X.2.2.2.1, w))))
def QM (Q : Option Value → Mem → Prop) : Option Value → MH → Prop := fun r h => ∃ Y : Mem, h = hm Y ∧ Q r Y
abbrev JM (d : Nat) (M : MInfo) (Q : Option Value → Mem → Prop) (pc : Nat) (L : MLoc) (st : List Value) (X : Mem) : Prop := J d M 263 13716 (QM Q) pc L st (hm X)
abbrev CM (d : Nat) (M : MInfo) (av : List Value) (X : Mem) (Q : Option Value → Mem → Prop) : Prop := Call d M av (hm X) 263 13716 (QM Q)
theorem kd_lt {a : Nat} (h : kd a ≠ 99) : a < 263 := by
  rcases Nat.lt_or_ge a 263 with q | q
  · exact q
  · have hl : kdL.length = 263 := by decide +kernel
    exact absurd (by unfold kd; rw [List.getD_eq_getElem?_getD, List.getElem?_eq_none (by omega)]; rfl) h
theorem kd_8 {a : Nat} (h : kd a < 9) : 8 ≤ a := by
  have g : ∀ b, b < 8 → ¬ kd b < 9 := by decide
  rcases Nat.lt_or_ge a 8 with q | q
  · exact absurd h (g a q)
  · exact q
theorem ft_lt {c k : Nat} (h : ft c k ≠ 9) : k < nf c := by
  rcases Nat.lt_or_ge k (nf c) with q | q
  · exact q
  · exact absurd (by unfold ft; rw [List.getD_eq_getElem?_getD, List.getElem?_eq_none (by exact q)]; rfl) h
theorem cellsM_get {X : Mem} {a : Nat} (h : a < 263) : (hm X).2.2[a]? = some (cellM X a) := by
  show ((List.range 263).map (cellM X))[a]? = _
  rw [List.getElem?_map, List.getElem?_range h]
  rfl
theorem cellsM_set {X Y : Mem} {a : Nat} {cl : MCell} (ha : cl = cellM Y a) (h : ∀ b, b ≠ a → cellM Y b = cellM X b) : ((hm X).1, (hm X).2.1, (hm X).2.2.set a cl) = hm Y := by
  subst ha
  show (263, (13716, ((List.range 263).map (cellM X)).set a (cellM Y a))) = (263, (13716, (List.range 263).map (cellM Y)))
  congr 2
  apply List.ext_getElem?
  intro i
  rw [List.getElem?_set]
  by_cases e : a = i
  · subst e
    rw [if_pos rfl, List.length_map, List.length_range]
    by_cases hl : a < 263
    · rw [if_pos hl, List.getElem?_map, List.getElem?_range hl]
      rfl
    · rw [if_neg hl, List.getElem?_eq_none (by simpa using hl)]
  · rw [if_neg e, List.getElem?_map, List.getElem?_map]
    by_cases hl : i < 263
    · rw [List.getElem?_range hl]
      show some (cellM X i) = some (cellM Y i)
      rw [h i (fun q => e q.symm)]
    · rw [List.getElem?_eq_none (by simpa using hl)]
      rfl
theorem cellM_o {X : Mem} {a ci : Nat} (hk : kd a = ci) (hc : ci < 9) : cellM X a = (ci, .inl ((List.range (nf ci)).map (fv X a ci))) := by
  unfold cellM
  rw [hk, if_pos hc]
theorem cellM_i {X : Mem} {a t : Nat} (hk : kd a = t) (ht : t = 20 ∨ t = 22 ∨ t = 23) : cellM X a = (t, .inr (.inl (X.2.1 a))) := by
  unfold cellM
  rw [hk, if_neg (by omega), if_neg (by omega), if_neg (by omega), if_pos (by omega)]
theorem cellM_l {X : Mem} {a : Nat} (hk : kd a = 21) : cellM X a = (21, .inr (.inr (X.2.2.1 a))) := by
  unfold cellM
  rw [hk, if_neg (by omega), if_neg (by omega), if_pos rfl]
theorem cellM_r {X : Mem} {a t : Nat} (hk : kd a = t) (ht : 30 ≤ t) : cellM X a = (t, .inl ((rfL.getD a []).map Value.ref)) := by
  unfold cellM
  rw [hk, if_neg (by omega), if_neg (by omega), if_neg (by omega), if_neg (by omega)]
theorem fv_get {X : Mem} {a c f : Nat} (h : ft c f ≠ 9) : ((List.range (nf c)).map (fv X a c))[f]? = some (fv X a c f) := by
  rw [List.getElem?_map, List.getElem?_range (ft_lt h)]
  rfl
theorem fv_set {X Y : Mem} {a c f : Nat} {v : Value} (hf : ft c f ≠ 9) (hv : fv Y a c f = v) (h : ∀ j, j < nf c → j ≠ f → fv Y a c j = fv X a c j) : ((List.range (nf c)).map (fv X a c)).set f v = (List.range (nf c)).map (fv Y a c) := by
  apply List.ext_getElem?
  intro i
  rw [List.getElem?_set]
  by_cases e : f = i
  · subst e
    rw [if_pos rfl, List.length_map, List.length_range, if_pos (ft_lt hf), fv_get hf, hv]
  · rw [if_neg e, List.getElem?_map, List.getElem?_map]
    by_cases hl : i < nf c
    · rw [List.getElem?_range hl]
      show some (fv X a c i) = some (fv Y a c i)
      rw [h i hl (fun q => e q.symm)]
    · rw [List.getElem?_eq_none (by simpa using hl)]
      rfl
theorem M_rcv {X : Mem} {a ci : Nat} {C : String} {T : u_T} {N : Nat} (hk : kd a = ci) (hc : ci < 9) (hv : vwCl[ci]? = some (C, T, N)) : Rcv C a (hm X) := by
  refine Or.inl ⟨ci, (List.range (nf ci)).map (fv X a ci), T, N, hc, ?_, hv⟩
  rw [cellsM_get (kd_lt (by omega)), cellM_o hk hc]
theorem M_get {d : Nat} {M : MInfo} {Q : Option Value → Mem → Prop} {pc : Nat} {L : MLoc} {st : List Value} {X : Mem} {k1 ci f a : Nat} {x : Int32} (hd : decode M.2.1 pc = .ok (.getfield k1, 3)) (hf : FS M.2.2.2.2 k1 ci f) (hk : kd a = ci) (hft : ft ci f = 0) (hx : X.1 a f = x) (k : JM d M Q (pc + 3) L (.int x :: st) X) : JM d M Q pc L (.ref a :: st) X := by
  have hc : ci < 9 := by obtain ⟨_, _, _, -, hc, -⟩ := hf; exact hc
  subst hx
  refine J_getfield hd hf (by rw [cellsM_get (kd_lt (by omega)), cellM_o hk hc]) (v := .int (X.1 a f)) ?_ k
  rw [fv_get (by omega)]
  unfold fv
  rw [hft]
  rfl
theorem M_getR {d : Nat} {M : MInfo} {Q : Option Value → Mem → Prop} {pc : Nat} {L : MLoc} {st : List Value} {X : Mem} {k1 ci f a b : Nat} (hd : decode M.2.1 pc = .ok (.getfield k1, 3)) (hf : FS M.2.2.2.2 k1 ci f) (hk : kd a = ci) (hft : ft ci f = 1) (hx : rf a f = b) (k : JM d M Q (pc + 3) L (.ref b :: st) X) : JM d M Q pc L (.ref a :: st) X := by
  have hc : ci < 9 := by obtain ⟨_, _, _, -, hc, -⟩ := hf; exact hc
  subst hx
  refine J_getfield hd hf (by rw [cellsM_get (kd_lt (by omega)), cellM_o hk hc]) (v := .ref (rf a f)) ?_ k
  rw [fv_get (by omega)]
  unfold fv
  rw [hft]
  rfl
theorem M_getI {d : Nat} {M : MInfo} {Q : Option Value → Mem → Prop} {pc : Nat} {L : MLoc} {st : List Value} {X : Mem} {k1 ci f a b : Nat} (hd : decode M.2.1 pc = .ok (.getfield k1, 3)) (hf : FS M.2.2.2.2 k1 ci f) (hk : kd a = ci) (hft : ft ci f = 2) (hx : X.2.2.2.1 = some b) (k : JM d M Q (pc + 3) L (.ref b :: st) X) : JM d M Q pc L (.ref a :: st) X := by
  have hc : ci < 9 := by obtain ⟨_, _, _, -, hc, -⟩ := hf; exact hc
  refine J_getfield hd hf (by rw [cellsM_get (kd_lt (by omega)), cellM_o hk hc]) (v := .ref b) ?_ k
  rw [fv_get (by omega)]
  unfold fv
  rw [hft, hx]
  rfl
theorem M_getW {d : Nat} {M : MInfo} {Q : Option Value → Mem → Prop} {pc : Nat} {L : MLoc} {st : List Value} {X : Mem} {k1 ci f a : Nat} {x : Int64} (hd : decode M.2.1 pc = .ok (.getfield k1, 3)) (hf : FS M.2.2.2.2 k1 ci f) (hk : kd a = ci) (hft : ft ci f = 3) (hx : X.2.2.2.2 = x) (k : JM d M Q (pc + 3) L (.long x :: st) X) : JM d M Q pc L (.ref a :: st) X := by
  have hc : ci < 9 := by obtain ⟨_, _, _, -, hc, -⟩ := hf; exact hc
  subst hx
  refine J_getfield hd hf (by rw [cellsM_get (kd_lt (by omega)), cellM_o hk hc]) (v := .long X.2.2.2.2) ?_ k
  rw [fv_get (by omega)]
  unfold fv
  rw [hft]
  rfl
theorem cellM_pF {X : Mem} {a k b : Nat} {v : Int32} (h : b ≠ a) : cellM (pF X a k v) b = cellM X b := by
  have e : fv (pF X a k v) b = fv X b := by
    funext c j
    unfold fv pF
    split
    · show Value.int (if j = k then (if b = a then v else X.1 b j) else X.1 b j) = _
      rw [if_neg h, ite_self]
    · rfl
    · rfl
    · rfl
  unfold cellM
  rw [e]
  rfl
theorem M_put {d : Nat} {M : MInfo} {Q : Option Value → Mem → Prop} {pc : Nat} {L : MLoc} {st : List Value} {X : Mem} {k1 ci f a : Nat} {v : Int32} {ty : FieldType} (hd : decode M.2.1 pc = .ok (.putfield k1, 3)) (hf : FP M.2.2.2.2 k1 ci f ty) (hk : kd a = ci) (hft : ft ci f = 0) (hn : narrow ty (.int v) = .int v) (hfit : fits ty (.int v) = true) (k : JM d M Q (pc + 3) L st (pF X a f v)) : JM d M Q pc L (.int v :: .ref a :: st) X := by
  have hc : ci < 9 := by obtain ⟨_, _, _, _, -, hc, -⟩ := hf; exact hc
  refine J_putfield hd hf (kd_8 (by omega)) (by rw [cellsM_get (kd_lt (by omega)), cellM_o hk hc]) hn hfit ?_
  rw [cellsM_set (Y := pF X a f v) ?_ (fun b hb => cellM_pF hb)]
  · exact k
  · rw [cellM_o hk hc, fv_set (Y := pF X a f v) (by omega)]
    · unfold fv pF
      rw [hft]
      simp
    · intro j hjl hj
      unfold fv pF
      split
      · show Value.int (if j = f then (if a = a then v else X.1 a j) else X.1 a j) = _
        rw [if_neg hj]
      · rfl
      · rfl
      · rfl
theorem M_putI {d : Nat} {M : MInfo} {Q : Option Value → Mem → Prop} {pc : Nat} {L : MLoc} {st : List Value} {X : Mem} {k1 a b : Nat} (hd : decode M.2.1 pc = .ok (.putfield k1, 3)) (hf : FP M.2.2.2.2 k1 3 4 (.object "MarkOffice$Text")) (hk : kd a = 3) (k : JM d M Q (pc + 3) L st (pI X (some b))) : JM d M Q pc L (.ref b :: .ref a :: st) X := by
  refine J_putfield hd hf (kd_8 (by omega)) (by rw [cellsM_get (kd_lt (by omega)), cellM_o hk (by omega)]) rfl rfl ?_
  have only : ∀ q, q < 263 → kd q = 3 → q = 11 := by decide +kernel
  have ha := only a (kd_lt (by omega)) hk
  rw [cellsM_set (Y := pI X (some b)) ?_ ?_]
  · exact k
  · rw [cellM_o hk (by omega), fv_set (Y := pI X (some b)) (by decide)]
    · rfl
    · intro j hjl hj
      unfold fv
      split
      · rfl
      · rfl
      · rename_i e
        exfalso
        have g : ∀ q, q < 7 → ft 3 q = 2 → q = 4 := by decide
        exact hj (g j hjl e)
      · rfl
  · intro q hq
    by_cases hk9 : kd q < 9
    · rw [cellM_o rfl hk9, cellM_o rfl hk9]
      congr 2
      apply List.map_congr_left
      intro j hj
      unfold fv
      split
      · rfl
      · rfl
      · rename_i e
        exfalso
        have g : ∀ c, c < 9 → ∀ j, j < nf c → ft c j = 2 → c = 3 := by decide
        have h3 := g (kd q) hk9 j (List.mem_range.mp hj) e
        exact hq ((only q (kd_lt (by omega)) h3).trans ha.symm)
      · rfl
    · unfold cellM
      rw [if_neg hk9, if_neg hk9]
      rfl
theorem M_putW {d : Nat} {M : MInfo} {Q : Option Value → Mem → Prop} {pc : Nat} {L : MLoc} {st : List Value} {X : Mem} {k1 a : Nat} {w : Int64} (hd : decode M.2.1 pc = .ok (.putfield k1, 3)) (hf : FP M.2.2.2.2 k1 8 16 .long) (hk : kd a = 8) (k : JM d M Q (pc + 3) L st (pW X w)) : JM d M Q pc L (.long w :: .ref a :: st) X := by
  refine J_putfield hd hf (kd_8 (by omega)) (by rw [cellsM_get (kd_lt (by omega)), cellM_o hk (by omega)]) rfl rfl ?_
  have only : ∀ q, q < 263 → kd q = 8 → q = 244 := by decide +kernel
  have ha := only a (kd_lt (by omega)) hk
  rw [cellsM_set (Y := pW X w) ?_ ?_]
  · exact k
  · rw [cellM_o hk (by omega), fv_set (Y := pW X w) (by decide)]
    · rfl
    · intro j hjl hj
      unfold fv
      split
      · rfl
      · rfl
      · rfl
      · rename_i e0 e1 e2
        exfalso
        have g : ∀ q, q < 37 → ft 8 q ≠ 0 → ft 8 q ≠ 1 → ft 8 q ≠ 2 → q = 16 := by decide
        exact hj (g j hjl e0 e1 e2)
  · intro q hq
    by_cases hk9 : kd q < 9
    · rw [cellM_o rfl hk9, cellM_o rfl hk9]
      congr 2
      apply List.map_congr_left
      intro j hj
      unfold fv
      split
      · rfl
      · rfl
      · rfl
      · rename_i e0 e1 e2
        exfalso
        have g : ∀ c, c < 9 → ∀ j, j < nf c → ft c j ≠ 0 → ft c j ≠ 1 → ft c j ≠ 2 → c = 8 := by decide
        have h3 := g (kd q) hk9 j (List.mem_range.mp hj) e0 e1 e2
        exact hq ((only q (kd_lt (by omega)) h3).trans ha.symm)
    · unfold cellM
      rw [if_neg hk9, if_neg hk9]
      rfl
theorem M_iald {d : Nat} {M : MInfo} {Q : Option Value → Mem → Prop} {pc : Nat} {L : MLoc} {st : List Value} {X : Mem} {a j : Nat} {i x : Int32} (hd : decode M.2.1 pc = .ok (.iaload, 1)) (hk : kd a = 20) (hi : ¬ i < 0) (hj : i.toNatClampNeg = j) (hl : j < (X.2.1 a).length) (hx : (X.2.1 a).getD j 0 = x) (k : JM d M Q (pc + 1) L (.int x :: st) X) : JM d M Q pc L (.int i :: .ref a :: st) X := by
  subst hx
  refine J_iaload hd (by rw [cellsM_get (kd_lt (by omega)), cellM_i hk (by omega)]) hi hj ?_ k
  rw [List.getD_eq_getElem?_getD, List.getElem?_eq_getElem hl]
  rfl
theorem M_zald {d : Nat} {M : MInfo} {Q : Option Value → Mem → Prop} {pc : Nat} {L : MLoc} {st : List Value} {X : Mem} {a j : Nat} {i x : Int32} (hd : decode M.2.1 pc = .ok (.baload, 1)) (hk : kd a = 22) (hi : ¬ i < 0) (hj : i.toNatClampNeg = j) (hl : j < (X.2.1 a).length) (hx : (X.2.1 a).getD j 0 = x) (k : JM d M Q (pc + 1) L (.int x :: st) X) : JM d M Q pc L (.int i :: .ref a :: st) X := by
  subst hx
  refine J_zaload hd (by rw [cellsM_get (kd_lt (by omega)), cellM_i hk (by omega)]) hi hj ?_ k
  rw [List.getD_eq_getElem?_getD, List.getElem?_eq_getElem hl]
  rfl
theorem M_bald {d : Nat} {M : MInfo} {Q : Option Value → Mem → Prop} {pc : Nat} {L : MLoc} {st : List Value} {X : Mem} {a j : Nat} {i x : Int32} (hd : decode M.2.1 pc = .ok (.baload, 1)) (hk : kd a = 23) (hi : ¬ i < 0) (hj : i.toNatClampNeg = j) (hl : j < (X.2.1 a).length) (hx : (X.2.1 a).getD j 0 = x) (k : JM d M Q (pc + 1) L (.int x :: st) X) : JM d M Q pc L (.int i :: .ref a :: st) X := by
  subst hx
  refine J_baload hd (by rw [cellsM_get (kd_lt (by omega)), cellM_i hk (by omega)]) hi hj ?_ k
  rw [List.getD_eq_getElem?_getD, List.getElem?_eq_getElem hl]
  rfl
theorem M_lald {d : Nat} {M : MInfo} {Q : Option Value → Mem → Prop} {pc : Nat} {L : MLoc} {st : List Value} {X : Mem} {a j : Nat} {i : Int32} {x : Int64} (hd : decode M.2.1 pc = .ok (.laload, 1)) (hk : kd a = 21) (hi : ¬ i < 0) (hj : i.toNatClampNeg = j) (hl : j < (X.2.2.1 a).length) (hx : (X.2.2.1 a).getD j 0 = x) (k : JM d M Q (pc + 1) L (.long x :: st) X) : JM d M Q pc L (.int i :: .ref a :: st) X := by
  subst hx
  refine J_laload hd (by rw [cellsM_get (kd_lt (by omega)), cellM_l hk]) hi hj ?_ k
  rw [List.getD_eq_getElem?_getD, List.getElem?_eq_getElem hl]
  rfl
theorem cellM_pA {X : Mem} {a b : Nat} {xs : List Int32} (h : b ≠ a) : cellM (pA X a xs) b = cellM X b := by
  have e : (pA X a xs).2.1 b = X.2.1 b := if_neg h
  unfold cellM
  rw [e]
  rfl
theorem cellM_pL {X : Mem} {a b : Nat} {xs : List Int64} (h : b ≠ a) : cellM (pL X a xs) b = cellM X b := by
  have e : (pL X a xs).2.2.1 b = X.2.2.1 b := if_neg h
  unfold cellM
  rw [e]
  rfl
theorem pA_at {X : Mem} {a : Nat} {xs : List Int32} : (pA X a xs).2.1 a = xs := if_pos rfl
theorem pL_at {X : Mem} {a : Nat} {xs : List Int64} : (pL X a xs).2.2.1 a = xs := if_pos rfl
theorem M_iast {d : Nat} {M : MInfo} {Q : Option Value → Mem → Prop} {pc : Nat} {L : MLoc} {st : List Value} {X : Mem} {a j : Nat} {i x : Int32} (hd : decode M.2.1 pc = .ok (.iastore, 1)) (hk : kd a = 20) (ha : 8 ≤ a) (hi : ¬ i < 0) (hj : i.toNatClampNeg = j) (hl : j < (X.2.1 a).length) (k : JM d M Q (pc + 1) L st (pA X a ((X.2.1 a).set j x))) : JM d M Q pc L (.int x :: .int i :: .ref a :: st) X := by
  refine J_iastore hd ha (by rw [cellsM_get (kd_lt (by omega)), cellM_i hk (by omega)]) hi hj hl ?_
  rw [cellsM_set (Y := pA X a ((X.2.1 a).set j x)) ?_ (fun b hb => cellM_pA hb)]
  · exact k
  · rw [cellM_i hk (by omega), pA_at]
theorem M_zast {d : Nat} {M : MInfo} {Q : Option Value → Mem → Prop} {pc : Nat} {L : MLoc} {st : List Value} {X : Mem} {a j : Nat} {i x : Int32} (hd : decode M.2.1 pc = .ok (.bastore, 1)) (hk : kd a = 22) (ha : 8 ≤ a) (hi : ¬ i < 0) (hj : i.toNatClampNeg = j) (hl : j < (X.2.1 a).length) (hx : x &&& 1 = x) (k : JM d M Q (pc + 1) L st (pA X a ((X.2.1 a).set j x))) : JM d M Q pc L (.int x :: .int i :: .ref a :: st) X := by
  refine J_zastore hd ha (by rw [cellsM_get (kd_lt (by omega)), cellM_i hk (by omega)]) hi hj hl ?_
  rw [cellsM_set (Y := pA X a ((X.2.1 a).set j x)) ?_ (fun b hb => cellM_pA hb)]
  · exact k
  · rw [cellM_i hk (by omega), pA_at, hx]
theorem M_last {d : Nat} {M : MInfo} {Q : Option Value → Mem → Prop} {pc : Nat} {L : MLoc} {st : List Value} {X : Mem} {a j : Nat} {i : Int32} {x : Int64} (hd : decode M.2.1 pc = .ok (.lastore, 1)) (hk : kd a = 21) (ha : 8 ≤ a) (hi : ¬ i < 0) (hj : i.toNatClampNeg = j) (hl : j < (X.2.2.1 a).length) (k : JM d M Q (pc + 1) L st (pL X a ((X.2.2.1 a).set j x))) : JM d M Q pc L (.long x :: .int i :: .ref a :: st) X := by
  refine J_lastore hd ha (by rw [cellsM_get (kd_lt (by omega)), cellM_l hk]) hi hj hl ?_
  rw [cellsM_set (Y := pL X a ((X.2.2.1 a).set j x)) ?_ (fun b hb => cellM_pL hb)]
  · exact k
  · rw [cellM_l hk, pL_at]
theorem M_aald {d : Nat} {M : MInfo} {Q : Option Value → Mem → Prop} {pc : Nat} {L : MLoc} {st : List Value} {X : Mem} {a j b t : Nat} {i : Int32} (hd : decode M.2.1 pc = .ok (.aaload, 1)) (hk : kd a = t) (ht : 30 ≤ t ∧ t < 99) (hi : ¬ i < 0) (hj : i.toNatClampNeg = j) (hl : j < rl a) (hx : rf a j = b) (k : JM d M Q (pc + 1) L (.ref b :: st) X) : JM d M Q pc L (.int i :: .ref a :: st) X := by
  subst hx
  refine J_aaload hd ht.1 (by rw [cellsM_get (kd_lt (by omega)), cellM_r hk ht.1]) hi hj (v := .ref (rf a j)) ?_ k
  unfold rl at hl
  unfold rf
  rw [List.getElem?_map, List.getElem?_eq_getElem hl]
  conv => rhs; rw [List.getD_eq_getElem?_getD, List.getElem?_eq_getElem hl]
  rfl
theorem M_ilen {d : Nat} {M : MInfo} {Q : Option Value → Mem → Prop} {pc : Nat} {L : MLoc} {st : List Value} {X : Mem} {a n : Nat} (hd : decode M.2.1 pc = .ok (.arraylength, 1)) (hk : kd a = 20 ∨ kd a = 23) (hn : (X.2.1 a).length = n) (k : JM d M Q (pc + 1) L (.int (nI n) :: st) X) : JM d M Q pc L (.ref a :: st) X := by
  subst hn
  exact J_ilen hd (t := kd a) (by rw [cellsM_get (kd_lt (by omega)), cellM_i rfl (by omega)]) k
theorem M_acopy {d : Nat} {M : MInfo} {Q : Option Value → Mem → Prop} {pc : Nat} {L : MLoc} {st : List Value} {X : Mem} {k1 a b sp dp n : Nat} {vs vd vn : Int32} (hd : decode M.2.1 pc = .ok (.invokestatic k1, 3)) (hw1 : Cond.methodLink M.2.2.2.2 k1 arraycopyName ∈ ALLW) (hka : kd a = 20) (hkb : kd b = 20) (hb : 8 ≤ b) (hs0 : ¬ vs < 0) (hd0 : ¬ vd < 0) (hn0 : ¬ vn < 0) (es : vs.toNatClampNeg = sp) (ed : vd.toNatClampNeg = dp) (en : vn.toNatClampNeg = n) (hls : sp + n ≤ (X.2.1 a).length) (hld : dp + n ≤ (X.2.1 b).length) (hdd : 1 ≤ d) (hcat : (st.map fun v => v.category).sum ≤ 8)
    (k : JM d M Q (pc + 3) L st (pA X b (cpyL (X.2.1 a) (X.2.1 b) sp dp n))) : JM d M Q pc L (.int vn :: .int vd :: .ref b :: .int vs :: .ref a :: st) X := by
  refine J_acopy hd hw1 w_arraycopy_nat w_arraycopy_st w_sysInit hb (by rw [cellsM_get (kd_lt (by omega)), cellM_i hka (by omega)]) (by rw [cellsM_get (kd_lt (by omega)), cellM_i hkb (by omega)]) hs0 hd0 hn0 es ed en hls hld hdd hcat ?_
  rw [cellsM_set (Y := pA X b (cpyL (X.2.1 a) (X.2.1 b) sp dp n)) ?_ (fun q hq => cellM_pA hq)]
  · exact k
  · rw [cellM_i hkb (by omega), pA_at]
theorem M_ir {d : Nat} {M : MInfo} {Q : Option Value → Mem → Prop} {pc : Nat} {L : MLoc} {X : Mem} {v : Int32} {ty : FieldType} (hd : decode M.2.1 pc = .ok (.ireturn, 1)) (ht : M.2.2.2.1 = some ty) (hn : narrow ty (.int v) = .int v) (q : Q (some (.int v)) X) : JM d M Q pc L [.int v] X := J_ireturn hd ht hn rfl rfl ⟨X, rfl, q⟩
theorem M_lr {d : Nat} {M : MInfo} {Q : Option Value → Mem → Prop} {pc : Nat} {L : MLoc} {X : Mem} {v : Int64} (hd : decode M.2.1 pc = .ok (.lreturn, 1)) (ht : M.2.2.2.1 = some .long) (q : Q (some (.long v)) X) : JM d M Q pc L [.long v] X := J_lreturn hd ht rfl rfl ⟨X, rfl, q⟩
theorem M_ar {d : Nat} {M : MInfo} {Q : Option Value → Mem → Prop} {pc : Nat} {L : MLoc} {X : Mem} {v : Nat} {rt : FieldType} (hd : decode M.2.1 pc = .ok (.areturn, 1)) (ht : M.2.2.2.1 = some rt) (hr : (∃ n, rt = .object n) ∨ ∃ t, rt = .array t) (q : Q (some (.ref v)) X) : JM d M Q pc L [.ref v] X := J_areturn hd ht hr rfl rfl ⟨X, rfl, q⟩
theorem M_arN {d : Nat} {M : MInfo} {Q : Option Value → Mem → Prop} {pc : Nat} {L : MLoc} {X : Mem} {rt : FieldType} (hd : decode M.2.1 pc = .ok (.areturn, 1)) (ht : M.2.2.2.1 = some rt) (hr : (∃ n, rt = .object n) ∨ ∃ t, rt = .array t) (q : Q (some .null) X) : JM d M Q pc L [.null] X := J_areturnN hd ht hr rfl rfl ⟨X, rfl, q⟩
theorem M_vr {d : Nat} {M : MInfo} {Q : Option Value → Mem → Prop} {pc : Nat} {L : MLoc} {X : Mem} (hd : decode M.2.1 pc = .ok (.return_, 1)) (ht : M.2.2.2.1 = none) (q : Q none X) : JM d M Q pc L [] X := J_return hd ht rfl rfl ⟨X, rfl, q⟩
theorem CM_of {d : Nat} {M : MInfo} {av : List Value} {X : Mem} {Q : Option Value → Mem → Prop} {L : MLoc} (nn : Nat) (hok : MOK M) (hn : ∀ G : GC, (lg_sl (av.map (up G))).length ≤ M.2.2.1) (hL : ent av ++ List.replicate nn none = L) (k : JM d M Q 0 L [] X) : CM d M av X Q := Call_of nn hok hn (Nat.le_refl _) (Nat.le_refl _) hL k
theorem CM.imp {d : Nat} {M : MInfo} {av : List Value} {X : Mem} {Q Q2 : Option Value → Mem → Prop} (h : CM d M av X Q) (hq : ∀ r Y, Q r Y → Q2 r Y) : CM d M av X Q2 := Call.imp (d1 := 0) h (fun r h1 ⟨Y, e, q⟩ => ⟨Y, e, hq r Y q⟩)
theorem M_callS {d : Nat} {M : MInfo} {Q : Option Value → Mem → Prop} {pc : Nat} {L : MLoc} {st : List Value} {X : Mem} {d1 k1 n : Nat} {M1 : MInfo} {av rest : List Value} {Q1 : Option Value → Mem → Prop} (hd : decode M.2.1 pc = .ok (.invokestatic k1, 3)) (hsite : ST M.2.2.2.2 k1 n M1) (hc : CM d1 M1 av X Q1) (hdd : d1 + 1 ≤ d) (hst : st = av.reverse ++ rest) (hn : av.length = n) (hcat : (rest.map fun v => v.category).sum ≤ 8) (k : ∀ r Y, Q1 r Y → JM d M Q (pc + 3) L (r.toList ++ rest) Y) : JM d M Q pc L st X :=
  J_callS hd hsite hc hdd hst hn hcat (Nat.le_refl _) (Nat.le_refl _) (fun r h1 ⟨Y, e, q⟩ => by subst e; exact k r Y q)
theorem M_callSN {d : Nat} {M : MInfo} {Q : Option Value → Mem → Prop} {pc : Nat} {L : MLoc} {st : List Value} {X : Mem} {d1 k1 n : Nat} {M1 : MInfo} {av rest : List Value} {Q1 : Option Value → Mem → Prop} (hd : decode M.2.1 pc = .ok (.invokestatic k1, 3)) (hsite : STN M.2.2.2.2 k1 n M1) (hc : CM d1 M1 av X Q1) (hdd : d1 + 1 ≤ d) (hst : st = av.reverse ++ rest) (hn : av.length = n) (hcat : (rest.map fun v => v.category).sum ≤ 8) (k : ∀ r Y, Q1 r Y → JM d M Q (pc + 3) L (r.toList ++ rest) Y) : JM d M Q pc L st X :=
  J_callSN hd hsite hc hdd hst hn hcat (Nat.le_refl _) (Nat.le_refl _) (fun r h1 ⟨Y, e, q⟩ => by subst e; exact k r Y q)
theorem M_callV {d : Nat} {M : MInfo} {Q : Option Value → Mem → Prop} {pc : Nat} {L : MLoc} {st : List Value} {X : Mem} {d1 k1 n b : Nat} {M1 : MInfo} {av rest : List Value} {Q1 : Option Value → Mem → Prop} (hd : decode M.2.1 pc = .ok (.invokevirtual k1, 3)) (hsite : SV M.2.2.2.2 k1 n M1) (hrc : Rcv M1.1.cls b (hm X)) (hc : CM d1 M1 (.ref b :: av) X Q1) (hdd : d1 + 1 ≤ d) (hst : st = av.reverse ++ .ref b :: rest) (hn : av.length = n) (hcat : (rest.map fun v => v.category).sum ≤ 8) (k : ∀ r Y, Q1 r Y → JM d M Q (pc + 3) L (r.toList ++ rest) Y) : JM d M Q pc L st X :=
  J_callV hd hsite hrc hc hdd hst hn hcat (Nat.le_refl _) (Nat.le_refl _) (fun r h1 ⟨Y, e, q⟩ => by subst e; exact k r Y q)
