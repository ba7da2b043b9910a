def POL : List Nat := [3, 6, 24, 48, 192, 384, 9, 18, 36, 72, 144, 288, 17, 34, 136, 272, 10, 20, 80, 160]
def MVL : List Nat := [0, 1, 2, 3, 4, 5, 6, 7, 8, 9, 10, 11, 12, 13, 14, 15, 16, 17, 18, 19, 8, 11, 7, 10, 6, 9, 1, 3, 5, 0, 2, 4, 17, 19, 16, 18, 13, 15, 12, 14, 5, 4, 3, 2, 1, 0, 11, 10, 9, 8, 7, 6, 15, 14, 13, 12, 19, 18, 17, 16, 9, 6, 10, 7, 11, 8, 4, 2, 0, 5, 3, 1, 18, 16, 19, 17, 14, 12, 15, 13, 1, 0, 3, 2, 5, 4, 8, 7, 6, 11, 10, 9, 17, 16, 19, 18, 13, 12, 15, 14, 11, 8, 10, 7, 9, 6, 5, 3, 1, 4, 2, 0, 15, 13, 14, 12, 19, 17, 18, 16, 4, 5, 2, 3, 0, 1, 9, 10, 11, 6, 7, 8, 18, 19, 16, 17, 14, 15, 12, 13, 6, 9, 7, 10, 8, 11, 0, 2, 4, 1, 3, 5, 12, 14, 13, 15, 16, 18, 17, 19]
def WBL : List Nat := [119, 101, 97, 114, 115, 32, 102, 101, 101, 32, 100, 114, 97, 119, 32, 97, 100, 100, 32, 114, 117, 98, 32, 114, 101, 110, 101, 119, 32, 121, 101, 97, 114, 32, 116, 111, 32, 111, 102, 32, 115, 116, 114, 111, 107, 101, 32, 98, 97, 114, 32, 112, 111, 115, 116, 32, 102, 114, 97, 109, 101, 32, 116, 117, 114, 110, 32, 116, 105, 112, 32, 119, 105, 116, 104, 32, 108, 101, 115, 115, 32, 115, 105, 122, 101, 32, 104, 97, 115, 32, 105, 102, 32, 116, 104, 101, 110, 32, 101, 108, 115, 101, 32, 101, 110, 100, 32, 111, 114, 32, 97, 110, 100, 32, 110, 111, 116, 32, 110, 117, 109, 98, 101, 114, 32, 115, 116, 114, 111, 107, 101, 115, 32, 101, 110, 100, 115, 32, 102, 117, 110, 100, 32, 119, 104, 105, 99, 104, 32, 112, 105, 101, 99, 101, 115, 32]
def SBL : List Nat := [60, 62, 61, 35, 43, 45, 42, 47, 40, 41, 59]
def ONEL : List Nat := [0, 1, 3, 4, 6, 7, 0, 1, 2, 3, 4, 5, 0, 1, 3, 4, 1, 2, 4, 5]
def OTHL : List Nat := [1, 2, 4, 5, 7, 8, 3, 4, 5, 6, 7, 8, 4, 5, 7, 8, 3, 4, 6, 7]
def BECL : List Nat := MVL
def SOFL : List Nat := [20, 0, 20, 6, 12, 20, 20, 20, 20, 0, 20, 1, 16, 7, 13, 20, 20, 20, 20, 1, 20, 20, 17, 8, 20, 20, 20, 6, 16, 20, 20, 2, 20, 9, 14, 20, 12, 7, 17, 2, 20, 3, 18, 10, 15, 20, 13, 8, 20, 3, 20, 20, 19, 11, 20, 20, 20, 9, 18, 20, 20, 4, 20, 20, 20, 20, 14, 10, 19, 4, 20, 5, 20, 20, 20, 20, 15, 11, 20, 5, 20]
def oI (n : Nat) : Int32 := if n = 20 then (-1) else nI n
def szL : List Nat := [0, 20, 160, 0, 156, 0, 11, 0, 0, 300, 0, 0, 0, 301, 301, 301, 0, 300, 0, 0, 8, 25, 0, 0, 0, 8, 25, 0, 8, 25, 0, 8, 25, 0, 8, 25, 0, 8, 25, 0, 8, 25, 0, 8, 25, 0, 8, 25, 0, 8, 25, 0, 8, 25, 0, 8, 25, 0, 8, 25, 0, 8, 25, 0, 8, 25, 0, 8, 25, 0, 8, 25, 0, 8, 25, 0, 8, 25, 0, 8, 25, 0, 8, 25, 0, 8, 25, 0, 8, 25, 0, 8, 25, 0, 8, 25, 0, 8, 25, 0, 8, 25, 0, 8, 25, 0, 8, 25, 0, 8, 25, 0, 8, 25, 8, 8, 8, 8, 0, 0, 8, 25, 0, 0, 0, 8, 25, 0, 8, 25, 0, 8, 25, 0, 8, 25, 0, 8, 25, 0, 8, 25, 0, 8, 25, 0, 8, 25, 0, 8, 25, 0, 8, 25, 0, 8, 25, 0, 8, 25, 0, 8, 25, 0, 8, 25, 0, 8, 25, 0, 8, 25, 0, 8, 25, 0, 8, 25, 0, 8, 25, 0, 8, 25, 0, 8, 25, 0, 8, 25, 0, 8, 25, 0, 8, 25, 0, 8, 25, 0, 8, 25, 0, 8, 25, 0, 8, 25, 0, 8, 25, 0, 8, 25, 8, 8, 8, 8, 0, 8, 25, 64, 21, 0, 0, 300, 24, 24, 24, 0, 300, 24, 24, 24, 0, 300, 24, 24, 24, 0, 300, 24, 24, 24, 0, 1217, 1217, 20, 20, 160, 81, 2724, 21, 300, 160, 160, 7, 0, 330, 18, 0, 1024, 20]
def sz (a : Nat) : Nat := szL.getD a 0
def szlL : List Nat := [0, 0, 0, 0, 0, 0, 0, 0, 0, 0, 0, 0, 0, 0, 0, 0, 0, 0, 0, 0, 0, 0, 0, 0, 0, 0, 0, 0, 0, 0, 0, 0, 0, 0, 0, 0, 0, 0, 0, 0, 0, 0, 0, 0, 0, 0, 0, 0, 0, 0, 0, 0, 0, 0, 0, 0, 0, 0, 0, 0, 0, 0, 0, 0, 0, 0, 0, 0, 0, 0, 0, 0, 0, 0, 0, 0, 0, 0, 0, 0, 0, 0, 0, 0, 0, 0, 0, 0, 0, 0, 0, 0, 0, 0, 0, 0, 0, 0, 0, 0, 0, 0, 0, 0, 0, 0, 0, 0, 0, 0, 0, 0, 0, 0, 0, 0, 0, 0, 0, 0, 0, 0, 0, 0, 0, 0, 0, 0, 0, 0, 0, 0, 0, 0, 0, 0, 0, 0, 0, 0, 0, 0, 0, 0, 0, 0, 0, 0, 0, 0, 0, 0, 0, 0, 0, 0, 0, 0, 0, 0, 0, 0, 0, 0, 0, 0, 0, 0, 0, 0, 0, 0, 0, 0, 0, 0, 0, 0, 0, 0, 0, 0, 0, 0, 0, 0, 0, 0, 0, 0, 0, 0, 0, 0, 0, 0, 0, 0, 0, 0, 0, 0, 0, 0, 0, 0, 0, 0, 0, 0, 0, 0, 0, 0, 0, 0, 0, 0, 0, 0, 0, 0, 0, 21, 0, 0, 0, 0, 0, 0, 0, 0, 0, 0, 0, 0, 0, 0, 0, 0, 0, 0, 0, 0, 0, 0, 0, 0, 0, 0, 0, 0, 0, 0, 0, 0, 0, 330, 0, 0, 21, 0, 0]
def szl (a : Nat) : Nat := szlL.getD a 0
def Ok (X : Mem) : Prop := (∀ a, a ≠ 0 → (X.2.1 a).length = sz a) ∧ (∀ a, (X.2.2.1 a).length = szl a) ∧ X.2.1 1 = POL.map nI ∧ X.2.1 2 = MVL.map nI ∧ X.2.1 4 = WBL.map nI ∧ X.2.1 6 = SBL.map nI ∧ X.2.1 247 = ONEL.map nI ∧ X.2.1 248 = OTHL.map nI ∧ X.2.1 249 = BECL.map nI ∧ X.2.1 250 = SOFL.map oI
theorem ltL {X : Mem} (h : Ok X) {a n j : Nat} (ha : a ≠ 0) (e : sz a = n) (hj : j < n) : j < (X.2.1 a).length := by rw [h.1 a ha, e]; exact hj
theorem ltLL {X : Mem} (h : Ok X) {a n j : Nat} (e : szl a = n) (hj : j < n) : j < (X.2.2.1 a).length := by rw [h.2.1 a, e]; exact hj
theorem leL {X : Mem} (h : Ok X) {a n j : Nat} (ha : a ≠ 0) (e : sz a = n) (hj : j ≤ n) : j ≤ (X.2.1 a).length := by rw [h.1 a ha, e]; exact hj
def cst (a : Nat) : Bool := [0, 1, 2, 4, 6, 247, 248, 249, 250].contains a
theorem okA {X : Mem} (h : Ok X) {a : Nat} {xs : List Int32} (hc : cst a = false) (hl : xs.length = (X.2.1 a).length) : Ok (pA X a xs) := by
  have g : ∀ b, cst b = true → (pA X a xs).2.1 b = X.2.1 b := fun b hb => if_neg (fun e => by rw [e, hc] at hb; cases hb)
  obtain ⟨h1, h2, h3⟩ := h
  refine ⟨fun b hb => ?_, h2, ?_⟩
  · show (if b = a then xs else X.2.1 b).length = sz b
    split
    · rename_i e
      rw [hl, e]
      exact h1 a (e ▸ hb)
    · exact h1 b hb
  · rw [g 1 rfl, g 2 rfl, g 4 rfl, g 6 rfl, g 247 rfl, g 248 rfl, g 249 rfl, g 250 rfl]
    exact h3
theorem okS {X : Mem} (h : Ok X) {a j : Nat} {x : Int32} (hc : cst a = false) : Ok (pA X a ((X.2.1 a).set j x)) := okA h hc (by rw [List.length_set])
theorem okSL {X : Mem} (h : Ok X) {a j : Nat} {x : Int64} : Ok (pL X a ((X.2.2.1 a).set j x)) := by
  refine ⟨h.1, fun b => ?_, h.2.2⟩
  show (if b = a then (X.2.2.1 a).set j x else X.2.2.1 b).length = szl b
  split
  · rename_i e
    rw [List.length_set, e]
    exact h.2.1 a
  · exact h.2.1 b
theorem gD_map {α β : Type} {f : α → β} {l : List α} {j : Nat} {d : α} {e : β} (he : f d = e) : (l.map f).getD j e = f (l.getD j d) := by
  rw [List.getD_eq_getElem?_getD, List.getD_eq_getElem?_getD, List.getElem?_map]
  cases l[j]? with
  | none => exact he.symm
  | some x => rfl
theorem k_po {X : Mem} (h : Ok X) {j : Nat} : (X.2.1 1).getD j 0 = nI (POL.getD j 0) := by rw [h.2.2.1]; exact gD_map rfl
theorem k_mv {X : Mem} (h : Ok X) {j : Nat} : (X.2.1 2).getD j 0 = nI (MVL.getD j 0) := by rw [h.2.2.2.1]; exact gD_map rfl
theorem k_wb {X : Mem} (h : Ok X) {j : Nat} : (X.2.1 4).getD j 0 = nI (WBL.getD j 0) := by rw [h.2.2.2.2.1]; exact gD_map rfl
theorem k_sb {X : Mem} (h : Ok X) {j : Nat} : (X.2.1 6).getD j 0 = nI (SBL.getD j 0) := by rw [h.2.2.2.2.2.1]; exact gD_map rfl
theorem k_one {X : Mem} (h : Ok X) {j : Nat} : (X.2.1 247).getD j 0 = nI (ONEL.getD j 0) := by rw [h.2.2.2.2.2.2.1]; exact gD_map rfl
theorem k_oth {X : Mem} (h : Ok X) {j : Nat} : (X.2.1 248).getD j 0 = nI (OTHL.getD j 0) := by rw [h.2.2.2.2.2.2.2.1]; exact gD_map rfl
theorem k_bec {X : Mem} (h : Ok X) {j : Nat} : (X.2.1 249).getD j 0 = nI (BECL.getD j 0) := by rw [h.2.2.2.2.2.2.2.2.1]; exact gD_map rfl
theorem k_sof {X : Mem} (h : Ok X) {j : Nat} : (X.2.1 250).getD j 0 = oI (SOFL.getD j 0) := by rw [h.2.2.2.2.2.2.2.2.2]; exact gD_map rfl
/-- folds over 0 .. n - 1 -/
def itr {α : Type} (f : Nat → α → α) (a : α) : Nat → α
  | 0 => a
  | n + 1 => f n (itr f a n)
theorem itr_s {α : Type} {f : Nat → α → α} {a : α} {n : Nat} {v : α} (h : f n (itr f a n) = v) : itr f a (n + 1) = v := h
theorem itr_g {α : Type} {f : Nat → α → α} {a x v : α} {n : Nat} (hx : itr f a n = x) (h : f n x = v) : itr f a (n + 1) = v := by
  show f n (itr f a n) = v
  rw [hx]
  exact h
theorem itr_inv {α : Type} {f : Nat → α → α} {a : α} (P : Nat → α → Prop) (h0 : P 0 a) (hs : ∀ n x, P n x → P (n + 1) (f n x)) : ∀ n, P n (itr f a n)
  | 0 => h0
  | n + 1 => hs n _ (itr_inv P h0 hs n)
theorem itr_invN {α : Type} {f : Nat → α → α} {a : α} (P : Nat → α → Prop) (N : Nat) (h0 : P 0 a) (hs : ∀ n x, n < N → P n x → P (n + 1) (f n x)) : ∀ n, n ≤ N → P n (itr f a n)
  | 0, _ => h0
  | n + 1, h => hs n _ h (itr_invN P N h0 hs n (Nat.le_of_succ_le h))
theorem itr_cong {α : Type} {f g : Nat → α → α} {a : α} : ∀ {n : Nat}, (∀ k x, k < n → f k x = g k x) → itr f a n = itr g a n
  | 0, _ => rfl
  | n + 1, h => by
    show f n (itr f a n) = g n (itr g a n)
    rw [itr_cong (fun k x hk => h k x (Nat.lt_succ_of_lt hk)), h n _ (Nat.lt_succ_self n)]
theorem nI_max {a b : Nat} (ha : a < 2147483648) (hb : b < 2147483648) : (if nI a < nI b then nI b else nI a) = nI (max a b) := by
  by_cases h : a < b
  · rw [if_pos ((nI_ltI ha hb).mpr h), Nat.max_eq_right (by omega)]
  · rw [if_neg (fun q => h ((nI_ltI ha hb).mp q)), Nat.max_eq_left (by omega)]
theorem nI_min {a b : Nat} (ha : a < 2147483648) (hb : b < 2147483648) : (if nI b < nI a then nI b else nI a) = nI (min a b) := by
  by_cases h : b < a
  · rw [if_pos ((nI_ltI hb ha).mpr h), Nat.min_eq_right (by omega)]
  · rw [if_neg (fun q => h ((nI_ltI hb ha).mp q)), Nat.min_eq_left (by omega)]
theorem tb_and1 (s k : Nat) : (s >>> k &&& 1 = 1) ↔ s.testBit k = true := by
  rw [Nat.testBit]
  simp [Nat.and_comm]
theorem tb_and0 (s k : Nat) : ¬ (s >>> k &&& 1 = 1) ↔ s.testBit k = false := by rw [tb_and1, Bool.not_eq_true]
theorem T_ne {d : Nat} {M : MInfo} {fc fs : Nat} {Q : Option Value → MH → Prop} {pc : Nat} {L : MLoc} {st : List Value} {h : MH} {s k : Nat} {off : Int} {tgt : Nat} (hd : decode M.2.1 pc = .ok (.if_icmp .ne off, 3)) (ht : (pc : Int) + off = (tgt : Int)) (k1 : s.testBit k = false → J d M fc fs Q tgt L st h) (k2 : s.testBit k = true → J d M fc fs Q (pc + 3) L st h) : J d M fc fs Q pc L (.int (nI 1) :: .int (nI (s >>> k &&& 1)) :: st) h := N_icmp_ne hd ht (Nat.lt_of_le_of_lt Nat.and_le_right (by decide)) (by decide) (fun q => k1 ((tb_and0 s k).mp q)) (fun q => k2 ((tb_and1 s k).mp q))
theorem T_eq {d : Nat} {M : MInfo} {fc fs : Nat} {Q : Option Value → MH → Prop} {pc : Nat} {L : MLoc} {st : List Value} {h : MH} {s k : Nat} {off : Int} {tgt : Nat} (hd : decode M.2.1 pc = .ok (.if_icmp .eq off, 3)) (ht : (pc : Int) + off = (tgt : Int)) (k1 : s.testBit k = true → J d M fc fs Q tgt L st h) (k2 : s.testBit k = false → J d M fc fs Q (pc + 3) L st h) : J d M fc fs Q pc L (.int (nI 1) :: .int (nI (s >>> k &&& 1)) :: st) h := N_icmp_eq hd ht (Nat.lt_of_le_of_lt Nat.and_le_right (by decide)) (by decide) (fun q => k1 ((tb_and1 s k).mp q)) (fun q => k2 ((tb_and0 s k).mp q))
theorem po_eq : ∀ k, k < 20 → POL.getD k 0 = 1 <<< ONEL.getD k 0 ||| 1 <<< OTHL.getD k 0 := by decide
theorem and_lt {a b n : Nat} (h : a < n) : a &&& b < n := Nat.lt_of_le_of_lt Nat.and_le_left h
theorem and_lt' {a b n : Nat} (h : b < n) : a &&& b < n := Nat.lt_of_le_of_lt Nat.and_le_right h
theorem or_lt {a b : Nat} (n : Nat) (ha : a < 2 ^ n) (hb : b < 2 ^ n) : a ||| b < 2 ^ n := Nat.or_lt_two_pow ha hb
theorem xor_lt {a b : Nat} (n : Nat) (ha : a < 2 ^ n) (hb : b < 2 ^ n) : a ^^^ b < 2 ^ n := Nat.xor_lt_two_pow ha hb
theorem shl1 (k : Nat) : 1 <<< k = 2 ^ k := by rw [Nat.shiftLeft_eq, Nat.one_mul]
theorem gD_lt {l : List Nat} {j n : Nat} (h : l.all (fun x => decide (x < n)) = true) (h0 : 0 < n) : l.getD j 0 < n := by
  rw [List.getD_eq_getElem?_getD]
  cases hx : l[j]? with
  | none => exact h0
  | some x => exact of_decide_eq_true (List.all_eq_true.mp h x (List.mem_of_getElem? hx))
theorem mv_lt {j : Nat} : MVL.getD j 0 < 20 := gD_lt (by decide) (by decide)
theorem po_lt {j : Nat} : POL.getD j 0 < 512 := gD_lt (by decide) (by decide)
theorem one_lt {j : Nat} : ONEL.getD j 0 < 9 := gD_lt (by decide) (by decide)
theorem oth_lt {j : Nat} : OTHL.getD j 0 < 9 := gD_lt (by decide) (by decide)
theorem bec_lt {j : Nat} : BECL.getD j 0 < 20 := mv_lt
/-- how many bits a number has, of its lowest f -/
def pcn : Nat → Nat → Nat
  | 0, _ => 0
  | f + 1, n => n % 2 + pcn f (n / 2)
abbrev bc (n : Nat) : Nat := pcn 32 n
theorem pcn_0 : ∀ f, pcn f 0 = 0
  | 0 => rfl
  | f + 1 => by rw [pcn, pcn_0 f]
theorem pcn_le : ∀ f n, pcn f n ≤ f
  | 0, _ => Nat.le_refl 0
  | f + 1, n => by have := pcn_le f (n / 2); rw [pcn]; omega
theorem pred_and (n : Nat) (h : 0 < n) : n &&& (n - 1) < n := Nat.lt_of_le_of_lt Nat.and_le_right (by omega)
theorem pcn_pred : ∀ (f n : Nat), 0 < n → n < 2 ^ f → pcn f (n &&& (n - 1)) + 1 = pcn f n
  | 0, n, h, hn => by omega
  | f + 1, n, h, hn => by
    rw [pcn, pcn]
    have h2 : (n &&& (n - 1)) / 2 = n / 2 &&& (n - 1) / 2 := Nat.and_div_two
    have h3 : (n &&& (n - 1)) % 2 = 0 := by
      rcases Nat.mod_two_eq_zero_or_one n with e | e
      · have := Nat.and_mod_two_pow (a := n) (b := n - 1) (n := 1)
        rw [Nat.pow_one, e, Nat.zero_and] at this
        exact this
      · have := Nat.and_mod_two_pow (a := n) (b := n - 1) (n := 1)
        rw [Nat.pow_one, show (n - 1) % 2 = 0 by omega, Nat.and_zero] at this
        exact this
    rw [h2, h3]
    rcases Nat.mod_two_eq_zero_or_one n with e | e
    · have e2 : (n - 1) / 2 = n / 2 - 1 := by omega
      rw [e2, e]
      have := pcn_pred f (n / 2) (by omega) (by rw [Nat.pow_succ] at hn; omega)
      omega
    · have e2 : (n - 1) / 2 = n / 2 := by omega
      rw [e2, e, Nat.and_self]
      omega
