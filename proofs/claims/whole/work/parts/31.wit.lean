theorem pA_pA {X : Mem} {a : Nat} {l l' : List Int32} : pA (pA X a l) a l' = pA X a l' := by
  show (X.1, ((fun b => if b = a then l' else if b = a then l else X.2.1 b), X.2.2)) = _
  rw [show (fun b => if b = a then l' else if b = a then l else X.2.1 b) = (fun b => if b = a then l' else X.2.1 b) from funext fun b => by split <;> rfl]
  rfl
theorem set_eq {l : List Int32} {j : Nat} {v : Int32} (h : j < l.length) : (l.set j v).getD j 0 = v := by
  rw [List.getD_eq_getElem?_getD, List.getElem?_set_self h]
  rfl
theorem set_ne {l : List Int32} {j k : Nat} {v : Int32} (h : j ≠ k) : (l.set j v).getD k 0 = l.getD k 0 := by
  rw [List.getD_eq_getElem?_getD, List.getElem?_set_ne h, ← List.getD_eq_getElem?_getD]
theorem pcn_or2 : ∀ f k x : Nat, k < f → x.testBit k = false → pcn f (x ||| 1 <<< k) = pcn f x + 1
  | 0, _, _, h, _ => by omega
  | f + 1, 0, x, _, ht => by
    have e : (x ||| 1 <<< 0) / 2 = x / 2 := by rw [Nat.or_div_two, show (1 <<< 0) / 2 = 0 by decide, Nat.or_zero]
    have e2 : (x ||| 1 <<< 0) % 2 = 1 := by rw [mod2_tb, Nat.testBit_or, show (1 <<< 0 : Nat).testBit 0 = true by decide, Bool.or_true]; rfl
    have e3 : x % 2 = 0 := by rw [mod2_tb, ht]; rfl
    rw [pcn, pcn, e, e2, e3]
    omega
  | f + 1, k + 1, x, h, ht => by
    have ih := pcn_or2 f k (x / 2) (by omega) (by rw [Nat.testBit_div_two]; exact ht)
    have e : (x ||| 1 <<< (k + 1)) / 2 = x / 2 ||| 1 <<< k := by
      rw [Nat.or_div_two, shl1, shl1, Nat.pow_succ, Nat.mul_div_cancel _ (by decide)]
    have e2 : (x ||| 1 <<< (k + 1)) % 2 = x % 2 := by
      rw [mod2_tb, mod2_tb x, Nat.testBit_or, shl1, Nat.testBit_two_pow, show decide (k + 1 = 0) = false from decide_eq_false (by omega), Bool.or_false]
    rw [pcn, pcn, e, e2, ih]
    omega
/-- the reference's row after a witness -/
def witR (v : Int32) (w : Bool) (sn un : Nat) (l : List Int32) : List Int32 := if v = -1 then ((l.set 4 (nI 0)).set 26 (nI 0)).set 27 (nI 0) else if witB sn un v then ((if w then l.set 26 (nI (sn ||| 1 <<< tn v)) else l.set 27 (nI (un ||| 1 <<< tn v))).set 4 (nI (bc ((sn ||| un) ||| 1 <<< tn v)))) else l
theorem pA_eta {X : Mem} {a : Nat} : pA X a (X.2.1 a) = X := by
  show (X.1, ((fun b => if b = a then X.2.1 a else X.2.1 b), X.2.2)) = X
  have e : (fun b => if b = a then X.2.1 a else X.2.1 b) = X.2.1 := funext fun b => by
    split
    · rename_i e
      rw [e]
    · rfl
  rw [e]
