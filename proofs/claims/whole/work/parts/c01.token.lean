/-- the tape as the reference has it -/
def RV (X : Mem) (m : Nat) (B : Nat → Nat) : Prop := X.1 244 9 = nI m ∧ ∀ q, q < m → (X.2.1 253).getD q 0 = nI (B q)
theorem RV_F {X : Mem} {m k : Nat} {B : Nat → Nat} {v : Int32} (h : RV X m B) (hk : k ≠ 9) : RV (pF X 244 k v) m B := ⟨(pF_k (Ne.symm hk)).trans h.1, h.2⟩
theorem RV_W {X : Mem} {m : Nat} {B : Nat → Nat} {w : Int64} (h : RV X m B) : RV (pW X w) m B := h
theorem pF_cm {X : Mem} {a j k : Nat} {u v : Int32} (h : j ≠ k) : pF (pF X a j u) a k v = pF (pF X a k v) a j u := by
  refine Prod.ext (funext fun b => funext fun i => ?_) rfl
  show (pF (pF X a j u) a k v).1 b i = (pF (pF X a k v) a j u).1 b i
  by_cases hb : b = a
  · subst hb
    by_cases h1 : i = j
    · subst h1; rw [pF_k h, pF_at, pF_at]
    · by_cases h2 : i = k
      · subst h2; rw [pF_at, pF_k h1, pF_at]
      · rw [pF_k h2, pF_k h1, pF_k h1, pF_k h2]
  · rw [pF_o hb, pF_o hb, pF_o hb, pF_o hb]
def sgnB (c : Nat) : Bool := decide (c = 60) || (decide (c = 62) || (decide (c = 61) || (decide (c = 35) || (decide (c = 43) || (decide (c = 45) || (decide (c = 42) || (decide (c = 47) || (decide (c = 40) || (decide (c = 41) || (decide (c = 58) || decide (c = 59)))))))))))
/-- the token that begins at q: 0 none, 1 a number, 2 a word, 3 what is no sign, 4 and 5 signs of two, else the sign -/
def tR (B : Nat → Nat) (q : Nat) : Nat := if B q = 256 then 0 else if isDg (B q) then 1 else if isLt (B q) then 2 else if B q = 60 ∧ B (q + 1) = 61 then 4 else if B q = 62 ∧ B (q + 1) = 61 then 5 else if sgnB (B q) then B q else 3
def nRs (B : Nat → Nat) (q k : Nat) : Nat := itr (fun i v => if 99999 < v then v else 10 * v + B (q + i) - 48) 0 k
def nR (B : Nat → Nat) (q : Nat) : Nat := nRs B q (eD B q - q)
def wRs (B : Nat → Nat) (q k : Nat) : Int64 := itr (fun i w => if lg_cmp (w >>> ((nI 48).toInt64 &&& 63)) 0 = 0 then (w <<< ((nI 8).toInt64 &&& 63)) ||| (nI (B (q + i))).toInt64 else 1152921504606846976) 0 k
def wR (B : Nat → Nat) (q : Nat) : Int64 := wRs B q (eL B q - q)
theorem nRs_le {B : Nat → Nat} {q : Nat} : ∀ k, (∀ i, i < k → isDg (B (q + i)) = true) → nRs B q k ≤ 999999
  | 0, _ => Nat.zero_le _
  | k + 1, h => by
    have ih := nRs_le k (fun i hi => h i (by omega))
    have hd := h k (by omega)
    simp only [isDg, Bool.and_eq_true, decide_eq_true_eq] at hd
    show (if 99999 < nRs B q k then nRs B q k else 10 * nRs B q k + B (q + k) - 48) ≤ 999999
    split
    · exact ih
    · omega
/-- what a next token leaves as it was -/
def offNx (X Y : Mem) : Prop := (∀ b k, ¬ (b = 244 ∧ (k = 12 ∨ k = 13 ∨ k = 14 ∨ k = 15)) → Y.1 b k = X.1 b k) ∧ (Y.2.1 = X.2.1 ∧ (Y.2.2.1 = X.2.2.1 ∧ Y.2.2.2.1 = X.2.2.2.1))
theorem offNx_0 (X : Mem) : offNx X X := ⟨fun _ _ _ => rfl, rfl, rfl, rfl⟩
theorem offNx_F {X Y : Mem} {k : Nat} {v : Int32} (h : offNx X Y) (hk : k = 12 ∨ k = 13 ∨ k = 14 ∨ k = 15) : offNx X (pF Y 244 k v) := ⟨fun b j hj => (pF_x (fun z => hj ⟨z.1, by rw [z.2]; exact hk⟩)).trans (h.1 b j hj), h.2⟩
theorem offNx_W {X Y : Mem} {w : Int64} (h : offNx X Y) : offNx X (pW Y w) := h
/-- the token at q lies there -/
def RTq (Y : Mem) (B : Nat → Nat) (q : Nat) : Prop := Y.1 244 13 = nI q ∧ (Y.1 244 12 = nI (eN B q) ∧ (Y.1 244 14 = nI (tR B q) ∧ ((tR B q = 1 → Y.1 244 15 = nI (nR B q)) ∧ (tR B q = 2 → Y.2.2.2.2 = wR B q))))
theorem S_R_byteAt_n {X : Mem} {B : Nat → Nat} {m k : Nat} (hX : Ok X) (hB : okB B m) (hV : RV X m B) (hk : k < m) : CM 0 m_R_byteAt [.ref 244, .int (nI k)] X (rN (B k) X) := by
  have h300 := hB.1
  refine CM_of (L := [some (.ref 244), some (.int (nI k))]) 0 ok_R_byteAt (fun _ => Nat.le_of_ble_eq_true rfl) rfl ?_
  refine J_iload_n (i := 1) d_R_byteAt_0 rfl rfl ?_
  refine J_aload_n (i := 0) d_R_byteAt_1 rfl rfl ?_
  refine M_get (x := (nI m)) d_R_byteAt_2 f_R_142 rfl rfl hV.1 ?_
  refine N_icmp_ge (tgt := 17) d_R_byteAt_5 (by decide) (by omega) (by omega) (fun c5 => absurd c5 (by omega)) (fun c5 => ?_)
  refine J_aload_n (i := 0) d_R_byteAt_8 rfl rfl ?_
  refine M_getR (b := 253) d_R_byteAt_9 f_R_34 rfl rfl rfl ?_
  refine J_iload_n (i := 1) d_R_byteAt_12 rfl rfl ?_
  refine N_iald (x := (nI (B k))) d_R_byteAt_13 rfl (by omega) (ltL hX (a := 253) (n := 300) (by decide) rfl (by omega)) (hV.2 k hk) ?_
  refine J_goto (tgt := 18) d_R_byteAt_14 (by decide) ?_
  refine M_ir d_R_byteAt_18 rfl rfl ?_
  exact ⟨rfl, rfl⟩

theorem S_R_byteAt_e {X : Mem} {B : Nat → Nat} {m k : Nat} (hX : Ok X) (hB : okB B m) (hV : RV X m B) (hk : m ≤ k) (hk2 : k < 310) : CM 0 m_R_byteAt [.ref 244, .int (nI k)] X (rI (-1) X) := by
  have h300 := hB.1
  refine CM_of (L := [some (.ref 244), some (.int (nI k))]) 0 ok_R_byteAt (fun _ => Nat.le_of_ble_eq_true rfl) rfl ?_
  refine J_iload_n (i := 1) d_R_byteAt_0 rfl rfl ?_
  refine J_aload_n (i := 0) d_R_byteAt_1 rfl rfl ?_
  refine M_get (x := (nI m)) d_R_byteAt_2 f_R_142 rfl rfl hV.1 ?_
  refine N_icmp_ge (tgt := 17) d_R_byteAt_5 (by decide) (by omega) (by omega) (fun c5 => ?_) (fun c5 => absurd c5 (by omega))
  refine J_iconst (v := (-1)) d_R_byteAt_17 rfl ?_
  refine M_ir d_R_byteAt_18 rfl rfl ?_
  exact ⟨rfl, rfl⟩

theorem S_R_isFigure {X : Mem} {c : Nat} (hc : c < 256) : CM 0 m_R_isFigure [.int (nI c)] X (rB (isDg c) X) := by
  refine CM_of (L := [some (.int (nI c))]) 0 ok_R_isFigure (fun _ => Nat.le_of_ble_eq_true rfl) rfl ?_
  refine J_iload_n (i := 0) d_R_isFigure_0 rfl rfl ?_
  refine J_bipush (v := nI 48) d_R_isFigure_1 rfl ?_
  refine N_icmp_lt (tgt := 16) d_R_isFigure_3 (by decide) (by omega) (by omega) (fun c3 => ?_) (fun c3 => ?_)
  · refine J_iconst (v := nI 0) d_R_isFigure_16 rfl ?_
    refine J.eq (st1 := [.int (b2i false)]) ?_ rfl rfl rfl
    refine M_ir d_R_isFigure_17 rfl b2i_nar ?_
    refine ⟨?_, rfl⟩
    show _ = some (Value.int (b2i (isDg c)))
    rw [show isDg c = false from fls (fun z => by simp only [isDg, Bool.or_eq_true, Bool.and_eq_true, decide_eq_true_eq] at z; omega)]
  · refine J_iload_n (i := 0) d_R_isFigure_6 rfl rfl ?_
    refine J_bipush (v := nI 57) d_R_isFigure_7 rfl ?_
    refine N_icmp_gt (tgt := 16) d_R_isFigure_9 (by decide) (by omega) (by omega) (fun c9 => ?_) (fun c9 => ?_)
    · refine J_iconst (v := nI 0) d_R_isFigure_16 rfl ?_
      refine J.eq (st1 := [.int (b2i false)]) ?_ rfl rfl rfl
      refine M_ir d_R_isFigure_17 rfl b2i_nar ?_
      refine ⟨?_, rfl⟩
      show _ = some (Value.int (b2i (isDg c)))
      rw [show isDg c = false from fls (fun z => by simp only [isDg, Bool.or_eq_true, Bool.and_eq_true, decide_eq_true_eq] at z; omega)]
    · refine J_iconst (v := nI 1) d_R_isFigure_12 rfl ?_
      refine J_goto (tgt := 17) d_R_isFigure_13 (by decide) ?_
      refine J.eq (st1 := [.int (b2i true)]) ?_ rfl rfl rfl
      refine M_ir d_R_isFigure_17 rfl b2i_nar ?_
      refine ⟨?_, rfl⟩
      show _ = some (Value.int (b2i (isDg c)))
      rw [show isDg c = true from by simp only [isDg, Bool.or_eq_true, Bool.and_eq_true, decide_eq_true_eq]; omega]

theorem S_R_isFigure_e {X : Mem} : CM 0 m_R_isFigure [.int (-1)] X (rB false X) := by
  refine CM_of (L := [some (.int (-1))]) 0 ok_R_isFigure (fun _ => Nat.le_of_ble_eq_true rfl) rfl ?_
  refine J_iload_n (i := 0) d_R_isFigure_0 rfl rfl ?_
  refine J_bipush (v := nI 48) d_R_isFigure_1 rfl ?_
  refine J_icmp_lt (tgt := 16) d_R_isFigure_3 (by decide) (fun c3 => ?_) (fun c3 => absurd c3 (by decide))
  refine J_iconst (v := nI 0) d_R_isFigure_16 rfl ?_
  refine J.eq (st1 := [.int (b2i false)]) ?_ rfl rfl rfl
  refine M_ir d_R_isFigure_17 rfl b2i_nar ?_
  exact ⟨rfl, rfl⟩

theorem S_R_isLetterByte {X : Mem} {c : Nat} (hc : c < 256) : CM 0 m_R_isLetterByte [.int (nI c)] X (rB (isLt c) X) := by
  refine CM_of (L := [some (.int (nI c))]) 0 ok_R_isLetterByte (fun _ => Nat.le_of_ble_eq_true rfl) rfl ?_
  refine J_iload_n (i := 0) d_R_isLetterByte_0 rfl rfl ?_
  refine J_bipush (v := nI 97) d_R_isLetterByte_1 rfl ?_
  refine N_icmp_lt (tgt := 12) d_R_isLetterByte_3 (by decide) (by omega) (by omega) (fun c3 => ?_) (fun c3 => ?_)
  · refine J_iload_n (i := 0) d_R_isLetterByte_12 rfl rfl ?_
    refine J_bipush (v := nI 65) d_R_isLetterByte_13 rfl ?_
    refine N_icmp_lt (tgt := 28) d_R_isLetterByte_15 (by decide) (by omega) (by omega) (fun c15 => ?_) (fun c15 => ?_)
    · refine J_iconst (v := nI 0) d_R_isLetterByte_28 rfl ?_
      refine J.eq (st1 := [.int (b2i false)]) ?_ rfl rfl rfl
      refine M_ir d_R_isLetterByte_29 rfl b2i_nar ?_
      refine ⟨?_, rfl⟩
      show _ = some (Value.int (b2i (isLt c)))
      rw [show isLt c = false from fls (fun z => by simp only [isLt, Bool.or_eq_true, Bool.and_eq_true, decide_eq_true_eq] at z; omega)]
    · refine J_iload_n (i := 0) d_R_isLetterByte_18 rfl rfl ?_
      refine J_bipush (v := nI 90) d_R_isLetterByte_19 rfl ?_
      refine N_icmp_gt (tgt := 28) d_R_isLetterByte_21 (by decide) (by omega) (by omega) (fun c21 => ?_) (fun c21 => ?_)
      · refine J_iconst (v := nI 0) d_R_isLetterByte_28 rfl ?_
        refine J.eq (st1 := [.int (b2i false)]) ?_ rfl rfl rfl
        refine M_ir d_R_isLetterByte_29 rfl b2i_nar ?_
        refine ⟨?_, rfl⟩
        show _ = some (Value.int (b2i (isLt c)))
        rw [show isLt c = false from fls (fun z => by simp only [isLt, Bool.or_eq_true, Bool.and_eq_true, decide_eq_true_eq] at z; omega)]
      · refine J_iconst (v := nI 1) d_R_isLetterByte_24 rfl ?_
        refine J_goto (tgt := 29) d_R_isLetterByte_25 (by decide) ?_
        refine J.eq (st1 := [.int (b2i true)]) ?_ rfl rfl rfl
        refine M_ir d_R_isLetterByte_29 rfl b2i_nar ?_
        refine ⟨?_, rfl⟩
        show _ = some (Value.int (b2i (isLt c)))
        rw [show isLt c = true from by simp only [isLt, Bool.or_eq_true, Bool.and_eq_true, decide_eq_true_eq]; omega]
  · refine J_iload_n (i := 0) d_R_isLetterByte_6 rfl rfl ?_
    refine J_bipush (v := nI 122) d_R_isLetterByte_7 rfl ?_
    refine N_icmp_le (tgt := 24) d_R_isLetterByte_9 (by decide) (by omega) (by omega) (fun c9 => ?_) (fun c9 => ?_)
    · refine J_iconst (v := nI 1) d_R_isLetterByte_24 rfl ?_
      refine J_goto (tgt := 29) d_R_isLetterByte_25 (by decide) ?_
      refine J.eq (st1 := [.int (b2i true)]) ?_ rfl rfl rfl
      refine M_ir d_R_isLetterByte_29 rfl b2i_nar ?_
      refine ⟨?_, rfl⟩
      show _ = some (Value.int (b2i (isLt c)))
      rw [show isLt c = true from by simp only [isLt, Bool.or_eq_true, Bool.and_eq_true, decide_eq_true_eq]; omega]
    · refine J_iload_n (i := 0) d_R_isLetterByte_12 rfl rfl ?_
      refine J_bipush (v := nI 65) d_R_isLetterByte_13 rfl ?_
      refine N_icmp_lt (tgt := 28) d_R_isLetterByte_15 (by decide) (by omega) (by omega) (fun c15 => ?_) (fun c15 => ?_)
      · refine J_iconst (v := nI 0) d_R_isLetterByte_28 rfl ?_
        refine J.eq (st1 := [.int (b2i false)]) ?_ rfl rfl rfl
        refine M_ir d_R_isLetterByte_29 rfl b2i_nar ?_
        refine ⟨?_, rfl⟩
        show _ = some (Value.int (b2i (isLt c)))
        rw [show isLt c = false from fls (fun z => by simp only [isLt, Bool.or_eq_true, Bool.and_eq_true, decide_eq_true_eq] at z; omega)]
      · refine J_iload_n (i := 0) d_R_isLetterByte_18 rfl rfl ?_
        refine J_bipush (v := nI 90) d_R_isLetterByte_19 rfl ?_
        refine N_icmp_gt (tgt := 28) d_R_isLetterByte_21 (by decide) (by omega) (by omega) (fun c21 => ?_) (fun c21 => ?_)
        · refine J_iconst (v := nI 0) d_R_isLetterByte_28 rfl ?_
          refine J.eq (st1 := [.int (b2i false)]) ?_ rfl rfl rfl
          refine M_ir d_R_isLetterByte_29 rfl b2i_nar ?_
          refine ⟨?_, rfl⟩
          show _ = some (Value.int (b2i (isLt c)))
          rw [show isLt c = false from fls (fun z => by simp only [isLt, Bool.or_eq_true, Bool.and_eq_true, decide_eq_true_eq] at z; omega)]
        · refine J_iconst (v := nI 1) d_R_isLetterByte_24 rfl ?_
          refine J_goto (tgt := 29) d_R_isLetterByte_25 (by decide) ?_
          refine J.eq (st1 := [.int (b2i true)]) ?_ rfl rfl rfl
          refine M_ir d_R_isLetterByte_29 rfl b2i_nar ?_
          refine ⟨?_, rfl⟩
          show _ = some (Value.int (b2i (isLt c)))
          rw [show isLt c = true from by simp only [isLt, Bool.or_eq_true, Bool.and_eq_true, decide_eq_true_eq]; omega]

theorem S_R_isLetterByte_e {X : Mem} : CM 0 m_R_isLetterByte [.int (-1)] X (rB false X) := by
  refine CM_of (L := [some (.int (-1))]) 0 ok_R_isLetterByte (fun _ => Nat.le_of_ble_eq_true rfl) rfl ?_
  refine J_iload_n (i := 0) d_R_isLetterByte_0 rfl rfl ?_
  refine J_bipush (v := nI 97) d_R_isLetterByte_1 rfl ?_
  refine J_icmp_lt (tgt := 12) d_R_isLetterByte_3 (by decide) (fun c3 => ?_) (fun c3 => absurd c3 (by decide))
  refine J_iload_n (i := 0) d_R_isLetterByte_12 rfl rfl ?_
  refine J_bipush (v := nI 65) d_R_isLetterByte_13 rfl ?_
  refine J_icmp_lt (tgt := 28) d_R_isLetterByte_15 (by decide) (fun c15 => ?_) (fun c15 => absurd c15 (by decide))
  refine J_iconst (v := nI 0) d_R_isLetterByte_28 rfl ?_
  refine J.eq (st1 := [.int (b2i false)]) ?_ rfl rfl rfl
  refine M_ir d_R_isLetterByte_29 rfl b2i_nar ?_
  exact ⟨rfl, rfl⟩

theorem ts_sign : ∀ c, c < 256 → (if c < 35 ∨ 62 < c then (129 : Int) else ([127, 129, 129, 129, 129, 127, 127, 127, 127, 129, 127, 129, 127, 129, 129, 129, 129, 129, 129, 129, 129, 129, 129, 127, 127, 127, 127, 127] : List Int).getD (c - 35) 0) = if sgnB c then 127 else 129 := by decide +kernel
