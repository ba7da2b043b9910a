/-- the tape as the reference has it -/
def RV (X : Mem) (m : Nat) (B : Nat → Nat) : Prop := X.1 244 9 = nI m ∧ ∀ q, q < m → (X.2.1 253).getD q 0 = nI (B q)
theorem RV_F {X : Mem} {m k : Nat} {B : Nat → Nat} {v : Int32} (h : RV X m B) (hk : k ≠ 9) : RV (pF X 244 k v) m B := ⟨(pF_k (Ne.symm hk)).trans h.1, h.2⟩
theorem RV_W {X : Mem} {m : Nat} {B : Nat → Nat} {w : Int64} (h : RV X m B) : RV (pW X w) m B := h
theorem pF_cm {X : Mem} {a j k : Nat} {u v : Int32} (h : j ≠ k) : pF (pF X a j u) a k v = pF (pF X a k v) a j u := by
  refine Prod.ext (funext fun b => funext fun i => ?_) rfl
  show (pF (pF X a j u) a k v).1 b i = (pF (pF X a k v) a j u).1 b i
  by_cases hb : b = a
  · subst hb
    by_cases h1 : i = j
    · subst h1; rw [pF_k h, pF_at, pF_at]
    · by_cases h2 : i = k
      · subst h2; rw [pF_at, pF_k h1, pF_at]
      · rw [pF_k h2, pF_k h1, pF_k h1, pF_k h2]
  · rw [pF_o hb, pF_o hb, pF_o hb, pF_o hb]
def sgnB (c : Nat) : Bool := decide (c = 60) || (decide (c = 62) || (decide (c = 61) || (decide (c = 35) || (decide (c = 43) || (decide (c = 45) || (decide (c = 42) || (decide (c = 47) || (decide (c = 40) || (decide (c = 41) || (decide (c = 58) || decide (c = 59)))))))))))
/-- the token that begins at q: 0 none, 1 a number, 2 a word, 3 what is no sign, 4 and 5 signs of two, else the sign -/
def tR (B : Nat → Nat) (q : Nat) : Nat := if B q = 256 then 0 else if isDg (B q) then 1 else if isLt (B q) then 2 else if B q = 60 ∧ B (q + 1) = 61 then 4 else if B q = 62 ∧ B (q + 1) = 61 then 5 else if sgnB (B q) then B q else 3
def nRs (B : Nat → Nat) (q k : Nat) : Nat := itr (fun i v => if 99999 < v then v else 10 * v + B (q + i) - 48) 0 k
def nR (B : Nat → Nat) (q : Nat) : Nat := nRs B q (eD B q - q)
def wRs (B : Nat → Nat) (q k : Nat) : Int64 := itr (fun i w => if lg_cmp (w >>> ((nI 48).toInt64 &&& 63)) 0 = 0 then (w <<< ((nI 8).toInt64 &&& 63)) ||| (nI (B (q + i))).toInt64 else 1152921504606846976) 0 k
def wR (B : Nat → Nat) (q : Nat) : Int64 := wRs B q (eL B q - q)
theorem nRs_le {B : Nat → Nat} {q : Nat} : ∀ k, (∀ i, i < k → isDg (B (q + i)) = true) → nRs B q k ≤ 999999
  | 0, _ => Nat.zero_le _
  | k + 1, h => by
    have ih := nRs_le k (fun i hi => h i (by omega))
    have hd := h k (by omega)
    simp only [isDg, Bool.and_eq_true, decide_eq_true_eq] at hd
    show (if 99999 < nRs B q k then nRs B q k else 10 * nRs B q k + B (q + k) - 48) ≤ 999999
    split
    · exact ih
    · omega
/-- what a next token leaves as it was -/
def offNx (X Y : Mem) : Prop := (∀ b k, ¬ (b = 244 ∧ (k = 12 ∨ k = 13 ∨ k = 14 ∨ k = 15)) → Y.1 b k = X.1 b k) ∧ (Y.2.1 = X.2.1 ∧ (Y.2.2.1 = X.2.2.1 ∧ Y.2.2.2.1 = X.2.2.2.1))
theorem offNx_0 (X : Mem) : offNx X X := ⟨fun _ _ _ => rfl, rfl, rfl, rfl⟩
theorem offNx_F {X Y : Mem} {k : Nat} {v : Int32} (h : offNx X Y) (hk : k = 12 ∨ k = 13 ∨ k = 14 ∨ k = 15) : offNx X (pF Y 244 k v) := ⟨fun b j hj => (pF_x (fun z => hj ⟨z.1, by rw [z.2]; exact hk⟩)).trans (h.1 b j hj), h.2⟩
theorem offNx_W {X Y : Mem} {w : Int64} (h : offNx X Y) : offNx X (pW Y w) := h
/-- the token at q lies there -/
def RTq (Y : Mem) (B : Nat → Nat) (q : Nat) : Prop := Y.1 244 13 = nI q ∧ (Y.1 244 12 = nI (eN B q) ∧ (Y.1 244 14 = nI (tR B q) ∧ ((tR B q = 1 → Y.1 244 15 = nI (nR B q)) ∧ (tR B q = 2 → Y.2.2.2.2 = wR B q))))
theorem S_R_byteAt_n {X : Mem} {B : Nat → Nat} {m k : Nat} (hX : Ok X) (hB : okB B m) (hV : RV X m B) (hk : k < m) : CM 0 m_R_byteAt [.ref 244, .int (nI k)] X (rN (B k) X) := by
  have h300 := hB.1
  refine CM_of (L := [some (.ref 244), some (.int (nI k))]) 0 ok_R_byteAt (fun _ => Nat.le_of_ble_eq_true rfl) rfl ?_
  refine J_iload_n (i := 1) d_R_byteAt_0 rfl rfl ?_
  refine J_aload_n (i := 0) d_R_byteAt_1 rfl rfl ?_
  refine M_get (x := (nI m)) d_R_byteAt_2 f_R_142 rfl rfl hV.1 ?_
  refine N_icmp_ge (tgt := 17) d_R_byteAt_5 (by decide) (by omega) (by omega) (fun c5 => absurd c5 (by omega)) (fun c5 => ?_)
  refine J_aload_n (i := 0) d_R_byteAt_8 rfl rfl ?_
  refine M_getR (b := 253) d_R_byteAt_9 f_R_34 rfl rfl rfl ?_
  refine J_iload_n (i := 1) d_R_byteAt_12 rfl rfl ?_
  refine N_iald (x := (nI (B k))) d_R_byteAt_13 rfl (by omega) (ltL hX (a := 253) (n := 300) (by decide) rfl (by omega)) (hV.2 k hk) ?_
  refine J_goto (tgt := 18) d_R_byteAt_14 (by decide) ?_
  refine M_ir d_R_byteAt_18 rfl rfl ?_
  exact ⟨rfl, rfl⟩

theorem S_R_byteAt_e {X : Mem} {B : Nat → Nat} {m k : Nat} (hX : Ok X) (hB : okB B m) (hV : RV X m B) (hk : m ≤ k) (hk2 : k < 310) : CM 0 m_R_byteAt [.ref 244, .int (nI k)] X (rI (-1) X) := by
  have h300 := hB.1
  refine CM_of (L := [some (.ref 244), some (.int (nI k))]) 0 ok_R_byteAt (fun _ => Nat.le_of_ble_eq_true rfl) rfl ?_
  refine J_iload_n (i := 1) d_R_byteAt_0 rfl rfl ?_
  refine J_aload_n (i := 0) d_R_byteAt_1 rfl rfl ?_
  refine M_get (x := (nI m)) d_R_byteAt_2 f_R_142 rfl rfl hV.1 ?_
  refine N_icmp_ge (tgt := 17) d_R_byteAt_5 (by decide) (by omega) (by omega) (fun c5 => ?_) (fun c5 => absurd c5 (by omega))
  refine J_iconst (v := (-1)) d_R_byteAt_17 rfl ?_
  refine M_ir d_R_byteAt_18 rfl rfl ?_
  exact ⟨rfl, rfl⟩

theorem S_R_isFigure {X : Mem} {c : Nat} (hc : c < 256) : CM 0 m_R_isFigure [.int (nI c)] X (rB (isDg c) X) := by
  refine CM_of (L := [some (.int (nI c))]) 0 ok_R_isFigure (fun _ => Nat.le_of_ble_eq_true rfl) rfl ?_
  refine J_iload_n (i := 0) d_R_isFigure_0 rfl rfl ?_
  refine J_bipush (v := nI 48) d_R_isFigure_1 rfl ?_
  refine N_icmp_lt (tgt := 16) d_R_isFigure_3 (by decide) (by omega) (by omega) (fun c3 => ?_) (fun c3 => ?_)
  · refine J_iconst (v := nI 0) d_R_isFigure_16 rfl ?_
    refine J.eq (st1 := [.int (b2i false)]) ?_ rfl rfl rfl
    refine M_ir d_R_isFigure_17 rfl b2i_nar ?_
    refine ⟨?_, rfl⟩
    show _ = some (Value.int (b2i (isDg c)))
    rw [show isDg c = false from fls (fun z => by simp only [isDg, Bool.or_eq_true, Bool.and_eq_true, decide_eq_true_eq] at z; omega)]
  · refine J_iload_n (i := 0) d_R_isFigure_6 rfl rfl ?_
    refine J_bipush (v := nI 57) d_R_isFigure_7 rfl ?_
    refine N_icmp_gt (tgt := 16) d_R_isFigure_9 (by decide) (by omega) (by omega) (fun c9 => ?_) (fun c9 => ?_)
    · refine J_iconst (v := nI 0) d_R_isFigure_16 rfl ?_
      refine J.eq (st1 := [.int (b2i false)]) ?_ rfl rfl rfl
      refine M_ir d_R_isFigure_17 rfl b2i_nar ?_
      refine ⟨?_, rfl⟩
      show _ = some (Value.int (b2i (isDg c)))
      rw [show isDg c = false from fls (fun z => by simp only [isDg, Bool.or_eq_true, Bool.and_eq_true, decide_eq_true_eq] at z; omega)]
    · refine J_iconst (v := nI 1) d_R_isFigure_12 rfl ?_
      refine J_goto (tgt := 17) d_R_isFigure_13 (by decide) ?_
      refine J.eq (st1 := [.int (b2i true)]) ?_ rfl rfl rfl
      refine M_ir d_R_isFigure_17 rfl b2i_nar ?_
      refine ⟨?_, rfl⟩
      show _ = some (Value.int (b2i (isDg c)))
      rw [show isDg c = true from by simp only [isDg, Bool.or_eq_true, Bool.and_eq_true, decide_eq_true_eq]; omega]

theorem S_R_isFigure_e {X : Mem} : CM 0 m_R_isFigure [.int (-1)] X (rB false X) := by
  refine CM_of (L := [some (.int (-1))]) 0 ok_R_isFigure (fun _ => Nat.le_of_ble_eq_true rfl) rfl ?_
  refine J_iload_n (i := 0) d_R_isFigure_0 rfl rfl ?_
  refine J_bipush (v := nI 48) d_R_isFigure_1 rfl ?_
  refine J_icmp_lt (tgt := 16) d_R_isFigure_3 (by decide) (fun c3 => ?_) (fun c3 => absurd c3 (by decide))
  refine J_iconst (v := nI 0) d_R_isFigure_16 rfl ?_
  refine J.eq (st1 := [.int (b2i false)]) ?_ rfl rfl rfl
  refine M_ir d_R_isFigure_17 rfl b2i_nar ?_
  exact ⟨rfl, rfl⟩

theorem S_R_isLetterByte {X : Mem} {c : Nat} (hc : c < 256) : CM 0 m_R_isLetterByte [.int (nI c)] X (rB (isLt c) X) := by
  refine CM_of (L := [some (.int (nI c))]) 0 ok_R_isLetterByte (fun _ => Nat.le_of_ble_eq_true rfl) rfl ?_
  refine J_iload_n (i := 0) d_R_isLetterByte_0 rfl rfl ?_
  refine J_bipush (v := nI 97) d_R_isLetterByte_1 rfl ?_
  refine N_icmp_lt (tgt := 12) d_R_isLetterByte_3 (by decide) (by omega) (by omega) (fun c3 => ?_) (fun c3 => ?_)
  · refine J_iload_n (i := 0) d_R_isLetterByte_12 rfl rfl ?_
    refine J_bipush (v := nI 65) d_R_isLetterByte_13 rfl ?_
    refine N_icmp_lt (tgt := 28) d_R_isLetterByte_15 (by decide) (by omega) (by omega) (fun c15 => ?_) (fun c15 => ?_)
    · refine J_iconst (v := nI 0) d_R_isLetterByte_28 rfl ?_
      refine J.eq (st1 := [.int (b2i false)]) ?_ rfl rfl rfl
      refine M_ir d_R_isLetterByte_29 rfl b2i_nar ?_
      refine ⟨?_, rfl⟩
      show _ = some (Value.int (b2i (isLt c)))
      rw [show isLt c = false from fls (fun z => by simp only [isLt, Bool.or_eq_true, Bool.and_eq_true, decide_eq_true_eq] at z; omega)]
    · refine J_iload_n (i := 0) d_R_isLetterByte_18 rfl rfl ?_
      refine J_bipush (v := nI 90) d_R_isLetterByte_19 rfl ?_
      refine N_icmp_gt (tgt := 28) d_R_isLetterByte_21 (by decide) (by omega) (by omega) (fun c21 => ?_) (fun c21 => ?_)
      · refine J_iconst (v := nI 0) d_R_isLetterByte_28 rfl ?_
        refine J.eq (st1 := [.int (b2i false)]) ?_ rfl rfl rfl
        refine M_ir d_R_isLetterByte_29 rfl b2i_nar ?_
        refine ⟨?_, rfl⟩
        show _ = some (Value.int (b2i (isLt c)))
        rw [show isLt c = false from fls (fun z => by simp only [isLt, Bool.or_eq_true, Bool.and_eq_true, decide_eq_true_eq] at z; omega)]
      · refine J_iconst (v := nI 1) d_R_isLetterByte_24 rfl ?_
        refine J_goto (tgt := 29) d_R_isLetterByte_25 (by decide) ?_
        refine J.eq (st1 := [.int (b2i true)]) ?_ rfl rfl rfl
        refine M_ir d_R_isLetterByte_29 rfl b2i_nar ?_
        refine ⟨?_, rfl⟩
        show _ = some (Value.int (b2i (isLt c)))
        rw [show isLt c = true from by simp only [isLt, Bool.or_eq_true, Bool.and_eq_true, decide_eq_true_eq]; omega]
  · refine J_iload_n (i := 0) d_R_isLetterByte_6 rfl rfl ?_
    refine J_bipush (v := nI 122) d_R_isLetterByte_7 rfl ?_
    refine N_icmp_le (tgt := 24) d_R_isLetterByte_9 (by decide) (by omega) (by omega) (fun c9 => ?_) (fun c9 => ?_)
    · refine J_iconst (v := nI 1) d_R_isLetterByte_24 rfl ?_
      refine J_goto (tgt := 29) d_R_isLetterByte_25 (by decide) ?_
      refine J.eq (st1 := [.int (b2i true)]) ?_ rfl rfl rfl
      refine M_ir d_R_isLetterByte_29 rfl b2i_nar ?_
      refine ⟨?_, rfl⟩
      show _ = some (Value.int (b2i (isLt c)))
      rw [show isLt c = true from by simp only [isLt, Bool.or_eq_true, Bool.and_eq_true, decide_eq_true_eq]; omega]
    · refine J_iload_n (i := 0) d_R_isLetterByte_12 rfl rfl ?_
      refine J_bipush (v := nI 65) d_R_isLetterByte_13 rfl ?_
      refine N_icmp_lt (tgt := 28) d_R_isLetterByte_15 (by decide) (by omega) (by omega) (fun c15 => ?_) (fun c15 => ?_)
      · refine J_iconst (v := nI 0) d_R_isLetterByte_28 rfl ?_
        refine J.eq (st1 := [.int (b2i false)]) ?_ rfl rfl rfl
        refine M_ir d_R_isLetterByte_29 rfl b2i_nar ?_
        refine ⟨?_, rfl⟩
        show _ = some (Value.int (b2i (isLt c)))
        rw [show isLt c = false from fls (fun z => by simp only [isLt, Bool.or_eq_true, Bool.and_eq_true, decide_eq_true_eq] at z; omega)]
      · refine J_iload_n (i := 0) d_R_isLetterByte_18 rfl rfl ?_
        refine J_bipush (v := nI 90) d_R_isLetterByte_19 rfl ?_
        refine N_icmp_gt (tgt := 28) d_R_isLetterByte_21 (by decide) (by omega) (by omega) (fun c21 => ?_) (fun c21 => ?_)
        · refine J_iconst (v := nI 0) d_R_isLetterByte_28 rfl ?_
          refine J.eq (st1 := [.int (b2i false)]) ?_ rfl rfl rfl
          refine M_ir d_R_isLetterByte_29 rfl b2i_nar ?_
          refine ⟨?_, rfl⟩
          show _ = some (Value.int (b2i (isLt c)))
          rw [show isLt c = false from fls (fun z => by simp only [isLt, Bool.or_eq_true, Bool.and_eq_true, decide_eq_true_eq] at z; omega)]
        · refine J_iconst (v := nI 1) d_R_isLetterByte_24 rfl ?_
          refine J_goto (tgt := 29) d_R_isLetterByte_25 (by decide) ?_
          refine J.eq (st1 := [.int (b2i true)]) ?_ rfl rfl rfl
          refine M_ir d_R_isLetterByte_29 rfl b2i_nar ?_
          refine ⟨?_, rfl⟩
          show _ = some (Value.int (b2i (isLt c)))
          rw [show isLt c = true from by simp only [isLt, Bool.or_eq_true, Bool.and_eq_true, decide_eq_true_eq]; omega]

theorem S_R_isLetterByte_e {X : Mem} : CM 0 m_R_isLetterByte [.int (-1)] X (rB false X) := by
  refine CM_of (L := [some (.int (-1))]) 0 ok_R_isLetterByte (fun _ => Nat.le_of_ble_eq_true rfl) rfl ?_
  refine J_iload_n (i := 0) d_R_isLetterByte_0 rfl rfl ?_
  refine J_bipush (v := nI 97) d_R_isLetterByte_1 rfl ?_
  refine J_icmp_lt (tgt := 12) d_R_isLetterByte_3 (by decide) (fun c3 => ?_) (fun c3 => absurd c3 (by decide))
  refine J_iload_n (i := 0) d_R_isLetterByte_12 rfl rfl ?_
  refine J_bipush (v := nI 65) d_R_isLetterByte_13 rfl ?_
  refine J_icmp_lt (tgt := 28) d_R_isLetterByte_15 (by decide) (fun c15 => ?_) (fun c15 => absurd c15 (by decide))
  refine J_iconst (v := nI 0) d_R_isLetterByte_28 rfl ?_
  refine J.eq (st1 := [.int (b2i false)]) ?_ rfl rfl rfl
  refine M_ir d_R_isLetterByte_29 rfl b2i_nar ?_
  exact ⟨rfl, rfl⟩

theorem ts_sign : ∀ c, c < 63 → 35 ≤ c → (#[127, 129, 129, 129, 129, 127, 127, 127, 127, 129, 127, 129, 127, 129, 129, 129, 129, 129, 129, 129, 129, 129, 129, 127, 127, 127, 127, 127] : Array Int)[((nI c).toInt - 35).toNat]? = some (if sgnB c then 127 else 129) := by decide +kernel
theorem S_R_isSign {X : Mem} {c : Nat} (hc : c < 256) : CM 0 m_R_isSign [.int (nI c)] X (rB (sgnB c) X) := by
  refine CM_of (L := [some (.int (nI c))]) 0 ok_R_isSign (fun _ => Nat.le_of_ble_eq_true rfl) rfl ?_
  refine J_iload_n (i := 0) d_R_isSign_0 rfl rfl ?_
  have hi := nI_int (show c < 2147483648 by omega)
  by_cases hs : c < 35 ∨ 62 < c
  · refine J_tableOut (tgt := 130) d_R_isSign_1 (by omega) (by decide) ?_
    refine J_iconst (v := nI 0) d_R_isSign_130 rfl ?_
    refine J.eq (st1 := [.int (b2i false)]) ?_ rfl rfl rfl
    refine M_ir d_R_isSign_131 rfl b2i_nar ?_
    refine ⟨?_, rfl⟩
    show _ = some (Value.int (b2i (sgnB c)))
    rw [show sgnB c = false from fls (fun z => by simp only [sgnB, Bool.or_eq_true, decide_eq_true_eq] at z; omega)]
  rcases Bool.eq_false_or_eq_true (sgnB c) with hb | hb
  · refine J_tableIn (off := 127) (tgt := 128) d_R_isSign_1 (by omega) (by omega) (by rw [ts_sign c (by omega) (by omega), hb]; rfl) (by decide) ?_
    refine J_iconst (v := nI 1) d_R_isSign_128 rfl ?_
    refine J.eq (st1 := [.int (b2i true)]) ?_ rfl rfl rfl
    refine M_ir d_R_isSign_129 rfl b2i_nar ?_
    refine ⟨?_, rfl⟩
    show _ = some (Value.int (b2i (sgnB c)))
    rw [hb]
  · refine J_tableIn (off := 129) (tgt := 130) d_R_isSign_1 (by omega) (by omega) (by rw [ts_sign c (by omega) (by omega), hb]; rfl) (by decide) ?_
    refine J_iconst (v := nI 0) d_R_isSign_130 rfl ?_
    refine J.eq (st1 := [.int (b2i false)]) ?_ rfl rfl rfl
    refine M_ir d_R_isSign_131 rfl b2i_nar ?_
    refine ⟨?_, rfl⟩
    show _ = some (Value.int (b2i (sgnB c)))
    rw [hb]

theorem lp_nt_blank {X : Mem} {B : Nat → Nat} {m : Nat} (hX : Ok X) (hB : okB B m) (hV : RV X m B) {q : Nat} {z1 : Option Value} {Q : Option Value → Mem → Prop} (kx : JM 1 m_R_nextToken Q 39 [some (.ref 244), z1] [] (pF X 244 12 (nI q))) : ∀ (k p : Nat), m - p = k → p ≤ m → sk B p = q → JM 1 m_R_nextToken Q 0 [some (.ref 244), z1] [] (pF X 244 12 (nI p)) := by
  have h300 := hB.1
  intro k
  induction k with
  | zero =>
    intro p hk hpm he
    have e1 : sk B p = p := sc_f (okB_B hB p (by omega))
    rw [← he, e1] at kx
    refine J_aload_n (i := 0) d_R_nextToken_0 rfl rfl ?_
    refine J_aload_n (i := 0) d_R_nextToken_1 rfl rfl ?_
    refine M_get (x := (nI p)) d_R_nextToken_2 f_R_149 rfl rfl pF_at ?_
    refine CV_I (av := [.int (nI p)]) d_R_nextToken_5 s_R_152 (M_rcv rfl (by decide) rfl) (S_R_byteAt_e (okF hX) hB (by repeat first | exact hV | refine RV_F ?_ (by decide) | refine RV_W ?_) (by omega) (by omega)) (by decide) rfl rfl (Nat.le_of_ble_eq_true rfl) ?_
    refine J_bipush (v := nI 32) d_R_nextToken_8 rfl ?_
    refine J_icmp_eq (tgt := 26) d_R_nextToken_10 (by decide) (fun c10 => absurd c10 (by decide)) (fun c10 => ?_)
    refine J_aload_n (i := 0) d_R_nextToken_13 rfl rfl ?_
    refine J_aload_n (i := 0) d_R_nextToken_14 rfl rfl ?_
    refine M_get (x := (nI p)) d_R_nextToken_15 f_R_149 rfl rfl pF_at ?_
    refine CV_I (av := [.int (nI p)]) d_R_nextToken_18 s_R_152 (M_rcv rfl (by decide) rfl) (S_R_byteAt_e (okF hX) hB (by repeat first | exact hV | refine RV_F ?_ (by decide) | refine RV_W ?_) (by omega) (by omega)) (by decide) rfl rfl (Nat.le_of_ble_eq_true rfl) ?_
    refine J_bipush (v := nI 10) d_R_nextToken_21 rfl ?_
    refine J_icmp_ne (tgt := 39) d_R_nextToken_23 (by decide) (fun c23 => ?_) (fun c23 => absurd c23 (by decide))
    exact kx
  | succ k ih =>
    intro p hk hpm he
    have hb := hB.2.1 p (by omega)
    refine J_aload_n (i := 0) d_R_nextToken_0 rfl rfl ?_
    refine J_aload_n (i := 0) d_R_nextToken_1 rfl rfl ?_
    refine M_get (x := (nI p)) d_R_nextToken_2 f_R_149 rfl rfl pF_at ?_
    refine CV_N (av := [.int (nI p)]) d_R_nextToken_5 s_R_152 (M_rcv rfl (by decide) rfl) (S_R_byteAt_n (okF hX) hB (by repeat first | exact hV | refine RV_F ?_ (by decide) | refine RV_W ?_) (by omega)) (by decide) rfl rfl (Nat.le_of_ble_eq_true rfl) ?_
    refine J_bipush (v := nI 32) d_R_nextToken_8 rfl ?_
    refine N_icmp_eq (tgt := 26) d_R_nextToken_10 (by decide) (by omega) (by omega) (fun c10 => ?_) (fun c10 => ?_)
    · refine J_aload_n (i := 0) d_R_nextToken_26 rfl rfl ?_
      refine J_dup d_R_nextToken_27 rfl ?_
      refine M_get (x := (nI p)) d_R_nextToken_28 f_R_149 rfl rfl pF_at ?_
      refine J_iconst (v := nI 1) d_R_nextToken_31 rfl ?_
      refine N_iadd d_R_nextToken_32 ?_
      refine M_put d_R_nextToken_33 p_R_149 rfl rfl rfl rfl ?_
      refine J_goto (tgt := 0) d_R_nextToken_36 (by decide) ?_
      rw [pF_pF]
      exact ih (p + 1) (by omega) (by omega) ((sc_t (P := isBl) (okB_B hB) hB.1 (show isBl (B p) = true by simp only [isBl, Bool.or_eq_true, decide_eq_true_eq]; omega)).symm.trans he)
    · refine J_aload_n (i := 0) d_R_nextToken_13 rfl rfl ?_
      refine J_aload_n (i := 0) d_R_nextToken_14 rfl rfl ?_
      refine M_get (x := (nI p)) d_R_nextToken_15 f_R_149 rfl rfl pF_at ?_
      refine CV_N (av := [.int (nI p)]) d_R_nextToken_18 s_R_152 (M_rcv rfl (by decide) rfl) (S_R_byteAt_n (okF hX) hB (by repeat first | exact hV | refine RV_F ?_ (by decide) | refine RV_W ?_) (by omega)) (by decide) rfl rfl (Nat.le_of_ble_eq_true rfl) ?_
      refine J_bipush (v := nI 10) d_R_nextToken_21 rfl ?_
      refine N_icmp_ne (tgt := 39) d_R_nextToken_23 (by decide) (by omega) (by omega) (fun c23 => ?_) (fun c23 => ?_)
      · have e1 : sk B p = p := sc_f (fls (fun z => by simp only [isBl, Bool.or_eq_true, decide_eq_true_eq] at z; omega))
        rw [← he, e1] at kx
        exact kx
      · refine J_aload_n (i := 0) d_R_nextToken_26 rfl rfl ?_
        refine J_dup d_R_nextToken_27 rfl ?_
        refine M_get (x := (nI p)) d_R_nextToken_28 f_R_149 rfl rfl pF_at ?_
        refine J_iconst (v := nI 1) d_R_nextToken_31 rfl ?_
        refine N_iadd d_R_nextToken_32 ?_
        refine M_put d_R_nextToken_33 p_R_149 rfl rfl rfl rfl ?_
        refine J_goto (tgt := 0) d_R_nextToken_36 (by decide) ?_
        rw [pF_pF]
        exact ih (p + 1) (by omega) (by omega) ((sc_t (P := isBl) (okB_B hB) hB.1 (show isBl (B p) = true by simp only [isBl, Bool.or_eq_true, decide_eq_true_eq]; omega)).symm.trans he)
theorem lp_nt_digit {Z : Mem} {B : Nat → Nat} {m : Nat} (hX : Ok Z) (hB : okB B m) (hV : RV Z m B) {q : Nat} (hq : q ≤ m) {z1 : Option Value} {Q : Option Value → Mem → Prop} (kx : JM 1 m_R_nextToken Q 310 [some (.ref 244), z1] [] (pF (pF Z 244 15 (nI (nR B q))) 244 12 (nI (eD B q)))) : ∀ (k p v : Nat), m - p = k → q ≤ p → p ≤ m → eD B p = eD B q → v = nRs B q (p - q) → (∀ i, i < p - q → isDg (B (q + i)) = true) → JM 1 m_R_nextToken Q 85 [some (.ref 244), z1] [] (pF (pF Z 244 15 (nI v)) 244 12 (nI p)) := by
  have h300 := hB.1
  intro k
  induction k with
  | zero =>
    intro p v hk hqp hpm he hv hd
    have e1 : eD B p = p := sc_f (okB_D hB p (by omega))
    subst hv
    rw [nR, ← he, e1] at kx
    refine J_aload_n (i := 0) d_R_nextToken_85 rfl rfl ?_
    refine J_aload_n (i := 0) d_R_nextToken_86 rfl rfl ?_
    refine M_get (x := (nI p)) d_R_nextToken_87 f_R_149 rfl rfl pF_at ?_
    refine CV_I (av := [.int (nI p)]) d_R_nextToken_90 s_R_152 (M_rcv rfl (by decide) rfl) (S_R_byteAt_e (okF (okF hX)) hB (by repeat first | exact hV | refine RV_F ?_ (by decide) | refine RV_W ?_) (by omega) (by omega)) (by decide) rfl rfl (Nat.le_of_ble_eq_true rfl) ?_
    refine CS_B (av := [.int (-1)]) d_R_nextToken_93 s_R_161 S_R_isFigure_e (by decide) rfl rfl (Nat.le_of_ble_eq_true rfl) ?_
    refine B_if_eq (tgt := 310) d_R_nextToken_96 (by decide) (fun c96 => ?_) (fun c96 => absurd c96 (by decide))
    exact kx
  | succ k ih =>
    intro p v hk hqp hpm he hv hd
    have hb := hB.2.1 p (by omega)
    have hv9 : v ≤ 999999 := by rw [hv]; exact nRs_le _ hd
    refine J_aload_n (i := 0) d_R_nextToken_85 rfl rfl ?_
    refine J_aload_n (i := 0) d_R_nextToken_86 rfl rfl ?_
    refine M_get (x := (nI p)) d_R_nextToken_87 f_R_149 rfl rfl pF_at ?_
    refine CV_N (av := [.int (nI p)]) d_R_nextToken_90 s_R_152 (M_rcv rfl (by decide) rfl) (S_R_byteAt_n (okF (okF hX)) hB (by repeat first | exact hV | refine RV_F ?_ (by decide) | refine RV_W ?_) (by omega)) (by decide) rfl rfl (Nat.le_of_ble_eq_true rfl) ?_
    refine CS_B (av := [.int (nI (B p))]) d_R_nextToken_93 s_R_161 (S_R_isFigure (by omega)) (by decide) rfl rfl (Nat.le_of_ble_eq_true rfl) ?_
    refine B_if_eq (tgt := 310) d_R_nextToken_96 (by decide) (fun c96 => ?_) (fun c96 => ?_)
    · have e1 : eD B p = p := sc_f c96
      subst hv
      rw [nR, ← he, e1] at kx
      exact kx
    · refine J_aload_n (i := 0) d_R_nextToken_99 rfl rfl ?_
      refine J_aload_n (i := 0) d_R_nextToken_100 rfl rfl ?_
      refine M_get (x := (nI v)) d_R_nextToken_101 f_R_164 rfl rfl ((pF_k (by decide)).trans pF_at) ?_
      refine J_ldc d_R_nextToken_104 w_R_167 ?_
      refine I_ton (n := 99999) rfl ?_
      refine N_icmp_le (tgt := 116) d_R_nextToken_106 (by decide) (by omega) (by omega) (fun c106 => ?_) (fun c106 => ?_)
      · have hdg := c96
        simp only [isDg, Bool.and_eq_true, decide_eq_true_eq] at hdg
        refine J_bipush (v := nI 10) d_R_nextToken_116 rfl ?_
        refine J_aload_n (i := 0) d_R_nextToken_118 rfl rfl ?_
        refine M_get (x := (nI v)) d_R_nextToken_119 f_R_164 rfl rfl ((pF_k (by decide)).trans pF_at) ?_
        refine N_imul d_R_nextToken_122 ?_
        refine J_aload_n (i := 0) d_R_nextToken_123 rfl rfl ?_
        refine J_aload_n (i := 0) d_R_nextToken_124 rfl rfl ?_
        refine M_get (x := (nI p)) d_R_nextToken_125 f_R_149 rfl rfl pF_at ?_
        refine CV_N (av := [.int (nI p)]) d_R_nextToken_128 s_R_152 (M_rcv rfl (by decide) rfl) (S_R_byteAt_n (okF (okF hX)) hB (by repeat first | exact hV | refine RV_F ?_ (by decide) | refine RV_W ?_) (by omega)) (by decide) rfl rfl (Nat.le_of_ble_eq_true rfl) ?_
        refine N_iadd d_R_nextToken_131 ?_
        refine J_bipush (v := nI 48) d_R_nextToken_132 rfl ?_
        refine N_isub d_R_nextToken_134 (by omega) ?_
        refine M_put d_R_nextToken_135 p_R_164 rfl rfl rfl rfl ?_
        refine J_aload_n (i := 0) d_R_nextToken_138 rfl rfl ?_
        refine J_dup d_R_nextToken_139 rfl ?_
        refine M_get (x := (nI p)) d_R_nextToken_140 f_R_149 rfl rfl ((pF_k (by decide)).trans pF_at) ?_
        refine J_iconst (v := nI 1) d_R_nextToken_143 rfl ?_
        refine N_iadd d_R_nextToken_144 ?_
        refine M_put d_R_nextToken_145 p_R_149 rfl rfl rfl rfl ?_
        refine J_goto (tgt := 85) d_R_nextToken_148 (by decide) ?_
        rw [pF_cm (j := 12) (k := 15) (by decide), pF_pF, pF_pF]
        refine ih (p + 1) _ (by omega) (by omega) (by omega) ((sc_t (okB_D hB) hB.1 c96).symm.trans he) ?_ (fun i hi => ?_)
        · rw [show p + 1 - q = (p - q) + 1 by omega, hv]
          show _ = (if 99999 < nRs B q (p - q) then nRs B q (p - q) else 10 * nRs B q (p - q) + B (q + (p - q)) - 48)
          rw [show q + (p - q) = p by omega, ← hv, if_neg (by omega)]
        · by_cases hh : i < p - q
          · exact hd i hh
          · rw [show q + i = p by omega]; exact c96
      · refine J_aload_n (i := 0) d_R_nextToken_109 rfl rfl ?_
        refine M_get (x := (nI v)) d_R_nextToken_110 f_R_164 rfl rfl ((pF_k (by decide)).trans pF_at) ?_
        refine J_goto (tgt := 135) d_R_nextToken_113 (by decide) ?_
        refine M_put d_R_nextToken_135 p_R_164 rfl rfl rfl rfl ?_
        refine J_aload_n (i := 0) d_R_nextToken_138 rfl rfl ?_
        refine J_dup d_R_nextToken_139 rfl ?_
        refine M_get (x := (nI p)) d_R_nextToken_140 f_R_149 rfl rfl ((pF_k (by decide)).trans pF_at) ?_
        refine J_iconst (v := nI 1) d_R_nextToken_143 rfl ?_
        refine N_iadd d_R_nextToken_144 ?_
        refine M_put d_R_nextToken_145 p_R_149 rfl rfl rfl rfl ?_
        refine J_goto (tgt := 85) d_R_nextToken_148 (by decide) ?_
        rw [pF_cm (j := 12) (k := 15) (by decide), pF_pF, pF_pF]
        refine ih (p + 1) _ (by omega) (by omega) (by omega) ((sc_t (okB_D hB) hB.1 c96).symm.trans he) ?_ (fun i hi => ?_)
        · rw [show p + 1 - q = (p - q) + 1 by omega, hv]
          show _ = (if 99999 < nRs B q (p - q) then nRs B q (p - q) else 10 * nRs B q (p - q) + B (q + (p - q)) - 48)
          rw [show q + (p - q) = p by omega, ← hv, if_pos (by omega)]
        · by_cases hh : i < p - q
          · exact hd i hh
          · rw [show q + i = p by omega]; exact c96
theorem lp_nt_word {Z : Mem} {B : Nat → Nat} {m : Nat} (hX : Ok Z) (hB : okB B m) (hV : RV Z m B) {q : Nat} (hq : q ≤ m) {z1 : Option Value} {Q : Option Value → Mem → Prop} (kx : JM 1 m_R_nextToken Q 310 [some (.ref 244), z1] [] (pF (pW Z (wR B q)) 244 12 (nI (eL B q)))) : ∀ (k p : Nat) (v : Int64), m - p = k → q ≤ p → p ≤ m → eL B p = eL B q → v = wRs B q (p - q) → JM 1 m_R_nextToken Q 168 [some (.ref 244), z1] [] (pF (pW Z v) 244 12 (nI p)) := by
  have h300 := hB.1
  intro k
  induction k with
  | zero =>
    intro p v hk hqp hpm he hv
    have e1 : eL B p = p := sc_f (okB_L hB p (by omega))
    subst hv
    rw [wR, ← he, e1] at kx
    refine J_aload_n (i := 0) d_R_nextToken_168 rfl rfl ?_
    refine J_aload_n (i := 0) d_R_nextToken_169 rfl rfl ?_
    refine M_get (x := (nI p)) d_R_nextToken_170 f_R_149 rfl rfl pF_at ?_
    refine CV_I (av := [.int (nI p)]) d_R_nextToken_173 s_R_152 (M_rcv rfl (by decide) rfl) (S_R_byteAt_e (okF hX) hB (by repeat first | exact hV | refine RV_F ?_ (by decide) | refine RV_W ?_) (by omega) (by omega)) (by decide) rfl rfl (Nat.le_of_ble_eq_true rfl) ?_
    refine CS_B (av := [.int (-1)]) d_R_nextToken_176 s_R_168 S_R_isLetterByte_e (by decide) rfl rfl (Nat.le_of_ble_eq_true rfl) ?_
    refine B_if_eq (tgt := 310) d_R_nextToken_179 (by decide) (fun c179 => ?_) (fun c179 => absurd c179 (by decide))
    exact kx
  | succ k ih =>
    intro p v hk hqp hpm he hv
    have hb := hB.2.1 p (by omega)
    refine J_aload_n (i := 0) d_R_nextToken_168 rfl rfl ?_
    refine J_aload_n (i := 0) d_R_nextToken_169 rfl rfl ?_
    refine M_get (x := (nI p)) d_R_nextToken_170 f_R_149 rfl rfl pF_at ?_
    refine CV_N (av := [.int (nI p)]) d_R_nextToken_173 s_R_152 (M_rcv rfl (by decide) rfl) (S_R_byteAt_n (okF hX) hB (by repeat first | exact hV | refine RV_F ?_ (by decide) | refine RV_W ?_) (by omega)) (by decide) rfl rfl (Nat.le_of_ble_eq_true rfl) ?_
    refine CS_B (av := [.int (nI (B p))]) d_R_nextToken_176 s_R_168 (S_R_isLetterByte (by omega)) (by decide) rfl rfl (Nat.le_of_ble_eq_true rfl) ?_
    refine B_if_eq (tgt := 310) d_R_nextToken_179 (by decide) (fun c179 => ?_) (fun c179 => ?_)
    · have e1 : eL B p = p := sc_f c179
      subst hv
      rw [wR, ← he, e1] at kx
      exact kx
    · refine J_aload_n (i := 0) d_R_nextToken_182 rfl rfl ?_
      refine J_aload_n (i := 0) d_R_nextToken_183 rfl rfl ?_
      refine M_getW (x := v) d_R_nextToken_184 f_R_171 rfl rfl rfl ?_
      refine J_bipush (v := nI 48) d_R_nextToken_187 rfl ?_
      refine J_lshr d_R_nextToken_189 ?_
      refine J_lconst (v := 0) d_R_nextToken_190 rfl ?_
      refine J_lcmp d_R_nextToken_191 ?_
      refine J_if_eq (tgt := 201) d_R_nextToken_192 (by decide) (fun c192 => ?_) (fun c192 => ?_)
      · refine J_aload_n (i := 0) d_R_nextToken_201 rfl rfl ?_
        refine M_getW (x := v) d_R_nextToken_202 f_R_171 rfl rfl rfl ?_
        refine J_bipush (v := nI 8) d_R_nextToken_205 rfl ?_
        refine J_lshl d_R_nextToken_207 ?_
        refine J_aload_n (i := 0) d_R_nextToken_208 rfl rfl ?_
        refine J_aload_n (i := 0) d_R_nextToken_209 rfl rfl ?_
        refine M_get (x := (nI p)) d_R_nextToken_210 f_R_149 rfl rfl pF_at ?_
        refine CV_N (av := [.int (nI p)]) d_R_nextToken_213 s_R_152 (M_rcv rfl (by decide) rfl) (S_R_byteAt_n (okF hX) hB (by repeat first | exact hV | refine RV_F ?_ (by decide) | refine RV_W ?_) (by omega)) (by decide) rfl rfl (Nat.le_of_ble_eq_true rfl) ?_
        refine J_i2l d_R_nextToken_216 ?_
        refine J_lor d_R_nextToken_217 ?_
        refine M_putW d_R_nextToken_218 p_R_171 rfl ?_
        refine J_aload_n (i := 0) d_R_nextToken_221 rfl rfl ?_
        refine J_dup d_R_nextToken_222 rfl ?_
        refine M_get (x := (nI p)) d_R_nextToken_223 f_R_149 rfl rfl (show (pF (pW Z v) 244 12 (nI p)).1 244 12 = nI p from pF_at) ?_
        refine J_iconst (v := nI 1) d_R_nextToken_226 rfl ?_
        refine N_iadd d_R_nextToken_227 ?_
        refine M_put d_R_nextToken_228 p_R_149 rfl rfl rfl rfl ?_
        refine J_goto (tgt := 168) d_R_nextToken_231 (by decide) ?_
        refine (ih (p + 1) _ (by omega) (by omega) (by omega) ((sc_t (okB_L hB) hB.1 c179).symm.trans he) ?_).eq rfl rfl (congrArg hm (show pF (pF (pW Z ((v <<< (((nI 8)).toInt64 &&& 63)) ||| ((nI (B p))).toInt64)) 244 12 (nI p)) 244 12 (nI (p + 1)) = _ from pF_pF))
        rw [show p + 1 - q = (p - q) + 1 by omega]
        show _ = (if lg_cmp (wRs B q (p - q) >>> ((nI 48).toInt64 &&& 63)) 0 = 0 then (wRs B q (p - q) <<< ((nI 8).toInt64 &&& 63)) ||| (nI (B (q + (p - q)))).toInt64 else 1152921504606846976)
        rw [show q + (p - q) = p by omega, ← hv, if_pos c192]
      · refine J_ldc2 d_R_nextToken_195 w_R_175 ?_
        refine J_goto (tgt := 218) d_R_nextToken_198 (by decide) ?_
        refine M_putW d_R_nextToken_218 p_R_171 rfl ?_
        refine J_aload_n (i := 0) d_R_nextToken_221 rfl rfl ?_
        refine J_dup d_R_nextToken_222 rfl ?_
        refine M_get (x := (nI p)) d_R_nextToken_223 f_R_149 rfl rfl (show (pF (pW Z v) 244 12 (nI p)).1 244 12 = nI p from pF_at) ?_
        refine J_iconst (v := nI 1) d_R_nextToken_226 rfl ?_
        refine N_iadd d_R_nextToken_227 ?_
        refine M_put d_R_nextToken_228 p_R_149 rfl rfl rfl rfl ?_
        refine J_goto (tgt := 168) d_R_nextToken_231 (by decide) ?_
        refine (ih (p + 1) _ (by omega) (by omega) (by omega) ((sc_t (okB_L hB) hB.1 c179).symm.trans he) ?_).eq rfl rfl (congrArg hm (show pF (pF (pW Z (1152921504606846976)) 244 12 (nI p)) 244 12 (nI (p + 1)) = _ from pF_pF))
        rw [show p + 1 - q = (p - q) + 1 by omega]
        show _ = (if lg_cmp (wRs B q (p - q) >>> ((nI 48).toInt64 &&& 63)) 0 = 0 then (wRs B q (p - q) <<< ((nI 8).toInt64 &&& 63)) ||| (nI (B (q + (p - q)))).toInt64 else 1152921504606846976)
        rw [show q + (p - q) = p by omega, ← hv, if_neg c192]
