theorem pF_pA {X : Mem} {a k b : Nat} {v : Int32} {l : List Int32} : pF (pA X b l) a k v = pA (pF X a k v) b l := rfl
theorem pF_arr {X : Mem} {a k : Nat} {v : Int32} : (pF X a k v).2.1 = X.2.1 := rfl
/-- the four bytes of a word -/
def byt (w : Int32) (k : Nat) : Int32 := (w >>> (nI k &&& 31)) &&& nI 255
def tpW (tp : Nat → Int32) (m : Nat) (w : Int32) : Nat → Int32 := fun i => if i = m then byt w 24 else if i = m + 1 then byt w 16 else if i = m + 2 then byt w 8 else if i = m + 3 then byt w 0 else tp i
def tpF (tp : Nat → Int32) (m : Nat) (a b c d e : Int32) : Nat → Int32 := tpW (tpW (tpW (tpW (tpW tp m a) (m + 4) b) (m + 8) c) (m + 12) d) (m + 16) e
def TPv (o f t : Nat) (X : Mem) (m : Nat) (tp : Nat → Int32) : Prop := X.1 o f = nI m ∧ ∀ i, i < 300 → (X.2.1 t).getD i 0 = tp i
theorem tpW_set {l : List Int32} {tp : Nat → Int32} {m : Nat} {w : Int32} (hl : l.length = 300) (hm : m + 4 ≤ 300) (h : ∀ i, i < 300 → l.getD i 0 = tp i) : ∀ i, i < 300 → ((((l.set m (byt w 24)).set (m + 1) (byt w 16)).set (m + 2) (byt w 8)).set (m + 3) (byt w 0)).getD i 0 = tpW tp m w i := by
  intro i hi
  unfold tpW
  by_cases e3 : i = m + 3
  · rw [if_neg (by omega), if_neg (by omega), if_neg (by omega), if_pos e3, e3, set_eq (by simp only [List.length_set]; omega)]
  · rw [set_ne (Ne.symm e3)]
    by_cases e2 : i = m + 2
    · rw [if_neg (by omega), if_neg (by omega), if_pos e2, e2, set_eq (by simp only [List.length_set]; omega)]
    · rw [set_ne (Ne.symm e2)]
      by_cases e1 : i = m + 1
      · rw [if_neg (by omega), if_pos e1, e1, set_eq (by simp only [List.length_set]; omega)]
      · rw [set_ne (Ne.symm e1)]
        by_cases e0 : i = m
        · rw [if_pos e0, e0, set_eq (by omega)]
        · rw [set_ne (Ne.symm e0), if_neg e0, if_neg e1, if_neg e2, if_neg e3, h i hi]
theorem S_O_putWord {X : Mem} {m : Nat} {tp : Nat → Int32} {w : Int32} (hX : Ok X) (hV : TPv 8 1 9 X m tp) (hm : m + 4 ≤ 300) : CM 0 m_O_putWord [.ref 8, .int w] X (fun r Y => r = none ∧ ∃ l : List Int32, l.length = 300 ∧ Y = pA (pF X 8 1 (nI (m + 4))) 9 l ∧ TPv 8 1 9 (pA (pF X 8 1 (nI (m + 4))) 9 l) (m + 4) (tpW tp m w)) := by
  have hl : (X.2.1 9).length = 300 := by rw [hX.1 9 (by decide)]; rfl
  refine CM_of (L := [some (.ref 8), some (.int w), none]) 1 ok_O_putWord (fun _ => Nat.le_of_ble_eq_true rfl) rfl ?_
  refine J_bipush (v := nI 24) d_O_putWord_0 rfl ?_
  refine J_istore_n (i := 2) (L1 := [some (.ref 8), some (.int w), some (.int (nI 24))]) d_O_putWord_2 rfl (by decide) rfl ?_
  refine J_iload_n (i := 2) d_O_putWord_3 rfl rfl ?_
  refine N_if_lt (tgt := 49) d_O_putWord_4 (by decide) (by omega) ?_
  refine J_aload_n (i := 0) d_O_putWord_7 rfl rfl ?_
  refine M_get (x := (nI m)) d_O_putWord_8 f_O_13 rfl rfl hV.1 ?_
  refine J_sipush (v := nI 300) d_O_putWord_11 rfl ?_
  refine N_icmp_ge (tgt := 49) d_O_putWord_14 (by decide) (by omega) (by omega) (fun c14 => absurd c14 (by omega)) (fun c14 => ?_)
  refine J_aload_n (i := 0) d_O_putWord_17 rfl rfl ?_
  refine M_getR (b := 9) d_O_putWord_18 f_O_9 rfl rfl rfl ?_
  refine J_aload_n (i := 0) d_O_putWord_21 rfl rfl ?_
  refine M_get (x := (nI m)) d_O_putWord_22 f_O_13 rfl rfl hV.1 ?_
  refine J_iload_n (i := 1) d_O_putWord_25 rfl rfl ?_
  refine J_iload_n (i := 2) d_O_putWord_26 rfl rfl ?_
  refine J_ishr d_O_putWord_27 ?_
  refine J_sipush (v := nI 255) d_O_putWord_28 rfl ?_
  refine J_iand d_O_putWord_31 ?_
  refine N_iast d_O_putWord_32 rfl (by decide) (by omega) (ltL hX (a := 9) (n := 300) (by decide) rfl (by omega)) ?_
  refine J_aload_n (i := 0) d_O_putWord_33 rfl rfl ?_
  refine J_dup d_O_putWord_34 rfl ?_
  refine M_get (x := (nI m)) d_O_putWord_35 f_O_13 rfl rfl hV.1 ?_
  refine J_iconst (v := nI 1) d_O_putWord_38 rfl ?_
  refine N_iadd d_O_putWord_39 ?_
  refine M_put d_O_putWord_40 p_O_13 rfl rfl rfl rfl ?_
  refine J_iinc (v := (nI 16)) (L1 := [some (.ref 8), some (.int w), some (.int (nI 16))]) d_O_putWord_43 rfl rfl (by decide) rfl ?_
  refine J_goto (tgt := 3) d_O_putWord_46 (by decide) ?_
  refine J_iload_n (i := 2) d_O_putWord_3 rfl rfl ?_
  refine N_if_lt (tgt := 49) d_O_putWord_4 (by decide) (by omega) ?_
  refine J_aload_n (i := 0) d_O_putWord_7 rfl rfl ?_
  refine M_get (x := (nI (m + 1))) d_O_putWord_8 f_O_13 rfl rfl rfl ?_
  refine J_sipush (v := nI 300) d_O_putWord_11 rfl ?_
  refine N_icmp_ge (tgt := 49) d_O_putWord_14 (by decide) (by omega) (by omega) (fun c14_1 => absurd c14_1 (by omega)) (fun c14_1 => ?_)
  refine J_aload_n (i := 0) d_O_putWord_17 rfl rfl ?_
  refine M_getR (b := 9) d_O_putWord_18 f_O_9 rfl rfl rfl ?_
  refine J_aload_n (i := 0) d_O_putWord_21 rfl rfl ?_
  refine M_get (x := (nI (m + 1))) d_O_putWord_22 f_O_13 rfl rfl rfl ?_
  refine J_iload_n (i := 1) d_O_putWord_25 rfl rfl ?_
  refine J_iload_n (i := 2) d_O_putWord_26 rfl rfl ?_
  refine J_ishr d_O_putWord_27 ?_
  refine J_sipush (v := nI 255) d_O_putWord_28 rfl ?_
  refine J_iand d_O_putWord_31 ?_
  refine N_iast d_O_putWord_32 rfl (by decide) (by omega) (ltL (okS hX rfl) (a := 9) (n := 300) (by decide) rfl (by omega)) ?_
  refine J_aload_n (i := 0) d_O_putWord_33 rfl rfl ?_
  refine J_dup d_O_putWord_34 rfl ?_
  refine M_get (x := (nI (m + 1))) d_O_putWord_35 f_O_13 rfl rfl rfl ?_
  refine J_iconst (v := nI 1) d_O_putWord_38 rfl ?_
  refine N_iadd d_O_putWord_39 ?_
  refine M_put d_O_putWord_40 p_O_13 rfl rfl rfl rfl ?_
  refine J_iinc (v := (nI 8)) (L1 := [some (.ref 8), some (.int w), some (.int (nI 8))]) d_O_putWord_43 rfl rfl (by decide) rfl ?_
  refine J_goto (tgt := 3) d_O_putWord_46 (by decide) ?_
  refine J_iload_n (i := 2) d_O_putWord_3 rfl rfl ?_
  refine N_if_lt (tgt := 49) d_O_putWord_4 (by decide) (by omega) ?_
  refine J_aload_n (i := 0) d_O_putWord_7 rfl rfl ?_
  refine M_get (x := (nI ((m + 1) + 1))) d_O_putWord_8 f_O_13 rfl rfl rfl ?_
  refine J_sipush (v := nI 300) d_O_putWord_11 rfl ?_
  refine N_icmp_ge (tgt := 49) d_O_putWord_14 (by decide) (by omega) (by omega) (fun c14_2 => absurd c14_2 (by omega)) (fun c14_2 => ?_)
  refine J_aload_n (i := 0) d_O_putWord_17 rfl rfl ?_
  refine M_getR (b := 9) d_O_putWord_18 f_O_9 rfl rfl rfl ?_
  refine J_aload_n (i := 0) d_O_putWord_21 rfl rfl ?_
  refine M_get (x := (nI ((m + 1) + 1))) d_O_putWord_22 f_O_13 rfl rfl rfl ?_
  refine J_iload_n (i := 1) d_O_putWord_25 rfl rfl ?_
  refine J_iload_n (i := 2) d_O_putWord_26 rfl rfl ?_
  refine J_ishr d_O_putWord_27 ?_
  refine J_sipush (v := nI 255) d_O_putWord_28 rfl ?_
  refine J_iand d_O_putWord_31 ?_
  refine N_iast d_O_putWord_32 rfl (by decide) (by omega) (ltL (okS (okS hX rfl) rfl) (a := 9) (n := 300) (by decide) rfl (by omega)) ?_
  refine J_aload_n (i := 0) d_O_putWord_33 rfl rfl ?_
  refine J_dup d_O_putWord_34 rfl ?_
  refine M_get (x := (nI ((m + 1) + 1))) d_O_putWord_35 f_O_13 rfl rfl rfl ?_
  refine J_iconst (v := nI 1) d_O_putWord_38 rfl ?_
  refine N_iadd d_O_putWord_39 ?_
  refine M_put d_O_putWord_40 p_O_13 rfl rfl rfl rfl ?_
  refine J_iinc (v := (nI 0)) (L1 := [some (.ref 8), some (.int w), some (.int (nI 0))]) d_O_putWord_43 rfl rfl (by decide) rfl ?_
  refine J_goto (tgt := 3) d_O_putWord_46 (by decide) ?_
  refine J_iload_n (i := 2) d_O_putWord_3 rfl rfl ?_
  refine N_if_lt (tgt := 49) d_O_putWord_4 (by decide) (by omega) ?_
  refine J_aload_n (i := 0) d_O_putWord_7 rfl rfl ?_
  refine M_get (x := (nI (((m + 1) + 1) + 1))) d_O_putWord_8 f_O_13 rfl rfl rfl ?_
  refine J_sipush (v := nI 300) d_O_putWord_11 rfl ?_
  refine N_icmp_ge (tgt := 49) d_O_putWord_14 (by decide) (by omega) (by omega) (fun c14_3 => absurd c14_3 (by omega)) (fun c14_3 => ?_)
  refine J_aload_n (i := 0) d_O_putWord_17 rfl rfl ?_
  refine M_getR (b := 9) d_O_putWord_18 f_O_9 rfl rfl rfl ?_
  refine J_aload_n (i := 0) d_O_putWord_21 rfl rfl ?_
  refine M_get (x := (nI (((m + 1) + 1) + 1))) d_O_putWord_22 f_O_13 rfl rfl rfl ?_
  refine J_iload_n (i := 1) d_O_putWord_25 rfl rfl ?_
  refine J_iload_n (i := 2) d_O_putWord_26 rfl rfl ?_
  refine J_ishr d_O_putWord_27 ?_
  refine J_sipush (v := nI 255) d_O_putWord_28 rfl ?_
  refine J_iand d_O_putWord_31 ?_
  refine N_iast d_O_putWord_32 rfl (by decide) (by omega) (ltL (okS (okS (okS hX rfl) rfl) rfl) (a := 9) (n := 300) (by decide) rfl (by omega)) ?_
  refine J_aload_n (i := 0) d_O_putWord_33 rfl rfl ?_
  refine J_dup d_O_putWord_34 rfl ?_
  refine M_get (x := (nI (((m + 1) + 1) + 1))) d_O_putWord_35 f_O_13 rfl rfl rfl ?_
  refine J_iconst (v := nI 1) d_O_putWord_38 rfl ?_
  refine N_iadd d_O_putWord_39 ?_
  refine M_put d_O_putWord_40 p_O_13 rfl rfl rfl rfl ?_
  refine J_iinc (v := (-8)) (L1 := [some (.ref 8), some (.int w), some (.int (-8))]) d_O_putWord_43 rfl rfl (by decide) rfl ?_
  refine J_goto (tgt := 3) d_O_putWord_46 (by decide) ?_
  refine J_iload_n (i := 2) d_O_putWord_3 rfl rfl ?_
  refine J_if_lt (tgt := 49) d_O_putWord_4 (by decide) (fun c4_4 => ?_) (fun c4_4 => absurd c4_4 (by decide))
  refine M_vr d_O_putWord_49 rfl ?_
  refine ⟨rfl, (((((X.2.1 9).set m (byt w 24)).set (m + 1) (byt w 16)).set (m + 2) (byt w 8)).set (m + 3) (byt w 0)), by simp only [List.length_set]; exact hl, ?_, rfl, ?_⟩
  · simp only [pF_pA, pA_pA, pF_pF, pA_at, pF_arr]
    rfl
  · rw [pA_at]
    exact tpW_set hl hm hV.2

theorem S_O_feed {X : Mem} {m : Nat} {tp : Nat → Int32} {a b c d e : Int32} (hX : Ok X) (hV : TPv 8 1 9 X m tp) (hm300 : m ≤ 300) : CM 1 m_O_feed [.ref 8, .int a, .int b, .int c, .int d, .int e] X (fun r Y => r = some (.int (if m + 20 ≤ 300 then nI (m + 20) else (-1))) ∧ if m + 20 ≤ 300 then ∃ l : List Int32, l.length = 300 ∧ Y = pA (pF X 8 1 (nI (m + 20))) 9 l ∧ ∀ i, i < 300 → (Y.2.1 9).getD i 0 = tpF tp m a b c d e i else Y = X) := by
  refine CM_of (L := [some (.ref 8), some (.int a), some (.int b), some (.int c), some (.int d), some (.int e)]) 0 ok_O_feed (fun _ => Nat.le_of_ble_eq_true rfl) rfl ?_
  refine J_aload_n (i := 0) d_O_feed_0 rfl rfl ?_
  refine M_get (x := (nI m)) d_O_feed_1 f_O_13 rfl rfl hV.1 ?_
  refine J_bipush (v := nI 20) d_O_feed_4 rfl ?_
  refine N_iadd d_O_feed_6 ?_
  refine J_sipush (v := nI 300) d_O_feed_7 rfl ?_
  refine N_icmp_le (tgt := 15) d_O_feed_10 (by decide) (by omega) (by omega) (fun c10 => ?_) (fun c10 => ?_)
  · refine J_aload_n (i := 0) d_O_feed_15 rfl rfl ?_
    refine J_iload_n (i := 1) d_O_feed_16 rfl rfl ?_
    refine M_callV (av := [.int a]) d_O_feed_17 s_O_81 (M_rcv rfl (by decide) rfl) (S_O_putWord hX hV (by omega)) (by decide) rfl rfl (Nat.le_of_ble_eq_true rfl) (fun r Y hq => ?_)
    obtain ⟨rfl, l1, hl1, rfl, hV1⟩ := hq
    have hX1 : Ok (pA (pF X 8 1 (nI (m + 4))) 9 l1) := okA (okF hX) rfl (by rw [hl1]; exact (hX.1 9 (by decide)).symm)
    refine J_aload_n (i := 0) d_O_feed_20 rfl rfl ?_
    refine J_iload_n (i := 2) d_O_feed_21 rfl rfl ?_
    refine M_callV (av := [.int b]) d_O_feed_22 s_O_81 (M_rcv rfl (by decide) rfl) (S_O_putWord hX1 hV1 (by omega)) (by decide) rfl rfl (Nat.le_of_ble_eq_true rfl) (fun r Y hq => ?_)
    obtain ⟨rfl, l2, hl2, rfl, hV2⟩ := hq
    rw [pF_pA, pF_pF, pA_pA] at hV2 ⊢
    have hX2 : Ok (pA (pF X 8 1 (nI (m + 8))) 9 l2) := okA (okF hX) rfl (by rw [hl2]; exact (hX.1 9 (by decide)).symm)
    refine J_aload_n (i := 0) d_O_feed_25 rfl rfl ?_
    refine J_iload_n (i := 3) d_O_feed_26 rfl rfl ?_
    refine M_callV (av := [.int c]) d_O_feed_27 s_O_81 (M_rcv rfl (by decide) rfl) (S_O_putWord hX2 hV2 (by omega)) (by decide) rfl rfl (Nat.le_of_ble_eq_true rfl) (fun r Y hq => ?_)
    obtain ⟨rfl, l3, hl3, rfl, hV3⟩ := hq
    rw [pF_pA, pF_pF, pA_pA] at hV3 ⊢
    have hX3 : Ok (pA (pF X 8 1 (nI (m + 12))) 9 l3) := okA (okF hX) rfl (by rw [hl3]; exact (hX.1 9 (by decide)).symm)
    refine J_aload_n (i := 0) d_O_feed_30 rfl rfl ?_
    refine J_iload d_O_feed_31 rfl ?_
    refine M_callV (av := [.int d]) d_O_feed_33 s_O_81 (M_rcv rfl (by decide) rfl) (S_O_putWord hX3 hV3 (by omega)) (by decide) rfl rfl (Nat.le_of_ble_eq_true rfl) (fun r Y hq => ?_)
    obtain ⟨rfl, l4, hl4, rfl, hV4⟩ := hq
    rw [pF_pA, pF_pF, pA_pA] at hV4 ⊢
    have hX4 : Ok (pA (pF X 8 1 (nI (m + 16))) 9 l4) := okA (okF hX) rfl (by rw [hl4]; exact (hX.1 9 (by decide)).symm)
    refine J_aload_n (i := 0) d_O_feed_36 rfl rfl ?_
    refine J_iload d_O_feed_37 rfl ?_
    refine M_callV (av := [.int e]) d_O_feed_39 s_O_81 (M_rcv rfl (by decide) rfl) (S_O_putWord hX4 hV4 (by omega)) (by decide) rfl rfl (Nat.le_of_ble_eq_true rfl) (fun r Y hq => ?_)
    obtain ⟨rfl, l5, hl5, rfl, hV5⟩ := hq
    rw [pF_pA, pF_pF, pA_pA] at hV5 ⊢
    have hX5 : Ok (pA (pF X 8 1 (nI (m + 20))) 9 l5) := okA (okF hX) rfl (by rw [hl5]; exact (hX.1 9 (by decide)).symm)
    refine J_aload_n (i := 0) d_O_feed_42 rfl rfl ?_
    refine M_get (x := (nI (m + 20))) d_O_feed_43 f_O_13 rfl rfl hV5.1 ?_
    refine M_ir d_O_feed_46 rfl rfl ?_
    refine ⟨by rw [if_pos (by omega)], ?_⟩
    rw [if_pos (by omega)]
    exact ⟨l5, hl5, rfl, hV5.2⟩
  · refine J_iconst (v := (-1)) d_O_feed_13 rfl ?_
    refine M_ir d_O_feed_14 rfl rfl ?_
    refine ⟨by rw [if_neg (by omega)], ?_⟩
    rw [if_neg (by omega)]

theorem S_R_four {X : Mem} {m : Nat} {tp : Nat → Int32} {w : Int32} (hX : Ok X) (hV : TPv 244 9 253 X m tp) (hm : m + 4 ≤ 300) : CM 0 m_R_four [.ref 244, .int w] X (fun r Y => r = none ∧ ∃ l : List Int32, l.length = 300 ∧ Y = pA (pF X 244 9 (nI (m + 4))) 253 l ∧ TPv 244 9 253 (pA (pF X 244 9 (nI (m + 4))) 253 l) (m + 4) (tpW tp m w)) := by
  have hl : (X.2.1 253).length = 300 := by rw [hX.1 253 (by decide)]; rfl
  refine CM_of (L := [some (.ref 244), some (.int w), none]) 1 ok_R_four (fun _ => Nat.le_of_ble_eq_true rfl) rfl ?_
  refine J_bipush (v := nI 24) d_R_four_0 rfl ?_
  refine J_istore_n (i := 2) (L1 := [some (.ref 244), some (.int w), some (.int (nI 24))]) d_R_four_2 rfl (by decide) rfl ?_
  refine J_iload_n (i := 2) d_R_four_3 rfl rfl ?_
  refine N_if_lt (tgt := 39) d_R_four_4 (by decide) (by omega) ?_
  refine J_aload_n (i := 0) d_R_four_7 rfl rfl ?_
  refine M_getR (b := 253) d_R_four_8 f_R_34 rfl rfl rfl ?_
  refine J_aload_n (i := 0) d_R_four_11 rfl rfl ?_
  refine M_get (x := (nI m)) d_R_four_12 f_R_142 rfl rfl hV.1 ?_
  refine J_iload_n (i := 1) d_R_four_15 rfl rfl ?_
  refine J_iload_n (i := 2) d_R_four_16 rfl rfl ?_
  refine J_ishr d_R_four_17 ?_
  refine J_sipush (v := nI 255) d_R_four_18 rfl ?_
  refine J_iand d_R_four_21 ?_
  refine N_iast d_R_four_22 rfl (by decide) (by omega) (ltL hX (a := 253) (n := 300) (by decide) rfl (by omega)) ?_
  refine J_aload_n (i := 0) d_R_four_23 rfl rfl ?_
  refine J_dup d_R_four_24 rfl ?_
  refine M_get (x := (nI m)) d_R_four_25 f_R_142 rfl rfl hV.1 ?_
  refine J_iconst (v := nI 1) d_R_four_28 rfl ?_
  refine N_iadd d_R_four_29 ?_
  refine M_put d_R_four_30 p_R_142 rfl rfl rfl rfl ?_
  refine J_iinc (v := (nI 16)) (L1 := [some (.ref 244), some (.int w), some (.int (nI 16))]) d_R_four_33 rfl rfl (by decide) rfl ?_
  refine J_goto (tgt := 3) d_R_four_36 (by decide) ?_
  refine J_iload_n (i := 2) d_R_four_3 rfl rfl ?_
  refine N_if_lt (tgt := 39) d_R_four_4 (by decide) (by omega) ?_
  refine J_aload_n (i := 0) d_R_four_7 rfl rfl ?_
  refine M_getR (b := 253) d_R_four_8 f_R_34 rfl rfl rfl ?_
  refine J_aload_n (i := 0) d_R_four_11 rfl rfl ?_
  refine M_get (x := (nI (m + 1))) d_R_four_12 f_R_142 rfl rfl rfl ?_
  refine J_iload_n (i := 1) d_R_four_15 rfl rfl ?_
  refine J_iload_n (i := 2) d_R_four_16 rfl rfl ?_
  refine J_ishr d_R_four_17 ?_
  refine J_sipush (v := nI 255) d_R_four_18 rfl ?_
  refine J_iand d_R_four_21 ?_
  refine N_iast d_R_four_22 rfl (by decide) (by omega) (ltL (okS hX rfl) (a := 253) (n := 300) (by decide) rfl (by omega)) ?_
  refine J_aload_n (i := 0) d_R_four_23 rfl rfl ?_
  refine J_dup d_R_four_24 rfl ?_
  refine M_get (x := (nI (m + 1))) d_R_four_25 f_R_142 rfl rfl rfl ?_
  refine J_iconst (v := nI 1) d_R_four_28 rfl ?_
  refine N_iadd d_R_four_29 ?_
  refine M_put d_R_four_30 p_R_142 rfl rfl rfl rfl ?_
  refine J_iinc (v := (nI 8)) (L1 := [some (.ref 244), some (.int w), some (.int (nI 8))]) d_R_four_33 rfl rfl (by decide) rfl ?_
  refine J_goto (tgt := 3) d_R_four_36 (by decide) ?_
  refine J_iload_n (i := 2) d_R_four_3 rfl rfl ?_
  refine N_if_lt (tgt := 39) d_R_four_4 (by decide) (by omega) ?_
  refine J_aload_n (i := 0) d_R_four_7 rfl rfl ?_
  refine M_getR (b := 253) d_R_four_8 f_R_34 rfl rfl rfl ?_
  refine J_aload_n (i := 0) d_R_four_11 rfl rfl ?_
  refine M_get (x := (nI ((m + 1) + 1))) d_R_four_12 f_R_142 rfl rfl rfl ?_
  refine J_iload_n (i := 1) d_R_four_15 rfl rfl ?_
  refine J_iload_n (i := 2) d_R_four_16 rfl rfl ?_
  refine J_ishr d_R_four_17 ?_
  refine J_sipush (v := nI 255) d_R_four_18 rfl ?_
  refine J_iand d_R_four_21 ?_
  refine N_iast d_R_four_22 rfl (by decide) (by omega) (ltL (okS (okS hX rfl) rfl) (a := 253) (n := 300) (by decide) rfl (by omega)) ?_
  refine J_aload_n (i := 0) d_R_four_23 rfl rfl ?_
  refine J_dup d_R_four_24 rfl ?_
  refine M_get (x := (nI ((m + 1) + 1))) d_R_four_25 f_R_142 rfl rfl rfl ?_
  refine J_iconst (v := nI 1) d_R_four_28 rfl ?_
  refine N_iadd d_R_four_29 ?_
  refine M_put d_R_four_30 p_R_142 rfl rfl rfl rfl ?_
  refine J_iinc (v := (nI 0)) (L1 := [some (.ref 244), some (.int w), some (.int (nI 0))]) d_R_four_33 rfl rfl (by decide) rfl ?_
  refine J_goto (tgt := 3) d_R_four_36 (by decide) ?_
  refine J_iload_n (i := 2) d_R_four_3 rfl rfl ?_
  refine N_if_lt (tgt := 39) d_R_four_4 (by decide) (by omega) ?_
  refine J_aload_n (i := 0) d_R_four_7 rfl rfl ?_
  refine M_getR (b := 253) d_R_four_8 f_R_34 rfl rfl rfl ?_
  refine J_aload_n (i := 0) d_R_four_11 rfl rfl ?_
  refine M_get (x := (nI (((m + 1) + 1) + 1))) d_R_four_12 f_R_142 rfl rfl rfl ?_
  refine J_iload_n (i := 1) d_R_four_15 rfl rfl ?_
  refine J_iload_n (i := 2) d_R_four_16 rfl rfl ?_
  refine J_ishr d_R_four_17 ?_
  refine J_sipush (v := nI 255) d_R_four_18 rfl ?_
  refine J_iand d_R_four_21 ?_
  refine N_iast d_R_four_22 rfl (by decide) (by omega) (ltL (okS (okS (okS hX rfl) rfl) rfl) (a := 253) (n := 300) (by decide) rfl (by omega)) ?_
  refine J_aload_n (i := 0) d_R_four_23 rfl rfl ?_
  refine J_dup d_R_four_24 rfl ?_
  refine M_get (x := (nI (((m + 1) + 1) + 1))) d_R_four_25 f_R_142 rfl rfl rfl ?_
  refine J_iconst (v := nI 1) d_R_four_28 rfl ?_
  refine N_iadd d_R_four_29 ?_
  refine M_put d_R_four_30 p_R_142 rfl rfl rfl rfl ?_
  refine J_iinc (v := (-8)) (L1 := [some (.ref 244), some (.int w), some (.int (-8))]) d_R_four_33 rfl rfl (by decide) rfl ?_
  refine J_goto (tgt := 3) d_R_four_36 (by decide) ?_
  refine J_iload_n (i := 2) d_R_four_3 rfl rfl ?_
  refine J_if_lt (tgt := 39) d_R_four_4 (by decide) (fun c4_4 => ?_) (fun c4_4 => absurd c4_4 (by decide))
  refine M_vr d_R_four_39 rfl ?_
  refine ⟨rfl, (((((X.2.1 253).set m (byt w 24)).set (m + 1) (byt w 16)).set (m + 2) (byt w 8)).set (m + 3) (byt w 0)), by simp only [List.length_set]; exact hl, ?_, rfl, ?_⟩
  · simp only [pF_pA, pA_pA, pF_pF, pA_at, pF_arr]
    rfl
  · rw [pA_at]
    exact tpW_set hl hm hV.2

theorem S_R_feed {X : Mem} {m : Nat} {tp : Nat → Int32} {a b c d e : Int32} (hX : Ok X) (hV : TPv 244 9 253 X m tp) (hm300 : m ≤ 300) : CM 1 m_R_feed [.ref 244, .int a, .int b, .int c, .int d, .int e] X (fun r Y => r = some (.int (if m + 20 ≤ 300 then nI (m + 20) else (-1))) ∧ if m + 20 ≤ 300 then ∃ l : List Int32, l.length = 300 ∧ Y = pA (pF X 244 9 (nI (m + 20))) 253 l ∧ ∀ i, i < 300 → (Y.2.1 253).getD i 0 = tpF tp m a b c d e i else Y = X) := by
  refine CM_of (L := [some (.ref 244), some (.int a), some (.int b), some (.int c), some (.int d), some (.int e)]) 0 ok_R_feed (fun _ => Nat.le_of_ble_eq_true rfl) rfl ?_
  refine J_aload_n (i := 0) d_R_feed_0 rfl rfl ?_
  refine M_get (x := (nI m)) d_R_feed_1 f_R_142 rfl rfl hV.1 ?_
  refine J_bipush (v := nI 20) d_R_feed_4 rfl ?_
  refine N_iadd d_R_feed_6 ?_
  refine J_sipush (v := nI 300) d_R_feed_7 rfl ?_
  refine N_icmp_le (tgt := 15) d_R_feed_10 (by decide) (by omega) (by omega) (fun c10 => ?_) (fun c10 => ?_)
  · refine J_aload_n (i := 0) d_R_feed_15 rfl rfl ?_
    refine J_iload_n (i := 1) d_R_feed_16 rfl rfl ?_
    refine M_callV (av := [.int a]) d_R_feed_17 s_R_145 (M_rcv rfl (by decide) rfl) (S_R_four hX hV (by omega)) (by decide) rfl rfl (Nat.le_of_ble_eq_true rfl) (fun r Y hq => ?_)
    obtain ⟨rfl, l1, hl1, rfl, hV1⟩ := hq
    have hX1 : Ok (pA (pF X 244 9 (nI (m + 4))) 253 l1) := okA (okF hX) rfl (by rw [hl1]; exact (hX.1 253 (by decide)).symm)
    refine J_aload_n (i := 0) d_R_feed_20 rfl rfl ?_
    refine J_iload_n (i := 2) d_R_feed_21 rfl rfl ?_
    refine M_callV (av := [.int b]) d_R_feed_22 s_R_145 (M_rcv rfl (by decide) rfl) (S_R_four hX1 hV1 (by omega)) (by decide) rfl rfl (Nat.le_of_ble_eq_true rfl) (fun r Y hq => ?_)
    obtain ⟨rfl, l2, hl2, rfl, hV2⟩ := hq
    rw [pF_pA, pF_pF, pA_pA] at hV2 ⊢
    have hX2 : Ok (pA (pF X 244 9 (nI (m + 8))) 253 l2) := okA (okF hX) rfl (by rw [hl2]; exact (hX.1 253 (by decide)).symm)
    refine J_aload_n (i := 0) d_R_feed_25 rfl rfl ?_
    refine J_iload_n (i := 3) d_R_feed_26 rfl rfl ?_
    refine M_callV (av := [.int c]) d_R_feed_27 s_R_145 (M_rcv rfl (by decide) rfl) (S_R_four hX2 hV2 (by omega)) (by decide) rfl rfl (Nat.le_of_ble_eq_true rfl) (fun r Y hq => ?_)
    obtain ⟨rfl, l3, hl3, rfl, hV3⟩ := hq
    rw [pF_pA, pF_pF, pA_pA] at hV3 ⊢
    have hX3 : Ok (pA (pF X 244 9 (nI (m + 12))) 253 l3) := okA (okF hX) rfl (by rw [hl3]; exact (hX.1 253 (by decide)).symm)
    refine J_aload_n (i := 0) d_R_feed_30 rfl rfl ?_
    refine J_iload d_R_feed_31 rfl ?_
    refine M_callV (av := [.int d]) d_R_feed_33 s_R_145 (M_rcv rfl (by decide) rfl) (S_R_four hX3 hV3 (by omega)) (by decide) rfl rfl (Nat.le_of_ble_eq_true rfl) (fun r Y hq => ?_)
    obtain ⟨rfl, l4, hl4, rfl, hV4⟩ := hq
    rw [pF_pA, pF_pF, pA_pA] at hV4 ⊢
    have hX4 : Ok (pA (pF X 244 9 (nI (m + 16))) 253 l4) := okA (okF hX) rfl (by rw [hl4]; exact (hX.1 253 (by decide)).symm)
    refine J_aload_n (i := 0) d_R_feed_36 rfl rfl ?_
    refine J_iload d_R_feed_37 rfl ?_
    refine M_callV (av := [.int e]) d_R_feed_39 s_R_145 (M_rcv rfl (by decide) rfl) (S_R_four hX4 hV4 (by omega)) (by decide) rfl rfl (Nat.le_of_ble_eq_true rfl) (fun r Y hq => ?_)
    obtain ⟨rfl, l5, hl5, rfl, hV5⟩ := hq
    rw [pF_pA, pF_pF, pA_pA] at hV5 ⊢
    have hX5 : Ok (pA (pF X 244 9 (nI (m + 20))) 253 l5) := okA (okF hX) rfl (by rw [hl5]; exact (hX.1 253 (by decide)).symm)
    refine J_aload_n (i := 0) d_R_feed_42 rfl rfl ?_
    refine M_get (x := (nI (m + 20))) d_R_feed_43 f_R_142 rfl rfl hV5.1 ?_
    refine M_ir d_R_feed_46 rfl rfl ?_
    refine ⟨by rw [if_pos (by omega)], ?_⟩
    rw [if_pos (by omega)]
    exact ⟨l5, hl5, rfl, hV5.2⟩
  · refine J_iconst (v := (-1)) d_R_feed_13 rfl ?_
    refine M_ir d_R_feed_14 rfl rfl ?_
    refine ⟨by rw [if_neg (by omega)], ?_⟩
    rw [if_neg (by omega)]

theorem S_O_end {X : Mem} {m : Nat} {v : Int32} (h1 : X.1 8 1 = nI m) (hm300 : m ≤ 300) : CM 1 m_O_end [.ref 8, .int v] X (rI (if inR v m then v else (-1)) (if inR v m then pF X 8 1 v else X)) := by
  refine CM_of (L := [some (.ref 8), some (.int v)]) 0 ok_O_end (fun _ => Nat.le_of_ble_eq_true rfl) rfl ?_
  refine J_iload_n (i := 1) d_O_end_0 rfl rfl ?_
  refine J_if_lt (tgt := 12) d_O_end_1 (by decide) (fun c1 => ?_) (fun c1 => ?_)
  · refine J_iconst (v := (-1)) d_O_end_12 rfl ?_
    refine M_ir d_O_end_13 rfl rfl ?_
    have h : inR v m = false := inR_no1 c1
    exact ⟨by rw [h] <;> rfl, by rw [h] <;> rfl⟩
  · refine J_iload_n (i := 1) d_O_end_4 rfl rfl ?_
    refine J_aload_n (i := 0) d_O_end_5 rfl rfl ?_
    refine M_get (x := (nI m)) d_O_end_6 f_O_13 rfl rfl h1 ?_
    refine J_icmp_le (tgt := 14) d_O_end_9 (by decide) (fun c9 => ?_) (fun c9 => ?_)
    · refine J_aload_n (i := 0) d_O_end_14 rfl rfl ?_
      refine J_iload_n (i := 1) d_O_end_15 rfl rfl ?_
      refine M_put d_O_end_16 p_O_13 rfl rfl rfl rfl ?_
      refine J_iload_n (i := 1) d_O_end_19 rfl rfl ?_
      refine M_ir d_O_end_20 rfl rfl ?_
      have h : inR v m = true := inR_le (by omega) c1 c9
      exact ⟨by rw [h] <;> rfl, by rw [h] <;> rfl⟩
    · refine J_iconst (v := (-1)) d_O_end_12 rfl ?_
      refine M_ir d_O_end_13 rfl rfl ?_
      have h : inR v m = false := inR_gt (by omega) c1 c9
      exact ⟨by rw [h] <;> rfl, by rw [h] <;> rfl⟩

theorem S_R_end {X : Mem} {m : Nat} {v : Int32} (h1 : X.1 244 9 = nI m) (hm300 : m ≤ 300) : CM 1 m_R_end [.ref 244, .int v] X (rI (if inR v m then v else (-1)) (if inR v m then pF X 244 9 v else X)) := by
  refine CM_of (L := [some (.ref 244), some (.int v)]) 0 ok_R_end (fun _ => Nat.le_of_ble_eq_true rfl) rfl ?_
  refine J_iload_n (i := 1) d_R_end_0 rfl rfl ?_
  refine J_iconst (v := nI 0) d_R_end_1 rfl ?_
  refine J_aload_n (i := 0) d_R_end_2 rfl rfl ?_
  refine M_get (x := (nI m)) d_R_end_3 f_R_142 rfl rfl h1 ?_
  refine CS_B (av := [.int v, .int (nI 0), .int (nI m)]) d_R_end_6 s_R_89 (S_R_isIn) (by decide) rfl rfl (Nat.le_of_ble_eq_true rfl) ?_
  refine B_if_ne (tgt := 14) d_R_end_9 (by decide) (fun c9 => ?_) (fun c9 => ?_)
  · refine J_aload_n (i := 0) d_R_end_14 rfl rfl ?_
    refine J_iload_n (i := 1) d_R_end_15 rfl rfl ?_
    refine M_put d_R_end_16 p_R_142 rfl rfl rfl rfl ?_
    refine J_iload_n (i := 1) d_R_end_19 rfl rfl ?_
    refine M_ir d_R_end_20 rfl rfl ?_
    have h : inR v m = true := c9
    exact ⟨by rw [h] <;> rfl, by rw [h] <;> rfl⟩
  · refine J_iconst (v := (-1)) d_R_end_12 rfl ?_
    refine M_ir d_R_end_13 rfl rfl ?_
    have h : inR v m = false := c9
    exact ⟨by rw [h] <;> rfl, by rw [h] <;> rfl⟩

