def woN (st rg : Nat → Nat) (i : Nat) : Nat := bc (st i ^^^ rg i)
def wvN (st rg : Nat → Nat) (b : Nat) : Nat := if b = 8 then 0 else woN st rg b
def wornN (m : Nat) (st rg : Nat → Nat) : Nat := itr (fun i b => if wvN st rg b < woN st rg i then i else b) 8 m
theorem wv_8 {st rg : Nat → Nat} : wvN st rg 8 = 0 := rfl
theorem wv_lt {st rg : Nat → Nat} {b : Nat} (h : b < 8) : wvN st rg b = woN st rg b := if_neg (by omega)
theorem wo_le {st rg : Nat → Nat} {b : Nat} : woN st rg b ≤ 32 := bc_le _
theorem wv_le {st rg : Nat → Nat} {b : Nat} : wvN st rg b ≤ 32 := by
  unfold wvN
  split
  · decide
  · exact wo_le
theorem wn_le {st rg : Nat → Nat} {m : Nat} (hm : m ≤ 8) : ∀ k, k ≤ m → itr (fun i b => if wvN st rg b < woN st rg i then i else b) 8 k ≤ 8 :=
  itr_invN (fun _ (x : Nat) => x ≤ 8) m (Nat.le_refl 8) (fun i x hi hx => by
    try dsimp only
    split <;> omega)
theorem S_H_countOther {X : Mem} {m : Nat} {st rg : Nat → Nat} (hX : Ok X) (hS : CSt X m st rg) {i : Nat} (hi : i < m) : CM 1 m_H_countOther [.ref 18, .int (nI i)] X (rN (woN st rg i) X) := by
  have hm8 := hS.1
  have h1 := (hS.2.2.1 i (by omega)).2
  have h2 := (hS.2.2.2 i (by omega)).2
  refine CM_of (L := [some (.ref 18), some (.int (nI i))]) 0 ok_H_countOther (fun _ => Nat.le_of_ble_eq_true rfl) rfl ?_
  refine J_aload_n (i := 0) d_H_countOther_0 rfl rfl ?_
  refine M_getR (b := 19) d_H_countOther_1 f_H_12 rfl rfl rfl ?_
  refine M_getR (b := 20) d_H_countOther_4 f_H_70 rfl rfl rfl ?_
  refine J_iload_n (i := 1) d_H_countOther_7 rfl rfl ?_
  refine N_iald (x := (nI (st i))) d_H_countOther_8 rfl (by omega) (ltL hX (a := 20) (n := 8) (by decide) rfl (by omega)) (hS.2.2.1 i (by omega)).1 ?_
  refine J_aload_n (i := 0) d_H_countOther_9 rfl rfl ?_
  refine M_getR (b := 114) d_H_countOther_10 f_H_25 rfl rfl rfl ?_
  refine J_iload_n (i := 1) d_H_countOther_13 rfl rfl ?_
  refine N_iald (x := (nI (rg i))) d_H_countOther_14 rfl (by omega) (ltL hX (a := 114) (n := 8) (by decide) rfl (by omega)) (hS.2.2.2 i (by omega)).1 ?_
  refine N_ixor d_H_countOther_15 ?_
  refine CS_N (av := [.int (nI ((st i) ^^^ (rg i)))]) d_H_countOther_16 s_H_73 (S_bitCount (xor_lt 20 h1 h2)) (by decide) rfl rfl (Nat.le_of_ble_eq_true rfl) ?_
  refine M_ir d_H_countOther_19 rfl rfl ?_
  exact ⟨rfl, rfl⟩

theorem S_R_otherThan {X : Mem} {m : Nat} {st rg : Nat → Nat} (hX : Ok X) (hS : RSt X m st rg) {i : Nat} (hi : i < m) : CM 1 m_R_otherThan [.ref 244, .int (nI i)] X (rN (woN st rg i) X) := by
  have hm8 := hS.1
  have h1 := (hS.2.2.1 i (by omega)).2
  have h2 := (hS.2.2.2 i (by omega)).2
  refine CM_of (L := [some (.ref 244), some (.int (nI i))]) 0 ok_R_otherThan (fun _ => Nat.le_of_ble_eq_true rfl) rfl ?_
  refine J_aload_n (i := 0) d_R_otherThan_0 rfl rfl ?_
  refine M_getR (b := 245) d_R_otherThan_1 f_R_7 rfl rfl rfl ?_
  refine J_bipush (v := nI 10) d_R_otherThan_4 rfl ?_
  refine J_iload_n (i := 1) d_R_otherThan_6 rfl rfl ?_
  refine N_iadd d_R_otherThan_7 ?_
  refine N_iald (x := (nI (st i))) d_R_otherThan_8 rfl (by omega) (ltL hX (a := 245) (n := 1217) (by decide) rfl (by omega)) (hS.2.2.1 i (by omega)).1 ?_
  refine J_aload_n (i := 0) d_R_otherThan_9 rfl rfl ?_
  refine M_getR (b := 245) d_R_otherThan_10 f_R_7 rfl rfl rfl ?_
  refine J_bipush (v := nI 18) d_R_otherThan_13 rfl ?_
  refine J_iload_n (i := 1) d_R_otherThan_15 rfl rfl ?_
  refine N_iadd d_R_otherThan_16 ?_
  refine N_iald (x := (nI (rg i))) d_R_otherThan_17 rfl (by omega) (ltL hX (a := 245) (n := 1217) (by decide) rfl (by omega)) (hS.2.2.2 i (by omega)).1 ?_
  refine N_ixor d_R_otherThan_18 ?_
  refine CS_N (av := [.int (nI ((st i) ^^^ (rg i)))]) d_R_otherThan_19 s_R_121 (S_R_bits (Nat.lt_trans (xor_lt 20 h1 h2) (by decide))) (by decide) rfl rfl (Nat.le_of_ble_eq_true rfl) ?_
  refine M_ir d_R_otherThan_22 rfl rfl ?_
  exact ⟨rfl, rfl⟩

theorem lp_O_worn {d : Nat} {Q : Option Value → Mem → Prop} {X : Mem} {m : Nat} {st rg : Nat → Nat} (hX : Ok X) (hS : CSt X m st rg) (hd : 2 ≤ d) (kx : ∀ z4 : Option Value, JM d m_O_worn Q 47 [some (.ref 8), some (.int (o8 (itr (fun i b => if wvN st rg b < woN st rg i then i else b) 8 m))), some (.int (nI (wvN st rg (itr (fun i b => if wvN st rg b < woN st rg i then i else b) 8 m)))), some (.int (nI m)), z4] [] X) : ∀ (n i : Nat) (z4 : Option Value), i + n = m → JM d m_O_worn Q 6 [some (.ref 8), some (.int (o8 (itr (fun i b => if wvN st rg b < woN st rg i then i else b) 8 i))), some (.int (nI (wvN st rg (itr (fun i b => if wvN st rg b < woN st rg i then i else b) 8 i)))), some (.int (nI i)), z4] [] X := by
  have hm8 := hS.1
  intro n
  induction n with
  | zero =>
    intro i z4 hi
    obtain rfl : m = i := by omega
    refine J_iload_n (i := 3) d_O_worn_6 rfl rfl ?_
    refine J_aload_n (i := 0) d_O_worn_7 rfl rfl ?_
    refine M_getR (b := 18) d_O_worn_8 f_O_48 rfl rfl rfl ?_
    refine M_getR (b := 19) d_O_worn_11 f_O_110 rfl rfl rfl ?_
    refine M_get (x := (nI m)) d_O_worn_14 f_O_258 rfl rfl hS.2.1 ?_
    refine N_icmp_ge (tgt := 47) d_O_worn_17 (by decide) (by omega) (by omega) (fun c17 => ?_) (fun c17 => absurd c17 (by omega))
    exact kx _
  | succ n ih =>
    intro i z4 hi
    generalize hx : (itr (fun i b => if wvN st rg b < woN st rg i then i else b) 8 i) = x
    have hx5 : x ≤ 8 := by rw [← hx]; exact wn_le hm8 i (by omega)
    have hq1 := wv_le (st := st) (rg := rg) (b := x)
    have hq2 := wo_le (st := st) (rg := rg) (b := i)
    refine J_iload_n (i := 3) d_O_worn_6 rfl rfl ?_
    refine J_aload_n (i := 0) d_O_worn_7 rfl rfl ?_
    refine M_getR (b := 18) d_O_worn_8 f_O_48 rfl rfl rfl ?_
    refine M_getR (b := 19) d_O_worn_11 f_O_110 rfl rfl rfl ?_
    refine M_get (x := (nI m)) d_O_worn_14 f_O_258 rfl rfl hS.2.1 ?_
    refine N_icmp_ge (tgt := 47) d_O_worn_17 (by decide) (by omega) (by omega) (fun c17 => absurd c17 (by omega)) (fun c17 => ?_)
    refine J_aload_n (i := 0) d_O_worn_20 rfl rfl ?_
    refine M_getR (b := 18) d_O_worn_21 f_O_48 rfl rfl rfl ?_
    refine J_iload_n (i := 3) d_O_worn_24 rfl rfl ?_
    refine CV_N (av := [.int (nI i)]) d_O_worn_25 s_O_335 (M_rcv rfl (by decide) rfl) (S_H_countOther hX hS (by omega)) (by omega) rfl rfl (Nat.le_of_ble_eq_true rfl) ?_
    refine N_nm (fun v28 hv28 => ?_)
    refine J_istore (L1 := [some (.ref 8), some (.int (o8 x)), some (.int (nI (wvN st rg x))), some (.int (nI i)), some (.int (nI v28))]) d_O_worn_28 (by decide) rfl ?_
    refine J_iload d_O_worn_30 rfl ?_
    refine J_iload_n (i := 2) d_O_worn_32 rfl rfl ?_
    refine N_icmp_le (tgt := 41) d_O_worn_33 (by decide) (by omega) (by omega) (fun c33 => ?_) (fun c33 => ?_)
    · refine N_iinc (a := i) (c := 1) (L1 := [some (.ref 8), some (.int (o8 x)), some (.int (nI (wvN st rg x))), some (.int (nI (i + 1))), some (.int (nI v28))]) d_O_worn_41 rfl rfl (by decide) rfl ?_
      refine J_goto (tgt := 6) d_O_worn_44 (by decide) ?_
      have e : itr (fun i b => if wvN st rg b < woN st rg i then i else b) 8 (i + 1) = x := itr_g hx (if_neg (by rw [← hv28]; omega))
      exact (ih (i + 1) _ (by omega)).eq (by rw [e]) rfl rfl
    · refine J_iload d_O_worn_36 rfl ?_
      refine J_istore_n (i := 2) (L1 := [some (.ref 8), some (.int (o8 x)), some (.int (nI v28)), some (.int (nI i)), some (.int (nI v28))]) d_O_worn_38 rfl (by decide) rfl ?_
      refine J_iload_n (i := 3) d_O_worn_39 rfl rfl ?_
      refine J_istore_n (i := 1) (L1 := [some (.ref 8), some (.int (nI i)), some (.int (nI v28)), some (.int (nI i)), some (.int (nI v28))]) d_O_worn_40 rfl (by decide) rfl ?_
      refine N_iinc (a := i) (c := 1) (L1 := [some (.ref 8), some (.int (nI i)), some (.int (nI v28)), some (.int (nI (i + 1))), some (.int (nI v28))]) d_O_worn_41 rfl rfl (by decide) rfl ?_
      refine J_goto (tgt := 6) d_O_worn_44 (by decide) ?_
      have e : itr (fun i b => if wvN st rg b < woN st rg i then i else b) 8 (i + 1) = i := itr_g hx (if_pos (by rw [← hv28]; omega))
      exact (ih (i + 1) _ (by omega)).eq (by rw [e, wv_lt (by omega), o8_lt (by omega), hv28]) rfl rfl

theorem S_O_worn {X : Mem} {m : Nat} {st rg : Nat → Nat} (hX : Ok X) (hS : CSt X m st rg) : CM 2 m_O_worn [.ref 8] X (rI (o8 (wornN m st rg)) X) := by
  refine CM_of (L := [some (.ref 8), none, none, none, none]) 4 ok_O_worn (fun _ => Nat.le_of_ble_eq_true rfl) rfl ?_
  refine J_iconst (v := (-1)) d_O_worn_0 rfl ?_
  refine J_istore_n (i := 1) (L1 := [some (.ref 8), some (.int (-1)), none, none, none]) d_O_worn_1 rfl (by decide) rfl ?_
  refine J_iconst (v := nI 0) d_O_worn_2 rfl ?_
  refine J_istore_n (i := 2) (L1 := [some (.ref 8), some (.int (-1)), some (.int (nI 0)), none, none]) d_O_worn_3 rfl (by decide) rfl ?_
  refine J_iconst (v := nI 0) d_O_worn_4 rfl ?_
  refine J_istore_n (i := 3) (L1 := [some (.ref 8), some (.int (-1)), some (.int (nI 0)), some (.int (nI 0)), none]) d_O_worn_5 rfl (by decide) rfl ?_
  refine (lp_O_worn hX hS (by decide) (fun z4 => ?_) m 0 _ (by omega)).eq rfl rfl rfl
  refine J_iload_n (i := 1) d_O_worn_47 rfl rfl ?_
  refine M_ir d_O_worn_48 rfl rfl ?_
  exact ⟨rfl, rfl⟩

theorem wn_m {st rg : Nat → Nat} {m : Nat} (hm : m ≤ 8) : ∀ k, k ≤ m → itr (fun i b => if wvN st rg b < woN st rg i then i else b) 8 k < m ∨ itr (fun i b => if wvN st rg b < woN st rg i then i else b) 8 k = 8 :=
  itr_invN (fun _ (x : Nat) => x < m ∨ x = 8) m (Or.inr rfl) (fun i x hi hx => by
    try dsimp only
    split
    · exact Or.inl hi
    · exact hx)
theorem lp_R_worn {d : Nat} {Q : Option Value → Mem → Prop} {X : Mem} {m : Nat} {st rg : Nat → Nat} (hX : Ok X) (hS : RSt X m st rg) (hd : 2 ≤ d) (kx : JM d m_R_worn Q 44 [some (.ref 244), some (.int (o8 (itr (fun i b => if wvN st rg b < woN st rg i then i else b) 8 m))), some (.int (nI m))] [] X) : ∀ (n i : Nat), i + n = m → JM d m_R_worn Q 4 [some (.ref 244), some (.int (o8 (itr (fun i b => if wvN st rg b < woN st rg i then i else b) 8 i))), some (.int (nI i))] [] X := by
  have hm8 := hS.1
  intro n
  induction n with
  | zero =>
    intro i hi
    obtain rfl : m = i := by omega
    refine J_iload_n (i := 2) d_R_worn_4 rfl rfl ?_
    refine J_aload_n (i := 0) d_R_worn_5 rfl rfl ?_
    refine M_getR (b := 245) d_R_worn_6 f_R_7 rfl rfl rfl ?_
    refine J_iconst (v := nI 0) d_R_worn_9 rfl ?_
    refine N_iald (x := (nI m)) d_R_worn_10 rfl (by omega) (ltL hX (a := 245) (n := 1217) (by decide) rfl (by omega)) hS.2.1 ?_
    refine N_icmp_ge (tgt := 44) d_R_worn_11 (by decide) (by omega) (by omega) (fun c11 => ?_) (fun c11 => absurd c11 (by omega))
    exact kx
  | succ n ih =>
    intro i hi
    generalize hx : (itr (fun i b => if wvN st rg b < woN st rg i then i else b) 8 i) = x
    have hx5 : x ≤ 8 := by rw [← hx]; exact wn_le hm8 i (by omega)
    have hq1 := wv_le (st := st) (rg := rg) (b := x)
    have hq2 := wo_le (st := st) (rg := rg) (b := i)
    have hxm8 : x < m ∨ x = 8 := by rw [← hx]; exact wn_m hm8 i (by omega)
    refine J_iload_n (i := 2) d_R_worn_4 rfl rfl ?_
    refine J_aload_n (i := 0) d_R_worn_5 rfl rfl ?_
    refine M_getR (b := 245) d_R_worn_6 f_R_7 rfl rfl rfl ?_
    refine J_iconst (v := nI 0) d_R_worn_9 rfl ?_
    refine N_iald (x := (nI m)) d_R_worn_10 rfl (by omega) (ltL hX (a := 245) (n := 1217) (by decide) rfl (by omega)) hS.2.1 ?_
    refine N_icmp_ge (tgt := 44) d_R_worn_11 (by decide) (by omega) (by omega) (fun c11 => absurd c11 (by omega)) (fun c11 => ?_)
    refine J_aload_n (i := 0) d_R_worn_14 rfl rfl ?_
    refine J_iload_n (i := 2) d_R_worn_15 rfl rfl ?_
    refine CV_N (av := [.int (nI i)]) d_R_worn_16 s_R_416 (M_rcv rfl (by decide) rfl) (S_R_otherThan hX hS (by omega)) (by omega) rfl rfl (Nat.le_of_ble_eq_true rfl) ?_
    refine J_iload_n (i := 1) d_R_worn_19 rfl rfl ?_
    refine J_iconst (v := (-1)) d_R_worn_20 rfl ?_
    refine J_icmp_ne (tgt := 28) d_R_worn_21 (by decide) (fun c21 => ?_) (fun c21 => ?_)
    · have hx8 : x < 8 := by rcases Nat.lt_or_ge x 8 with z | z; exact z; exact absurd ((o8_m1 hx5).mpr (by omega)) c21
      have hxm : x < m := by rcases hxm8 with z | z; exact z; omega
      have hwv := wv_lt (st := st) (rg := rg) hx8
      have hq3 := wo_le (st := st) (rg := rg) (b := x)
      rw [o8_lt hx8]
      refine J_aload_n (i := 0) d_R_worn_28 rfl rfl ?_
      refine J_iload_n (i := 1) d_R_worn_29 rfl rfl ?_
      refine CV_N (av := [.int (nI x)]) d_R_worn_30 s_R_416 (M_rcv rfl (by decide) rfl) (S_R_otherThan hX hS (by omega)) (by omega) rfl rfl (Nat.le_of_ble_eq_true rfl) ?_
      refine N_icmp_le (tgt := 38) d_R_worn_33 (by decide) (by omega) (by omega) (fun c33 => ?_) (fun c33 => ?_)
      · refine N_iinc (a := i) (c := 1) (L1 := [some (.ref 244), some (.int (nI x)), some (.int (nI (i + 1)))]) d_R_worn_38 rfl rfl (by decide) rfl ?_
        refine J_goto (tgt := 4) d_R_worn_41 (by decide) ?_
        have e : itr (fun i b => if wvN st rg b < woN st rg i then i else b) 8 (i + 1) = x := itr_g hx (if_neg (by rw [hwv]; omega))
        exact (ih (i + 1) (by omega)).eq (by rw [e, o8_lt hx8]) rfl rfl
      · refine J_iload_n (i := 2) d_R_worn_36 rfl rfl ?_
        refine J_istore_n (i := 1) (L1 := [some (.ref 244), some (.int (nI i)), some (.int (nI i))]) d_R_worn_37 rfl (by decide) rfl ?_
        refine N_iinc (a := i) (c := 1) (L1 := [some (.ref 244), some (.int (nI i)), some (.int (nI (i + 1)))]) d_R_worn_38 rfl rfl (by decide) rfl ?_
        refine J_goto (tgt := 4) d_R_worn_41 (by decide) ?_
        have e : itr (fun i b => if wvN st rg b < woN st rg i then i else b) 8 (i + 1) = i := itr_g hx (if_pos (by rw [hwv]; omega))
        exact (ih (i + 1) (by omega)).eq (by rw [e, o8_lt (by omega)]) rfl rfl
    · have hwv : wvN st rg x = 0 := by rw [(o8_m1 hx5).mp c21]; rfl
      refine J_iconst (v := nI 0) d_R_worn_24 rfl ?_
      refine J_goto (tgt := 33) d_R_worn_25 (by decide) ?_
      refine N_icmp_le (tgt := 38) d_R_worn_33 (by decide) (by omega) (by omega) (fun c33 => ?_) (fun c33 => ?_)
      · refine N_iinc (a := i) (c := 1) (L1 := [some (.ref 244), some (.int (o8 x)), some (.int (nI (i + 1)))]) d_R_worn_38 rfl rfl (by decide) rfl ?_
        refine J_goto (tgt := 4) d_R_worn_41 (by decide) ?_
        have e : itr (fun i b => if wvN st rg b < woN st rg i then i else b) 8 (i + 1) = x := itr_g hx (if_neg (by rw [hwv]; omega))
        exact (ih (i + 1) (by omega)).eq (by rw [e]) rfl rfl
      · refine J_iload_n (i := 2) d_R_worn_36 rfl rfl ?_
        refine J_istore_n (i := 1) (L1 := [some (.ref 244), some (.int (nI i)), some (.int (nI i))]) d_R_worn_37 rfl (by decide) rfl ?_
        refine N_iinc (a := i) (c := 1) (L1 := [some (.ref 244), some (.int (nI i)), some (.int (nI (i + 1)))]) d_R_worn_38 rfl rfl (by decide) rfl ?_
        refine J_goto (tgt := 4) d_R_worn_41 (by decide) ?_
        have e : itr (fun i b => if wvN st rg b < woN st rg i then i else b) 8 (i + 1) = i := itr_g hx (if_pos (by rw [hwv]; omega))
        exact (ih (i + 1) (by omega)).eq (by rw [e, o8_lt (by omega)]) rfl rfl

theorem S_R_worn {X : Mem} {m : Nat} {st rg : Nat → Nat} (hX : Ok X) (hS : RSt X m st rg) : CM 2 m_R_worn [.ref 244] X (rI (o8 (wornN m st rg)) X) := by
  refine CM_of (L := [some (.ref 244), none, none]) 2 ok_R_worn (fun _ => Nat.le_of_ble_eq_true rfl) rfl ?_
  refine J_iconst (v := (-1)) d_R_worn_0 rfl ?_
  refine J_istore_n (i := 1) (L1 := [some (.ref 244), some (.int (-1)), none]) d_R_worn_1 rfl (by decide) rfl ?_
  refine J_iconst (v := nI 0) d_R_worn_2 rfl ?_
  refine J_istore_n (i := 2) (L1 := [some (.ref 244), some (.int (-1)), some (.int (nI 0))]) d_R_worn_3 rfl (by decide) rfl ?_
  refine (lp_R_worn hX hS (by decide) ?_ m 0 (by omega)).eq rfl rfl rfl
  refine J_iload_n (i := 1) d_R_worn_44 rfl rfl ?_
  refine M_ir d_R_worn_45 rfl rfl ?_
  exact ⟨rfl, rfl⟩

