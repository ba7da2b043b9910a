theorem lw_le (s : Nat) : lwN s ≤ s := by
  have := andn_lt (a := s) (b := s - 1) (n := s + 1) (by omega)
  unfold lwN
  omega
theorem so_f {s : Nat} (h : stepOk s = true) : 0 < s ∧ s < 1048576 ∧ 0 < lwN s ∧ lwN s < 1048576 ∧ ((s + lwN s) ^^^ s) >>> (2 + bc (lwN s - 1)) = (((s + lwN s) ^^^ s) / lwN s) >>> 2 ∧ 2 + bc (lwN s - 1) < 32 := by
  simp only [stepOk, Bool.and_eq_true, decide_eq_true_eq, beq_iff_eq] at h
  exact ⟨h.1.1.1.1.1, h.1.1.1.1.2, h.1.1.1.2, h.1.1.2, h.1.2, h.2⟩
theorem nx_0 : nxS 0 = 0 := by decide
def nsI (s : Nat) : Int32 := if s = 0 then (-1) else if 1048575 < nxS s then (-1) else nI (nxS s)
def cN (n : Nat) : Nat := itr (fun i x => x * (20 - i) / (i + 1)) 1 n
theorem cN_lt : ∀ i, i < 5 → cN i < 10000 := by decide
theorem shr_le (a k : Nat) : a >>> k ≤ a := by rw [Nat.shiftRight_eq_div_pow]; exact Nat.div_le_self _ _
theorem S_K_placeOfLowest {X : Mem} {s : Nat} (h0 : 0 < s) (h2 : 0 < lwN s) (h3 : lwN s < 1048576) : CM 1 m_K_placeOfLowest [.int (nI s)] X (rN (bc (lwN s - 1)) X) := by
  refine CM_of (L := [some (.int (nI s))]) 0 ok_K_placeOfLowest (fun _ => Nat.le_of_ble_eq_true rfl) rfl ?_
  refine J_iload_n (i := 0) d_K_placeOfLowest_0 rfl rfl ?_
  refine J_iload_n (i := 0) d_K_placeOfLowest_1 rfl rfl ?_
  refine J_ineg d_K_placeOfLowest_2 ?_
  refine J_iand d_K_placeOfLowest_3 ?_
  refine I_ton (n := lwN s) (neg_low h0) ?_
  refine J_iconst (v := nI 1) d_K_placeOfLowest_4 rfl ?_
  refine N_isub d_K_placeOfLowest_5 (by omega) ?_
  refine CS_N (av := [.int (nI ((lwN s) - 1))]) d_K_placeOfLowest_6 s_K_26 (S_bitCount (by omega)) (by decide) rfl rfl (Nat.le_of_ble_eq_true rfl) ?_
  refine M_ir d_K_placeOfLowest_9 rfl rfl ?_
  exact ⟨rfl, rfl⟩

theorem S_K_nextOf {X : Mem} {s : Nat} (hs : stepOk s = true) : CM 2 m_K_nextOf [.int (nI s)] X (rN (nxS s) X) := by
  have hf := so_f hs
  obtain ⟨h0, h1, h2, h3, h4, h5⟩ := hf
  have hr : s + lwN s < 2097152 := by omega
  have hx : s ^^^ (s + lwN s) < 2097152 := xor_lt 21 (show s < 2 ^ 21 by omega) (show s + lwN s < 2 ^ 21 by omega)
  rw [Nat.xor_comm] at h4
  refine CM_of (L := [some (.int (nI s)), none]) 1 ok_K_nextOf (fun _ => Nat.le_of_ble_eq_true rfl) rfl ?_
  refine J_iload_n (i := 0) d_K_nextOf_0 rfl rfl ?_
  refine N_if_gt (tgt := 6) d_K_nextOf_1 (by decide) (by omega) (fun c1 => ?_) (fun c1 => absurd c1 (by omega))
  refine J_iload_n (i := 0) d_K_nextOf_6 rfl rfl ?_
  refine J_iload_n (i := 0) d_K_nextOf_7 rfl rfl ?_
  refine J_iload_n (i := 0) d_K_nextOf_8 rfl rfl ?_
  refine J_ineg d_K_nextOf_9 ?_
  refine J_iand d_K_nextOf_10 ?_
  refine I_ton (n := lwN s) (neg_low h0) ?_
  refine N_iadd d_K_nextOf_11 ?_
  refine J_istore_n (i := 1) (L1 := [some (.int (nI s)), some (.int (nI (s + (lwN s))))]) d_K_nextOf_12 rfl (by decide) rfl ?_
  refine J_iload_n (i := 1) d_K_nextOf_13 rfl rfl ?_
  refine J_iload_n (i := 0) d_K_nextOf_14 rfl rfl ?_
  refine J_iload_n (i := 1) d_K_nextOf_15 rfl rfl ?_
  refine N_ixor d_K_nextOf_16 ?_
  refine J_iconst (v := nI 2) d_K_nextOf_17 rfl ?_
  refine J_iload_n (i := 0) d_K_nextOf_18 rfl rfl ?_
  refine CS_N (av := [.int (nI s)]) d_K_nextOf_19 s_K_45 (S_K_placeOfLowest (by omega) (by omega) (by omega)) (by decide) rfl rfl (Nat.le_of_ble_eq_true rfl) ?_
  refine N_iadd d_K_nextOf_22 ?_
  refine N_iushr d_K_nextOf_23 (Nat.lt_trans hx (by decide)) h5 ?_
  refine N_ior d_K_nextOf_24 ?_
  refine M_ir d_K_nextOf_25 rfl rfl ?_
  exact ⟨by rw [nxS, Nat.xor_comm (s + lwN s) s, ← h4], rfl⟩

theorem S_K_nextOf0 {X : Mem} : CM 2 m_K_nextOf [.int (nI 0)] X (rN (nxS 0) X) := by
  refine CM_of (L := [some (.int (nI 0)), none]) 1 ok_K_nextOf (fun _ => Nat.le_of_ble_eq_true rfl) rfl ?_
  refine J_iload_n (i := 0) d_K_nextOf_0 rfl rfl ?_
  refine N_if_gt (tgt := 6) d_K_nextOf_1 (by decide) (by omega) (fun c1 => absurd c1 (by omega)) (fun c1 => ?_)
  refine J_iconst (v := nI 0) d_K_nextOf_4 rfl ?_
  refine M_ir d_K_nextOf_5 rfl rfl ?_
  exact ⟨rfl, rfl⟩

theorem S_R_nextSet {X : Mem} {s : Nat} (hs : stepOk s = true) : CM 0 m_R_nextSet [.int (nI s)] X (rI (nsI s) X) := by
  have hf := so_f hs
  obtain ⟨h0, h1, h2, h3, h4, h5⟩ := hf
  have hr : s + lwN s < 2097152 := by omega
  have hx : s ^^^ (s + lwN s) < 2097152 := xor_lt 21 (show s < 2 ^ 21 by omega) (show s + lwN s < 2 ^ 21 by omega)
  rw [Nat.xor_comm] at h4
  have hd : (s ^^^ (s + lwN s)) / lwN s < 2097152 := Nat.lt_of_le_of_lt (Nat.div_le_self _ _) hx
  have he : ((s ^^^ (s + lwN s)) / lwN s) >>> 2 < 2097152 := Nat.lt_of_le_of_lt (shr_le _ _) hd
  have ho : (s + lwN s ||| ((s ^^^ (s + lwN s)) / lwN s) >>> 2) < 2097152 := or_lt 21 hr he
  have hns : nxS s = (s + lwN s ||| ((s ^^^ (s + lwN s)) / lwN s) >>> 2) := by rw [nxS, Nat.xor_comm]
  refine CM_of (L := [some (.int (nI s)), none, none, none]) 3 ok_R_nextSet (fun _ => Nat.le_of_ble_eq_true rfl) rfl ?_
  refine J_iload_n (i := 0) d_R_nextSet_0 rfl rfl ?_
  refine N_if_ne (tgt := 6) d_R_nextSet_1 (by decide) (by omega) (fun c1 => ?_) (fun c1 => absurd c1 (by omega))
  refine J_iload_n (i := 0) d_R_nextSet_6 rfl rfl ?_
  refine J_iload_n (i := 0) d_R_nextSet_7 rfl rfl ?_
  refine J_ineg d_R_nextSet_8 ?_
  refine J_iand d_R_nextSet_9 ?_
  refine I_ton (n := lwN s) (neg_low h0) ?_
  refine J_istore_n (i := 1) (L1 := [some (.int (nI s)), some (.int (nI (lwN s))), none, none]) d_R_nextSet_10 rfl (by decide) rfl ?_
  refine J_iload_n (i := 0) d_R_nextSet_11 rfl rfl ?_
  refine J_iload_n (i := 1) d_R_nextSet_12 rfl rfl ?_
  refine N_iadd d_R_nextSet_13 ?_
  refine J_istore_n (i := 2) (L1 := [some (.int (nI s)), some (.int (nI (lwN s))), some (.int (nI (s + (lwN s)))), none]) d_R_nextSet_14 rfl (by decide) rfl ?_
  refine J_iload_n (i := 2) d_R_nextSet_15 rfl rfl ?_
  refine J_iload_n (i := 0) d_R_nextSet_16 rfl rfl ?_
  refine J_iload_n (i := 2) d_R_nextSet_17 rfl rfl ?_
  refine N_ixor d_R_nextSet_18 ?_
  refine J_iload_n (i := 1) d_R_nextSet_19 rfl rfl ?_
  refine N_idiv d_R_nextSet_20 (by omega) (by omega) (by omega) ?_
  refine J_iconst (v := nI 2) d_R_nextSet_21 rfl ?_
  refine N_ishr d_R_nextSet_22 (by omega) (by omega) ?_
  refine N_ior d_R_nextSet_23 ?_
  refine J_istore_n (i := 3) (L1 := [some (.int (nI s)), some (.int (nI (lwN s))), some (.int (nI (s + (lwN s)))), some (.int (nI ((s + (lwN s)) ||| (((s ^^^ (s + (lwN s))) / (lwN s)) >>> 2))))]) d_R_nextSet_24 rfl (by decide) rfl ?_
  refine J_iload_n (i := 3) d_R_nextSet_25 rfl rfl ?_
  refine J_ldc d_R_nextSet_26 w_R_93 ?_
  refine I_ton (n := 1048575) rfl ?_
  refine N_icmp_le (tgt := 35) d_R_nextSet_28 (by decide) (by omega) (by omega) (fun c28 => ?_) (fun c28 => ?_)
  · refine J_iload_n (i := 3) d_R_nextSet_35 rfl rfl ?_
    refine M_ir d_R_nextSet_36 rfl rfl ?_
    exact ⟨by rw [nsI, if_neg (by omega), if_neg (by rw [hns]; omega), hns], rfl⟩
  · refine J_iconst (v := (-1)) d_R_nextSet_31 rfl ?_
    refine J_goto (tgt := 36) d_R_nextSet_32 (by decide) ?_
    refine M_ir d_R_nextSet_36 rfl rfl ?_
    exact ⟨by rw [nsI, if_neg (by omega), if_pos (by rw [hns]; omega)], rfl⟩

theorem S_R_nextSet0 {X : Mem} : CM 0 m_R_nextSet [.int (nI 0)] X (rI (nsI 0) X) := by
  refine CM_of (L := [some (.int (nI 0)), none, none, none]) 3 ok_R_nextSet (fun _ => Nat.le_of_ble_eq_true rfl) rfl ?_
  refine J_iload_n (i := 0) d_R_nextSet_0 rfl rfl ?_
  refine N_if_ne (tgt := 6) d_R_nextSet_1 (by decide) (by omega) (fun c1 => absurd c1 (by decide)) (fun c1 => ?_)
  refine J_iconst (v := (-1)) d_R_nextSet_4 rfl ?_
  refine M_ir d_R_nextSet_5 rfl rfl ?_
  exact ⟨rfl, rfl⟩

theorem lp_K_countSets {d : Nat} {Q : Option Value → Mem → Prop} {X : Mem} {k : Nat} (hk : k ≤ 4) (kx : JM d m_K_countSets Q 26 [some (.int (nI k)), some (.int (nI (itr (fun i x => x * (20 - i) / (i + 1)) 1 k))), some (.int (nI k))] [] X) : ∀ (n i : Nat), i + n = k → JM d m_K_countSets Q 4 [some (.int (nI k)), some (.int (nI (itr (fun i x => x * (20 - i) / (i + 1)) 1 i))), some (.int (nI i))] [] X := by
  intro n
  induction n with
  | zero =>
    intro i hi
    obtain rfl : k = i := by omega
    refine J_iload_n (i := 2) d_K_countSets_4 rfl rfl ?_
    refine J_iload_n (i := 0) d_K_countSets_5 rfl rfl ?_
    refine N_icmp_ge (tgt := 26) d_K_countSets_6 (by decide) (by first | assumption | omega) (by first | assumption | omega) (fun c6 => ?_) (fun c6 => absurd c6 (by omega))
    exact kx
  | succ n ih =>
    intro i hi
    generalize hx : (itr (fun i x => x * (20 - i) / (i + 1)) 1 i) = x
    have hx5 : x < 10000 := by rw [← hx]; exact cN_lt i (by omega)
    have hx6 : x * (20 - i) < 2147483648 := Nat.lt_of_le_of_lt (Nat.mul_le_mul (Nat.le_of_lt hx5) (show 20 - i ≤ 20 by omega)) (by decide)
    refine J_iload_n (i := 2) d_K_countSets_4 rfl rfl ?_
    refine J_iload_n (i := 0) d_K_countSets_5 rfl rfl ?_
    refine N_icmp_ge (tgt := 26) d_K_countSets_6 (by decide) (by first | assumption | omega) (by first | assumption | omega) (fun c6 => absurd c6 (by omega)) (fun c6 => ?_)
    refine J_iload_n (i := 1) d_K_countSets_9 rfl rfl ?_
    refine J_bipush (v := nI 20) d_K_countSets_10 rfl ?_
    refine J_iload_n (i := 2) d_K_countSets_12 rfl rfl ?_
    refine N_isub d_K_countSets_13 (by first | assumption | omega) ?_
    refine N_imul d_K_countSets_14 ?_
    refine J_iload_n (i := 2) d_K_countSets_15 rfl rfl ?_
    refine J_iconst (v := nI 1) d_K_countSets_16 rfl ?_
    refine N_iadd d_K_countSets_17 ?_
    refine N_idiv d_K_countSets_18 (by first | assumption | omega) (by first | assumption | omega) (by first | assumption | omega) ?_
    refine J_istore_n (i := 1) (L1 := [some (.int (nI k)), some (.int (nI ((x * (20 - i)) / (i + 1)))), some (.int (nI i))]) d_K_countSets_19 rfl (by decide) rfl ?_
    refine N_iinc (a := i) (c := 1) (L1 := [some (.int (nI k)), some (.int (nI ((x * (20 - i)) / (i + 1)))), some (.int (nI (i + 1)))]) d_K_countSets_20 rfl rfl (by decide) rfl ?_
    refine J_goto (tgt := 4) d_K_countSets_23 (by decide) ?_
    exact (ih (i + 1) (by omega)).eq (by rw [show itr (fun i x => x * (20 - i) / (i + 1)) 1 (i + 1) = ((x * (20 - i)) / (i + 1)) from itr_g hx rfl]) rfl rfl

theorem S_K_countSets {X : Mem} {k : Nat} (hk : k ≤ 4) : CM 0 m_K_countSets [.int (nI k)] X (rN (cN k) X) := by
  refine CM_of (L := [some (.int (nI k)), none, none]) 2 ok_K_countSets (fun _ => Nat.le_of_ble_eq_true rfl) rfl ?_
  refine J_iconst (v := nI 1) d_K_countSets_0 rfl ?_
  refine J_istore_n (i := 1) (L1 := [some (.int (nI k)), some (.int (nI 1)), none]) d_K_countSets_1 rfl (by decide) rfl ?_
  refine J_iconst (v := nI 0) d_K_countSets_2 rfl ?_
  refine J_istore_n (i := 2) (L1 := [some (.int (nI k)), some (.int (nI 1)), some (.int (nI 0))]) d_K_countSets_3 rfl (by decide) rfl ?_
  refine lp_K_countSets hk ?_ k 0 (by omega)
  refine J_iload_n (i := 1) d_K_countSets_26 rfl rfl ?_
  refine M_ir d_K_countSets_27 rfl rfl ?_
  exact ⟨rfl, rfl⟩

theorem CSt_A {X : Mem} {m : Nat} {st rg : Nat → Nat} {a : Nat} {l : List Int32} (h1 : a ≠ 20) (h2 : a ≠ 114) (hS : CSt X m st rg) : CSt (pA X a l) m st rg := by
  refine ⟨hS.1, hS.2.1, fun i hi => ?_, fun i hi => ?_⟩
  · rw [show (pA X a l).2.1 20 = X.2.1 20 from if_neg (Ne.symm h1)]
    exact hS.2.2.1 i hi
  · rw [show (pA X a l).2.1 114 = X.2.1 114 from if_neg (Ne.symm h2)]
    exact hS.2.2.2 i hi
/-- all shapes of the first marks lie in a row -/
def shL (rg : Nat → Nat) (k : Nat) (l : List Int32) : Prop := l.length = 64 ∧ ∀ j, j < k → l.getD j 0 = nI (mvs (j % 8) (rg (j / 8)))
theorem shL_set {rg : Nat → Nat} {i w : Nat} {l : List Int32} (hi : i < 8) (hw : w < 8) (h : shL rg (8 * i + w) l) : shL rg (8 * i + (w + 1)) (l.set (8 * i + w) (nI (mvs w (rg i)))) := by
  refine ⟨by rw [List.length_set]; exact h.1, fun j hj => ?_⟩
  by_cases e : 8 * i + w = j
  · subst e
    rw [set_eq (by rw [h.1]; omega), show (8 * i + w) % 8 = w by omega, show (8 * i + w) / 8 = i by omega]
  · rw [set_ne e]
    exact h.2 j (by omega)
theorem lp_O_turnAll_in {X0 : Mem} {m : Nat} {st rg : Nat → Nat} {Q : Option Value → Mem → Prop} (hX : Ok X0) (hS : CSt X0 m st rg) {i : Nat} (hi : i < m) (kx : ∀ l, shL rg (8 * i + 8) l → JM 1 m_O_turnAll Q 51 [some (.ref 8), some (.ref 114), some (.int (nI (8 * i + 8))), some (.int (nI i)), some (.int (nI 8))] [] (pA X0 221 l)) : ∀ (k w : Nat) (l : List Int32), w + k = 8 → shL rg (8 * i + w) l → JM 1 m_O_turnAll Q 21 [some (.ref 8), some (.ref 114), some (.int (nI (8 * i + w))), some (.int (nI i)), some (.int (nI w))] [] (pA X0 221 l) := by
  have hm8 := hS.1
  have hrgi := (hS.2.2.2 i (by omega)).2
  intro k
  induction k with
  | zero =>
    intro w l hw hl
    obtain rfl : w = 8 := by omega
    refine J_iload d_O_turnAll_21 rfl ?_
    refine J_bipush (v := nI 8) d_O_turnAll_23 rfl ?_
    refine N_icmp_ge (tgt := 51) d_O_turnAll_25 (by decide) (by omega) (by omega) (fun c25 => ?_) (fun c25 => absurd c25 (by omega))
    exact kx l hl
  | succ k ih =>
    intro w l hw hl
    have hXl : Ok (pA X0 221 l) := okA hX rfl (by rw [hl.1, hX.1 221 (by decide)]; rfl)
    refine J_iload d_O_turnAll_21 rfl ?_
    refine J_bipush (v := nI 8) d_O_turnAll_23 rfl ?_
    refine N_icmp_ge (tgt := 51) d_O_turnAll_25 (by decide) (by omega) (by omega) (fun c25 => absurd c25 (by omega)) (fun c25 => ?_)
    refine J_aload_n (i := 0) d_O_turnAll_28 rfl rfl ?_
    refine M_getR (b := 221) d_O_turnAll_29 f_O_62 rfl rfl rfl ?_
    refine J_iload_n (i := 2) d_O_turnAll_32 rfl rfl ?_
    refine J_aload_n (i := 1) d_O_turnAll_33 rfl rfl ?_
    refine J_iload_n (i := 3) d_O_turnAll_34 rfl rfl ?_
    refine N_iald (x := (nI (rg i))) d_O_turnAll_35 rfl (by omega) (ltL hXl (a := 114) (n := 8) (by decide) rfl (by omega)) ((CSt_A (by decide) (by decide) hS).2.2.2 i (by omega)).1 ?_
    refine J_iload d_O_turnAll_36 rfl ?_
    refine CS_N (av := [.int (nI (rg i)), .int (nI w)]) d_O_turnAll_38 s_O_230 (S_K_moved hXl hrgi (by omega)) (by decide) rfl rfl (Nat.le_of_ble_eq_true rfl) ?_
    refine N_iast d_O_turnAll_41 rfl (by decide) (by omega) (ltL hXl (a := 221) (n := 64) (by decide) rfl (by omega)) ?_
    refine N_iinc (a := (8 * i + w)) (c := 1) (L1 := [some (.ref 8), some (.ref 114), some (.int (nI ((8 * i + w) + 1))), some (.int (nI i)), some (.int (nI w))]) d_O_turnAll_42 rfl rfl (by decide) rfl ?_
    refine N_iinc (a := w) (c := 1) (L1 := [some (.ref 8), some (.ref 114), some (.int (nI ((8 * i + w) + 1))), some (.int (nI i)), some (.int (nI (w + 1)))]) d_O_turnAll_45 rfl rfl (by decide) rfl ?_
    refine J_goto (tgt := 21) d_O_turnAll_48 (by decide) ?_
    rw [pA_pA, pA_at]
    exact (ih (w + 1) _ (by omega) (shL_set (by omega) (by omega) hl)).eq (by rw [Nat.add_assoc]) rfl rfl
theorem lp_O_turnAll {X0 : Mem} {m : Nat} {st rg : Nat → Nat} {Q : Option Value → Mem → Prop} (hX : Ok X0) (hS : CSt X0 m st rg) (kx : ∀ (z4 : Option Value) (l : List Int32), shL rg (8 * m) l → JM 1 m_O_turnAll Q 57 [some (.ref 8), some (.ref 114), some (.int (nI (8 * m))), some (.int (nI m)), z4] [] (pA X0 221 l)) : ∀ (k i : Nat) (z4 : Option Value) (l : List Int32), i + k = m → shL rg (8 * i) l → JM 1 m_O_turnAll Q 4 [some (.ref 8), some (.ref 114), some (.int (nI (8 * i))), some (.int (nI i)), z4] [] (pA X0 221 l) := by
  have hm8 := hS.1
  intro k
  induction k with
  | zero =>
    intro i z4 l hi hl
    obtain rfl : i = m := by omega
    refine J_iload_n (i := 3) d_O_turnAll_4 rfl rfl ?_
    refine J_aload_n (i := 0) d_O_turnAll_5 rfl rfl ?_
    refine M_getR (b := 18) d_O_turnAll_6 f_O_48 rfl rfl rfl ?_
    refine M_getR (b := 19) d_O_turnAll_9 f_O_110 rfl rfl rfl ?_
    refine M_get (x := (nI i)) d_O_turnAll_12 f_O_258 rfl rfl hS.2.1 ?_
    refine N_icmp_ge (tgt := 57) d_O_turnAll_15 (by decide) (by omega) (by omega) (fun c15 => ?_) (fun c15 => absurd c15 (by omega))
    exact kx z4 l hl
  | succ k ih =>
    intro i z4 l hi hl
    refine J_iload_n (i := 3) d_O_turnAll_4 rfl rfl ?_
    refine J_aload_n (i := 0) d_O_turnAll_5 rfl rfl ?_
    refine M_getR (b := 18) d_O_turnAll_6 f_O_48 rfl rfl rfl ?_
    refine M_getR (b := 19) d_O_turnAll_9 f_O_110 rfl rfl rfl ?_
    refine M_get (x := (nI m)) d_O_turnAll_12 f_O_258 rfl rfl hS.2.1 ?_
    refine N_icmp_ge (tgt := 57) d_O_turnAll_15 (by decide) (by omega) (by omega) (fun c15 => absurd c15 (by omega)) (fun c15 => ?_)
    refine J_iconst (v := nI 0) d_O_turnAll_18 rfl ?_
    refine J_istore (L1 := [some (.ref 8), some (.ref 114), some (.int (nI (8 * i))), some (.int (nI i)), some (.int (nI 0))]) d_O_turnAll_19 (by decide) rfl ?_
    refine lp_O_turnAll_in hX hS (by omega) (fun l hl => ?_) 8 0 l (by omega) hl
    refine N_iinc (a := i) (c := 1) (L1 := [some (.ref 8), some (.ref 114), some (.int (nI (8 * i + 8))), some (.int (nI (i + 1))), some (.int (nI 8))]) d_O_turnAll_51 rfl rfl (by decide) rfl ?_
    refine J_goto (tgt := 4) d_O_turnAll_54 (by decide) ?_
    exact ih (i + 1) _ l (by omega) hl
theorem S_O_turnAll {X0 : Mem} {m : Nat} {st rg : Nat → Nat} (hX : Ok X0) (hS : CSt X0 m st rg) : CM 1 m_O_turnAll [.ref 8, .ref 114] X0 (fun r Y => r = some (.int (nI (8 * m))) ∧ ∃ l, shL rg (8 * m) l ∧ Y = pA X0 221 l) := by
  refine CM_of (L := [some (.ref 8), some (.ref 114), none, none, none]) 3 ok_O_turnAll (fun _ => Nat.le_of_ble_eq_true rfl) rfl ?_
  refine J_iconst (v := nI 0) d_O_turnAll_0 rfl ?_
  refine J_istore_n (i := 2) (L1 := [some (.ref 8), some (.ref 114), some (.int (nI 0)), none, none]) d_O_turnAll_1 rfl (by decide) rfl ?_
  refine J_iconst (v := nI 0) d_O_turnAll_2 rfl ?_
  refine J_istore_n (i := 3) (L1 := [some (.ref 8), some (.ref 114), some (.int (nI 0)), some (.int (nI 0)), none]) d_O_turnAll_3 rfl (by decide) rfl ?_
  refine (lp_O_turnAll hX hS (fun z4 l hl => ?_) m 0 _ (X0.2.1 221) (by omega) ⟨by rw [hX.1 221 (by decide)]; rfl, fun j hj => by omega⟩).eq rfl rfl (congrArg hm pA_eta.symm)
  refine J_iload_n (i := 2) d_O_turnAll_57 rfl rfl ?_
  refine M_ir d_O_turnAll_58 rfl rfl ?_
  exact ⟨rfl, l, hl, rfl⟩

