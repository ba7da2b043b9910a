theorem nI_nm1 {s : Nat} (h : s < 2147483648) : ¬ nI s = -1 := fun e => by
  have := nI_pos h
  rw [e] at this
  exact this (by decide)
theorem lp_R_free_in {d : Nat} {Q : Option Value → Mem → Prop} {X : Mem} {m : Nat} {st rg : Nat → Nat} (hX : Ok X) (hS : RSt X m st rg) {a t s : Nat} (ht : t ≤ 20) (hs : s < 1048576) (hd : 5 ≤ d) (kx : JM d m_R_free Q 67 [some (.ref 244), some (.int (nI a)), some (.int (nI t)), some (.int (nI s)), some (.int (b2i (allN (fun i => !nrB (rg i) s t) m))), some (.int (nI m))] [] X) : ∀ (n i : Nat), i + n = m → JM d m_R_free Q 27 [some (.ref 244), some (.int (nI a)), some (.int (nI t)), some (.int (nI s)), some (.int (b2i (allN (fun i => !nrB (rg i) s t) i))), some (.int (nI i))] [] X := by
  have hm8 := hS.1
  intro n
  induction n with
  | zero =>
    intro i hi
    obtain rfl : m = i := by omega
    refine J_iload d_R_free_27 rfl ?_
    refine J_aload_n (i := 0) d_R_free_29 rfl rfl ?_
    refine M_getR (b := 245) d_R_free_30 f_R_7 rfl rfl rfl ?_
    refine J_iconst (v := nI 0) d_R_free_33 rfl ?_
    refine N_iald (x := (nI m)) d_R_free_34 rfl (by omega) (ltL hX (a := 245) (n := 1217) (by decide) rfl (by omega)) hS.2.1 ?_
    refine N_icmp_ge (tgt := 67) d_R_free_35 (by decide) (by omega) (by omega) (fun c35 => ?_) (fun c35 => absurd c35 (by omega))
    exact kx
  | succ n ih =>
    intro i hi
    have hrgi := (hS.2.2.2 i (by omega)).2
    refine J_iload d_R_free_27 rfl ?_
    refine J_aload_n (i := 0) d_R_free_29 rfl rfl ?_
    refine M_getR (b := 245) d_R_free_30 f_R_7 rfl rfl rfl ?_
    refine J_iconst (v := nI 0) d_R_free_33 rfl ?_
    refine N_iald (x := (nI m)) d_R_free_34 rfl (by omega) (ltL hX (a := 245) (n := 1217) (by decide) rfl (by omega)) hS.2.1 ?_
    refine N_icmp_ge (tgt := 67) d_R_free_35 (by decide) (by omega) (by omega) (fun c35 => absurd c35 (by omega)) (fun c35 => ?_)
    refine J_iload d_R_free_38 rfl ?_
    refine B_if_eq (tgt := 58) d_R_free_40 (by decide) (fun c40 => ?_) (fun c40 => ?_)
    · refine J_iconst (v := nI 0) d_R_free_58 rfl ?_
      refine J_istore (L1 := [some (.ref 244), some (.int (nI a)), some (.int (nI t)), some (.int (nI s)), some (.int (nI 0)), some (.int (nI i))]) d_R_free_59 (by decide) rfl ?_
      refine N_iinc (a := i) (c := 1) (L1 := [some (.ref 244), some (.int (nI a)), some (.int (nI t)), some (.int (nI s)), some (.int (nI 0)), some (.int (nI (i + 1)))]) d_R_free_61 rfl rfl (by decide) rfl ?_
      refine J_goto (tgt := 27) d_R_free_64 (by decide) ?_
      have e : allN (fun i => !nrB (rg i) s t) (i + 1) = false := by rw [allN, c40]; rfl
      exact (ih (i + 1) (by omega)).eq (by rw [e]; rfl) rfl rfl
    · refine J_aload_n (i := 0) d_R_free_43 rfl rfl ?_
      refine J_iload d_R_free_44 rfl ?_
      refine J_iload_n (i := 3) d_R_free_46 rfl rfl ?_
      refine J_iload_n (i := 2) d_R_free_47 rfl rfl ?_
      refine CV_B (av := [.int (nI i), .int (nI s), .int (nI t)]) d_R_free_48 s_R_467 (M_rcv rfl (by decide) rfl) (S_R_doClash hX hS (by omega) (by omega) (by omega)) (by omega) rfl rfl (Nat.le_of_ble_eq_true rfl) ?_
      refine B_if_ne (tgt := 58) d_R_free_51 (by decide) (fun c51 => ?_) (fun c51 => ?_)
      · refine J_iconst (v := nI 0) d_R_free_58 rfl ?_
        refine J_istore (L1 := [some (.ref 244), some (.int (nI a)), some (.int (nI t)), some (.int (nI s)), some (.int (nI 0)), some (.int (nI i))]) d_R_free_59 (by decide) rfl ?_
        refine N_iinc (a := i) (c := 1) (L1 := [some (.ref 244), some (.int (nI a)), some (.int (nI t)), some (.int (nI s)), some (.int (nI 0)), some (.int (nI (i + 1)))]) d_R_free_61 rfl rfl (by decide) rfl ?_
        refine J_goto (tgt := 27) d_R_free_64 (by decide) ?_
        have e : allN (fun i => !nrB (rg i) s t) (i + 1) = false := by rw [allN, c40, c51]; rfl
        exact (ih (i + 1) (by omega)).eq (by rw [e]; rfl) rfl rfl
      · refine J_iconst (v := nI 1) d_R_free_54 rfl ?_
        refine J_goto (tgt := 59) d_R_free_55 (by decide) ?_
        refine J_istore (L1 := [some (.ref 244), some (.int (nI a)), some (.int (nI t)), some (.int (nI s)), some (.int (nI 1)), some (.int (nI i))]) d_R_free_59 (by decide) rfl ?_
        refine N_iinc (a := i) (c := 1) (L1 := [some (.ref 244), some (.int (nI a)), some (.int (nI t)), some (.int (nI s)), some (.int (nI 1)), some (.int (nI (i + 1)))]) d_R_free_61 rfl rfl (by decide) rfl ?_
        refine J_goto (tgt := 27) d_R_free_64 (by decide) ?_
        have e : allN (fun i => !nrB (rg i) s t) (i + 1) = true := by rw [allN, c40, c51]; rfl
        exact (ih (i + 1) (by omega)).eq (by rw [e]; rfl) rfl rfl

theorem lp_R_free {X : Mem} {m : Nat} {st rg : Nat → Nat} (hX : Ok X) (hS : RSt X m st rg) {a t : Nat} {G : Int32} {Q : Option Value → Mem → Prop} (ht : t ≤ 20) (kq : Q (some (.int G)) X) : ∀ (k s : Nat) (z5 z6 : Option Value), lfS (k + 1) s → fsS (frP m rg t) (k + 1) s = G → JM 5 m_R_free Q 16 [some (.ref 244), some (.int (nI a)), some (.int (nI t)), some (.int (nI s)), z5, z6] [] X := by
  have hm8 := hS.1
  intro k
  induction k with
  | zero =>
    intro s z5 z6 hf e
    have hs := lfS_lt hf
    refine J_iload_n (i := 3) d_R_free_16 rfl rfl ?_
    refine J_iconst (v := (-1)) d_R_free_17 rfl ?_
    refine J_icmp_eq (tgt := 82) d_R_free_18 (by decide) (fun c18 => absurd c18 (nI_nm1 (by omega))) (fun c18 => ?_)
    refine J_iconst (v := nI 1) d_R_free_21 rfl ?_
    refine J_istore (L1 := [some (.ref 244), some (.int (nI a)), some (.int (nI t)), some (.int (nI s)), some (.int (nI 1)), z6]) d_R_free_22 (by decide) rfl ?_
    refine J_iconst (v := nI 0) d_R_free_24 rfl ?_
    refine J_istore (L1 := [some (.ref 244), some (.int (nI a)), some (.int (nI t)), some (.int (nI s)), some (.int (nI 1)), some (.int (nI 0))]) d_R_free_25 (by decide) rfl ?_
    refine lp_R_free_in hX hS ht hs (by decide) ?_ m 0 (by omega)
    refine J_iload d_R_free_67 rfl ?_
    refine B_if_eq (tgt := 74) d_R_free_69 (by decide) (fun c69 => ?_) (fun c69 => ?_)
    · refine J_iload_n (i := 3) d_R_free_74 rfl rfl ?_
      refine CS_I (av := [.int (nI s)]) d_R_free_75 s_R_473 (lfS_ns hf) (by decide) rfl rfl (Nat.le_of_ble_eq_true rfl) ?_
      refine J_istore_n (i := 3) (L1 := [some (.ref 244), some (.int (nI a)), some (.int (nI t)), some (.int (if 0 = 0 then (-1) else nI (nxS s))), some (.int (b2i (allN (fun i => !nrB (rg i) s t) m))), some (.int (nI m))]) d_R_free_78 rfl (by decide) rfl ?_
      refine J_goto (tgt := 16) d_R_free_79 (by decide) ?_
      have e2 : frP m rg t s = false := c69
      rw [fsS, e2, if_neg (by decide)] at e
      refine J_iload_n (i := 3) d_R_free_16 rfl rfl ?_
      refine J_iconst (v := (-1)) d_R_free_17 rfl ?_
      refine J_icmp_eq (tgt := 82) d_R_free_18 (by decide) (fun c18 => ?_) (fun c18 => absurd c18 (fun z => z rfl))
      refine J_iconst (v := (-1)) d_R_free_82 rfl ?_
      refine M_ir d_R_free_83 rfl rfl ?_
      exact (show (-1 : Int32) = G from e) ▸ kq
    · refine J_iload_n (i := 3) d_R_free_72 rfl rfl ?_
      refine M_ir d_R_free_73 rfl rfl ?_
      rw [fsS, show frP m rg t s = true from c69, if_pos rfl] at e
      rw [e]
      exact kq
  | succ k ih =>
    intro s z5 z6 hf e
    have hs := lfS_lt hf
    refine J_iload_n (i := 3) d_R_free_16 rfl rfl ?_
    refine J_iconst (v := (-1)) d_R_free_17 rfl ?_
    refine J_icmp_eq (tgt := 82) d_R_free_18 (by decide) (fun c18 => absurd c18 (nI_nm1 (by omega))) (fun c18 => ?_)
    refine J_iconst (v := nI 1) d_R_free_21 rfl ?_
    refine J_istore (L1 := [some (.ref 244), some (.int (nI a)), some (.int (nI t)), some (.int (nI s)), some (.int (nI 1)), z6]) d_R_free_22 (by decide) rfl ?_
    refine J_iconst (v := nI 0) d_R_free_24 rfl ?_
    refine J_istore (L1 := [some (.ref 244), some (.int (nI a)), some (.int (nI t)), some (.int (nI s)), some (.int (nI 1)), some (.int (nI 0))]) d_R_free_25 (by decide) rfl ?_
    refine lp_R_free_in hX hS ht hs (by decide) ?_ m 0 (by omega)
    refine J_iload d_R_free_67 rfl ?_
    refine B_if_eq (tgt := 74) d_R_free_69 (by decide) (fun c69 => ?_) (fun c69 => ?_)
    · refine J_iload_n (i := 3) d_R_free_74 rfl rfl ?_
      refine CS_I (av := [.int (nI s)]) d_R_free_75 s_R_473 (lfS_ns hf) (by decide) rfl rfl (Nat.le_of_ble_eq_true rfl) ?_
      refine J_istore_n (i := 3) (L1 := [some (.ref 244), some (.int (nI a)), some (.int (nI t)), some (.int (if (k + 1) = 0 then (-1) else nI (nxS s))), some (.int (b2i (allN (fun i => !nrB (rg i) s t) m))), some (.int (nI m))]) d_R_free_78 rfl (by decide) rfl ?_
      refine J_goto (tgt := 16) d_R_free_79 (by decide) ?_
      have e2 : frP m rg t s = false := c69
      rw [fsS, e2, if_neg (by decide)] at e
      exact ih _ _ _ (lfS_s hf) e
    · refine J_iload_n (i := 3) d_R_free_72 rfl rfl ?_
      refine M_ir d_R_free_73 rfl rfl ?_
      rw [fsS, show frP m rg t s = true from c69, if_pos rfl] at e
      rw [e]
      exact kq

theorem S_R_free {X : Mem} {m : Nat} {st rg : Nat → Nat} (hX : Ok X) (hS : RSt X m st rg) {a b : Int32} : CM 5 m_R_free [.ref 244, .int a, .int b] X (rI (freeF m rg a b) X) := by
  refine CM_of (L := [some (.ref 244), some (.int a), some (.int b), none, none, none]) 3 ok_R_free (fun _ => Nat.le_of_ble_eq_true rfl) rfl ?_
  refine J_iload_n (i := 1) d_R_free_0 rfl rfl ?_
  refine J_iload_n (i := 2) d_R_free_1 rfl rfl ?_
  refine CS_B (av := [.int a, .int b]) d_R_free_2 s_R_470 (S_R_isFew) (by decide) rfl rfl (Nat.le_of_ble_eq_true rfl) ?_
  refine B_if_ne (tgt := 10) d_R_free_5 (by decide) (fun c5 => ?_) (fun c5 => ?_)
  · have cab := c5
    rw [Bool.and_eq_true] at cab
    have ca := cab.1
    have cb := cab.2
    obtain ⟨a_, ha_, rfl⟩ := inR_n (n := 4) ca (by decide)
    obtain ⟨b_, hb_, rfl⟩ := inR_n (n := 20) cb (by decide)
    have hcp := cN_pos a_ (by omega)
    have hc5 := cN_lt a_ (by omega)
    have hc6 : ∀ i, i < 5 → cN i ≤ 5000 := by decide
    have hc6 := hc6 a_ (by omega)
    have hlf := lfS_0 a_ (by omega)
    refine J_iconst (v := nI 1) d_R_free_10 rfl ?_
    refine J_iload_n (i := 1) d_R_free_11 rfl rfl ?_
    refine N_ishl d_R_free_12 (by first | omega | exact shl_pos _) ?_
    refine J_iconst (v := nI 1) d_R_free_13 rfl ?_
    refine N_isub d_R_free_14 (by first | omega | exact shl_pos _) ?_
    refine J_istore_n (i := 3) (L1 := [some (.ref 244), some (.int (nI a_)), some (.int (nI b_)), some (.int (nI ((1 <<< a_) - 1))), none, none]) d_R_free_15 rfl (by decide) rfl ?_
    obtain ⟨k, hk⟩ : ∃ k, cN a_ = k + 1 := ⟨cN a_ - 1, by omega⟩
    rw [hk] at hlf
    exact lp_R_free hX hS hb_ (Q := rI (freeF m rg (nI a_) (nI b_)) X) (G := freeF m rg (nI a_) (nI b_)) ⟨rfl, rfl⟩ k _ none none hlf (by rw [freeF, c5, if_pos rfl, tn_nI (by omega), tn_nI (by omega), hk])
  · refine J_iconst (v := (-1)) d_R_free_8 rfl ?_
    refine M_ir d_R_free_9 rfl rfl ?_
    exact ⟨by rw [freeF, show (inR a 4 && inR b 20) = false from c5] <;> rfl, rfl⟩

theorem lp_R_apart_in {d : Nat} {Q : Option Value → Mem → Prop} {X : Mem} {m : Nat} {st rg : Nat → Nat} (hX : Ok X) (hS : RSt X m st rg) {a t s c : Nat} (ht : t ≤ 20) (hs : s < 1048576) (hd : 5 ≤ d) (kx : JM d m_R_apart Q 80 [some (.ref 244), some (.int (nI a)), some (.int (nI t)), some (.int (nI c)), some (.int (nI s)), some (.int (b2i (allN (fun i => decide (t ≤ apN s (rg i) (nwN s (rg i)))) m))), some (.int (nI m))] [] X) : ∀ (n i : Nat), i + n = m → JM d m_R_apart Q 31 [some (.ref 244), some (.int (nI a)), some (.int (nI t)), some (.int (nI c)), some (.int (nI s)), some (.int (b2i (allN (fun i => decide (t ≤ apN s (rg i) (nwN s (rg i)))) i))), some (.int (nI i))] [] X := by
  have hm8 := hS.1
  intro n
  induction n with
  | zero =>
    intro i hi
    obtain rfl : m = i := by omega
    refine J_iload d_R_apart_31 rfl ?_
    refine J_aload_n (i := 0) d_R_apart_33 rfl rfl ?_
    refine M_getR (b := 245) d_R_apart_34 f_R_7 rfl rfl rfl ?_
    refine J_iconst (v := nI 0) d_R_apart_37 rfl ?_
    refine N_iald (x := (nI m)) d_R_apart_38 rfl (by omega) (ltL hX (a := 245) (n := 1217) (by decide) rfl (by omega)) hS.2.1 ?_
    refine N_icmp_ge (tgt := 80) d_R_apart_39 (by decide) (by omega) (by omega) (fun c39 => ?_) (fun c39 => absurd c39 (by omega))
    exact kx
  | succ n ih =>
    intro i hi
    have hrgi := (hS.2.2.2 i (by omega)).2
    have hap : apN s (rg i) (nwN s (rg i)) ≤ 32 := bc_le _
    refine J_iload d_R_apart_31 rfl ?_
    refine J_aload_n (i := 0) d_R_apart_33 rfl rfl ?_
    refine M_getR (b := 245) d_R_apart_34 f_R_7 rfl rfl rfl ?_
    refine J_iconst (v := nI 0) d_R_apart_37 rfl ?_
    refine N_iald (x := (nI m)) d_R_apart_38 rfl (by omega) (ltL hX (a := 245) (n := 1217) (by decide) rfl (by omega)) hS.2.1 ?_
    refine N_icmp_ge (tgt := 80) d_R_apart_39 (by decide) (by omega) (by omega) (fun c39 => absurd c39 (by omega)) (fun c39 => ?_)
    refine J_iload d_R_apart_42 rfl ?_
    refine B_if_eq (tgt := 71) d_R_apart_44 (by decide) (fun c44 => ?_) (fun c44 => ?_)
    · refine J_iconst (v := nI 0) d_R_apart_71 rfl ?_
      refine J_istore (L1 := [some (.ref 244), some (.int (nI a)), some (.int (nI t)), some (.int (nI c)), some (.int (nI s)), some (.int (nI 0)), some (.int (nI i))]) d_R_apart_72 (by decide) rfl ?_
      refine N_iinc (a := i) (c := 1) (L1 := [some (.ref 244), some (.int (nI a)), some (.int (nI t)), some (.int (nI c)), some (.int (nI s)), some (.int (nI 0)), some (.int (nI (i + 1)))]) d_R_apart_74 rfl rfl (by decide) rfl ?_
      refine J_goto (tgt := 31) d_R_apart_77 (by decide) ?_
      have e : allN (fun i => decide (t ≤ apN s (rg i) (nwN s (rg i)))) (i + 1) = false := by rw [allN, c44]; rfl
      exact (ih (i + 1) (by omega)).eq (by rw [e]; rfl) rfl rfl
    · refine J_aload_n (i := 0) d_R_apart_47 rfl rfl ?_
      refine J_iload d_R_apart_48 rfl ?_
      refine J_aload_n (i := 0) d_R_apart_50 rfl rfl ?_
      refine M_getR (b := 245) d_R_apart_51 f_R_7 rfl rfl rfl ?_
      refine J_bipush (v := nI 18) d_R_apart_54 rfl ?_
      refine J_iload d_R_apart_56 rfl ?_
      refine N_iadd d_R_apart_58 ?_
      refine N_iald (x := (nI (rg i))) d_R_apart_59 rfl (by omega) (ltL hX (a := 245) (n := 1217) (by decide) rfl (by omega)) (hS.2.2.2 i (by omega)).1 ?_
      refine CV_N (av := [.int (nI s), .int (nI (rg i))]) d_R_apart_60 s_R_458 (M_rcv rfl (by decide) rfl) (S_R_apartBy hX (by omega) (by omega)) (by omega) rfl rfl (Nat.le_of_ble_eq_true rfl) ?_
      refine J_iload_n (i := 2) d_R_apart_63 rfl rfl ?_
      refine N_icmp_lt (tgt := 71) d_R_apart_64 (by decide) (by omega) (by omega) (fun c64 => ?_) (fun c64 => ?_)
      · refine J_iconst (v := nI 0) d_R_apart_71 rfl ?_
        refine J_istore (L1 := [some (.ref 244), some (.int (nI a)), some (.int (nI t)), some (.int (nI c)), some (.int (nI s)), some (.int (nI 0)), some (.int (nI i))]) d_R_apart_72 (by decide) rfl ?_
        refine N_iinc (a := i) (c := 1) (L1 := [some (.ref 244), some (.int (nI a)), some (.int (nI t)), some (.int (nI c)), some (.int (nI s)), some (.int (nI 0)), some (.int (nI (i + 1)))]) d_R_apart_74 rfl rfl (by decide) rfl ?_
        refine J_goto (tgt := 31) d_R_apart_77 (by decide) ?_
        have e : allN (fun i => decide (t ≤ apN s (rg i) (nwN s (rg i)))) (i + 1) = false := by rw [allN, c44, decide_eq_false (show ¬ t ≤ apN s (rg i) (nwN s (rg i)) by omega)]; rfl
        exact (ih (i + 1) (by omega)).eq (by rw [e]; rfl) rfl rfl
      · refine J_iconst (v := nI 1) d_R_apart_67 rfl ?_
        refine J_goto (tgt := 72) d_R_apart_68 (by decide) ?_
        refine J_istore (L1 := [some (.ref 244), some (.int (nI a)), some (.int (nI t)), some (.int (nI c)), some (.int (nI s)), some (.int (nI 1)), some (.int (nI i))]) d_R_apart_72 (by decide) rfl ?_
        refine N_iinc (a := i) (c := 1) (L1 := [some (.ref 244), some (.int (nI a)), some (.int (nI t)), some (.int (nI c)), some (.int (nI s)), some (.int (nI 1)), some (.int (nI (i + 1)))]) d_R_apart_74 rfl rfl (by decide) rfl ?_
        refine J_goto (tgt := 31) d_R_apart_77 (by decide) ?_
        have e : allN (fun i => decide (t ≤ apN s (rg i) (nwN s (rg i)))) (i + 1) = true := by rw [allN, c44, decide_eq_true (show t ≤ apN s (rg i) (nwN s (rg i)) by omega)]; rfl
        exact (ih (i + 1) (by omega)).eq (by rw [e]; rfl) rfl rfl

theorem lp_R_apart {X : Mem} {m : Nat} {st rg : Nat → Nat} (hX : Ok X) (hS : RSt X m st rg) {a t : Nat} {G : Int32} {Q : Option Value → Mem → Prop} (ht : t ≤ 20) (kq : Q (some (.int G)) X) : ∀ (k c s : Nat) (z5 z6 : Option Value), lfS (k + 1) s → c + (k + 1) ≤ 5000 → nI (c + ctS (faP m rg t) (k + 1) s) = G → JM 5 m_R_apart Q 19 [some (.ref 244), some (.int (nI a)), some (.int (nI t)), some (.int (nI c)), some (.int (nI s)), z5, z6] [] X := by
  have hm8 := hS.1
  intro k
  induction k with
  | zero =>
    intro c s z5 z6 hf hc e
    have hs := lfS_lt hf
    refine J_iload d_R_apart_19 rfl ?_
    refine J_iconst (v := (-1)) d_R_apart_21 rfl ?_
    refine J_icmp_eq (tgt := 103) d_R_apart_22 (by decide) (fun c22 => absurd c22 (nI_nm1 (by omega))) (fun c22 => ?_)
    refine J_iconst (v := nI 1) d_R_apart_25 rfl ?_
    refine J_istore (L1 := [some (.ref 244), some (.int (nI a)), some (.int (nI t)), some (.int (nI c)), some (.int (nI s)), some (.int (nI 1)), z6]) d_R_apart_26 (by decide) rfl ?_
    refine J_iconst (v := nI 0) d_R_apart_28 rfl ?_
    refine J_istore (L1 := [some (.ref 244), some (.int (nI a)), some (.int (nI t)), some (.int (nI c)), some (.int (nI s)), some (.int (nI 1)), some (.int (nI 0))]) d_R_apart_29 (by decide) rfl ?_
    refine lp_R_apart_in hX hS ht hs (by decide) ?_ m 0 (by omega)
    refine J_iload_n (i := 3) d_R_apart_80 rfl rfl ?_
    refine J_iload d_R_apart_81 rfl ?_
    refine B_if_eq (tgt := 90) d_R_apart_83 (by decide) (fun c83 => ?_) (fun c83 => ?_)
    · refine J_iconst (v := nI 0) d_R_apart_90 rfl ?_
      refine N_iadd d_R_apart_91 ?_
      refine J_istore_n (i := 3) (L1 := [some (.ref 244), some (.int (nI a)), some (.int (nI t)), some (.int (nI (c + 0))), some (.int (nI s)), some (.int (b2i (allN (fun i => decide (t ≤ apN s (rg i) (nwN s (rg i)))) m))), some (.int (nI m))]) d_R_apart_92 rfl (by decide) rfl ?_
      refine J_iload d_R_apart_93 rfl ?_
      refine CS_I (av := [.int (nI s)]) d_R_apart_95 s_R_473 (lfS_ns hf) (by decide) rfl rfl (Nat.le_of_ble_eq_true rfl) ?_
      refine J_istore (L1 := [some (.ref 244), some (.int (nI a)), some (.int (nI t)), some (.int (nI (c + 0))), some (.int (if 0 = 0 then (-1) else nI (nxS s))), some (.int (b2i (allN (fun i => decide (t ≤ apN s (rg i) (nwN s (rg i)))) m))), some (.int (nI m))]) d_R_apart_98 (by decide) rfl ?_
      refine J_goto (tgt := 19) d_R_apart_100 (by decide) ?_
      rw [show ctS (faP m rg t) (0 + 1) s = 0 from by rw [ctS, show faP m rg t s = false from c83]; rfl] at e
      refine J_iload d_R_apart_19 rfl ?_
      refine J_iconst (v := (-1)) d_R_apart_21 rfl ?_
      refine J_icmp_eq (tgt := 103) d_R_apart_22 (by decide) (fun c22 => ?_) (fun c22 => absurd c22 (fun z => z rfl))
      refine J_iload_n (i := 3) d_R_apart_103 rfl rfl ?_
      refine M_ir d_R_apart_104 rfl rfl ?_
      exact e ▸ kq
    · refine J_iconst (v := nI 1) d_R_apart_86 rfl ?_
      refine J_goto (tgt := 91) d_R_apart_87 (by decide) ?_
      refine N_iadd d_R_apart_91 ?_
      refine J_istore_n (i := 3) (L1 := [some (.ref 244), some (.int (nI a)), some (.int (nI t)), some (.int (nI (c + 1))), some (.int (nI s)), some (.int (b2i (allN (fun i => decide (t ≤ apN s (rg i) (nwN s (rg i)))) m))), some (.int (nI m))]) d_R_apart_92 rfl (by decide) rfl ?_
      refine J_iload d_R_apart_93 rfl ?_
      refine CS_I (av := [.int (nI s)]) d_R_apart_95 s_R_473 (lfS_ns hf) (by decide) rfl rfl (Nat.le_of_ble_eq_true rfl) ?_
      refine J_istore (L1 := [some (.ref 244), some (.int (nI a)), some (.int (nI t)), some (.int (nI (c + 1))), some (.int (if 0 = 0 then (-1) else nI (nxS s))), some (.int (b2i (allN (fun i => decide (t ≤ apN s (rg i) (nwN s (rg i)))) m))), some (.int (nI m))]) d_R_apart_98 (by decide) rfl ?_
      refine J_goto (tgt := 19) d_R_apart_100 (by decide) ?_
      rw [show ctS (faP m rg t) (0 + 1) s = 1 from by rw [ctS, show faP m rg t s = true from c83]; rfl] at e
      refine J_iload d_R_apart_19 rfl ?_
      refine J_iconst (v := (-1)) d_R_apart_21 rfl ?_
      refine J_icmp_eq (tgt := 103) d_R_apart_22 (by decide) (fun c22 => ?_) (fun c22 => absurd c22 (fun z => z rfl))
      refine J_iload_n (i := 3) d_R_apart_103 rfl rfl ?_
      refine M_ir d_R_apart_104 rfl rfl ?_
      exact e ▸ kq
  | succ k ih =>
    intro c s z5 z6 hf hc e
    have hs := lfS_lt hf
    refine J_iload d_R_apart_19 rfl ?_
    refine J_iconst (v := (-1)) d_R_apart_21 rfl ?_
    refine J_icmp_eq (tgt := 103) d_R_apart_22 (by decide) (fun c22 => absurd c22 (nI_nm1 (by omega))) (fun c22 => ?_)
    refine J_iconst (v := nI 1) d_R_apart_25 rfl ?_
    refine J_istore (L1 := [some (.ref 244), some (.int (nI a)), some (.int (nI t)), some (.int (nI c)), some (.int (nI s)), some (.int (nI 1)), z6]) d_R_apart_26 (by decide) rfl ?_
    refine J_iconst (v := nI 0) d_R_apart_28 rfl ?_
    refine J_istore (L1 := [some (.ref 244), some (.int (nI a)), some (.int (nI t)), some (.int (nI c)), some (.int (nI s)), some (.int (nI 1)), some (.int (nI 0))]) d_R_apart_29 (by decide) rfl ?_
    refine lp_R_apart_in hX hS ht hs (by decide) ?_ m 0 (by omega)
    refine J_iload_n (i := 3) d_R_apart_80 rfl rfl ?_
    refine J_iload d_R_apart_81 rfl ?_
    refine B_if_eq (tgt := 90) d_R_apart_83 (by decide) (fun c83 => ?_) (fun c83 => ?_)
    · refine J_iconst (v := nI 0) d_R_apart_90 rfl ?_
      refine N_iadd d_R_apart_91 ?_
      refine J_istore_n (i := 3) (L1 := [some (.ref 244), some (.int (nI a)), some (.int (nI t)), some (.int (nI (c + 0))), some (.int (nI s)), some (.int (b2i (allN (fun i => decide (t ≤ apN s (rg i) (nwN s (rg i)))) m))), some (.int (nI m))]) d_R_apart_92 rfl (by decide) rfl ?_
      refine J_iload d_R_apart_93 rfl ?_
      refine CS_I (av := [.int (nI s)]) d_R_apart_95 s_R_473 (lfS_ns hf) (by decide) rfl rfl (Nat.le_of_ble_eq_true rfl) ?_
      refine J_istore (L1 := [some (.ref 244), some (.int (nI a)), some (.int (nI t)), some (.int (nI (c + 0))), some (.int (if (k + 1) = 0 then (-1) else nI (nxS s))), some (.int (b2i (allN (fun i => decide (t ≤ apN s (rg i) (nwN s (rg i)))) m))), some (.int (nI m))]) d_R_apart_98 (by decide) rfl ?_
      refine J_goto (tgt := 19) d_R_apart_100 (by decide) ?_
      rw [ctS, show faP m rg t s = false from c83] at e
      exact ih _ _ _ _ (lfS_s hf) (by omega) (by rw [← e]; congr 1; rw [if_neg (by decide), Nat.zero_add]; rfl)
    · refine J_iconst (v := nI 1) d_R_apart_86 rfl ?_
      refine J_goto (tgt := 91) d_R_apart_87 (by decide) ?_
      refine N_iadd d_R_apart_91 ?_
      refine J_istore_n (i := 3) (L1 := [some (.ref 244), some (.int (nI a)), some (.int (nI t)), some (.int (nI (c + 1))), some (.int (nI s)), some (.int (b2i (allN (fun i => decide (t ≤ apN s (rg i) (nwN s (rg i)))) m))), some (.int (nI m))]) d_R_apart_92 rfl (by decide) rfl ?_
      refine J_iload d_R_apart_93 rfl ?_
      refine CS_I (av := [.int (nI s)]) d_R_apart_95 s_R_473 (lfS_ns hf) (by decide) rfl rfl (Nat.le_of_ble_eq_true rfl) ?_
      refine J_istore (L1 := [some (.ref 244), some (.int (nI a)), some (.int (nI t)), some (.int (nI (c + 1))), some (.int (if (k + 1) = 0 then (-1) else nI (nxS s))), some (.int (b2i (allN (fun i => decide (t ≤ apN s (rg i) (nwN s (rg i)))) m))), some (.int (nI m))]) d_R_apart_98 (by decide) rfl ?_
      refine J_goto (tgt := 19) d_R_apart_100 (by decide) ?_
      rw [ctS, show faP m rg t s = true from c83] at e
      exact ih _ _ _ _ (lfS_s hf) (by omega) (by rw [← e]; congr 1; rw [if_pos rfl, Nat.add_assoc])

theorem S_R_apart {X : Mem} {m : Nat} {st rg : Nat → Nat} (hX : Ok X) (hS : RSt X m st rg) {a b : Int32} : CM 5 m_R_apart [.ref 244, .int a, .int b] X (rI (apartF m rg a b) X) := by
  refine CM_of (L := [some (.ref 244), some (.int a), some (.int b), none, none, none, none]) 4 ok_R_apart (fun _ => Nat.le_of_ble_eq_true rfl) rfl ?_
  refine J_iload_n (i := 1) d_R_apart_0 rfl rfl ?_
  refine J_iload_n (i := 2) d_R_apart_1 rfl rfl ?_
  refine CS_B (av := [.int a, .int b]) d_R_apart_2 s_R_470 (S_R_isFew) (by decide) rfl rfl (Nat.le_of_ble_eq_true rfl) ?_
  refine B_if_ne (tgt := 10) d_R_apart_5 (by decide) (fun c5 => ?_) (fun c5 => ?_)
  · have cab := c5
    rw [Bool.and_eq_true] at cab
    have ca := cab.1
    have cb := cab.2
    obtain ⟨a_, ha_, rfl⟩ := inR_n (n := 4) ca (by decide)
    obtain ⟨b_, hb_, rfl⟩ := inR_n (n := 20) cb (by decide)
    have hcp := cN_pos a_ (by omega)
    have hc5 := cN_lt a_ (by omega)
    have hc6 : ∀ i, i < 5 → cN i ≤ 5000 := by decide
    have hc6 := hc6 a_ (by omega)
    have hlf := lfS_0 a_ (by omega)
    refine J_iconst (v := nI 0) d_R_apart_10 rfl ?_
    refine J_istore_n (i := 3) (L1 := [some (.ref 244), some (.int (nI a_)), some (.int (nI b_)), some (.int (nI 0)), none, none, none]) d_R_apart_11 rfl (by decide) rfl ?_
    refine J_iconst (v := nI 1) d_R_apart_12 rfl ?_
    refine J_iload_n (i := 1) d_R_apart_13 rfl rfl ?_
    refine N_ishl d_R_apart_14 (by first | omega | exact shl_pos _) ?_
    refine J_iconst (v := nI 1) d_R_apart_15 rfl ?_
    refine N_isub d_R_apart_16 (by first | omega | exact shl_pos _) ?_
    refine J_istore (L1 := [some (.ref 244), some (.int (nI a_)), some (.int (nI b_)), some (.int (nI 0)), some (.int (nI ((1 <<< a_) - 1))), none, none]) d_R_apart_17 (by decide) rfl ?_
    obtain ⟨k, hk⟩ : ∃ k, cN a_ = k + 1 := ⟨cN a_ - 1, by omega⟩
    rw [hk] at hlf
    exact lp_R_apart hX hS hb_ (Q := rI (apartF m rg (nI a_) (nI b_)) X) (G := apartF m rg (nI a_) (nI b_)) ⟨rfl, rfl⟩ k 0 _ none none hlf (by omega) (by rw [apartF, c5, if_pos rfl, tn_nI (by omega), tn_nI (by omega), hk]; congr 1; exact Nat.zero_add _)
  · refine J_iconst (v := (-1)) d_R_apart_8 rfl ?_
    refine M_ir d_R_apart_9 rfl rfl ?_
    exact ⟨by rw [apartF, show (inR a 4 && inR b 20) = false from c5] <;> rfl, rfl⟩

