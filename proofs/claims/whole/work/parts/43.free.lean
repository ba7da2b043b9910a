theorem lp_O_free {X : Mem} {m : Nat} {st rg : Nat → Nat} (hX : Ok X) (hS : CSt X m st rg) {a t c2 : Nat} {G : Int32} {Q : Option Value → Mem → Prop} (hl : shL rg (8 * m) (X.2.1 221)) (ht : t ≤ 20) (hc2 : c2 < 10000) (kq : Q (some (.int G)) X) : ∀ (k i s : Nat), i + k = c2 → (k = 0 ∨ lfS k s) → fsS (frP m rg t) k s = G → JM 3 m_O_free Q 48 [some (.ref 8), some (.int (nI a)), some (.int (nI t)), some (.int (nI (8 * m))), some (.int (nI c2)), some (.int (nI s)), some (.int (nI i))] [] X := by
  have hm8 := hS.1
  intro k
  induction k with
  | zero =>
    intro i s hi hf e
    obtain rfl : c2 = i := by omega
    refine J_iload d_O_free_48 rfl ?_
    refine J_iload d_O_free_50 rfl ?_
    refine N_icmp_ge (tgt := 82) d_O_free_52 (by decide) (by omega) (by omega) (fun c52 => ?_) (fun c52 => absurd c52 (by omega))
    refine J_iconst (v := (-1)) d_O_free_82 rfl ?_
    refine M_ir d_O_free_83 rfl rfl ?_
    exact (show (-1 : Int32) = G from e) ▸ kq
  | succ k ih =>
    intro i s hi hf e
    have hf : lfS (k + 1) s := by rcases hf with q | q; exact absurd q (by omega); exact q
    have hs := lfS_lt hf
    refine J_iload d_O_free_48 rfl ?_
    refine J_iload d_O_free_50 rfl ?_
    refine N_icmp_ge (tgt := 82) d_O_free_52 (by decide) (by omega) (by omega) (fun c52 => absurd c52 (by omega)) (fun c52 => ?_)
    refine J_aload_n (i := 0) d_O_free_55 rfl rfl ?_
    refine J_iload_n (i := 3) d_O_free_56 rfl rfl ?_
    refine J_iload d_O_free_57 rfl ?_
    refine J_iload_n (i := 2) d_O_free_59 rfl rfl ?_
    refine CV_B (av := [.int (nI (8 * m)), .int (nI s), .int (nI t)]) d_O_free_60 s_O_277 (M_rcv rfl (by decide) rfl) (S_O_isFreeOf hX hS hl (by omega) (by omega)) (by decide) rfl rfl (Nat.le_of_ble_eq_true rfl) ?_
    refine B_if_eq (tgt := 69) d_O_free_63 (by decide) (fun c63 => ?_) (fun c63 => ?_)
    · refine J_iload d_O_free_69 rfl ?_
      refine CS_N (av := [.int (nI s)]) d_O_free_71 s_O_280 (lfS_nx hf) (by decide) rfl rfl (Nat.le_of_ble_eq_true rfl) ?_
      refine J_istore (L1 := [some (.ref 8), some (.int (nI a)), some (.int (nI t)), some (.int (nI (8 * m))), some (.int (nI c2)), some (.int (nI (nxS s))), some (.int (nI i))]) d_O_free_74 (by decide) rfl ?_
      refine N_iinc (a := i) (c := 1) (L1 := [some (.ref 8), some (.int (nI a)), some (.int (nI t)), some (.int (nI (8 * m))), some (.int (nI c2)), some (.int (nI (nxS s))), some (.int (nI (i + 1)))]) d_O_free_76 rfl rfl (by decide) rfl ?_
      refine J_goto (tgt := 48) d_O_free_79 (by decide) ?_
      rw [fsS, show frP m rg t s = false from c63, if_neg (by decide)] at e
      exact ih _ _ (by omega) (by cases k with
        | zero => exact Or.inl rfl
        | succ k => exact Or.inr (lfS_s hf)) e
    · refine J_iload d_O_free_66 rfl ?_
      refine M_ir d_O_free_68 rfl rfl ?_
      rw [fsS, show frP m rg t s = true from c63, if_pos rfl] at e
      rw [e]
      exact kq
theorem S_O_free {X : Mem} {m : Nat} {st rg : Nat → Nat} (hX : Ok X) (hS : CSt X m st rg) {a b : Int32} : CM 3 m_O_free [.ref 8, .int a, .int b] X (fun r Y => r = some (.int (freeF m rg a b)) ∧ ∃ l : List Int32, l.length = 64 ∧ Y = pA X 221 l) := by
  refine CM_of (L := [some (.ref 8), some (.int a), some (.int b), none, none, none, none]) 4 ok_O_free (fun _ => Nat.le_of_ble_eq_true rfl) rfl ?_
  refine J_iload_n (i := 1) d_O_free_0 rfl rfl ?_
  refine J_if_lt (tgt := 19) d_O_free_1 (by decide) (fun c1 => ?_) (fun c1 => ?_)
  · refine J_iconst (v := (-1)) d_O_free_19 rfl ?_
    refine M_ir d_O_free_20 rfl rfl ?_
    exact ⟨by rw [freeF, show (inR a 4 && inR b 20) = false from by rw [inR_no1 c1]; rfl] <;> rfl, X.2.1 221, by rw [hX.1 221 (by decide)]; rfl, pA_eta.symm⟩
  · refine J_iload_n (i := 1) d_O_free_4 rfl rfl ?_
    refine J_iconst (v := nI 4) d_O_free_5 rfl ?_
    refine J_icmp_gt (tgt := 19) d_O_free_6 (by decide) (fun c6 => ?_) (fun c6 => ?_)
    · refine J_iconst (v := (-1)) d_O_free_19 rfl ?_
      refine M_ir d_O_free_20 rfl rfl ?_
      exact ⟨by rw [freeF, show (inR a 4 && inR b 20) = false from by rw [inR_gt (n := 4) (by decide) c1 (Int32.not_le.mpr c6)]; rfl] <;> rfl, X.2.1 221, by rw [hX.1 221 (by decide)]; rfl, pA_eta.symm⟩
    · refine J_iload_n (i := 2) d_O_free_9 rfl rfl ?_
      refine J_if_lt (tgt := 19) d_O_free_10 (by decide) (fun c10 => ?_) (fun c10 => ?_)
      · refine J_iconst (v := (-1)) d_O_free_19 rfl ?_
        refine M_ir d_O_free_20 rfl rfl ?_
        exact ⟨by rw [freeF, show (inR a 4 && inR b 20) = false from by rw [inR_no1 (v := b) c10, Bool.and_false]] <;> rfl, X.2.1 221, by rw [hX.1 221 (by decide)]; rfl, pA_eta.symm⟩
      · refine J_iload_n (i := 2) d_O_free_13 rfl rfl ?_
        refine J_bipush (v := nI 20) d_O_free_14 rfl ?_
        refine J_icmp_le (tgt := 21) d_O_free_16 (by decide) (fun c16 => ?_) (fun c16 => ?_)
        · have ca := inR_le (n := 4) (by decide) c1 (Int32.not_lt.mp c6)
          have cb := inR_le (n := 20) (by decide) c10 c16
          have cab : (inR a 4 && inR b 20) = true := by rw [ca, cb]; rfl
          obtain ⟨a_, ha_, rfl⟩ := inR_n (n := 4) ca (by decide)
          obtain ⟨b_, hb_, rfl⟩ := inR_n (n := 20) cb (by decide)
          have hcp := cN_pos a_ (by omega)
          have hc5 := cN_lt a_ (by omega)
          have hlf := lfS_0 a_ (by omega)
          refine J_aload_n (i := 0) d_O_free_21 rfl rfl ?_
          refine J_aload_n (i := 0) d_O_free_22 rfl rfl ?_
          refine M_getR (b := 18) d_O_free_23 f_O_48 rfl rfl rfl ?_
          refine M_getR (b := 114) d_O_free_26 f_O_172 rfl rfl rfl ?_
          refine M_callV (av := [.ref 114]) d_O_free_29 s_O_267 (M_rcv rfl (by decide) rfl) (S_O_turnAll hX hS) (by decide) rfl rfl (Nat.le_of_ble_eq_true rfl) (fun r Y hq => ?_)
          obtain ⟨rfl, l, hl, rfl⟩ := hq
          have hX1 : Ok (pA X 221 l) := okA hX rfl (by rw [hl.1, hX.1 221 (by decide)]; rfl)
          have hS1 : CSt (pA X 221 l) m st rg := CSt_A (by decide) (by decide) hS
          have hl1 : shL rg (8 * m) ((pA X 221 l).2.1 221) := by rw [pA_at]; exact hl
          refine J_istore_n (i := 3) (L1 := [some (.ref 8), some (.int (nI a_)), some (.int (nI b_)), some (.int (nI (8 * m))), none, none, none]) d_O_free_32 rfl (by decide) rfl ?_
          refine J_iload_n (i := 1) d_O_free_33 rfl rfl ?_
          refine CS_N (av := [.int (nI a_)]) d_O_free_34 s_O_271 (S_K_countSets (by omega)) (by decide) rfl rfl (Nat.le_of_ble_eq_true rfl) ?_
          refine J_istore (L1 := [some (.ref 8), some (.int (nI a_)), some (.int (nI b_)), some (.int (nI (8 * m))), some (.int (nI (cN a_))), none, none]) d_O_free_37 (by decide) rfl ?_
          refine J_iload_n (i := 1) d_O_free_39 rfl rfl ?_
          refine CS_N (av := [.int (nI a_)]) d_O_free_40 s_O_274 (S_K_lowestOf (by omega)) (by decide) rfl rfl (Nat.le_of_ble_eq_true rfl) ?_
          refine J_istore (L1 := [some (.ref 8), some (.int (nI a_)), some (.int (nI b_)), some (.int (nI (8 * m))), some (.int (nI (cN a_))), some (.int (nI ((1 <<< a_) - 1))), none]) d_O_free_43 (by decide) rfl ?_
          refine J_iconst (v := nI 0) d_O_free_45 rfl ?_
          refine J_istore (L1 := [some (.ref 8), some (.int (nI a_)), some (.int (nI b_)), some (.int (nI (8 * m))), some (.int (nI (cN a_))), some (.int (nI ((1 <<< a_) - 1))), some (.int (nI 0))]) d_O_free_46 (by decide) rfl ?_
          exact lp_O_free hX1 hS1 (Q := fun r Y => r = some (.int (freeF m rg (nI a_) (nI b_))) ∧ ∃ l : List Int32, l.length = 64 ∧ Y = pA X 221 l) (G := freeF m rg (nI a_) (nI b_)) hl1 hb_ hc5 ⟨rfl, l, hl.1, rfl⟩ (cN a_) 0 _ (by omega) (Or.inr hlf) (by rw [freeF, cab, if_pos rfl, tn_nI (by omega), tn_nI (by omega)])
        · refine J_iconst (v := (-1)) d_O_free_19 rfl ?_
          refine M_ir d_O_free_20 rfl rfl ?_
          exact ⟨by rw [freeF, show (inR a 4 && inR b 20) = false from by rw [inR_gt (n := 20) (by decide) c10 c16, Bool.and_false]] <;> rfl, X.2.1 221, by rw [hX.1 221 (by decide)]; rfl, pA_eta.symm⟩

theorem lp_O_apart {X : Mem} {m : Nat} {st rg : Nat → Nat} (hX : Ok X) (hS : CSt X m st rg) {a t c2 : Nat} {G : Int32} {Q : Option Value → Mem → Prop} (hl : shL rg (8 * m) (X.2.1 221)) (ht : t ≤ 20) (hc2 : c2 < 10000) (kq : Q (some (.int G)) X) : ∀ (k i c s : Nat), i + k = c2 → (k = 0 ∨ lfS k s) → c + k ≤ 10000 → nI (c + ctS (faP m rg t) k s) = G → JM 3 m_O_apart Q 51 [some (.ref 8), some (.int (nI a)), some (.int (nI t)), some (.int (nI (8 * m))), some (.int (nI c2)), some (.int (nI s)), some (.int (nI c)), some (.int (nI i))] [] X := by
  have hm8 := hS.1
  intro k
  induction k with
  | zero =>
    intro i c s hi hf hc e
    obtain rfl : c2 = i := by omega
    refine J_iload d_O_apart_51 rfl ?_
    refine J_iload d_O_apart_53 rfl ?_
    refine N_icmp_ge (tgt := 92) d_O_apart_55 (by decide) (by omega) (by omega) (fun c55 => ?_) (fun c55 => absurd c55 (by omega))
    refine J_iload d_O_apart_92 rfl ?_
    refine M_ir d_O_apart_94 rfl rfl ?_
    exact (show nI c = G from e) ▸ kq
  | succ k ih =>
    intro i c s hi hf hc e
    have hf : lfS (k + 1) s := by rcases hf with q | q; exact absurd q (by omega); exact q
    have hs := lfS_lt hf
    refine J_iload d_O_apart_51 rfl ?_
    refine J_iload d_O_apart_53 rfl ?_
    refine N_icmp_ge (tgt := 92) d_O_apart_55 (by decide) (by omega) (by omega) (fun c55 => absurd c55 (by omega)) (fun c55 => ?_)
    refine J_iload d_O_apart_58 rfl ?_
    refine J_aload_n (i := 0) d_O_apart_60 rfl rfl ?_
    refine J_iload_n (i := 3) d_O_apart_61 rfl rfl ?_
    refine J_iload d_O_apart_62 rfl ?_
    refine J_iload_n (i := 2) d_O_apart_64 rfl rfl ?_
    refine CV_B (av := [.int (nI (8 * m)), .int (nI s), .int (nI t)]) d_O_apart_65 s_O_316 (M_rcv rfl (by decide) rfl) (S_O_isApartFrom hX hS hl (by omega) (by omega)) (by decide) rfl rfl (Nat.le_of_ble_eq_true rfl) ?_
    refine B_if_eq (tgt := 75) d_O_apart_68 (by decide) (fun c68 => ?_) (fun c68 => ?_)
    · refine J_iconst (v := nI 0) d_O_apart_75 rfl ?_
      refine N_iadd d_O_apart_76 ?_
      refine J_istore (L1 := [some (.ref 8), some (.int (nI a)), some (.int (nI t)), some (.int (nI (8 * m))), some (.int (nI c2)), some (.int (nI s)), some (.int (nI (c + 0))), some (.int (nI i))]) d_O_apart_77 (by decide) rfl ?_
      refine J_iload d_O_apart_79 rfl ?_
      refine CS_N (av := [.int (nI s)]) d_O_apart_81 s_O_280 (lfS_nx hf) (by decide) rfl rfl (Nat.le_of_ble_eq_true rfl) ?_
      refine J_istore (L1 := [some (.ref 8), some (.int (nI a)), some (.int (nI t)), some (.int (nI (8 * m))), some (.int (nI c2)), some (.int (nI (nxS s))), some (.int (nI (c + 0))), some (.int (nI i))]) d_O_apart_84 (by decide) rfl ?_
      refine N_iinc (a := i) (c := 1) (L1 := [some (.ref 8), some (.int (nI a)), some (.int (nI t)), some (.int (nI (8 * m))), some (.int (nI c2)), some (.int (nI (nxS s))), some (.int (nI (c + 0))), some (.int (nI (i + 1)))]) d_O_apart_86 rfl rfl (by decide) rfl ?_
      refine J_goto (tgt := 51) d_O_apart_89 (by decide) ?_
      rw [ctS, show faP m rg t s = false from c68] at e
      exact ih _ _ _ (by omega) (by cases k with
        | zero => exact Or.inl rfl
        | succ k => exact Or.inr (lfS_s hf)) (by omega) (by rw [← e]; congr 1; rw [if_neg (by decide), Nat.zero_add]; rfl)
    · refine J_iconst (v := nI 1) d_O_apart_71 rfl ?_
      refine J_goto (tgt := 76) d_O_apart_72 (by decide) ?_
      refine N_iadd d_O_apart_76 ?_
      refine J_istore (L1 := [some (.ref 8), some (.int (nI a)), some (.int (nI t)), some (.int (nI (8 * m))), some (.int (nI c2)), some (.int (nI s)), some (.int (nI (c + 1))), some (.int (nI i))]) d_O_apart_77 (by decide) rfl ?_
      refine J_iload d_O_apart_79 rfl ?_
      refine CS_N (av := [.int (nI s)]) d_O_apart_81 s_O_280 (lfS_nx hf) (by decide) rfl rfl (Nat.le_of_ble_eq_true rfl) ?_
      refine J_istore (L1 := [some (.ref 8), some (.int (nI a)), some (.int (nI t)), some (.int (nI (8 * m))), some (.int (nI c2)), some (.int (nI (nxS s))), some (.int (nI (c + 1))), some (.int (nI i))]) d_O_apart_84 (by decide) rfl ?_
      refine N_iinc (a := i) (c := 1) (L1 := [some (.ref 8), some (.int (nI a)), some (.int (nI t)), some (.int (nI (8 * m))), some (.int (nI c2)), some (.int (nI (nxS s))), some (.int (nI (c + 1))), some (.int (nI (i + 1)))]) d_O_apart_86 rfl rfl (by decide) rfl ?_
      refine J_goto (tgt := 51) d_O_apart_89 (by decide) ?_
      rw [ctS, show faP m rg t s = true from c68] at e
      exact ih _ _ _ (by omega) (by cases k with
        | zero => exact Or.inl rfl
        | succ k => exact Or.inr (lfS_s hf)) (by omega) (by rw [← e]; congr 1; rw [if_pos rfl, Nat.add_assoc])
theorem S_O_apart {X : Mem} {m : Nat} {st rg : Nat → Nat} (hX : Ok X) (hS : CSt X m st rg) {a b : Int32} : CM 3 m_O_apart [.ref 8, .int a, .int b] X (fun r Y => r = some (.int (apartF m rg a b)) ∧ ∃ l : List Int32, l.length = 64 ∧ Y = pA X 221 l) := by
  refine CM_of (L := [some (.ref 8), some (.int a), some (.int b), none, none, none, none, none]) 5 ok_O_apart (fun _ => Nat.le_of_ble_eq_true rfl) rfl ?_
  refine J_iload_n (i := 1) d_O_apart_0 rfl rfl ?_
  refine J_if_lt (tgt := 19) d_O_apart_1 (by decide) (fun c1 => ?_) (fun c1 => ?_)
  · refine J_iconst (v := (-1)) d_O_apart_19 rfl ?_
    refine M_ir d_O_apart_20 rfl rfl ?_
    exact ⟨by rw [apartF, show (inR a 4 && inR b 20) = false from by rw [inR_no1 c1]; rfl] <;> rfl, X.2.1 221, by rw [hX.1 221 (by decide)]; rfl, pA_eta.symm⟩
  · refine J_iload_n (i := 1) d_O_apart_4 rfl rfl ?_
    refine J_iconst (v := nI 4) d_O_apart_5 rfl ?_
    refine J_icmp_gt (tgt := 19) d_O_apart_6 (by decide) (fun c6 => ?_) (fun c6 => ?_)
    · refine J_iconst (v := (-1)) d_O_apart_19 rfl ?_
      refine M_ir d_O_apart_20 rfl rfl ?_
      exact ⟨by rw [apartF, show (inR a 4 && inR b 20) = false from by rw [inR_gt (n := 4) (by decide) c1 (Int32.not_le.mpr c6)]; rfl] <;> rfl, X.2.1 221, by rw [hX.1 221 (by decide)]; rfl, pA_eta.symm⟩
    · refine J_iload_n (i := 2) d_O_apart_9 rfl rfl ?_
      refine J_if_lt (tgt := 19) d_O_apart_10 (by decide) (fun c10 => ?_) (fun c10 => ?_)
      · refine J_iconst (v := (-1)) d_O_apart_19 rfl ?_
        refine M_ir d_O_apart_20 rfl rfl ?_
        exact ⟨by rw [apartF, show (inR a 4 && inR b 20) = false from by rw [inR_no1 (v := b) c10, Bool.and_false]] <;> rfl, X.2.1 221, by rw [hX.1 221 (by decide)]; rfl, pA_eta.symm⟩
      · refine J_iload_n (i := 2) d_O_apart_13 rfl rfl ?_
        refine J_bipush (v := nI 20) d_O_apart_14 rfl ?_
        refine J_icmp_le (tgt := 21) d_O_apart_16 (by decide) (fun c16 => ?_) (fun c16 => ?_)
        · have ca := inR_le (n := 4) (by decide) c1 (Int32.not_lt.mp c6)
          have cb := inR_le (n := 20) (by decide) c10 c16
          have cab : (inR a 4 && inR b 20) = true := by rw [ca, cb]; rfl
          obtain ⟨a_, ha_, rfl⟩ := inR_n (n := 4) ca (by decide)
          obtain ⟨b_, hb_, rfl⟩ := inR_n (n := 20) cb (by decide)
          have hcp := cN_pos a_ (by omega)
          have hc5 := cN_lt a_ (by omega)
          have hlf := lfS_0 a_ (by omega)
          refine J_aload_n (i := 0) d_O_apart_21 rfl rfl ?_
          refine J_aload_n (i := 0) d_O_apart_22 rfl rfl ?_
          refine M_getR (b := 18) d_O_apart_23 f_O_48 rfl rfl rfl ?_
          refine M_getR (b := 114) d_O_apart_26 f_O_172 rfl rfl rfl ?_
          refine M_callV (av := [.ref 114]) d_O_apart_29 s_O_267 (M_rcv rfl (by decide) rfl) (S_O_turnAll hX hS) (by decide) rfl rfl (Nat.le_of_ble_eq_true rfl) (fun r Y hq => ?_)
          obtain ⟨rfl, l, hl, rfl⟩ := hq
          have hX1 : Ok (pA X 221 l) := okA hX rfl (by rw [hl.1, hX.1 221 (by decide)]; rfl)
          have hS1 : CSt (pA X 221 l) m st rg := CSt_A (by decide) (by decide) hS
          have hl1 : shL rg (8 * m) ((pA X 221 l).2.1 221) := by rw [pA_at]; exact hl
          refine J_istore_n (i := 3) (L1 := [some (.ref 8), some (.int (nI a_)), some (.int (nI b_)), some (.int (nI (8 * m))), none, none, none, none]) d_O_apart_32 rfl (by decide) rfl ?_
          refine J_iload_n (i := 1) d_O_apart_33 rfl rfl ?_
          refine CS_N (av := [.int (nI a_)]) d_O_apart_34 s_O_271 (S_K_countSets (by omega)) (by decide) rfl rfl (Nat.le_of_ble_eq_true rfl) ?_
          refine J_istore (L1 := [some (.ref 8), some (.int (nI a_)), some (.int (nI b_)), some (.int (nI (8 * m))), some (.int (nI (cN a_))), none, none, none]) d_O_apart_37 (by decide) rfl ?_
          refine J_iload_n (i := 1) d_O_apart_39 rfl rfl ?_
          refine CS_N (av := [.int (nI a_)]) d_O_apart_40 s_O_274 (S_K_lowestOf (by omega)) (by decide) rfl rfl (Nat.le_of_ble_eq_true rfl) ?_
          refine J_istore (L1 := [some (.ref 8), some (.int (nI a_)), some (.int (nI b_)), some (.int (nI (8 * m))), some (.int (nI (cN a_))), some (.int (nI ((1 <<< a_) - 1))), none, none]) d_O_apart_43 (by decide) rfl ?_
          refine J_iconst (v := nI 0) d_O_apart_45 rfl ?_
          refine J_istore (L1 := [some (.ref 8), some (.int (nI a_)), some (.int (nI b_)), some (.int (nI (8 * m))), some (.int (nI (cN a_))), some (.int (nI ((1 <<< a_) - 1))), some (.int (nI 0)), none]) d_O_apart_46 (by decide) rfl ?_
          refine J_iconst (v := nI 0) d_O_apart_48 rfl ?_
          refine J_istore (L1 := [some (.ref 8), some (.int (nI a_)), some (.int (nI b_)), some (.int (nI (8 * m))), some (.int (nI (cN a_))), some (.int (nI ((1 <<< a_) - 1))), some (.int (nI 0)), some (.int (nI 0))]) d_O_apart_49 (by decide) rfl ?_
          exact lp_O_apart hX1 hS1 (Q := fun r Y => r = some (.int (apartF m rg (nI a_) (nI b_))) ∧ ∃ l : List Int32, l.length = 64 ∧ Y = pA X 221 l) (G := apartF m rg (nI a_) (nI b_)) hl1 hb_ hc5 ⟨rfl, l, hl.1, rfl⟩ (cN a_) 0 0 _ (by omega) (Or.inr hlf) (by omega) (by rw [apartF, cab, if_pos rfl, tn_nI (by omega), tn_nI (by omega)]; congr 1; exact Nat.zero_add _)
        · refine J_iconst (v := (-1)) d_O_apart_19 rfl ?_
          refine M_ir d_O_apart_20 rfl rfl ?_
          exact ⟨by rw [apartF, show (inR a 4 && inR b 20) = false from by rw [inR_gt (n := 20) (by decide) c10 c16, Bool.and_false]] <;> rfl, X.2.1 221, by rw [hX.1 221 (by decide)]; rfl, pA_eta.symm⟩

