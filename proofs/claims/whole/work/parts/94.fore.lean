theorem ok259 {X : Mem} {l : List Int32} (h : Ok X) (hl : l.length = 18) : Ok (pA X 259 l) := okA h rfl (by rw [hl]; exact (h.1 259 (by decide)).symm)
theorem lp_R_fore1 {X : Mem} {s : Sg} {v m : Nat} {z4 : Option Value} {Q : Option Value → Mem → Prop} (hX : Ok X) (hC : RI X s) (kx : ∀ l : List Int32, l.length = 18 → (∀ k, 6 ≤ k → k < 18 → l.getD k 0 = s.1 k) → JM 7 m_R_foretold Q 47 [some (.ref 244), some (.int (nI v)), some (.int (nI m)), some (.int (nI 18)), z4] [] (pA X 259 l)) : ∀ (f t : Nat) (l : List Int32), t + f = 18 → 6 ≤ t → l.length = 18 → (∀ k, 6 ≤ k → k < t → l.getD k 0 = s.1 k) → JM 7 m_R_foretold Q 23 [some (.ref 244), some (.int (nI v)), some (.int (nI m)), some (.int (nI t)), z4] [] (pA X 259 l) := by
  intro f
  induction f with
  | zero =>
    intro t l ht h6 hl hc
    obtain rfl : t = 18 := by omega
    refine J_iload_n (i := 3) d_R_foretold_23 rfl rfl ?_
    refine J_bipush (v := nI 18) d_R_foretold_24 rfl ?_
    refine N_icmp_ge (tgt := 47) d_R_foretold_26 (by decide) (by omega) (by omega) (fun c26 => ?_) (fun c26 => absurd c26 (by decide))
    exact kx l hl hc
  | succ f ih =>
    intro t l ht h6 hl hc
    have hX1 := ok259 hX hl
    refine J_iload_n (i := 3) d_R_foretold_23 rfl rfl ?_
    refine J_bipush (v := nI 18) d_R_foretold_24 rfl ?_
    refine N_icmp_ge (tgt := 47) d_R_foretold_26 (by decide) (by omega) (by omega) (fun c26 => absurd c26 (by omega)) (fun c26 => ?_)
    refine J_aload_n (i := 0) d_R_foretold_29 rfl rfl ?_
    refine M_getR (b := 259) d_R_foretold_30 f_R_65 rfl rfl rfl ?_
    refine J_iload_n (i := 3) d_R_foretold_33 rfl rfl ?_
    refine J_aload_n (i := 0) d_R_foretold_34 rfl rfl ?_
    refine M_getR (b := 245) d_R_foretold_35 f_R_7 rfl rfl rfl ?_
    refine J_iload_n (i := 3) d_R_foretold_38 rfl rfl ?_
    refine N_iald (x := (s.1 t)) d_R_foretold_39 rfl (by omega) (ltL hX1 (a := 245) (n := 1217) (by decide) rfl (by omega)) (ri_at hC (j := t) (by omega)) ?_
    refine N_iast d_R_foretold_40 rfl (by decide) (by omega) (ltL hX1 (a := 259) (n := 18) (by decide) rfl (by omega)) ?_
    refine N_iinc (a := t) (c := 1) (L1 := [some (.ref 244), some (.int (nI v)), some (.int (nI m)), some (.int (nI (t + 1))), z4]) d_R_foretold_41 rfl rfl (by decide) rfl ?_
    refine J_goto (tgt := 23) d_R_foretold_44 (by decide) ?_
    rw [pA_pA, pA_at]
    exact ih (t + 1) _ (by omega) (by omega) (by rw [List.length_set]; exact hl) (fun k h1 h2 => by
      by_cases e : k = t
      · rw [e, set_eq (by omega)]
      · rw [set_ne (Ne.symm e)]; exact hc k h1 (by omega))
theorem lp_R_fore2 {X : Mem} {s : Sg} {v m : Nat} {z4 : Option Value} {Q : Option Value → Mem → Prop} (hw : WFs s) (hn : v ≤ 60) (hx0 : TxR X (s.1 2) (lwS s).1 (lwS s).2) (h30 : X.1 244 30 = b2i false) (kx : ∀ (Y : Mem), Ok Y → RNow Y s.1 (foG false s v) → offR X Y → JM 7 m_R_foretold Q 82 [some (.ref 244), some (.int (nI v)), some (.int (nI m)), some (.int (nI v)), z4] [] Y) : ∀ (k i : Nat) (Y : Mem), i + k = v → Ok Y → RNow Y s.1 (foG false s i) → offR X Y → JM 7 m_R_foretold Q 54 [some (.ref 244), some (.int (nI v)), some (.int (nI m)), some (.int (nI i)), z4] [] Y := by
  intro k
  induction k with
  | zero =>
    intro i Y hi hY hN hof
    obtain rfl : i = v := by omega
    refine J_iload_n (i := 3) d_R_foretold_54 rfl rfl ?_
    refine J_iload_n (i := 1) d_R_foretold_55 rfl rfl ?_
    refine N_icmp_ge (tgt := 82) d_R_foretold_56 (by decide) (by omega) (by omega) (fun c56 => ?_) (fun c56 => absurd c56 (by omega))
    exact kx Y hY hN hof
  | succ k ih =>
    intro i Y hi hY hN hof
    have hWg := WF_fo (wr := false) hw i
    have hs1 := fo_1 (wr := false) (s := s) (n := i)
    have hs2 := fo_2 (wr := false) (s := s) (n := i)
    generalize hg0 : foG false s i = g at *
    have w1 := (wg_n hWg (k := 1) (n := 9999) (by decide) (by decide)).2
    refine J_iload_n (i := 3) d_R_foretold_54 rfl rfl ?_
    refine J_iload_n (i := 1) d_R_foretold_55 rfl rfl ?_
    refine N_icmp_ge (tgt := 82) d_R_foretold_56 (by decide) (by omega) (by omega) (fun c56 => absurd c56 (by omega)) (fun c56 => ?_)
    refine J_aload_n (i := 0) d_R_foretold_59 rfl rfl ?_
    refine M_getR (b := 245) d_R_foretold_60 f_R_7 rfl rfl rfl ?_
    refine J_bipush (v := nI 6) d_R_foretold_63 rfl ?_
    refine N_iald (x := (nI (tn (g 1)))) d_R_foretold_65 rfl (by omega) (ltL hY (a := 245) (n := 1217) (by decide) rfl (by omega)) ((rn_y hN (k := 1) (by decide) (by decide)).trans (wg_n hWg (k := 1) (n := 9999) (by decide) (by decide)).1) ?_
    refine J_sipush (v := nI 9999) d_R_foretold_66 rfl ?_
    refine N_icmp_ge (tgt := 76) d_R_foretold_69 (by decide) (by omega) (by omega) (fun c69 => ?_) (fun c69 => ?_)
    · refine N_iinc (a := i) (c := 1) (L1 := [some (.ref 244), some (.int (nI v)), some (.int (nI m)), some (.int (nI (i + 1))), z4]) d_R_foretold_76 rfl rfl (by decide) rfl ?_
      refine J_goto (tgt := 54) d_R_foretold_79 (by decide) ?_
      exact ih (i + 1) Y (by omega) hY (by rw [hs2 (by omega)]; exact hN) hof
    · refine J_aload_n (i := 0) d_R_foretold_72 rfl rfl ?_
      obtain ⟨W, hW31⟩ := nI_ex (Y.1 244 31)
      have hx2 : TxR Y (s.1 2) (lwS s).1 (lwS s).2 := TxR_o hof hx0
      have h30Y : Y.1 244 30 = b2i false := (hof.1 244 30 (Or.inr (by decide))).trans h30
      refine M_callV (av := []) d_R_foretold_73 s_R_422 (M_rcv rfl (by decide) rfl) (S_R_pass (wr := false) (W0 := W) hWg h30Y hx2 hY hN hW31) (by decide) rfl rfl (Nat.le_of_ble_eq_true rfl) (fun q Z hq => ?_)
      obtain ⟨rfl, hZ, hNZ, _, hofZ⟩ := hq
      refine N_iinc (a := i) (c := 1) (L1 := [some (.ref 244), some (.int (nI v)), some (.int (nI m)), some (.int (nI (i + 1))), z4]) d_R_foretold_76 rfl rfl (by decide) rfl ?_
      refine J_goto (tgt := 54) d_R_foretold_79 (by decide) ?_
      exact ih (i + 1) Z (by omega) hZ (by rw [hs1 (by omega)]; exact hNZ) (offR_t hof hofZ)
theorem lp_R_fore3 {Y : Mem} {r g : Nat → Int32} {v m : Nat} {x : Int32} {Q : Option Value → Mem → Prop} (hY : Ok Y) (hl : ∀ k, 6 ≤ k → k < 18 → (Y.2.1 259).getD k 0 = r k) (kx : JM 7 m_R_foretold Q 123 [some (.ref 244), some (.int (nI v)), some (.int (nI m)), some (.int x), some (.int (nI (6 + 12)))] [] (pA Y 245 (ofF 1217 (rgF (rowOf r g) (fun k => r (6 + k)) 6 12)))) : ∀ (f t : Nat), t + f = 12 → JM 7 m_R_foretold Q 96 [some (.ref 244), some (.int (nI v)), some (.int (nI m)), some (.int x), some (.int (nI (6 + t)))] [] (pA Y 245 (ofF 1217 (rgF (rowOf r g) (fun k => r (6 + k)) 6 t))) := by
  intro f
  induction f with
  | zero =>
    intro t ht
    obtain rfl : t = 12 := by omega
    refine J_iload d_R_foretold_96 rfl ?_
    refine J_bipush (v := nI 18) d_R_foretold_98 rfl ?_
    refine N_icmp_ge (tgt := 123) d_R_foretold_100 (by decide) (by omega) (by omega) (fun c100 => ?_) (fun c100 => absurd c100 (by omega))
    exact kx
  | succ f ih =>
    intro t ht
    have hX1 : Ok (pA Y 245 (ofF 1217 (rgF (rowOf r g) (fun k => r (6 + k)) 6 t))) := okRow hY
    refine J_iload d_R_foretold_96 rfl ?_
    refine J_bipush (v := nI 18) d_R_foretold_98 rfl ?_
    refine N_icmp_ge (tgt := 123) d_R_foretold_100 (by decide) (by omega) (by omega) (fun c100 => absurd c100 (by omega)) (fun c100 => ?_)
    refine J_aload_n (i := 0) d_R_foretold_103 rfl rfl ?_
    refine M_getR (b := 245) d_R_foretold_104 f_R_7 rfl rfl rfl ?_
    refine J_iload d_R_foretold_107 rfl ?_
    refine J_aload_n (i := 0) d_R_foretold_109 rfl rfl ?_
    refine M_getR (b := 259) d_R_foretold_110 f_R_65 rfl rfl rfl ?_
    refine J_iload d_R_foretold_113 rfl ?_
    refine N_iald (x := (r (6 + t))) d_R_foretold_115 rfl (by omega) (ltL hX1 (a := 259) (n := 18) (by decide) rfl (by omega)) (hl (6 + t) (by omega) (by omega)) ?_
    refine N_iast d_R_foretold_116 rfl (by decide) (by omega) (ltL hX1 (a := 245) (n := 1217) (by decide) rfl (by omega)) ?_
    refine N_iinc (a := (6 + t)) (c := 1) (L1 := [some (.ref 244), some (.int (nI v)), some (.int (nI m)), some (.int x), some (.int (nI ((6 + t) + 1)))]) d_R_foretold_117 rfl rfl (by decide) rfl ?_
    refine J_goto (tgt := 96) d_R_foretold_120 (by decide) ?_
    rw [pA_pA, pA_at, ofF_set, rgF_s (f := fun k => r (6 + k)), show 6 + t + 1 = 6 + (t + 1) by omega]
    exact ih (t + 1) (by omega)
theorem fo_row {s : Sg} (hw : WFs s) (n : Nat) : ofF 1217 (rgF (rowOf s.1 (foG false s n)) (fun k => s.1 (6 + k)) 6 12) = ofF 1217 s.1 := by
  have ho := fo_off hw n
  generalize foG false s n = g at *
  refine ofF_cong (fun j hj => ?_)
  by_cases e : 6 ≤ j ∧ j < 18
  · show (if 6 ≤ j ∧ j < 6 + 12 then s.1 (6 + (j - 6)) else _) = _
    rw [if_pos (by omega), show 6 + (j - 6) = j by omega]
  · rw [rgF_o _ _ (by omega)]
    unfold rowOf
    by_cases e0 : j = 0
    · rw [if_pos e0, ho 0 (Or.inl rfl), e0]; rfl
    · rw [if_neg e0, if_neg (by omega)]
      by_cases e2 : 1192 ≤ j ∧ j < 1217
      · rw [if_pos e2, ho _ (by omega)]
        unfold nowG
        rw [if_neg (by omega), if_neg (by omega), show 1179 + (j - 1179) = j by omega]
      · rw [if_neg e2]
theorem S_R_foretold {X : Mem} {s : Sg} {v k : Int32} (hX : Ok X) (hC : RI X s) (hw : WFs s) : CM 7 m_R_foretold [.ref 244, .int v, .int k] X (fun q Y => q = some (.int (foF s v k)) ∧ pR X s Y) := by
  have hS := v_RSt hC hw
  refine CM_of (L := [some (.ref 244), some (.int v), some (.int k), none, none]) 2 ok_R_foretold (fun _ => Nat.le_of_ble_eq_true rfl) rfl ?_
  refine J_iload_n (i := 1) d_R_foretold_0 rfl rfl ?_
  refine J_iconst (v := nI 1) d_R_foretold_1 rfl ?_
  refine J_bipush (v := nI 60) d_R_foretold_2 rfl ?_
  refine CS_B (av := [.int v, .int (nI 1), .int (nI 60)]) d_R_foretold_4 s_R_89 (S_R_isIn) (by decide) rfl rfl (Nat.le_of_ble_eq_true rfl) ?_
  refine B_if_eq (tgt := 18) d_R_foretold_7 (by decide) (fun c7 => ?_) (fun c7 => ?_)
  · refine J_iconst (v := (-1)) d_R_foretold_18 rfl ?_
    refine M_ir d_R_foretold_19 rfl rfl ?_
    have hc : foC s v k = false := by simp [foC, show isInB v (nI 1) (nI 60) = false from c7]
    exact ⟨by rw [foF, hc]; rfl, pR_0 hX hC⟩
  · refine J_aload_n (i := 0) d_R_foretold_10 rfl rfl ?_
    refine J_iload_n (i := 2) d_R_foretold_11 rfl rfl ?_
    refine CV_B (av := [.int k]) d_R_foretold_12 s_R_379 (M_rcv rfl (by decide) rfl) (S_R_isMark hX hS) (by decide) rfl rfl (Nat.le_of_ble_eq_true rfl) ?_
    refine B_if_ne (tgt := 20) d_R_foretold_15 (by decide) (fun c15 => ?_) (fun c15 => ?_)
    · have hin1 : isInB v (nI 1) (nI 60) = true := c7
      have hin2 : mkB (mOf s.1) k = true := c15
      obtain ⟨v_, hv1, hv2, rfl⟩ := in_n (by decide) (by decide) hin1
      obtain ⟨k_, hk_, rfl⟩ := mk_n hS.1 hin2
      have hm8 := hS.1
      have tv := tn_nI (show v_ < 2147483648 by omega)
      have tk := tn_nI (show k_ < 2147483648 by omega)
      have hc : foC s (nI v_) (nI k_) = true := by rw [foC, hin1, hin2]; rfl
      refine J_bipush (v := nI 6) d_R_foretold_20 rfl ?_
      refine J_istore_n (i := 3) (L1 := [some (.ref 244), some (.int (nI v_)), some (.int (nI k_)), some (.int (nI 6)), none]) d_R_foretold_22 rfl (by decide) rfl ?_
      refine (lp_R_fore1 hX hC (fun l hl9 hc9 => ?_) 12 6 (X.2.1 259) (by omega) (by omega) (by rw [hX.1 259 (by decide)]; rfl) (fun k h1 h2 => by omega)).eq rfl rfl (congrArg hm (by rw [pA_eta]))
      refine J_aload_n (i := 0) d_R_foretold_47 rfl rfl ?_
      refine J_iconst (v := nI 0) d_R_foretold_48 rfl ?_
      refine J.eq (st1 := [.int (b2i false), .ref 244]) ?_ rfl rfl rfl
      refine M_put d_R_foretold_49 p_R_61 rfl rfl b2i_nar b2i_fit ?_
      refine J_iconst (v := nI 0) d_R_foretold_52 rfl ?_
      refine J_istore_n (i := 3) (L1 := [some (.ref 244), some (.int (nI v_)), some (.int (nI k_)), some (.int (nI 0)), none]) d_R_foretold_53 rfl (by decide) rfl ?_
      refine lp_R_fore2 (X := pF (pA X 259 l) 244 30 (b2i false)) hw hv2 (TxR_c (X := X) rfl (TxR_s hC hw)) pF_at (fun Y hY hN hof => ?_) v_ 0 _ (by omega) (okF (ok259 hX hl9)) (RN_self (X := X) hC) (offR_0 _)
      have e9 : (Y.2.1 259) = l := (hof.2.1 259 (by decide) (by decide) (by decide)).trans pA_at
      refine J_aload_n (i := 0) d_R_foretold_82 rfl rfl ?_
      refine M_getR (b := 245) d_R_foretold_83 f_R_7 rfl rfl rfl ?_
      refine J_bipush (v := nI 10) d_R_foretold_86 rfl ?_
      refine J_iload_n (i := 2) d_R_foretold_88 rfl rfl ?_
      refine N_iadd d_R_foretold_89 ?_
      refine N_iald (x := (foG false s v_ (5 + k_))) d_R_foretold_90 rfl (by omega) (ltL hY (a := 245) (n := 1217) (by decide) rfl (by omega)) (by rw [show 10 + k_ = 5 + (5 + k_) by omega]; exact rn_y hN (k := 5 + k_) (by omega) (by omega)) ?_
      refine J_istore_n (i := 3) (L1 := [some (.ref 244), some (.int (nI v_)), some (.int (nI k_)), some (.int (foG false s v_ (5 + k_))), none]) d_R_foretold_91 rfl (by decide) rfl ?_
      refine J_bipush (v := nI 6) d_R_foretold_92 rfl ?_
      refine J_istore (L1 := [some (.ref 244), some (.int (nI v_)), some (.int (nI k_)), some (.int (foG false s v_ (5 + k_))), some (.int (nI 6))]) d_R_foretold_94 (by decide) rfl ?_
      rw [show (Y : Mem) = pA Y 245 (ofF 1217 (rgF (rowOf s.1 (foG false s v_)) (fun k => s.1 (6 + k)) 6 0)) by rw [rgF_0, ← hN, pA_eta]]
      refine lp_R_fore3 hY (fun k h1 h2 => by rw [e9]; exact hc9 k h1 h2) ?_ 12 0 rfl
      refine J_aload_n (i := 0) d_R_foretold_123 rfl rfl ?_
      refine J_iconst (v := nI 1) d_R_foretold_124 rfl ?_
      refine J.eq (st1 := [.int (b2i true), .ref 244]) ?_ rfl rfl rfl
      refine M_put d_R_foretold_125 p_R_61 rfl rfl b2i_nar b2i_fit ?_
      refine J_iload_n (i := 3) d_R_foretold_128 rfl rfl ?_
      refine M_ir d_R_foretold_129 rfl rfl ?_
      refine ⟨by rw [foF, if_pos hc, tv, tk, fo_agr hw v_ (5 + k_) (by omega) (by omega)], okF (okRow hY), ?_, ?_⟩
      · rw [fo_row hw]
        refine RI_on (X := X) (fun q hq => ?_) (fun b hb => ?_) hC
        · by_cases e30 : q = 30
          · rw [e30, pF_at]; exact hC.2.2.2.1.2.2.2.symm
          · rw [pF_k e30]; exact (hof.1 244 q (Or.inr (by omega))).trans (pF_k e30)
        · show (if b = 245 then ofF 1217 s.1 else Y.2.1 b) = X.2.1 b
          by_cases e : b = 245
          · rw [if_pos e, e]; exact hC.1.symm
          · rw [if_neg e]; exact (hof.2.1 b e (by omega) (by omega)).trans (if_neg (by omega))
      · exact sC_t (sC_t (sC_t (sC_A (X := X) (a := 259) (l := l) (by decide)) (sC_F (by decide))) (sC_offR hof)) (sC_t (sC_A (by decide)) (sC_F (by decide)))
    · refine J_iconst (v := (-1)) d_R_foretold_18 rfl ?_
      refine M_ir d_R_foretold_19 rfl rfl ?_
      have hc : foC s v k = false := by simp [foC, c15]
      exact ⟨by rw [foF, hc]; rfl, pR_0 hX hC⟩

