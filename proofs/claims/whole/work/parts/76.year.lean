theorem CNow_fu {X : Mem} {a : Nat} {g : Nat → Int32} {v : Int32} (hN : CNow X a g) : CNow (pF X a 2 v) a (upF g 3 v) := by
  obtain ⟨h1, h2, h3, h4, h5, h6, h7, h8⟩ := hN
  exact ⟨h1, (pF_k (by decide)).trans h2, (pF_k (by decide)).trans h3, (pF_k (by decide)).trans h4, pF_at.trans upF_at.symm, (pF_k (by decide)).trans h6, fun i hi => (h7 i hi).trans (upF_o (by omega)).symm, fun i hi => (h8 i hi).trans (congrArg c32 (upF_o (by omega)).symm)⟩
theorem CNow_ye {X : Mem} {a : Nat} {g : Nat → Int32} {v : Int32} (hN : CNow X a g) : CNow (pF X a 3 v) a (upF g 1 v) := by
  obtain ⟨h1, h2, h3, h4, h5, h6, h7, h8⟩ := hN
  exact ⟨h1, (pF_k (by decide)).trans h2, pF_at.trans upF_at.symm, (pF_k (by decide)).trans h4, (pF_k (by decide)).trans h5, (pF_k (by decide)).trans h6, fun i hi => (h7 i hi).trans (upF_o (by omega)).symm, fun i hi => (h8 i hi).trans (congrArg c32 (upF_o (by omega)).symm)⟩
theorem hs_1 {g : Nat → Int32} {k s : Nat} (hk : k < 8) (hs : s < 20) : decide (hsV (envG g k 0) (s : Int) = 1) = (tn (g (5 + k))).testBit s := by
  unfold hsV
  have e : eST (envG g k 0) = tn (g (5 + k)) := if_pos hk
  rw [e]
  cases h : (tn (g (5 + k))).testBit s
  · rw [if_neg (fun q => by have q2 : (tn (g (5 + k))).testBit s = true := q.2.2; rw [h] at q2; cases q2)]; rfl
  · rw [if_pos ⟨by omega, by omega, h⟩]; rfl
theorem S_N_hasN {X : Mem} {a k s : Nat} {g : Nat → Int32} (hX : Ok X) (hN : CNow X a g) (hW : WFg g) (hk : k < tn (g 0)) (hs : s < 20) : CM 0 m_N_has [.ref a, .int (nI k), .int (nI s)] X (rB ((tn (g (5 + k))).testBit s) X) := by
  have h := S_N_hasE (v := (s : Int)) hX (CE_g hN hW k 0) (okE_g hW hk (by decide) (by decide)) ⟨by omega, by omega⟩
  rw [hs_1 (by have := (wg_n hW (k := 0) (n := 8) (by decide) (by decide)).2; omega) hs, jI_n] at h
  exact h
theorem lp_N_passYear_n {X : Mem} {a : Nat} {g : Nat → Int32} {DW DF : Option (Env → Int)} (hW : WFg g) (ha : a < 222) (hnw : nwD DF) (hr : rvL X (.null) DW DF) {Q : Option Value → Mem → Prop} (kx : ∀ (Y : Mem) (z5 : Option Value), Ok Y → CNow Y a (gMarks DW DF true g (tn (g 0))).1 → offP a X Y → JM 5 m_N_passYear Q 94 [some (.ref a), some (.ref 16), some (.null), some (.int (nI ((gMarks DW DF true g (tn (g 0))).2))), some (.int (nI (tn (g 0)))), z5] [] Y) : ∀ (k i : Nat) (Y : Mem) (z5 : Option Value), i + k = tn (g 0) → Ok Y → CNow Y a (gMarks DW DF true g i).1 → offP a X Y → JM 5 m_N_passYear Q 5 [some (.ref a), some (.ref 16), some (.null), some (.int (nI ((gMarks DW DF true g i).2))), some (.int (nI i)), z5] [] Y := by
  have w0 := wg_n hW (k := 0) (n := 8) (by decide) (by decide)
  intro k
  induction k with
  | zero =>
    intro i Y z5 hi hY hN hof
    obtain ⟨hWx, hx0, hx1, hx2⟩ := gMarks_ok (DW := DW) (DF := DF) (wr := true) hW i (by omega)
    obtain rfl : i = tn (g 0) := by omega
    refine J_iload d_N_passYear_5 rfl ?_
    refine J_aload_n (i := 0) d_N_passYear_7 rfl rfl ?_
    refine M_get (x := (nI (tn (g 0)))) d_N_passYear_8 f_N_22 hN.1 rfl (hN.2.1.trans (hx0.trans w0.1)) ?_
    refine N_icmp_ge (tgt := 94) d_N_passYear_11 (by decide) (by omega) (by omega) (fun c11 => ?_) (fun c11 => absurd c11 (by omega))
    exact kx Y z5 hY hN hof
  | succ k ih =>
    intro i Y z5 hi hY hN hof
    obtain ⟨hWx, hx0, hx1, hx2⟩ := gMarks_ok (DW := DW) (DF := DF) (wr := true) hW i (by omega)
    generalize hx : gMarks DW DF true g i = x at *
    have hik : i < tn (x.1 0) := by rw [hx0]; omega
    have hrv := rvL_P ha hof hr
    have w3f := (wg_n hWx (k := 3) (n := 999999) (by decide) (by decide)).2
    refine J_iload d_N_passYear_5 rfl ?_
    refine J_aload_n (i := 0) d_N_passYear_7 rfl rfl ?_
    refine M_get (x := (nI (tn (g 0)))) d_N_passYear_8 f_N_22 hN.1 rfl (hN.2.1.trans (hx0.trans w0.1)) ?_
    refine N_icmp_ge (tgt := 94) d_N_passYear_11 (by decide) (by omega) (by omega) (fun c11 => absurd c11 (by omega)) (fun c11 => ?_)
    refine J_aload_n (i := 0) d_N_passYear_14 rfl rfl ?_
    refine J_ldc d_N_passYear_15 w_N_55 ?_
    refine I_ton (n := 999999) rfl ?_
    refine J_aload_n (i := 0) d_N_passYear_17 rfl rfl ?_
    refine M_get (x := (nI (tn (x.1 3)))) d_N_passYear_18 f_N_25 hN.1 rfl (hN.2.2.2.2.1.trans (wg_n hWx (k := 3) (n := 999999) (by decide) (by decide)).1) ?_
    refine J_aload_n (i := 1) d_N_passYear_21 rfl rfl ?_
    refine J_aload_nN (i := 2) d_N_passYear_22 rfl rfl ?_
    refine J_aload_n (i := 0) d_N_passYear_23 rfl rfl ?_
    refine J_iload d_N_passYear_24 rfl ?_
    refine M_callV (av := [.null, .ref a, .int (nI i)]) d_N_passYear_26 s_N_56 (M_rcv rfl (by decide) rfl) (S_L_feeByV (e := envG x.1 i (-1)) hY (CE_g hN hWx _ _) (okE_g hWx hik (by decide) (by decide)) rfl hrv) (by decide) rfl rfl (Nat.le_of_ble_eq_true rfl) (fun r Z1 hq => ?_)
    obtain ⟨rfl, hZ1⟩ := hq
    rw [fe_nw hnw]
    have hfe := feV_le DF (envG x.1 i 0)
    have hY1 := Ok_L hZ1 hY
    have hN1 := CNow_L hZ1 hN
    refine N_iadd d_N_passYear_29 ?_
    refine J_mmin d_N_passYear_30 w_N_62 w_math_min_s w_mathInit w_math_min_c (by omega) (Nat.le_of_ble_eq_true rfl) ?_
    refine I_ton (n := min 999999 ((tn (x.1 3)) + (feV DF (envG x.1 i 0)))) (nI_min (by omega) (by omega)) ?_
    refine M_put d_N_passYear_33 p_N_25 hN.1 rfl rfl rfl ?_
    refine J_aload_n (i := 0) d_N_passYear_36 rfl rfl ?_
    have hX2 : Ok (pF Z1 a 2 (nI (min 999999 (tn (x.1 3) + (feV DF (envG x.1 i 0)))))) := okF hY1
    have hN2 := CNow_fu (v := nI (min 999999 (tn (x.1 3) + (feV DF (envG x.1 i 0))))) hN1
    have hW1 : WFg (upF x.1 3 (nI (min 999999 (tn (x.1 3) + (feV DF (envG x.1 i 0)))))) := WFg_up hWx (show _ ≤ 999999 by omega) (by decide)
    refine M_callV (av := []) d_N_passYear_37 s_N_68 (M_rcv hN.1 (by decide) rfl) (S_N_nextX hX2 hN2 hW1) (by decide) rfl rfl (Nat.le_of_ble_eq_true rfl) (fun r Z2 hq => ?_)
    obtain ⟨rfl, hY2, hN3, ho2⟩ := hq
    rw [show tn ((upF x.1 3 (nI (min 999999 (tn (x.1 3) + (feV DF (envG x.1 i 0)))))) 2) = tn (x.1 2) from by rw [upF_o (by decide)]]
    have hW2 := WFg_N hW1
    have hs20 : (tn (x.1 2) % 20) < 20 := Nat.mod_lt _ (by decide)
    have hof2 : offP a X Z2 := offP_t (offP_t hof (offP_L hZ1)) (offP_t (Y := pF Z1 a 2 (nI (min 999999 (tn (x.1 3) + (feV DF (envG x.1 i 0)))))) ⟨fun b q1 _ k => pF_o q1, fun _ _ _ _ => rfl, rfl⟩ (offP_N ho2))
    have w2 := (wg_n hWx (k := 2) (n := 30982) (by decide) (by decide)).2
    refine J_bipush (v := nI 20) d_N_passYear_40 rfl ?_
    refine N_irem d_N_passYear_42 (by omega) (by omega) (by omega) ?_
    refine J_istore (L1 := [some (.ref a), some (.ref 16), some (.null), some (.int (nI x.2)), some (.int (nI i)), some (.int (nI ((tn (x.1 2)) % 20)))]) d_N_passYear_43 (by decide) rfl ?_
    refine J_aload_n (i := 0) d_N_passYear_45 rfl rfl ?_
    refine J_iload d_N_passYear_46 rfl ?_
    refine J_iload d_N_passYear_48 rfl ?_
    refine CV_B (av := [.int (nI i), .int (nI (tn (x.1 2) % 20))]) d_N_passYear_50 s_N_47 (M_rcv hN.1 (by decide) rfl) (S_N_hasN hY2 hN3 hW2 (show i < tn ((gN (upF x.1 3 (nI (min 999999 (tn (x.1 3) + (feV DF (envG x.1 i 0))))))) 0) by rw [show (gN (upF x.1 3 (nI (min 999999 (tn (x.1 3) + (feV DF (envG x.1 i 0))))))) 0 = x.1 0 from by unfold gN; rw [upF_o (by decide), upF_o (by decide)]]; exact hik) hs20) (by decide) rfl rfl (Nat.le_of_ble_eq_true rfl) ?_
    refine B_if_eq (tgt := 88) d_N_passYear_53 (by decide) (fun c53 => ?_) (fun c53 => ?_)
    · refine N_iinc (a := i) (c := 1) (L1 := [some (.ref a), some (.ref 16), some (.null), some (.int (nI x.2)), some (.int (nI (i + 1))), some (.int (nI ((tn (x.1 2)) % 20)))]) d_N_passYear_88 rfl rfl (by decide) rfl ?_
      refine J_goto (tgt := 5) d_N_passYear_91 (by decide) ?_
      have e : gMarks DW DF true g (i + 1) = ((gN (upF x.1 3 (nI (min 999999 (tn (x.1 3) + (feV DF (envG x.1 i 0))))))), x.2) := itr_g (f := gMark DW DF true) hx (by unfold gMark; rw [if_neg (by rw [c53]; decide)])
      exact (ih (i + 1) _ _ (by omega) hY2 (by rw [e]; exact hN3) hof2).eq (by rw [e]) rfl rfl
    · refine J_aload_n (i := 0) d_N_passYear_56 rfl rfl ?_
      refine M_callV (av := []) d_N_passYear_57 s_N_68 (M_rcv hN.1 (by decide) rfl) (S_N_nextX hY2 hN3 hW2) (by decide) rfl rfl (Nat.le_of_ble_eq_true rfl) (fun r Z3 hq => ?_)
      obtain ⟨rfl, hY3, hN4, ho3⟩ := hq
      have hW3 := WFg_N hW2
      have hof3 := offP_t hof2 (offP_N ho3)
      have w3 := (wg_n hW2 (k := 2) (n := 30982) (by decide) (by decide)).2
      refine J_bipush (v := nI 10) d_N_passYear_60 rfl ?_
      refine N_irem d_N_passYear_62 (by omega) (by omega) (by omega) ?_
      refine J_aload_n (i := 1) d_N_passYear_63 rfl rfl ?_
      refine J_aload_nN (i := 2) d_N_passYear_64 rfl rfl ?_
      refine J_aload_n (i := 0) d_N_passYear_65 rfl rfl ?_
      refine J_iload d_N_passYear_66 rfl ?_
      refine J_iload d_N_passYear_68 rfl ?_
      have h30 : (gN (gN (upF x.1 3 (nI (min 999999 (tn (x.1 3) + (feV DF (envG x.1 i 0)))))))) 0 = x.1 0 := by unfold gN; rw [upF_o (by decide), upF_o (by decide), upF_o (by decide)]
      have hcall : CM 4 m_L_wearsBy [.ref 16, .null, .ref a, .int (nI i), .int (nI (tn (x.1 2) % 20))] Z3 (fun r Y => r = some (.int (nI (wrV DW (envG (gN (gN (upF x.1 3 (nI (min 999999 (tn (x.1 3) + (feV DF (envG x.1 i 0)))))))) i ((tn (x.1 2) % 20) : Nat))))) ∧ lawY Z3 Y) := by
        have h := S_L_wearsByV (e := envG (gN (gN (upF x.1 3 (nI (min 999999 (tn (x.1 3) + (feV DF (envG x.1 i 0)))))))) i (((tn (x.1 2) % 20) : Nat) : Int)) hY3 (CE_g hN4 hW3 _ _) (okE_g hW3 (by rw [h30]; exact hik) (by omega) (by omega)) (rvL_P ha hof3 hr)
        rw [show (envG (gN (gN (upF x.1 3 (nI (min 999999 (tn (x.1 3) + (feV DF (envG x.1 i 0)))))))) i (((tn (x.1 2) % 20) : Nat) : Int)).2.2.2.2.2 = (((tn (x.1 2) % 20) : Nat) : Int) from rfl, jI_n] at h
        exact h
      refine M_callV (av := [.null, .ref a, .int (nI i), .int (nI (tn (x.1 2) % 20))]) d_N_passYear_70 s_N_72 (M_rcv rfl (by decide) rfl) hcall (by decide) rfl rfl (Nat.le_of_ble_eq_true rfl) (fun r Z4 hq => ?_)
      obtain ⟨rfl, hZ4⟩ := hq
      have hwr := wrV_le DW (envG (gN (gN (upF x.1 3 (nI (min 999999 (tn (x.1 3) + (feV DF (envG x.1 i 0)))))))) i ((tn (x.1 2) % 20) : Nat))
      have hY4 := Ok_L hZ4 hY3
      have hN5 := CNow_L hZ4 hN4
      have hof4 := offP_t hof3 (offP_L hZ4)
      refine N_icmp_ge (tgt := 88) d_N_passYear_73 (by decide) (by omega) (by omega) (fun c73 => ?_) (fun c73 => ?_)
      · refine N_iinc (a := i) (c := 1) (L1 := [some (.ref a), some (.ref 16), some (.null), some (.int (nI x.2)), some (.int (nI (i + 1))), some (.int (nI ((tn (x.1 2)) % 20)))]) d_N_passYear_88 rfl rfl (by decide) rfl ?_
        refine J_goto (tgt := 5) d_N_passYear_91 (by decide) ?_
        have e : gMarks DW DF true g (i + 1) = ((gN (gN (upF x.1 3 (nI (min 999999 (tn (x.1 3) + (feV DF (envG x.1 i 0)))))))), x.2) := itr_g (f := gMark DW DF true) hx (by unfold gMark; rw [if_pos c53, if_neg (by omega)])
        exact (ih (i + 1) _ _ (by omega) hY4 (by rw [e]; exact hN5) hof4).eq (by rw [e]) rfl rfl
      · refine J_aload_n (i := 0) d_N_passYear_76 rfl rfl ?_
        refine J_iload d_N_passYear_77 rfl ?_
        refine J_iload d_N_passYear_79 rfl ?_
        refine J_iconst (v := nI 3) d_N_passYear_81 rfl ?_
        refine M_callV (av := [.int (nI i), .int (nI (tn (x.1 2) % 20)), .int (nI 3)]) d_N_passYear_82 s_N_76 (M_rcv hN.1 (by decide) rfl) (S_N_change hY4 hN5 hW3 (show i < 8 by omega) hs20 (by decide)) (by decide) rfl rfl (Nat.le_of_ble_eq_true rfl) (fun r Z5 hq => ?_)
        obtain ⟨rfl, hY5, hN6, ho5⟩ := hq
        have hof5 := offP_t hof4 (offP_N ho5)
        refine N_iinc (a := x.2) (c := 1) (L1 := [some (.ref a), some (.ref 16), some (.null), some (.int (nI (x.2 + 1))), some (.int (nI i)), some (.int (nI ((tn (x.1 2)) % 20)))]) d_N_passYear_85 rfl rfl (by decide) rfl ?_
        refine N_iinc (a := i) (c := 1) (L1 := [some (.ref a), some (.ref 16), some (.null), some (.int (nI (x.2 + 1))), some (.int (nI (i + 1))), some (.int (nI ((tn (x.1 2)) % 20)))]) d_N_passYear_88 rfl rfl (by decide) rfl ?_
        refine J_goto (tgt := 5) d_N_passYear_91 (by decide) ?_
        have e : gMarks DW DF true g (i + 1) = (gWrite (gX (gN (gN (upF x.1 3 (nI (min 999999 (tn (x.1 3) + (feV DF (envG x.1 i 0)))))))) i (tn (x.1 2) % 20)) i 3 ((tn (x.1 2) % 20) + 1), x.2 + 1) := itr_g (f := gMark DW DF true) hx (by unfold gMark; rw [if_pos c53, if_pos (by omega)]; rfl)
        exact (ih (i + 1) _ _ (by omega) hY5 (by rw [e]; exact hN6) hof5).eq (by rw [e]) rfl rfl
theorem S_N_passYear_n {X : Mem} {a : Nat} {g : Nat → Int32} {DW DF : Option (Env → Int)} (hW : WFg g) (ha : a < 222) (hnw : nwD DF) (hr : rvL X (.null) DW DF) (hX : Ok X) (hN : CNow X a g) : CM 5 m_N_passYear [.ref a, .ref 16, .null] X (fun r Y => r = some (.int (nI (gPass DW DF true g).2)) ∧ Ok Y ∧ CNow Y a (gPass DW DF true g).1 ∧ offP a X Y) := by
  refine CM_of (L := [some (.ref a), some (.ref 16), some (.null), none, none, none]) 3 ok_N_passYear (fun _ => Nat.le_of_ble_eq_true rfl) rfl ?_
  refine J_iconst (v := nI 0) d_N_passYear_0 rfl ?_
  refine J_istore_n (i := 3) (L1 := [some (.ref a), some (.ref 16), some (.null), some (.int (nI 0)), none, none]) d_N_passYear_1 rfl (by decide) rfl ?_
  refine J_iconst (v := nI 0) d_N_passYear_2 rfl ?_
  refine J_istore (L1 := [some (.ref a), some (.ref 16), some (.null), some (.int (nI 0)), some (.int (nI 0)), none]) d_N_passYear_3 (by decide) rfl ?_
  have w0 := wg_n hW (k := 0) (n := 8) (by decide) (by decide)
  obtain ⟨hWx, hx0, hx1, hx2⟩ := gMarks_ok (DW := DW) (DF := DF) (wr := true) hW (tn (g 0)) w0.2
  have w1 := wg_n hW (k := 1) (n := 9999) (by decide) (by decide)
  refine lp_N_passYear_n hW ha hnw hr (fun Y z5 hY hN2 hof => ?_) (tn (g 0)) 0 X _ (by omega) hX hN (offP_0 a X)
  refine J_aload_n (i := 0) d_N_passYear_94 rfl rfl ?_
  refine J_dup d_N_passYear_95 rfl ?_
  refine M_get (x := (nI (tn ((gMarks DW DF true g (tn (g 0))).1 1)))) d_N_passYear_96 f_N_28 hN.1 rfl (hN2.2.2.1.trans (wg_n hWx (k := 1) (n := 9999) (by decide) (by decide)).1) ?_
  refine J_iconst (v := nI 1) d_N_passYear_99 rfl ?_
  refine N_iadd d_N_passYear_100 ?_
  refine M_put d_N_passYear_101 p_N_28 hN.1 rfl rfl rfl ?_
  refine J_iload_n (i := 3) d_N_passYear_104 rfl rfl ?_
  refine M_ir d_N_passYear_105 rfl rfl ?_
  exact ⟨rfl, okF hY, CNow_ye hN2, offP_t hof ⟨fun b q1 _ k => pF_o q1, fun _ _ _ _ => rfl, rfl⟩⟩

theorem lp_N_passYear_r {X : Mem} {a : Nat} {g : Nat → Int32} {DW DF : Option (Env → Int)} {T : Nat} (hW : WFg g) (ha : a < 222) (hnw : nwD DF) (hr : rvL X (.ref T) DW DF) {Q : Option Value → Mem → Prop} (kx : ∀ (Y : Mem) (z5 : Option Value), Ok Y → CNow Y a (gMarks DW DF true g (tn (g 0))).1 → offP a X Y → JM 5 m_N_passYear Q 94 [some (.ref a), some (.ref 16), some (.ref T), some (.int (nI ((gMarks DW DF true g (tn (g 0))).2))), some (.int (nI (tn (g 0)))), z5] [] Y) : ∀ (k i : Nat) (Y : Mem) (z5 : Option Value), i + k = tn (g 0) → Ok Y → CNow Y a (gMarks DW DF true g i).1 → offP a X Y → JM 5 m_N_passYear Q 5 [some (.ref a), some (.ref 16), some (.ref T), some (.int (nI ((gMarks DW DF true g i).2))), some (.int (nI i)), z5] [] Y := by
  have w0 := wg_n hW (k := 0) (n := 8) (by decide) (by decide)
  intro k
  induction k with
  | zero =>
    intro i Y z5 hi hY hN hof
    obtain ⟨hWx, hx0, hx1, hx2⟩ := gMarks_ok (DW := DW) (DF := DF) (wr := true) hW i (by omega)
    obtain rfl : i = tn (g 0) := by omega
    refine J_iload d_N_passYear_5 rfl ?_
    refine J_aload_n (i := 0) d_N_passYear_7 rfl rfl ?_
    refine M_get (x := (nI (tn (g 0)))) d_N_passYear_8 f_N_22 hN.1 rfl (hN.2.1.trans (hx0.trans w0.1)) ?_
    refine N_icmp_ge (tgt := 94) d_N_passYear_11 (by decide) (by omega) (by omega) (fun c11 => ?_) (fun c11 => absurd c11 (by omega))
    exact kx Y z5 hY hN hof
  | succ k ih =>
    intro i Y z5 hi hY hN hof
    obtain ⟨hWx, hx0, hx1, hx2⟩ := gMarks_ok (DW := DW) (DF := DF) (wr := true) hW i (by omega)
    generalize hx : gMarks DW DF true g i = x at *
    have hik : i < tn (x.1 0) := by rw [hx0]; omega
    have hrv := rvL_P ha hof hr
    have w3f := (wg_n hWx (k := 3) (n := 999999) (by decide) (by decide)).2
    refine J_iload d_N_passYear_5 rfl ?_
    refine J_aload_n (i := 0) d_N_passYear_7 rfl rfl ?_
    refine M_get (x := (nI (tn (g 0)))) d_N_passYear_8 f_N_22 hN.1 rfl (hN.2.1.trans (hx0.trans w0.1)) ?_
    refine N_icmp_ge (tgt := 94) d_N_passYear_11 (by decide) (by omega) (by omega) (fun c11 => absurd c11 (by omega)) (fun c11 => ?_)
    refine J_aload_n (i := 0) d_N_passYear_14 rfl rfl ?_
    refine J_ldc d_N_passYear_15 w_N_55 ?_
    refine I_ton (n := 999999) rfl ?_
    refine J_aload_n (i := 0) d_N_passYear_17 rfl rfl ?_
    refine M_get (x := (nI (tn (x.1 3)))) d_N_passYear_18 f_N_25 hN.1 rfl (hN.2.2.2.2.1.trans (wg_n hWx (k := 3) (n := 999999) (by decide) (by decide)).1) ?_
    refine J_aload_n (i := 1) d_N_passYear_21 rfl rfl ?_
    refine J_aload_n (i := 2) d_N_passYear_22 rfl rfl ?_
    refine J_aload_n (i := 0) d_N_passYear_23 rfl rfl ?_
    refine J_iload d_N_passYear_24 rfl ?_
    refine M_callV (av := [.ref T, .ref a, .int (nI i)]) d_N_passYear_26 s_N_56 (M_rcv rfl (by decide) rfl) (S_L_feeByV (e := envG x.1 i (-1)) hY (CE_g hN hWx _ _) (okE_g hWx hik (by decide) (by decide)) rfl hrv) (by decide) rfl rfl (Nat.le_of_ble_eq_true rfl) (fun r Z1 hq => ?_)
    obtain ⟨rfl, hZ1⟩ := hq
    rw [fe_nw hnw]
    have hfe := feV_le DF (envG x.1 i 0)
    have hY1 := Ok_L hZ1 hY
    have hN1 := CNow_L hZ1 hN
    refine N_iadd d_N_passYear_29 ?_
    refine J_mmin d_N_passYear_30 w_N_62 w_math_min_s w_mathInit w_math_min_c (by omega) (Nat.le_of_ble_eq_true rfl) ?_
    refine I_ton (n := min 999999 ((tn (x.1 3)) + (feV DF (envG x.1 i 0)))) (nI_min (by omega) (by omega)) ?_
    refine M_put d_N_passYear_33 p_N_25 hN.1 rfl rfl rfl ?_
    refine J_aload_n (i := 0) d_N_passYear_36 rfl rfl ?_
    have hX2 : Ok (pF Z1 a 2 (nI (min 999999 (tn (x.1 3) + (feV DF (envG x.1 i 0)))))) := okF hY1
    have hN2 := CNow_fu (v := nI (min 999999 (tn (x.1 3) + (feV DF (envG x.1 i 0))))) hN1
    have hW1 : WFg (upF x.1 3 (nI (min 999999 (tn (x.1 3) + (feV DF (envG x.1 i 0)))))) := WFg_up hWx (show _ ≤ 999999 by omega) (by decide)
    refine M_callV (av := []) d_N_passYear_37 s_N_68 (M_rcv hN.1 (by decide) rfl) (S_N_nextX hX2 hN2 hW1) (by decide) rfl rfl (Nat.le_of_ble_eq_true rfl) (fun r Z2 hq => ?_)
    obtain ⟨rfl, hY2, hN3, ho2⟩ := hq
    rw [show tn ((upF x.1 3 (nI (min 999999 (tn (x.1 3) + (feV DF (envG x.1 i 0)))))) 2) = tn (x.1 2) from by rw [upF_o (by decide)]]
    have hW2 := WFg_N hW1
    have hs20 : (tn (x.1 2) % 20) < 20 := Nat.mod_lt _ (by decide)
    have hof2 : offP a X Z2 := offP_t (offP_t hof (offP_L hZ1)) (offP_t (Y := pF Z1 a 2 (nI (min 999999 (tn (x.1 3) + (feV DF (envG x.1 i 0)))))) ⟨fun b q1 _ k => pF_o q1, fun _ _ _ _ => rfl, rfl⟩ (offP_N ho2))
    have w2 := (wg_n hWx (k := 2) (n := 30982) (by decide) (by decide)).2
    refine J_bipush (v := nI 20) d_N_passYear_40 rfl ?_
    refine N_irem d_N_passYear_42 (by omega) (by omega) (by omega) ?_
    refine J_istore (L1 := [some (.ref a), some (.ref 16), some (.ref T), some (.int (nI x.2)), some (.int (nI i)), some (.int (nI ((tn (x.1 2)) % 20)))]) d_N_passYear_43 (by decide) rfl ?_
    refine J_aload_n (i := 0) d_N_passYear_45 rfl rfl ?_
    refine J_iload d_N_passYear_46 rfl ?_
    refine J_iload d_N_passYear_48 rfl ?_
    refine CV_B (av := [.int (nI i), .int (nI (tn (x.1 2) % 20))]) d_N_passYear_50 s_N_47 (M_rcv hN.1 (by decide) rfl) (S_N_hasN hY2 hN3 hW2 (show i < tn ((gN (upF x.1 3 (nI (min 999999 (tn (x.1 3) + (feV DF (envG x.1 i 0))))))) 0) by rw [show (gN (upF x.1 3 (nI (min 999999 (tn (x.1 3) + (feV DF (envG x.1 i 0))))))) 0 = x.1 0 from by unfold gN; rw [upF_o (by decide), upF_o (by decide)]]; exact hik) hs20) (by decide) rfl rfl (Nat.le_of_ble_eq_true rfl) ?_
    refine B_if_eq (tgt := 88) d_N_passYear_53 (by decide) (fun c53 => ?_) (fun c53 => ?_)
    · refine N_iinc (a := i) (c := 1) (L1 := [some (.ref a), some (.ref 16), some (.ref T), some (.int (nI x.2)), some (.int (nI (i + 1))), some (.int (nI ((tn (x.1 2)) % 20)))]) d_N_passYear_88 rfl rfl (by decide) rfl ?_
      refine J_goto (tgt := 5) d_N_passYear_91 (by decide) ?_
      have e : gMarks DW DF true g (i + 1) = ((gN (upF x.1 3 (nI (min 999999 (tn (x.1 3) + (feV DF (envG x.1 i 0))))))), x.2) := itr_g (f := gMark DW DF true) hx (by unfold gMark; rw [if_neg (by rw [c53]; decide)])
      exact (ih (i + 1) _ _ (by omega) hY2 (by rw [e]; exact hN3) hof2).eq (by rw [e]) rfl rfl
    · refine J_aload_n (i := 0) d_N_passYear_56 rfl rfl ?_
      refine M_callV (av := []) d_N_passYear_57 s_N_68 (M_rcv hN.1 (by decide) rfl) (S_N_nextX hY2 hN3 hW2) (by decide) rfl rfl (Nat.le_of_ble_eq_true rfl) (fun r Z3 hq => ?_)
      obtain ⟨rfl, hY3, hN4, ho3⟩ := hq
      have hW3 := WFg_N hW2
      have hof3 := offP_t hof2 (offP_N ho3)
      have w3 := (wg_n hW2 (k := 2) (n := 30982) (by decide) (by decide)).2
      refine J_bipush (v := nI 10) d_N_passYear_60 rfl ?_
      refine N_irem d_N_passYear_62 (by omega) (by omega) (by omega) ?_
      refine J_aload_n (i := 1) d_N_passYear_63 rfl rfl ?_
      refine J_aload_n (i := 2) d_N_passYear_64 rfl rfl ?_
      refine J_aload_n (i := 0) d_N_passYear_65 rfl rfl ?_
      refine J_iload d_N_passYear_66 rfl ?_
      refine J_iload d_N_passYear_68 rfl ?_
      have h30 : (gN (gN (upF x.1 3 (nI (min 999999 (tn (x.1 3) + (feV DF (envG x.1 i 0)))))))) 0 = x.1 0 := by unfold gN; rw [upF_o (by decide), upF_o (by decide), upF_o (by decide)]
      have hcall : CM 4 m_L_wearsBy [.ref 16, .ref T, .ref a, .int (nI i), .int (nI (tn (x.1 2) % 20))] Z3 (fun r Y => r = some (.int (nI (wrV DW (envG (gN (gN (upF x.1 3 (nI (min 999999 (tn (x.1 3) + (feV DF (envG x.1 i 0)))))))) i ((tn (x.1 2) % 20) : Nat))))) ∧ lawY Z3 Y) := by
        have h := S_L_wearsByV (e := envG (gN (gN (upF x.1 3 (nI (min 999999 (tn (x.1 3) + (feV DF (envG x.1 i 0)))))))) i (((tn (x.1 2) % 20) : Nat) : Int)) hY3 (CE_g hN4 hW3 _ _) (okE_g hW3 (by rw [h30]; exact hik) (by omega) (by omega)) (rvL_P ha hof3 hr)
        rw [show (envG (gN (gN (upF x.1 3 (nI (min 999999 (tn (x.1 3) + (feV DF (envG x.1 i 0)))))))) i (((tn (x.1 2) % 20) : Nat) : Int)).2.2.2.2.2 = (((tn (x.1 2) % 20) : Nat) : Int) from rfl, jI_n] at h
        exact h
      refine M_callV (av := [.ref T, .ref a, .int (nI i), .int (nI (tn (x.1 2) % 20))]) d_N_passYear_70 s_N_72 (M_rcv rfl (by decide) rfl) hcall (by decide) rfl rfl (Nat.le_of_ble_eq_true rfl) (fun r Z4 hq => ?_)
      obtain ⟨rfl, hZ4⟩ := hq
      have hwr := wrV_le DW (envG (gN (gN (upF x.1 3 (nI (min 999999 (tn (x.1 3) + (feV DF (envG x.1 i 0)))))))) i ((tn (x.1 2) % 20) : Nat))
      have hY4 := Ok_L hZ4 hY3
      have hN5 := CNow_L hZ4 hN4
      have hof4 := offP_t hof3 (offP_L hZ4)
      refine N_icmp_ge (tgt := 88) d_N_passYear_73 (by decide) (by omega) (by omega) (fun c73 => ?_) (fun c73 => ?_)
      · refine N_iinc (a := i) (c := 1) (L1 := [some (.ref a), some (.ref 16), some (.ref T), some (.int (nI x.2)), some (.int (nI (i + 1))), some (.int (nI ((tn (x.1 2)) % 20)))]) d_N_passYear_88 rfl rfl (by decide) rfl ?_
        refine J_goto (tgt := 5) d_N_passYear_91 (by decide) ?_
        have e : gMarks DW DF true g (i + 1) = ((gN (gN (upF x.1 3 (nI (min 999999 (tn (x.1 3) + (feV DF (envG x.1 i 0)))))))), x.2) := itr_g (f := gMark DW DF true) hx (by unfold gMark; rw [if_pos c53, if_neg (by omega)])
        exact (ih (i + 1) _ _ (by omega) hY4 (by rw [e]; exact hN5) hof4).eq (by rw [e]) rfl rfl
      · refine J_aload_n (i := 0) d_N_passYear_76 rfl rfl ?_
        refine J_iload d_N_passYear_77 rfl ?_
        refine J_iload d_N_passYear_79 rfl ?_
        refine J_iconst (v := nI 3) d_N_passYear_81 rfl ?_
        refine M_callV (av := [.int (nI i), .int (nI (tn (x.1 2) % 20)), .int (nI 3)]) d_N_passYear_82 s_N_76 (M_rcv hN.1 (by decide) rfl) (S_N_change hY4 hN5 hW3 (show i < 8 by omega) hs20 (by decide)) (by decide) rfl rfl (Nat.le_of_ble_eq_true rfl) (fun r Z5 hq => ?_)
        obtain ⟨rfl, hY5, hN6, ho5⟩ := hq
        have hof5 := offP_t hof4 (offP_N ho5)
        refine N_iinc (a := x.2) (c := 1) (L1 := [some (.ref a), some (.ref 16), some (.ref T), some (.int (nI (x.2 + 1))), some (.int (nI i)), some (.int (nI ((tn (x.1 2)) % 20)))]) d_N_passYear_85 rfl rfl (by decide) rfl ?_
        refine N_iinc (a := i) (c := 1) (L1 := [some (.ref a), some (.ref 16), some (.ref T), some (.int (nI (x.2 + 1))), some (.int (nI (i + 1))), some (.int (nI ((tn (x.1 2)) % 20)))]) d_N_passYear_88 rfl rfl (by decide) rfl ?_
        refine J_goto (tgt := 5) d_N_passYear_91 (by decide) ?_
        have e : gMarks DW DF true g (i + 1) = (gWrite (gX (gN (gN (upF x.1 3 (nI (min 999999 (tn (x.1 3) + (feV DF (envG x.1 i 0)))))))) i (tn (x.1 2) % 20)) i 3 ((tn (x.1 2) % 20) + 1), x.2 + 1) := itr_g (f := gMark DW DF true) hx (by unfold gMark; rw [if_pos c53, if_pos (by omega)]; rfl)
        exact (ih (i + 1) _ _ (by omega) hY5 (by rw [e]; exact hN6) hof5).eq (by rw [e]) rfl rfl
theorem S_N_passYear_r {X : Mem} {a : Nat} {g : Nat → Int32} {DW DF : Option (Env → Int)} {T : Nat} (hW : WFg g) (ha : a < 222) (hnw : nwD DF) (hr : rvL X (.ref T) DW DF) (hX : Ok X) (hN : CNow X a g) : CM 5 m_N_passYear [.ref a, .ref 16, .ref T] X (fun r Y => r = some (.int (nI (gPass DW DF true g).2)) ∧ Ok Y ∧ CNow Y a (gPass DW DF true g).1 ∧ offP a X Y) := by
  refine CM_of (L := [some (.ref a), some (.ref 16), some (.ref T), none, none, none]) 3 ok_N_passYear (fun _ => Nat.le_of_ble_eq_true rfl) rfl ?_
  refine J_iconst (v := nI 0) d_N_passYear_0 rfl ?_
  refine J_istore_n (i := 3) (L1 := [some (.ref a), some (.ref 16), some (.ref T), some (.int (nI 0)), none, none]) d_N_passYear_1 rfl (by decide) rfl ?_
  refine J_iconst (v := nI 0) d_N_passYear_2 rfl ?_
  refine J_istore (L1 := [some (.ref a), some (.ref 16), some (.ref T), some (.int (nI 0)), some (.int (nI 0)), none]) d_N_passYear_3 (by decide) rfl ?_
  have w0 := wg_n hW (k := 0) (n := 8) (by decide) (by decide)
  obtain ⟨hWx, hx0, hx1, hx2⟩ := gMarks_ok (DW := DW) (DF := DF) (wr := true) hW (tn (g 0)) w0.2
  have w1 := wg_n hW (k := 1) (n := 9999) (by decide) (by decide)
  refine lp_N_passYear_r hW ha hnw hr (fun Y z5 hY hN2 hof => ?_) (tn (g 0)) 0 X _ (by omega) hX hN (offP_0 a X)
  refine J_aload_n (i := 0) d_N_passYear_94 rfl rfl ?_
  refine J_dup d_N_passYear_95 rfl ?_
  refine M_get (x := (nI (tn ((gMarks DW DF true g (tn (g 0))).1 1)))) d_N_passYear_96 f_N_28 hN.1 rfl (hN2.2.2.1.trans (wg_n hWx (k := 1) (n := 9999) (by decide) (by decide)).1) ?_
  refine J_iconst (v := nI 1) d_N_passYear_99 rfl ?_
  refine N_iadd d_N_passYear_100 ?_
  refine M_put d_N_passYear_101 p_N_28 hN.1 rfl rfl rfl ?_
  refine J_iload_n (i := 3) d_N_passYear_104 rfl rfl ?_
  refine M_ir d_N_passYear_105 rfl rfl ?_
  exact ⟨rfl, okF hY, CNow_ye hN2, offP_t hof ⟨fun b q1 _ k => pF_o q1, fun _ _ _ _ => rfl, rfl⟩⟩

