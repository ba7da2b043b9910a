def ccB (s : Sg) (m k : Int32) (b : Bool) : Bool := mkB (mOf s.1) m && (inR k 19 && ((stOf s.1 (tn m)).testBit (tn k) != b))
def chgS (s : Sg) (m k wt : Nat) : Sg := setg (hkp s) (gWrite (gX (nowG s.1) m k) m wt (k + 1))
def chO (s : Sg) (m k : Int32) (b : Bool) : Sg := if ccB s m k b then chgS s (tn m) (tn k) (if b then 0 else 1) else s
theorem gWr_t (g : Nat → Int32) (m w s1 : Nat) : gWr true g m w s1 = gWrite g m w s1 := rfl
theorem now_st (s : Sg) {i : Nat} (hi : i < 8) : tn (nowG s.1 (5 + i)) = stOf s.1 i := by rw [nowG_s _ hi]; rfl
theorem WF_ch {s : Sg} {m k wt : Nat} (hw : WFs s) (hm : m < 8) (hk : k < 20) (hwt : wt < 4) : WFs (chgS s m k wt) := by
  refine WF_g (WF_kp hw) (WFg_W (WFg_X (WFg_now hw) hm hk) hm hwt (by omega)) ?_
  show tn (kpR s.1 0) ≤ tn (gX (nowG s.1) m k 0)
  unfold gX
  rw [upF_o (by omega), kp_o s.1 (by decide) (by decide)]
  exact Nat.le_refl _
theorem cc_n {s : Sg} (hw : WFs s) {m k : Int32} {b : Bool} (h : ccB s m k b = true) : ∃ i j, m = nI i ∧ k = nI j ∧ i < mOf s.1 ∧ i < 8 ∧ j < 20 ∧ (stOf s.1 i).testBit j = !b := by
  have w0 := wf_1 hw.1 (j := 0) (n := 8) (by decide) (by decide) (by decide)
  have hm8 : mOf s.1 ≤ 8 := w0.2
  simp only [ccB, Bool.and_eq_true] at h
  obtain ⟨i, hi, rfl⟩ := mk_n hm8 h.1
  obtain ⟨j, hj, rfl⟩ := inR_n h.2.1 (by decide)
  refine ⟨i, j, rfl, rfl, hi, by omega, by omega, ?_⟩
  have q := h.2.2
  rw [tn_nI (by omega), tn_nI (by omega)] at q
  revert q
  cases (stOf s.1 i).testBit j <;> cases b <;> decide
theorem WF_chO {s : Sg} (hw : WFs s) {m k : Int32} {b : Bool} : WFs (chO s m k b) := by
  unfold chO
  split
  · rename_i h
    obtain ⟨i, j, rfl, rfl, h1, h2, h3, _⟩ := cc_n hw h
    rw [tn_nI (by omega), tn_nI (by omega)]
    exact WF_ch hw h2 h3 (by split <;> decide)
  · exact hw
theorem S_N_canChange {X : Mem} {s : Sg} {m k : Int32} {b : Bool} (hX : Ok X) (hC : CI X s) (hw : WFs s) : CM 1 m_N_canChange [.ref 19, .int m, .int k, .int (b2i b)] X (rB (ccB s m k b) X) := by
  have hS := v_CSt hC hw
  refine CM_of (L := [some (.ref 19), some (.int m), some (.int k), some (.int (b2i b))]) 0 ok_N_canChange (fun _ => Nat.le_of_ble_eq_true rfl) rfl ?_
  refine J_aload_n (i := 0) d_N_canChange_0 rfl rfl ?_
  refine J_iload_n (i := 1) d_N_canChange_1 rfl rfl ?_
  refine CV_B (av := [.int m]) d_N_canChange_2 s_N_40 (M_rcv rfl (by decide) rfl) (S_N_isMark hX hS) (by decide) rfl rfl (Nat.le_of_ble_eq_true rfl) ?_
  refine B_if_eq (tgt := 29) d_N_canChange_5 (by decide) (fun c5 => ?_) (fun c5 => ?_)
  · refine J_iconst (v := nI 0) d_N_canChange_29 rfl ?_
    refine J.eq (st1 := [.int (b2i false)]) ?_ rfl rfl rfl
    refine M_ir d_N_canChange_30 rfl b2i_nar ?_
    exact ⟨by rw [ccB, c5] <;> rfl, rfl⟩
  · refine J_iload_n (i := 2) d_N_canChange_8 rfl rfl ?_
    refine CSN_B (av := [.int k]) d_N_canChange_9 s_N_44 (S_O_isStroke) (by decide) rfl rfl (Nat.le_of_ble_eq_true rfl) ?_
    refine B_if_eq (tgt := 29) d_N_canChange_12 (by decide) (fun c12 => ?_) (fun c12 => ?_)
    · refine J_iconst (v := nI 0) d_N_canChange_29 rfl ?_
      refine J.eq (st1 := [.int (b2i false)]) ?_ rfl rfl rfl
      refine M_ir d_N_canChange_30 rfl b2i_nar ?_
      exact ⟨by rw [ccB, c5, c12] <;> rfl, rfl⟩
    · obtain ⟨m_, hm_, rfl⟩ := mk_n hS.1 c5
      have hm8 := hS.1
      have hst_ := (hS.2.2.1 m_ (by omega)).2
      have hrg_ := (hS.2.2.2 m_ (by omega)).2
      have hoST := odd_lt (stOf s.1 m_)
      have ti := tn_nI (show m_ < 2147483648 by omega)
      obtain ⟨k_, hk_, rfl⟩ := inR_n (n := 19) c12 (by decide)
      refine J_aload_n (i := 0) d_N_canChange_15 rfl rfl ?_
      refine J_iload_n (i := 1) d_N_canChange_16 rfl rfl ?_
      refine J_iload_n (i := 2) d_N_canChange_17 rfl rfl ?_
      refine CV_B (av := [.int (nI m_), .int (nI k_)]) d_N_canChange_18 s_N_47 (M_rcv rfl (by decide) rfl) (S_N_hasN hX hC.1.1 (WFg_now hw) hm_ (show k_ < 20 by omega)) (by decide) rfl rfl (Nat.le_of_ble_eq_true rfl) ?_
      rw [now_st s (show m_ < 8 by omega)]
      refine J_iload_n (i := 3) d_N_canChange_21 rfl rfl ?_
      refine J_icmp_eq (tgt := 29) d_N_canChange_22 (by decide) (fun c22 => ?_) (fun c22 => ?_)
      · refine J_iconst (v := nI 0) d_N_canChange_29 rfl ?_
        refine J.eq (st1 := [.int (b2i false)]) ?_ rfl rfl rfl
        refine M_ir d_N_canChange_30 rfl b2i_nar ?_
        exact ⟨by rw [ccB, c5, c12, ti, tn_nI (show k_ < 2147483648 by omega), b2i_inj.mp c22, bne_self_eq_false] <;> rfl, rfl⟩
      · refine J_iconst (v := nI 1) d_N_canChange_25 rfl ?_
        refine J_goto (tgt := 30) d_N_canChange_26 (by decide) ?_
        refine J.eq (st1 := [.int (b2i true)]) ?_ rfl rfl rfl
        refine M_ir d_N_canChange_30 rfl b2i_nar ?_
        exact ⟨by rw [ccB, c5, c12, ti, tn_nI (show k_ < 2147483648 by omega), show ((stOf s.1 m_).testBit k_ != b) = true from bne_iff_ne.mpr (fun q => c22 (congrArg b2i q))] <;> rfl, rfl⟩

theorem S_O_changeByHand_t {X : Mem} {s : Sg} {m k : Int32} (hX : Ok X) (hC : CI X s) (hw : WFs s) : CM 3 m_O_changeByHand [.ref 8, .int m, .int k, .int (b2i true)] X (fun r Y => r = some (.int (b2i (ccB s m k true))) ∧ pC X (chO s m k true) Y) := by
  refine CM_of (L := [some (.ref 8), some (.int m), some (.int k), some (.int (b2i true))]) 0 ok_O_changeByHand (fun _ => Nat.le_of_ble_eq_true rfl) rfl ?_
  refine J_aload_n (i := 0) d_O_changeByHand_0 rfl rfl ?_
  refine M_getR (b := 18) d_O_changeByHand_1 f_O_48 rfl rfl rfl ?_
  refine M_getR (b := 19) d_O_changeByHand_4 f_O_110 rfl rfl rfl ?_
  refine J_iload_n (i := 1) d_O_changeByHand_7 rfl rfl ?_
  refine J_iload_n (i := 2) d_O_changeByHand_8 rfl rfl ?_
  refine J_iload_n (i := 3) d_O_changeByHand_9 rfl rfl ?_
  refine CV_B (av := [.int m, .int k, .int (b2i true)]) d_O_changeByHand_10 s_O_346 (M_rcv rfl (by decide) rfl) (S_N_canChange hX hC hw) (by decide) rfl rfl (Nat.le_of_ble_eq_true rfl) ?_
  refine B_if_ne (tgt := 18) d_O_changeByHand_13 (by decide) (fun c13 => ?_) (fun c13 => ?_)
  · refine J_aload_n (i := 0) d_O_changeByHand_18 rfl rfl ?_
    refine M_getR (b := 18) d_O_changeByHand_19 f_O_48 rfl rfl rfl ?_
    refine M_getR (b := 22) d_O_changeByHand_22 f_O_135 rfl rfl rfl ?_
    refine J_aload_n (i := 0) d_O_changeByHand_25 rfl rfl ?_
    refine M_getR (b := 18) d_O_changeByHand_26 f_O_48 rfl rfl rfl ?_
    refine M_getR (b := 19) d_O_changeByHand_29 f_O_110 rfl rfl rfl ?_
    refine M_callV (av := [.ref 19]) d_O_changeByHand_32 s_O_139 (M_rcv rfl (by decide) rfl) (S_S_push hX hC hw) (by decide) rfl rfl (Nat.le_of_ble_eq_true rfl) (fun r Y hq => ?_)
    obtain ⟨rfl, hp⟩ := hq
    obtain ⟨m_, k_, rfl, rfl, hm_, hm8, hk20, hb_⟩ := cc_n hw c13
    refine J_aload_n (i := 0) d_O_changeByHand_35 rfl rfl ?_
    refine M_getR (b := 18) d_O_changeByHand_36 f_O_48 rfl rfl rfl ?_
    refine M_getR (b := 19) d_O_changeByHand_39 f_O_110 rfl rfl rfl ?_
    refine J_iload_n (i := 1) d_O_changeByHand_42 rfl rfl ?_
    refine J_iload_n (i := 2) d_O_changeByHand_43 rfl rfl ?_
    refine J_iload_n (i := 3) d_O_changeByHand_44 rfl rfl ?_
    refine B_if_eq (tgt := 52) d_O_changeByHand_45 (by decide) (fun c45 => absurd c45 (by decide)) (fun c45 => ?_)
    refine J_iconst (v := nI 0) d_O_changeByHand_48 rfl ?_
    refine J_goto (tgt := 53) d_O_changeByHand_49 (by decide) ?_
    refine M_callV (av := [.int (nI m_), .int (nI k_), .int (nI 0)]) d_O_changeByHand_53 s_O_349 (M_rcv rfl (by decide) rfl) (S_N_change hp.1 (CN_hkp hp.2.1) (WFg_now hw) hm8 hk20 (by decide)) (by decide) rfl rfl (Nat.le_of_ble_eq_true rfl) (fun r Z hq => ?_)
    obtain ⟨rfl, hZ, hNZ, hof⟩ := hq
    refine J_iconst (v := nI 1) d_O_changeByHand_56 rfl ?_
    refine J.eq (st1 := [.int (b2i true)]) ?_ rfl rfl rfl
    refine M_ir d_O_changeByHand_57 rfl b2i_nar ?_
    exact ⟨by rw [c13], pC_now hp (WF_kp hw) hZ hNZ (offP_N hof) (by rw [chO, if_pos c13, tn_nI (by omega), tn_nI (by omega)]; rfl)⟩
  · refine J_iconst (v := nI 0) d_O_changeByHand_16 rfl ?_
    refine J.eq (st1 := [.int (b2i false)]) ?_ rfl rfl rfl
    refine M_ir d_O_changeByHand_17 rfl b2i_nar ?_
    exact ⟨by rw [c13], by rw [chO, if_neg (by rw [c13]; decide)]; exact pC_0 hX hC⟩

theorem S_O_add {X : Mem} {s : Sg} {m k : Int32} (hX : Ok X) (hC : CI X s) (hw : WFs s) : CM 4 m_O_add [.ref 8, .int m, .int k] X (fun r Y => r = some (.int (b2i (ccB s m k true))) ∧ pC X (chO s m k true) Y) := by
  refine CM_of (L := [some (.ref 8), some (.int m), some (.int k)]) 0 ok_O_add (fun _ => Nat.le_of_ble_eq_true rfl) rfl ?_
  refine J_aload_n (i := 0) d_O_add_0 rfl rfl ?_
  refine J_iload_n (i := 1) d_O_add_1 rfl rfl ?_
  refine J_iload_n (i := 2) d_O_add_2 rfl rfl ?_
  refine J_iconst (v := nI 1) d_O_add_3 rfl ?_
  refine M_callV (av := [.int m, .int k, .int (b2i true)]) d_O_add_4 s_O_103 (M_rcv rfl (by decide) rfl) (S_O_changeByHand_t hX hC hw) (by decide) rfl rfl (Nat.le_of_ble_eq_true rfl) (fun r Y hq => ?_)
  obtain ⟨rfl, hp⟩ := hq
  refine M_ir d_O_add_7 rfl b2i_nar ?_
  exact ⟨rfl, hp⟩

theorem S_R_canAdd {X : Mem} {s : Sg} {m k : Int32} (hX : Ok X) (hC : RI X s) (hw : WFs s) : CM 2 m_R_canAdd [.ref 244, .int m, .int k] X (rB (ccB s m k true) X) := by
  have hS := v_RSt hC hw
  refine CM_of (L := [some (.ref 244), some (.int m), some (.int k)]) 0 ok_R_canAdd (fun _ => Nat.le_of_ble_eq_true rfl) rfl ?_
  refine J_aload_n (i := 0) d_R_canAdd_0 rfl rfl ?_
  refine J_iload_n (i := 1) d_R_canAdd_1 rfl rfl ?_
  refine CV_B (av := [.int m]) d_R_canAdd_2 s_R_379 (M_rcv rfl (by decide) rfl) (S_R_isMark hX hS) (by decide) rfl rfl (Nat.le_of_ble_eq_true rfl) ?_
  refine B_if_eq (tgt := 35) d_R_canAdd_5 (by decide) (fun c5 => ?_) (fun c5 => ?_)
  · refine J_iconst (v := nI 0) d_R_canAdd_35 rfl ?_
    refine J.eq (st1 := [.int (b2i false)]) ?_ rfl rfl rfl
    refine M_ir d_R_canAdd_36 rfl b2i_nar ?_
    exact ⟨by rw [ccB, c5] <;> rfl, rfl⟩
  · refine J_iload_n (i := 2) d_R_canAdd_8 rfl rfl ?_
    refine CS_B (av := [.int k]) d_R_canAdd_9 s_R_382 (S_R_isStroke) (by decide) rfl rfl (Nat.le_of_ble_eq_true rfl) ?_
    refine B_if_eq (tgt := 35) d_R_canAdd_12 (by decide) (fun c12 => ?_) (fun c12 => ?_)
    · refine J_iconst (v := nI 0) d_R_canAdd_35 rfl ?_
      refine J.eq (st1 := [.int (b2i false)]) ?_ rfl rfl rfl
      refine M_ir d_R_canAdd_36 rfl b2i_nar ?_
      exact ⟨by rw [ccB, c5, c12] <;> rfl, rfl⟩
    · obtain ⟨m_, hm_, rfl⟩ := mk_n hS.1 c5
      have hm8 := hS.1
      have hst_ := (hS.2.2.1 m_ (by omega)).2
      have hrg_ := (hS.2.2.2 m_ (by omega)).2
      have hoST := odd_lt (stOf s.1 m_)
      have ti := tn_nI (show m_ < 2147483648 by omega)
      obtain ⟨k_, hk_, rfl⟩ := inR_n (n := 19) c12 (by decide)
      refine J_aload_n (i := 0) d_R_canAdd_15 rfl rfl ?_
      refine M_getR (b := 245) d_R_canAdd_16 f_R_7 rfl rfl rfl ?_
      refine J_bipush (v := nI 10) d_R_canAdd_19 rfl ?_
      refine J_iload_n (i := 1) d_R_canAdd_21 rfl rfl ?_
      refine N_iadd d_R_canAdd_22 ?_
      refine N_iald (x := (nI (stOf s.1 m_))) d_R_canAdd_23 rfl (by omega) (ltL hX (a := 245) (n := 1217) (by decide) rfl (by omega)) (hS.2.2.1 m_ (by omega)).1 ?_
      refine J_iload_n (i := 2) d_R_canAdd_24 rfl rfl ?_
      refine CS_B (av := [.int (nI (stOf s.1 m_)), .int (nI k_)]) d_R_canAdd_25 s_R_94 (S_R_has (show stOf s.1 m_ < 2147483648 by omega) (by omega)) (by decide) rfl rfl (Nat.le_of_ble_eq_true rfl) ?_
      refine B_if_ne (tgt := 35) d_R_canAdd_28 (by decide) (fun c28 => ?_) (fun c28 => ?_)
      · refine J_iconst (v := nI 0) d_R_canAdd_35 rfl ?_
        refine J.eq (st1 := [.int (b2i false)]) ?_ rfl rfl rfl
        refine M_ir d_R_canAdd_36 rfl b2i_nar ?_
        exact ⟨by rw [ccB, c5, c12, ti, tn_nI (show k_ < 2147483648 by omega), c28] <;> rfl, rfl⟩
      · refine J_iconst (v := nI 1) d_R_canAdd_31 rfl ?_
        refine J_goto (tgt := 36) d_R_canAdd_32 (by decide) ?_
        refine J.eq (st1 := [.int (b2i true)]) ?_ rfl rfl rfl
        refine M_ir d_R_canAdd_36 rfl b2i_nar ?_
        exact ⟨by rw [ccB, c5, c12, ti, tn_nI (show k_ < 2147483648 by omega), c28] <;> rfl, rfl⟩

theorem S_R_add {X : Mem} {s : Sg} {m k : Int32} (hX : Ok X) (hC : RI X s) (hw : WFs s) : CM 3 m_R_add [.ref 244, .int m, .int k] X (fun r Y => r = some (.int (b2i (ccB s m k true))) ∧ pR X (chO s m k true) Y) := by
  refine CM_of (L := [some (.ref 244), some (.int m), some (.int k)]) 0 ok_R_add (fun _ => Nat.le_of_ble_eq_true rfl) rfl ?_
  refine J_aload_n (i := 0) d_R_add_0 rfl rfl ?_
  refine J_iload_n (i := 1) d_R_add_1 rfl rfl ?_
  refine J_iload_n (i := 2) d_R_add_2 rfl rfl ?_
  refine CV_B (av := [.int m, .int k]) d_R_add_3 s_R_404 (M_rcv rfl (by decide) rfl) (S_R_canAdd hX hC hw) (by decide) rfl rfl (Nat.le_of_ble_eq_true rfl) ?_
  refine B_if_ne (tgt := 11) d_R_add_6 (by decide) (fun c6 => ?_) (fun c6 => ?_)
  · refine J_aload_n (i := 0) d_R_add_11 rfl rfl ?_
    have w3 := wf_1 hw.1 (j := 3) (n := 30) (by decide) (by decide) (by decide)
    refine CV_V (av := []) d_R_add_12 s_R_407 (M_rcv rfl (by decide) rfl) (S_R_keep hX hC.1 w3.1 w3.2) (by decide) rfl rfl (Nat.le_of_ble_eq_true rfl) ?_
    obtain ⟨m_, k_, rfl, rfl, hm_, hm8, hk20, hb_⟩ := cc_n hw c6
    refine J_aload_n (i := 0) d_R_add_15 rfl rfl ?_
    refine J_iload_n (i := 1) d_R_add_16 rfl rfl ?_
    refine J_iload_n (i := 2) d_R_add_17 rfl rfl ?_
    refine CV_V (av := [.int (nI m_), .int (nI k_)]) d_R_add_18 s_R_410 (M_rcv rfl (by decide) rfl) (S_R_addNow (wr := true) (okRow hX) RN_hkp (WFg_now hw) hm8 hk20 hC.2.2.2.1.2.2.2 (by rw [now_st s hm8]; exact hb_)) (by decide) rfl rfl (Nat.le_of_ble_eq_true rfl) ?_
    refine J_iconst (v := nI 1) d_R_add_21 rfl ?_
    refine J.eq (st1 := [.int (b2i true)]) ?_ rfl rfl rfl
    refine M_ir d_R_add_22 rfl b2i_nar ?_
    exact ⟨by rw [c6], okRow (okRow hX), (by rw [chO, if_pos c6, tn_nI (by omega), tn_nI (by omega), if_pos rfl, chgS, setg_hkp, gWr_t, pA_pA]; exact RI_row hC ((row_o _ _ (by decide) (by decide) (by decide)).trans (kp_o s.1 (by decide) (by decide)))), sC_t (sC_A (by decide)) (sC_A (by decide))⟩
  · refine J_iconst (v := nI 0) d_R_add_9 rfl ?_
    refine J.eq (st1 := [.int (b2i false)]) ?_ rfl rfl rfl
    refine M_ir d_R_add_10 rfl b2i_nar ?_
    exact ⟨by rw [c6], by rw [chO, if_neg (by rw [c6]; decide)]; exact pR_0 hX hC⟩

theorem S_O_changeByHand_f {X : Mem} {s : Sg} {m k : Int32} (hX : Ok X) (hC : CI X s) (hw : WFs s) : CM 3 m_O_changeByHand [.ref 8, .int m, .int k, .int (b2i false)] X (fun r Y => r = some (.int (b2i (ccB s m k false))) ∧ pC X (chO s m k false) Y) := by
  refine CM_of (L := [some (.ref 8), some (.int m), some (.int k), some (.int (b2i false))]) 0 ok_O_changeByHand (fun _ => Nat.le_of_ble_eq_true rfl) rfl ?_
  refine J_aload_n (i := 0) d_O_changeByHand_0 rfl rfl ?_
  refine M_getR (b := 18) d_O_changeByHand_1 f_O_48 rfl rfl rfl ?_
  refine M_getR (b := 19) d_O_changeByHand_4 f_O_110 rfl rfl rfl ?_
  refine J_iload_n (i := 1) d_O_changeByHand_7 rfl rfl ?_
  refine J_iload_n (i := 2) d_O_changeByHand_8 rfl rfl ?_
  refine J_iload_n (i := 3) d_O_changeByHand_9 rfl rfl ?_
  refine CV_B (av := [.int m, .int k, .int (b2i false)]) d_O_changeByHand_10 s_O_346 (M_rcv rfl (by decide) rfl) (S_N_canChange hX hC hw) (by decide) rfl rfl (Nat.le_of_ble_eq_true rfl) ?_
  refine B_if_ne (tgt := 18) d_O_changeByHand_13 (by decide) (fun c13 => ?_) (fun c13 => ?_)
  · refine J_aload_n (i := 0) d_O_changeByHand_18 rfl rfl ?_
    refine M_getR (b := 18) d_O_changeByHand_19 f_O_48 rfl rfl rfl ?_
    refine M_getR (b := 22) d_O_changeByHand_22 f_O_135 rfl rfl rfl ?_
    refine J_aload_n (i := 0) d_O_changeByHand_25 rfl rfl ?_
    refine M_getR (b := 18) d_O_changeByHand_26 f_O_48 rfl rfl rfl ?_
    refine M_getR (b := 19) d_O_changeByHand_29 f_O_110 rfl rfl rfl ?_
    refine M_callV (av := [.ref 19]) d_O_changeByHand_32 s_O_139 (M_rcv rfl (by decide) rfl) (S_S_push hX hC hw) (by decide) rfl rfl (Nat.le_of_ble_eq_true rfl) (fun r Y hq => ?_)
    obtain ⟨rfl, hp⟩ := hq
    obtain ⟨m_, k_, rfl, rfl, hm_, hm8, hk20, hb_⟩ := cc_n hw c13
    refine J_aload_n (i := 0) d_O_changeByHand_35 rfl rfl ?_
    refine M_getR (b := 18) d_O_changeByHand_36 f_O_48 rfl rfl rfl ?_
    refine M_getR (b := 19) d_O_changeByHand_39 f_O_110 rfl rfl rfl ?_
    refine J_iload_n (i := 1) d_O_changeByHand_42 rfl rfl ?_
    refine J_iload_n (i := 2) d_O_changeByHand_43 rfl rfl ?_
    refine J_iload_n (i := 3) d_O_changeByHand_44 rfl rfl ?_
    refine B_if_eq (tgt := 52) d_O_changeByHand_45 (by decide) (fun c45 => ?_) (fun c45 => absurd c45 (by decide))
    refine J_iconst (v := nI 1) d_O_changeByHand_52 rfl ?_
    refine M_callV (av := [.int (nI m_), .int (nI k_), .int (nI 1)]) d_O_changeByHand_53 s_O_349 (M_rcv rfl (by decide) rfl) (S_N_change hp.1 (CN_hkp hp.2.1) (WFg_now hw) hm8 hk20 (by decide)) (by decide) rfl rfl (Nat.le_of_ble_eq_true rfl) (fun r Z hq => ?_)
    obtain ⟨rfl, hZ, hNZ, hof⟩ := hq
    refine J_iconst (v := nI 1) d_O_changeByHand_56 rfl ?_
    refine J.eq (st1 := [.int (b2i true)]) ?_ rfl rfl rfl
    refine M_ir d_O_changeByHand_57 rfl b2i_nar ?_
    exact ⟨by rw [c13], pC_now hp (WF_kp hw) hZ hNZ (offP_N hof) (by rw [chO, if_pos c13, tn_nI (by omega), tn_nI (by omega)]; rfl)⟩
  · refine J_iconst (v := nI 0) d_O_changeByHand_16 rfl ?_
    refine J.eq (st1 := [.int (b2i false)]) ?_ rfl rfl rfl
    refine M_ir d_O_changeByHand_17 rfl b2i_nar ?_
    exact ⟨by rw [c13], by rw [chO, if_neg (by rw [c13]; decide)]; exact pC_0 hX hC⟩

theorem S_O_rub {X : Mem} {s : Sg} {m k : Int32} (hX : Ok X) (hC : CI X s) (hw : WFs s) : CM 4 m_O_rub [.ref 8, .int m, .int k] X (fun r Y => r = some (.int (b2i (ccB s m k false))) ∧ pC X (chO s m k false) Y) := by
  refine CM_of (L := [some (.ref 8), some (.int m), some (.int k)]) 0 ok_O_rub (fun _ => Nat.le_of_ble_eq_true rfl) rfl ?_
  refine J_aload_n (i := 0) d_O_rub_0 rfl rfl ?_
  refine J_iload_n (i := 1) d_O_rub_1 rfl rfl ?_
  refine J_iload_n (i := 2) d_O_rub_2 rfl rfl ?_
  refine J_iconst (v := nI 0) d_O_rub_3 rfl ?_
  refine M_callV (av := [.int m, .int k, .int (b2i false)]) d_O_rub_4 s_O_103 (M_rcv rfl (by decide) rfl) (S_O_changeByHand_f hX hC hw) (by decide) rfl rfl (Nat.le_of_ble_eq_true rfl) (fun r Y hq => ?_)
  obtain ⟨rfl, hp⟩ := hq
  refine M_ir d_O_rub_7 rfl b2i_nar ?_
  exact ⟨rfl, hp⟩

theorem S_R_canRub {X : Mem} {s : Sg} {m k : Int32} (hX : Ok X) (hC : RI X s) (hw : WFs s) : CM 2 m_R_canRub [.ref 244, .int m, .int k] X (rB (ccB s m k false) X) := by
  have hS := v_RSt hC hw
  refine CM_of (L := [some (.ref 244), some (.int m), some (.int k)]) 0 ok_R_canRub (fun _ => Nat.le_of_ble_eq_true rfl) rfl ?_
  refine J_aload_n (i := 0) d_R_canRub_0 rfl rfl ?_
  refine J_iload_n (i := 1) d_R_canRub_1 rfl rfl ?_
  refine CV_B (av := [.int m]) d_R_canRub_2 s_R_379 (M_rcv rfl (by decide) rfl) (S_R_isMark hX hS) (by decide) rfl rfl (Nat.le_of_ble_eq_true rfl) ?_
  refine B_if_eq (tgt := 35) d_R_canRub_5 (by decide) (fun c5 => ?_) (fun c5 => ?_)
  · refine J_iconst (v := nI 0) d_R_canRub_35 rfl ?_
    refine J.eq (st1 := [.int (b2i false)]) ?_ rfl rfl rfl
    refine M_ir d_R_canRub_36 rfl b2i_nar ?_
    exact ⟨by rw [ccB, c5] <;> rfl, rfl⟩
  · refine J_iload_n (i := 2) d_R_canRub_8 rfl rfl ?_
    refine CS_B (av := [.int k]) d_R_canRub_9 s_R_382 (S_R_isStroke) (by decide) rfl rfl (Nat.le_of_ble_eq_true rfl) ?_
    refine B_if_eq (tgt := 35) d_R_canRub_12 (by decide) (fun c12 => ?_) (fun c12 => ?_)
    · refine J_iconst (v := nI 0) d_R_canRub_35 rfl ?_
      refine J.eq (st1 := [.int (b2i false)]) ?_ rfl rfl rfl
      refine M_ir d_R_canRub_36 rfl b2i_nar ?_
      exact ⟨by rw [ccB, c5, c12] <;> rfl, rfl⟩
    · obtain ⟨m_, hm_, rfl⟩ := mk_n hS.1 c5
      have hm8 := hS.1
      have hst_ := (hS.2.2.1 m_ (by omega)).2
      have hrg_ := (hS.2.2.2 m_ (by omega)).2
      have hoST := odd_lt (stOf s.1 m_)
      have ti := tn_nI (show m_ < 2147483648 by omega)
      obtain ⟨k_, hk_, rfl⟩ := inR_n (n := 19) c12 (by decide)
      refine J_aload_n (i := 0) d_R_canRub_15 rfl rfl ?_
      refine M_getR (b := 245) d_R_canRub_16 f_R_7 rfl rfl rfl ?_
      refine J_bipush (v := nI 10) d_R_canRub_19 rfl ?_
      refine J_iload_n (i := 1) d_R_canRub_21 rfl rfl ?_
      refine N_iadd d_R_canRub_22 ?_
      refine N_iald (x := (nI (stOf s.1 m_))) d_R_canRub_23 rfl (by omega) (ltL hX (a := 245) (n := 1217) (by decide) rfl (by omega)) (hS.2.2.1 m_ (by omega)).1 ?_
      refine J_iload_n (i := 2) d_R_canRub_24 rfl rfl ?_
      refine CS_B (av := [.int (nI (stOf s.1 m_)), .int (nI k_)]) d_R_canRub_25 s_R_94 (S_R_has (show stOf s.1 m_ < 2147483648 by omega) (by omega)) (by decide) rfl rfl (Nat.le_of_ble_eq_true rfl) ?_
      refine B_if_eq (tgt := 35) d_R_canRub_28 (by decide) (fun c28 => ?_) (fun c28 => ?_)
      · refine J_iconst (v := nI 0) d_R_canRub_35 rfl ?_
        refine J.eq (st1 := [.int (b2i false)]) ?_ rfl rfl rfl
        refine M_ir d_R_canRub_36 rfl b2i_nar ?_
        exact ⟨by rw [ccB, c5, c12, ti, tn_nI (show k_ < 2147483648 by omega), c28] <;> rfl, rfl⟩
      · refine J_iconst (v := nI 1) d_R_canRub_31 rfl ?_
        refine J_goto (tgt := 36) d_R_canRub_32 (by decide) ?_
        refine J.eq (st1 := [.int (b2i true)]) ?_ rfl rfl rfl
        refine M_ir d_R_canRub_36 rfl b2i_nar ?_
        exact ⟨by rw [ccB, c5, c12, ti, tn_nI (show k_ < 2147483648 by omega), c28] <;> rfl, rfl⟩

theorem S_R_rub {X : Mem} {s : Sg} {m k : Int32} (hX : Ok X) (hC : RI X s) (hw : WFs s) : CM 3 m_R_rub [.ref 244, .int m, .int k] X (fun r Y => r = some (.int (b2i (ccB s m k false))) ∧ pR X (chO s m k false) Y) := by
  refine CM_of (L := [some (.ref 244), some (.int m), some (.int k)]) 0 ok_R_rub (fun _ => Nat.le_of_ble_eq_true rfl) rfl ?_
  refine J_aload_n (i := 0) d_R_rub_0 rfl rfl ?_
  refine J_iload_n (i := 1) d_R_rub_1 rfl rfl ?_
  refine J_iload_n (i := 2) d_R_rub_2 rfl rfl ?_
  refine CV_B (av := [.int m, .int k]) d_R_rub_3 s_R_413 (M_rcv rfl (by decide) rfl) (S_R_canRub hX hC hw) (by decide) rfl rfl (Nat.le_of_ble_eq_true rfl) ?_
  refine B_if_ne (tgt := 11) d_R_rub_6 (by decide) (fun c6 => ?_) (fun c6 => ?_)
  · refine J_aload_n (i := 0) d_R_rub_11 rfl rfl ?_
    have w3 := wf_1 hw.1 (j := 3) (n := 30) (by decide) (by decide) (by decide)
    refine CV_V (av := []) d_R_rub_12 s_R_407 (M_rcv rfl (by decide) rfl) (S_R_keep hX hC.1 w3.1 w3.2) (by decide) rfl rfl (Nat.le_of_ble_eq_true rfl) ?_
    obtain ⟨m_, k_, rfl, rfl, hm_, hm8, hk20, hb_⟩ := cc_n hw c6
    refine J_aload_n (i := 0) d_R_rub_15 rfl rfl ?_
    refine J_iload_n (i := 1) d_R_rub_16 rfl rfl ?_
    refine J_iload_n (i := 2) d_R_rub_17 rfl rfl ?_
    refine J_iconst (v := nI 1) d_R_rub_18 rfl ?_
    refine CV_V (av := [.int (nI m_), .int (nI k_), .int (nI 1)]) d_R_rub_19 s_R_398 (M_rcv rfl (by decide) rfl) (S_R_rubNow (wr := true) (okRow hX) RN_hkp (WFg_now hw) hm8 hk20 hC.2.2.2.1.2.2.2 (by decide) (by rw [now_st s hm8]; exact hb_)) (by decide) rfl rfl (Nat.le_of_ble_eq_true rfl) ?_
    refine J_iconst (v := nI 1) d_R_rub_22 rfl ?_
    refine J.eq (st1 := [.int (b2i true)]) ?_ rfl rfl rfl
    refine M_ir d_R_rub_23 rfl b2i_nar ?_
    exact ⟨by rw [c6], okRow (okRow hX), (by rw [chO, if_pos c6, tn_nI (by omega), tn_nI (by omega), if_neg (by decide), chgS, setg_hkp, gWr_t, pA_pA]; exact RI_row hC ((row_o _ _ (by decide) (by decide) (by decide)).trans (kp_o s.1 (by decide) (by decide)))), sC_t (sC_A (by decide)) (sC_A (by decide))⟩
  · refine J_iconst (v := nI 0) d_R_rub_9 rfl ?_
    refine J.eq (st1 := [.int (b2i false)]) ?_ rfl rfl rfl
    refine M_ir d_R_rub_10 rfl b2i_nar ?_
    exact ⟨by rw [c6], by rw [chO, if_neg (by rw [c6]; decide)]; exact pR_0 hX hC⟩

