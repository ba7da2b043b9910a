def rnS (s : Sg) (m : Nat) : Sg := setg s (gWrite (gRn (nowG s.1) s.1 m) m 2 0)
def rnO (s : Sg) (m : Int32) : Sg := if mkB (mOf s.1) m then (if woN (stOf s.1) (rgOf s.1) (tn m) = 0 then s else rnS (hkp s) (tn m)) else s
def rnF (s : Sg) (m : Int32) : Int32 := if mkB (mOf s.1) m then (if woN (stOf s.1) (rgOf s.1) (tn m) = 0 then (-1) else nI (woN (stOf s.1) (rgOf s.1) (tn m))) else (-1)
theorem WFg_rn {s : Sg} (hw : WFs s) {m : Nat} (hm : m < 8) : WFg (gWrite (gRn (nowG s.1) s.1 m) m 2 0) := by
  refine WFg_W (WFg_R (WFg_now hw) hm ?_) hm (by decide) (by decide)
  have := hw.1.1 (18 + m) (by omega) (by omega)
  rw [(bd_10 m hm).2] at this
  exact this
theorem WF_rn {s : Sg} (hw : WFs s) {m : Nat} (hm : m < 8) : WFs (rnS s m) := by
  refine WF_g hw (WFg_rn hw hm) ?_
  show tn (s.1 0) ≤ tn (gRn (nowG s.1) s.1 m 0)
  unfold gRn
  rw [upF_o (by omega)]
  exact Nat.le_refl _
theorem rn_hkp (s : Sg) (m : Nat) : rnS (hkp s) m = setr s (rowOf (kpR s.1) (gWrite (gRn (nowG (kpR s.1)) (kpR s.1) m) m 2 0)) := rfl
theorem wo_kp (s : Sg) {m : Nat} (hm : m < 8) : woN (stOf (kpR s.1)) (rgOf (kpR s.1)) m = woN (stOf s.1) (rgOf s.1) m := by
  unfold woN stOf rgOf
  rw [kp_o s.1 (by omega) (by omega), kp_o s.1 (by omega) (by omega)]
theorem WF_rnO {s : Sg} (hw : WFs s) {m : Int32} : WFs (rnO s m) := by
  unfold rnO
  split
  · rename_i h
    have w0 : mOf s.1 ≤ 8 := (wf_1 hw.1 (j := 0) (n := 8) (by decide) (by decide) (by decide)).2
    obtain ⟨i, hi, rfl⟩ := mk_n w0 h
    split
    · exact hw
    · rw [tn_nI (by omega)]; exact WF_rn (WF_kp hw) (by omega)
  · exact hw
theorem S_H_restore {X : Mem} {s : Sg} {m : Nat} (hX : Ok X) (hC : CI X s) (hw : WFs s) (hm : m < mOf s.1) : CM 2 m_H_restore [.ref 18, .int (nI m)] X (fun r Y => r = some (.int (nI (woN (stOf s.1) (rgOf s.1) m))) ∧ pC X (rnS s m) Y) := by
  have hS := v_CSt hC hw
  have hm8 := hS.1
  have hrg := hw.1.1 (18 + m) (by omega) (by omega)
  rw [(bd_10 m (by omega)).2] at hrg
  have hwo : woN (stOf s.1) (rgOf s.1) m ≤ 32 := bc_le _
  refine CM_of (L := [some (.ref 18), some (.int (nI m)), none]) 1 ok_H_restore (fun _ => Nat.le_of_ble_eq_true rfl) rfl ?_
  refine J_aload_n (i := 0) d_H_restore_0 rfl rfl ?_
  refine J_iload_n (i := 1) d_H_restore_1 rfl rfl ?_
  refine CV_N (av := [.int (nI m)]) d_H_restore_2 s_H_79 (M_rcv rfl (by decide) rfl) (S_H_countOther hX hS hm) (by decide) rfl rfl (Nat.le_of_ble_eq_true rfl) ?_
  refine J_istore_n (i := 2) (L1 := [some (.ref 18), some (.int (nI m)), some (.int (nI (woN (stOf s.1) (rgOf s.1) m)))]) d_H_restore_5 rfl (by decide) rfl ?_
  refine J_aload_n (i := 0) d_H_restore_6 rfl rfl ?_
  refine M_getR (b := 19) d_H_restore_7 f_H_12 rfl rfl rfl ?_
  refine M_getR (b := 20) d_H_restore_10 f_H_70 rfl rfl rfl ?_
  refine J_iload_n (i := 1) d_H_restore_13 rfl rfl ?_
  refine J_aload_n (i := 0) d_H_restore_14 rfl rfl ?_
  refine M_getR (b := 114) d_H_restore_15 f_H_25 rfl rfl rfl ?_
  refine J_iload_n (i := 1) d_H_restore_18 rfl rfl ?_
  refine N_iald (x := (s.1 (18 + m))) d_H_restore_19 rfl (by omega) (ltL hX (a := 114) (n := 8) (by decide) rfl (by omega)) (hC.1.2.2.1 m (by omega)) ?_
  refine N_iast d_H_restore_20 rfl (by decide) (by omega) (ltL hX (a := 20) (n := 8) (by decide) rfl (by omega)) ?_
  refine J_aload_n (i := 0) d_H_restore_21 rfl rfl ?_
  refine M_getR (b := 19) d_H_restore_22 f_H_12 rfl rfl rfl ?_
  refine J_iload_n (i := 1) d_H_restore_25 rfl rfl ?_
  refine J_iconst (v := nI 2) d_H_restore_26 rfl ?_
  refine J_iconst (v := (-1)) d_H_restore_27 rfl ?_
  refine M_callV (av := [.int (nI m), .int (nI 2), .int (-1)]) d_H_restore_28 s_H_82 (M_rcv rfl (by decide) rfl) (S_N_writeDown (s1 := 0) (okS hX rfl) (CNow_st (a := 19) (m := m) (v := s.1 (18 + m)) hX hC.1.1 (by omega)) (WFg_R (WFg_now hw) (by omega) hrg) (by omega) (by decide) (by decide) (by decide)) (by decide) rfl rfl (Nat.le_of_ble_eq_true rfl) (fun r Y hq => ?_)
  obtain ⟨rfl, hY, hNY, hof⟩ := hq
  refine J_iload_n (i := 2) d_H_restore_31 rfl rfl ?_
  refine M_ir d_H_restore_32 rfl rfl ?_
  exact ⟨rfl, pC_now (pC_0 hX hC) hw hY hNY (offP_t (Y := pA X 20 ((X.2.1 20).set m (s.1 (18 + m)))) ⟨fun _ _ _ _ => rfl, fun b q1 q2 _ => if_neg q1, rfl⟩ (offP_N hof)) rfl⟩

theorem S_O_renewByHand {X : Mem} {s : Sg} {m : Int32} (hX : Ok X) (hC : CI X s) (hw : WFs s) : CM 3 m_O_renewByHand [.ref 8, .int m] X (fun r Y => r = some (.int (rnF s m)) ∧ pC X (rnO s m) Y) := by
  have hS := v_CSt hC hw
  refine CM_of (L := [some (.ref 8), some (.int m)]) 0 ok_O_renewByHand (fun _ => Nat.le_of_ble_eq_true rfl) rfl ?_
  refine J_aload_n (i := 0) d_O_renewByHand_0 rfl rfl ?_
  refine J_iload_n (i := 1) d_O_renewByHand_1 rfl rfl ?_
  refine CV_B (av := [.int m]) d_O_renewByHand_2 s_O_166 (M_rcv rfl (by decide) rfl) (S_O_isMark hX hS) (by decide) rfl rfl (Nat.le_of_ble_eq_true rfl) ?_
  refine B_if_eq (tgt := 19) d_O_renewByHand_5 (by decide) (fun c5 => ?_) (fun c5 => ?_)
  · refine J_iconst (v := (-1)) d_O_renewByHand_19 rfl ?_
    refine M_ir d_O_renewByHand_20 rfl rfl ?_
    exact ⟨by rw [rnF, c5] <;> rfl, by rw [rnO, if_neg (by rw [c5]; decide)]; exact pC_0 hX hC⟩
  · obtain ⟨m_, hm_, rfl⟩ := mk_n hS.1 c5
    have hm8 := hS.1
    have hst_ := (hS.2.2.1 m_ (by omega)).2
    have hrg_ := (hS.2.2.2 m_ (by omega)).2
    have hoST := odd_lt (stOf s.1 m_)
    have ti := tn_nI (show m_ < 2147483648 by omega)
    have hwo : woN (stOf s.1) (rgOf s.1) m_ ≤ 32 := bc_le _
    refine J_aload_n (i := 0) d_O_renewByHand_8 rfl rfl ?_
    refine M_getR (b := 18) d_O_renewByHand_9 f_O_48 rfl rfl rfl ?_
    refine J_iload_n (i := 1) d_O_renewByHand_12 rfl rfl ?_
    refine CV_N (av := [.int (nI m_)]) d_O_renewByHand_13 s_O_335 (M_rcv rfl (by decide) rfl) (S_H_countOther hX hS hm_) (by decide) rfl rfl (Nat.le_of_ble_eq_true rfl) ?_
    refine N_if_ne (tgt := 21) d_O_renewByHand_16 (by decide) (by omega) (fun c16 => ?_) (fun c16 => ?_)
    · refine J_aload_n (i := 0) d_O_renewByHand_21 rfl rfl ?_
      refine M_getR (b := 18) d_O_renewByHand_22 f_O_48 rfl rfl rfl ?_
      refine M_getR (b := 22) d_O_renewByHand_25 f_O_135 rfl rfl rfl ?_
      refine J_aload_n (i := 0) d_O_renewByHand_28 rfl rfl ?_
      refine M_getR (b := 18) d_O_renewByHand_29 f_O_48 rfl rfl rfl ?_
      refine M_getR (b := 19) d_O_renewByHand_32 f_O_110 rfl rfl rfl ?_
      refine M_callV (av := [.ref 19]) d_O_renewByHand_35 s_O_139 (M_rcv rfl (by decide) rfl) (S_S_push hX hC hw) (by decide) rfl rfl (Nat.le_of_ble_eq_true rfl) (fun r Y hq => ?_)
      obtain ⟨rfl, hp⟩ := hq
      refine J_aload_n (i := 0) d_O_renewByHand_38 rfl rfl ?_
      refine M_getR (b := 18) d_O_renewByHand_39 f_O_48 rfl rfl rfl ?_
      refine J_iload_n (i := 1) d_O_renewByHand_42 rfl rfl ?_
      refine M_callV (av := [.int (nI m_)]) d_O_renewByHand_43 s_O_353 (M_rcv rfl (by decide) rfl) (S_H_restore (m := m_) hp.1 hp.2.1 (WF_kp hw) (show m_ < tn (kpR s.1 0) by rw [kp_o s.1 (by decide) (by decide)]; exact hm_)) (by decide) rfl rfl (Nat.le_of_ble_eq_true rfl) (fun r Z hq => ?_)
      obtain ⟨rfl, hp2⟩ := hq
      refine M_ir d_O_renewByHand_46 rfl rfl ?_
      refine ⟨?_, ?_⟩
      · show some (Value.int (nI (woN (stOf (kpR s.1)) (rgOf (kpR s.1)) m_))) = _
        rw [wo_kp s (show m_ < 8 by omega), rnF, if_pos c5, ti, if_neg (by omega)]
      · rw [rnO, if_pos c5, ti, if_neg (by omega)]
        exact pC_t hp hp2
    · refine J_iconst (v := (-1)) d_O_renewByHand_19 rfl ?_
      refine M_ir d_O_renewByHand_20 rfl rfl ?_
      exact ⟨by rw [rnF, if_pos c5, ti, if_pos (by omega)], by rw [rnO, if_pos c5, ti, if_pos (by omega)]; exact pC_0 hX hC⟩

theorem S_O_renew {X : Mem} {s : Sg} {m : Int32} (hX : Ok X) (hC : CI X s) (hw : WFs s) : CM 4 m_O_renew [.ref 8, .int m] X (fun r Y => r = some (.int (rnF s m)) ∧ pC X (rnO s m) Y) := by
  refine CM_of (L := [some (.ref 8), some (.int m)]) 0 ok_O_renew (fun _ => Nat.le_of_ble_eq_true rfl) rfl ?_
  refine J_aload_n (i := 0) d_O_renew_0 rfl rfl ?_
  refine J_iload_n (i := 1) d_O_renew_1 rfl rfl ?_
  refine M_callV (av := [.int m]) d_O_renew_2 s_O_107 (M_rcv rfl (by decide) rfl) (S_O_renewByHand hX hC hw) (by decide) rfl rfl (Nat.le_of_ble_eq_true rfl) (fun r Y hq => ?_)
  obtain ⟨rfl, hp⟩ := hq
  refine M_ir d_O_renew_5 rfl rfl ?_
  exact ⟨rfl, hp⟩

theorem gWrite_cong {g g' : Nat → Int32} {m wt s1 : Nat} (h : ∀ k, k < 38 → g k = g' k) : ∀ k, k < 38 → gWrite g m wt s1 k = gWrite g' m wt s1 k := by
  intro k hk
  unfold gWrite
  rw [h 4 (by decide), h 1 (by decide)]
  by_cases q4 : k = 4
  · rw [if_pos q4, if_pos q4]
  · rw [if_neg q4, if_neg q4]
    by_cases q13 : k < 13
    · rw [if_pos q13, if_pos q13]; exact h k hk
    · rw [if_neg q13, if_neg q13]
      split
      · split
        · rfl
        · exact h k hk
      · by_cases q37 : k = 37
        · rw [if_pos q37, if_pos q37]
        · rw [if_neg q37, if_neg q37]; exact h (k + 1) (by omega)
theorem S_R_renew {X : Mem} {s : Sg} {m : Int32} (hX : Ok X) (hC : RI X s) (hw : WFs s) : CM 2 m_R_renew [.ref 244, .int m] X (fun r Y => r = some (.int (rnF s m)) ∧ pR X (rnO s m) Y) := by
  have hS := v_RSt hC hw
  refine CM_of (L := [some (.ref 244), some (.int m), none]) 1 ok_R_renew (fun _ => Nat.le_of_ble_eq_true rfl) rfl ?_
  refine J_aload_n (i := 0) d_R_renew_0 rfl rfl ?_
  refine J_iload_n (i := 1) d_R_renew_1 rfl rfl ?_
  refine CV_B (av := [.int m]) d_R_renew_2 s_R_379 (M_rcv rfl (by decide) rfl) (S_R_isMark hX hS) (by decide) rfl rfl (Nat.le_of_ble_eq_true rfl) ?_
  refine B_if_eq (tgt := 16) d_R_renew_5 (by decide) (fun c5 => ?_) (fun c5 => ?_)
  · refine J_iconst (v := (-1)) d_R_renew_16 rfl ?_
    refine M_ir d_R_renew_17 rfl rfl ?_
    exact ⟨by rw [rnF, c5] <;> rfl, by rw [rnO, if_neg (by rw [c5]; decide)]; exact pR_0 hX hC⟩
  · obtain ⟨m_, hm_, rfl⟩ := mk_n hS.1 c5
    have hm8 := hS.1
    have hst_ := (hS.2.2.1 m_ (by omega)).2
    have hrg_ := (hS.2.2.2 m_ (by omega)).2
    have hoST := odd_lt (stOf s.1 m_)
    have ti := tn_nI (show m_ < 2147483648 by omega)
    have hwo : woN (stOf s.1) (rgOf s.1) m_ ≤ 32 := bc_le _
    refine J_aload_n (i := 0) d_R_renew_8 rfl rfl ?_
    refine J_iload_n (i := 1) d_R_renew_9 rfl rfl ?_
    refine CV_N (av := [.int (nI m_)]) d_R_renew_10 s_R_416 (M_rcv rfl (by decide) rfl) (S_R_otherThan hX hS hm_) (by decide) rfl rfl (Nat.le_of_ble_eq_true rfl) ?_
    refine N_if_ne (tgt := 18) d_R_renew_13 (by decide) (by omega) (fun c13 => ?_) (fun c13 => ?_)
    · refine J_aload_n (i := 0) d_R_renew_18 rfl rfl ?_
      refine J_iload_n (i := 1) d_R_renew_19 rfl rfl ?_
      refine CV_N (av := [.int (nI m_)]) d_R_renew_20 s_R_416 (M_rcv rfl (by decide) rfl) (S_R_otherThan hX hS hm_) (by decide) rfl rfl (Nat.le_of_ble_eq_true rfl) ?_
      refine J_istore_n (i := 2) (L1 := [some (.ref 244), some (.int (nI m_)), some (.int (nI (woN (stOf s.1) (rgOf s.1) m_)))]) d_R_renew_23 rfl (by decide) rfl ?_
      refine J_aload_n (i := 0) d_R_renew_24 rfl rfl ?_
      have w3 := wf_1 hw.1 (j := 3) (n := 30) (by decide) (by decide) (by decide)
      refine CV_V (av := []) d_R_renew_25 s_R_407 (M_rcv rfl (by decide) rfl) (S_R_keep hX hC.1 w3.1 w3.2) (by decide) rfl rfl (Nat.le_of_ble_eq_true rfl) ?_
      refine J_aload_n (i := 0) d_R_renew_28 rfl rfl ?_
      refine J_iload_n (i := 1) d_R_renew_29 rfl rfl ?_
      have hrg := (WF_kp hw).1.1 (18 + m_) (by omega) (by omega)
      rw [(bd_10 m_ (by omega)).2] at hrg
      refine CV_V (av := [.int (nI m_)]) d_R_renew_30 s_R_419 (M_rcv rfl (by decide) rfl) (S_R_renewNow (wr := true) (okRow hX) RN_hkp (WFg_now hw) (by omega) hrg hC.2.2.2.1.2.2.2) (by decide) rfl rfl (Nat.le_of_ble_eq_true rfl) ?_
      refine J_iload_n (i := 2) d_R_renew_33 rfl rfl ?_
      refine M_ir d_R_renew_34 rfl rfl ?_
      refine ⟨by rw [rnF, if_pos c5, ti, if_neg (by omega)], okRow (okRow hX), ?_, sC_t (sC_A (by decide)) (sC_A (by decide))⟩
      rw [rnO, if_pos c5, ti, if_neg (by omega), pA_pA]
      have e : ofF 1217 (rowOf (kpR s.1) (gWr true (gRn (nowG s.1) (kpR s.1) m_) m_ 2 0)) = ofF 1217 (rowOf (kpR s.1) (gWrite (gRn (nowG (kpR s.1)) (kpR s.1) m_) m_ 2 0)) := row_cong (gWrite_cong (fun k hk => by
        unfold gRn
        by_cases q : k = 5 + m_
        · rw [q, upF_at, upF_at]
        · rw [upF_o q, upF_o q]; exact (kp_now s.1 hk).symm))
      rw [e, rn_hkp]
      exact RI_row hC ((row_o _ _ (by decide) (by decide) (by decide)).trans (kp_o s.1 (by decide) (by decide)))
    · refine J_iconst (v := (-1)) d_R_renew_16 rfl ?_
      refine M_ir d_R_renew_17 rfl rfl ?_
      exact ⟨by rw [rnF, if_pos c5, ti, if_pos (by omega)], by rw [rnO, if_pos c5, ti, if_pos (by omega)]; exact pR_0 hX hC⟩

