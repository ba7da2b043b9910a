theorem nI_ex (v : Int32) : ∃ k, v = nI k := ⟨v.toBitVec.toNat, by
  apply Int32.toBitVec_inj.mp
  apply BitVec.eq_of_toNat_eq
  show v.toBitVec.toNat = v.toBitVec.toNat % 2 ^ 32
  exact (Nat.mod_eq_of_lt v.toBitVec.isLt).symm⟩
theorem agX_e (s : Sg) (v : Nat) : agX s v = setr s (rowOf (kpR s.1) (upF (nowG s.1) 2 (nI v))) := rfl
def agC (v k : Int32) : Bool := inR v 9999 && isInB k (nI 1) (nI 40)
def agO (s : Sg) (v k : Int32) : Sg := if agC v k then ags (agX s (tn v * 2 + 431)) (tn k) else s
def agF (s : Sg) (v k : Int32) : Int32 := if agC v k then (agO s v k).1 6 else (-1)
theorem WF_agO {s : Sg} {v k : Int32} (hw : WFs s) : WFs (agO s v k) := by
  unfold agO
  split
  · rename_i h
    rw [agC, Bool.and_eq_true] at h
    obtain ⟨j, hj, rfl⟩ := inR_n h.1 (by decide)
    rw [tn_nI (by omega)]
    exact WF_ags (WF_agX hw (by omega)) _
  · exact hw
theorem nx_x (s : Sg) : tn (nowG s.1 2) = tn (s.1 7) := rfl
theorem lp_O_ages {X : Mem} {s : Sg} {v n : Nat} {Q : Option Value → Mem → Prop} (hw : WFs s) (hn : n ≤ 40) (kx : ∀ (Y : Mem) (z4 : Option Value), pC X (ags s n) Y → JM 7 m_O_ages Q 139 [some (.ref 8), some (.int (nI v)), some (.int (nI n)), some (.int (nI n)), z4] [] Y) : ∀ (k i : Nat) (Y : Mem) (z4 : Option Value), i + k = n → pC X (ags s i) Y → JM 7 m_O_ages Q 60 [some (.ref 8), some (.int (nI v)), some (.int (nI n)), some (.int (nI i)), z4] [] Y := by
  intro k
  induction k with
  | zero =>
    intro i Y z4 hi hY
    obtain rfl : i = n := by omega
    refine J_iload_n (i := 3) d_O_ages_60 rfl rfl ?_
    refine J_iload_n (i := 2) d_O_ages_61 rfl rfl ?_
    refine N_icmp_ge (tgt := 139) d_O_ages_62 (by decide) (by omega) (by omega) (fun c62 => ?_) (fun c62 => absurd c62 (by omega))
    exact kx Y z4 hY
  | succ k ih =>
    intro i Y z4 hi hY
    have hwp := WF_ags hw i
    generalize hp0 : ags s i = p at *
    have w7 := (wf_1 hwp.1 (j := 7) (n := 30982) (by decide) (by decide) (by decide)).2
    have w6 := (wf_1 (WF_nx hwp).1 (j := 6) (n := 9999) (by decide) (by decide) (by decide)).2
    refine J_iload_n (i := 3) d_O_ages_60 rfl rfl ?_
    refine J_iload_n (i := 2) d_O_ages_61 rfl rfl ?_
    refine N_icmp_ge (tgt := 139) d_O_ages_62 (by decide) (by omega) (by omega) (fun c62 => absurd c62 (by omega)) (fun c62 => ?_)
    refine J_aload_n (i := 0) d_O_ages_65 rfl rfl ?_
    refine M_getR (b := 18) d_O_ages_66 f_O_48 rfl rfl rfl ?_
    refine M_getR (b := 19) d_O_ages_69 f_O_110 rfl rfl rfl ?_
    refine M_callV (av := []) d_O_ages_72 s_O_148 (M_rcv rfl (by decide) rfl) (S_N_nextX hY.1 hY.2.1.1.1 (WFg_now hwp)) (by decide) rfl rfl (Nat.le_of_ble_eq_true rfl) (fun q Y1 hq => ?_)
    obtain ⟨rfl, hY1, hNY, hof⟩ := hq
    rw [nx_x p]
    have hp1 : pC Y (nxtS p) Y1 := pC_now (pC_0 hY.1 hY.2.1) hwp hY1 hNY (offP_N hof) rfl
    have hwx := WF_nx hwp
    have hs1 : ags s (i + 1) = hapS (nxtS p) (tn (p.1 7)) := by rw [← hp0]; rfl
    refine J_istore (L1 := [some (.ref 8), some (.int (nI v)), some (.int (nI n)), some (.int (nI i)), some (.int (nI (tn (p.1 7))))]) d_O_ages_75 (by decide) rfl ?_
    refine J_iload d_O_ages_77 rfl ?_
    refine J_bipush (v := nI 6) d_O_ages_79 rfl ?_
    refine N_irem d_O_ages_81 (by omega) (by omega) (by omega) ?_
    refine J_iconst (v := nI 4) d_O_ages_82 rfl ?_
    refine N_icmp_ge (tgt := 98) d_O_ages_83 (by decide) (by omega) (by omega) (fun c83 => ?_) (fun c83 => ?_)
    · refine J_aload_n (i := 0) d_O_ages_98 rfl rfl ?_
      refine M_getR (b := 18) d_O_ages_99 f_O_48 rfl rfl rfl ?_
      refine M_getR (b := 19) d_O_ages_102 f_O_110 rfl rfl rfl ?_
      refine M_get (x := (nI (tn ((nxtS p).1 6)))) d_O_ages_105 f_O_113 rfl rfl (hp1.2.1.1.1.2.2.1.trans (wf_1 hwx.1 (j := 6) (n := 9999) (by decide) (by decide) (by decide)).1) ?_
      refine J_sipush (v := nI 9999) d_O_ages_108 rfl ?_
      refine N_icmp_ge (tgt := 133) d_O_ages_111 (by decide) (by omega) (by omega) (fun c111 => ?_) (fun c111 => ?_)
      · refine N_iinc (a := i) (c := 1) (L1 := [some (.ref 8), some (.int (nI v)), some (.int (nI n)), some (.int (nI (i + 1))), some (.int (nI (tn (p.1 7))))]) d_O_ages_133 rfl rfl (by decide) rfl ?_
        refine J_goto (tgt := 60) d_O_ages_136 (by decide) ?_
        have hst : hapS (nxtS p) (tn (p.1 7)) = nxtS p := by unfold hapS; rw [if_neg (by omega), if_neg (by omega), if_neg (by omega), if_neg (by omega)]
        exact ih (i + 1) _ _ (by omega) (by rw [hs1, hst]; exact pC_t hY hp1)
      · refine J_aload_n (i := 0) d_O_ages_114 rfl rfl ?_
        refine M_getR (b := 18) d_O_ages_115 f_O_48 rfl rfl rfl ?_
        refine M_getR (b := 19) d_O_ages_118 f_O_110 rfl rfl rfl ?_
        refine J_aload_n (i := 0) d_O_ages_121 rfl rfl ?_
        refine M_getR (b := 16) d_O_ages_122 f_O_41 rfl rfl rfl ?_
        refine J_aload_n (i := 0) d_O_ages_125 rfl rfl ?_
        refine M_callV (av := []) d_O_ages_126 s_O_155 (M_rcv rfl (by decide) rfl) (S_O_rulesL hp1.1 hp1.2.1 hwx) (by decide) rfl rfl (Nat.le_of_ble_eq_true rfl) (fun q Y2 hq => ?_)
        obtain ⟨rfl, rv, rfl, hrv⟩ := hq
        refine M_callV (av := [.ref 16, rv]) d_O_ages_129 s_O_159 (M_rcv rfl (by decide) rfl) (S_N_passYear_v (WFg_now hwx) (by decide) (nw_s hwx) hrv hp1.1 hp1.2.1.1.1) (by decide) rfl rfl (Nat.le_of_ble_eq_true rfl) (fun q Z hq => ?_)
        obtain ⟨rfl, hZ, hNZ, hofZ⟩ := hq
        have hpZ : pC Y2 (hapS (nxtS p) (tn (p.1 7))) Z := by rw [show hapS (nxtS p) (tn (p.1 7)) = ypS (nxtS p) by unfold hapS; rw [if_neg (by omega), if_neg (by omega), if_neg (by omega), if_pos (by omega)]]; exact pC_now (pC_0 hp1.1 hp1.2.1) hwx hZ hNZ hofZ rfl
        refine J_pop d_O_ages_132 rfl ?_
        refine N_iinc (a := i) (c := 1) (L1 := [some (.ref 8), some (.int (nI v)), some (.int (nI n)), some (.int (nI (i + 1))), some (.int (nI (tn (p.1 7))))]) d_O_ages_133 rfl rfl (by decide) rfl ?_
        refine J_goto (tgt := 60) d_O_ages_136 (by decide) ?_
        exact ih (i + 1) _ _ (by omega) (by rw [hs1]; exact pC_t hY (pC_t hp1 hpZ))
    · refine J_aload_n (i := 0) d_O_ages_86 rfl rfl ?_
      refine M_getR (b := 18) d_O_ages_87 f_O_48 rfl rfl rfl ?_
      refine J_iload d_O_ages_90 rfl ?_
      refine M_callV (av := [.int (nI (tn (p.1 7)))]) d_O_ages_92 s_O_152 (M_rcv rfl (by decide) rfl) (S_H_ageByHand hp1.1 hp1.2.1 hwx (by omega) (by omega)) (by decide) rfl rfl (Nat.le_of_ble_eq_true rfl) (fun q Z hq => ?_)
      obtain ⟨rfl, hpZ⟩ := hq
      refine J_goto (tgt := 133) d_O_ages_95 (by decide) ?_
      refine N_iinc (a := i) (c := 1) (L1 := [some (.ref 8), some (.int (nI v)), some (.int (nI n)), some (.int (nI (i + 1))), some (.int (nI (tn (p.1 7))))]) d_O_ages_133 rfl rfl (by decide) rfl ?_
      refine J_goto (tgt := 60) d_O_ages_136 (by decide) ?_
      exact ih (i + 1) _ _ (by omega) (by rw [hs1]; exact pC_t hY (pC_t hp1 hpZ))
theorem S_O_ages {X : Mem} {s : Sg} {v k : Int32} (hX : Ok X) (hC : CI X s) (hw : WFs s) : CM 7 m_O_ages [.ref 8, .int v, .int k] X (fun q Y => q = some (.int (agF s v k)) ∧ pC X (agO s v k) Y) := by
  refine CM_of (L := [some (.ref 8), some (.int v), some (.int k), none, none]) 2 ok_O_ages (fun _ => Nat.le_of_ble_eq_true rfl) rfl ?_
  refine J_iload_n (i := 1) d_O_ages_0 rfl rfl ?_
  refine J_if_lt (tgt := 22) d_O_ages_1 (by decide) (fun c1 => ?_) (fun c1 => ?_)
  · refine J_iconst (v := (-1)) d_O_ages_22 rfl ?_
    refine M_ir d_O_ages_23 rfl rfl ?_
    have hlt : v < nI 0 := c1
    have hc : agC v k = false := by simp [agC, isInB, hlt]
    exact ⟨by rw [agF, hc]; rfl, by rw [agO, hc]; exact pC_0 hX hC⟩
  · refine J_iload_n (i := 1) d_O_ages_4 rfl rfl ?_
    refine J_sipush (v := nI 9999) d_O_ages_5 rfl ?_
    refine J_icmp_gt (tgt := 22) d_O_ages_8 (by decide) (fun c8 => ?_) (fun c8 => ?_)
    · refine J_iconst (v := (-1)) d_O_ages_22 rfl ?_
      refine M_ir d_O_ages_23 rfl rfl ?_
      have hc : agC v k = false := by simp [agC, isInB, c8]
      exact ⟨by rw [agF, hc]; rfl, by rw [agO, hc]; exact pC_0 hX hC⟩
    · refine J_iload_n (i := 2) d_O_ages_11 rfl rfl ?_
      refine J_iconst (v := nI 1) d_O_ages_12 rfl ?_
      refine J_icmp_lt (tgt := 22) d_O_ages_13 (by decide) (fun c13 => ?_) (fun c13 => ?_)
      · refine J_iconst (v := (-1)) d_O_ages_22 rfl ?_
        refine M_ir d_O_ages_23 rfl rfl ?_
        have hc : agC v k = false := by simp [agC, isInB, c13]
        exact ⟨by rw [agF, hc]; rfl, by rw [agO, hc]; exact pC_0 hX hC⟩
      · refine J_iload_n (i := 2) d_O_ages_16 rfl rfl ?_
        refine J_bipush (v := nI 40) d_O_ages_17 rfl ?_
        refine J_icmp_le (tgt := 24) d_O_ages_19 (by decide) (fun c19 => ?_) (fun c19 => ?_)
        · have hin1 : inR v 9999 = true := by simp only [isInB, Bool.and_eq_true, Bool.not_eq_true', decide_eq_false_iff_not]; exact ⟨c1, c8⟩
          have hin2 : isInB k (nI 1) (nI 40) = true := by simp only [isInB, Bool.and_eq_true, Bool.not_eq_true', decide_eq_false_iff_not]; exact ⟨c13, Int32.not_lt.mpr c19⟩
          obtain ⟨v_, hv_, rfl⟩ := inR_n hin1 (by decide)
          obtain ⟨k_, hk1, hk2, rfl⟩ := in_n (by decide) (by decide) hin2
          have tv := tn_nI (show v_ < 2147483648 by omega)
          have tk := tn_nI (show k_ < 2147483648 by omega)
          have hc : agC (nI v_) (nI k_) = true := by rw [agC, hin1, hin2]; rfl
          refine J_aload_n (i := 0) d_O_ages_24 rfl rfl ?_
          refine M_getR (b := 18) d_O_ages_25 f_O_48 rfl rfl rfl ?_
          refine M_getR (b := 22) d_O_ages_28 f_O_135 rfl rfl rfl ?_
          refine J_aload_n (i := 0) d_O_ages_31 rfl rfl ?_
          refine M_getR (b := 18) d_O_ages_32 f_O_48 rfl rfl rfl ?_
          refine M_getR (b := 19) d_O_ages_35 f_O_110 rfl rfl rfl ?_
          refine M_callV (av := [.ref 19]) d_O_ages_38 s_O_139 (M_rcv rfl (by decide) rfl) (S_S_push hX hC hw) (by decide) rfl rfl (Nat.le_of_ble_eq_true rfl) (fun q Y hq => ?_)
          obtain ⟨rfl, hp⟩ := hq
          refine J_aload_n (i := 0) d_O_ages_41 rfl rfl ?_
          refine M_getR (b := 18) d_O_ages_42 f_O_48 rfl rfl rfl ?_
          refine M_getR (b := 19) d_O_ages_45 f_O_110 rfl rfl rfl ?_
          refine J_iload_n (i := 1) d_O_ages_48 rfl rfl ?_
          refine J_iconst (v := nI 2) d_O_ages_49 rfl ?_
          refine N_imul d_O_ages_50 ?_
          refine J_sipush (v := nI 431) d_O_ages_51 rfl ?_
          refine N_iadd d_O_ages_54 ?_
          refine M_put d_O_ages_55 p_O_145 rfl rfl rfl rfl ?_
          refine J_iconst (v := nI 0) d_O_ages_58 rfl ?_
          refine J_istore_n (i := 3) (L1 := [some (.ref 8), some (.int (nI v_)), some (.int (nI k_)), some (.int (nI 0)), none]) d_O_ages_59 rfl (by decide) rfl ?_
          have hp2 : pC X (agX s (v_ * 2 + 431)) (pF Y 19 4 (nI (v_ * 2 + 431))) := pC_now hp (WF_kp hw) (okF hp.1) (CNow_f (CN_hkp hp.2.1)) ⟨fun b q1 _ k => pF_o q1, fun _ _ _ _ => rfl, rfl⟩ rfl
          have hwa := WF_agX (v := v_ * 2 + 431) hw (by omega)
          refine lp_O_ages hwa hk2 (fun Z z4 hZ => ?_) k_ 0 _ _ (by omega) hp2
          have eO : agO s (nI v_) (nI k_) = (ags (agX s (v_ * 2 + 431)) k_) := by rw [agO, if_pos hc, tv, tk]
          refine J_aload_n (i := 0) d_O_ages_139 rfl rfl ?_
          refine M_getR (b := 18) d_O_ages_140 f_O_48 rfl rfl rfl ?_
          refine M_getR (b := 19) d_O_ages_143 f_O_110 rfl rfl rfl ?_
          refine M_get (x := ((ags (agX s (v_ * 2 + 431)) k_).1 6)) d_O_ages_146 f_O_113 rfl rfl hZ.2.1.1.1.2.2.1 ?_
          refine M_ir d_O_ages_149 rfl rfl ?_
          exact ⟨by rw [agF, if_pos hc, eO], by rw [eO]; exact hZ⟩
        · refine J_iconst (v := (-1)) d_O_ages_22 rfl ?_
          refine M_ir d_O_ages_23 rfl rfl ?_
          have hlt : nI 40 < k := Int32.not_le.mp c19
          have hc : agC v k = false := by simp [agC, isInB, hlt]
          exact ⟨by rw [agF, hc]; rfl, by rw [agO, hc]; exact pC_0 hX hC⟩

theorem lp_R_ages {X : Mem} {s : Sg} {v n : Nat} {Q : Option Value → Mem → Prop} (hw : WFs s) (hn : n ≤ 40) (kx : ∀ (Y : Mem) (z4 : Option Value), pR X (ags s n) Y → JM 8 m_R_ages Q 73 [some (.ref 244), some (.int (nI v)), some (.int (nI n)), some (.int (nI n)), z4] [] Y) : ∀ (k i : Nat) (Y : Mem) (z4 : Option Value), i + k = n → pR X (ags s i) Y → JM 8 m_R_ages Q 43 [some (.ref 244), some (.int (nI v)), some (.int (nI n)), some (.int (nI i)), z4] [] Y := by
  intro k
  induction k with
  | zero =>
    intro i Y z4 hi hY
    obtain rfl : i = n := by omega
    refine J_iload_n (i := 3) d_R_ages_43 rfl rfl ?_
    refine J_iload_n (i := 2) d_R_ages_44 rfl rfl ?_
    refine N_icmp_ge (tgt := 73) d_R_ages_45 (by decide) (by omega) (by omega) (fun c45 => ?_) (fun c45 => absurd c45 (by omega))
    exact kx Y z4 hY
  | succ k ih =>
    intro i Y z4 hi hY
    have hwp := WF_ags hw i
    generalize hp0 : ags s i = p at *
    have w7 := (wf_1 hwp.1 (j := 7) (n := 30982) (by decide) (by decide) (by decide)).2
    refine J_iload_n (i := 3) d_R_ages_43 rfl rfl ?_
    refine J_iload_n (i := 2) d_R_ages_44 rfl rfl ?_
    refine N_icmp_ge (tgt := 73) d_R_ages_45 (by decide) (by omega) (by omega) (fun c45 => absurd c45 (by omega)) (fun c45 => ?_)
    refine J_aload_n (i := 0) d_R_ages_48 rfl rfl ?_
    refine M_getR (b := 245) d_R_ages_49 f_R_7 rfl rfl rfl ?_
    refine J_bipush (v := nI 7) d_R_ages_52 rfl ?_
    refine N_iald (x := (nI (tn (p.1 7)))) d_R_ages_54 rfl (by omega) (ltL hY.1 (a := 245) (n := 1217) (by decide) rfl (by omega)) ((ri_at hY.2.1 (by decide)).trans (wf_1 hwp.1 (j := 7) (n := 30982) (by decide) (by decide) (by decide)).1) ?_
    refine J_istore (L1 := [some (.ref 244), some (.int (nI v)), some (.int (nI n)), some (.int (nI i)), some (.int (nI (tn (p.1 7))))]) d_R_ages_55 (by decide) rfl ?_
    refine J_aload_n (i := 0) d_R_ages_57 rfl rfl ?_
    refine CV_V (av := []) d_R_ages_58 s_R_370 (M_rcv rfl (by decide) rfl) (S_R_anew hY.1 (RN_self hY.2.1) (WFg_now hwp)) (by decide) rfl rfl (Nat.le_of_ble_eq_true rfl) ?_
    have hp1 : pR Y (nxtS p) (pA Y 245 (ofF 1217 (rowOf p.1 (gN (nowG p.1))))) := ⟨okRow hY.1, RI_row hY.2.1 (row_o _ _ (by decide) (by decide) (by decide)), sC_A (by decide)⟩
    have hwx := WF_nx hwp
    have hs1 : ags s (i + 1) = hapS (nxtS p) (tn (p.1 7)) := by rw [← hp0]; rfl
    obtain ⟨W, hW⟩ := nI_ex (Y.1 244 31)
    refine J_aload_n (i := 0) d_R_ages_61 rfl rfl ?_
    refine J_iload d_R_ages_62 rfl ?_
    refine M_callV (av := [.int (nI (tn (p.1 7)))]) d_R_ages_64 s_R_443 (M_rcv rfl (by decide) rfl) (S_R_happens (W0 := W) hp1.1 hp1.2.1 hwx (by omega) hW) (by decide) rfl rfl (Nat.le_of_ble_eq_true rfl) (fun q Z hq => ?_)
    obtain ⟨rfl, hpZ, _⟩ := hq
    refine N_iinc (a := i) (c := 1) (L1 := [some (.ref 244), some (.int (nI v)), some (.int (nI n)), some (.int (nI (i + 1))), some (.int (nI (tn (p.1 7))))]) d_R_ages_67 rfl rfl (by decide) rfl ?_
    refine J_goto (tgt := 43) d_R_ages_70 (by decide) ?_
    exact ih (i + 1) _ _ (by omega) (by rw [hs1]; exact pR_t hY (pR_t hp1 hpZ))
theorem S_R_ages {X : Mem} {s : Sg} {v k : Int32} (hX : Ok X) (hC : RI X s) (hw : WFs s) : CM 8 m_R_ages [.ref 244, .int v, .int k] X (fun q Y => q = some (.int (agF s v k)) ∧ pR X (agO s v k) Y) := by
  refine CM_of (L := [some (.ref 244), some (.int v), some (.int k), none, none]) 2 ok_R_ages (fun _ => Nat.le_of_ble_eq_true rfl) rfl ?_
  refine J_iload_n (i := 1) d_R_ages_0 rfl rfl ?_
  refine J_iconst (v := nI 0) d_R_ages_1 rfl ?_
  refine J_sipush (v := nI 9999) d_R_ages_2 rfl ?_
  refine CS_B (av := [.int v, .int (nI 0), .int (nI 9999)]) d_R_ages_5 s_R_89 (S_R_isIn) (by decide) rfl rfl (Nat.le_of_ble_eq_true rfl) ?_
  refine B_if_eq (tgt := 21) d_R_ages_8 (by decide) (fun c8 => ?_) (fun c8 => ?_)
  · refine J_iconst (v := (-1)) d_R_ages_21 rfl ?_
    refine M_ir d_R_ages_22 rfl rfl ?_
    have hc : agC v k = false := by rw [agC, show inR v 9999 = false from c8]; rfl
    exact ⟨by rw [agF, hc]; rfl, by rw [agO, hc]; exact pR_0 hX hC⟩
  · refine J_iload_n (i := 2) d_R_ages_11 rfl rfl ?_
    refine J_iconst (v := nI 1) d_R_ages_12 rfl ?_
    refine J_bipush (v := nI 40) d_R_ages_13 rfl ?_
    refine CS_B (av := [.int k, .int (nI 1), .int (nI 40)]) d_R_ages_15 s_R_89 (S_R_isIn) (by decide) rfl rfl (Nat.le_of_ble_eq_true rfl) ?_
    refine B_if_ne (tgt := 23) d_R_ages_18 (by decide) (fun c18 => ?_) (fun c18 => ?_)
    · have hin1 : inR v 9999 = true := c8
      have hin2 : isInB k (nI 1) (nI 40) = true := c18
      obtain ⟨v_, hv_, rfl⟩ := inR_n hin1 (by decide)
      obtain ⟨k_, hk1, hk2, rfl⟩ := in_n (by decide) (by decide) hin2
      have tv := tn_nI (show v_ < 2147483648 by omega)
      have tk := tn_nI (show k_ < 2147483648 by omega)
      have hc : agC (nI v_) (nI k_) = true := by rw [agC, hin1, hin2]; rfl
      refine J_aload_n (i := 0) d_R_ages_23 rfl rfl ?_
      have w3 := wf_1 hw.1 (j := 3) (n := 30) (by decide) (by decide) (by decide)
      refine CV_V (av := []) d_R_ages_24 s_R_407 (M_rcv rfl (by decide) rfl) (S_R_keep hX hC.1 w3.1 w3.2) (by decide) rfl rfl (Nat.le_of_ble_eq_true rfl) ?_
      refine J_aload_n (i := 0) d_R_ages_27 rfl rfl ?_
      refine M_getR (b := 245) d_R_ages_28 f_R_7 rfl rfl rfl ?_
      refine J_bipush (v := nI 7) d_R_ages_31 rfl ?_
      refine J_iload_n (i := 1) d_R_ages_33 rfl rfl ?_
      refine J_iconst (v := nI 2) d_R_ages_34 rfl ?_
      refine N_imul d_R_ages_35 ?_
      refine J_sipush (v := nI 431) d_R_ages_36 rfl ?_
      refine N_iadd d_R_ages_39 ?_
      refine N_iast d_R_ages_40 rfl (by decide) (by omega) (ltL (okRow hX) (a := 245) (n := 1217) (by decide) rfl (by omega)) ?_
      refine J_iconst (v := nI 0) d_R_ages_41 rfl ?_
      refine J_istore_n (i := 3) (L1 := [some (.ref 244), some (.int (nI v_)), some (.int (nI k_)), some (.int (nI 0)), none]) d_R_ages_42 rfl (by decide) rfl ?_
      rw [rn_set (RN_hkp (X := X) (r := s.1)) (k := 2) (by decide) (by decide), pA_pA]
      have hp2 : pR X (agX s (v_ * 2 + 431)) (pA X 245 (ofF 1217 (rowOf (kpR s.1) (upF (nowG s.1) 2 (nI (v_ * 2 + 431)))))) := by
        rw [agX_e]
        exact ⟨okRow hX, RI_row hC ((row_o _ _ (by decide) (by decide) (by decide)).trans (kp_o s.1 (by decide) (by decide))), sC_A (by decide)⟩
      have hwa := WF_agX (v := v_ * 2 + 431) hw (by omega)
      refine lp_R_ages hwa hk2 (fun Z z4 hZ => ?_) k_ 0 _ _ (by omega) hp2
      have eO : agO s (nI v_) (nI k_) = (ags (agX s (v_ * 2 + 431)) k_) := by rw [agO, if_pos hc, tv, tk]
      refine J_aload_n (i := 0) d_R_ages_73 rfl rfl ?_
      refine M_getR (b := 245) d_R_ages_74 f_R_7 rfl rfl rfl ?_
      refine J_bipush (v := nI 6) d_R_ages_77 rfl ?_
      refine N_iald (x := ((ags (agX s (v_ * 2 + 431)) k_).1 6)) d_R_ages_79 rfl (by omega) (ltL hZ.1 (a := 245) (n := 1217) (by decide) rfl (by omega)) (ri_at hZ.2.1 (by decide)) ?_
      refine M_ir d_R_ages_80 rfl rfl ?_
      exact ⟨by rw [agF, if_pos hc, eO], by rw [eO]; exact hZ⟩
    · refine J_iconst (v := (-1)) d_R_ages_21 rfl ?_
      refine M_ir d_R_ages_22 rfl rfl ?_
      have hc : agC v k = false := by rw [agC, show inR v 9999 = true from c8, c18]; rfl
      exact ⟨by rw [agF, hc]; rfl, by rw [agO, hc]; exact pR_0 hX hC⟩

