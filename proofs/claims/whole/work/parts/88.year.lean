/-- a year, with its step kept: what is behind it, how many strokes wore off -/
def yrS (s : Sg) : Sg := setg (hkp s) (gPass (lwS s).1 (lwS s).2 true (nowG s.1)).1
def yrN (s : Sg) : Nat := (gPass (lwS s).1 (lwS s).2 true (nowG s.1)).2
def yI (p : Sg × Nat) : Sg × Nat := if tn (p.1.1 6) < 9999 then (yrS p.1, p.2 + yrN p.1) else p
/-- years, those that can pass -/
def yrs (s : Sg) (n : Nat) : Sg × Nat := itr (fun _ => yI) (s, 0) n
theorem lw_hkp (s : Sg) : lwS (hkp s) = lwS s := by
  unfold lwS
  show (if kpR s.1 2 = -1 then _ else ((s.2.2.2.2.2.2 (tn (kpR s.1 2))).1, (s.2.2.2.2.2.2 (tn (kpR s.1 2))).2.1)) = _
  rw [kp_o s.1 (by decide) (by decide)]
theorem nw_s {s : Sg} (hw : WFs s) : nwD (lwS s).2 := by
  intro d hd
  unfold lwS at hd
  split at hd
  · cases hd
  · rename_i h2
    have hm : mkB (tn (s.1 1)) (s.1 2) = true := by
      rcases hw.1.2.1 with q | q
      · exact absurd q h2
      · exact q
    have w1 := wf_1 hw.1 (j := 1) (n := 4) (by decide) (by decide) (by decide)
    obtain ⟨t, ht, e⟩ := mk_n (by omega) hm
    rw [e, tn_nI (by omega)] at hd
    exact (hw.2.2.2.2 t ht).2.2 d hd
theorem gPass_0 {DW DF : Option (Env → Int)} {g : Nat → Int32} {wr : Bool} (h : WFg g) : (gPass DW DF wr g).1 0 = g 0 ∧ (gPass DW DF wr g).1 1 = nI (tn (g 1) + 1) := by
  have w0 := wg_n h (k := 0) (n := 8) (by decide) (by decide)
  obtain ⟨_, q2, q3, _⟩ := gMarks_ok (DW := DW) (DF := DF) (wr := wr) h (tn (g 0)) w0.2
  have a1 : upF (gMarks DW DF wr g (tn (g 0))).1 1 (nI (tn ((gMarks DW DF wr g (tn (g 0))).1 1) + 1)) 0 = g 0 := by rw [upF_o (by decide)]; exact q2
  have a2 : upF (gMarks DW DF wr g (tn (g 0))).1 1 (nI (tn ((gMarks DW DF wr g (tn (g 0))).1 1) + 1)) 1 = nI (tn (g 1) + 1) := by rw [upF_at, q3]
  exact ⟨a1, a2⟩
theorem WF_yrS {s : Sg} (hw : WFs s) (h : tn (s.1 6) < 9999) : WFs (yrS s) := by
  refine WF_g (WF_kp hw) (gPass_ok (WFg_now hw) h) ?_
  rw [(gPass_0 (WFg_now hw)).1]
  show tn (kpR s.1 0) ≤ tn (s.1 0)
  rw [kp_o s.1 (by decide) (by decide)]
  exact Nat.le_refl _
theorem yr_year {s : Sg} (hw : WFs s) (h : tn (s.1 6) < 9999) : tn ((yrS s).1 6) = tn (s.1 6) + 1 := by
  show tn (rowOf (kpR s.1) (gPass (lwS s).1 (lwS s).2 true (nowG s.1)).1 (5 + 1)) = _
  rw [row_y _ _ (by decide) (by decide), (gPass_0 (WFg_now hw)).2, tn_nI (by show tn (s.1 6) + 1 < _; omega)]
  rfl
theorem yrs_ok {s : Sg} (hw : WFs s) : ∀ k, WFs (yrs s k).1 ∧ tn ((yrs s k).1.1 6) = min 9999 (tn (s.1 6) + k) := by
  have w6 := wf_1 hw.1 (j := 6) (n := 9999) (by decide) (by decide) (by decide)
  refine itr_inv (f := fun _ => yI) (fun k (p : Sg × Nat) => WFs p.1 ∧ tn (p.1.1 6) = min 9999 (tn (s.1 6) + k)) ⟨hw, by show tn (s.1 6) = _; omega⟩ (fun k p hp => ?_)
  unfold yI
  by_cases h : tn (p.1.1 6) < 9999
  · rw [if_pos h]
    refine ⟨WF_yrS hp.1 h, ?_⟩
    show tn ((yrS p.1).1 6) = _
    rw [yr_year hp.1 h]
    omega
  · rw [if_neg h]
    exact ⟨hp.1, by omega⟩
theorem yrs_1 {s : Sg} {k : Nat} (h : tn ((yrs s k).1.1 6) < 9999) : yrs s (k + 1) = (yrS (yrs s k).1, (yrs s k).2 + yrN (yrs s k).1) := by
  show yI (yrs s k) = _
  unfold yI
  rw [if_pos h]
theorem yrs_st {s : Sg} {i : Nat} (h : ¬ tn ((yrs s i).1.1 6) < 9999) : ∀ k, yrs s (i + k) = yrs s i
  | 0 => rfl
  | k + 1 => by
    show yI (yrs s (i + k)) = _
    rw [yrs_st h k]
    unfold yI
    rw [if_neg h]
theorem S_N_passYear_v {X : Mem} {a : Nat} {g : Nat → Int32} {DW DF : Option (Env → Int)} {rv : Value} (hW : WFg g) (ha : a < 222) (hnw : nwD DF) (hr : rvL X rv DW DF) (hX : Ok X) (hN : CNow X a g) : CM 5 m_N_passYear [.ref a, .ref 16, rv] X (fun r Y => r = some (.int (nI (gPass DW DF true g).2)) ∧ Ok Y ∧ CNow Y a (gPass DW DF true g).1 ∧ offP a X Y) := by
  have h0 := hr
  rcases hr with ⟨rfl, _⟩ | ⟨T, cw, rfl, _⟩
  · exact S_N_passYear_n hW ha hnw h0 hX hN
  · exact S_N_passYear_r hW ha hnw h0 hX hN
theorem lp_O_passYears {X : Mem} {s : Sg} {n : Nat} {Q : Option Value → Mem → Prop} (hw : WFs s) (hn : n < 1000) (kx : ∀ (Y : Mem) (i : Nat), pC X (yrs s n).1 Y → JM 6 m_O_passYears Q 69 [some (.ref 8), some (.int (nI n)), some (.int (nI ((yrs s n).2))), some (.int (nI i))] [] Y) : ∀ (k i : Nat) (Y : Mem), i + k = n → pC X (yrs s i).1 Y → JM 6 m_O_passYears Q 4 [some (.ref 8), some (.int (nI n)), some (.int (nI ((yrs s i).2))), some (.int (nI i))] [] Y := by
  intro k
  induction k with
  | zero =>
    intro i Y hi hY
    obtain rfl : i = n := by omega
    refine J_iload_n (i := 3) d_O_passYears_4 rfl rfl ?_
    refine J_iload_n (i := 1) d_O_passYears_5 rfl rfl ?_
    refine N_icmp_ge (tgt := 69) d_O_passYears_6 (by decide) (by omega) (by omega) (fun c6 => ?_) (fun c6 => absurd c6 (by omega))
    exact kx Y i hY
  | succ k ih =>
    intro i Y hi hY
    have hwi := yrs_ok hw i
    have hs1 := yrs_1 (s := s) (k := i)
    have hst := yrs_st (s := s) (i := i)
    generalize hp0 : yrs s i = p at *
    have hwp := hwi.1
    have w6 := (wf_1 hwp.1 (j := 6) (n := 9999) (by decide) (by decide) (by decide)).2
    refine J_iload_n (i := 3) d_O_passYears_4 rfl rfl ?_
    refine J_iload_n (i := 1) d_O_passYears_5 rfl rfl ?_
    refine N_icmp_ge (tgt := 69) d_O_passYears_6 (by decide) (by omega) (by omega) (fun c6 => absurd c6 (by omega)) (fun c6 => ?_)
    refine J_aload_n (i := 0) d_O_passYears_9 rfl rfl ?_
    refine M_getR (b := 18) d_O_passYears_10 f_O_48 rfl rfl rfl ?_
    refine M_getR (b := 19) d_O_passYears_13 f_O_110 rfl rfl rfl ?_
    refine M_get (x := (nI (tn (p.1.1 6)))) d_O_passYears_16 f_O_113 rfl rfl (hY.2.1.1.1.2.2.1.trans (wf_1 hwp.1 (j := 6) (n := 9999) (by decide) (by decide) (by decide)).1) ?_
    refine J_sipush (v := nI 9999) d_O_passYears_19 rfl ?_
    refine N_icmp_ge (tgt := 69) d_O_passYears_22 (by decide) (by omega) (by omega) (fun c22 => ?_) (fun c22 => ?_)
    · have e : yrs s n = p := by rw [show n = i + (k + 1) by omega]; exact hst (by omega) _
      have h := kx Y i (by rw [e]; exact hY)
      rw [e] at h
      exact h
    · refine J_aload_n (i := 0) d_O_passYears_25 rfl rfl ?_
      refine M_getR (b := 18) d_O_passYears_26 f_O_48 rfl rfl rfl ?_
      refine M_getR (b := 22) d_O_passYears_29 f_O_135 rfl rfl rfl ?_
      refine J_aload_n (i := 0) d_O_passYears_32 rfl rfl ?_
      refine M_getR (b := 18) d_O_passYears_33 f_O_48 rfl rfl rfl ?_
      refine M_getR (b := 19) d_O_passYears_36 f_O_110 rfl rfl rfl ?_
      refine M_callV (av := [.ref 19]) d_O_passYears_39 s_O_139 (M_rcv rfl (by decide) rfl) (S_S_push hY.1 hY.2.1 hwp) (by decide) rfl rfl (Nat.le_of_ble_eq_true rfl) (fun r Y1 hq => ?_)
      obtain ⟨rfl, hp⟩ := hq
      refine J_iload_n (i := 2) d_O_passYears_42 rfl rfl ?_
      refine J_aload_n (i := 0) d_O_passYears_43 rfl rfl ?_
      refine M_getR (b := 18) d_O_passYears_44 f_O_48 rfl rfl rfl ?_
      refine M_getR (b := 19) d_O_passYears_47 f_O_110 rfl rfl rfl ?_
      refine J_aload_n (i := 0) d_O_passYears_50 rfl rfl ?_
      refine M_getR (b := 16) d_O_passYears_51 f_O_41 rfl rfl rfl ?_
      refine J_aload_n (i := 0) d_O_passYears_54 rfl rfl ?_
      refine M_callV (av := []) d_O_passYears_55 s_O_155 (M_rcv rfl (by decide) rfl) (S_O_rulesL hp.1 hp.2.1 (WF_kp hwp)) (by decide) rfl rfl (Nat.le_of_ble_eq_true rfl) (fun r Y2 hq => ?_)
      obtain ⟨rfl, rv, rfl, hrv⟩ := hq
      have hrv : rvL Y2 rv (lwS p.1).1 (lwS p.1).2 := by rw [← lw_hkp p.1]; exact hrv
      refine M_callV (av := [.ref 16, rv]) d_O_passYears_58 s_O_159 (M_rcv rfl (by decide) rfl) (S_N_passYear_v (WFg_now hwp) (by decide) (nw_s hwp) hrv hp.1 (CN_hkp hp.2.1)) (by decide) rfl rfl (Nat.le_of_ble_eq_true rfl) (fun r Z hq => ?_)
      obtain ⟨rfl, hZ, hNZ, hof⟩ := hq
      refine N_iadd d_O_passYears_61 ?_
      refine J_istore_n (i := 2) (L1 := [some (.ref 8), some (.int (nI n)), some (.int (nI (p.2 + (gPass (lwS p.1).1 (lwS p.1).2 true (nowG p.1.1)).2))), some (.int (nI i))]) d_O_passYears_62 rfl (by decide) rfl ?_
      refine N_iinc (a := i) (c := 1) (L1 := [some (.ref 8), some (.int (nI n)), some (.int (nI (p.2 + (gPass (lwS p.1).1 (lwS p.1).2 true (nowG p.1.1)).2))), some (.int (nI (i + 1)))]) d_O_passYears_63 rfl rfl (by decide) rfl ?_
      refine J_goto (tgt := 4) d_O_passYears_66 (by decide) ?_
      have e := hs1 (by omega)
      exact (ih (i + 1) Z (by omega) (by rw [e]; exact pC_t hY (pC_now hp (WF_kp hwp) hZ hNZ hof rfl))).eq (by rw [e]; rfl) rfl rfl
theorem S_O_passYears {X : Mem} {s : Sg} {n : Nat} (hX : Ok X) (hC : CI X s) (hw : WFs s) (hn : n < 1000) : CM 6 m_O_passYears [.ref 8, .int (nI n)] X (fun r Y => r = some (.int (nI (yrs s n).2)) ∧ pC X (yrs s n).1 Y) := by
  refine CM_of (L := [some (.ref 8), some (.int (nI n)), none, none]) 2 ok_O_passYears (fun _ => Nat.le_of_ble_eq_true rfl) rfl ?_
  refine J_iconst (v := nI 0) d_O_passYears_0 rfl ?_
  refine J_istore_n (i := 2) (L1 := [some (.ref 8), some (.int (nI n)), some (.int (nI 0)), none]) d_O_passYears_1 rfl (by decide) rfl ?_
  refine J_iconst (v := nI 0) d_O_passYears_2 rfl ?_
  refine J_istore_n (i := 3) (L1 := [some (.ref 8), some (.int (nI n)), some (.int (nI 0)), some (.int (nI 0))]) d_O_passYears_3 rfl (by decide) rfl ?_
  refine lp_O_passYears hw hn (fun Y i hY => ?_) n 0 X (by omega) (pC_0 hX hC)
  refine J_iload_n (i := 2) d_O_passYears_69 rfl rfl ?_
  refine M_ir d_O_passYears_70 rfl rfl ?_
  exact ⟨rfl, hY⟩

def yrC (s : Sg) (v : Int32) : Bool := isInB v (nI 1) (nI 60) && decide (tn (s.1 6) + tn v ≤ 9999)
def yrF (s : Sg) (v : Int32) : Int32 := if yrC s v then nI (yrs s (tn v)).2 else (-1)
def yrO (s : Sg) (v : Int32) : Sg := if yrC s v then (yrs s (tn v)).1 else s
theorem in_n {v : Int32} {a b : Nat} (ha : a < 2147483648) (hb : b < 2147483648) (h : isInB v (nI a) (nI b) = true) : ∃ j, a ≤ j ∧ j ≤ b ∧ v = nI j := by
  simp only [isInB, Bool.and_eq_true, Bool.not_eq_true', decide_eq_false_iff_not] at h
  have h0 : ¬ v < 0 := fun q => h.1 (by
    rw [Int32.lt_iff_toInt_lt] at q ⊢
    have e0 : (0 : Int32).toInt = 0 := by decide
    have e1 : (nI a).toInt = (a : Int) := by rw [← jI_n]; exact Int32.toInt_ofInt_of_le (by omega) (by omega)
    omega)
  obtain ⟨j, hj, rfl⟩ := nI_of h0
  rw [nI_ltI hj ha, nI_ltI hb hj] at h
  exact ⟨j, by omega, by omega, rfl⟩
theorem WF_yrO {s : Sg} {v : Int32} (hw : WFs s) : WFs (yrO s v) := by
  unfold yrO
  split
  · exact (yrs_ok hw _).1
  · exact hw
theorem S_O_year {X : Mem} {s : Sg} {v : Int32} (hX : Ok X) (hC : CI X s) (hw : WFs s) : CM 7 m_O_year [.ref 8, .int v] X (fun r Y => r = some (.int (yrF s v)) ∧ pC X (yrO s v) Y) := by
  refine CM_of (L := [some (.ref 8), some (.int v)]) 0 ok_O_year (fun _ => Nat.le_of_ble_eq_true rfl) rfl ?_
  refine J_iload_n (i := 1) d_O_year_0 rfl rfl ?_
  refine J_iconst (v := nI 1) d_O_year_1 rfl ?_
  refine J_icmp_lt (tgt := 29) d_O_year_2 (by decide) (fun c2 => ?_) (fun c2 => ?_)
  · refine J_iconst (v := (-1)) d_O_year_29 rfl ?_
    refine M_ir d_O_year_30 rfl rfl ?_
    have hc : yrC s v = false := by simp [yrC, isInB, c2]
    exact ⟨by rw [yrF, hc]; rfl, by rw [yrO, hc]; exact pC_0 hX hC⟩
  · refine J_iload_n (i := 1) d_O_year_5 rfl rfl ?_
    refine J_bipush (v := nI 60) d_O_year_6 rfl ?_
    refine J_icmp_gt (tgt := 29) d_O_year_8 (by decide) (fun c8 => ?_) (fun c8 => ?_)
    · refine J_iconst (v := (-1)) d_O_year_29 rfl ?_
      refine M_ir d_O_year_30 rfl rfl ?_
      have hc : yrC s v = false := by simp [yrC, isInB, c8]
      exact ⟨by rw [yrF, hc]; rfl, by rw [yrO, hc]; exact pC_0 hX hC⟩
    · have hin : isInB v (nI 1) (nI 60) = true := by simp [isInB, c2, c8]
      obtain ⟨v_, hv1, hv2, rfl⟩ := in_n (by decide) (by decide) hin
      have tv := tn_nI (show v_ < 2147483648 by omega)
      have w6 := wf_1 hw.1 (j := 6) (n := 9999) (by decide) (by decide) (by decide)
      refine J_aload_n (i := 0) d_O_year_11 rfl rfl ?_
      refine M_getR (b := 18) d_O_year_12 f_O_48 rfl rfl rfl ?_
      refine M_getR (b := 19) d_O_year_15 f_O_110 rfl rfl rfl ?_
      refine M_get (x := (nI (tn (s.1 6)))) d_O_year_18 f_O_113 rfl rfl (hC.1.1.2.2.1.trans w6.1) ?_
      refine J_iload_n (i := 1) d_O_year_21 rfl rfl ?_
      refine N_iadd d_O_year_22 ?_
      refine J_sipush (v := nI 9999) d_O_year_23 rfl ?_
      refine N_icmp_le (tgt := 31) d_O_year_26 (by decide) (by omega) (by omega) (fun c26 => ?_) (fun c26 => ?_)
      · refine J_aload_n (i := 0) d_O_year_31 rfl rfl ?_
        refine J_iload_n (i := 1) d_O_year_32 rfl rfl ?_
        refine M_callV (av := [.int (nI v_)]) d_O_year_33 s_O_116 (M_rcv rfl (by decide) rfl) (S_O_passYears hX hC hw (by omega)) (by decide) rfl rfl (Nat.le_of_ble_eq_true rfl) (fun r Y hq => ?_)
        obtain ⟨rfl, hp⟩ := hq
        refine M_ir d_O_year_36 rfl rfl ?_
        have hc : yrC s (nI v_) = true := by rw [yrC, hin, tv, decide_eq_true (by omega)]; rfl
        exact ⟨by rw [yrF, if_pos hc, tv], by rw [yrO, if_pos hc, tv]; exact hp⟩
      · refine J_iconst (v := (-1)) d_O_year_29 rfl ?_
        refine M_ir d_O_year_30 rfl rfl ?_
        have hc : yrC s (nI v_) = false := by rw [yrC, hin, tv, decide_eq_false (by omega)]; rfl
        exact ⟨by rw [yrF, hc]; rfl, by rw [yrO, hc]; exact pC_0 hX hC⟩

theorem lp_R_arePassed {X : Mem} {s : Sg} {n : Nat} (hw : WFs s) (hn : n < 1000) : ∀ (k i : Nat) (Y : Mem), i + k = n → tn (s.1 6) + i ≤ 9999 → pR X (yrs s i).1 Y → Y.1 244 31 = nI (yrs s i).2 → JM 7 m_R_arePassed (fun r Y => r = some (.int (b2i (decide (tn (s.1 6) + n ≤ 9999)))) ∧ pR X (yrs s n).1 Y ∧ Y.1 244 31 = nI (yrs s n).2) 7 [some (.ref 244), some (.int (nI n)), some (.int (nI i))] [] Y := by
  intro k
  induction k with
  | zero =>
    intro i Y hi hyi hY h31
    obtain rfl : i = n := by omega
    refine J_iload_n (i := 2) d_R_arePassed_7 rfl rfl ?_
    refine J_iload_n (i := 1) d_R_arePassed_8 rfl rfl ?_
    refine N_icmp_ge (tgt := 41) d_R_arePassed_9 (by decide) (by omega) (by omega) (fun c9 => ?_) (fun c9 => absurd c9 (by omega))
    refine J_iconst (v := nI 1) d_R_arePassed_41 rfl ?_
    refine J.eq (st1 := [.int (b2i true)]) ?_ rfl rfl rfl
    refine M_ir d_R_arePassed_42 rfl b2i_nar ?_
    exact ⟨by rw [decide_eq_true hyi], hY, h31⟩
  | succ k ih =>
    intro i Y hi hyi hY h31
    have hwi := yrs_ok hw i
    have hs1 := yrs_1 (s := s) (k := i)
    have hst := yrs_st (s := s) (i := i)
    generalize hp0 : yrs s i = p at *
    have hwp := hwi.1
    have w6 := (wf_1 hwp.1 (j := 6) (n := 9999) (by decide) (by decide) (by decide)).2
    refine J_iload_n (i := 2) d_R_arePassed_7 rfl rfl ?_
    refine J_iload_n (i := 1) d_R_arePassed_8 rfl rfl ?_
    refine N_icmp_ge (tgt := 41) d_R_arePassed_9 (by decide) (by omega) (by omega) (fun c9 => absurd c9 (by omega)) (fun c9 => ?_)
    refine J_aload_n (i := 0) d_R_arePassed_12 rfl rfl ?_
    refine M_getR (b := 245) d_R_arePassed_13 f_R_7 rfl rfl rfl ?_
    refine J_bipush (v := nI 6) d_R_arePassed_16 rfl ?_
    refine N_iald (x := (nI (tn (p.1.1 6)))) d_R_arePassed_18 rfl (by omega) (ltL hY.1 (a := 245) (n := 1217) (by decide) rfl (by omega)) ((ri_at hY.2.1 (by decide)).trans (wf_1 hwp.1 (j := 6) (n := 9999) (by decide) (by decide) (by decide)).1) ?_
    refine J_sipush (v := nI 9999) d_R_arePassed_19 rfl ?_
    refine N_icmp_ne (tgt := 27) d_R_arePassed_22 (by decide) (by omega) (by omega) (fun c22 => ?_) (fun c22 => ?_)
    · refine J_aload_n (i := 0) d_R_arePassed_27 rfl rfl ?_
      have w3 := wf_1 hwp.1 (j := 3) (n := 30) (by decide) (by decide) (by decide)
      refine CV_V (av := []) d_R_arePassed_28 s_R_407 (M_rcv rfl (by decide) rfl) (S_R_keep hY.1 hY.2.1.1 w3.1 w3.2) (by decide) rfl rfl (Nat.le_of_ble_eq_true rfl) ?_
      refine J_aload_n (i := 0) d_R_arePassed_31 rfl rfl ?_
      have hx2 : TxR (pA Y 245 (ofF 1217 (kpR p.1.1))) (kpR p.1.1 2) (lwS p.1).1 (lwS p.1).2 := by rw [kp_o p.1.1 (by decide) (by decide)]; exact TxR_c (X := Y) rfl (TxR_s hY.2.1 hwp)
      refine M_callV (av := []) d_R_arePassed_32 s_R_422 (M_rcv rfl (by decide) rfl) (S_R_pass (wr := true) (W0 := p.2) (WFg_now hwp) hY.2.1.2.2.2.1.2.2.2 hx2 (okRow hY.1) RN_hkp h31) (by decide) rfl rfl (Nat.le_of_ble_eq_true rfl) (fun r Z hq => ?_)
      obtain ⟨rfl, hZ, hNZ, h31Z, hof⟩ := hq
      have hpZ : pR Y (yrS p.1) Z := ⟨hZ, RI_now (s := hkp p.1) (RI_row hY.2.1 (kp_o p.1.1 (by decide) (by decide))) hNZ hof, sC_t (sC_A (by decide)) (sC_offR hof)⟩
      refine N_iinc (a := i) (c := 1) (L1 := [some (.ref 244), some (.int (nI n)), some (.int (nI (i + 1)))]) d_R_arePassed_35 rfl rfl (by decide) rfl ?_
      refine J_goto (tgt := 7) d_R_arePassed_38 (by decide) ?_
      have e := hs1 (by omega)
      exact ih (i + 1) Z (by omega) (by omega) (by rw [e]; exact pR_t hY hpZ) (by rw [e]; exact h31Z)
    · refine J_iconst (v := nI 0) d_R_arePassed_25 rfl ?_
      refine J.eq (st1 := [.int (b2i false)]) ?_ rfl rfl rfl
      refine M_ir d_R_arePassed_26 rfl b2i_nar ?_
      have e : yrs s n = p := by rw [show n = i + (k + 1) by omega]; exact hst (by omega) _
      exact ⟨by rw [decide_eq_false (by omega)], by rw [e]; exact hY, by rw [e]; exact h31⟩
theorem S_R_arePassed {X : Mem} {s : Sg} {n : Nat} (hX : Ok X) (hC : RI X s) (hw : WFs s) (hn : n < 1000) : CM 7 m_R_arePassed [.ref 244, .int (nI n)] X (fun r Y => r = some (.int (b2i (decide (tn (s.1 6) + n ≤ 9999)))) ∧ pR X (yrs s n).1 Y ∧ Y.1 244 31 = nI (yrs s n).2) := by
  refine CM_of (L := [some (.ref 244), some (.int (nI n)), none]) 1 ok_R_arePassed (fun _ => Nat.le_of_ble_eq_true rfl) rfl ?_
  refine J_aload_n (i := 0) d_R_arePassed_0 rfl rfl ?_
  refine J_iconst (v := nI 0) d_R_arePassed_1 rfl ?_
  refine M_put d_R_arePassed_2 p_R_401 rfl rfl rfl rfl ?_
  refine J_iconst (v := nI 0) d_R_arePassed_5 rfl ?_
  refine J_istore_n (i := 2) (L1 := [some (.ref 244), some (.int (nI n)), some (.int (nI 0))]) d_R_arePassed_6 rfl (by decide) rfl ?_
  have w6 := (wf_1 hw.1 (j := 6) (n := 9999) (by decide) (by decide) (by decide)).2
  exact lp_R_arePassed hw hn n 0 _ (by omega) (by omega) ⟨okF hX, RI_on (X := X) (fun k hk => pF_k (by omega)) (fun b hb => rfl) hC, sC_F (by decide)⟩ pF_at

theorem S_R_year {X : Mem} {s : Sg} {v : Int32} (hX : Ok X) (hC : RI X s) (hw : WFs s) : CM 8 m_R_year [.ref 244, .int v] X (fun r Y => r = some (.int (yrF s v)) ∧ pR X (yrO s v) Y) := by
  refine CM_of (L := [some (.ref 244), some (.int v)]) 0 ok_R_year (fun _ => Nat.le_of_ble_eq_true rfl) rfl ?_
  refine J_iload_n (i := 1) d_R_year_0 rfl rfl ?_
  refine J_iconst (v := nI 1) d_R_year_1 rfl ?_
  refine J_bipush (v := nI 60) d_R_year_2 rfl ?_
  refine CS_B (av := [.int v, .int (nI 1), .int (nI 60)]) d_R_year_4 s_R_89 (S_R_isIn) (by decide) rfl rfl (Nat.le_of_ble_eq_true rfl) ?_
  refine B_if_eq (tgt := 40) d_R_year_7 (by decide) (fun c7 => ?_) (fun c7 => ?_)
  · refine J_iconst (v := (-1)) d_R_year_40 rfl ?_
    refine M_ir d_R_year_41 rfl rfl ?_
    have hc : yrC s v = false := by rw [yrC, c7]; rfl
    exact ⟨by rw [yrF, hc]; rfl, by rw [yrO, hc]; exact pR_0 hX hC⟩
  · have hin : isInB v (nI 1) (nI 60) = true := c7
    obtain ⟨v_, hv1, hv2, rfl⟩ := in_n (by decide) (by decide) hin
    have tv := tn_nI (show v_ < 2147483648 by omega)
    have w6 := wf_1 hw.1 (j := 6) (n := 9999) (by decide) (by decide) (by decide)
    refine J_aload_n (i := 0) d_R_year_10 rfl rfl ?_
    refine M_getR (b := 245) d_R_year_11 f_R_7 rfl rfl rfl ?_
    refine J_bipush (v := nI 6) d_R_year_14 rfl ?_
    refine N_iald (x := (nI (tn (s.1 6)))) d_R_year_16 rfl (by omega) (ltL hX (a := 245) (n := 1217) (by decide) rfl (by omega)) ((ri_at hC (by decide)).trans w6.1) ?_
    refine J_iload_n (i := 1) d_R_year_17 rfl rfl ?_
    refine N_iadd d_R_year_18 ?_
    refine J_sipush (v := nI 9999) d_R_year_19 rfl ?_
    refine N_icmp_gt (tgt := 40) d_R_year_22 (by decide) (by omega) (by omega) (fun c22 => ?_) (fun c22 => ?_)
    · refine J_iconst (v := (-1)) d_R_year_40 rfl ?_
      refine M_ir d_R_year_41 rfl rfl ?_
      have hc : yrC s (nI v_) = false := by rw [yrC, hin, tv, decide_eq_false (by omega)]; rfl
      exact ⟨by rw [yrF, hc]; rfl, by rw [yrO, hc]; exact pR_0 hX hC⟩
    · refine J_aload_n (i := 0) d_R_year_25 rfl rfl ?_
      refine J_iload_n (i := 1) d_R_year_26 rfl rfl ?_
      refine M_callV (av := [.int (nI v_)]) d_R_year_27 s_R_425 (M_rcv rfl (by decide) rfl) (S_R_arePassed hX hC hw (by omega)) (by decide) rfl rfl (Nat.le_of_ble_eq_true rfl) (fun r Y hq => ?_)
      obtain ⟨rfl, hp, h31⟩ := hq
      refine B_if_eq (tgt := 40) d_R_year_30 (by decide) (fun c30 => absurd c30 (by rw [decide_eq_true (by omega)]; decide)) (fun c30 => ?_)
      refine J_aload_n (i := 0) d_R_year_33 rfl rfl ?_
      refine M_get (x := (nI ((yrs s v_).2))) d_R_year_34 f_R_401 rfl rfl h31 ?_
      refine J_goto (tgt := 41) d_R_year_37 (by decide) ?_
      refine M_ir d_R_year_41 rfl rfl ?_
      have hc : yrC s (nI v_) = true := by rw [yrC, hin, tv, decide_eq_true (by omega)]; rfl
      exact ⟨by rw [yrF, if_pos hc, tv], by rw [yrO, if_pos hc, tv]; exact hp⟩

