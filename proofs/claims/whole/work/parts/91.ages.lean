def ch1 (s : Sg) (m k wt : Nat) : Sg := setg s (gWrite (gX (nowG s.1) m k) m wt (k + 1))
def ypS (s : Sg) : Sg := setg s (gPass (lwS s).1 (lwS s).2 true (nowG s.1)).1
/-- what an age does, told by x -/
def hapS (s : Sg) (x : Nat) : Sg :=
  if x % 6 < 2 then (if ccB s (nI (x / 6 % 8)) (nI (x % 20)) true = true then ch1 s (x / 6 % 8) (x % 20) 0 else s)
  else if x % 6 = 2 then (if ccB s (nI (x / 6 % 8)) (nI (x % 20)) false = true then ch1 s (x / 6 % 8) (x % 20) 1 else s)
  else if x % 6 = 3 then (if x % 4 = 1 then (if mkB (mOf s.1) (nI (x / 6 % 8)) = true then (if woN (stOf s.1) (rgOf s.1) (x / 6 % 8) = 0 then s else rnS s (x / 6 % 8)) else s) else s)
  else if tn (s.1 6) < 9999 then ypS s else s
def nxtS (s : Sg) : Sg := setg s (gN (nowG s.1))
def agI (s : Sg) : Sg := hapS (nxtS s) (tn (s.1 7))
def agX (s : Sg) (v : Nat) : Sg := setg (hkp s) (upF (nowG s.1) 2 (nI v))
def ags (s : Sg) (n : Nat) : Sg := itr (fun _ => agI) s n
theorem cc_2 {s : Sg} (hw : WFs s) {m k : Nat} {b : Bool} (hm : m < 8) (hk : k < 20) (h : ccB s (nI m) (nI k) b = true) : m < mOf s.1 ∧ (stOf s.1 m).testBit k = !b := by
  obtain ⟨i, j, e1, e2, h1, _, _, h4⟩ := cc_n hw h
  have h8 : mOf s.1 ≤ 8 := (wf_1 hw.1 (j := 0) (n := 8) (by decide) (by decide) (by decide)).2
  have q1 : m = i := by
    have := congrArg tn e1
    rw [tn_nI (by omega), tn_nI (by omega)] at this
    exact this
  have q2 : k = j := by
    have := congrArg tn e2
    rw [tn_nI (by omega), tn_nI (by omega)] at this
    exact this
  rw [q1, q2]
  exact ⟨h1, h4⟩
theorem WF_nx {s : Sg} (hw : WFs s) : WFs (nxtS s) := WF_g hw (WFg_N (WFg_now hw)) (by unfold gN; rw [upF_o (by decide)]; exact Nat.le_refl _)
theorem WF_ch1 {s : Sg} {m k wt : Nat} (hw : WFs s) (hm : m < 8) (hk : k < 20) (hwt : wt < 4) : WFs (ch1 s m k wt) := WF_g hw (WFg_W (WFg_X (WFg_now hw) hm hk) hm hwt (by omega)) (by
  show tn (s.1 0) ≤ tn (gX (nowG s.1) m k 0)
  unfold gX
  rw [upF_o (by omega)]
  exact Nat.le_refl _)
theorem WF_yp {s : Sg} (hw : WFs s) (h : tn (s.1 6) < 9999) : WFs (ypS s) := WF_g hw (gPass_ok (WFg_now hw) h) (by rw [(gPass_0 (WFg_now hw)).1]; exact Nat.le_refl _)
theorem WF_hap {s : Sg} {x : Nat} (hw : WFs s) : WFs (hapS s x) := by
  unfold hapS
  have h1 : x / 6 % 8 < 8 := Nat.mod_lt _ (by decide)
  have h2 : x % 20 < 20 := Nat.mod_lt _ (by decide)
  split
  · split
    · exact WF_ch1 hw h1 h2 (by decide)
    · exact hw
  · split
    · split
      · exact WF_ch1 hw h1 h2 (by decide)
      · exact hw
    · split
      · split
        · split
          · split
            · exact hw
            · exact WF_rn hw h1
          · exact hw
        · exact hw
      · split
        · rename_i h; exact WF_yp hw h
        · exact hw
theorem WF_agX {s : Sg} {v : Nat} (hw : WFs s) (hv : v ≤ 30982) : WFs (agX s v) := WF_g (WF_kp hw) (WFg_up (WFg_now hw) hv (by decide)) (by
  show tn (kpR s.1 0) ≤ tn (upF (nowG s.1) 2 (nI v) 0)
  rw [upF_o (by decide), kp_o s.1 (by decide) (by decide)]
  exact Nat.le_refl _)
theorem WF_ags {s : Sg} (hw : WFs s) : ∀ k, WFs (ags s k) := itr_inv (f := fun _ => agI) (fun _ (p : Sg) => WFs p) hw (fun k p hp => WF_hap (WF_nx hp))
theorem S_H_ageByHand {X : Mem} {s : Sg} {x : Nat} (hX : Ok X) (hC : CI X s) (hw : WFs s) (hx : x < 30983) (hx6 : x % 6 < 4) : CM 3 m_H_ageByHand [.ref 18, .int (nI x)] X (fun q Y => q = none ∧ pC X (hapS s x) Y) := by
  have hS := v_CSt hC hw
  have h1 : x / 6 % 8 < 8 := Nat.mod_lt _ (by decide)
  have h2 : x % 20 < 20 := Nat.mod_lt _ (by decide)
  refine CM_of (L := [some (.ref 18), some (.int (nI x)), none, none, none]) 3 ok_H_ageByHand (fun _ => Nat.le_of_ble_eq_true rfl) rfl ?_
  refine J_iload_n (i := 1) d_H_ageByHand_0 rfl rfl ?_
  refine J_bipush (v := nI 6) d_H_ageByHand_1 rfl ?_
  refine N_idiv d_H_ageByHand_3 (by omega) (by omega) (by omega) ?_
  refine J_bipush (v := nI 8) d_H_ageByHand_4 rfl ?_
  refine N_irem d_H_ageByHand_6 (by omega) (by omega) (by omega) ?_
  refine J_istore_n (i := 2) (L1 := [some (.ref 18), some (.int (nI x)), some (.int (nI ((x / 6) % 8))), none, none]) d_H_ageByHand_7 rfl (by decide) rfl ?_
  refine J_iload_n (i := 1) d_H_ageByHand_8 rfl rfl ?_
  refine J_bipush (v := nI 20) d_H_ageByHand_9 rfl ?_
  refine N_irem d_H_ageByHand_11 (by omega) (by omega) (by omega) ?_
  refine J_istore_n (i := 3) (L1 := [some (.ref 18), some (.int (nI x)), some (.int (nI ((x / 6) % 8))), some (.int (nI (x % 20))), none]) d_H_ageByHand_12 rfl (by decide) rfl ?_
  refine J_iload_n (i := 1) d_H_ageByHand_13 rfl rfl ?_
  refine J_bipush (v := nI 6) d_H_ageByHand_14 rfl ?_
  refine N_irem d_H_ageByHand_16 (by omega) (by omega) (by omega) ?_
  refine J_istore (L1 := [some (.ref 18), some (.int (nI x)), some (.int (nI ((x / 6) % 8))), some (.int (nI (x % 20))), some (.int (nI (x % 6)))]) d_H_ageByHand_17 (by decide) rfl ?_
  refine J_iload d_H_ageByHand_19 rfl ?_
  refine J_iconst (v := nI 2) d_H_ageByHand_21 rfl ?_
  refine N_icmp_ge (tgt := 51) d_H_ageByHand_22 (by decide) (by omega) (by omega) (fun c22 => ?_) (fun c22 => ?_)
  · refine J_iload d_H_ageByHand_51 rfl ?_
    refine J_iconst (v := nI 2) d_H_ageByHand_53 rfl ?_
    refine N_icmp_ne (tgt := 83) d_H_ageByHand_54 (by decide) (by omega) (by omega) (fun c54 => ?_) (fun c54 => ?_)
    · refine J_iload d_H_ageByHand_83 rfl ?_
      refine J_iconst (v := nI 3) d_H_ageByHand_85 rfl ?_
      refine N_icmp_ne (tgt := 121) d_H_ageByHand_86 (by decide) (by omega) (by omega) (fun c86 => absurd c86 (by omega)) (fun c86 => ?_)
      refine J_iload_n (i := 1) d_H_ageByHand_89 rfl rfl ?_
      refine J_iconst (v := nI 4) d_H_ageByHand_90 rfl ?_
      refine N_irem d_H_ageByHand_91 (by omega) (by omega) (by omega) ?_
      refine J_iconst (v := nI 1) d_H_ageByHand_92 rfl ?_
      refine N_icmp_ne (tgt := 121) d_H_ageByHand_93 (by decide) (by omega) (by omega) (fun c93 => ?_) (fun c93 => ?_)
      · refine M_vr d_H_ageByHand_121 rfl ?_
        refine ⟨rfl, ?_⟩
        unfold hapS
        rw [if_neg (show ¬ x % 6 < 2 by omega), if_neg (show ¬ x % 6 = 2 by omega), if_pos (show x % 6 = 3 by omega), if_neg (show ¬ x % 4 = 1 by omega)]
        exact pC_0 hX hC
      · refine J_aload_n (i := 0) d_H_ageByHand_96 rfl rfl ?_
        refine M_getR (b := 19) d_H_ageByHand_97 f_H_12 rfl rfl rfl ?_
        refine J_iload_n (i := 2) d_H_ageByHand_100 rfl rfl ?_
        refine CV_B (av := [.int (nI (x / 6 % 8))]) d_H_ageByHand_101 s_H_93 (M_rcv rfl (by decide) rfl) (S_N_isMark hX hS) (by decide) rfl rfl (Nat.le_of_ble_eq_true rfl) ?_
        refine B_if_eq (tgt := 121) d_H_ageByHand_104 (by decide) (fun c104 => ?_) (fun c104 => ?_)
        · refine M_vr d_H_ageByHand_121 rfl ?_
          refine ⟨rfl, ?_⟩
          unfold hapS
          rw [if_neg (show ¬ x % 6 < 2 by omega), if_neg (show ¬ x % 6 = 2 by omega), if_pos (show x % 6 = 3 by omega), if_pos (show x % 4 = 1 by omega), if_neg (by rw [c104]; decide)]
          exact pC_0 hX hC
        · refine J_aload_n (i := 0) d_H_ageByHand_107 rfl rfl ?_
          refine J_iload_n (i := 2) d_H_ageByHand_108 rfl rfl ?_
          have hm_ : x / 6 % 8 < mOf s.1 := by have hw0 : mOf s.1 ≤ 8 := (wf_1 hw.1 (j := 0) (n := 8) (by decide) (by decide) (by decide)).2; rcases mk_n hw0 c104 with ⟨i, hi, e⟩; have := congrArg tn e; rw [tn_nI (by omega), tn_nI (by omega)] at this; omega
          have hwo : woN (stOf s.1) (rgOf s.1) (x / 6 % 8) ≤ 32 := bc_le _
          refine CV_N (av := [.int (nI (x / 6 % 8))]) d_H_ageByHand_109 s_H_79 (M_rcv rfl (by decide) rfl) (S_H_countOther hX hS hm_) (by decide) rfl rfl (Nat.le_of_ble_eq_true rfl) ?_
          refine N_if_le (tgt := 121) d_H_ageByHand_112 (by decide) (by omega) (fun c112 => ?_) (fun c112 => ?_)
          · refine M_vr d_H_ageByHand_121 rfl ?_
            refine ⟨rfl, ?_⟩
            unfold hapS
            rw [if_neg (show ¬ x % 6 < 2 by omega), if_neg (show ¬ x % 6 = 2 by omega), if_pos (show x % 6 = 3 by omega), if_pos (show x % 4 = 1 by omega), if_pos c104, if_pos (by omega)]
            exact pC_0 hX hC
          · refine J_aload_n (i := 0) d_H_ageByHand_115 rfl rfl ?_
            refine J_iload_n (i := 2) d_H_ageByHand_116 rfl rfl ?_
            refine M_callV (av := [.int (nI (x / 6 % 8))]) d_H_ageByHand_117 s_H_97 (M_rcv rfl (by decide) rfl) (S_H_restore hX hC hw hm_) (by decide) rfl rfl (Nat.le_of_ble_eq_true rfl) (fun q Z hq => ?_)
            obtain ⟨rfl, hp⟩ := hq
            refine J_pop d_H_ageByHand_120 rfl ?_
            refine M_vr d_H_ageByHand_121 rfl ?_
            refine ⟨rfl, ?_⟩
            unfold hapS
            rw [if_neg (show ¬ x % 6 < 2 by omega), if_neg (show ¬ x % 6 = 2 by omega), if_pos (show x % 6 = 3 by omega), if_pos (show x % 4 = 1 by omega), if_pos c104, if_neg (by omega)]
            exact hp
    · refine J_aload_n (i := 0) d_H_ageByHand_57 rfl rfl ?_
      refine M_getR (b := 19) d_H_ageByHand_58 f_H_12 rfl rfl rfl ?_
      refine J_iload_n (i := 2) d_H_ageByHand_61 rfl rfl ?_
      refine J_iload_n (i := 3) d_H_ageByHand_62 rfl rfl ?_
      refine J_iconst (v := nI 0) d_H_ageByHand_63 rfl ?_
      refine CV_B (av := [.int (nI (x / 6 % 8)), .int (nI (x % 20)), .int (b2i false)]) d_H_ageByHand_64 s_H_86 (M_rcv rfl (by decide) rfl) (S_N_canChange hX hC hw) (by decide) rfl rfl (Nat.le_of_ble_eq_true rfl) ?_
      refine B_if_eq (tgt := 83) d_H_ageByHand_67 (by decide) (fun c67 => ?_) (fun c67 => ?_)
      · refine J_iload d_H_ageByHand_83 rfl ?_
        refine J_iconst (v := nI 3) d_H_ageByHand_85 rfl ?_
        refine N_icmp_ne (tgt := 121) d_H_ageByHand_86 (by decide) (by omega) (by omega) (fun c86 => ?_) (fun c86 => absurd c86 (by omega))
        refine M_vr d_H_ageByHand_121 rfl ?_
        refine ⟨rfl, ?_⟩
        unfold hapS
        rw [if_neg (show ¬ x % 6 < 2 by omega), if_pos (show x % 6 = 2 by omega), if_neg (by rw [c67]; decide)]
        exact pC_0 hX hC
      · refine J_aload_n (i := 0) d_H_ageByHand_70 rfl rfl ?_
        refine M_getR (b := 19) d_H_ageByHand_71 f_H_12 rfl rfl rfl ?_
        refine J_iload_n (i := 2) d_H_ageByHand_74 rfl rfl ?_
        refine J_iload_n (i := 3) d_H_ageByHand_75 rfl rfl ?_
        refine J_iconst (v := nI 1) d_H_ageByHand_76 rfl ?_
        refine M_callV (av := [.int (nI (x / 6 % 8)), .int (nI (x % 20)), .int (nI 1)]) d_H_ageByHand_77 s_H_90 (M_rcv rfl (by decide) rfl) (S_N_change hX hC.1.1 (WFg_now hw) h1 h2 (by decide)) (by decide) rfl rfl (Nat.le_of_ble_eq_true rfl) (fun q Z hq => ?_)
        obtain ⟨rfl, hZ, hNZ, hof⟩ := hq
        refine J_goto (tgt := 121) d_H_ageByHand_80 (by decide) ?_
        refine M_vr d_H_ageByHand_121 rfl ?_
        refine ⟨rfl, ?_⟩
        unfold hapS
        rw [if_neg (show ¬ x % 6 < 2 by omega), if_pos (show x % 6 = 2 by omega), if_pos c67]
        exact pC_now (pC_0 hX hC) hw hZ hNZ (offP_N hof) rfl
  · refine J_aload_n (i := 0) d_H_ageByHand_25 rfl rfl ?_
    refine M_getR (b := 19) d_H_ageByHand_26 f_H_12 rfl rfl rfl ?_
    refine J_iload_n (i := 2) d_H_ageByHand_29 rfl rfl ?_
    refine J_iload_n (i := 3) d_H_ageByHand_30 rfl rfl ?_
    refine J_iconst (v := nI 1) d_H_ageByHand_31 rfl ?_
    refine CV_B (av := [.int (nI (x / 6 % 8)), .int (nI (x % 20)), .int (b2i true)]) d_H_ageByHand_32 s_H_86 (M_rcv rfl (by decide) rfl) (S_N_canChange hX hC hw) (by decide) rfl rfl (Nat.le_of_ble_eq_true rfl) ?_
    refine B_if_eq (tgt := 51) d_H_ageByHand_35 (by decide) (fun c35 => ?_) (fun c35 => ?_)
    · refine J_iload d_H_ageByHand_51 rfl ?_
      refine J_iconst (v := nI 2) d_H_ageByHand_53 rfl ?_
      refine N_icmp_ne (tgt := 83) d_H_ageByHand_54 (by decide) (by omega) (by omega) (fun c54 => ?_) (fun c54 => absurd c54 (by omega))
      refine J_iload d_H_ageByHand_83 rfl ?_
      refine J_iconst (v := nI 3) d_H_ageByHand_85 rfl ?_
      refine N_icmp_ne (tgt := 121) d_H_ageByHand_86 (by decide) (by omega) (by omega) (fun c86 => ?_) (fun c86 => absurd c86 (by omega))
      refine M_vr d_H_ageByHand_121 rfl ?_
      refine ⟨rfl, ?_⟩
      unfold hapS
      rw [if_pos (show x % 6 < 2 by omega), if_neg (by rw [c35]; decide)]
      exact pC_0 hX hC
    · refine J_aload_n (i := 0) d_H_ageByHand_38 rfl rfl ?_
      refine M_getR (b := 19) d_H_ageByHand_39 f_H_12 rfl rfl rfl ?_
      refine J_iload_n (i := 2) d_H_ageByHand_42 rfl rfl ?_
      refine J_iload_n (i := 3) d_H_ageByHand_43 rfl rfl ?_
      refine J_iconst (v := nI 0) d_H_ageByHand_44 rfl ?_
      refine M_callV (av := [.int (nI (x / 6 % 8)), .int (nI (x % 20)), .int (nI 0)]) d_H_ageByHand_45 s_H_90 (M_rcv rfl (by decide) rfl) (S_N_change hX hC.1.1 (WFg_now hw) h1 h2 (by decide)) (by decide) rfl rfl (Nat.le_of_ble_eq_true rfl) (fun q Z hq => ?_)
      obtain ⟨rfl, hZ, hNZ, hof⟩ := hq
      refine J_goto (tgt := 121) d_H_ageByHand_48 (by decide) ?_
      refine M_vr d_H_ageByHand_121 rfl ?_
      refine ⟨rfl, ?_⟩
      unfold hapS
      rw [if_pos (show x % 6 < 2 by omega), if_pos c35]
      exact pC_now (pC_0 hX hC) hw hZ hNZ (offP_N hof) rfl

theorem nI_int {a : Nat} (h : a < 2147483648) : (nI a).toInt = (a : Int) := by rw [← jI_n]; exact Int32.toInt_ofInt_of_le (by omega) (by omega)
theorem S_R_happens {X : Mem} {s : Sg} {x W0 : Nat} (hX : Ok X) (hC : RI X s) (hw : WFs s) (hx : x < 30983) (h31 : X.1 244 31 = nI W0) : CM 7 m_R_happens [.ref 244, .int (nI x)] X (fun q Y => q = none ∧ pR X (hapS s x) Y ∧ ∃ W1, Y.1 244 31 = nI W1) := by
  have hS := v_RSt hC hw
  have h1 : x / 6 % 8 < 8 := Nat.mod_lt _ (by decide)
  have h2 : x % 20 < 20 := Nat.mod_lt _ (by decide)
  have w6 := (wf_1 hw.1 (j := 6) (n := 9999) (by decide) (by decide) (by decide)).2
  refine CM_of (L := [some (.ref 244), some (.int (nI x)), none, none]) 2 ok_R_happens (fun _ => Nat.le_of_ble_eq_true rfl) rfl ?_
  refine J_iload_n (i := 1) d_R_happens_0 rfl rfl ?_
  refine J_bipush (v := nI 6) d_R_happens_1 rfl ?_
  refine N_idiv d_R_happens_3 (by omega) (by omega) (by omega) ?_
  refine J_bipush (v := nI 8) d_R_happens_4 rfl ?_
  refine N_irem d_R_happens_6 (by omega) (by omega) (by omega) ?_
  refine J_istore_n (i := 2) (L1 := [some (.ref 244), some (.int (nI x)), some (.int (nI ((x / 6) % 8))), none]) d_R_happens_7 rfl (by decide) rfl ?_
  refine J_iload_n (i := 1) d_R_happens_8 rfl rfl ?_
  refine J_bipush (v := nI 20) d_R_happens_9 rfl ?_
  refine N_irem d_R_happens_11 (by omega) (by omega) (by omega) ?_
  refine J_istore_n (i := 3) (L1 := [some (.ref 244), some (.int (nI x)), some (.int (nI ((x / 6) % 8))), some (.int (nI (x % 20)))]) d_R_happens_12 rfl (by decide) rfl ?_
  refine J_iload_n (i := 1) d_R_happens_13 rfl rfl ?_
  refine J_bipush (v := nI 6) d_R_happens_14 rfl ?_
  refine N_irem d_R_happens_16 (by omega) (by omega) (by omega) ?_
  have hx6 : x % 6 = 0 ∨ x % 6 = 1 ∨ x % 6 = 2 ∨ x % 6 = 3 ∨ 4 ≤ x % 6 := by omega
  rcases hx6 with hx6 | hx6 | hx6 | hx6 | hx6
  · rw [hx6]
    refine J_tableIn (off := 31) (tgt := 48) d_R_happens_17 (by decide) (by decide) (by decide) (by decide) ?_
    refine J_aload_n (i := 0) d_R_happens_48 rfl rfl ?_
    refine J_iload_n (i := 2) d_R_happens_49 rfl rfl ?_
    refine J_iload_n (i := 3) d_R_happens_50 rfl rfl ?_
    refine CV_B (av := [.int (nI (x / 6 % 8)), .int (nI (x % 20))]) d_R_happens_51 s_R_404 (M_rcv rfl (by decide) rfl) (S_R_canAdd hX hC hw) (by decide) rfl rfl (Nat.le_of_ble_eq_true rfl) ?_
    refine B_if_eq (tgt := 133) d_R_happens_54 (by decide) (fun c54 => ?_) (fun c54 => ?_)
    · refine M_vr d_R_happens_133 rfl ?_
      refine ⟨rfl, ?_, ⟨_, h31⟩⟩
      unfold hapS
      rw [if_pos (show x % 6 < 2 by omega), if_neg (by rw [c54]; decide)]
      exact pR_0 hX hC
    · refine J_aload_n (i := 0) d_R_happens_57 rfl rfl ?_
      refine J_iload_n (i := 2) d_R_happens_58 rfl rfl ?_
      refine J_iload_n (i := 3) d_R_happens_59 rfl rfl ?_
      obtain ⟨hm_, hb_⟩ := cc_2 hw h1 h2 c54
      refine CV_V (av := [.int (nI (x / 6 % 8)), .int (nI (x % 20))]) d_R_happens_60 s_R_410 (M_rcv rfl (by decide) rfl) (S_R_addNow (wr := true) hX (RN_self hC) (WFg_now hw) h1 h2 hC.2.2.2.1.2.2.2 (by rw [now_st s h1]; exact hb_)) (by decide) rfl rfl (Nat.le_of_ble_eq_true rfl) ?_
      refine J_goto (tgt := 133) d_R_happens_63 (by decide) ?_
      refine M_vr d_R_happens_133 rfl ?_
      refine ⟨rfl, ?_, ⟨_, h31⟩⟩
      unfold hapS
      rw [if_pos (show x % 6 < 2 by omega), if_pos c54]
      exact ⟨okRow hX, RI_row hC (row_o _ _ (by decide) (by decide) (by decide)), sC_A (by decide)⟩
  · rw [hx6]
    refine J_tableIn (off := 31) (tgt := 48) d_R_happens_17 (by decide) (by decide) (by decide) (by decide) ?_
    refine J_aload_n (i := 0) d_R_happens_48 rfl rfl ?_
    refine J_iload_n (i := 2) d_R_happens_49 rfl rfl ?_
    refine J_iload_n (i := 3) d_R_happens_50 rfl rfl ?_
    refine CV_B (av := [.int (nI (x / 6 % 8)), .int (nI (x % 20))]) d_R_happens_51 s_R_404 (M_rcv rfl (by decide) rfl) (S_R_canAdd hX hC hw) (by decide) rfl rfl (Nat.le_of_ble_eq_true rfl) ?_
    refine B_if_eq (tgt := 133) d_R_happens_54 (by decide) (fun c54 => ?_) (fun c54 => ?_)
    · refine M_vr d_R_happens_133 rfl ?_
      refine ⟨rfl, ?_, ⟨_, h31⟩⟩
      unfold hapS
      rw [if_pos (show x % 6 < 2 by omega), if_neg (by rw [c54]; decide)]
      exact pR_0 hX hC
    · refine J_aload_n (i := 0) d_R_happens_57 rfl rfl ?_
      refine J_iload_n (i := 2) d_R_happens_58 rfl rfl ?_
      refine J_iload_n (i := 3) d_R_happens_59 rfl rfl ?_
      obtain ⟨hm_, hb_⟩ := cc_2 hw h1 h2 c54
      refine CV_V (av := [.int (nI (x / 6 % 8)), .int (nI (x % 20))]) d_R_happens_60 s_R_410 (M_rcv rfl (by decide) rfl) (S_R_addNow (wr := true) hX (RN_self hC) (WFg_now hw) h1 h2 hC.2.2.2.1.2.2.2 (by rw [now_st s h1]; exact hb_)) (by decide) rfl rfl (Nat.le_of_ble_eq_true rfl) ?_
      refine J_goto (tgt := 133) d_R_happens_63 (by decide) ?_
      refine M_vr d_R_happens_133 rfl ?_
      refine ⟨rfl, ?_, ⟨_, h31⟩⟩
      unfold hapS
      rw [if_pos (show x % 6 < 2 by omega), if_pos c54]
      exact ⟨okRow hX, RI_row hC (row_o _ _ (by decide) (by decide) (by decide)), sC_A (by decide)⟩
  · rw [hx6]
    refine J_tableIn (off := 49) (tgt := 66) d_R_happens_17 (by decide) (by decide) (by decide) (by decide) ?_
    refine J_aload_n (i := 0) d_R_happens_66 rfl rfl ?_
    refine J_iload_n (i := 2) d_R_happens_67 rfl rfl ?_
    refine J_iload_n (i := 3) d_R_happens_68 rfl rfl ?_
    refine CV_B (av := [.int (nI (x / 6 % 8)), .int (nI (x % 20))]) d_R_happens_69 s_R_413 (M_rcv rfl (by decide) rfl) (S_R_canRub hX hC hw) (by decide) rfl rfl (Nat.le_of_ble_eq_true rfl) ?_
    refine B_if_eq (tgt := 133) d_R_happens_72 (by decide) (fun c72 => ?_) (fun c72 => ?_)
    · refine M_vr d_R_happens_133 rfl ?_
      refine ⟨rfl, ?_, ⟨_, h31⟩⟩
      unfold hapS
      rw [if_neg (show ¬ x % 6 < 2 by omega), if_pos (show x % 6 = 2 by omega), if_neg (by rw [c72]; decide)]
      exact pR_0 hX hC
    · refine J_aload_n (i := 0) d_R_happens_75 rfl rfl ?_
      refine J_iload_n (i := 2) d_R_happens_76 rfl rfl ?_
      refine J_iload_n (i := 3) d_R_happens_77 rfl rfl ?_
      refine J_iconst (v := nI 1) d_R_happens_78 rfl ?_
      obtain ⟨hm_, hb_⟩ := cc_2 hw h1 h2 c72
      refine CV_V (av := [.int (nI (x / 6 % 8)), .int (nI (x % 20)), .int (nI 1)]) d_R_happens_79 s_R_398 (M_rcv rfl (by decide) rfl) (S_R_rubNow (wr := true) hX (RN_self hC) (WFg_now hw) h1 h2 hC.2.2.2.1.2.2.2 (by decide) (by rw [now_st s h1]; exact hb_)) (by decide) rfl rfl (Nat.le_of_ble_eq_true rfl) ?_
      refine J_goto (tgt := 133) d_R_happens_82 (by decide) ?_
      refine M_vr d_R_happens_133 rfl ?_
      refine ⟨rfl, ?_, ⟨_, h31⟩⟩
      unfold hapS
      rw [if_neg (show ¬ x % 6 < 2 by omega), if_pos (show x % 6 = 2 by omega), if_pos c72]
      exact ⟨okRow hX, RI_row hC (row_o _ _ (by decide) (by decide) (by decide)), sC_A (by decide)⟩
  · rw [hx6]
    refine J_tableIn (off := 68) (tgt := 85) d_R_happens_17 (by decide) (by decide) (by decide) (by decide) ?_
    refine J_iload_n (i := 1) d_R_happens_85 rfl rfl ?_
    refine J_iconst (v := nI 4) d_R_happens_86 rfl ?_
    refine N_irem d_R_happens_87 (by omega) (by omega) (by omega) ?_
    refine J_iconst (v := nI 1) d_R_happens_88 rfl ?_
    refine N_icmp_ne (tgt := 133) d_R_happens_89 (by decide) (by omega) (by omega) (fun c89 => ?_) (fun c89 => ?_)
    · refine M_vr d_R_happens_133 rfl ?_
      refine ⟨rfl, ?_, ⟨_, h31⟩⟩
      unfold hapS
      rw [if_neg (show ¬ x % 6 < 2 by omega), if_neg (show ¬ x % 6 = 2 by omega), if_pos (show x % 6 = 3 by omega), if_neg (show ¬ x % 4 = 1 by omega)]
      exact pR_0 hX hC
    · refine J_aload_n (i := 0) d_R_happens_92 rfl rfl ?_
      refine J_iload_n (i := 2) d_R_happens_93 rfl rfl ?_
      refine CV_B (av := [.int (nI (x / 6 % 8))]) d_R_happens_94 s_R_379 (M_rcv rfl (by decide) rfl) (S_R_isMark hX hS) (by decide) rfl rfl (Nat.le_of_ble_eq_true rfl) ?_
      refine B_if_eq (tgt := 133) d_R_happens_97 (by decide) (fun c97 => ?_) (fun c97 => ?_)
      · refine M_vr d_R_happens_133 rfl ?_
        refine ⟨rfl, ?_, ⟨_, h31⟩⟩
        unfold hapS
        rw [if_neg (show ¬ x % 6 < 2 by omega), if_neg (show ¬ x % 6 = 2 by omega), if_pos (show x % 6 = 3 by omega), if_pos (show x % 4 = 1 by omega), if_neg (by rw [c97]; decide)]
        exact pR_0 hX hC
      · refine J_aload_n (i := 0) d_R_happens_100 rfl rfl ?_
        refine J_iload_n (i := 2) d_R_happens_101 rfl rfl ?_
        have hm_ : x / 6 % 8 < mOf s.1 := by have hw0 : mOf s.1 ≤ 8 := (wf_1 hw.1 (j := 0) (n := 8) (by decide) (by decide) (by decide)).2; rcases mk_n hw0 c97 with ⟨i, hi, e⟩; have := congrArg tn e; rw [tn_nI (by omega), tn_nI (by omega)] at this; omega
        have hwo : woN (stOf s.1) (rgOf s.1) (x / 6 % 8) ≤ 32 := bc_le _
        refine CV_N (av := [.int (nI (x / 6 % 8))]) d_R_happens_102 s_R_416 (M_rcv rfl (by decide) rfl) (S_R_otherThan hX hS hm_) (by decide) rfl rfl (Nat.le_of_ble_eq_true rfl) ?_
        refine N_if_le (tgt := 133) d_R_happens_105 (by decide) (by omega) (fun c105 => ?_) (fun c105 => ?_)
        · refine M_vr d_R_happens_133 rfl ?_
          refine ⟨rfl, ?_, ⟨_, h31⟩⟩
          unfold hapS
          rw [if_neg (show ¬ x % 6 < 2 by omega), if_neg (show ¬ x % 6 = 2 by omega), if_pos (show x % 6 = 3 by omega), if_pos (show x % 4 = 1 by omega), if_pos c97, if_pos (by omega)]
          exact pR_0 hX hC
        · refine J_aload_n (i := 0) d_R_happens_108 rfl rfl ?_
          refine J_iload_n (i := 2) d_R_happens_109 rfl rfl ?_
          have hrg := hw.1.1 (18 + x / 6 % 8) (by omega) (by omega)
          rw [(bd_10 (x / 6 % 8) h1).2] at hrg
          refine CV_V (av := [.int (nI (x / 6 % 8))]) d_R_happens_110 s_R_419 (M_rcv rfl (by decide) rfl) (S_R_renewNow (wr := true) hX (RN_self hC) (WFg_now hw) h1 hrg hC.2.2.2.1.2.2.2) (by decide) rfl rfl (Nat.le_of_ble_eq_true rfl) ?_
          refine J_goto (tgt := 133) d_R_happens_113 (by decide) ?_
          refine M_vr d_R_happens_133 rfl ?_
          refine ⟨rfl, ?_, ⟨_, h31⟩⟩
          unfold hapS
          rw [if_neg (show ¬ x % 6 < 2 by omega), if_neg (show ¬ x % 6 = 2 by omega), if_pos (show x % 6 = 3 by omega), if_pos (show x % 4 = 1 by omega), if_pos c97, if_neg (by omega)]
          exact ⟨okRow hX, RI_row hC (row_o _ _ (by decide) (by decide) (by decide)), sC_A (by decide)⟩
  · refine J_tableOut (tgt := 116) d_R_happens_17 (Or.inr (by rw [nI_int (by omega)]; omega)) (by decide) ?_
    refine J_aload_n (i := 0) d_R_happens_116 rfl rfl ?_
    refine M_getR (b := 245) d_R_happens_117 f_R_7 rfl rfl rfl ?_
    refine J_bipush (v := nI 6) d_R_happens_120 rfl ?_
    refine N_iald (x := (nI (tn (s.1 6)))) d_R_happens_122 rfl (by omega) (ltL hX (a := 245) (n := 1217) (by decide) rfl (by omega)) ((ri_at hC (by decide)).trans (wf_1 hw.1 (j := 6) (n := 9999) (by decide) (by decide) (by decide)).1) ?_
    refine J_sipush (v := nI 9999) d_R_happens_123 rfl ?_
    refine N_icmp_ge (tgt := 133) d_R_happens_126 (by decide) (by omega) (by omega) (fun c126 => ?_) (fun c126 => ?_)
    · refine M_vr d_R_happens_133 rfl ?_
      refine ⟨rfl, ?_, ⟨_, h31⟩⟩
      unfold hapS
      rw [if_neg (show ¬ x % 6 < 2 by omega), if_neg (show ¬ x % 6 = 2 by omega), if_neg (show ¬ x % 6 = 3 by omega), if_neg (show ¬ tn (s.1 6) < 9999 by omega)]
      exact pR_0 hX hC
    · refine J_aload_n (i := 0) d_R_happens_129 rfl rfl ?_
      refine M_callV (av := []) d_R_happens_130 s_R_422 (M_rcv rfl (by decide) rfl) (S_R_pass (wr := true) (W0 := W0) (WFg_now hw) hC.2.2.2.1.2.2.2 (TxR_s hC hw) hX (RN_self hC) h31) (by decide) rfl rfl (Nat.le_of_ble_eq_true rfl) (fun q Z hq => ?_)
      obtain ⟨rfl, hZ, hNZ, h31Z, hof⟩ := hq
      refine M_vr d_R_happens_133 rfl ?_
      refine ⟨rfl, ?_, ⟨_, h31Z⟩⟩
      unfold hapS
      rw [if_neg (show ¬ x % 6 < 2 by omega), if_neg (show ¬ x % 6 = 2 by omega), if_neg (show ¬ x % 6 = 3 by omega), if_pos (show tn (s.1 6) < 9999 by omega)]
      exact ⟨hZ, RI_now hC hNZ hof, sC_offR hof⟩

