def BgP (X0 : Mem) (t c0 : Nat) (B : Nat → Nat) (j : Nat) (z : Sum Nat MC) (r : Option Value) (Y : Mem) : Prop := match z with
  | .inl f => r = some (.int (nI f)) ∧ FL X0 t c0 B j Y
  | .inr c2 => r = some (.int (nI 0)) ∧ MM X0 t c0 B c2 Y
theorem BgP_v {X0 Y : Mem} {t c0 j : Nat} {B : Nat → Nat} {z : Sum Nat MC} {r : Option Value} (h : BgP X0 t c0 B j z r Y) : ∃ v : Int32, r = some (.int v) := by
  cases z with
  | inl f => exact ⟨_, h.1⟩
  | inr c => exact ⟨_, h.1⟩
theorem eN_le {B : Nat → Nat} {m q : Nat} (h : okB B m) (hq : q ≤ m) : eN B q ≤ m := by
  rcases Nat.lt_or_ge q m with c | c
  · exact (eN_lt h c).2
  · rw [eN_end h c]; exact hq
theorem tk_300 {B : Nat → Nat} {m j : Nat} (h : okB B m) (hk : kT B (stT B j) ≠ 46) : j < 300 := by
  rcases Nat.lt_or_ge j 300 with c | c
  · exact c
  · have h1 := h.1
    exact absurd (kT_end h (Nat.le_of_eq (stT_end h (show m ≤ j by omega)).symm)) hk
theorem tk_46 {B : Nat → Nat} {m : Nat} (h : okB B m) : ∀ j, 300 ≤ j → (tkT B).1 j = 46 := fun j hj => by
  have h1 := h.1
  exact kT_end h (Nat.le_of_eq (stT_end h (show m ≤ j by omega)).symm)
theorem nv_k {B : Nat → Nat} {q : Nat} : ∀ k, (∀ i, i < k → isDg (B (q + i)) = true) → (nRs B q k ≤ 9999 ∧ dv B q k = nRs B q k) ∨ (9999 < nRs B q k ∧ dv B q k = 10000)
  | 0, _ => Or.inl ⟨Nat.zero_le _, rfl⟩
  | k + 1, h => by
    have ih := nv_k k (fun i hi => h i (by omega))
    have hd := h k (by omega)
    simp only [isDg, Bool.and_eq_true, decide_eq_true_eq] at hd
    have e1 : nRs B q (k + 1) = if 99999 < nRs B q k then nRs B q k else 10 * nRs B q k + B (q + k) - 48 := rfl
    have e2 : dv B q (k + 1) = min 10000 (dv B q k * 10 + B (q + k) - 48) := rfl
    rw [e1, e2]
    split <;> omega
theorem nv_le {B : Nat → Nat} {m q : Nat} (hB : okB B m) : (nR B q ≤ 9999 ∧ vC B q = nR B q) ∨ (9999 < nR B q ∧ vC B q = 10000) :=
  nv_k (eD B q - q) (fun i hi => sc_in (okB_D hB) hB.1 q (q + i) (by omega) (show q + i < eD B q by omega))
theorem nR_le {B : Nat → Nat} {m q : Nat} (hB : okB B m) : nR B q ≤ 999999 := nRs_le (eD B q - q) (fun i hi => sc_in (okB_D hB) hB.1 q (q + i) (by omega) (show q + i < eD B q by omega))
theorem bgA {T : TS} {w : Bool} {j n : Nat} {P : List Nat} {K : Kd} (h : T.1 j = 45) (h2 : 9999 < T.2 j) : begM T w j P n K = .inl 2 := if_pos ⟨h, h2⟩
theorem bgB {T : TS} {w : Bool} {j n v : Nat} {P : List Nat} {K : Kd} (h : T.1 j = 45) (hv : T.2 j = v) (h2 : v ≤ 9999) : begM T w j P n K = .inr (fin7 (j + 1) P n ((0, v) :: K)) := by
  unfold begM
  rw [if_neg (fun z => by omega), if_neg (by rw [h]; exact fun z => absurd z.1 (by decide)), if_pos h, hv]
theorem nmB_45 {k : Nat} (h : nameB k = true) : k ≠ 45 ∧ nmI k < 7 ∧ k ≠ 46 ∧ (nmI k = 5 ↔ k = 30) ∧ (nmI k = 6 ↔ k = 31) := by
  simp only [nameB, Bool.or_eq_true, Bool.and_eq_true, decide_eq_true_eq] at h
  unfold nmI
  refine ⟨by omega, ?_, by omega, ?_, ?_⟩ <;> split <;> omega
theorem bgC {T : TS} {w : Bool} {j n : Nat} {P : List Nat} {K : Kd} (h : nameB (T.1 j) = true) (h2 : (T.1 j = 30 ∧ w = false) ∨ (T.1 j = 31 ∧ w = true)) : begM T w j P n K = .inl 5 := by
  have := (nmB_45 h).1
  unfold begM
  rw [if_neg (fun z => this z.1), if_pos ⟨h, h2⟩]
theorem bgD {T : TS} {w : Bool} {j n : Nat} {P : List Nat} {K : Kd} (h : nameB (T.1 j) = true) (h2 : ¬ ((T.1 j = 30 ∧ w = false) ∨ (T.1 j = 31 ∧ w = true))) : begM T w j P n K = .inr (fin7 (j + 1) P n ((1, nmI (T.1 j)) :: K)) := by
  have := (nmB_45 h).1
  unfold begM
  rw [if_neg (fun z => this z.1), if_neg (fun z => h2 z.2), if_neg this, if_pos h]
theorem bgO {T : TS} {w : Bool} {j n k : Nat} {P : List Nat} {K : Kd} (h : T.1 j = k) (hk : opnB k = true) : begM T w j P n K = opd (mkO k) j P n K := by
  rw [← h]
  exact beg_opn (by rw [h]; exact hk)
theorem bgZ {T : TS} {w : Bool} {j n : Nat} {P : List Nat} {K : Kd} (h : T.1 j ≠ 45) (hn : nameB (T.1 j) = false) (h2 : T.1 j ≠ 40 ∧ T.1 j ≠ 37 ∧ T.1 j ≠ 17 ∧ T.1 j ≠ 18 ∧ T.1 j ≠ 19) (h3 : ¬ (T.1 j = 25 ∧ ahd P = true)) : begM T w j P n K = .inl 1 := by
  unfold begM
  rw [if_neg (fun z => h z.1), if_neg (fun z => by rw [hn] at z; exact absurd z.1 (by decide)), if_neg h, if_neg (by rw [hn]; decide), if_neg h2.1, if_neg h2.2.1, if_neg h2.2.2.1, if_neg h2.2.2.2.1, if_neg h2.2.2.2.2, if_neg h3]
theorem S_R_opened {X0 X : Mem} {t c0 mm j m : Nat} {B : Nat → Nat} {P : List Nat} {K : Kd} (hB : okB B mm) (hV0 : RV X0 mm B) (ht : t < 4) (hM : MN X0 t c0 B (stT B j) P m K X) (h24 : X.1 244 24 = b2i false) (hI : IV c0 (j, (P, (m, (false, K))))) {a : Nat} (ha : a < 64) : CM 2 m_R_opened [.ref 244, .int (nI a)] X (BgP X0 t c0 B j (opd a j P m K)) := by
  have hl := iv_l hI
  obtain ⟨i1, i2, i3, i4, i5, i6⟩ := hI
  have i1 : m ≤ 8 := i1
  have i2 : m = cnP P := i2
  have i4 : K.length + P.length ≤ j := i4
  have i5 : c0 ≤ K.length := i5
  have i6 : j ≤ 300 := i6
  have hl : P.length ≤ 62 := hl
  have hct := ctQ_cn P
  have hX := hM.1
  have hV := RV_B hM.2.2.2 hV0
  have hT := hM.2.1
  have hq := stT_le hB j
  have htr := tR_sm (q := stT B j) hB
  refine CM_of (L := [some (.ref 244), some (.int (nI a))]) 0 ok_R_opened (fun _ => Nat.le_of_ble_eq_true rfl) rfl ?_
  refine J_aload_n (i := 0) d_R_opened_0 rfl rfl ?_
  refine M_get (x := (nI m)) d_R_opened_1 f_R_223 rfl rfl hM.2.2.1.2.1 ?_
  refine J_bipush (v := nI 8) d_R_opened_4 rfl ?_
  refine N_icmp_ne (tgt := 11) d_R_opened_6 (by decide) (by omega) (by omega) (fun c6 => ?_) (fun c6 => ?_)
  · refine J_aload_n (i := 0) d_R_opened_11 rfl rfl ?_
    refine J_dup d_R_opened_12 rfl ?_
    refine M_get (x := (nI m)) d_R_opened_13 f_R_223 rfl rfl hM.2.2.1.2.1 ?_
    refine J_iconst (v := nI 1) d_R_opened_16 rfl ?_
    refine N_iadd d_R_opened_17 ?_
    refine M_put d_R_opened_18 p_R_223 rfl rfl rfl rfl ?_
    refine J_aload_n (i := 0) d_R_opened_21 rfl rfl ?_
    refine M_getR (b := 254) d_R_opened_22 f_R_44 rfl rfl rfl ?_
    refine J_aload_n (i := 0) d_R_opened_25 rfl rfl ?_
    refine M_get (x := (nI P.length)) d_R_opened_26 f_R_213 rfl rfl hM.2.2.1.1.1 ?_
    refine J_iload_n (i := 1) d_R_opened_29 rfl rfl ?_
    refine N_iast d_R_opened_30 rfl (by decide) (by omega) (ltL hX (a := 254) (n := 160) (by decide) rfl (by omega)) ?_
    refine J_aload_n (i := 0) d_R_opened_31 rfl rfl ?_
    refine J_dup d_R_opened_32 rfl ?_
    refine M_get (x := (nI P.length)) d_R_opened_33 f_R_213 rfl rfl hM.2.2.1.1.1 ?_
    refine J_iconst (v := nI 1) d_R_opened_36 rfl ?_
    refine N_iadd d_R_opened_37 ?_
    refine M_put d_R_opened_38 p_R_213 rfl rfl rfl rfl ?_
    refine J_aload_n (i := 0) d_R_opened_41 rfl rfl ?_
    have hN1 := MN_push (MN_23 (n := m + 1) hM) ha (by omega)
    refine M_callV (av := []) d_R_opened_42 s_R_233 (M_rcv rfl (by decide) rfl) (S_R_nextToken hN1.1 hB (RV_B hN1.2.2.2 hV0) hN1.2.1.2.1 (eN_le hB (stT_le hB j))) (by decide) rfl rfl (Nat.le_of_ble_eq_true rfl) (fun r1 Y1 hq1 => ?_)
    obtain ⟨rfl, hY1, ho1, hT1⟩ := hq1
    obtain ⟨hM1, h24_1⟩ := MN_nx hN1 hY1 ho1 hT1
    refine J_iconst (v := nI 0) d_R_opened_45 rfl ?_
    refine M_ir d_R_opened_46 rfl rfl ?_
    rw [opd_n c6]
    exact ⟨rfl, hM1, h24_1.trans h24⟩
  · refine J_iconst (v := nI 3) d_R_opened_9 rfl ?_
    refine M_ir d_R_opened_10 rfl rfl ?_
    rw [opd_8 c6]
    exact ⟨rfl, MN_FL hM⟩

theorem S_R_beginOne_1 {X0 X : Mem} {t c0 mm j m : Nat} {B : Nat → Nat} {P : List Nat} {K : Kd} (hB : okB B mm) (hV0 : RV X0 mm B) (ht : t < 4) (hM : MN X0 t c0 B (stT B j) P m K X) (h24 : X.1 244 24 = b2i false) (hI : IV c0 (j, (P, (m, (false, K))))) {so : Nat} {w : Bool} (hso : X.1 244 19 = nI so) (hw : (so = 0 ∧ w = true) ∨ (so = 1 ∧ w = false)) (k45 : (kT B (stT B j)) = 45) : CM 6 m_R_beginOne [.ref 244] X (BgP X0 t c0 B j (begM (tkT B) w j P m K)) := by
  have hl := iv_l hI
  obtain ⟨i1, i2, i3, i4, i5, i6⟩ := hI
  have i1 : m ≤ 8 := i1
  have i2 : m = cnP P := i2
  have i4 : K.length + P.length ≤ j := i4
  have i5 : c0 ≤ K.length := i5
  have i6 : j ≤ 300 := i6
  have hl : P.length ≤ 62 := hl
  have hct := ctQ_cn P
  have hX := hM.1
  have hV := RV_B hM.2.2.2 hV0
  have hT := hM.2.1
  have hq := stT_le hB j
  have htr := tR_sm (q := stT B j) hB
  have h1 : (tR B (stT B j)) = 1 := (sg_of hB (p := (1, 45)) (by decide)).mpr k45
  have hn : nameB (kT B (stT B j)) = false := by rw [k45]; rfl
  have hv := nv_le (q := stT B j) hB
  have hj := tk_300 hB (j := j) (by omega)
  have hnr := nR_le hB (q := stT B j)
  refine CM_of (L := [some (.ref 244), none]) 1 ok_R_beginOne (fun _ => Nat.le_of_ble_eq_true rfl) rfl ?_
  refine J_aload_n (i := 0) d_R_beginOne_0 rfl rfl ?_
  refine M_get (x := (nI (tR B (stT B j)))) d_R_beginOne_1 f_R_158 rfl rfl hT.2.2.1 ?_
  refine J_iconst (v := nI 1) d_R_beginOne_4 rfl ?_
  refine N_icmp_ne (tgt := 20) d_R_beginOne_5 (by decide) (by omega) (by omega) (fun c5 => absurd c5 (fun z => z h1)) (fun c5 => ?_)
  refine J_aload_n (i := 0) d_R_beginOne_8 rfl rfl ?_
  refine M_get (x := (nI (nR B (stT B j)))) d_R_beginOne_9 f_R_164 rfl rfl (hT.2.2.2.1 h1) ?_
  refine J_sipush (v := nI 9999) d_R_beginOne_12 rfl ?_
  refine N_icmp_le (tgt := 20) d_R_beginOne_15 (by decide) (by omega) (by omega) (fun c15 => ?_) (fun c15 => ?_)
  · refine J_aload_n (i := 0) d_R_beginOne_20 rfl rfl ?_
    refine CV_I (av := []) d_R_beginOne_21 s_R_236 (M_rcv rfl (by decide) rfl) (S_R_nameOf hX hB hV hT hq) (by decide) rfl rfl (Nat.le_of_ble_eq_true rfl) ?_
    rw [show nmR (kT B (stT B j)) = -1 from if_neg (by rw [hn]; decide)]
    refine J_istore_n (i := 1) (L1 := [some (.ref 244), some (.int (-1))]) d_R_beginOne_24 rfl (by decide) rfl ?_
    refine J_iload_n (i := 1) d_R_beginOne_25 rfl rfl ?_
    refine J_if_lt (tgt := 39) d_R_beginOne_26 (by decide) (fun c26 => ?_) (fun c26 => absurd c26 (by decide))
    refine J_aload_n (i := 0) d_R_beginOne_39 rfl rfl ?_
    refine M_get (x := (nI (tR B (stT B j)))) d_R_beginOne_40 f_R_158 rfl rfl hT.2.2.1 ?_
    refine J_iconst (v := nI 1) d_R_beginOne_43 rfl ?_
    refine N_icmp_eq (tgt := 51) d_R_beginOne_44 (by decide) (by omega) (by omega) (fun c44 => ?_) (fun c44 => absurd c44 (fun z => z h1))
    refine J_aload_n (i := 0) d_R_beginOne_51 rfl rfl ?_
    refine J_aload_n (i := 0) d_R_beginOne_52 rfl rfl ?_
    refine M_get (x := (nI (tR B (stT B j)))) d_R_beginOne_53 f_R_158 rfl rfl hT.2.2.1 ?_
    refine J_iconst (v := nI 1) d_R_beginOne_56 rfl ?_
    refine N_icmp_ne (tgt := 64) d_R_beginOne_57 (by decide) (by omega) (by omega) (fun c57 => absurd c57 (fun z => z h1)) (fun c57 => ?_)
    refine J_iconst (v := nI 0) d_R_beginOne_60 rfl ?_
    refine J_goto (tgt := 65) d_R_beginOne_61 (by decide) ?_
    refine J_aload_n (i := 0) d_R_beginOne_65 rfl rfl ?_
    refine M_get (x := (nI (tR B (stT B j)))) d_R_beginOne_66 f_R_158 rfl rfl hT.2.2.1 ?_
    refine J_iconst (v := nI 1) d_R_beginOne_69 rfl ?_
    refine N_icmp_ne (tgt := 80) d_R_beginOne_70 (by decide) (by omega) (by omega) (fun c70 => absurd c70 (fun z => z h1)) (fun c70 => ?_)
    refine J_aload_n (i := 0) d_R_beginOne_73 rfl rfl ?_
    refine M_get (x := (nI (nR B (stT B j)))) d_R_beginOne_74 f_R_164 rfl rfl (hT.2.2.2.1 h1) ?_
    refine J_goto (tgt := 81) d_R_beginOne_77 (by decide) ?_
    refine CV_V (av := [.int (nI 0), .int (nI (nR B (stT B j)))]) d_R_beginOne_81 s_R_219 (M_rcv rfl (by decide) rfl) (S_R_emit hX hM.2.2.1.2.2.2.1 hM.2.2.1.2.2.1 ht (show K.length < 304 by omega)) (by decide) rfl rfl (Nat.le_of_ble_eq_true rfl) ?_
    refine J_aload_n (i := 0) d_R_beginOne_84 rfl rfl ?_
    have hN1 := MN_em (a := 0) (v := (nR B (stT B j))) hM ht (show K.length < 304 by omega) i5
    refine M_callV (av := []) d_R_beginOne_85 s_R_233 (M_rcv rfl (by decide) rfl) (S_R_nextToken hN1.1 hB (RV_B hN1.2.2.2 hV0) hN1.2.1.2.1 (eN_le hB (stT_le hB j))) (by decide) rfl rfl (Nat.le_of_ble_eq_true rfl) (fun r1 Y1 hq1 => ?_)
    obtain ⟨rfl, hY1, ho1, hT1⟩ := hq1
    obtain ⟨hM1, h24_1⟩ := MN_nx hN1 hY1 ho1 hT1
    refine J_aload_n (i := 0) d_R_beginOne_88 rfl rfl ?_
    refine J_iconst (v := nI 1) d_R_beginOne_89 rfl ?_
    refine J.eq (st1 := [.int (b2i true), .ref 244]) ?_ rfl rfl rfl
    refine M_put d_R_beginOne_90 p_R_242 rfl rfl b2i_nar b2i_fit ?_
    refine J_aload_n (i := 0) d_R_beginOne_93 rfl rfl ?_
    refine J_bipush (v := nI 7) d_R_beginOne_94 rfl ?_
    have hN2 := MN_24 (v := b2i true) hM1
    refine M_callV (av := [.int (nI 7)]) d_R_beginOne_96 s_R_245 (M_rcv rfl (by decide) rfl) (S_R_settle hN2.1 ht (by decide) hN2.2.2.1 (by omega) (by omega) (show K.length + 1 + P.length ≤ 300 by omega) (by omega)) (by decide) rfl rfl (Nat.le_of_ble_eq_true rfl) (fun r2 Y2 hq2 => ?_)
    obtain ⟨rfl, hY2, ho2, hS2⟩ := hq2
    obtain ⟨hM2, h24_2⟩ := MN_st hN2 hY2 ho2 hS2 (show c0 ≤ K.length + 1 by omega)
    refine J_iconst (v := nI 0) d_R_beginOne_99 rfl ?_
    refine M_ir d_R_beginOne_100 rfl rfl ?_
    rw [bgB (T := tkT B) (v := nR B (stT B j)) k45 (show vC B (stT B j) = nR B (stT B j) by omega) (by omega)]
    exact ⟨rfl, hM2, h24_2.trans pF_at⟩
  · refine J_iconst (v := nI 2) d_R_beginOne_18 rfl ?_
    refine M_ir d_R_beginOne_19 rfl rfl ?_
    rw [bgA (T := tkT B) k45 (show 9999 < vC B (stT B j) by omega)]
    exact ⟨rfl, MN_FL hM⟩

theorem S_R_beginOne_n {X0 X : Mem} {t c0 mm j m : Nat} {B : Nat → Nat} {P : List Nat} {K : Kd} (hB : okB B mm) (hV0 : RV X0 mm B) (ht : t < 4) (hM : MN X0 t c0 B (stT B j) P m K X) (h24 : X.1 244 24 = b2i false) (hI : IV c0 (j, (P, (m, (false, K))))) {so : Nat} {w : Bool} (hso : X.1 244 19 = nI so) (hw : (so = 0 ∧ w = true) ∨ (so = 1 ∧ w = false)) (hn : nameB (kT B (stT B j)) = true) : CM 6 m_R_beginOne [.ref 244] X (BgP X0 t c0 B j (begM (tkT B) w j P m K)) := by
  have hl := iv_l hI
  obtain ⟨i1, i2, i3, i4, i5, i6⟩ := hI
  have i1 : m ≤ 8 := i1
  have i2 : m = cnP P := i2
  have i4 : K.length + P.length ≤ j := i4
  have i5 : c0 ≤ K.length := i5
  have i6 : j ≤ 300 := i6
  have hl : P.length ≤ 62 := hl
  have hct := ctQ_cn P
  have hX := hM.1
  have hV := RV_B hM.2.2.2 hV0
  have hT := hM.2.1
  have hq := stT_le hB j
  have htr := tR_sm (q := stT B j) hB
  obtain ⟨n45, n7, n46, n30, n31⟩ := nmB_45 hn
  have h1 : (tR B (stT B j)) ≠ 1 := fun z => n45 ((sg_of hB (p := (1, 45)) (by decide)).mp z)
  have hj := tk_300 hB (j := j) n46
  have hs7 : so < 7 := by omega
  refine CM_of (L := [some (.ref 244), none]) 1 ok_R_beginOne (fun _ => Nat.le_of_ble_eq_true rfl) rfl ?_
  refine J_aload_n (i := 0) d_R_beginOne_0 rfl rfl ?_
  refine M_get (x := (nI (tR B (stT B j)))) d_R_beginOne_1 f_R_158 rfl rfl hT.2.2.1 ?_
  refine J_iconst (v := nI 1) d_R_beginOne_4 rfl ?_
  refine N_icmp_ne (tgt := 20) d_R_beginOne_5 (by decide) (by omega) (by omega) (fun c5 => ?_) (fun c5 => absurd c5 h1)
  refine J_aload_n (i := 0) d_R_beginOne_20 rfl rfl ?_
  refine CV_I (av := []) d_R_beginOne_21 s_R_236 (M_rcv rfl (by decide) rfl) (S_R_nameOf hX hB hV hT hq) (by decide) rfl rfl (Nat.le_of_ble_eq_true rfl) ?_
  rw [show nmR (kT B (stT B j)) = nI (nmI (kT B (stT B j))) from if_pos hn]
  refine J_istore_n (i := 1) (L1 := [some (.ref 244), some (.int (nI (nmI (kT B (stT B j)))))]) d_R_beginOne_24 rfl (by decide) rfl ?_
  refine J_iload_n (i := 1) d_R_beginOne_25 rfl rfl ?_
  refine N_if_lt (tgt := 39) d_R_beginOne_26 (by decide) (by omega) ?_
  refine J_aload_n (i := 0) d_R_beginOne_29 rfl rfl ?_
  refine J_iload_n (i := 1) d_R_beginOne_30 rfl rfl ?_
  refine CV_B (av := [.int (nI (nmI (kT B (stT B j))))]) d_R_beginOne_31 s_R_239 (M_rcv rfl (by decide) rfl) (S_R_isOf n7 hso hs7) (by decide) rfl rfl (Nat.le_of_ble_eq_true rfl) ?_
  refine B_if_ne (tgt := 39) d_R_beginOne_34 (by decide) (fun c34 => ?_) (fun c34 => ?_)
  · refine J_aload_n (i := 0) d_R_beginOne_39 rfl rfl ?_
    refine M_get (x := (nI (tR B (stT B j)))) d_R_beginOne_40 f_R_158 rfl rfl hT.2.2.1 ?_
    refine J_iconst (v := nI 1) d_R_beginOne_43 rfl ?_
    refine N_icmp_eq (tgt := 51) d_R_beginOne_44 (by decide) (by omega) (by omega) (fun c44 => absurd c44 h1) (fun c44 => ?_)
    refine J_iload_n (i := 1) d_R_beginOne_47 rfl rfl ?_
    refine N_if_lt (tgt := 101) d_R_beginOne_48 (by decide) (by omega) ?_
    refine J_aload_n (i := 0) d_R_beginOne_51 rfl rfl ?_
    refine J_aload_n (i := 0) d_R_beginOne_52 rfl rfl ?_
    refine M_get (x := (nI (tR B (stT B j)))) d_R_beginOne_53 f_R_158 rfl rfl hT.2.2.1 ?_
    refine J_iconst (v := nI 1) d_R_beginOne_56 rfl ?_
    refine N_icmp_ne (tgt := 64) d_R_beginOne_57 (by decide) (by omega) (by omega) (fun c57 => ?_) (fun c57 => absurd c57 h1)
    refine J_iconst (v := nI 1) d_R_beginOne_64 rfl ?_
    refine J_aload_n (i := 0) d_R_beginOne_65 rfl rfl ?_
    refine M_get (x := (nI (tR B (stT B j)))) d_R_beginOne_66 f_R_158 rfl rfl hT.2.2.1 ?_
    refine J_iconst (v := nI 1) d_R_beginOne_69 rfl ?_
    refine N_icmp_ne (tgt := 80) d_R_beginOne_70 (by decide) (by omega) (by omega) (fun c70 => ?_) (fun c70 => absurd c70 h1)
    refine J_iload_n (i := 1) d_R_beginOne_80 rfl rfl ?_
    refine CV_V (av := [.int (nI 1), .int (nI (nmI (kT B (stT B j))))]) d_R_beginOne_81 s_R_219 (M_rcv rfl (by decide) rfl) (S_R_emit hX hM.2.2.1.2.2.2.1 hM.2.2.1.2.2.1 ht (show K.length < 304 by omega)) (by decide) rfl rfl (Nat.le_of_ble_eq_true rfl) ?_
    refine J_aload_n (i := 0) d_R_beginOne_84 rfl rfl ?_
    have hN1 := MN_em (a := 1) (v := (nmI (kT B (stT B j)))) hM ht (show K.length < 304 by omega) i5
    refine M_callV (av := []) d_R_beginOne_85 s_R_233 (M_rcv rfl (by decide) rfl) (S_R_nextToken hN1.1 hB (RV_B hN1.2.2.2 hV0) hN1.2.1.2.1 (eN_le hB (stT_le hB j))) (by decide) rfl rfl (Nat.le_of_ble_eq_true rfl) (fun r1 Y1 hq1 => ?_)
    obtain ⟨rfl, hY1, ho1, hT1⟩ := hq1
    obtain ⟨hM1, h24_1⟩ := MN_nx hN1 hY1 ho1 hT1
    refine J_aload_n (i := 0) d_R_beginOne_88 rfl rfl ?_
    refine J_iconst (v := nI 1) d_R_beginOne_89 rfl ?_
    refine J.eq (st1 := [.int (b2i true), .ref 244]) ?_ rfl rfl rfl
    refine M_put d_R_beginOne_90 p_R_242 rfl rfl b2i_nar b2i_fit ?_
    refine J_aload_n (i := 0) d_R_beginOne_93 rfl rfl ?_
    refine J_bipush (v := nI 7) d_R_beginOne_94 rfl ?_
    have hN2 := MN_24 (v := b2i true) hM1
    refine M_callV (av := [.int (nI 7)]) d_R_beginOne_96 s_R_245 (M_rcv rfl (by decide) rfl) (S_R_settle hN2.1 ht (by decide) hN2.2.2.1 (by omega) (by omega) (show K.length + 1 + P.length ≤ 300 by omega) (by omega)) (by decide) rfl rfl (Nat.le_of_ble_eq_true rfl) (fun r2 Y2 hq2 => ?_)
    obtain ⟨rfl, hY2, ho2, hS2⟩ := hq2
    obtain ⟨hM2, h24_2⟩ := MN_st hN2 hY2 ho2 hS2 (show c0 ≤ K.length + 1 by omega)
    refine J_iconst (v := nI 0) d_R_beginOne_99 rfl ?_
    refine M_ir d_R_beginOne_100 rfl rfl ?_
    rw [bgD (T := tkT B) hn (show ¬ (((kT B (stT B j)) = 30 ∧ w = false) ∨ ((kT B (stT B j)) = 31 ∧ w = true)) from ?_)]
    · exact ⟨rfl, hM2, h24_2.trans pF_at⟩
    · have c := of_decide_eq_true c34
      rcases hw with ⟨z1, z2⟩ | ⟨z1, z2⟩ <;> rw [z2] <;> intro y <;> rcases y with y | y
      · exact absurd y.2 (by decide)
      · omega
      · omega
      · exact absurd y.2 (by decide)
  · refine J_iconst (v := nI 5) d_R_beginOne_37 rfl ?_
    refine M_ir d_R_beginOne_38 rfl rfl ?_
    rw [bgC (T := tkT B) hn (show ((kT B (stT B j)) = 30 ∧ w = false) ∨ ((kT B (stT B j)) = 31 ∧ w = true) from ?_)]
    · exact ⟨rfl, MN_FL hM⟩
    · have c := of_decide_eq_false c34
      rcases hw with z | z
      · exact Or.inr ⟨by omega, z.2⟩
      · exact Or.inl ⟨by omega, z.2⟩

theorem S_R_beginOne_o {X0 X : Mem} {t c0 mm j m : Nat} {B : Nat → Nat} {P : List Nat} {K : Kd} (hB : okB B mm) (hV0 : RV X0 mm B) (ht : t < 4) (hM : MN X0 t c0 B (stT B j) P m K X) (h24 : X.1 244 24 = b2i false) (hI : IV c0 (j, (P, (m, (false, K))))) {w : Bool} (n45 : (kT B (stT B j)) ≠ 45) (hn : nameB (kT B (stT B j)) = false) : CM 6 m_R_beginOne [.ref 244] X (BgP X0 t c0 B j (begM (tkT B) w j P m K)) := by
  have hI0 := hI
  have hl := iv_l hI
  obtain ⟨i1, i2, i3, i4, i5, i6⟩ := hI0
  have i1 : m ≤ 8 := i1
  have i2 : m = cnP P := i2
  have i4 : K.length + P.length ≤ j := i4
  have i5 : c0 ≤ K.length := i5
  have i6 : j ≤ 300 := i6
  have hl : P.length ≤ 62 := hl
  have hct := ctQ_cn P
  have hX := hM.1
  have hV := RV_B hM.2.2.2 hV0
  have hT := hM.2.1
  have hq := stT_le hB j
  have htr := tR_sm (q := stT B j) hB
  have h1 : (tR B (stT B j)) ≠ 1 := fun z => n45 ((sg_of hB (p := (1, 45)) (by decide)).mp z)
  refine CM_of (L := [some (.ref 244), none]) 1 ok_R_beginOne (fun _ => Nat.le_of_ble_eq_true rfl) rfl ?_
  refine J_aload_n (i := 0) d_R_beginOne_0 rfl rfl ?_
  refine M_get (x := (nI (tR B (stT B j)))) d_R_beginOne_1 f_R_158 rfl rfl hT.2.2.1 ?_
  refine J_iconst (v := nI 1) d_R_beginOne_4 rfl ?_
  refine N_icmp_ne (tgt := 20) d_R_beginOne_5 (by decide) (by omega) (by omega) (fun c5 => ?_) (fun c5 => absurd c5 h1)
  refine J_aload_n (i := 0) d_R_beginOne_20 rfl rfl ?_
  refine CV_I (av := []) d_R_beginOne_21 s_R_236 (M_rcv rfl (by decide) rfl) (S_R_nameOf hX hB hV hT hq) (by decide) rfl rfl (Nat.le_of_ble_eq_true rfl) ?_
  rw [show nmR (kT B (stT B j)) = -1 from if_neg (by rw [hn]; decide)]
  refine J_istore_n (i := 1) (L1 := [some (.ref 244), some (.int (-1))]) d_R_beginOne_24 rfl (by decide) rfl ?_
  refine J_iload_n (i := 1) d_R_beginOne_25 rfl rfl ?_
  refine J_if_lt (tgt := 39) d_R_beginOne_26 (by decide) (fun c26 => ?_) (fun c26 => absurd c26 (by decide))
  refine J_aload_n (i := 0) d_R_beginOne_39 rfl rfl ?_
  refine M_get (x := (nI (tR B (stT B j)))) d_R_beginOne_40 f_R_158 rfl rfl hT.2.2.1 ?_
  refine J_iconst (v := nI 1) d_R_beginOne_43 rfl ?_
  refine N_icmp_eq (tgt := 51) d_R_beginOne_44 (by decide) (by omega) (by omega) (fun c44 => absurd c44 h1) (fun c44 => ?_)
  refine J_iload_n (i := 1) d_R_beginOne_47 rfl rfl ?_
  refine J_if_lt (tgt := 101) d_R_beginOne_48 (by decide) (fun c48 => ?_) (fun c48 => absurd c48 (by decide))
  refine J_aload_n (i := 0) d_R_beginOne_101 rfl rfl ?_
  refine M_get (x := (nI (tR B (stT B j)))) d_R_beginOne_102 f_R_158 rfl rfl hT.2.2.1 ?_
  refine J_bipush (v := nI 40) d_R_beginOne_105 rfl ?_
  refine N_icmp_ne (tgt := 117) d_R_beginOne_107 (by decide) (by omega) (by omega) (fun c107 => ?_) (fun c107 => ?_)
  · refine J_aload_n (i := 0) d_R_beginOne_117 rfl rfl ?_
    refine M_get (x := (nI (tR B (stT B j)))) d_R_beginOne_118 f_R_158 rfl rfl hT.2.2.1 ?_
    refine J_bipush (v := nI 45) d_R_beginOne_121 rfl ?_
    refine N_icmp_ne (tgt := 132) d_R_beginOne_123 (by decide) (by omega) (by omega) (fun c123 => ?_) (fun c123 => ?_)
    · refine J_aload_n (i := 0) d_R_beginOne_132 rfl rfl ?_
      refine J_bipush (v := nI 115) d_R_beginOne_133 rfl ?_
      refine J_bipush (v := nI 105) d_R_beginOne_135 rfl ?_
      refine J_bipush (v := nI 122) d_R_beginOne_137 rfl ?_
      refine J_bipush (v := nI 101) d_R_beginOne_139 rfl ?_
      refine CS_L (av := [.int (nI 115), .int (nI 105), .int (nI 122), .int (nI 101)]) d_R_beginOne_141 s_R_188 (S_R_w4 (nI 115) (nI 105) (nI 122) (nI 101)) (by decide) rfl rfl (Nat.le_of_ble_eq_true rfl) ?_
      refine CV_B (av := [.long (wE4 (nI 115) (nI 105) (nI 122) (nI 101))]) d_R_beginOne_144 s_R_251 (M_rcv rfl (by decide) rfl) (S_R_isWord (i := 17) hB hT (by decide) (by decide) (by decide +kernel)) (by omega) rfl rfl (Nat.le_of_ble_eq_true rfl) ?_
      refine B_if_eq (tgt := 156) d_R_beginOne_147 (by decide) (fun c147 => ?_) (fun c147 => ?_)
      · refine J_aload_n (i := 0) d_R_beginOne_156 rfl rfl ?_
        refine J_bipush (v := nI 104) d_R_beginOne_157 rfl ?_
        refine J_bipush (v := nI 97) d_R_beginOne_159 rfl ?_
        refine J_bipush (v := nI 115) d_R_beginOne_161 rfl ?_
        refine CS_L (av := [.int (nI 104), .int (nI 97), .int (nI 115)]) d_R_beginOne_163 s_R_184 (S_R_w3 (nI 104) (nI 97) (nI 115)) (by decide) rfl rfl (Nat.le_of_ble_eq_true rfl) ?_
        refine CV_B (av := [.long (wE3 (nI 104) (nI 97) (nI 115))]) d_R_beginOne_166 s_R_251 (M_rcv rfl (by decide) rfl) (S_R_isWord (i := 18) hB hT (by decide) (by decide) (by decide +kernel)) (by omega) rfl rfl (Nat.le_of_ble_eq_true rfl) ?_
        refine B_if_eq (tgt := 178) d_R_beginOne_169 (by decide) (fun c169 => ?_) (fun c169 => ?_)
        · refine J_aload_n (i := 0) d_R_beginOne_178 rfl rfl ?_
          refine J_bipush (v := nI 105) d_R_beginOne_179 rfl ?_
          refine J_bipush (v := nI 102) d_R_beginOne_181 rfl ?_
          refine CS_L (av := [.int (nI 105), .int (nI 102)]) d_R_beginOne_183 s_R_180 (S_R_w2 (nI 105) (nI 102)) (by decide) rfl rfl (Nat.le_of_ble_eq_true rfl) ?_
          refine CV_B (av := [.long (wE2 (nI 105) (nI 102))]) d_R_beginOne_186 s_R_251 (M_rcv rfl (by decide) rfl) (S_R_isWord (i := 19) hB hT (by decide) (by decide) (by decide +kernel)) (by omega) rfl rfl (Nat.le_of_ble_eq_true rfl) ?_
          refine B_if_eq (tgt := 199) d_R_beginOne_189 (by decide) (fun c189 => ?_) (fun c189 => ?_)
          · refine J_aload_n (i := 0) d_R_beginOne_199 rfl rfl ?_
            refine J_bipush (v := nI 110) d_R_beginOne_200 rfl ?_
            refine J_bipush (v := nI 111) d_R_beginOne_202 rfl ?_
            refine J_bipush (v := nI 116) d_R_beginOne_204 rfl ?_
            refine CS_L (av := [.int (nI 110), .int (nI 111), .int (nI 116)]) d_R_beginOne_206 s_R_184 (S_R_w3 (nI 110) (nI 111) (nI 116)) (by decide) rfl rfl (Nat.le_of_ble_eq_true rfl) ?_
            refine CV_B (av := [.long (wE3 (nI 110) (nI 111) (nI 116))]) d_R_beginOne_209 s_R_251 (M_rcv rfl (by decide) rfl) (S_R_isWord (i := 25) hB hT (by decide) (by decide) (by decide +kernel)) (by omega) rfl rfl (Nat.le_of_ble_eq_true rfl) ?_
            refine B_if_eq (tgt := 231) d_R_beginOne_212 (by decide) (fun c212 => ?_) (fun c212 => ?_)
            · refine J_iconst (v := nI 1) d_R_beginOne_231 rfl ?_
              refine M_ir d_R_beginOne_232 rfl rfl ?_
              have x40 : (kT B (stT B j)) ≠ 40 := fun z => c107 ((sg_of hB (p := (40, 40)) (by decide)).mpr z)
              have x37 : (kT B (stT B j)) ≠ 37 := fun z => c123 ((sg_of hB (p := (45, 37)) (by decide)).mpr z)
              have x17 : (kT B (stT B j)) ≠ 17 := of_decide_eq_false c147
              have x18 : (kT B (stT B j)) ≠ 18 := of_decide_eq_false c169
              have x19 : (kT B (stT B j)) ≠ 19 := of_decide_eq_false c189
              rw [bgZ (T := tkT B) n45 hn ⟨x40, x37, x17, x18, x19⟩ (fun z => absurd z.1 (of_decide_eq_false c212))]
              exact ⟨rfl, MN_FL hM⟩
            · refine J_aload_n (i := 0) d_R_beginOne_215 rfl rfl ?_
              refine CV_B (av := []) d_R_beginOne_216 s_R_255 (M_rcv rfl (by decide) rfl) (S_R_isAskAhead hX hM.2.2.1.1 (by omega)) (by decide) rfl rfl (Nat.le_of_ble_eq_true rfl) ?_
              refine B_if_eq (tgt := 231) d_R_beginOne_219 (by decide) (fun c219 => ?_) (fun c219 => ?_)
              · refine J_iconst (v := nI 1) d_R_beginOne_231 rfl ?_
                refine M_ir d_R_beginOne_232 rfl rfl ?_
                have x40 : (kT B (stT B j)) ≠ 40 := fun z => c107 ((sg_of hB (p := (40, 40)) (by decide)).mpr z)
                have x37 : (kT B (stT B j)) ≠ 37 := fun z => c123 ((sg_of hB (p := (45, 37)) (by decide)).mpr z)
                have x17 : (kT B (stT B j)) ≠ 17 := of_decide_eq_false c147
                have x18 : (kT B (stT B j)) ≠ 18 := of_decide_eq_false c169
                have x19 : (kT B (stT B j)) ≠ 19 := of_decide_eq_false c189
                rw [bgZ (T := tkT B) n45 hn ⟨x40, x37, x17, x18, x19⟩ (fun z => by rw [c219] at z; exact absurd z.2 (by decide))]
                exact ⟨rfl, MN_FL hM⟩
              · refine J_aload_n (i := 0) d_R_beginOne_222 rfl rfl ?_
                refine J_bipush (v := nI 20) d_R_beginOne_223 rfl ?_
                refine M_callV (av := [.int (nI 20)]) d_R_beginOne_225 s_R_248 (M_rcv rfl (by decide) rfl) (S_R_opened hB hV0 ht hM h24 hI (a := 20) (by decide)) (by decide) rfl rfl (Nat.le_of_ble_eq_true rfl) (fun r1 Y1 hq1 => ?_)
                obtain ⟨v1, rfl⟩ := BgP_v hq1
                refine J_goto (tgt := 232) d_R_beginOne_228 (by decide) ?_
                refine M_ir d_R_beginOne_232 rfl rfl ?_
                rw [beg_not (T := tkT B) (of_decide_eq_true c212) c219]
                exact hq1
          · refine J_aload_n (i := 0) d_R_beginOne_192 rfl rfl ?_
            refine J_bipush (v := nI 41) d_R_beginOne_193 rfl ?_
            refine M_callV (av := [.int (nI 41)]) d_R_beginOne_195 s_R_248 (M_rcv rfl (by decide) rfl) (S_R_opened hB hV0 ht hM h24 hI (a := 41) (by decide)) (by decide) rfl rfl (Nat.le_of_ble_eq_true rfl) (fun r1 Y1 hq1 => ?_)
            obtain ⟨v1, rfl⟩ := BgP_v hq1
            refine M_ir d_R_beginOne_198 rfl rfl ?_
            rw [bgO (T := tkT B) (k := 19) (of_decide_eq_true c189) (by decide)]
            exact hq1
        · refine J_aload_n (i := 0) d_R_beginOne_172 rfl rfl ?_
          refine J_iconst (v := nI 2) d_R_beginOne_173 rfl ?_
          refine M_callV (av := [.int (nI 2)]) d_R_beginOne_174 s_R_248 (M_rcv rfl (by decide) rfl) (S_R_opened hB hV0 ht hM h24 hI (a := 2) (by decide)) (by decide) rfl rfl (Nat.le_of_ble_eq_true rfl) (fun r1 Y1 hq1 => ?_)
          obtain ⟨v1, rfl⟩ := BgP_v hq1
          refine M_ir d_R_beginOne_177 rfl rfl ?_
          rw [bgO (T := tkT B) (k := 18) (of_decide_eq_true c169) (by decide)]
          exact hq1
      · refine J_aload_n (i := 0) d_R_beginOne_150 rfl rfl ?_
        refine J_iconst (v := nI 4) d_R_beginOne_151 rfl ?_
        refine M_callV (av := [.int (nI 4)]) d_R_beginOne_152 s_R_248 (M_rcv rfl (by decide) rfl) (S_R_opened hB hV0 ht hM h24 hI (a := 4) (by decide)) (by decide) rfl rfl (Nat.le_of_ble_eq_true rfl) (fun r1 Y1 hq1 => ?_)
        obtain ⟨v1, rfl⟩ := BgP_v hq1
        refine M_ir d_R_beginOne_155 rfl rfl ?_
        rw [bgO (T := tkT B) (k := 17) (of_decide_eq_true c147) (by decide)]
        exact hq1
    · refine J_aload_n (i := 0) d_R_beginOne_126 rfl rfl ?_
      refine J_iconst (v := nI 5) d_R_beginOne_127 rfl ?_
      refine M_callV (av := [.int (nI 5)]) d_R_beginOne_128 s_R_248 (M_rcv rfl (by decide) rfl) (S_R_opened hB hV0 ht hM h24 hI (a := 5) (by decide)) (by decide) rfl rfl (Nat.le_of_ble_eq_true rfl) (fun r1 Y1 hq1 => ?_)
      obtain ⟨v1, rfl⟩ := BgP_v hq1
      refine M_ir d_R_beginOne_131 rfl rfl ?_
      rw [bgO (T := tkT B) (k := 37) ((sg_of hB (p := (45, 37)) (by decide)).mp c123) (by decide)]
      exact hq1
  · refine J_aload_n (i := 0) d_R_beginOne_110 rfl rfl ?_
    refine J_bipush (v := nI 40) d_R_beginOne_111 rfl ?_
    refine M_callV (av := [.int (nI 40)]) d_R_beginOne_113 s_R_248 (M_rcv rfl (by decide) rfl) (S_R_opened hB hV0 ht hM h24 hI (a := 40) (by decide)) (by decide) rfl rfl (Nat.le_of_ble_eq_true rfl) (fun r1 Y1 hq1 => ?_)
    obtain ⟨v1, rfl⟩ := BgP_v hq1
    refine M_ir d_R_beginOne_116 rfl rfl ?_
    rw [bgO (T := tkT B) (k := 40) ((sg_of hB (p := (40, 40)) (by decide)).mp c107) (by decide)]
    exact hq1

theorem S_R_beginOne {X0 X : Mem} {t c0 mm j m : Nat} {B : Nat → Nat} {P : List Nat} {K : Kd} (hB : okB B mm) (hV0 : RV X0 mm B) (ht : t < 4) (hM : MN X0 t c0 B (stT B j) P m K X) (h24 : X.1 244 24 = b2i false) (hI : IV c0 (j, (P, (m, (false, K))))) {so : Nat} {w : Bool} (hso : X.1 244 19 = nI so) (hw : (so = 0 ∧ w = true) ∨ (so = 1 ∧ w = false)) : CM 6 m_R_beginOne [.ref 244] X (BgP X0 t c0 B j (begM (tkT B) w j P m K)) := by
  by_cases k45 : (kT B (stT B j)) = 45
  · exact S_R_beginOne_1 hB hV0 ht hM h24 hI hso hw k45
  · rcases Bool.eq_false_or_eq_true (nameB (kT B (stT B j))) with hn | hn
    · exact S_R_beginOne_n hB hV0 ht hM h24 hI hso hw hn
    · exact S_R_beginOne_o hB hV0 ht hM h24 hI k45 hn
