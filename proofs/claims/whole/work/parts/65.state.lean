theorem sw_out {v : Int32} {n : Nat} (hn : n < 2147483648) (h : inR v n = false) : v.toInt < ((0 : Nat) : Int) ∨ ((n : Nat) : Int) < v.toInt := by
  rcases Int.lt_or_le v.toInt 0 with z | z
  · exact Or.inl z
  · right
    have h0 : ¬ v < 0 := fun q => by
      rw [Int32.lt_iff_toInt_lt] at q
      have e0 : (0 : Int32).toInt = 0 := by decide
      omega
    obtain ⟨j, hj, rfl⟩ := nI_of h0
    rw [inR_nI hj hn, decide_eq_false_iff_not] at h
    have e : (nI j).toInt = (j : Int) := by rw [← jI_n]; exact Int32.toInt_ofInt_of_le (by omega) (by omega)
    rw [e]
    omega
/-- the same cells from H to H + 99 -/
theorem CNow_on {X Y : Mem} {a : Nat} {g : Nat → Int32} (e : ∀ k, Y.1 a k = X.1 a k) (e1 : Y.2.1 (a + 1) = X.2.1 (a + 1)) (e2 : Y.2.1 (a + 2) = X.2.1 (a + 2)) (hn : CNow X a g) : CNow Y a g := by
  obtain ⟨h1, h2, h3, h4, h5, h6, h7, h8⟩ := hn
  exact ⟨h1, by rw [e, h2], by rw [e, h3], by rw [e, h4], by rw [e, h5], by rw [e, h6], fun i hi => by rw [e1]; exact h7 i hi, fun i hi => by rw [e2]; exact h8 i hi⟩
theorem CHeld_on {X Y : Mem} {H : Nat} {r : Nat → Int32} (h : ∀ b, H ≤ b → b ≤ H + 99 → (∀ k, Y.1 b k = X.1 b k) ∧ Y.2.1 b = X.2.1 b) (hn : CHeld X H r) : CHeld Y H r := by
  obtain ⟨h1, ⟨h2, e, he, h3, h4⟩, h5, ⟨g1, g2, g3, g4, g5⟩, h7⟩ := hn
  have e0 := (h H (by omega) (by omega)).1
  have e4 := (h (H + 4) (by omega) (by omega)).1
  refine ⟨CNow_on (h (H + 1) (by omega) (by omega)).1 (h (H + 1 + 1) (by omega) (by omega)).2 (h (H + 1 + 2) (by omega) (by omega)).2 h1, ⟨by rw [e4, h2], e, he, by rw [e4, h3], fun i hi => ?_⟩, fun i hi => ?_, ⟨by rw [e0, g1], by rw [e0, g2], by rw [e0, g3], by rw [e0, g4], by rw [e0, g5]⟩, fun i hi => ?_⟩
  · have hb : (e + i) % 30 < 30 := Nat.mod_lt _ (by decide)
    exact CNow_on (h _ (by omega) (by omega)).1 (h _ (by omega) (by omega)).2 (h _ (by omega) (by omega)).2 (h4 i hi)
  · rw [(h (H + 96) (by omega) (by omega)).2]; exact h5 i hi
  · rw [(h (H + 97) (by omega) (by omega)).2, (h (H + 98) (by omega) (by omega)).2, (h (H + 99) (by omega) (by omega)).2]; exact h7 i hi
def mOf (r : Nat → Int32) : Nat := tn (r 0)
def stOf (r : Nat → Int32) (i : Nat) : Nat := tn (r (10 + i))
def rgOf (r : Nat → Int32) (i : Nat) : Nat := tn (r (18 + i))
theorem ri_at {X : Mem} {s : Sg} (h : RI X s) {j : Nat} (hj : j < 1217) : (X.2.1 245).getD j 0 = s.1 j := by rw [h.1]; exact ofF_get hj
theorem wf_1 {r : Nat → Int32} (h : WFr r) {j n : Nat} (hj : j < 1217) (h2 : j ≠ 2) (hb : bd j ≤ n) : r j = nI (tn (r j)) ∧ tn (r j) ≤ n := by
  have := wf_n h hj h2
  exact ⟨this.1, by omega⟩
theorem bd_10 : ∀ i, i < 8 → bd (10 + i) = 1048575 ∧ bd (18 + i) = 1048575 := by decide
theorem v_CSt {X : Mem} {s : Sg} (h : CI X s) (hw : WFs s) : CSt X (mOf s.1) (stOf s.1) (rgOf s.1) := by
  obtain ⟨⟨⟨_, h0, _, _, _, _, h7, _⟩, _, h9, _⟩, _⟩ := h
  have w0 := wf_1 hw.1 (j := 0) (n := 8) (by decide) (by decide) (by decide)
  refine ⟨w0.2, ?_, fun i hi => ?_, fun i hi => ?_⟩
  · rw [show X.1 19 0 = s.1 0 from h0]; exact w0.1
  · have w := wf_1 hw.1 (j := 10 + i) (n := 1048575) (by omega) (by omega) (by rw [(bd_10 i hi).1]; exact Nat.le_refl _)
    have e : (X.2.1 20).getD i 0 = s.1 (10 + i) := by
      have := h7 i hi
      rw [show nowG s.1 (5 + i) = s.1 (10 + i) from by unfold nowG; rw [if_neg (by omega), if_pos (by omega), ← Nat.add_assoc]] at this
      exact this
    rw [e]
    exact ⟨w.1, by show tn (s.1 (10 + i)) < 1048576; omega⟩
  · have w := wf_1 hw.1 (j := 18 + i) (n := 1048575) (by omega) (by omega) (by rw [(bd_10 i hi).2]; exact Nat.le_refl _)
    rw [show (X.2.1 114).getD i 0 = s.1 (18 + i) from h9 i hi]
    exact ⟨w.1, by show tn (s.1 (18 + i)) < 1048576; omega⟩
theorem v_RSt {X : Mem} {s : Sg} (h : RI X s) (hw : WFs s) : RSt X (mOf s.1) (stOf s.1) (rgOf s.1) := by
  have w0 := wf_1 hw.1 (j := 0) (n := 8) (by decide) (by decide) (by decide)
  refine ⟨w0.2, ?_, fun i hi => ?_, fun i hi => ?_⟩
  · rw [ri_at h (by decide)]; exact w0.1
  · have w := wf_1 hw.1 (j := 10 + i) (n := 1048575) (by omega) (by omega) (by rw [(bd_10 i hi).1]; exact Nat.le_refl _)
    rw [ri_at h (by omega)]
    exact ⟨w.1, by show tn (s.1 (10 + i)) < 1048576; omega⟩
  · have w := wf_1 hw.1 (j := 18 + i) (n := 1048575) (by omega) (by omega) (by rw [(bd_10 i hi).2]; exact Nat.le_refl _)
    rw [ri_at h (by omega)]
    exact ⟨w.1, by show tn (s.1 (18 + i)) < 1048576; omega⟩
theorem v_CTx {X : Mem} {s : Sg} (h : CI X s) (hw : WFs s) : CTx X (tn (s.1 1)) := by
  have w0 := wf_1 hw.1 (j := 1) (n := 4) (by decide) (by decide) (by decide)
  exact ⟨w0.2, by rw [show X.1 18 3 = s.1 1 from h.1.2.2.2.1.1]; exact w0.1⟩
theorem v_RTx {X : Mem} {s : Sg} (h : RI X s) (hw : WFs s) : RTx X (tn (s.1 1)) := by
  have w0 := wf_1 hw.1 (j := 1) (n := 4) (by decide) (by decide) (by decide)
  exact ⟨w0.2, by rw [ri_at h (by decide)]; exact w0.1⟩
theorem v_CSn {X : Mem} {s : Sg} (h : CI X s) (hw : WFs s) : CSn X (tn (s.1 26)) (tn (s.1 27)) := by
  have w1 := wf_1 hw.1 (j := 26) (n := 1048575) (by decide) (by decide) (by decide)
  have w2 := wf_1 hw.1 (j := 27) (n := 1048575) (by decide) (by decide) (by decide)
  exact ⟨by rw [show X.1 18 5 = s.1 26 from h.1.2.2.2.1.2.2.1]; exact w1.1, by rw [show X.1 18 6 = s.1 27 from h.1.2.2.2.1.2.2.2.1]; exact w2.1, by omega, by omega⟩
theorem v_RSn {X : Mem} {s : Sg} (h : RI X s) (hw : WFs s) : RSn X (tn (s.1 26)) (tn (s.1 27)) := by
  have w1 := wf_1 hw.1 (j := 26) (n := 1048575) (by decide) (by decide) (by decide)
  have w2 := wf_1 hw.1 (j := 27) (n := 1048575) (by decide) (by decide) (by decide)
  exact ⟨by rw [ri_at h (by decide)]; exact w1.1, by rw [ri_at h (by decide)]; exact w2.1, by omega, by omega⟩
theorem v_CSd {X : Mem} {s : Sg} (h : CI X s) (hw : WFs s) : CSd X (tn (s.1 5)) := by
  have w0 := wf_1 hw.1 (j := 5) (n := 8) (by decide) (by decide) (by decide)
  exact ⟨w0.2, by rw [show X.1 18 7 = s.1 5 from h.1.2.2.2.1.2.2.2.2]; exact w0.1⟩
theorem v_RSd {X : Mem} {s : Sg} (h : RI X s) (hw : WFs s) : RSd X (tn (s.1 5)) := by
  have w0 := wf_1 hw.1 (j := 5) (n := 8) (by decide) (by decide) (by decide)
  exact ⟨w0.2, by rw [ri_at h (by decide)]; exact w0.1⟩
def faultF (s : Sg) (v : Int32) : Int32 := if v = 0 then s.2.2.2.2.1 else if v = nI 1 then s.2.2.2.2.2.1 else (-1)
def aboutF (s : Sg) (v : Int32) : Int32 := if inR v 5 then s.1 (tn v) else if v = nI 6 then nI s.2.2.2.1 else (-2)
theorem S_O_fault {X : Mem} {s : Sg} {v : Int32} (hC : CI X s) : CM 0 m_O_fault [.ref 8, .int v] X (rI (faultF s v) X) := by
  refine CM_of (L := [some (.ref 8), some (.int v)]) 0 ok_O_fault (fun _ => Nat.le_of_ble_eq_true rfl) rfl ?_
  refine J_iload_n (i := 1) d_O_fault_0 rfl rfl ?_
  refine J_if_ne (tgt := 9) d_O_fault_1 (by decide) (fun c1 => ?_) (fun c1 => ?_)
  · refine J_iload_n (i := 1) d_O_fault_9 rfl rfl ?_
    refine J_iconst (v := nI 1) d_O_fault_10 rfl ?_
    refine J_icmp_ne (tgt := 21) d_O_fault_11 (by decide) (fun c11 => ?_) (fun c11 => ?_)
    · refine J_iconst (v := (-1)) d_O_fault_21 rfl ?_
      refine M_ir d_O_fault_22 rfl rfl ?_
      exact ⟨by rw [faultF, if_neg c1, if_neg c11], rfl⟩
    · refine J_aload_n (i := 0) d_O_fault_14 rfl rfl ?_
      refine M_get (x := s.2.2.2.2.2.1) d_O_fault_15 f_O_20 rfl rfl hC.2.2.2.1.2.2 ?_
      refine J_goto (tgt := 22) d_O_fault_18 (by decide) ?_
      refine M_ir d_O_fault_22 rfl rfl ?_
      exact ⟨by rw [faultF, if_neg c1, if_pos c11], rfl⟩
  · refine J_aload_n (i := 0) d_O_fault_4 rfl rfl ?_
    refine M_get (x := s.2.2.2.2.1) d_O_fault_5 f_O_17 rfl rfl hC.2.2.2.1.2.1 ?_
    refine M_ir d_O_fault_8 rfl rfl ?_
    exact ⟨by rw [faultF, if_pos c1], rfl⟩

theorem S_R_fault {X : Mem} {s : Sg} {v : Int32} (hC : RI X s) : CM 0 m_R_fault [.ref 244, .int v] X (rI (faultF s v) X) := by
  refine CM_of (L := [some (.ref 244), some (.int v)]) 0 ok_R_fault (fun _ => Nat.le_of_ble_eq_true rfl) rfl ?_
  refine J_iload_n (i := 1) d_R_fault_0 rfl rfl ?_
  refine J_if_ne (tgt := 11) d_R_fault_1 (by decide) (fun c1 => ?_) (fun c1 => ?_)
  · refine J_iload_n (i := 1) d_R_fault_11 rfl rfl ?_
    refine J_iconst (v := nI 1) d_R_fault_12 rfl ?_
    refine J_icmp_ne (tgt := 23) d_R_fault_13 (by decide) (fun c13 => ?_) (fun c13 => ?_)
    · refine J_iconst (v := (-1)) d_R_fault_23 rfl ?_
      refine M_ir d_R_fault_24 rfl rfl ?_
      exact ⟨by rw [faultF, if_neg c1, if_neg c13], rfl⟩
    · refine J_aload_n (i := 0) d_R_fault_16 rfl rfl ?_
      refine M_get (x := s.2.2.2.2.2.1) d_R_fault_17 f_R_41 rfl rfl hC.2.2.2.1.2.2.1 ?_
      refine J_goto (tgt := 24) d_R_fault_20 (by decide) ?_
      refine M_ir d_R_fault_24 rfl rfl ?_
      exact ⟨by rw [faultF, if_neg c1, if_pos c13], rfl⟩
  · refine J_aload_n (i := 0) d_R_fault_4 rfl rfl ?_
    refine M_get (x := s.2.2.2.2.1) d_R_fault_5 f_R_37 rfl rfl hC.2.2.2.1.2.1 ?_
    refine J_goto (tgt := 24) d_R_fault_8 (by decide) ?_
    refine M_ir d_R_fault_24 rfl rfl ?_
    exact ⟨by rw [faultF, if_pos c1], rfl⟩

theorem S_O_about {X : Mem} {s : Sg} {v : Int32} (hC : CI X s) (hw : WFs s) : CM 2 m_O_about [.ref 8, .int v] X (rI (aboutF s v) X) := by
  refine CM_of (L := [some (.ref 8), some (.int v)]) 0 ok_O_about (fun _ => Nat.le_of_ble_eq_true rfl) rfl ?_
  refine J_iload_n (i := 1) d_O_about_0 rfl rfl ?_
  rcases Bool.eq_false_or_eq_true (inR v 6) with hsw | hsw
  · obtain ⟨jj, hjj, rfl⟩ := inR_n hsw (by decide)
    have hcase : jj = 0 ∨ jj = 1 ∨ jj = 2 ∨ jj = 3 ∨ jj = 4 ∨ jj = 5 ∨ jj = 6 := by omega
    rcases hcase with rfl | rfl | rfl | rfl | rfl | rfl | rfl
    · refine J_tableIn (off := 43) (tgt := 44) d_O_about_1 (by decide) (by decide) (by decide) (by decide) ?_
      refine J_aload_n (i := 0) d_O_about_44 rfl rfl ?_
      refine M_getR (b := 18) d_O_about_45 f_O_48 rfl rfl rfl ?_
      refine M_getR (b := 19) d_O_about_48 f_O_110 rfl rfl rfl ?_
      refine M_get (x := (s.1 0)) d_O_about_51 f_O_258 rfl rfl hC.1.1.2.1 ?_
      refine M_ir d_O_about_54 rfl rfl ?_
      exact ⟨rfl, rfl⟩
    · refine J_tableIn (off := 54) (tgt := 55) d_O_about_1 (by decide) (by decide) (by decide) (by decide) ?_
      refine J_aload_n (i := 0) d_O_about_55 rfl rfl ?_
      refine M_getR (b := 18) d_O_about_56 f_O_48 rfl rfl rfl ?_
      refine M_get (x := (s.1 1)) d_O_about_59 f_O_85 rfl rfl hC.1.2.2.2.1.1 ?_
      refine M_ir d_O_about_62 rfl rfl ?_
      exact ⟨rfl, rfl⟩
    · refine J_tableIn (off := 62) (tgt := 63) d_O_about_1 (by decide) (by decide) (by decide) (by decide) ?_
      refine J_aload_n (i := 0) d_O_about_63 rfl rfl ?_
      refine M_getR (b := 18) d_O_about_64 f_O_48 rfl rfl rfl ?_
      refine M_get (x := (s.1 2)) d_O_about_67 f_O_100 rfl rfl hC.1.2.2.2.1.2.1 ?_
      refine M_ir d_O_about_70 rfl rfl ?_
      exact ⟨rfl, rfl⟩
    · refine J_tableIn (off := 70) (tgt := 71) d_O_about_1 (by decide) (by decide) (by decide) (by decide) ?_
      refine J_aload_n (i := 0) d_O_about_71 rfl rfl ?_
      refine M_getR (b := 18) d_O_about_72 f_O_48 rfl rfl rfl ?_
      refine M_getR (b := 22) d_O_about_75 f_O_135 rfl rfl rfl ?_
      refine M_get (x := (s.1 3)) d_O_about_78 f_O_341 rfl rfl hC.1.2.1.1 ?_
      refine M_ir d_O_about_81 rfl rfl ?_
      exact ⟨rfl, rfl⟩
    · refine J_tableIn (off := 81) (tgt := 82) d_O_about_1 (by decide) (by decide) (by decide) (by decide) ?_
      refine J_aload_n (i := 0) d_O_about_82 rfl rfl ?_
      refine M_getR (b := 18) d_O_about_83 f_O_48 rfl rfl rfl ?_
      refine CV_N (av := []) d_O_about_86 s_O_297 (M_rcv rfl (by decide) rfl) (S_H_countTold (sn := tn (s.1 26)) (un := tn (s.1 27)) (v_CSn hC hw)) (by decide) rfl rfl (Nat.le_of_ble_eq_true rfl) ?_
      refine M_ir d_O_about_89 rfl rfl ?_
      exact ⟨by rw [show aboutF s (nI 4) = s.1 4 from rfl, hw.1.2.2.1], rfl⟩
    · refine J_tableIn (off := 89) (tgt := 90) d_O_about_1 (by decide) (by decide) (by decide) (by decide) ?_
      refine J_aload_n (i := 0) d_O_about_90 rfl rfl ?_
      refine M_getR (b := 18) d_O_about_91 f_O_48 rfl rfl rfl ?_
      refine M_get (x := (s.1 5)) d_O_about_94 f_O_319 rfl rfl hC.1.2.2.2.1.2.2.2.2 ?_
      refine M_ir d_O_about_97 rfl rfl ?_
      exact ⟨rfl, rfl⟩
    · refine J_tableIn (off := 97) (tgt := 98) d_O_about_1 (by decide) (by decide) (by decide) (by decide) ?_
      refine J_aload_n (i := 0) d_O_about_98 rfl rfl ?_
      refine M_get (x := (nI s.2.2.2.1)) d_O_about_99 f_O_13 rfl rfl hC.2.2.2.1.1 ?_
      refine M_ir d_O_about_102 rfl rfl ?_
      exact ⟨rfl, rfl⟩
  · refine J_tableOut (tgt := 103) d_O_about_1 (sw_out (n := 6) (by decide) hsw) (by decide) ?_
    refine J_bipush (v := (-2)) d_O_about_103 rfl ?_
    refine M_ir d_O_about_105 rfl rfl ?_
    exact ⟨by rw [aboutF, if_neg (fun q => by
      obtain ⟨j, hj, rfl⟩ := inR_n q (by decide)
      rw [inR_nI (by omega) (by decide), decide_eq_false_iff_not] at hsw
      omega), if_neg (fun q => by rw [q] at hsw; cases hsw)], rfl⟩

theorem S_R_about {X : Mem} {s : Sg} {v : Int32} (hX : Ok X) (hC : RI X s) : CM 1 m_R_about [.ref 244, .int v] X (rI (aboutF s v) X) := by
  refine CM_of (L := [some (.ref 244), some (.int v)]) 0 ok_R_about (fun _ => Nat.le_of_ble_eq_true rfl) rfl ?_
  refine J_iload_n (i := 1) d_R_about_0 rfl rfl ?_
  refine J_iconst (v := nI 0) d_R_about_1 rfl ?_
  refine J_iconst (v := nI 5) d_R_about_2 rfl ?_
  refine CS_B (av := [.int v, .int (nI 0), .int (nI 5)]) d_R_about_3 s_R_89 (S_R_isIn) (by decide) rfl rfl (Nat.le_of_ble_eq_true rfl) ?_
  refine B_if_eq (tgt := 18) d_R_about_6 (by decide) (fun c6 => ?_) (fun c6 => ?_)
  · refine J_iload_n (i := 1) d_R_about_18 rfl rfl ?_
    refine J_bipush (v := nI 6) d_R_about_19 rfl ?_
    refine J_icmp_ne (tgt := 31) d_R_about_21 (by decide) (fun c21 => ?_) (fun c21 => ?_)
    · refine J_bipush (v := (-2)) d_R_about_31 rfl ?_
      refine M_ir d_R_about_33 rfl rfl ?_
      exact ⟨by rw [aboutF, show inR v 5 = false from c6, if_neg (show ¬ false = true by decide), if_neg c21], rfl⟩
    · refine J_aload_n (i := 0) d_R_about_24 rfl rfl ?_
      refine M_get (x := (nI s.2.2.2.1)) d_R_about_25 f_R_142 rfl rfl hC.2.2.2.1.1 ?_
      refine J_goto (tgt := 33) d_R_about_28 (by decide) ?_
      refine M_ir d_R_about_33 rfl rfl ?_
      exact ⟨by rw [aboutF, show inR v 5 = false from c6, if_neg (show ¬ false = true by decide), if_pos c21], rfl⟩
  · obtain ⟨v_, hv_, rfl⟩ := inR_n (n := 5) c6 (by decide)
    refine J_aload_n (i := 0) d_R_about_9 rfl rfl ?_
    refine M_getR (b := 245) d_R_about_10 f_R_7 rfl rfl rfl ?_
    refine J_iload_n (i := 1) d_R_about_13 rfl rfl ?_
    refine N_iald (x := (s.1 v_)) d_R_about_14 rfl (by omega) (ltL hX (a := 245) (n := 1217) (by decide) rfl (by omega)) (ri_at hC (by omega)) ?_
    refine J_goto (tgt := 33) d_R_about_15 (by decide) ?_
    refine M_ir d_R_about_33 rfl rfl ?_
    exact ⟨by rw [aboutF, show inR (nI v_) 5 = true from c6, if_pos rfl, tn_nI (by omega)], rfl⟩

