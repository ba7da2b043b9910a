def setg (s : Sg) (g : Nat → Int32) : Sg := setr s (rowOf s.1 g)
def hkp (s : Sg) : Sg := setr s (kpR s.1)
def gNw (s : Sg) : Nat → Int32 := nowG s.1
theorem CI_now {X Y : Mem} {s : Sg} {g : Nat → Int32} (hC : CI X s) (hw : WFs s) (hN : CNow Y 19 g) (ho : offP 19 X Y) : CI Y (setg s g) := by
  have w3 := wf_1 hw.1 (j := 3) (n := 30) (by decide) (by decide) (by decide)
  obtain ⟨⟨k1, ⟨h2, e, he, h3, h4⟩, k5, ⟨g1, g2, g3, g4, g5⟩, k7⟩, hk, h8, ⟨h9, h10, h11⟩, h12⟩ := hC
  have o1 : ∀ b, b ≠ 19 → b ≠ 16 → ∀ k, Y.1 b k = X.1 b k := ho.1
  have o2 : ∀ b, b ≠ 20 → b ≠ 21 → b ≠ 17 → Y.2.1 b = X.2.1 b := ho.2.1
  refine ⟨⟨?_, ⟨?_, e, he, ?_, fun i hi => ?_⟩, fun i hi => ?_, ⟨?_, ?_, ?_, ?_, ?_⟩, fun i hi => ?_⟩, ?_, fun i hi => ?_, ⟨?_, ?_, ?_⟩, fun t ht ht4 => ?_⟩
  · exact CNow_g (fun k hk => (now_row s.1 g hk).symm) hN
  · rw [o1 _ (by decide) (by decide)]; exact h2.trans (row_o s.1 g (by decide) (by decide) (by decide)).symm
  · rw [o1 _ (by decide) (by decide)]; exact h3
  · have hi : i < tn (rowOf s.1 g 3) := hi
    rw [row_o s.1 g (by decide) (by decide) (by decide)] at hi
    have hb : (e + i) % 30 < 30 := Nat.mod_lt _ (by decide)
    refine CNow_g (fun k hk => ?_) (CNow_on (fun k => o1 _ (by omega) (by omega) k) (o2 _ (by omega) (by omega) (by omega)) (o2 _ (by omega) (by omega) (by omega)) (h4 i hi))
    exact (row_o s.1 g (by omega) (by omega) (by omega)).symm
  · rw [o2 _ (by omega) (by omega) (by omega)]; exact (k5 i hi).trans (row_o s.1 g (by omega) (by omega) (by omega)).symm
  · rw [o1 _ (by decide) (by decide)]; exact g1.trans (row_o s.1 g (by decide) (by decide) (by decide)).symm
  · rw [o1 _ (by decide) (by decide)]; exact g2.trans (row_o s.1 g (by decide) (by decide) (by decide)).symm
  · rw [o1 _ (by decide) (by decide)]; exact g3.trans (row_o s.1 g (by decide) (by decide) (by decide)).symm
  · rw [o1 _ (by decide) (by decide)]; exact g4.trans (row_o s.1 g (by decide) (by decide) (by decide)).symm
  · rw [o1 _ (by decide) (by decide)]; exact g5.trans (row_o s.1 g (by decide) (by decide) (by decide)).symm
  · rw [o2 _ (by decide) (by decide) (by decide), o2 _ (by decide) (by decide) (by decide), o2 _ (by decide) (by decide) (by decide)]
    have h := k7 i hi
    exact ⟨h.1.trans (row_o s.1 g (by omega) (by omega) (by omega)).symm, h.2.1.trans (row_o s.1 g (by omega) (by omega) (by omega)).symm, h.2.2.trans (row_o s.1 g (by omega) (by omega) (by omega)).symm⟩
  · exact CHeld_on (fun b q1 q2 => ⟨fun k => o1 _ (by omega) (by omega) k, o2 _ (by omega) (by omega) (by omega)⟩) hk
  · rw [o2 _ (by decide) (by decide) (by decide)]; exact h8 i hi
  · rw [o1 _ (by decide) (by decide)]; exact h9
  · rw [o1 _ (by decide) (by decide)]; exact h10
  · rw [o1 _ (by decide) (by decide)]; exact h11
  · have ht : t < tn (rowOf s.1 g 1) := ht
    rw [row_o s.1 g (by decide) (by decide) (by decide)] at ht
    exact CTxt_on (fun b q1 q2 => ⟨fun k => o1 _ (by omega) (by omega) k, o2 _ (by omega) (by omega) (by omega)⟩) (h12 t ht ht4)
theorem RI_now {X Y : Mem} {s : Sg} {g : Nat → Int32} (hC : RI X s) (hN : RNow Y s.1 g) (ho : offR X Y) : RI Y (setg s g) := by
  obtain ⟨h1, h2, h3, ⟨g1, g2, g3, g4⟩, h5⟩ := hC
  refine ⟨hN, ?_, fun i hi => ?_, ⟨?_, ?_, ?_, ?_⟩, fun t ht ht4 => ?_⟩
  · rw [ho.2.1 246 (by decide) (by decide) (by decide)]; exact h2
  · rw [ho.2.1 253 (by decide) (by decide) (by decide)]; exact h3 i hi
  · rw [ho.1 244 9 (Or.inr (by decide))]; exact g1
  · rw [ho.1 244 10 (Or.inr (by decide))]; exact g2
  · rw [ho.1 244 11 (Or.inr (by decide))]; exact g3
  · rw [ho.1 244 30 (Or.inr (by decide))]; exact g4
  · have ht : t < tn (rowOf s.1 g 1) := ht
    rw [row_o s.1 g (by decide) (by decide) (by decide)] at ht
    exact RTxt_e (ho.2.1 251 (by decide) (by decide) (by decide)) (h5 t ht ht4)
theorem RN_hkp {X : Mem} {r : Nat → Int32} : RNow (pA X 245 (ofF 1217 (kpR r))) (kpR r) (nowG r) := by
  unfold RNow
  rw [pA_at, ← row_self (kpR r)]
  exact row_cong (fun k hk => kp_now r hk)
theorem RN_self {X : Mem} {s : Sg} (h : RI X s) : RNow X s.1 (nowG s.1) := by
  unfold RNow
  rw [row_self]
  exact h.1
theorem sC_offR {X Y : Mem} (h : offR X Y) : sC X Y := ⟨fun b hb => ⟨fun k => h.1 b k (Or.inl (by omega)), h.2.1 b (by omega) (by omega) (by omega), h.2.2.1 b (by omega)⟩, by rw [h.2.2.2]⟩
theorem sR_P {X Y : Mem} (h : offP 19 X Y) : sR X Y := ⟨fun b hb => ⟨fun k => h.1 b (by omega) (by omega) k, h.2.1 b (by omega) (by omega) (by omega), by rw [h.2.2]⟩, by rw [h.2.2]⟩
theorem bd_now : ∀ j, j < 1217 → (j = 0 → bd j = bdN 0) ∧ (6 ≤ j ∧ j < 18 → bd j = bdN (j - 5)) ∧ (1192 ≤ j → bd j = bdN (j - 1179)) := by
  have c : allN (fun j => decide ((j = 0 → bd j = bdN 0) ∧ (6 ≤ j ∧ j < 18 → bd j = bdN (j - 5)) ∧ (1192 ≤ j → bd j = bdN (j - 1179)))) 1217 = true := by decide +kernel
  exact fun j hj => of_decide_eq_true (allN_iff.mp c j hj)
theorem WF_g {s : Sg} {g : Nat → Int32} (hw : WFs s) (hg : WFg g) (h0 : tn (s.1 0) ≤ tn (g 0)) : WFs (setg s g) := by
  obtain ⟨⟨w1, w2, w3, w4⟩, h2, h3, h4, h5⟩ := hw
  have o1 := row_o s.1 g (j := 1) (by decide) (by decide) (by decide)
  have o2 := row_o s.1 g (j := 2) (by decide) (by decide) (by decide)
  have o4 := row_o s.1 g (j := 4) (by decide) (by decide) (by decide)
  have o5 := row_o s.1 g (j := 5) (by decide) (by decide) (by decide)
  have o26 := row_o s.1 g (j := 26) (by decide) (by decide) (by decide)
  have o27 := row_o s.1 g (j := 27) (by decide) (by decide) (by decide)
  have w5 : tn (s.1 5) ≤ 8 := (wf_1 (r := s.1) ⟨w1, w2, w3, w4⟩ (j := 5) (n := 8) (by decide) (by decide) (by decide)).2
  refine ⟨⟨fun j hj hj2 => ?_, ?_, ?_, fun i hi => ?_⟩, h2, ?_, h4, fun t ht => ?_⟩
  · show inR (rowOf s.1 g j) (bd j) = true
    have b := bd_now j hj
    unfold rowOf
    by_cases q0 : j = 0
    · rw [if_pos q0, b.1 q0]; exact hg 0 (by decide)
    · rw [if_neg q0]
      by_cases q1 : 6 ≤ j ∧ j < 18
      · rw [if_pos q1, b.2.1 q1]; exact hg _ (by omega)
      · rw [if_neg q1]
        by_cases q2 : 1192 ≤ j ∧ j < 1217
        · rw [if_pos q2, b.2.2 q2.1]; exact hg _ (by omega)
        · rw [if_neg q2]; exact w1 j hj hj2
  · show rowOf s.1 g 2 = -1 ∨ mkB (tn (rowOf s.1 g 1)) (rowOf s.1 g 2) = true
    rw [o1, o2]; exact w2
  · show rowOf s.1 g 4 = nI (bc (tn (rowOf s.1 g 26) ||| tn (rowOf s.1 g 27)))
    rw [o4, o26, o27]; exact w3
  · have hi : i < tn (rowOf s.1 g 5) := hi
    rw [o5] at hi
    show tn (rowOf s.1 g (28 + 3 * i)) < tn (rowOf s.1 g 0)
    rw [row_o s.1 g (by omega) (by omega) (by omega)]
    exact Nat.lt_of_lt_of_le (w4 i hi) h0
  · show tn (s.2.1 1) ≤ tn (rowOf s.1 g 1)
    rw [o1]; exact h3
  · have ht : t < tn (rowOf s.1 g 1) := ht
    rw [o1] at ht
    exact h5 t ht
theorem bd_st : ∀ j, 52 ≤ j → j < 1192 → bd j = bdN ((j - 52) % 38) := fun j h1 h2 => by
  unfold bd
  rw [if_neg (by omega), if_neg (by omega), if_neg (by omega), if_neg (by omega), if_neg (by omega), if_neg (by omega), if_neg (by omega), if_neg (by omega), if_neg (by omega), if_neg (by omega), if_neg (by omega), if_pos h2]
theorem WFr_kp {r : Nat → Int32} (h : WFr r) : WFr (kpR r) := by
  have hg := WFg_r h
  have w3 := wf_1 h (j := 3) (n := 30) (by decide) (by decide) (by decide)
  have w5 := wf_1 h (j := 5) (n := 8) (by decide) (by decide) (by decide)
  obtain ⟨w1, w2, w4, w6⟩ := h
  refine ⟨fun j hj hj2 => ?_, ?_, ?_, fun i hi => ?_⟩
  · by_cases q : j < 52 ∨ 1192 ≤ j
    · by_cases q3 : j = 3
      · rw [q3, kp_3, show bd 3 = 30 from rfl, inR_nI (by omega) (by decide)]
        exact decide_eq_true (by omega)
      · rw [kp_o r q3 q]; exact w1 j hj hj2
    · have hb := bd_st j (by omega) (by omega)
      rw [hb]
      unfold kpR
      rw [if_neg (by omega)]
      split
      · rename_i q2
        rw [show (j - 52) % 38 = j - (52 + 38 * min (tn (r 3)) 29) by omega]
        exact hg _ (by omega)
      · split
        · have := w1 (j + 38) (by omega) (by omega)
          rw [bd_st (j + 38) (by omega) (by omega), show (j + 38 - 52) % 38 = (j - 52) % 38 by omega] at this
          exact this
        · have := w1 j hj hj2
          rw [hb] at this
          exact this
  · rw [kp_o r (by decide) (by decide), kp_o r (by decide) (by decide)]; exact w2
  · rw [kp_o r (by decide) (by decide), kp_o r (by decide) (by decide), kp_o r (by decide) (by decide)]; exact w4
  · rw [kp_o r (by decide) (by decide)] at hi
    rw [kp_o r (by omega) (by omega), kp_o r (by decide) (by decide)]
    exact w6 i hi
theorem WF_kp {s : Sg} (hw : WFs s) : WFs (hkp s) := by
  obtain ⟨h1, h2, h3, h4, h5⟩ := hw
  have o1 := kp_o s.1 (j := 1) (by decide) (by decide)
  refine ⟨WFr_kp h1, h2, ?_, h4, fun t ht => ?_⟩
  · show tn (s.2.1 1) ≤ tn (kpR s.1 1)
    rw [o1]; exact h3
  · have ht : t < tn (kpR s.1 1) := ht
    rw [o1] at ht
    exact h5 t ht
/-- now, behind a step kept -/
theorem CN_hkp {X : Mem} {s : Sg} (hC : CI X (hkp s)) : CNow X 19 (nowG s.1) := CNow_g (fun k hk => kp_now s.1 hk) hC.1.1
theorem setg_hkp (s : Sg) (g : Nat → Int32) : setg (hkp s) g = setr s (rowOf (kpR s.1) g) := rfl
theorem pC_t {X Y Z : Mem} {s t : Sg} (h1 : pC X s Y) (h2 : pC Y t Z) : pC X t Z := ⟨h2.1, h2.2.1, sR_t h1.2.2 h2.2.2⟩
theorem pR_t {X Y Z : Mem} {s t : Sg} (h1 : pR X s Y) (h2 : pR Y t Z) : pR X t Z := ⟨h2.1, h2.2.1, sC_t h1.2.2 h2.2.2⟩
theorem pC_now {X Y Z : Mem} {s t : Sg} {g : Nat → Int32} (h1 : pC X s Y) (hw : WFs s) (hZ : Ok Z) (hN : CNow Z 19 g) (ho : offP 19 Y Z) (ht : setg s g = t) : pC X t Z := by
  subst ht
  exact ⟨hZ, CI_now h1.2.1 hw hN ho, sR_t h1.2.2 (sR_P ho)⟩
theorem pC_0 {X : Mem} {s : Sg} (hX : Ok X) (hC : CI X s) : pC X s X := ⟨hX, hC, sR_0 X⟩
theorem pR_0 {X : Mem} {s : Sg} (hX : Ok X) (hC : RI X s) : pR X s X := ⟨hX, hC, sC_0 X⟩
theorem WFg_now {s : Sg} (hw : WFs s) : WFg (nowG s.1) := WFg_r hw.1
