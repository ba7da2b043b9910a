def sdrR (r : Nat → Int32) (c : Nat) (i k t : Int32) : Nat → Int32 := upF (upF (upF (upF r (28 + 3 * c) i) (28 + 3 * c + 1) k) (28 + 3 * c + 2) t) 5 (nI (c + 1))
def saidS (s : Sg) (i k t : Int32) : Sg := if i = -1 then setr s (upF s.1 5 (nI 0)) else if sdB (mOf s.1) (tn (s.1 5)) i k t then setr s (sdrR s.1 (tn (s.1 5)) i k t) else s
theorem sdr_o {r : Nat → Int32} {c j : Nat} {i k t : Int32} (h5 : j ≠ 5) (h : j < 28 + 3 * c ∨ 28 + 3 * c + 2 < j) : sdrR r c i k t j = r j := by
  unfold sdrR
  rw [upF_o h5, upF_o (by omega), upF_o (by omega), upF_o (by omega)]
theorem sdr_5 {r : Nat → Int32} {c : Nat} {i k t : Int32} : sdrR r c i k t 5 = nI (c + 1) := upF_at
theorem sdr_i {r : Nat → Int32} {c : Nat} {i k t : Int32} : sdrR r c i k t (28 + 3 * c) = i := by
  unfold sdrR
  rw [upF_o (by omega), upF_o (by omega), upF_o (by omega), upF_at]
theorem sdr_k {r : Nat → Int32} {c : Nat} {i k t : Int32} : sdrR r c i k t (28 + 3 * c + 1) = k := by
  unfold sdrR
  rw [upF_o (by omega), upF_o (by omega), upF_at]
theorem sdr_t {r : Nat → Int32} {c : Nat} {i k t : Int32} : sdrR r c i k t (28 + 3 * c + 2) = t := by
  unfold sdrR
  rw [upF_o (by omega), upF_at]
theorem S_O_saidS {X : Mem} {s : Sg} {i k t : Int32} (hX : Ok X) (hC : CI X s) (hw : WFs s) : CM 2 m_O_said [.ref 8, .int i, .int k, .int t] X (fun q Y => q = some (.int (saidF (mOf s.1) (tn (s.1 5)) i k t)) ∧ pC X (saidS s i k t) Y) := CM.imp (S_O_said hX (v_CSt hC hw) (v_CSd hC hw)) (fun q Y h => by
  obtain ⟨h1, rfl⟩ := h
  refine ⟨h1, ?_⟩
  have w5 := wf_1 hw.1 (j := 5) (n := 8) (by decide) (by decide) (by decide)
  generalize hc : tn (s.1 5) = c at *
  have l1 : (X.2.1 115).length = 8 := hX.1 115 (by decide)
  have l2 : (X.2.1 116).length = 8 := hX.1 116 (by decide)
  have l3 : (X.2.1 117).length = 8 := hX.1 117 (by decide)
  unfold saidX saidS
  rw [hc]
  split
  · refine ⟨okF hX, CI_18 hC (fun b hb k => pF_o hb) (pF_k (by decide)) (fun b _ _ _ => rfl) (fun j _ _ h5 _ => upF_o h5) ?_ ?_ ?_ (pF_at.trans upF_at.symm) (fun j hj => ?_), sR_F (by decide)⟩
    · exact (pF_k (by decide)).trans (hC.1.2.2.2.1.2.1.trans (upF_o (by decide)).symm)
    · exact (pF_k (by decide)).trans (hC.1.2.2.2.1.2.2.1.trans (upF_o (by decide)).symm)
    · exact (pF_k (by decide)).trans (hC.1.2.2.2.1.2.2.2.1.trans (upF_o (by decide)).symm)
    · have h := hC.1.2.2.2.2 j hj
      exact ⟨h.1.trans (upF_o (by omega)).symm, h.2.1.trans (upF_o (by omega)).symm, h.2.2.trans (upF_o (by omega)).symm⟩
  · split
    · rename_i hs
      have c8 : c < 8 := by
        simp only [sdB, Bool.and_eq_true] at hs
        exact of_decide_eq_true hs.2
      refine ⟨okF (okA (okA (okA hX rfl (by rw [List.length_set])) rfl (by rw [List.length_set]; rfl)) rfl (by rw [List.length_set]; rfl)), CI_18 hC (fun b hb k => pF_o hb) (pF_k (by decide)) (fun b b1 b2 b3 => ?_) (fun j _ _ h5 hj => sdr_o h5 (by omega)) ?_ ?_ ?_ (pF_at.trans sdr_5.symm) (fun j hj => ?_), sR_t (sR_t (sR_t (sR_A (by decide)) (sR_A (by decide))) (sR_A (by decide))) (sR_F (by decide))⟩
      · show (if b = 117 then _ else if b = 116 then _ else if b = 115 then _ else X.2.1 b) = X.2.1 b
        rw [if_neg b3, if_neg b2, if_neg b1]
      · exact (pF_k (by decide)).trans (hC.1.2.2.2.1.2.1.trans (sdr_o (by decide) (by omega)).symm)
      · exact (pF_k (by decide)).trans (hC.1.2.2.2.1.2.2.1.trans (sdr_o (by decide) (by omega)).symm)
      · exact (pF_k (by decide)).trans (hC.1.2.2.2.1.2.2.2.1.trans (sdr_o (by decide) (by omega)).symm)
      · have h := hC.1.2.2.2.2 j hj
        show ((X.2.1 115).set c i).getD j 0 = _ ∧ ((X.2.1 116).set c k).getD j 0 = _ ∧ ((X.2.1 117).set c t).getD j 0 = _
        by_cases e : j = c
        · rw [e, set_eq (by omega), set_eq (by omega), set_eq (by omega)]
          exact ⟨sdr_i.symm, sdr_k.symm, sdr_t.symm⟩
        · rw [set_ne (Ne.symm e), set_ne (Ne.symm e), set_ne (Ne.symm e)]
          exact ⟨h.1.trans (sdr_o (by omega) (by omega)).symm, h.2.1.trans (sdr_o (by omega) (by omega)).symm, h.2.2.trans (sdr_o (by omega) (by omega)).symm⟩
    · exact pC_0 hX hC)
theorem S_R_saidS {X : Mem} {s : Sg} {i k t : Int32} (hX : Ok X) (hC : RI X s) (hw : WFs s) : CM 2 m_R_said [.ref 244, .int i, .int k, .int t] X (fun q Y => q = some (.int (saidF (mOf s.1) (tn (s.1 5)) i k t)) ∧ pR X (saidS s i k t) Y) := CM.imp (S_R_said hX (v_RSt hC hw) (v_RSd hC hw)) (fun q Y h => by
  obtain ⟨h1, rfl⟩ := h
  refine ⟨h1, ?_⟩
  unfold saidR saidS
  split
  · rw [hC.1, ofF_set]
    exact ⟨okRow hX, RI_row hC (upF_o (by decide)), sC_A (by decide)⟩
  · split
    · rw [hC.1, ofF_set, ofF_set, ofF_set, ofF_set]
      exact ⟨okRow hX, RI_row hC (sdr_o (by decide) (by omega)), sC_A (by decide)⟩
    · rw [pA_eta]; exact pR_0 hX hC)
theorem bd_said : ∀ c, c < 8 → bd (28 + 3 * c) = 7 ∧ bd (28 + 3 * c + 1) = 19 ∧ bd (28 + 3 * c + 2) = 10 := by decide
theorem WF_saidS {s : Sg} {i k t : Int32} (hw : WFs s) : WFs (saidS s i k t) := by
  have w0 : mOf s.1 ≤ 8 := (wf_1 hw.1 (j := 0) (n := 8) (by decide) (by decide) (by decide)).2
  unfold saidS
  split
  · refine WF_18 hw (fun j _ _ h5 _ => upF_o h5) (fun j hj => ?_) ?_ ?_ (fun i hi => ?_)
    · by_cases e : j = 5
      · rw [e, upF_at]; decide
      · rw [upF_o e]; exact hw.1.1 j (by omega) (by omega)
    · rw [upF_o (by decide)]; exact hw.1.2.1
    · rw [upF_o (by decide), upF_o (by decide), upF_o (by decide)]; exact hw.1.2.2.1
    · rw [upF_at, show tn (nI 0) = 0 from rfl] at hi
      exact absurd hi (Nat.not_lt_zero _)
  · split
    · rename_i hs
      simp only [sdB, Bool.and_eq_true] at hs
      have c8 := of_decide_eq_true hs.2
      obtain ⟨i', hi', rfl⟩ := mk_n w0 hs.1.1.1
      obtain ⟨k', hk', rfl⟩ := inR_n hs.1.1.2 (by decide)
      obtain ⟨t', ht', rfl⟩ := inR_n hs.1.2 (by decide)
      have hlt := hw.1.2.2.2
      generalize tn (s.1 5) = c at *
      have hb := bd_said c c8
      refine WF_18 hw (fun j _ _ h5 hj => sdr_o h5 (by omega)) (fun j hj => ?_) ?_ ?_ (fun i hi => ?_)
      · by_cases e : j = 5
        · rw [e, sdr_5, show bd 5 = 8 from rfl, inR_nI (by omega) (by decide)]; exact decide_eq_true (by omega)
        · by_cases e1 : j = 28 + 3 * c
          · rw [e1, sdr_i, hb.1, inR_nI (by omega) (by decide)]; exact decide_eq_true (by omega)
          · by_cases e2 : j = 28 + 3 * c + 1
            · rw [e2, sdr_k, hb.2.1, inR_nI (by omega) (by decide)]; exact decide_eq_true hk'
            · by_cases e3 : j = 28 + 3 * c + 2
              · rw [e3, sdr_t, hb.2.2, inR_nI (by omega) (by decide)]; exact decide_eq_true ht'
              · rw [sdr_o e (by omega)]; exact hw.1.1 j (by omega) (by omega)
      · rw [sdr_o (by decide) (by omega)]; exact hw.1.2.1
      · rw [sdr_o (by decide) (by omega), sdr_o (by decide) (by omega), sdr_o (by decide) (by omega)]; exact hw.1.2.2.1
      · rw [sdr_5, tn_nI (by omega)] at hi
        by_cases e : i = c
        · rw [e, sdr_i, tn_nI (by omega)]; exact hi'
        · rw [sdr_o (by omega) (by omega)]
          exact hlt i (by omega)
    · exact hw
-- the tape
def stp (s : Sg) (tp : Nat → Int32) (m : Nat) : Sg := (s.1, (s.2.1, (tp, (m, s.2.2.2.2))))
def endS (s : Sg) (v : Int32) : Sg := if inR v s.2.2.2.1 then stp s s.2.2.1 (tn v) else s
def endF (s : Sg) (v : Int32) : Int32 := if inR v s.2.2.2.1 then v else (-1)
def fdS (s : Sg) (a b c d e : Int32) : Sg := if s.2.2.2.1 + 20 ≤ 300 then stp s (tpF s.2.2.1 s.2.2.2.1 a b c d e) (s.2.2.2.1 + 20) else s
def fdF (s : Sg) : Int32 := if s.2.2.2.1 + 20 ≤ 300 then nI (s.2.2.2.1 + 20) else (-1)
theorem CI_tp {X Y : Mem} {s : Sg} {tp : Nat → Int32} {m : Nat} (hC : CI X s) (ho : ∀ b, b ≠ 8 → ∀ k, Y.1 b k = X.1 b k) (ho8 : ∀ k, k ≠ 1 → Y.1 8 k = X.1 8 k) (ha : ∀ b, b ≠ 9 → Y.2.1 b = X.2.1 b) (h1 : Y.1 8 1 = nI m) (ht : ∀ i, i < 300 → (Y.2.1 9).getD i 0 = tp i) : CI Y (stp s tp m) := by
  obtain ⟨k1, k2, k3, ⟨g1, g2, g3⟩, k5⟩ := hC
  exact ⟨CHeld_on (fun b q1 q2 => ⟨fun k => ho _ (by omega) k, ha _ (by omega)⟩) k1, CHeld_on (fun b q1 q2 => ⟨fun k => ho _ (by omega) k, ha _ (by omega)⟩) k2, ht, ⟨h1, (ho8 2 (by decide)).trans g2, (ho8 3 (by decide)).trans g3⟩, fun t ht ht4 => CTxt_on (fun b q1 q2 => ⟨fun k => ho _ (by omega) k, ha _ (by omega)⟩) (k5 t ht ht4)⟩
theorem RI_tp {X Y : Mem} {s : Sg} {tp : Nat → Int32} {m : Nat} (hC : RI X s) (ho8 : ∀ k, k ≠ 9 → Y.1 244 k = X.1 244 k) (ha : ∀ b, b ≠ 253 → Y.2.1 b = X.2.1 b) (h1 : Y.1 244 9 = nI m) (ht : ∀ i, i < 300 → (Y.2.1 253).getD i 0 = tp i) : RI Y (stp s tp m) := by
  obtain ⟨k1, k2, k3, ⟨g1, g2, g3, g4⟩, k5⟩ := hC
  exact ⟨(ha 245 (by decide)).trans k1, (ha 246 (by decide)).trans k2, ht, ⟨h1, (ho8 10 (by decide)).trans g2, (ho8 11 (by decide)).trans g3, (ho8 30 (by decide)).trans g4⟩, fun t ht ht4 => RTxt_e (ha 251 (by decide)) (k5 t ht ht4)⟩
theorem WF_tp {s : Sg} {tp : Nat → Int32} {m : Nat} (hw : WFs s) (hm : m ≤ 300) (ht : ∀ i, i < 300 → inR (tp i) 255 = true) : WFs (stp s tp m) := ⟨hw.1, hw.2.1, hw.2.2.1, ⟨hm, ht⟩, hw.2.2.2.2⟩
theorem S_O_endS {X : Mem} {s : Sg} {v : Int32} (hX : Ok X) (hC : CI X s) (hw : WFs s) : CM 1 m_O_end [.ref 8, .int v] X (fun q Y => q = some (.int (endF s v)) ∧ pC X (endS s v) Y) := CM.imp (S_O_end hC.2.2.2.1.1 hw.2.2.2.1.1) (fun q Y h => by
  obtain ⟨h1, rfl⟩ := h
  refine ⟨h1, ?_⟩
  unfold endS
  split
  · rename_i h
    obtain ⟨j, hj, rfl⟩ := inR_n h (Nat.lt_of_le_of_lt hw.2.2.2.1.1 (by decide))
    have h300 := hw.2.2.2.1.1
    rw [tn_nI (by omega)]
    exact ⟨okF hX, CI_tp hC (fun b hb k => pF_o hb) (fun k hk => pF_k hk) (fun _ _ => rfl) pF_at hC.2.2.1, sR_F (by decide)⟩
  · exact pC_0 hX hC)
theorem S_R_endS {X : Mem} {s : Sg} {v : Int32} (hX : Ok X) (hC : RI X s) (hw : WFs s) : CM 1 m_R_end [.ref 244, .int v] X (fun q Y => q = some (.int (endF s v)) ∧ pR X (endS s v) Y) := CM.imp (S_R_end hC.2.2.2.1.1 hw.2.2.2.1.1) (fun q Y h => by
  obtain ⟨h1, rfl⟩ := h
  refine ⟨h1, ?_⟩
  unfold endS
  split
  · rename_i h
    obtain ⟨j, hj, rfl⟩ := inR_n h (Nat.lt_of_le_of_lt hw.2.2.2.1.1 (by decide))
    have h300 := hw.2.2.2.1.1
    rw [tn_nI (by omega)]
    exact ⟨okF hX, RI_tp hC (fun k hk => pF_k hk) (fun _ _ => rfl) pF_at hC.2.2.1, sC_F (by decide)⟩
  · exact pR_0 hX hC)
theorem WF_endS {s : Sg} {v : Int32} (hw : WFs s) : WFs (endS s v) := by
  unfold endS
  split
  · rename_i h
    have h300 := hw.2.2.2.1.1
    obtain ⟨j, hj, rfl⟩ := inR_n h (Nat.lt_of_le_of_lt hw.2.2.2.1.1 (by decide))
    rw [tn_nI (by omega)]
    exact WF_tp hw (by omega) hw.2.2.2.1.2
  · exact hw
theorem byt_in (w : Int32) (k : Nat) : inR (byt w k) 255 = true := by
  unfold byt
  obtain ⟨q, hq⟩ := nI_ex (w >>> (nI k &&& 31))
  rw [hq, show nI q &&& nI 255 = nI (q &&& 255) from fa_and q 255]
  have : q &&& 255 ≤ 255 := Nat.and_le_right
  rw [inR_nI (by omega) (by decide)]
  exact decide_eq_true this
theorem tpW_in {tp : Nat → Int32} {m : Nat} {w : Int32} (h : ∀ i, i < 300 → inR (tp i) 255 = true) : ∀ i, i < 300 → inR (tpW tp m w i) 255 = true := fun i hi => by
  unfold tpW
  split
  · exact byt_in _ _
  · split
    · exact byt_in _ _
    · split
      · exact byt_in _ _
      · split
        · exact byt_in _ _
        · exact h i hi
theorem S_O_feedS {X : Mem} {s : Sg} {a b c d e : Int32} (hX : Ok X) (hC : CI X s) (hw : WFs s) : CM 1 m_O_feed [.ref 8, .int a, .int b, .int c, .int d, .int e] X (fun q Y => q = some (.int (fdF s)) ∧ pC X (fdS s a b c d e) Y) := CM.imp (S_O_feed hX ⟨hC.2.2.2.1.1, hC.2.2.1⟩ hw.2.2.2.1.1) (fun q Y h => by
  obtain ⟨h1, h2⟩ := h
  refine ⟨h1, ?_⟩
  unfold fdS
  split
  · rename_i hl
    rw [if_pos hl] at h2
    obtain ⟨l, hl2, rfl, hl3⟩ := h2
    exact ⟨okA (okF hX) rfl (by rw [hl2]; exact (hX.1 9 (by decide)).symm), CI_tp hC (fun b hb k => pF_o hb) (fun k hk => pF_k hk) (fun b hb => if_neg hb) (show (pF X 8 1 (nI (s.2.2.2.1 + 20))).1 8 1 = _ from pF_at) hl3, sR_t (sR_F (by decide)) (sR_A (by decide))⟩
  · rename_i hl
    rw [if_neg hl] at h2
    subst h2
    exact pC_0 hX hC)
theorem S_R_feedS {X : Mem} {s : Sg} {a b c d e : Int32} (hX : Ok X) (hC : RI X s) (hw : WFs s) : CM 1 m_R_feed [.ref 244, .int a, .int b, .int c, .int d, .int e] X (fun q Y => q = some (.int (fdF s)) ∧ pR X (fdS s a b c d e) Y) := CM.imp (S_R_feed hX ⟨hC.2.2.2.1.1, hC.2.2.1⟩ hw.2.2.2.1.1) (fun q Y h => by
  obtain ⟨h1, h2⟩ := h
  refine ⟨h1, ?_⟩
  unfold fdS
  split
  · rename_i hl
    rw [if_pos hl] at h2
    obtain ⟨l, hl2, rfl, hl3⟩ := h2
    exact ⟨okA (okF hX) rfl (by rw [hl2]; exact (hX.1 253 (by decide)).symm), RI_tp hC (fun k hk => pF_k hk) (fun b hb => if_neg hb) (show (pF X 244 9 (nI (s.2.2.2.1 + 20))).1 244 9 = _ from pF_at) hl3, sC_t (sC_F (by decide)) (sC_A (by decide))⟩
  · rename_i hl
    rw [if_neg hl] at h2
    subst h2
    exact pR_0 hX hC)
theorem WF_fdS {s : Sg} {a b c d e : Int32} (hw : WFs s) : WFs (fdS s a b c d e) := by
  unfold fdS
  split
  · rename_i h
    exact WF_tp hw h (tpW_in (tpW_in (tpW_in (tpW_in (tpW_in hw.2.2.2.1.2)))))
  · exact hw
