theorem CI_18 {X Y : Mem} {s : Sg} {r' : Nat → Int32} (hC : CI X s) (ho : ∀ b, b ≠ 18 → ∀ k, Y.1 b k = X.1 b k) (ho3 : Y.1 18 3 = X.1 18 3) (ha : ∀ b, b ≠ 115 → b ≠ 116 → b ≠ 117 → Y.2.1 b = X.2.1 b) (hr : ∀ j, j ≠ 2 → j ≠ 4 → j ≠ 5 → (j < 26 ∨ 52 ≤ j) → r' j = s.1 j) (q4 : Y.1 18 4 = r' 2) (q5 : Y.1 18 5 = r' 26) (q6 : Y.1 18 6 = r' 27) (q7 : Y.1 18 7 = r' 5) (qs : ∀ i, i < 8 → (Y.2.1 115).getD i 0 = r' (28 + 3 * i) ∧ (Y.2.1 116).getD i 0 = r' (28 + 3 * i + 1) ∧ (Y.2.1 117).getD i 0 = r' (28 + 3 * i + 2)) : CI Y (setr s r') := by
  obtain ⟨⟨k1, ⟨h2, e, he, h3, h4⟩, k5, ⟨g1, g2, g3, g4, g5⟩, k7⟩, hk, h8, ⟨h9, h10, h11⟩, h12⟩ := hC
  refine ⟨⟨?_, ⟨?_, e, he, ?_, fun i hi => ?_⟩, fun i hi => ?_, ⟨?_, q4, q5, q6, q7⟩, qs⟩, ?_, fun i hi => ?_, ⟨?_, ?_, ?_⟩, fun t ht ht4 => ?_⟩
  · refine CNow_g (fun k hk => ?_) (CNow_on (fun k => ho _ (by decide) k) (ha _ (by decide) (by decide) (by decide)) (ha _ (by decide) (by decide) (by decide)) k1)
    show nowG s.1 k = nowG r' k
    unfold nowG
    split
    · exact (hr _ (by decide) (by decide) (by decide) (by decide)).symm
    · split
      · exact (hr _ (by omega) (by omega) (by omega) (by omega)).symm
      · exact (hr _ (by omega) (by omega) (by omega) (by omega)).symm
  · rw [ho _ (by decide)]; exact h2.trans (hr 3 (by decide) (by decide) (by decide) (by decide)).symm
  · rw [ho _ (by decide)]; exact h3
  · have hi : i < tn (r' 3) := hi
    rw [hr 3 (by decide) (by decide) (by decide) (by decide)] at hi
    have hb : (e + i) % 30 < 30 := Nat.mod_lt _ (by decide)
    refine CNow_g (fun k hk => ?_) (CNow_on (fun k => ho _ (by omega) k) (ha _ (by omega) (by omega) (by omega)) (ha _ (by omega) (by omega) (by omega)) (h4 i hi))
    exact (hr (52 + 38 * i + k) (by omega) (by omega) (by omega) (by omega)).symm
  · rw [ha _ (by decide) (by decide) (by decide)]; exact (k5 i hi).trans (hr _ (by omega) (by omega) (by omega) (by omega)).symm
  · exact ho3.trans (g1.trans (hr 1 (by decide) (by decide) (by decide) (by decide)).symm)
  · exact CHeld_on (fun b q1 q2 => ⟨fun k => ho _ (by omega) k, ha _ (by omega) (by omega) (by omega)⟩) hk
  · rw [ha _ (by decide) (by decide) (by decide)]; exact h8 i hi
  · rw [ho _ (by decide)]; exact h9
  · rw [ho _ (by decide)]; exact h10
  · rw [ho _ (by decide)]; exact h11
  · have ht : t < tn (r' 1) := ht
    rw [hr 1 (by decide) (by decide) (by decide) (by decide)] at ht
    exact CTxt_on (fun b q1 q2 => ⟨fun k => ho _ (by omega) k, ha _ (by omega) (by omega) (by omega)⟩) (h12 t ht ht4)
/-- the same but for 2, 4, 5, 26 .. 51 -/
theorem WF_18 {s : Sg} {r' : Nat → Int32} (hw : WFs s) (hr : ∀ j, j ≠ 2 → j ≠ 4 → j ≠ 5 → (j < 26 ∨ 52 ≤ j) → r' j = s.1 j) (hb : ∀ j, j = 4 ∨ j = 5 ∨ (26 ≤ j ∧ j < 52) → inR (r' j) (bd j) = true) (h2 : r' 2 = -1 ∨ mkB (tn (s.1 1)) (r' 2) = true) (h4 : r' 4 = nI (bc (tn (r' 26) ||| tn (r' 27)))) (h5 : ∀ i, i < tn (r' 5) → tn (r' (28 + 3 * i)) < tn (s.1 0)) : WFs (setr s r') := by
  obtain ⟨⟨w1, w2, w3, w4⟩, v2, v3, v4, v5⟩ := hw
  have e0 := hr 0 (by decide) (by decide) (by decide) (by decide)
  have e1 := hr 1 (by decide) (by decide) (by decide) (by decide)
  refine ⟨⟨fun j hj hj2 => ?_, ?_, h4, fun i hi => ?_⟩, v2, ?_, v4, fun t ht => ?_⟩
  · show inR (r' j) (bd j) = true
    by_cases q : j = 4 ∨ j = 5 ∨ (26 ≤ j ∧ j < 52)
    · exact hb j q
    · rw [hr j hj2 (by omega) (by omega) (by omega)]; exact w1 j hj hj2
  · show r' 2 = -1 ∨ mkB (tn (r' 1)) (r' 2) = true
    rw [e1]; exact h2
  · show tn (r' (28 + 3 * i)) < tn (r' 0)
    rw [e0]; exact h5 i hi
  · show tn (s.2.1 1) ≤ tn (r' 1)
    rw [e1]; exact v3
  · have ht : t < tn (r' 1) := ht
    rw [e1] at ht
    exact v5 t ht
-- by
def byS (s : Sg) (v : Int32) : Sg := if byB (tn (s.1 1)) v then setr s (upF s.1 2 v) else s
theorem S_O_byS {X : Mem} {s : Sg} {v : Int32} (hX : Ok X) (hC : CI X s) (hw : WFs s) : CM 1 m_O_by [.ref 8, .int v] X (fun q Y => q = some (.int (byF (tn (s.1 1)) v)) ∧ pC X (byS s v) Y) := CM.imp (S_O_by (v_CTx hC hw)) (fun q Y h => by
  obtain ⟨h1, rfl⟩ := h
  refine ⟨h1, ?_⟩
  unfold byX byS
  split
  · refine ⟨okF hX, CI_18 hC (fun b hb k => pF_o hb) (pF_k (by decide)) (fun b _ _ _ => rfl) (fun j h2 _ _ _ => upF_o h2) (pF_at.trans upF_at.symm) ?_ ?_ ?_ (fun i hi => ?_), sR_F (by decide)⟩
    · exact (pF_k (by decide)).trans (hC.1.2.2.2.1.2.2.1.trans (upF_o (by decide)).symm)
    · exact (pF_k (by decide)).trans (hC.1.2.2.2.1.2.2.2.1.trans (upF_o (by decide)).symm)
    · exact (pF_k (by decide)).trans (hC.1.2.2.2.1.2.2.2.2.trans (upF_o (by decide)).symm)
    · have h := hC.1.2.2.2.2 i hi
      exact ⟨h.1.trans (upF_o (by omega)).symm, h.2.1.trans (upF_o (by omega)).symm, h.2.2.trans (upF_o (by omega)).symm⟩
  · exact pC_0 hX hC)
theorem S_R_byS {X : Mem} {s : Sg} {v : Int32} (hX : Ok X) (hC : RI X s) (hw : WFs s) : CM 1 m_R_by [.ref 244, .int v] X (fun q Y => q = some (.int (byF (tn (s.1 1)) v)) ∧ pR X (byS s v) Y) := CM.imp (S_R_by hX (v_RTx hC hw)) (fun q Y h => by
  obtain ⟨h1, rfl⟩ := h
  refine ⟨h1, ?_⟩
  unfold byR byS
  split
  · rw [hC.1, ofF_set]
    exact ⟨okRow hX, RI_row hC (upF_o (by decide)), sC_A (by decide)⟩
  · rw [pA_eta]; exact pR_0 hX hC)
theorem WF_byS {s : Sg} {v : Int32} (hw : WFs s) : WFs (byS s v) := by
  unfold byS
  split
  · rename_i h
    refine WF_18 hw (fun j h2 _ _ _ => upF_o h2) (fun j hj => ?_) ?_ ?_ (fun i hi => ?_)
    · rw [upF_o (by omega)]; exact hw.1.1 j (by omega) (by omega)
    · rw [upF_at]
      rw [byB, Bool.or_eq_true] at h
      rcases h with h | h
      · exact Or.inl (of_decide_eq_true h)
      · exact Or.inr h
    · rw [upF_o (by decide), upF_o (by decide), upF_o (by decide)]; exact hw.1.2.2.1
    · rw [upF_o (by decide)] at hi
      rw [upF_o (by omega)]
      exact hw.1.2.2.2 i hi
  · exact hw
-- witness
def wsR (r : Nat → Int32) (a b : Nat) : Nat → Int32 := upF (upF (upF r 4 (nI (bc (a ||| b)))) 26 (nI a)) 27 (nI b)
def witS (s : Sg) (v : Int32) (w : Bool) : Sg := if v = -1 then setr s (wsR s.1 0 0) else if witB (tn (s.1 26)) (tn (s.1 27)) v then setr s (if w then wsR s.1 (tn (s.1 26) ||| 1 <<< tn v) (tn (s.1 27)) else wsR s.1 (tn (s.1 26)) (tn (s.1 27) ||| 1 <<< tn v)) else s
theorem ws_o {r : Nat → Int32} {a b j : Nat} (h4 : j ≠ 4) (h6 : j ≠ 26) (h7 : j ≠ 27) : wsR r a b j = r j := by
  unfold wsR
  rw [upF_o h7, upF_o h6, upF_o h4]
theorem ws_4 {r : Nat → Int32} {a b : Nat} : wsR r a b 4 = nI (bc (a ||| b)) := by
  unfold wsR
  rw [upF_o (by decide), upF_o (by decide), upF_at]
theorem ws_26 {r : Nat → Int32} {a b : Nat} : wsR r a b 26 = nI a := by
  unfold wsR
  rw [upF_o (by decide), upF_at]
theorem ws_27 {r : Nat → Int32} {a b : Nat} : wsR r a b 27 = nI b := upF_at
theorem CI_ws {X Y : Mem} {s : Sg} {a b : Nat} (hC : CI X s) (ho : ∀ b, b ≠ 18 → ∀ k, Y.1 b k = X.1 b k) (ho3 : ∀ k, k ≠ 5 → k ≠ 6 → Y.1 18 k = X.1 18 k) (ha : Y.2 = X.2) (q5 : Y.1 18 5 = nI a) (q6 : Y.1 18 6 = nI b) : CI Y (setr s (wsR s.1 a b)) := by
  refine CI_18 hC ho (ho3 3 (by decide) (by decide)) (fun b _ _ _ => by rw [ha]) (fun j h2 h4 h5 hj => ws_o h4 (by omega) (by omega)) ?_ (q5.trans ws_26.symm) (q6.trans ws_27.symm) ?_ (fun i hi => ?_)
  · exact (ho3 4 (by decide) (by decide)).trans (hC.1.2.2.2.1.2.1.trans (ws_o (by decide) (by decide) (by decide)).symm)
  · exact (ho3 7 (by decide) (by decide)).trans (hC.1.2.2.2.1.2.2.2.2.trans (ws_o (by decide) (by decide) (by decide)).symm)
  · rw [ha]
    have h := hC.1.2.2.2.2 i hi
    exact ⟨h.1.trans (ws_o (by omega) (by omega) (by omega)).symm, h.2.1.trans (ws_o (by omega) (by omega) (by omega)).symm, h.2.2.trans (ws_o (by omega) (by omega) (by omega)).symm⟩
theorem WF_ws {s : Sg} {a b : Nat} (hw : WFs s) (ha : a < 1048576) (hb : b < 1048576) : WFs (setr s (wsR s.1 a b)) := by
  have hbc : bc (a ||| b) ≤ 20 := bc_20 (or_lt 20 ha hb)
  refine WF_18 hw (fun j h2 h4 h5 hj => ws_o h4 (by omega) (by omega)) (fun j hj => ?_) ?_ ?_ (fun i hi => ?_)
  · by_cases e4 : j = 4
    · rw [e4, ws_4, show bd 4 = 20 from rfl, inR_nI (by omega) (by decide)]; exact decide_eq_true hbc
    · by_cases e26 : j = 26
      · rw [e26, ws_26, show bd 26 = 1048575 from rfl, inR_nI (by omega) (by decide)]; exact decide_eq_true (by omega)
      · by_cases e27 : j = 27
        · rw [e27, ws_27, show bd 27 = 1048575 from rfl, inR_nI (by omega) (by decide)]; exact decide_eq_true (by omega)
        · rw [ws_o e4 e26 e27]; exact hw.1.1 j (by omega) (by omega)
  · rw [ws_o (by decide) (by decide) (by decide)]; exact hw.1.2.1
  · rw [ws_4, ws_26, ws_27, tn_nI (by omega), tn_nI (by omega)]
  · rw [ws_o (by decide) (by decide) (by decide)] at hi
    rw [ws_o (by omega) (by omega) (by omega)]
    exact hw.1.2.2.2 i hi
theorem wit_lt {sn un : Nat} {v : Int32} (h : witB sn un v = true) : 1 <<< tn v < 1048576 := by
  rw [witB, Bool.and_eq_true] at h
  obtain ⟨j, hj, rfl⟩ := inR_n h.1 (by decide)
  rw [tn_nI (by omega)]
  exact sh_lt (show j < 20 by omega) (by decide)
theorem WF_witS {s : Sg} {v : Int32} {w : Bool} (hw : WFs s) : WFs (witS s v w) := by
  have w1 := wf_1 hw.1 (j := 26) (n := 1048575) (by decide) (by decide) (by decide)
  have w2 := wf_1 hw.1 (j := 27) (n := 1048575) (by decide) (by decide) (by decide)
  unfold witS
  split
  · exact WF_ws hw (by decide) (by decide)
  · split
    · rename_i h
      have := wit_lt h
      split
      · exact WF_ws hw (or_lt 20 (by omega) this) (by omega)
      · exact WF_ws hw (by omega) (or_lt 20 (by omega) this)
    · exact hw
theorem S_O_witS {X : Mem} {s : Sg} {v : Int32} {w : Bool} (hX : Ok X) (hC : CI X s) (hw : WFs s) : CM 2 m_O_witness [.ref 8, .int v, .int (b2i w)] X (fun q Y => q = some (.int (witF v (tn (s.1 26)) (tn (s.1 27)))) ∧ pC X (witS s v w) Y) := CM.imp (S_O_witness (v_CSn hC hw)) (fun q Y h => by
  obtain ⟨h1, rfl⟩ := h
  refine ⟨h1, ?_⟩
  have hv := v_CSn hC hw
  unfold witX witS
  split
  · exact ⟨okF (okF hX), CI_ws hC (fun b hb k => (pF_o hb).trans (pF_o hb)) (fun k q5 q6 => (pF_k q6).trans (pF_k q5)) rfl ((pF_k (by decide)).trans pF_at) pF_at, sR_t (sR_F (by decide)) (sR_F (by decide))⟩
  · split
    · cases w
      · exact ⟨okF hX, CI_ws hC (fun b hb k => pF_o hb) (fun k q5 q6 => pF_k q6) rfl ((pF_k (by decide)).trans hv.1) pF_at, sR_F (by decide)⟩
      · exact ⟨okF hX, CI_ws hC (fun b hb k => pF_o hb) (fun k q5 q6 => pF_k q5) rfl pF_at ((pF_k (by decide)).trans hv.2.1), sR_F (by decide)⟩
    · exact pC_0 hX hC)
theorem ws_set {r : Nat → Int32} {a b : Nat} : ofF 1217 (wsR r a b) = (((ofF 1217 r).set 4 (nI (bc (a ||| b)))).set 26 (nI a)).set 27 (nI b) := by
  unfold wsR
  rw [ofF_set, ofF_set, ofF_set]
theorem ws_e {r : Nat → Int32} {a b j : Nat} {v : Int32} (h : wsR r a b j = v) : upF (wsR r a b) j v = wsR r a b := funext fun k => by
  by_cases q : k = j
  · rw [q, upF_at, h]
  · rw [upF_o q]
theorem S_R_witS {X : Mem} {s : Sg} {v : Int32} {w : Bool} (hX : Ok X) (hC : RI X s) (hw : WFs s) : CM 2 m_R_witness [.ref 244, .int v, .int (b2i w)] X (fun q Y => q = some (.int (witF v (tn (s.1 26)) (tn (s.1 27)))) ∧ pR X (witS s v w) Y) := CM.imp (S_R_witness hX (v_RSn hC hw) ((ri_at hC (by decide)).trans hw.1.2.2.1)) (fun q Y h => by
  obtain ⟨h1, rfl⟩ := h
  refine ⟨h1, ?_⟩
  have w1 := wf_1 hw.1 (j := 26) (n := 1048575) (by decide) (by decide) (by decide)
  have w2 := wf_1 hw.1 (j := 27) (n := 1048575) (by decide) (by decide) (by decide)
  have hrow : ∀ r', r' 1 = s.1 1 → pR X (setr s r') (pA X 245 (ofF 1217 r')) := fun r' h => ⟨okRow hX, RI_row hC h, sC_A (by decide)⟩
  unfold witR witS
  split
  · rw [hC.1, show ((ofF 1217 s.1).set 4 (nI 0)) = (ofF 1217 s.1).set 4 (nI (bc (0 ||| 0))) from rfl, ← ws_set]
    exact hrow _ (ws_o (by decide) (by decide) (by decide))
  · split
    · cases w
      · have e : ((ofF 1217 s.1).set 27 (nI (tn (s.1 27) ||| 1 <<< tn v))).set 4 (nI (bc ((tn (s.1 26) ||| tn (s.1 27)) ||| 1 <<< tn v))) = ofF 1217 (wsR s.1 (tn (s.1 26)) (tn (s.1 27) ||| 1 <<< tn v)) := by
          rw [ofF_set, ofF_set]
          refine ofF_cong (fun k hk => ?_)
          by_cases q4 : k = 4
          · rw [q4, upF_at, ws_4, Nat.or_assoc]
          · rw [upF_o q4]
            by_cases q27 : k = 27
            · rw [q27, upF_at, ws_27]
            · rw [upF_o q27]
              by_cases q26 : k = 26
              · rw [q26, ws_26]; exact w1.1
              · rw [ws_o q4 q26 q27]
        rw [if_neg Bool.false_ne_true, if_neg Bool.false_ne_true, hC.1, e]
        exact hrow _ (ws_o (by decide) (by decide) (by decide))
      · have e : ((ofF 1217 s.1).set 26 (nI (tn (s.1 26) ||| 1 <<< tn v))).set 4 (nI (bc ((tn (s.1 26) ||| tn (s.1 27)) ||| 1 <<< tn v))) = ofF 1217 (wsR s.1 (tn (s.1 26) ||| 1 <<< tn v) (tn (s.1 27))) := by
          rw [ofF_set, ofF_set]
          refine ofF_cong (fun k hk => ?_)
          by_cases q4 : k = 4
          · rw [q4, upF_at, ws_4, Nat.or_assoc, Nat.or_assoc, Nat.or_comm (1 <<< tn v)]
          · rw [upF_o q4]
            by_cases q26 : k = 26
            · rw [q26, upF_at, ws_26]
            · rw [upF_o q26]
              by_cases q27 : k = 27
              · rw [q27, ws_27]; exact w2.1
              · rw [ws_o q4 q26 q27]
        rw [if_pos rfl, if_pos rfl, hC.1, e]
        exact hrow _ (ws_o (by decide) (by decide) (by decide))
    · rw [pA_eta]; exact pR_0 hX hC)
