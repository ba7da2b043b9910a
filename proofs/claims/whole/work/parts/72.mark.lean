def setr (s : Sg) (r : Nat → Int32) : Sg := (r, s.2)
theorem RI_row {X : Mem} {s : Sg} {r : Nat → Int32} (h : RI X s) (h1 : r 1 = s.1 1) : RI (pA X 245 (ofF 1217 r)) (setr s r) := by
  obtain ⟨_, g2, g3, g4, g5⟩ := h
  refine ⟨pA_at, g2, g3, g4, fun t ht ht4 => ?_⟩
  exact RTxt_e (X := X) rfl (g5 t (by rw [← h1]; exact ht) ht4)
theorem okRow {X : Mem} {r : Nat → Int32} (h : Ok X) : Ok (pA X 245 (ofF 1217 r)) := okA h rfl (by rw [ofF_len]; exact (h.1 245 (by decide)).symm)
def mkR (r : Nat → Int32) (v : Int32) : Nat → Int32 := upF (upF (upF r (10 + mOf r) v) (18 + mOf r) v) 0 (nI (mOf r + 1))
def mkOk (r : Nat → Int32) (v : Int32) : Bool := inR v 1048575 && decide (mOf r < 8)
def markF (r : Nat → Int32) (v : Int32) : Int32 := if mkOk r v then nI (mOf r) else (-1)
def markS (s : Sg) (v : Int32) : Sg := if mkOk s.1 v then setr s (mkR s.1 v) else s
theorem pAA {X : Mem} {a b c : Nat} {l l2 : List Int32} (h1 : c ≠ a) (h2 : c ≠ b) : (pA (pA X a l) b l2).2.1 c = X.2.1 c := by
  show (if c = b then l2 else if c = a then l else X.2.1 c) = X.2.1 c
  rw [if_neg h2, if_neg h1]
theorem mkR_0 (r : Nat → Int32) (v : Int32) : mkR r v 0 = nI (mOf r + 1) := rfl
theorem mkR_st (r : Nat → Int32) (v : Int32) {i : Nat} (hi : i < 8) (hm : mOf r < 8) : mkR r v (10 + i) = if i = mOf r then v else r (10 + i) := by
  show (if 10 + i = 0 then _ else if 10 + i = 18 + mOf r then v else if 10 + i = 10 + mOf r then v else r (10 + i)) = _
  rw [if_neg (by omega), if_neg (by omega)]
  by_cases e : i = mOf r
  · rw [if_pos e, if_pos (by omega)]
  · rw [if_neg e, if_neg (by omega)]
theorem mkR_rg (r : Nat → Int32) (v : Int32) {i : Nat} (hi : i < 8) (hm : mOf r < 8) : mkR r v (18 + i) = if i = mOf r then v else r (18 + i) := by
  show (if 18 + i = 0 then _ else if 18 + i = 18 + mOf r then v else if 18 + i = 10 + mOf r then v else r (18 + i)) = _
  rw [if_neg (by omega)]
  by_cases e : i = mOf r
  · rw [if_pos e, if_pos (by omega)]
  · rw [if_neg e, if_neg (by omega), if_neg (by omega)]
theorem mkR_o (r : Nat → Int32) (v : Int32) {j : Nat} (h0 : j ≠ 0) (h1 : j < 10 ∨ 26 ≤ j) (hm : mOf r < 8) : mkR r v j = r j := by
  show (if j = 0 then _ else if j = 18 + mOf r then v else if j = 10 + mOf r then v else r j) = _
  rw [if_neg h0, if_neg (by omega), if_neg (by omega)]
theorem nowG_0 (r : Nat → Int32) : nowG r 0 = r 0 := rfl
theorem nowG_s (r : Nat → Int32) {i : Nat} (hi : i < 8) : nowG r (5 + i) = r (10 + i) := by unfold nowG; rw [if_neg (by omega), if_pos (by omega), ← Nat.add_assoc]
theorem nowG_b (r : Nat → Int32) (i : Nat) : nowG r (13 + i) = r (1192 + i) := by unfold nowG; rw [if_neg (by omega), if_neg (by omega), ← Nat.add_assoc]
theorem CI_mark {X : Mem} {s : Sg} {v : Int32} (hX : Ok X) (hC : CI X s) (hm : mOf s.1 < 8) : CI (pF (pA (pA X 114 ((X.2.1 114).set (mOf s.1) v)) 20 ((X.2.1 20).set (mOf s.1) v)) 19 0 (nI (mOf s.1 + 1))) (setr s (mkR s.1 v)) := by
  have l20 : (X.2.1 20).length = 8 := hX.1 20 (by decide)
  have l114 : (X.2.1 114).length = 8 := hX.1 114 (by decide)
  obtain ⟨⟨⟨k0, k1, k2, k3, k4, k5, k6, k7⟩, ⟨h2, e, he, h3, h4⟩, h5, ⟨g1, g2, g3, g4, g5⟩, h7⟩, hk, h8, ⟨h9, h10, h11⟩, h12⟩ := hC
  refine ⟨⟨⟨rfl, ?_, ?_, ?_, ?_, ?_, fun i hi => ?_, fun i hi => ?_⟩, ⟨?_, e, he, h3, fun i hi => ?_⟩, fun i hi => ?_, ⟨?_, ?_, ?_, ?_, ?_⟩, fun i hi => ?_⟩, ?_, h8, ⟨h9, h10, h11⟩, fun t ht ht4 => ?_⟩
  · rw [pF_at, nowG_0]; exact (mkR_0 s.1 v).symm
  · exact k2.trans (mkR_o s.1 v (j := 6) (by decide) (by decide) hm).symm
  · exact k3.trans (mkR_o s.1 v (j := 7) (by decide) (by decide) hm).symm
  · exact k4.trans (mkR_o s.1 v (j := 8) (by decide) (by decide) hm).symm
  · exact k5.trans (mkR_o s.1 v (j := 9) (by decide) (by decide) hm).symm
  · show ((X.2.1 20).set (mOf s.1) v).getD i 0 = nowG (mkR s.1 v) (5 + i)
    rw [nowG_s _ hi, mkR_st _ _ hi hm]
    by_cases q : i = mOf s.1
    · rw [if_pos q, q, set_eq (by rw [l20]; exact hm)]
    · rw [if_neg q, set_ne (Ne.symm q), ← nowG_s s.1 hi]
      exact k6 i hi
  · show (X.2.1 21).getD i 0 = c32 (nowG (mkR s.1 v) (13 + i))
    rw [nowG_b, mkR_o _ _ (by omega) (by omega) hm, ← nowG_b s.1 i]
    exact k7 i hi
  · exact h2.trans (mkR_o s.1 v (j := 3) (by decide) (by decide) hm).symm
  · have hi : i < tn (mkR s.1 v 3) := hi
    rw [mkR_o s.1 v (j := 3) (by decide) (by decide) hm] at hi
    have hb : (e + i) % 30 < 30 := Nat.mod_lt _ (by decide)
    have hg : stG (mkR s.1 v) i = stG s.1 i := funext fun k => mkR_o s.1 v (by omega) (by omega) hm
    show CNow _ _ (stG (mkR s.1 v) i)
    rw [hg]
    exact CNow_on (X := X) (fun k => pF_o (by omega)) (pAA (by omega) (by omega)) (pAA (by omega) (by omega)) (h4 i hi)
  · show ((X.2.1 114).set (mOf s.1) v).getD i 0 = mkR s.1 v (18 + i)
    rw [mkR_rg _ _ hi hm]
    by_cases q : i = mOf s.1
    · rw [if_pos q, q, set_eq (by rw [l114]; exact hm)]
    · rw [if_neg q, set_ne (Ne.symm q)]
      exact h5 i hi
  · exact g1.trans (mkR_o s.1 v (j := 1) (by decide) (by decide) hm).symm
  · exact g2.trans (mkR_o s.1 v (j := 2) (by decide) (by decide) hm).symm
  · exact g3.trans (mkR_o s.1 v (j := 26) (by decide) (by decide) hm).symm
  · exact g4.trans (mkR_o s.1 v (j := 27) (by decide) (by decide) hm).symm
  · exact g5.trans (mkR_o s.1 v (j := 5) (by decide) (by decide) hm).symm
  · have h := h7 i hi
    exact ⟨h.1.trans (mkR_o s.1 v (by omega) (by omega) hm).symm, h.2.1.trans (mkR_o s.1 v (by omega) (by omega) hm).symm, h.2.2.trans (mkR_o s.1 v (by omega) (by omega) hm).symm⟩
  · exact CHeld_on (X := X) (fun b q1 q2 => ⟨fun k => pF_o (by omega), pAA (by omega) (by omega)⟩) hk
  · have ht : t < tn (mkR s.1 v 1) := ht
    rw [mkR_o s.1 v (j := 1) (by decide) (by decide) hm] at ht
    exact CTxt_on (X := X) (fun b q1 q2 => ⟨fun k => pF_o (by omega), pAA (by omega) (by omega)⟩) (h12 t ht ht4)
theorem WF_mark {s : Sg} {v : Int32} (hw : WFs s) (hv : inR v 1048575 = true) (hm : mOf s.1 < 8) : WFs (setr s (mkR s.1 v)) := by
  obtain ⟨⟨w1, w2, w3, w4⟩, h2, h3, h4, h5⟩ := hw
  have o1 := mkR_o s.1 v (j := 1) (by decide) (by decide) hm
  have o2 := mkR_o s.1 v (j := 2) (by decide) (by decide) hm
  have o4 := mkR_o s.1 v (j := 4) (by decide) (by decide) hm
  have o5 := mkR_o s.1 v (j := 5) (by decide) (by decide) hm
  have o26 := mkR_o s.1 v (j := 26) (by decide) (by decide) hm
  have o27 := mkR_o s.1 v (j := 27) (by decide) (by decide) hm
  refine ⟨⟨fun j hj hj2 => ?_, ?_, ?_, fun i hi => ?_⟩, h2, ?_, h4, fun t ht => ?_⟩
  · show inR (mkR s.1 v j) (bd j) = true
    by_cases e0 : j = 0
    · rw [e0, mkR_0, show bd 0 = 8 from rfl, inR_nI (by omega) (by decide)]
      exact decide_eq_true (by omega)
    · by_cases e1 : j < 10 ∨ 26 ≤ j
      · rw [mkR_o _ _ e0 e1 hm]; exact w1 j hj hj2
      · by_cases e2 : j < 18
        · obtain ⟨i, rfl⟩ : ∃ i, j = 10 + i := ⟨j - 10, by omega⟩
          rw [mkR_st _ _ (by omega) hm, (bd_10 i (by omega)).1]
          split
          · exact hv
          · have := w1 (10 + i) hj hj2
            rw [(bd_10 i (by omega)).1] at this
            exact this
        · obtain ⟨i, rfl⟩ : ∃ i, j = 18 + i := ⟨j - 18, by omega⟩
          rw [mkR_rg _ _ (by omega) hm, (bd_10 i (by omega)).2]
          split
          · exact hv
          · have := w1 (18 + i) hj hj2
            rw [(bd_10 i (by omega)).2] at this
            exact this
  · show mkR s.1 v 2 = -1 ∨ mkB (tn (mkR s.1 v 1)) (mkR s.1 v 2) = true
    rw [o1, o2]; exact w2
  · show mkR s.1 v 4 = nI (bc (tn (mkR s.1 v 26) ||| tn (mkR s.1 v 27)))
    rw [o4, o26, o27]; exact w3
  · have hi : i < tn (mkR s.1 v 5) := hi
    rw [o5] at hi
    show tn (mkR s.1 v (28 + 3 * i)) < tn (mkR s.1 v 0)
    rw [mkR_o _ _ (by omega) (by omega) hm, mkR_0, tn_nI (by omega)]
    exact Nat.lt_succ_of_lt (w4 i hi)
  · show tn (s.2.1 1) ≤ tn (mkR s.1 v 1)
    rw [o1]; exact h3
  · have ht : t < tn (mkR s.1 v 1) := ht
    rw [o1] at ht
    exact h5 t ht
theorem S_H_register {X : Mem} {s : Sg} {v : Int32} (hX : Ok X) (hC : CI X s) (hw : WFs s) : CM 0 m_H_register [.ref 18, .int v] X (rI (if mOf s.1 < 8 then nI (mOf s.1) else (-1)) (if mOf s.1 < 8 then (pF (pA (pA X 114 ((X.2.1 114).set (mOf s.1) v)) 20 ((X.2.1 20).set (mOf s.1) v)) 19 0 (nI (mOf s.1 + 1))) else X)) := by
  have hS := v_CSt hC hw
  have hm8 := hS.1
  refine CM_of (L := [some (.ref 18), some (.int v), none]) 1 ok_H_register (fun _ => Nat.le_of_ble_eq_true rfl) rfl ?_
  refine J_aload_n (i := 0) d_H_register_0 rfl rfl ?_
  refine M_getR (b := 19) d_H_register_1 f_H_12 rfl rfl rfl ?_
  refine M_get (x := (nI (mOf s.1))) d_H_register_4 f_H_67 rfl rfl hS.2.1 ?_
  refine J_istore_n (i := 2) (L1 := [some (.ref 18), some (.int v), some (.int (nI (mOf s.1)))]) d_H_register_7 rfl (by decide) rfl ?_
  refine J_iload_n (i := 2) d_H_register_8 rfl rfl ?_
  refine J_bipush (v := nI 8) d_H_register_9 rfl ?_
  refine N_icmp_lt (tgt := 16) d_H_register_11 (by decide) (by omega) (by omega) (fun c11 => ?_) (fun c11 => ?_)
  · refine J_aload_n (i := 0) d_H_register_16 rfl rfl ?_
    refine M_getR (b := 114) d_H_register_17 f_H_25 rfl rfl rfl ?_
    refine J_iload_n (i := 2) d_H_register_20 rfl rfl ?_
    refine J_iload_n (i := 1) d_H_register_21 rfl rfl ?_
    refine N_iast d_H_register_22 rfl (by decide) (by omega) (ltL hX (a := 114) (n := 8) (by decide) rfl (by omega)) ?_
    refine J_aload_n (i := 0) d_H_register_23 rfl rfl ?_
    refine M_getR (b := 19) d_H_register_24 f_H_12 rfl rfl rfl ?_
    refine M_getR (b := 20) d_H_register_27 f_H_70 rfl rfl rfl ?_
    refine J_iload_n (i := 2) d_H_register_30 rfl rfl ?_
    refine J_iload_n (i := 1) d_H_register_31 rfl rfl ?_
    refine N_iast d_H_register_32 rfl (by decide) (by omega) (ltL (okS hX rfl) (a := 20) (n := 8) (by decide) rfl (by omega)) ?_
    refine J_aload_n (i := 0) d_H_register_33 rfl rfl ?_
    refine M_getR (b := 19) d_H_register_34 f_H_12 rfl rfl rfl ?_
    refine J_dup d_H_register_37 rfl ?_
    refine M_get (x := (nI (mOf s.1))) d_H_register_38 f_H_67 rfl rfl hS.2.1 ?_
    refine J_iconst (v := nI 1) d_H_register_41 rfl ?_
    refine N_iadd d_H_register_42 ?_
    refine M_put d_H_register_43 p_H_67 rfl rfl rfl rfl ?_
    refine J_iload_n (i := 2) d_H_register_46 rfl rfl ?_
    refine M_ir d_H_register_47 rfl rfl ?_
    exact ⟨by rw [if_pos (by omega)], by rw [if_pos (by omega)]; rfl⟩
  · refine J_iconst (v := (-1)) d_H_register_14 rfl ?_
    refine M_ir d_H_register_15 rfl rfl ?_
    exact ⟨by rw [if_neg (by omega)], by rw [if_neg (by omega)]⟩

theorem S_O_mark {X : Mem} {s : Sg} {v : Int32} (hX : Ok X) (hC : CI X s) (hw : WFs s) : CM 1 m_O_mark [.ref 8, .int v] X (fun r Y => r = some (.int (markF s.1 v)) ∧ pC X (markS s v) Y) := by
  refine CM_of (L := [some (.ref 8), some (.int v)]) 0 ok_O_mark (fun _ => Nat.le_of_ble_eq_true rfl) rfl ?_
  refine J_iload_n (i := 1) d_O_mark_0 rfl rfl ?_
  refine CS_B (av := [.int v]) d_O_mark_1 s_O_73 (S_O_isSet) (by decide) rfl rfl (Nat.le_of_ble_eq_true rfl) ?_
  refine B_if_ne (tgt := 9) d_O_mark_4 (by decide) (fun c4 => ?_) (fun c4 => ?_)
  · refine J_aload_n (i := 0) d_O_mark_9 rfl rfl ?_
    refine M_getR (b := 18) d_O_mark_10 f_O_48 rfl rfl rfl ?_
    refine J_iload_n (i := 1) d_O_mark_13 rfl rfl ?_
    refine CV_I (av := [.int v]) d_O_mark_14 s_O_77 (M_rcv rfl (by decide) rfl) (S_H_register hX hC hw) (by decide) rfl rfl (Nat.le_of_ble_eq_true rfl) ?_
    refine M_ir d_O_mark_17 rfl rfl ?_
    by_cases hm : mOf s.1 < 8
    · have h : mkOk s.1 v = true := by rw [mkOk, c4, decide_eq_true hm]; rfl
      rw [if_pos hm, if_pos hm]
      refine ⟨by rw [markF, h] <;> rfl, ?_⟩
      rw [markS, h, if_pos rfl]
      exact ⟨okF (okA (okS hX rfl) rfl (by rw [List.length_set]; rfl)), CI_mark hX hC hm, sR_t (sR_A (by decide)) (sR_t (sR_A (by decide)) (sR_F (by decide)))⟩
    · have h : mkOk s.1 v = false := by rw [mkOk, decide_eq_false hm, Bool.and_false]
      rw [if_neg hm, if_neg hm]
      exact ⟨by rw [markF, h] <;> rfl, by rw [markS, h]; exact ⟨hX, hC, sR_0 X⟩⟩
  · refine J_iconst (v := (-1)) d_O_mark_7 rfl ?_
    refine M_ir d_O_mark_8 rfl rfl ?_
    have h : mkOk s.1 v = false := by rw [mkOk, c4]; rfl
    exact ⟨by rw [markF, h] <;> rfl, by rw [markS, h]; exact ⟨hX, hC, sR_0 X⟩⟩

theorem S_R_mark {X : Mem} {s : Sg} {v : Int32} (hX : Ok X) (hC : RI X s) (hw : WFs s) : CM 2 m_R_mark [.ref 244, .int v] X (fun r Y => r = some (.int (markF s.1 v)) ∧ pR X (markS s v) Y) := by
  have hS := v_RSt hC hw
  have hm8 := hS.1
  refine CM_of (L := [some (.ref 244), some (.int v)]) 0 ok_R_mark (fun _ => Nat.le_of_ble_eq_true rfl) rfl ?_
  refine J_iload_n (i := 1) d_R_mark_0 rfl rfl ?_
  refine CS_B (av := [.int v]) d_R_mark_1 s_R_98 (S_R_areStrokes) (by decide) rfl rfl (Nat.le_of_ble_eq_true rfl) ?_
  refine B_if_eq (tgt := 18) d_R_mark_4 (by decide) (fun c4 => ?_) (fun c4 => ?_)
  · refine J_iconst (v := (-1)) d_R_mark_18 rfl ?_
    refine M_ir d_R_mark_19 rfl rfl ?_
    have h : mkOk s.1 v = false := by rw [mkOk, c4]; rfl
    exact ⟨by rw [markF, h] <;> rfl, by rw [markS, h]; exact ⟨hX, hC, sC_0 X⟩⟩
  · refine J_aload_n (i := 0) d_R_mark_7 rfl rfl ?_
    refine M_getR (b := 245) d_R_mark_8 f_R_7 rfl rfl rfl ?_
    refine J_iconst (v := nI 0) d_R_mark_11 rfl ?_
    refine N_iald (x := (nI (mOf s.1))) d_R_mark_12 rfl (by omega) (ltL hX (a := 245) (n := 1217) (by decide) rfl (by omega)) (by exact hS.2.1) ?_
    refine J_bipush (v := nI 8) d_R_mark_13 rfl ?_
    refine N_icmp_ne (tgt := 20) d_R_mark_15 (by decide) (by omega) (by omega) (fun c15 => ?_) (fun c15 => ?_)
    · refine J_aload_n (i := 0) d_R_mark_20 rfl rfl ?_
      refine M_getR (b := 245) d_R_mark_21 f_R_7 rfl rfl rfl ?_
      refine J_bipush (v := nI 10) d_R_mark_24 rfl ?_
      refine J_aload_n (i := 0) d_R_mark_26 rfl rfl ?_
      refine M_getR (b := 245) d_R_mark_27 f_R_7 rfl rfl rfl ?_
      refine J_iconst (v := nI 0) d_R_mark_30 rfl ?_
      refine N_iald (x := (nI (mOf s.1))) d_R_mark_31 rfl (by omega) (ltL hX (a := 245) (n := 1217) (by decide) rfl (by omega)) (by exact hS.2.1) ?_
      refine N_iadd d_R_mark_32 ?_
      refine J_iload_n (i := 1) d_R_mark_33 rfl rfl ?_
      refine N_iast d_R_mark_34 rfl (by decide) (by omega) (ltL hX (a := 245) (n := 1217) (by decide) rfl (by omega)) ?_
      refine J_aload_n (i := 0) d_R_mark_35 rfl rfl ?_
      refine M_getR (b := 245) d_R_mark_36 f_R_7 rfl rfl rfl ?_
      refine J_bipush (v := nI 18) d_R_mark_39 rfl ?_
      refine J_aload_n (i := 0) d_R_mark_41 rfl rfl ?_
      refine M_getR (b := 245) d_R_mark_42 f_R_7 rfl rfl rfl ?_
      refine J_iconst (v := nI 0) d_R_mark_45 rfl ?_
      refine N_iald (x := (nI (mOf s.1))) d_R_mark_46 rfl (by omega) (ltL (okS hX rfl) (a := 245) (n := 1217) (by decide) rfl (by omega)) (by rw [pA_at, set_ne (by omega)]; exact hS.2.1) ?_
      refine N_iadd d_R_mark_47 ?_
      refine J_iload_n (i := 1) d_R_mark_48 rfl rfl ?_
      refine N_iast d_R_mark_49 rfl (by decide) (by omega) (ltL (okS hX rfl) (a := 245) (n := 1217) (by decide) rfl (by omega)) ?_
      refine J_aload_n (i := 0) d_R_mark_50 rfl rfl ?_
      refine M_getR (b := 245) d_R_mark_51 f_R_7 rfl rfl rfl ?_
      refine J_iconst (v := nI 0) d_R_mark_54 rfl ?_
      refine J_dup2 d_R_mark_55 rfl rfl ?_
      refine N_iald (x := (nI (mOf s.1))) d_R_mark_56 rfl (by omega) (ltL (okS (okS hX rfl) rfl) (a := 245) (n := 1217) (by decide) rfl (by omega)) (by rw [pA_at, set_ne (by omega), pA_at, set_ne (by omega)]; exact hS.2.1) ?_
      refine J_iconst (v := nI 1) d_R_mark_57 rfl ?_
      refine N_iadd d_R_mark_58 ?_
      refine N_iast d_R_mark_59 rfl (by decide) (by omega) (ltL (okS (okS hX rfl) rfl) (a := 245) (n := 1217) (by decide) rfl (by omega)) ?_
      refine J_aload_n (i := 0) d_R_mark_60 rfl rfl ?_
      refine M_getR (b := 245) d_R_mark_61 f_R_7 rfl rfl rfl ?_
      refine J_iconst (v := nI 0) d_R_mark_64 rfl ?_
      refine N_iald (x := (nI (mOf s.1 + 1))) d_R_mark_65 rfl (by omega) (ltL (okS (okS (okS hX rfl) rfl) rfl) (a := 245) (n := 1217) (by decide) rfl (by omega)) (by rw [pA_at, set_eq (by simp only [pA_at, List.length_set]; rw [hX.1 245 (by decide)]; decide)]) ?_
      refine J_iconst (v := nI 1) d_R_mark_66 rfl ?_
      refine N_isub d_R_mark_67 (by omega) ?_
      refine M_ir d_R_mark_68 rfl rfl ?_
      have h : mkOk s.1 v = true := by rw [mkOk, c4, decide_eq_true (show mOf s.1 < 8 by omega)]; rfl
      refine ⟨by rw [markF, h, if_pos rfl, Nat.add_sub_cancel], ?_⟩
      simp only [pA_pA, pA_at]
      rw [hC.1, ofF_set, ofF_set, ofF_set, markS, h, if_pos rfl]
      exact ⟨okRow hX, RI_row hC (mkR_o s.1 v (j := 1) (by decide) (by decide) (by omega)), sC_A (by decide)⟩
    · refine J_iconst (v := (-1)) d_R_mark_18 rfl ?_
      refine M_ir d_R_mark_19 rfl rfl ?_
      have h : mkOk s.1 v = false := by rw [mkOk, decide_eq_false (show ¬ mOf s.1 < 8 by omega), Bool.and_false]
      exact ⟨by rw [markF, h] <;> rfl, by rw [markS, h]; exact ⟨hX, hC, sC_0 X⟩⟩

theorem WF_markS {s : Sg} {v : Int32} (hw : WFs s) : WFs (markS s v) := by
  unfold markS
  split
  · rename_i h
    rw [mkOk, Bool.and_eq_true, decide_eq_true_eq] at h
    exact WF_mark hw h.1 h.2
  · exact hw
