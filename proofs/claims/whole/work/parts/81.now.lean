theorem or_x {v s : Nat} (h : v.testBit s = false) : v ||| 1 <<< s = v ^^^ 1 <<< s := by
  apply Nat.eq_of_testBit_eq
  intro b
  rw [Nat.testBit_or, Nat.testBit_xor, tb_1]
  by_cases e : s = b
  · subst e; rw [h, decide_eq_true rfl]; rfl
  · rw [decide_eq_false e, Bool.or_false, Bool.xor_false]
theorem andn_x {v s : Nat} (h : v.testBit s = true) : andn v (1 <<< s) = v ^^^ 1 <<< s := by
  apply Nat.eq_of_testBit_eq
  intro b
  rw [andn_tb, Nat.testBit_xor, tb_1]
  by_cases e : s = b
  · subst e; rw [h, decide_eq_true rfl]; rfl
  · rw [decide_eq_false e, Bool.xor_false, Bool.not_false, Bool.and_true]
/-- written down or not -/
def gWr (wr : Bool) (g : Nat → Int32) (m wt s1 : Nat) : Nat → Int32 := if wr then gWrite g m wt s1 else g
theorem RNow_pA {X : Mem} {r g : Nat → Int32} : RNow (pA X 245 (ofF 1217 (rowOf r g))) r g := pA_at
theorem S_R_writeB {X : Mem} {m wt s1 : Nat} {r g : Nat → Int32} {k : Int32} (hX : Ok X) (hR : RNow X r g) (hW : WFg g) (hm : m < 8) (hw : wt < 4) (hs : s1 < 21) (hk : k + nI 1 = nI s1) {wr : Bool} (h30 : X.1 244 30 = b2i wr) : CM 0 m_R_write [.ref 244, .int (nI m), .int (nI wt), .int k] X (rV (pA X 245 (ofF 1217 (rowOf r (gWr wr g m wt s1))))) := by
  cases wr
  · rw [show pA X 245 (ofF 1217 (rowOf r (gWr false g m wt s1))) = X from by rw [show ofF 1217 (rowOf r (gWr false g m wt s1)) = X.2.1 245 from hR.symm, pA_eta]]
    exact S_R_write_0 h30
  · exact S_R_write hX hR hW hm hw hs hk h30
theorem S_R_addNow {X : Mem} {r g : Nat → Int32} {m s : Nat} {wr : Bool} (hX : Ok X) (hR : RNow X r g) (hW : WFg g) (hm : m < 8) (hs : s < 20) (h30 : X.1 244 30 = b2i wr) (hb : (tn (g (5 + m))).testBit s = false) : CM 1 m_R_addNow [.ref 244, .int (nI m), .int (nI s)] X (rV (pA X 245 (ofF 1217 (rowOf r (gWr wr (gX g m s) m 0 (s + 1)))))) := by
  have wS := wg_n hW (k := 5 + m) (n := 1048575) (by omega) (by rw [bdN_s m hm]; exact Nat.le_refl _)
  refine CM_of (L := [some (.ref 244), some (.int (nI m)), some (.int (nI s))]) 0 ok_R_addNow (fun _ => Nat.le_of_ble_eq_true rfl) rfl ?_
  refine J_aload_n (i := 0) d_R_addNow_0 rfl rfl ?_
  refine M_getR (b := 245) d_R_addNow_1 f_R_7 rfl rfl rfl ?_
  refine J_bipush (v := nI 10) d_R_addNow_4 rfl ?_
  refine J_iload_n (i := 1) d_R_addNow_6 rfl rfl ?_
  refine N_iadd d_R_addNow_7 ?_
  refine J_dup2 d_R_addNow_8 rfl rfl ?_
  refine N_iald (x := (nI (tn (g (5 + m))))) d_R_addNow_9 rfl (by omega) (ltL hX (a := 245) (n := 1217) (by decide) rfl (by omega)) ((by rw [show 10 + m = 5 + (5 + m) by omega]; exact (rn_y hR (k := 5 + m) (by omega) (by omega)).trans wS.1)) ?_
  refine J_iconst (v := nI 1) d_R_addNow_10 rfl ?_
  refine J_iload_n (i := 2) d_R_addNow_11 rfl rfl ?_
  refine N_ishl d_R_addNow_12 (by omega) ?_
  refine N_ior d_R_addNow_13 ?_
  rw [or_x hb]
  refine N_iast d_R_addNow_14 rfl (by decide) (by omega) (ltL hX (a := 245) (n := 1217) (by decide) rfl (by omega)) ?_
  refine J_aload_n (i := 0) d_R_addNow_15 rfl rfl ?_
  refine J_iload_n (i := 1) d_R_addNow_16 rfl rfl ?_
  refine J_iconst (v := nI 0) d_R_addNow_17 rfl ?_
  refine J_iload_n (i := 2) d_R_addNow_18 rfl rfl ?_
  rw [show (X.2.1 245).set (10 + m) (nI (tn (g (5 + m)) ^^^ 1 <<< s)) = ofF 1217 (rowOf r (gX g m s)) from by rw [show 10 + m = 5 + (5 + m) by omega]; exact rn_set hR (by omega) (by omega)]
  refine CV_V (av := [.int (nI m), .int (nI 0), .int (nI s)]) d_R_addNow_19 s_R_385 (M_rcv rfl (by decide) rfl) (S_R_writeB (wr := wr) (s1 := s + 1) (okRow hX) RNow_pA (WFg_X hW hm hs) hm (by decide) (by omega) (nI_add s 1) h30) (by decide) rfl rfl (Nat.le_of_ble_eq_true rfl) ?_
  refine M_vr d_R_addNow_22 rfl ?_
  exact ⟨rfl, by rw [pA_pA]⟩

theorem S_R_rubNow {X : Mem} {r g : Nat → Int32} {m s : Nat} {wr : Bool} (hX : Ok X) (hR : RNow X r g) (hW : WFg g) (hm : m < 8) (hs : s < 20) (h30 : X.1 244 30 = b2i wr) {wt : Nat} (hw : wt < 4) (hb : (tn (g (5 + m))).testBit s = true) : CM 1 m_R_rubNow [.ref 244, .int (nI m), .int (nI s), .int (nI wt)] X (rV (pA X 245 (ofF 1217 (rowOf r (gWr wr (gX g m s) m wt (s + 1)))))) := by
  have wS := wg_n hW (k := 5 + m) (n := 1048575) (by omega) (by rw [bdN_s m hm]; exact Nat.le_refl _)
  refine CM_of (L := [some (.ref 244), some (.int (nI m)), some (.int (nI s)), some (.int (nI wt))]) 0 ok_R_rubNow (fun _ => Nat.le_of_ble_eq_true rfl) rfl ?_
  refine J_aload_n (i := 0) d_R_rubNow_0 rfl rfl ?_
  refine M_getR (b := 245) d_R_rubNow_1 f_R_7 rfl rfl rfl ?_
  refine J_bipush (v := nI 10) d_R_rubNow_4 rfl ?_
  refine J_iload_n (i := 1) d_R_rubNow_6 rfl rfl ?_
  refine N_iadd d_R_rubNow_7 ?_
  refine J_dup2 d_R_rubNow_8 rfl rfl ?_
  refine N_iald (x := (nI (tn (g (5 + m))))) d_R_rubNow_9 rfl (by omega) (ltL hX (a := 245) (n := 1217) (by decide) rfl (by omega)) ((by rw [show 10 + m = 5 + (5 + m) by omega]; exact (rn_y hR (k := 5 + m) (by omega) (by omega)).trans wS.1)) ?_
  refine J_iconst (v := nI 1) d_R_rubNow_10 rfl ?_
  refine J_iload_n (i := 2) d_R_rubNow_11 rfl rfl ?_
  refine N_ishl d_R_rubNow_12 (by omega) ?_
  refine J_iconst (v := (-1)) d_R_rubNow_13 rfl ?_
  refine J_ixor d_R_rubNow_14 ?_
  refine J_iand d_R_rubNow_15 ?_
  refine I_ton (n := andn (tn (g (5 + m))) (1 <<< s)) (nI_andn (tn (g (5 + m))) (1 <<< s)) ?_
  rw [andn_x hb]
  refine N_iast d_R_rubNow_16 rfl (by decide) (by omega) (ltL hX (a := 245) (n := 1217) (by decide) rfl (by omega)) ?_
  refine J_aload_n (i := 0) d_R_rubNow_17 rfl rfl ?_
  refine J_iload_n (i := 1) d_R_rubNow_18 rfl rfl ?_
  refine J_iload_n (i := 3) d_R_rubNow_19 rfl rfl ?_
  refine J_iload_n (i := 2) d_R_rubNow_20 rfl rfl ?_
  rw [show (X.2.1 245).set (10 + m) (nI (tn (g (5 + m)) ^^^ 1 <<< s)) = ofF 1217 (rowOf r (gX g m s)) from by rw [show 10 + m = 5 + (5 + m) by omega]; exact rn_set hR (by omega) (by omega)]
  refine CV_V (av := [.int (nI m), .int (nI wt), .int (nI s)]) d_R_rubNow_21 s_R_385 (M_rcv rfl (by decide) rfl) (S_R_writeB (wr := wr) (s1 := s + 1) (okRow hX) RNow_pA (WFg_X hW hm hs) hm hw (by omega) (nI_add s 1) h30) (by decide) rfl rfl (Nat.le_of_ble_eq_true rfl) ?_
  refine M_vr d_R_rubNow_24 rfl ?_
  exact ⟨rfl, by rw [pA_pA]⟩

/-- the strokes as they were registered -/
def gRn (g r : Nat → Int32) (m : Nat) : Nat → Int32 := upF g (5 + m) (r (18 + m))
theorem WFg_v {g : Nat → Int32} {j : Nat} {v : Int32} (h : WFg g) (hv : inR v (bdN j) = true) : WFg (upF g j v) := by
  intro k hk
  by_cases e : k = j
  · rw [e, upF_at]; exact hv
  · rw [upF_o e]; exact h k hk
theorem WFg_R {g r : Nat → Int32} {m : Nat} (h : WFg g) (hm : m < 8) (hr : inR (r (18 + m)) 1048575 = true) : WFg (gRn g r m) := WFg_v h (by rw [bdN_s m hm]; exact hr)
theorem S_R_renewNow {X : Mem} {r g : Nat → Int32} {m : Nat} {wr : Bool} (hX : Ok X) (hR : RNow X r g) (hW : WFg g) (hm : m < 8) (hr : inR (r (18 + m)) 1048575 = true) (h30 : X.1 244 30 = b2i wr) : CM 1 m_R_renewNow [.ref 244, .int (nI m)] X (rV (pA X 245 (ofF 1217 (rowOf r (gWr wr (gRn g r m) m 2 0))))) := by
  refine CM_of (L := [some (.ref 244), some (.int (nI m))]) 0 ok_R_renewNow (fun _ => Nat.le_of_ble_eq_true rfl) rfl ?_
  refine J_aload_n (i := 0) d_R_renewNow_0 rfl rfl ?_
  refine M_getR (b := 245) d_R_renewNow_1 f_R_7 rfl rfl rfl ?_
  refine J_bipush (v := nI 10) d_R_renewNow_4 rfl ?_
  refine J_iload_n (i := 1) d_R_renewNow_6 rfl rfl ?_
  refine N_iadd d_R_renewNow_7 ?_
  refine J_aload_n (i := 0) d_R_renewNow_8 rfl rfl ?_
  refine M_getR (b := 245) d_R_renewNow_9 f_R_7 rfl rfl rfl ?_
  refine J_bipush (v := nI 18) d_R_renewNow_12 rfl ?_
  refine J_iload_n (i := 1) d_R_renewNow_14 rfl rfl ?_
  refine N_iadd d_R_renewNow_15 ?_
  refine N_iald (x := (r (18 + m))) d_R_renewNow_16 rfl (by omega) (ltL hX (a := 245) (n := 1217) (by decide) rfl (by omega)) (rn_o hR (by omega) (by omega) (by omega)) ?_
  refine N_iast d_R_renewNow_17 rfl (by decide) (by omega) (ltL hX (a := 245) (n := 1217) (by decide) rfl (by omega)) ?_
  refine J_aload_n (i := 0) d_R_renewNow_18 rfl rfl ?_
  refine J_iload_n (i := 1) d_R_renewNow_19 rfl rfl ?_
  refine J_iconst (v := nI 2) d_R_renewNow_20 rfl ?_
  refine J_iconst (v := (-1)) d_R_renewNow_21 rfl ?_
  rw [show (X.2.1 245).set (10 + m) (r (18 + m)) = ofF 1217 (rowOf r (gRn g r m)) from by rw [show 10 + m = 5 + (5 + m) by omega]; exact rn_set hR (by omega) (by omega)]
  refine CV_V (av := [.int (nI m), .int (nI 2), .int (-1)]) d_R_renewNow_22 s_R_385 (M_rcv rfl (by decide) rfl) (S_R_writeB (wr := wr) (s1 := 0) (okRow hX) RNow_pA (WFg_R hW hm hr) hm (by decide) (by decide) rfl h30) (by decide) rfl rfl (Nat.le_of_ble_eq_true rfl) ?_
  refine M_vr d_R_renewNow_25 rfl ?_
  exact ⟨rfl, by rw [pA_pA]⟩

