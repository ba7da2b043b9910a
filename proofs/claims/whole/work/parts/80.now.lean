theorem S_R_drawnBy_20 {X : Mem} {r g : Nat → Int32} (hX : Ok X) (hR : RNow X r g) (hW : WFg g) : CM 1 m_R_drawnBy [.ref 244, .int (nI 20)] X (rI (nI (tn (g 2) % 20)) (pA X 245 (ofF 1217 (rowOf r (gN g))))) := by
  have w2 := wg_n hW (k := 2) (n := 30982) (by decide) (by decide)
  refine CM_of (L := [some (.ref 244), some (.int (nI 20)), none]) 1 ok_R_drawnBy (fun _ => Nat.le_of_ble_eq_true rfl) rfl ?_
  refine J_aload_n (i := 0) d_R_drawnBy_0 rfl rfl ?_
  refine M_getR (b := 245) d_R_drawnBy_1 f_R_7 rfl rfl rfl ?_
  refine J_bipush (v := nI 7) d_R_drawnBy_4 rfl ?_
  refine N_iald (x := (nI (tn (g 2)))) d_R_drawnBy_6 rfl (by omega) (ltL hX (a := 245) (n := 1217) (by decide) rfl (by omega)) ((rn_y hR (k := 2) (by decide) (by decide)).trans w2.1) ?_
  refine J_iload_n (i := 1) d_R_drawnBy_7 rfl rfl ?_
  refine N_irem d_R_drawnBy_8 (by omega) (by omega) (by omega) ?_
  refine J_istore_n (i := 2) (L1 := [some (.ref 244), some (.int (nI 20)), some (.int (nI ((tn (g 2)) % 20)))]) d_R_drawnBy_9 rfl (by decide) rfl ?_
  refine J_aload_n (i := 0) d_R_drawnBy_10 rfl rfl ?_
  refine CV_V (av := []) d_R_drawnBy_11 s_R_370 (M_rcv rfl (by decide) rfl) (S_R_anew hX hR hW) (by decide) rfl rfl (Nat.le_of_ble_eq_true rfl) ?_
  refine J_iload_n (i := 2) d_R_drawnBy_14 rfl rfl ?_
  refine M_ir d_R_drawnBy_15 rfl rfl ?_
  exact ⟨rfl, rfl⟩

theorem S_R_drawnBy_10 {X : Mem} {r g : Nat → Int32} (hX : Ok X) (hR : RNow X r g) (hW : WFg g) : CM 1 m_R_drawnBy [.ref 244, .int (nI 10)] X (rI (nI (tn (g 2) % 10)) (pA X 245 (ofF 1217 (rowOf r (gN g))))) := by
  have w2 := wg_n hW (k := 2) (n := 30982) (by decide) (by decide)
  refine CM_of (L := [some (.ref 244), some (.int (nI 10)), none]) 1 ok_R_drawnBy (fun _ => Nat.le_of_ble_eq_true rfl) rfl ?_
  refine J_aload_n (i := 0) d_R_drawnBy_0 rfl rfl ?_
  refine M_getR (b := 245) d_R_drawnBy_1 f_R_7 rfl rfl rfl ?_
  refine J_bipush (v := nI 7) d_R_drawnBy_4 rfl ?_
  refine N_iald (x := (nI (tn (g 2)))) d_R_drawnBy_6 rfl (by omega) (ltL hX (a := 245) (n := 1217) (by decide) rfl (by omega)) ((rn_y hR (k := 2) (by decide) (by decide)).trans w2.1) ?_
  refine J_iload_n (i := 1) d_R_drawnBy_7 rfl rfl ?_
  refine N_irem d_R_drawnBy_8 (by omega) (by omega) (by omega) ?_
  refine J_istore_n (i := 2) (L1 := [some (.ref 244), some (.int (nI 10)), some (.int (nI ((tn (g 2)) % 10)))]) d_R_drawnBy_9 rfl (by decide) rfl ?_
  refine J_aload_n (i := 0) d_R_drawnBy_10 rfl rfl ?_
  refine CV_V (av := []) d_R_drawnBy_11 s_R_370 (M_rcv rfl (by decide) rfl) (S_R_anew hX hR hW) (by decide) rfl rfl (Nat.le_of_ble_eq_true rfl) ?_
  refine J_iload_n (i := 2) d_R_drawnBy_14 rfl rfl ?_
  refine M_ir d_R_drawnBy_15 rfl rfl ?_
  exact ⟨rfl, rfl⟩

