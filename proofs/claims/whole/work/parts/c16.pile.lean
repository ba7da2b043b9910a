/-- one thing written as the c-th of text t -/
def emR (X : Mem) (t c : Nat) (a v : Int32) : Mem := pF (pA X 251 (((X.2.1 251).set (681 * t + 73 + 2 * c) a).set (681 * t + 73 + 2 * c + 1) v)) 244 18 (nI (c + 1))
theorem emR_e {X : Mem} {t c : Nat} {a v : Int32} : pF (pA (pA X 251 ((X.2.1 251).set (681 * t + 73 + 2 * c) a)) 251 (((pA X 251 ((X.2.1 251).set (681 * t + 73 + 2 * c) a)).2.1 251).set (681 * t + 73 + 2 * c + 1) v)) 244 18 (nI (c + 1)) = emR X t c a v := by
  rw [pA_pA, pA_at]
  rfl
theorem S_R_emit {X : Mem} {t c : Nat} {a v : Int32} (hX : Ok X) (h17 : X.1 244 17 = nI (681 * t)) (h18 : X.1 244 18 = nI c) (ht : t < 4) (hc : c < 304) : CM 0 m_R_emit [.ref 244, .int a, .int v] X (rV (emR X t c a v)) := by
  refine CM_of (L := [some (.ref 244), some (.int a), some (.int v)]) 0 ok_R_emit (fun _ => Nat.le_of_ble_eq_true rfl) rfl ?_
  refine J_aload_n (i := 0) d_R_emit_0 rfl rfl ?_
  refine M_getR (b := 251) d_R_emit_1 f_R_28 rfl rfl rfl ?_
  refine J_aload_n (i := 0) d_R_emit_4 rfl rfl ?_
  refine M_get (x := (nI (681 * t))) d_R_emit_5 f_R_196 rfl rfl h17 ?_
  refine J_bipush (v := nI 73) d_R_emit_8 rfl ?_
  refine N_iadd d_R_emit_10 ?_
  refine J_iconst (v := nI 2) d_R_emit_11 rfl ?_
  refine J_aload_n (i := 0) d_R_emit_12 rfl rfl ?_
  refine M_get (x := (nI c)) d_R_emit_13 f_R_199 rfl rfl h18 ?_
  refine N_imul d_R_emit_16 ?_
  refine N_iadd d_R_emit_17 ?_
  refine J_iload_n (i := 1) d_R_emit_18 rfl rfl ?_
  refine N_iast d_R_emit_19 rfl (by decide) (by omega) (ltL hX (a := 251) (n := 2724) (by decide) rfl (by omega)) ?_
  refine J_aload_n (i := 0) d_R_emit_20 rfl rfl ?_
  refine M_getR (b := 251) d_R_emit_21 f_R_28 rfl rfl rfl ?_
  refine J_aload_n (i := 0) d_R_emit_24 rfl rfl ?_
  refine M_get (x := (nI (681 * t))) d_R_emit_25 f_R_196 rfl rfl h17 ?_
  refine J_bipush (v := nI 73) d_R_emit_28 rfl ?_
  refine N_iadd d_R_emit_30 ?_
  refine J_iconst (v := nI 2) d_R_emit_31 rfl ?_
  refine J_aload_n (i := 0) d_R_emit_32 rfl rfl ?_
  refine M_get (x := (nI c)) d_R_emit_33 f_R_199 rfl rfl h18 ?_
  refine N_imul d_R_emit_36 ?_
  refine N_iadd d_R_emit_37 ?_
  refine J_iconst (v := nI 1) d_R_emit_38 rfl ?_
  refine N_iadd d_R_emit_39 ?_
  refine J_iload_n (i := 2) d_R_emit_40 rfl rfl ?_
  refine N_iast d_R_emit_41 rfl (by decide) (by omega) (ltL (okS hX rfl) (a := 251) (n := 2724) (by decide) rfl (by omega)) ?_
  refine J_aload_n (i := 0) d_R_emit_42 rfl rfl ?_
  refine J_dup d_R_emit_43 rfl ?_
  refine M_get (x := (nI c)) d_R_emit_44 f_R_199 rfl rfl h18 ?_
  refine J_iconst (v := nI 1) d_R_emit_47 rfl ?_
  refine N_iadd d_R_emit_48 ?_
  refine M_put d_R_emit_49 p_R_199 rfl rfl rfl rfl ?_
  refine M_vr d_R_emit_52 rfl ?_
  exact ⟨rfl, emR_e⟩

