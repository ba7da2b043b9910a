theorem lp_R_write {X : Mem} {m wt : Nat} {r g : Nat → Int32} {k : Int32} {Q : Option Value → Mem → Prop} (hX : Ok X) (kx : JM 0 m_R_write Q 60 [some (.ref 244), some (.int (nI m)), some (.int (nI wt)), some (.int k), some (.int (nI 25))] [] (pA X 245 (ofF 1217 (rowOf r (gSh g 24))))) : ∀ (f i : Nat), i + f = 24 → JM 0 m_R_write Q 23 [some (.ref 244), some (.int (nI m)), some (.int (nI wt)), some (.int k), some (.int (nI (i + 1)))] [] (pA X 245 (ofF 1217 (rowOf r (gSh g i)))) := by
  intro f
  induction f with
  | zero =>
    intro i hi
    obtain rfl : i = 24 := by omega
    refine J_iload d_R_write_23 rfl ?_
    refine J_bipush (v := nI 25) d_R_write_25 rfl ?_
    refine N_icmp_ge (tgt := 60) d_R_write_27 (by decide) (by omega) (by omega) (fun c27 => ?_) (fun c27 => absurd c27 (by decide))
    exact kx
  | succ f ih =>
    intro i hi
    have hX1 : Ok (pA X 245 (ofF 1217 (rowOf r (gSh g i)))) := okRow hX
    have hst : RNow (pA X 245 (ofF 1217 (rowOf r (gSh g i)))) r (gSh g i) := pA_at
    have hsb := rn_setb hst (v := g (13 + (i + 1))) (show i < 25 by omega)
    rw [row_cong (gSh_s g (i := i)), pA_at] at hsb
    refine J_iload d_R_write_23 rfl ?_
    refine J_bipush (v := nI 25) d_R_write_25 rfl ?_
    refine N_icmp_ge (tgt := 60) d_R_write_27 (by decide) (by omega) (by omega) (fun c27 => absurd c27 (by omega)) (fun c27 => ?_)
    refine J_aload_n (i := 0) d_R_write_30 rfl rfl ?_
    refine M_getR (b := 245) d_R_write_31 f_R_7 rfl rfl rfl ?_
    refine J_sipush (v := nI 1192) d_R_write_34 rfl ?_
    refine J_iload d_R_write_37 rfl ?_
    refine N_iadd d_R_write_39 ?_
    refine J_iconst (v := nI 1) d_R_write_40 rfl ?_
    refine N_isub d_R_write_41 (by omega) ?_
    rw [show 1192 + (i + 1) - 1 = 1192 + i from rfl]
    refine J_aload_n (i := 0) d_R_write_42 rfl rfl ?_
    refine M_getR (b := 245) d_R_write_43 f_R_7 rfl rfl rfl ?_
    refine J_sipush (v := nI 1192) d_R_write_46 rfl ?_
    refine J_iload d_R_write_49 rfl ?_
    refine N_iadd d_R_write_51 ?_
    refine N_iald (x := (g (13 + (i + 1)))) d_R_write_52 rfl (by omega) (ltL hX1 (a := 245) (n := 1217) (by decide) rfl (by omega)) (by rw [pA_at, ofF_get (by omega), row_b r _ (by omega)]; unfold gSh; rw [if_neg (by omega)]) ?_
    refine N_iast d_R_write_53 rfl (by decide) (by omega) (ltL hX1 (a := 245) (n := 1217) (by decide) rfl (by omega)) ?_
    refine N_iinc (a := (i + 1)) (c := 1) (L1 := [some (.ref 244), some (.int (nI m)), some (.int (nI wt)), some (.int k), some (.int (nI ((i + 1) + 1)))]) d_R_write_54 rfl rfl (by decide) rfl ?_
    refine J_goto (tgt := 23) d_R_write_57 (by decide) ?_
    rw [pA_pA, pA_at, hsb]
    exact ih (i + 1) (by omega)
theorem S_R_write_f {X : Mem} {m wt s1 : Nat} {r g : Nat → Int32} {k : Int32} (hX : Ok X) (hR : RNow X r g) (hW : WFg g) (hm : m < 8) (hw : wt < 4) (hs : s1 < 21) (hk : k + nI 1 = nI s1) (h30 : X.1 244 30 = nI 1) (hL : tn (g 4) = 25) : CM 0 m_R_write [.ref 244, .int (nI m), .int (nI wt), .int k] X (rV (pA X 245 (ofF 1217 (rowOf r (gWrite g m wt s1))))) := by
  have wY := wg_n hW (k := 1) (n := 9999) (by decide) (by decide)
  have wL := wg_n hW (k := 4) (n := 25) (by decide) (by decide)
  have g9 : (X.2.1 245).getD 9 0 = nI 25 := (rn_y hR (k := 4) (by decide) (by decide)).trans (wL.1.trans (by rw [hL]))
  have s9 : (ofF 1217 (rowOf r (gSh g 24))).getD 9 0 = nI 25 := by
    rw [ofF_get (by decide), show (9 : Nat) = 5 + 4 from rfl, row_y r _ (by decide) (by decide)]
    show g 4 = nI 25
    rw [wL.1, hL]
  have s6 : (ofF 1217 (rowOf r (gSh g 24))).getD 6 0 = nI (tn (g 1)) := by
    rw [ofF_get (by decide), show (6 : Nat) = 5 + 1 from rfl, row_y r _ (by decide) (by decide)]
    exact wY.1
  generalize hYY : tn (g 1) = y at *
  refine CM_of (L := [some (.ref 244), some (.int (nI m)), some (.int (nI wt)), some (.int k), none]) 1 ok_R_write (fun _ => Nat.le_of_ble_eq_true rfl) rfl ?_
  refine J_aload_n (i := 0) d_R_write_0 rfl rfl ?_
  refine M_get (x := (nI 1)) d_R_write_1 f_R_61 rfl rfl h30 ?_
  refine N_if_ne (tgt := 8) d_R_write_4 (by decide) (by omega) (fun c4 => ?_) (fun c4 => absurd c4 (by decide))
  refine J_aload_n (i := 0) d_R_write_8 rfl rfl ?_
  refine M_getR (b := 245) d_R_write_9 f_R_7 rfl rfl rfl ?_
  refine J_bipush (v := nI 9) d_R_write_12 rfl ?_
  refine N_iald (x := (nI 25)) d_R_write_14 rfl (by omega) (ltL hX (a := 245) (n := 1217) (by decide) rfl (by omega)) g9 ?_
  refine J_bipush (v := nI 25) d_R_write_15 rfl ?_
  refine N_icmp_ne (tgt := 71) d_R_write_17 (by decide) (by omega) (by omega) (fun c17 => absurd c17 (by decide)) (fun c17 => ?_)
  refine J_iconst (v := nI 1) d_R_write_20 rfl ?_
  refine J_istore (L1 := [some (.ref 244), some (.int (nI m)), some (.int (nI wt)), some (.int k), some (.int (nI 1))]) d_R_write_21 (by decide) rfl ?_
  refine (lp_R_write (r := r) (g := g) hX ?_ 24 0 (by omega)).eq rfl rfl (by rw [show ofF 1217 (rowOf r (gSh g 0)) = X.2.1 245 from by rw [hR]; exact row_cong (fun q hq => by unfold gSh; rw [if_neg (by omega)]), pA_eta])
  refine J_aload_n (i := 0) d_R_write_60 rfl rfl ?_
  refine M_getR (b := 245) d_R_write_61 f_R_7 rfl rfl rfl ?_
  refine J_bipush (v := nI 9) d_R_write_64 rfl ?_
  refine J_dup2 d_R_write_66 rfl rfl ?_
  refine N_iald (x := (nI 25)) d_R_write_67 rfl (by omega) (ltL (okRow hX) (a := 245) (n := 1217) (by decide) rfl (by omega)) (by rw [pA_at]; exact s9) ?_
  refine J_iconst (v := nI 1) d_R_write_68 rfl ?_
  refine N_isub d_R_write_69 (by omega) ?_
  refine N_iast d_R_write_70 rfl (by decide) (by omega) (ltL (okRow hX) (a := 245) (n := 1217) (by decide) rfl (by omega)) ?_
  refine J_aload_n (i := 0) d_R_write_71 rfl rfl ?_
  refine M_getR (b := 245) d_R_write_72 f_R_7 rfl rfl rfl ?_
  refine J_sipush (v := nI 1192) d_R_write_75 rfl ?_
  refine J_aload_n (i := 0) d_R_write_78 rfl rfl ?_
  refine M_getR (b := 245) d_R_write_79 f_R_7 rfl rfl rfl ?_
  refine J_bipush (v := nI 9) d_R_write_82 rfl ?_
  refine N_iald (x := (nI 24)) d_R_write_84 rfl (by omega) (ltL (okS (okRow hX) rfl) (a := 245) (n := 1217) (by decide) rfl (by omega)) (by rw [pA_at, set_eq (by rw [pA_at, ofF_len]; decide)]) ?_
  refine N_iadd d_R_write_85 ?_
  refine J_aload_n (i := 0) d_R_write_86 rfl rfl ?_
  refine M_getR (b := 245) d_R_write_87 f_R_7 rfl rfl rfl ?_
  refine J_bipush (v := nI 6) d_R_write_90 rfl ?_
  refine N_iald (x := (nI y)) d_R_write_92 rfl (by omega) (ltL (okS (okRow hX) rfl) (a := 245) (n := 1217) (by decide) rfl (by omega)) (by rw [pA_at, set_ne (by decide), pA_at]; exact s6) ?_
  refine J_bipush (v := nI 8) d_R_write_93 rfl ?_
  refine N_imul d_R_write_95 ?_
  refine J_iload_n (i := 1) d_R_write_96 rfl rfl ?_
  refine N_iadd d_R_write_97 ?_
  refine J_iconst (v := nI 4) d_R_write_98 rfl ?_
  refine N_imul d_R_write_99 ?_
  refine J_iload_n (i := 2) d_R_write_100 rfl rfl ?_
  refine N_iadd d_R_write_101 ?_
  refine J_bipush (v := nI 21) d_R_write_102 rfl ?_
  refine N_imul d_R_write_104 ?_
  refine J_iload_n (i := 3) d_R_write_105 rfl rfl ?_
  refine J_iadd d_R_write_106 ?_
  refine J_iconst (v := nI 1) d_R_write_107 rfl ?_
  refine J_iadd d_R_write_108 ?_
  refine I_ton (n := ((y * 8 + m) * 4 + wt) * 21 + s1) (by rw [Int32.add_assoc, hk, nI_add]) ?_
  refine N_iast d_R_write_109 rfl (by decide) (by omega) (ltL (okS (okRow hX) rfl) (a := 245) (n := 1217) (by decide) rfl (by omega)) ?_
  refine J_aload_n (i := 0) d_R_write_110 rfl rfl ?_
  refine M_getR (b := 245) d_R_write_111 f_R_7 rfl rfl rfl ?_
  refine J_bipush (v := nI 9) d_R_write_114 rfl ?_
  refine J_dup2 d_R_write_116 rfl rfl ?_
  refine N_iald (x := (nI 24)) d_R_write_117 rfl (by omega) (ltL (okS (okS (okRow hX) rfl) rfl) (a := 245) (n := 1217) (by decide) rfl (by omega)) (by rw [pA_at, set_ne (by decide), pA_at, set_eq (by rw [pA_at, ofF_len]; decide)]) ?_
  refine J_iconst (v := nI 1) d_R_write_118 rfl ?_
  refine N_iadd d_R_write_119 ?_
  refine N_iast d_R_write_120 rfl (by decide) (by omega) (ltL (okS (okS (okRow hX) rfl) rfl) (a := 245) (n := 1217) (by decide) rfl (by omega)) ?_
  refine M_vr d_R_write_121 rfl ?_
  refine ⟨rfl, ?_⟩
  simp only [pA_pA, pA_at]
  have h1 := rn_set (X := pA X 245 (ofF 1217 (rowOf r (gSh g 24)))) (r := r) (g := gSh g 24) pA_at (k := 4) (v := nI 24) (by decide) (by decide)
  rw [pA_at] at h1
  have h2 := rn_setb (X := pA X 245 (ofF 1217 (rowOf r (upF (gSh g 24) 4 (nI 24))))) (r := r) (g := upF (gSh g 24) 4 (nI 24)) pA_at (i := 24) (v := nI (((y * 8 + m) * 4 + wt) * 21 + s1)) (by decide)
  rw [pA_at] at h2
  have h3 := rn_set (X := pA X 245 (ofF 1217 (rowOf r (upF (upF (gSh g 24) 4 (nI 24)) (13 + 24) (nI (((y * 8 + m) * 4 + wt) * 21 + s1)))))) (r := r) (g := upF (upF (gSh g 24) 4 (nI 24)) (13 + 24) (nI (((y * 8 + m) * 4 + wt) * 21 + s1))) pA_at (k := 4) (v := nI 25) (by decide) (by decide)
  rw [pA_at] at h3
  refine congrArg (pA X 245) (Eq.trans ?_ (h3.trans ?_))
  · rw [← h2, ← h1]
  · refine row_cong (fun q hq => ?_)
    unfold gWrite
    rw [hL, hYY]
    by_cases e4 : q = 4
    · rw [e4, upF_at, if_pos rfl]; rfl
    · rw [upF_o e4, if_neg e4]
      by_cases e : q = 37
      · rw [e, show 13 + 24 = 37 from rfl, upF_at, if_neg (by decide), if_neg (by decide), if_pos rfl]
      · rw [upF_o (show q ≠ 13 + 24 from e), upF_o e4]
        unfold gSh
        by_cases q13 : q < 13
        · rw [if_neg (by omega), if_pos q13]
        · rw [if_pos (by omega), if_neg q13, if_neg (by omega), if_neg e]

theorem S_R_write {X : Mem} {m wt s1 : Nat} {r g : Nat → Int32} {k : Int32} (hX : Ok X) (hR : RNow X r g) (hW : WFg g) (hm : m < 8) (hw : wt < 4) (hs : s1 < 21) (hk : k + nI 1 = nI s1) (h30 : X.1 244 30 = nI 1) : CM 0 m_R_write [.ref 244, .int (nI m), .int (nI wt), .int k] X (rV (pA X 245 (ofF 1217 (rowOf r (gWrite g m wt s1))))) := by
  have wL := wg_n hW (k := 4) (n := 25) (by decide) (by decide)
  rcases Nat.lt_or_ge (tn (g 4)) 25 with h | h
  · exact S_R_write_s hX hR hW hm hw hs hk h30 h
  · exact S_R_write_f hX hR hW hm hw hs hk h30 (by omega)
