def imS (s : Sg) : Sg := (s.1, (s.1, s.2.2))
def bkS (s : Sg) : Sg := (s.2.1, s.2)
theorem WF_im {s : Sg} (hw : WFs s) : WFs (imS s) := ⟨hw.1, hw.1, Nat.le_refl _, hw.2.2.2.1, hw.2.2.2.2⟩
theorem WF_bk {s : Sg} (hw : WFs s) : WFs (bkS s) := ⟨hw.2.1, hw.2.1, Nat.le_refl _, hw.2.2.2.1, fun t ht => hw.2.2.2.2 t (Nat.lt_of_lt_of_le ht hw.2.2.1)⟩
def pF7 (X : Mem) (D S : Nat) : Mem := pF (pF (pF (pF (pF X D 3 (X.1 S 3)) D 4 (X.1 S 4)) D 5 (X.1 S 5)) D 6 (X.1 S 6)) D 7 (X.1 S 7)
theorem pF7_a (X : Mem) (D S : Nat) : (pF7 X D S).1 D 3 = X.1 S 3 ∧ (pF7 X D S).1 D 4 = X.1 S 4 ∧ (pF7 X D S).1 D 5 = X.1 S 5 ∧ (pF7 X D S).1 D 6 = X.1 S 6 ∧ (pF7 X D S).1 D 7 = X.1 S 7 := by
  unfold pF7
  refine ⟨?_, ?_, ?_, ?_, ?_⟩
  · rw [pF_k (by decide), pF_k (by decide), pF_k (by decide), pF_k (by decide), pF_at]
  · rw [pF_k (by decide), pF_k (by decide), pF_k (by decide), pF_at]
  · rw [pF_k (by decide), pF_k (by decide), pF_at]
  · rw [pF_k (by decide), pF_at]
  · rw [pF_at]
theorem pF7_o {X : Mem} {D S b k : Nat} (h : b ≠ D) : (pF7 X D S).1 b k = X.1 b k := by
  unfold pF7
  rw [pF_o h, pF_o h, pF_o h, pF_o h, pF_o h]
/-- beside D .. D + 99 nothing is other -/
def offH (D : Nat) (X Y : Mem) : Prop := (∀ b, b < D ∨ D + 99 < b → (∀ k, Y.1 b k = X.1 b k) ∧ Y.2.1 b = X.2.1 b) ∧ Y.2.2 = X.2.2

theorem S_H_copyFrom_i {X : Mem} (hX : Ok X) : CM 3 m_H_copyFrom [.ref 118, .ref 18] X (fun q Y => q = none ∧ Ok Y ∧ offH 118 X Y ∧ ∀ r, CHeld X 18 r → CHeld Y 118 r) := by
  refine CM_of (L := [some (.ref 118), some (.ref 18)]) 0 ok_H_copyFrom (fun _ => Nat.le_of_ble_eq_true rfl) rfl ?_
  refine J_aload_n (i := 0) d_H_copyFrom_0 rfl rfl ?_
  refine M_getR (b := 119) d_H_copyFrom_1 f_H_12 rfl rfl rfl ?_
  refine J_aload_n (i := 1) d_H_copyFrom_4 rfl rfl ?_
  refine M_getR (b := 19) d_H_copyFrom_5 f_H_12 rfl rfl rfl ?_
  refine M_callV (av := [.ref 19]) d_H_copyFrom_8 s_H_42 (M_rcv rfl (by decide) rfl) (S_N_copyRaw (a := 119) hX rfl rfl (by decide)) (by decide) rfl rfl (Nat.le_of_ble_eq_true rfl) (fun q Y1 hq => ?_)
  obtain ⟨rfl, hY1, hc1, ho1⟩ := hq
  refine J_aload_n (i := 0) d_H_copyFrom_11 rfl rfl ?_
  refine M_getR (b := 122) d_H_copyFrom_12 f_H_21 rfl rfl rfl ?_
  refine J_aload_n (i := 1) d_H_copyFrom_15 rfl rfl ?_
  refine M_getR (b := 22) d_H_copyFrom_16 f_H_21 rfl rfl rfl ?_
  refine M_callV (av := [.ref 22]) d_H_copyFrom_19 s_H_46 (M_rcv rfl (by decide) rfl) (S_S_copyFrom_i hY1) (by decide) rfl rfl (Nat.le_of_ble_eq_true rfl) (fun q Y2 hq => ?_)
  obtain ⟨rfl, hY2, ho2, he2, hn2, hc2⟩ := hq
  refine J_aload_n (i := 0) d_H_copyFrom_22 rfl rfl ?_
  refine J_aload_n (i := 1) d_H_copyFrom_23 rfl rfl ?_
  refine M_get (x := (Y2.1 18 3)) d_H_copyFrom_24 f_H_49 rfl rfl (by first | rfl | simp only [pF_o (show (18 : Nat) ≠ 118 by decide)]) ?_
  refine M_put d_H_copyFrom_27 p_H_49 rfl rfl rfl rfl ?_
  refine J_aload_n (i := 0) d_H_copyFrom_30 rfl rfl ?_
  refine J_aload_n (i := 1) d_H_copyFrom_31 rfl rfl ?_
  refine M_get (x := (Y2.1 18 4)) d_H_copyFrom_32 f_H_29 rfl rfl (by first | rfl | simp only [pF_o (show (18 : Nat) ≠ 118 by decide)]) ?_
  refine M_put d_H_copyFrom_35 p_H_29 rfl rfl rfl rfl ?_
  refine J_aload_n (i := 0) d_H_copyFrom_38 rfl rfl ?_
  refine J_aload_n (i := 1) d_H_copyFrom_39 rfl rfl ?_
  refine M_get (x := (Y2.1 18 5)) d_H_copyFrom_40 f_H_52 rfl rfl (by first | rfl | simp only [pF_o (show (18 : Nat) ≠ 118 by decide)]) ?_
  refine M_put d_H_copyFrom_43 p_H_52 rfl rfl rfl rfl ?_
  refine J_aload_n (i := 0) d_H_copyFrom_46 rfl rfl ?_
  refine J_aload_n (i := 1) d_H_copyFrom_47 rfl rfl ?_
  refine M_get (x := (Y2.1 18 6)) d_H_copyFrom_48 f_H_55 rfl rfl (by first | rfl | simp only [pF_o (show (18 : Nat) ≠ 118 by decide)]) ?_
  refine M_put d_H_copyFrom_51 p_H_55 rfl rfl rfl rfl ?_
  refine J_aload_n (i := 0) d_H_copyFrom_54 rfl rfl ?_
  refine J_aload_n (i := 1) d_H_copyFrom_55 rfl rfl ?_
  refine M_get (x := (Y2.1 18 7)) d_H_copyFrom_56 f_H_58 rfl rfl (by first | rfl | simp only [pF_o (show (18 : Nat) ≠ 118 by decide)]) ?_
  refine M_put d_H_copyFrom_59 p_H_58 rfl rfl rfl rfl ?_
  refine J_aload_n (i := 1) d_H_copyFrom_62 rfl rfl ?_
  refine M_getR (b := 114) d_H_copyFrom_63 f_H_25 rfl rfl rfl ?_
  refine J_iconst (v := nI 0) d_H_copyFrom_66 rfl ?_
  refine J_aload_n (i := 0) d_H_copyFrom_67 rfl rfl ?_
  refine M_getR (b := 214) d_H_copyFrom_68 f_H_25 rfl rfl rfl ?_
  refine J_iconst (v := nI 0) d_H_copyFrom_71 rfl ?_
  refine J_bipush (v := nI 8) d_H_copyFrom_72 rfl ?_
  refine M_acopy (sp := 0) (dp := 0) (n := 8) d_H_copyFrom_74 w_H_61 rfl rfl (by decide) (nI_pos (by omega)) (nI_pos (by omega)) (nI_pos (by omega)) (nI_clamp (by omega)) (nI_clamp (by omega)) (nI_clamp (by omega)) (show 0 + 8 ≤ (Y2.2.1 114).length by rw [hY2.1 114 (by decide)]; decide) (show 0 + 8 ≤ (Y2.2.1 214).length by rw [hY2.1 214 (by decide)]; decide) (by decide) (Nat.le_of_ble_eq_true rfl) ?_
  refine J_aload_n (i := 1) d_H_copyFrom_77 rfl rfl ?_
  refine M_getR (b := 115) d_H_copyFrom_78 f_H_33 rfl rfl rfl ?_
  refine J_iconst (v := nI 0) d_H_copyFrom_81 rfl ?_
  refine J_aload_n (i := 0) d_H_copyFrom_82 rfl rfl ?_
  refine M_getR (b := 215) d_H_copyFrom_83 f_H_33 rfl rfl rfl ?_
  refine J_iconst (v := nI 0) d_H_copyFrom_86 rfl ?_
  refine J_bipush (v := nI 8) d_H_copyFrom_87 rfl ?_
  refine M_acopy (sp := 0) (dp := 0) (n := 8) d_H_copyFrom_89 w_H_61 rfl rfl (by decide) (nI_pos (by omega)) (nI_pos (by omega)) (nI_pos (by omega)) (nI_clamp (by omega)) (nI_clamp (by omega)) (nI_clamp (by omega)) (show 0 + 8 ≤ (Y2.2.1 115).length by rw [hY2.1 115 (by decide)]; decide) (show 0 + 8 ≤ (Y2.2.1 215).length by rw [hY2.1 215 (by decide)]; decide) (by decide) (Nat.le_of_ble_eq_true rfl) ?_
  refine J_aload_n (i := 1) d_H_copyFrom_92 rfl rfl ?_
  refine M_getR (b := 116) d_H_copyFrom_93 f_H_36 rfl rfl rfl ?_
  refine J_iconst (v := nI 0) d_H_copyFrom_96 rfl ?_
  refine J_aload_n (i := 0) d_H_copyFrom_97 rfl rfl ?_
  refine M_getR (b := 216) d_H_copyFrom_98 f_H_36 rfl rfl rfl ?_
  refine J_iconst (v := nI 0) d_H_copyFrom_101 rfl ?_
  refine J_bipush (v := nI 8) d_H_copyFrom_102 rfl ?_
  refine M_acopy (sp := 0) (dp := 0) (n := 8) d_H_copyFrom_104 w_H_61 rfl rfl (by decide) (nI_pos (by omega)) (nI_pos (by omega)) (nI_pos (by omega)) (nI_clamp (by omega)) (nI_clamp (by omega)) (nI_clamp (by omega)) (show 0 + 8 ≤ (Y2.2.1 116).length by rw [hY2.1 116 (by decide)]; decide) (show 0 + 8 ≤ (Y2.2.1 216).length by rw [hY2.1 216 (by decide)]; decide) (by decide) (Nat.le_of_ble_eq_true rfl) ?_
  refine J_aload_n (i := 1) d_H_copyFrom_107 rfl rfl ?_
  refine M_getR (b := 117) d_H_copyFrom_108 f_H_39 rfl rfl rfl ?_
  refine J_iconst (v := nI 0) d_H_copyFrom_111 rfl ?_
  refine J_aload_n (i := 0) d_H_copyFrom_112 rfl rfl ?_
  refine M_getR (b := 217) d_H_copyFrom_113 f_H_39 rfl rfl rfl ?_
  refine J_iconst (v := nI 0) d_H_copyFrom_116 rfl ?_
  refine J_bipush (v := nI 8) d_H_copyFrom_117 rfl ?_
  refine M_acopy (sp := 0) (dp := 0) (n := 8) d_H_copyFrom_119 w_H_61 rfl rfl (by decide) (nI_pos (by omega)) (nI_pos (by omega)) (nI_pos (by omega)) (nI_clamp (by omega)) (nI_clamp (by omega)) (nI_clamp (by omega)) (show 0 + 8 ≤ (Y2.2.1 117).length by rw [hY2.1 117 (by decide)]; decide) (show 0 + 8 ≤ (Y2.2.1 217).length by rw [hY2.1 217 (by decide)]; decide) (by decide) (Nat.le_of_ble_eq_true rfl) ?_
  refine M_vr d_H_copyFrom_122 rfl ?_
  have e5 := pF7_a Y2 118 18
  have oS : ∀ k, Y2.1 18 k = X.1 18 k := fun k => ((ho2.1 18 (by decide)).1 k).trans (ho1.1 18 (by decide) k)
  have oA : ∀ b, b = 114 ∨ b = 115 ∨ b = 116 ∨ b = 117 → Y2.2.1 b = X.2.1 b := fun b hb => ((ho2.1 b (by omega)).2).trans (ho1.2.1 b (by omega) (by omega))
  have l8 : ∀ b, b = 214 ∨ b = 215 ∨ b = 216 ∨ b = 217 → 8 ≤ (Y2.2.1 b).length := fun b hb => by
    rcases hb with rfl | rfl | rfl | rfl
    · rw [hY2.1 214 (by decide)]; decide
    · rw [hY2.1 215 (by decide)]; decide
    · rw [hY2.1 216 (by decide)]; decide
    · rw [hY2.1 217 (by decide)]; decide
  refine ⟨rfl, okA (okA (okA (okA (okF (okF (okF (okF (okF hY2))))) rfl cpyL_len) rfl cpyL_len) rfl cpyL_len) rfl cpyL_len, ⟨fun b hb => ⟨fun k => (pF7_o (D := 118) (S := 18) (by omega)).trans (((ho2.1 b (by omega)).1 k).trans (ho1.1 b (by omega) k)), ?_⟩, ho2.2.trans ho1.2.2⟩, fun r hr => ?_⟩
  · show (if b = 217 then _ else if b = 216 then _ else if b = 215 then _ else if b = 214 then _ else Y2.2.1 b) = X.2.1 b
    rw [if_neg (by omega), if_neg (by omega), if_neg (by omega), if_neg (by omega)]
    exact ((ho2.1 b (by omega)).2).trans (ho1.2.1 b (by omega) (by omega))
  · obtain ⟨k1, ⟨h2, e, he, h3, h4⟩, k5, ⟨g1, g2, g3, g4, g5⟩, k7⟩ := hr
    refine ⟨?_, ⟨?_, e, he, ?_, fun i hi => ?_⟩, fun i hi => ?_, ⟨?_, ?_, ?_, ?_, ?_⟩, fun i hi => ⟨?_, ?_, ?_⟩⟩
    · exact CNow_on (X := Y2) (fun k => pF7_o (D := 118) (S := 18) (by decide)) rfl rfl (CNow_on (X := Y1) (fun k => (ho2.1 _ (by decide)).1 k) (ho2.1 _ (by decide)).2 (ho2.1 _ (by decide)).2 (hc1 _ k1))
    · exact (pF7_o (D := 118) (S := 18) (by decide)).trans (hn2.trans ((ho1.1 22 (by decide) 2).trans h2))
    · exact (pF7_o (D := 118) (S := 18) (by decide)).trans (he2.trans ((ho1.1 22 (by decide) 1).trans h3))
    · have hb : (e + i) % 30 < 30 := Nat.mod_lt _ (by decide)
      refine CNow_on (X := Y2) (fun k => pF7_o (D := 118) (S := 18) (by omega)) ?_ ?_ (hc2 _ hb _ (CNow_on (X := X) (fun k => ho1.1 _ (by omega) k) (ho1.2.1 _ (by omega) (by omega)) (ho1.2.1 _ (by omega) (by omega)) (h4 i hi)))
      · show (if _ = 217 then _ else if _ = 216 then _ else if _ = 215 then _ else if _ = 214 then _ else Y2.2.1 _) = Y2.2.1 _
        rw [if_neg (by omega), if_neg (by omega), if_neg (by omega), if_neg (by omega)]
      · show (if _ = 217 then _ else if _ = 216 then _ else if _ = 215 then _ else if _ = 214 then _ else Y2.2.1 _) = Y2.2.1 _
        rw [if_neg (by omega), if_neg (by omega), if_neg (by omega), if_neg (by omega)]
    · show (cpyL (Y2.2.1 114) (Y2.2.1 214) 0 0 8).getD i 0 = _
      rw [cpyL_0 (l8 _ (by omega)) hi, oA _ (by omega)]; exact k5 i hi
    · exact e5.1.trans ((oS 3).trans g1)
    · exact e5.2.1.trans ((oS 4).trans g2)
    · exact e5.2.2.1.trans ((oS 5).trans g3)
    · exact e5.2.2.2.1.trans ((oS 6).trans g4)
    · exact e5.2.2.2.2.trans ((oS 7).trans g5)
    · show (cpyL (Y2.2.1 115) (Y2.2.1 215) 0 0 8).getD i 0 = _
      rw [cpyL_0 (l8 _ (by omega)) hi, oA _ (by omega)]; exact (k7 i hi).1
    · show (cpyL (Y2.2.1 116) (Y2.2.1 216) 0 0 8).getD i 0 = _
      rw [cpyL_0 (l8 _ (by omega)) hi, oA _ (by omega)]; exact (k7 i hi).2.1
    · show (cpyL (Y2.2.1 117) (Y2.2.1 217) 0 0 8).getD i 0 = _
      rw [cpyL_0 (l8 _ (by omega)) hi, oA _ (by omega)]; exact (k7 i hi).2.2

theorem S_O_image {X : Mem} {s : Sg} (hX : Ok X) (hC : CI X s) (hw : WFs s) : CM 4 m_O_image [.ref 8] X (fun q Y => q = some (.int (s.1 6)) ∧ pC X (imS s) Y) := by
  refine CM_of (L := [some (.ref 8)]) 0 ok_O_image (fun _ => Nat.le_of_ble_eq_true rfl) rfl ?_
  refine J_aload_n (i := 0) d_O_image_0 rfl rfl ?_
  refine M_getR (b := 118) d_O_image_1 f_O_52 rfl rfl rfl ?_
  refine J_aload_n (i := 0) d_O_image_4 rfl rfl ?_
  refine M_getR (b := 18) d_O_image_5 f_O_48 rfl rfl rfl ?_
  refine M_callV (av := [.ref 18]) d_O_image_8 s_O_338 (M_rcv rfl (by decide) rfl) (S_H_copyFrom_i hX) (by decide) rfl rfl (Nat.le_of_ble_eq_true rfl) (fun q Y hq => ?_)
  obtain ⟨rfl, hY, hof, hcH⟩ := hq
  have hCY : CI Y (imS s) := ⟨CHeld_on (fun b q1 q2 => hof.1 b (by omega)) hC.1, hcH _ hC.1, fun i hi => by rw [(hof.1 9 (by decide)).2]; exact hC.2.2.1 i hi, ⟨((hof.1 8 (by decide)).1 1).trans hC.2.2.2.1.1, ((hof.1 8 (by decide)).1 2).trans hC.2.2.2.1.2.1, ((hof.1 8 (by decide)).1 3).trans hC.2.2.2.1.2.2⟩, fun t ht ht4 => CTxt_on (fun b q1 q2 => hof.1 b (by omega)) (hC.2.2.2.2 t ht ht4)⟩
  refine J_aload_n (i := 0) d_O_image_11 rfl rfl ?_
  refine M_getR (b := 18) d_O_image_12 f_O_48 rfl rfl rfl ?_
  refine M_getR (b := 19) d_O_image_15 f_O_110 rfl rfl rfl ?_
  refine M_get (x := (s.1 6)) d_O_image_18 f_O_113 rfl rfl hCY.1.1.2.2.1 ?_
  refine M_ir d_O_image_21 rfl rfl ?_
  exact ⟨rfl, hY, hCY, ⟨fun b hb => ⟨fun k => (hof.1 b (by omega)).1 k, (hof.1 b (by omega)).2, by rw [hof.2]⟩, by rw [hof.2]⟩⟩

theorem lp_R_copy_i {X : Mem} {q f : Nat → Int32} {Q : Option Value → Mem → Prop} (hX : Ok X) (hA : X.2.1 245 = ofF 1217 f) (kx : JM 0 m_R_copy Q 21 [some (.ref 245), some (.ref 246), some (.int (nI 1217))] [] (pA X 246 (ofF 1217 (rgF q f 0 1217)))) : ∀ (k t : Nat), t + k = 1217 → JM 0 m_R_copy Q 2 [some (.ref 245), some (.ref 246), some (.int (nI t))] [] (pA X 246 (ofF 1217 (rgF q f 0 t))) := by
  intro k
  induction k with
  | zero =>
    intro t ht
    obtain rfl : t = 1217 := by omega
    refine J_iload_n (i := 2) d_R_copy_2 rfl rfl ?_
    refine J_sipush (v := nI 1217) d_R_copy_3 rfl ?_
    refine N_icmp_ge (tgt := 21) d_R_copy_6 (by decide) (by omega) (by omega) (fun c6 => ?_) (fun c6 => absurd c6 (by decide))
    exact kx
  | succ k ih =>
    intro t ht
    have hX1 : Ok (pA X 246 (ofF 1217 (rgF q f 0 t))) := okA hX rfl (by rw [ofF_len]; exact (hX.1 246 (by decide)).symm)
    refine J_iload_n (i := 2) d_R_copy_2 rfl rfl ?_
    refine J_sipush (v := nI 1217) d_R_copy_3 rfl ?_
    refine N_icmp_ge (tgt := 21) d_R_copy_6 (by decide) (by omega) (by omega) (fun c6 => absurd c6 (by omega)) (fun c6 => ?_)
    refine J_aload_n (i := 1) d_R_copy_9 rfl rfl ?_
    refine J_iload_n (i := 2) d_R_copy_10 rfl rfl ?_
    refine J_aload_n (i := 0) d_R_copy_11 rfl rfl ?_
    refine J_iload_n (i := 2) d_R_copy_12 rfl rfl ?_
    refine N_iald (x := (f t)) d_R_copy_13 rfl (by omega) (ltL hX1 (a := 245) (n := 1217) (by decide) rfl (by omega)) (by rw [show (pA X 246 (ofF 1217 (rgF q f 0 t))).2.1 245 = X.2.1 245 from rfl, hA, ofF_get (by omega)]) ?_
    refine N_iast d_R_copy_14 rfl (by decide) (by omega) (ltL hX1 (a := 246) (n := 1217) (by decide) rfl (by omega)) ?_
    refine N_iinc (a := t) (c := 1) (L1 := [some (.ref 245), some (.ref 246), some (.int (nI (t + 1)))]) d_R_copy_15 rfl rfl (by decide) rfl ?_
    refine J_goto (tgt := 2) d_R_copy_18 (by decide) ?_
    rw [pA_pA, pA_at, ofF_set, show rgF q f 0 t = rgF q f 0 t from rfl]
    have e := rgF_s q f (b := 0) (i := t)
    rw [Nat.zero_add] at e
    rw [e]
    exact ih (t + 1) (by omega)
theorem S_R_copy_i {X : Mem} {q f : Nat → Int32} (hX : Ok X) (hA : X.2.1 245 = ofF 1217 f) (hB : X.2.1 246 = ofF 1217 q) : CM 0 m_R_copy [.ref 245, .ref 246] X (rV (pA X 246 (ofF 1217 f))) := by
  refine CM_of (L := [some (.ref 245), some (.ref 246), none]) 1 ok_R_copy (fun _ => Nat.le_of_ble_eq_true rfl) rfl ?_
  refine J_iconst (v := nI 0) d_R_copy_0 rfl ?_
  refine J_istore_n (i := 2) (L1 := [some (.ref 245), some (.ref 246), some (.int (nI 0))]) d_R_copy_1 rfl (by decide) rfl ?_
  refine (lp_R_copy_i (q := q) hX hA ?_ 1217 0 rfl).eq rfl rfl (congrArg hm (by rw [rgF_0, ← hB, pA_eta]))
  refine M_vr d_R_copy_21 rfl ?_
  refine ⟨rfl, ?_⟩
  rw [show ofF 1217 (rgF q f 0 1217) = ofF 1217 f from ofF_cong (fun k hk => by unfold rgF; rw [if_pos (by omega)]; rfl)]

theorem S_R_image {X : Mem} {s : Sg} (hX : Ok X) (hC : RI X s) (hw : WFs s) : CM 1 m_R_image [.ref 244] X (fun q Y => q = some (.int (s.1 6)) ∧ pR X (imS s) Y) := by
  refine CM_of (L := [some (.ref 244)]) 0 ok_R_image (fun _ => Nat.le_of_ble_eq_true rfl) rfl ?_
  refine J_aload_n (i := 0) d_R_image_0 rfl rfl ?_
  refine M_getR (b := 245) d_R_image_1 f_R_7 rfl rfl rfl ?_
  refine J_aload_n (i := 0) d_R_image_4 rfl rfl ?_
  refine M_getR (b := 246) d_R_image_5 f_R_13 rfl rfl rfl ?_
  refine CS_V (av := [.ref 245, .ref 246]) d_R_image_8 s_R_85 (S_R_copy_i hX hC.1 hC.2.1) (by decide) rfl rfl (Nat.le_of_ble_eq_true rfl) ?_
  refine J_aload_n (i := 0) d_R_image_11 rfl rfl ?_
  refine M_getR (b := 245) d_R_image_12 f_R_7 rfl rfl rfl ?_
  refine J_bipush (v := nI 6) d_R_image_15 rfl ?_
  refine N_iald (x := (s.1 6)) d_R_image_17 rfl (by omega) (ltL (okA hX rfl (by rw [ofF_len]; exact (hX.1 246 (by decide)).symm)) (a := 245) (n := 1217) (by decide) rfl (by omega)) (by exact (show (X.2.1 245).getD 6 0 = s.1 6 by rw [hC.1, ofF_get (by decide)])) ?_
  refine M_ir d_R_image_18 rfl rfl ?_
  refine ⟨rfl, okA hX rfl (by rw [ofF_len]; exact (hX.1 246 (by decide)).symm), ?_, sC_A (by decide)⟩
  obtain ⟨h1, h2, h3, h4, h5⟩ := hC
  exact ⟨h1, pA_at, h3, h4, fun t ht ht4 => RTxt_e (X := X) rfl (h5 t ht ht4)⟩

theorem S_H_copyFrom_b {X : Mem} (hX : Ok X) : CM 3 m_H_copyFrom [.ref 18, .ref 118] X (fun q Y => q = none ∧ Ok Y ∧ offH 18 X Y ∧ ∀ r, CHeld X 118 r → CHeld Y 18 r) := by
  refine CM_of (L := [some (.ref 18), some (.ref 118)]) 0 ok_H_copyFrom (fun _ => Nat.le_of_ble_eq_true rfl) rfl ?_
  refine J_aload_n (i := 0) d_H_copyFrom_0 rfl rfl ?_
  refine M_getR (b := 19) d_H_copyFrom_1 f_H_12 rfl rfl rfl ?_
  refine J_aload_n (i := 1) d_H_copyFrom_4 rfl rfl ?_
  refine M_getR (b := 119) d_H_copyFrom_5 f_H_12 rfl rfl rfl ?_
  refine M_callV (av := [.ref 119]) d_H_copyFrom_8 s_H_42 (M_rcv rfl (by decide) rfl) (S_N_copyRaw (a := 19) hX rfl rfl (by decide)) (by decide) rfl rfl (Nat.le_of_ble_eq_true rfl) (fun q Y1 hq => ?_)
  obtain ⟨rfl, hY1, hc1, ho1⟩ := hq
  refine J_aload_n (i := 0) d_H_copyFrom_11 rfl rfl ?_
  refine M_getR (b := 22) d_H_copyFrom_12 f_H_21 rfl rfl rfl ?_
  refine J_aload_n (i := 1) d_H_copyFrom_15 rfl rfl ?_
  refine M_getR (b := 122) d_H_copyFrom_16 f_H_21 rfl rfl rfl ?_
  refine M_callV (av := [.ref 122]) d_H_copyFrom_19 s_H_46 (M_rcv rfl (by decide) rfl) (S_S_copyFrom_b hY1) (by decide) rfl rfl (Nat.le_of_ble_eq_true rfl) (fun q Y2 hq => ?_)
  obtain ⟨rfl, hY2, ho2, he2, hn2, hc2⟩ := hq
  refine J_aload_n (i := 0) d_H_copyFrom_22 rfl rfl ?_
  refine J_aload_n (i := 1) d_H_copyFrom_23 rfl rfl ?_
  refine M_get (x := (Y2.1 118 3)) d_H_copyFrom_24 f_H_49 rfl rfl (by first | rfl | simp only [pF_o (show (118 : Nat) ≠ 18 by decide)]) ?_
  refine M_put d_H_copyFrom_27 p_H_49 rfl rfl rfl rfl ?_
  refine J_aload_n (i := 0) d_H_copyFrom_30 rfl rfl ?_
  refine J_aload_n (i := 1) d_H_copyFrom_31 rfl rfl ?_
  refine M_get (x := (Y2.1 118 4)) d_H_copyFrom_32 f_H_29 rfl rfl (by first | rfl | simp only [pF_o (show (118 : Nat) ≠ 18 by decide)]) ?_
  refine M_put d_H_copyFrom_35 p_H_29 rfl rfl rfl rfl ?_
  refine J_aload_n (i := 0) d_H_copyFrom_38 rfl rfl ?_
  refine J_aload_n (i := 1) d_H_copyFrom_39 rfl rfl ?_
  refine M_get (x := (Y2.1 118 5)) d_H_copyFrom_40 f_H_52 rfl rfl (by first | rfl | simp only [pF_o (show (118 : Nat) ≠ 18 by decide)]) ?_
  refine M_put d_H_copyFrom_43 p_H_52 rfl rfl rfl rfl ?_
  refine J_aload_n (i := 0) d_H_copyFrom_46 rfl rfl ?_
  refine J_aload_n (i := 1) d_H_copyFrom_47 rfl rfl ?_
  refine M_get (x := (Y2.1 118 6)) d_H_copyFrom_48 f_H_55 rfl rfl (by first | rfl | simp only [pF_o (show (118 : Nat) ≠ 18 by decide)]) ?_
  refine M_put d_H_copyFrom_51 p_H_55 rfl rfl rfl rfl ?_
  refine J_aload_n (i := 0) d_H_copyFrom_54 rfl rfl ?_
  refine J_aload_n (i := 1) d_H_copyFrom_55 rfl rfl ?_
  refine M_get (x := (Y2.1 118 7)) d_H_copyFrom_56 f_H_58 rfl rfl (by first | rfl | simp only [pF_o (show (118 : Nat) ≠ 18 by decide)]) ?_
  refine M_put d_H_copyFrom_59 p_H_58 rfl rfl rfl rfl ?_
  refine J_aload_n (i := 1) d_H_copyFrom_62 rfl rfl ?_
  refine M_getR (b := 214) d_H_copyFrom_63 f_H_25 rfl rfl rfl ?_
  refine J_iconst (v := nI 0) d_H_copyFrom_66 rfl ?_
  refine J_aload_n (i := 0) d_H_copyFrom_67 rfl rfl ?_
  refine M_getR (b := 114) d_H_copyFrom_68 f_H_25 rfl rfl rfl ?_
  refine J_iconst (v := nI 0) d_H_copyFrom_71 rfl ?_
  refine J_bipush (v := nI 8) d_H_copyFrom_72 rfl ?_
  refine M_acopy (sp := 0) (dp := 0) (n := 8) d_H_copyFrom_74 w_H_61 rfl rfl (by decide) (nI_pos (by omega)) (nI_pos (by omega)) (nI_pos (by omega)) (nI_clamp (by omega)) (nI_clamp (by omega)) (nI_clamp (by omega)) (show 0 + 8 ≤ (Y2.2.1 214).length by rw [hY2.1 214 (by decide)]; decide) (show 0 + 8 ≤ (Y2.2.1 114).length by rw [hY2.1 114 (by decide)]; decide) (by decide) (Nat.le_of_ble_eq_true rfl) ?_
  refine J_aload_n (i := 1) d_H_copyFrom_77 rfl rfl ?_
  refine M_getR (b := 215) d_H_copyFrom_78 f_H_33 rfl rfl rfl ?_
  refine J_iconst (v := nI 0) d_H_copyFrom_81 rfl ?_
  refine J_aload_n (i := 0) d_H_copyFrom_82 rfl rfl ?_
  refine M_getR (b := 115) d_H_copyFrom_83 f_H_33 rfl rfl rfl ?_
  refine J_iconst (v := nI 0) d_H_copyFrom_86 rfl ?_
  refine J_bipush (v := nI 8) d_H_copyFrom_87 rfl ?_
  refine M_acopy (sp := 0) (dp := 0) (n := 8) d_H_copyFrom_89 w_H_61 rfl rfl (by decide) (nI_pos (by omega)) (nI_pos (by omega)) (nI_pos (by omega)) (nI_clamp (by omega)) (nI_clamp (by omega)) (nI_clamp (by omega)) (show 0 + 8 ≤ (Y2.2.1 215).length by rw [hY2.1 215 (by decide)]; decide) (show 0 + 8 ≤ (Y2.2.1 115).length by rw [hY2.1 115 (by decide)]; decide) (by decide) (Nat.le_of_ble_eq_true rfl) ?_
  refine J_aload_n (i := 1) d_H_copyFrom_92 rfl rfl ?_
  refine M_getR (b := 216) d_H_copyFrom_93 f_H_36 rfl rfl rfl ?_
  refine J_iconst (v := nI 0) d_H_copyFrom_96 rfl ?_
  refine J_aload_n (i := 0) d_H_copyFrom_97 rfl rfl ?_
  refine M_getR (b := 116) d_H_copyFrom_98 f_H_36 rfl rfl rfl ?_
  refine J_iconst (v := nI 0) d_H_copyFrom_101 rfl ?_
  refine J_bipush (v := nI 8) d_H_copyFrom_102 rfl ?_
  refine M_acopy (sp := 0) (dp := 0) (n := 8) d_H_copyFrom_104 w_H_61 rfl rfl (by decide) (nI_pos (by omega)) (nI_pos (by omega)) (nI_pos (by omega)) (nI_clamp (by omega)) (nI_clamp (by omega)) (nI_clamp (by omega)) (show 0 + 8 ≤ (Y2.2.1 216).length by rw [hY2.1 216 (by decide)]; decide) (show 0 + 8 ≤ (Y2.2.1 116).length by rw [hY2.1 116 (by decide)]; decide) (by decide) (Nat.le_of_ble_eq_true rfl) ?_
  refine J_aload_n (i := 1) d_H_copyFrom_107 rfl rfl ?_
  refine M_getR (b := 217) d_H_copyFrom_108 f_H_39 rfl rfl rfl ?_
  refine J_iconst (v := nI 0) d_H_copyFrom_111 rfl ?_
  refine J_aload_n (i := 0) d_H_copyFrom_112 rfl rfl ?_
  refine M_getR (b := 117) d_H_copyFrom_113 f_H_39 rfl rfl rfl ?_
  refine J_iconst (v := nI 0) d_H_copyFrom_116 rfl ?_
  refine J_bipush (v := nI 8) d_H_copyFrom_117 rfl ?_
  refine M_acopy (sp := 0) (dp := 0) (n := 8) d_H_copyFrom_119 w_H_61 rfl rfl (by decide) (nI_pos (by omega)) (nI_pos (by omega)) (nI_pos (by omega)) (nI_clamp (by omega)) (nI_clamp (by omega)) (nI_clamp (by omega)) (show 0 + 8 ≤ (Y2.2.1 217).length by rw [hY2.1 217 (by decide)]; decide) (show 0 + 8 ≤ (Y2.2.1 117).length by rw [hY2.1 117 (by decide)]; decide) (by decide) (Nat.le_of_ble_eq_true rfl) ?_
  refine M_vr d_H_copyFrom_122 rfl ?_
  have e5 := pF7_a Y2 18 118
  have oS : ∀ k, Y2.1 118 k = X.1 118 k := fun k => ((ho2.1 118 (by decide)).1 k).trans (ho1.1 118 (by decide) k)
  have oA : ∀ b, b = 214 ∨ b = 215 ∨ b = 216 ∨ b = 217 → Y2.2.1 b = X.2.1 b := fun b hb => ((ho2.1 b (by omega)).2).trans (ho1.2.1 b (by omega) (by omega))
  have l8 : ∀ b, b = 114 ∨ b = 115 ∨ b = 116 ∨ b = 117 → 8 ≤ (Y2.2.1 b).length := fun b hb => by
    rcases hb with rfl | rfl | rfl | rfl
    · rw [hY2.1 114 (by decide)]; decide
    · rw [hY2.1 115 (by decide)]; decide
    · rw [hY2.1 116 (by decide)]; decide
    · rw [hY2.1 117 (by decide)]; decide
  refine ⟨rfl, okA (okA (okA (okA (okF (okF (okF (okF (okF hY2))))) rfl cpyL_len) rfl cpyL_len) rfl cpyL_len) rfl cpyL_len, ⟨fun b hb => ⟨fun k => (pF7_o (D := 18) (S := 118) (by omega)).trans (((ho2.1 b (by omega)).1 k).trans (ho1.1 b (by omega) k)), ?_⟩, ho2.2.trans ho1.2.2⟩, fun r hr => ?_⟩
  · show (if b = 117 then _ else if b = 116 then _ else if b = 115 then _ else if b = 114 then _ else Y2.2.1 b) = X.2.1 b
    rw [if_neg (by omega), if_neg (by omega), if_neg (by omega), if_neg (by omega)]
    exact ((ho2.1 b (by omega)).2).trans (ho1.2.1 b (by omega) (by omega))
  · obtain ⟨k1, ⟨h2, e, he, h3, h4⟩, k5, ⟨g1, g2, g3, g4, g5⟩, k7⟩ := hr
    refine ⟨?_, ⟨?_, e, he, ?_, fun i hi => ?_⟩, fun i hi => ?_, ⟨?_, ?_, ?_, ?_, ?_⟩, fun i hi => ⟨?_, ?_, ?_⟩⟩
    · exact CNow_on (X := Y2) (fun k => pF7_o (D := 18) (S := 118) (by decide)) rfl rfl (CNow_on (X := Y1) (fun k => (ho2.1 _ (by decide)).1 k) (ho2.1 _ (by decide)).2 (ho2.1 _ (by decide)).2 (hc1 _ k1))
    · exact (pF7_o (D := 18) (S := 118) (by decide)).trans (hn2.trans ((ho1.1 122 (by decide) 2).trans h2))
    · exact (pF7_o (D := 18) (S := 118) (by decide)).trans (he2.trans ((ho1.1 122 (by decide) 1).trans h3))
    · have hb : (e + i) % 30 < 30 := Nat.mod_lt _ (by decide)
      refine CNow_on (X := Y2) (fun k => pF7_o (D := 18) (S := 118) (by omega)) ?_ ?_ (hc2 _ hb _ (CNow_on (X := X) (fun k => ho1.1 _ (by omega) k) (ho1.2.1 _ (by omega) (by omega)) (ho1.2.1 _ (by omega) (by omega)) (h4 i hi)))
      · show (if _ = 117 then _ else if _ = 116 then _ else if _ = 115 then _ else if _ = 114 then _ else Y2.2.1 _) = Y2.2.1 _
        rw [if_neg (by omega), if_neg (by omega), if_neg (by omega), if_neg (by omega)]
      · show (if _ = 117 then _ else if _ = 116 then _ else if _ = 115 then _ else if _ = 114 then _ else Y2.2.1 _) = Y2.2.1 _
        rw [if_neg (by omega), if_neg (by omega), if_neg (by omega), if_neg (by omega)]
    · show (cpyL (Y2.2.1 214) (Y2.2.1 114) 0 0 8).getD i 0 = _
      rw [cpyL_0 (l8 _ (by omega)) hi, oA _ (by omega)]; exact k5 i hi
    · exact e5.1.trans ((oS 3).trans g1)
    · exact e5.2.1.trans ((oS 4).trans g2)
    · exact e5.2.2.1.trans ((oS 5).trans g3)
    · exact e5.2.2.2.1.trans ((oS 6).trans g4)
    · exact e5.2.2.2.2.trans ((oS 7).trans g5)
    · show (cpyL (Y2.2.1 215) (Y2.2.1 115) 0 0 8).getD i 0 = _
      rw [cpyL_0 (l8 _ (by omega)) hi, oA _ (by omega)]; exact (k7 i hi).1
    · show (cpyL (Y2.2.1 216) (Y2.2.1 116) 0 0 8).getD i 0 = _
      rw [cpyL_0 (l8 _ (by omega)) hi, oA _ (by omega)]; exact (k7 i hi).2.1
    · show (cpyL (Y2.2.1 217) (Y2.2.1 117) 0 0 8).getD i 0 = _
      rw [cpyL_0 (l8 _ (by omega)) hi, oA _ (by omega)]; exact (k7 i hi).2.2

theorem S_O_back {X : Mem} {s : Sg} (hX : Ok X) (hC : CI X s) (hw : WFs s) : CM 4 m_O_back [.ref 8] X (fun q Y => q = some (.int (s.2.1 6)) ∧ pC X (bkS s) Y) := by
  refine CM_of (L := [some (.ref 8)]) 0 ok_O_back (fun _ => Nat.le_of_ble_eq_true rfl) rfl ?_
  refine J_aload_n (i := 0) d_O_back_0 rfl rfl ?_
  refine M_getR (b := 18) d_O_back_1 f_O_48 rfl rfl rfl ?_
  refine J_aload_n (i := 0) d_O_back_4 rfl rfl ?_
  refine M_getR (b := 118) d_O_back_5 f_O_52 rfl rfl rfl ?_
  refine M_callV (av := [.ref 118]) d_O_back_8 s_O_338 (M_rcv rfl (by decide) rfl) (S_H_copyFrom_b hX) (by decide) rfl rfl (Nat.le_of_ble_eq_true rfl) (fun q Y hq => ?_)
  obtain ⟨rfl, hY, hof, hcH⟩ := hq
  have hCY : CI Y (bkS s) := ⟨hcH _ hC.2.1, CHeld_on (fun b q1 q2 => hof.1 b (by omega)) hC.2.1, fun i hi => by rw [(hof.1 9 (by decide)).2]; exact hC.2.2.1 i hi, ⟨((hof.1 8 (by decide)).1 1).trans hC.2.2.2.1.1, ((hof.1 8 (by decide)).1 2).trans hC.2.2.2.1.2.1, ((hof.1 8 (by decide)).1 3).trans hC.2.2.2.1.2.2⟩, fun t ht ht4 => CTxt_on (fun b q1 q2 => hof.1 b (by omega)) (hC.2.2.2.2 t (Nat.lt_of_lt_of_le ht hw.2.2.1) ht4)⟩
  refine J_aload_n (i := 0) d_O_back_11 rfl rfl ?_
  refine M_getR (b := 18) d_O_back_12 f_O_48 rfl rfl rfl ?_
  refine M_getR (b := 19) d_O_back_15 f_O_110 rfl rfl rfl ?_
  refine M_get (x := (s.2.1 6)) d_O_back_18 f_O_113 rfl rfl hCY.1.1.2.2.1 ?_
  refine M_ir d_O_back_21 rfl rfl ?_
  exact ⟨rfl, hY, hCY, ⟨fun b hb => ⟨fun k => (hof.1 b (by omega)).1 k, (hof.1 b (by omega)).2, by rw [hof.2]⟩, by rw [hof.2]⟩⟩

theorem lp_R_copy_b {X : Mem} {q f : Nat → Int32} {Q : Option Value → Mem → Prop} (hX : Ok X) (hA : X.2.1 246 = ofF 1217 f) (kx : JM 0 m_R_copy Q 21 [some (.ref 246), some (.ref 245), some (.int (nI 1217))] [] (pA X 245 (ofF 1217 (rgF q f 0 1217)))) : ∀ (k t : Nat), t + k = 1217 → JM 0 m_R_copy Q 2 [some (.ref 246), some (.ref 245), some (.int (nI t))] [] (pA X 245 (ofF 1217 (rgF q f 0 t))) := by
  intro k
  induction k with
  | zero =>
    intro t ht
    obtain rfl : t = 1217 := by omega
    refine J_iload_n (i := 2) d_R_copy_2 rfl rfl ?_
    refine J_sipush (v := nI 1217) d_R_copy_3 rfl ?_
    refine N_icmp_ge (tgt := 21) d_R_copy_6 (by decide) (by omega) (by omega) (fun c6 => ?_) (fun c6 => absurd c6 (by decide))
    exact kx
  | succ k ih =>
    intro t ht
    have hX1 : Ok (pA X 245 (ofF 1217 (rgF q f 0 t))) := okA hX rfl (by rw [ofF_len]; exact (hX.1 245 (by decide)).symm)
    refine J_iload_n (i := 2) d_R_copy_2 rfl rfl ?_
    refine J_sipush (v := nI 1217) d_R_copy_3 rfl ?_
    refine N_icmp_ge (tgt := 21) d_R_copy_6 (by decide) (by omega) (by omega) (fun c6 => absurd c6 (by omega)) (fun c6 => ?_)
    refine J_aload_n (i := 1) d_R_copy_9 rfl rfl ?_
    refine J_iload_n (i := 2) d_R_copy_10 rfl rfl ?_
    refine J_aload_n (i := 0) d_R_copy_11 rfl rfl ?_
    refine J_iload_n (i := 2) d_R_copy_12 rfl rfl ?_
    refine N_iald (x := (f t)) d_R_copy_13 rfl (by omega) (ltL hX1 (a := 246) (n := 1217) (by decide) rfl (by omega)) (by rw [show (pA X 245 (ofF 1217 (rgF q f 0 t))).2.1 246 = X.2.1 246 from rfl, hA, ofF_get (by omega)]) ?_
    refine N_iast d_R_copy_14 rfl (by decide) (by omega) (ltL hX1 (a := 245) (n := 1217) (by decide) rfl (by omega)) ?_
    refine N_iinc (a := t) (c := 1) (L1 := [some (.ref 246), some (.ref 245), some (.int (nI (t + 1)))]) d_R_copy_15 rfl rfl (by decide) rfl ?_
    refine J_goto (tgt := 2) d_R_copy_18 (by decide) ?_
    rw [pA_pA, pA_at, ofF_set, show rgF q f 0 t = rgF q f 0 t from rfl]
    have e := rgF_s q f (b := 0) (i := t)
    rw [Nat.zero_add] at e
    rw [e]
    exact ih (t + 1) (by omega)
theorem S_R_copy_b {X : Mem} {q f : Nat → Int32} (hX : Ok X) (hA : X.2.1 246 = ofF 1217 f) (hB : X.2.1 245 = ofF 1217 q) : CM 0 m_R_copy [.ref 246, .ref 245] X (rV (pA X 245 (ofF 1217 f))) := by
  refine CM_of (L := [some (.ref 246), some (.ref 245), none]) 1 ok_R_copy (fun _ => Nat.le_of_ble_eq_true rfl) rfl ?_
  refine J_iconst (v := nI 0) d_R_copy_0 rfl ?_
  refine J_istore_n (i := 2) (L1 := [some (.ref 246), some (.ref 245), some (.int (nI 0))]) d_R_copy_1 rfl (by decide) rfl ?_
  refine (lp_R_copy_b (q := q) hX hA ?_ 1217 0 rfl).eq rfl rfl (congrArg hm (by rw [rgF_0, ← hB, pA_eta]))
  refine M_vr d_R_copy_21 rfl ?_
  refine ⟨rfl, ?_⟩
  rw [show ofF 1217 (rgF q f 0 1217) = ofF 1217 f from ofF_cong (fun k hk => by unfold rgF; rw [if_pos (by omega)]; rfl)]

theorem S_R_back {X : Mem} {s : Sg} (hX : Ok X) (hC : RI X s) (hw : WFs s) : CM 1 m_R_back [.ref 244] X (fun q Y => q = some (.int (s.2.1 6)) ∧ pR X (bkS s) Y) := by
  refine CM_of (L := [some (.ref 244)]) 0 ok_R_back (fun _ => Nat.le_of_ble_eq_true rfl) rfl ?_
  refine J_aload_n (i := 0) d_R_back_0 rfl rfl ?_
  refine M_getR (b := 246) d_R_back_1 f_R_13 rfl rfl rfl ?_
  refine J_aload_n (i := 0) d_R_back_4 rfl rfl ?_
  refine M_getR (b := 245) d_R_back_5 f_R_7 rfl rfl rfl ?_
  refine CS_V (av := [.ref 246, .ref 245]) d_R_back_8 s_R_85 (S_R_copy_b hX hC.2.1 hC.1) (by decide) rfl rfl (Nat.le_of_ble_eq_true rfl) ?_
  refine J_aload_n (i := 0) d_R_back_11 rfl rfl ?_
  refine M_getR (b := 245) d_R_back_12 f_R_7 rfl rfl rfl ?_
  refine J_bipush (v := nI 6) d_R_back_15 rfl ?_
  refine N_iald (x := (s.2.1 6)) d_R_back_17 rfl (by omega) (ltL (okA hX rfl (by rw [ofF_len]; exact (hX.1 245 (by decide)).symm)) (a := 245) (n := 1217) (by decide) rfl (by omega)) (by rw [pA_at, ofF_get (by decide)]) ?_
  refine M_ir d_R_back_18 rfl rfl ?_
  refine ⟨rfl, okA hX rfl (by rw [ofF_len]; exact (hX.1 245 (by decide)).symm), ?_, sC_A (by decide)⟩
  obtain ⟨h1, h2, h3, h4, h5⟩ := hC
  exact ⟨pA_at, h2, h3, h4, fun t ht ht4 => RTxt_e (X := X) rfl (h5 t (Nat.lt_of_lt_of_le ht hw.2.2.1) ht4)⟩

