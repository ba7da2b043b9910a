/-- what a year of the reference leaves as it was -/
def offR (X Y : Mem) : Prop := (∀ b k, b ≠ 244 ∨ k ≠ 31 → Y.1 b k = X.1 b k) ∧ (∀ b, b ≠ 245 → b ≠ 256 → b ≠ 258 → Y.2.1 b = X.2.1 b) ∧ (∀ b, b ≠ 257 → Y.2.2.1 b = X.2.2.1 b) ∧ Y.2.2.2 = X.2.2.2
theorem offR_0 (X : Mem) : offR X X := ⟨fun _ _ _ => rfl, fun _ _ _ _ => rfl, fun _ _ => rfl, rfl⟩
theorem offR_t {X Y Z : Mem} (h1 : offR X Y) (h2 : offR Y Z) : offR X Z := ⟨fun b k q => (h2.1 b k q).trans (h1.1 b k q), fun b q1 q2 q3 => (h2.2.1 b q1 q2 q3).trans (h1.2.1 b q1 q2 q3), fun b q => (h2.2.2.1 b q).trans (h1.2.2.1 b q), h2.2.2.2.trans h1.2.2.2⟩
theorem offR_A {X : Mem} {l : List Int32} : offR X (pA X 245 l) := ⟨fun _ _ _ => rfl, fun b q1 _ _ => if_neg q1, fun _ _ => rfl, rfl⟩
theorem offR_F {X : Mem} {v : Int32} : offR X (pF X 244 31 v) := ⟨fun b k q => by
    rcases q with q | q
    · exact pF_o q
    · by_cases e : b = 244
      · rw [e]; exact pF_k q
      · exact pF_o e, fun _ _ _ _ => rfl, fun _ _ => rfl, rfl⟩
theorem offR_L {X Y : Mem} (h : lawR X Y) : offR X Y := by
  obtain ⟨l0, l1, l2, _, _, _, rfl⟩ := h
  exact ⟨fun _ _ _ => rfl, fun b _ q2 q3 => (if_neg q3).trans (if_neg q2), fun b q => if_neg q, rfl⟩
theorem OkR_L {X Y : Mem} (h : lawR X Y) (hX : Ok X) : Ok Y := by
  obtain ⟨l0, l1, l2, h0, h1, h2, rfl⟩ := h
  exact okRk (okA hX rfl (by rw [h0]; exact (hX.1 256 (by decide)).symm)) h1 h2
theorem RNow_L {X Y : Mem} {r g : Nat → Int32} (h : lawR X Y) (hR : RNow X r g) : RNow Y r g := by
  obtain ⟨l0, l1, l2, _, _, _, rfl⟩ := h
  exact hR
theorem TxR_c {X Y : Mem} {v : Int32} {DW DF : Option (Env → Int)} (h : Y.2.1 251 = X.2.1 251) (hx : TxR X v DW DF) : TxR Y v DW DF := by
  unfold TxR TRw TRl LwR at hx ⊢
  rw [h]
  exact hx
theorem TxR_o {X Y : Mem} {v : Int32} {DW DF : Option (Env → Int)} (h : offR X Y) (hx : TxR X v DW DF) : TxR Y v DW DF := TxR_c (h.2.1 251 (by decide) (by decide) (by decide)) hx
theorem RE_g {X : Mem} {r g : Nat → Int32} (hR : RNow X r g) (hW : WFg g) (k : Nat) (w : Int) : RE X (envG g k w) :=
  ⟨(rn_0 hR).trans (wg_n hW (k := 0) (n := 8) (by decide) (by decide)).1, fun i hi => by
    show (X.2.1 245).getD (10 + i) 0 = nI (if i < 8 then tn (g (5 + i)) else 0)
    rw [if_pos hi, show 10 + i = 5 + (5 + i) by omega]
    exact (rn_y hR (k := 5 + i) (by omega) (by omega)).trans (wg_n hW (k := 5 + i) (n := 1048575) (by omega) (by rw [bdN_s i hi]; exact Nat.le_refl _)).1,
    (rn_y hR (k := 1) (by decide) (by decide)).trans (wg_n hW (k := 1) (n := 9999) (by decide) (by decide)).1, (rn_y hR (k := 3) (by decide) (by decide)).trans (wg_n hW (k := 3) (n := 999999) (by decide) (by decide)).1⟩
theorem held_min {a : Nat} (ha : a < 2000000000) : (if lg_cmp (nI a).toInt64 ((nI 0).toInt64) < 0 then nI 0 else if 0 < lg_cmp (nI a).toInt64 ((nI 999999).toInt64) then nI 999999 else (nI a).toInt64.toInt32) = nI (min 999999 a) := by
  have hb : bL (a : Int) := ⟨by omega, by omega⟩
  rw [nI_64 ha, nI_64 (v := 0) (by decide), nI_64 (v := 999999) (by decide), if_neg (fun q => by have := (lc_lt (b := ((0 : Nat) : Int)) hb ⟨by decide, by decide⟩).mp q; omega)]
  by_cases h : 999999 < a
  · rw [if_pos ((lc_gt (b := ((999999 : Nat) : Int)) hb ⟨by decide, by decide⟩).mpr (by omega)), Nat.min_eq_left (by omega)]
  · rw [if_neg (fun q => by have := (lc_gt (b := ((999999 : Nat) : Int)) hb ⟨by decide, by decide⟩).mp q; omega), Nat.min_eq_right (by omega), lI_32, ← jI_n]
theorem h31k {X Y : Mem} (h : lawR X Y) : Y.1 244 31 = X.1 244 31 := by
  obtain ⟨l0, l1, l2, _, _, _, rfl⟩ := h
  rfl
theorem lp_R_pass {X : Mem} {r g : Nat → Int32} {DW DF : Option (Env → Int)} {wr : Bool} {W0 : Nat} (hW : WFg g) (h30 : X.1 244 30 = b2i wr) (hx2 : TxR X (r 2) DW DF) {Q : Option Value → Mem → Prop} (kx : ∀ (Y : Mem) (z2 : Option Value), Ok Y → RNow Y r (gMarks DW DF wr g (tn (g 0))).1 → Y.1 244 31 = nI (W0 + (gMarks DW DF wr g (tn (g 0))).2) → offR X Y → JM 6 m_R_pass Q 110 [some (.ref 244), some (.int (nI (tn (g 0)))), z2] [] Y) : ∀ (k i : Nat) (Y : Mem) (z2 : Option Value), i + k = tn (g 0) → Ok Y → RNow Y r (gMarks DW DF wr g i).1 → Y.1 244 31 = nI (W0 + (gMarks DW DF wr g i).2) → offR X Y → JM 6 m_R_pass Q 2 [some (.ref 244), some (.int (nI i)), z2] [] Y := by
  have w0 := wg_n hW (k := 0) (n := 8) (by decide) (by decide)
  intro k
  induction k with
  | zero =>
    intro i Y z2 hi hY hN h31 hof
    obtain ⟨hWx, hx0, hx1, hxn⟩ := gMarks_ok (DW := DW) (DF := DF) (wr := wr) hW i (by omega)
    obtain rfl : i = tn (g 0) := by omega
    refine J_iload_n (i := 1) d_R_pass_2 rfl rfl ?_
    refine J_aload_n (i := 0) d_R_pass_3 rfl rfl ?_
    refine M_getR (b := 245) d_R_pass_4 f_R_7 rfl rfl rfl ?_
    refine J_iconst (v := nI 0) d_R_pass_7 rfl ?_
    refine N_iald (x := (nI (tn (g 0)))) d_R_pass_8 rfl (by omega) (ltL hY (a := 245) (n := 1217) (by decide) rfl (by omega)) ((rn_0 hN).trans (hx0.trans w0.1)) ?_
    refine N_icmp_ge (tgt := 110) d_R_pass_9 (by decide) (by omega) (by omega) (fun c9 => ?_) (fun c9 => absurd c9 (by omega))
    exact kx Y z2 hY hN h31 hof
  | succ k ih =>
    intro i Y z2 hi hY hN h31 hof
    obtain ⟨hWx, hx0, hx1, hxn⟩ := gMarks_ok (DW := DW) (DF := DF) (wr := wr) hW i (by omega)
    generalize hx : gMarks DW DF wr g i = x at *
    have hik : i < tn (x.1 0) := by rw [hx0]; omega
    have w3f := (wg_n hWx (k := 3) (n := 999999) (by decide) (by decide)).2
    refine J_iload_n (i := 1) d_R_pass_2 rfl rfl ?_
    refine J_aload_n (i := 0) d_R_pass_3 rfl rfl ?_
    refine M_getR (b := 245) d_R_pass_4 f_R_7 rfl rfl rfl ?_
    refine J_iconst (v := nI 0) d_R_pass_7 rfl ?_
    refine N_iald (x := (nI (tn (g 0)))) d_R_pass_8 rfl (by omega) (ltL hY (a := 245) (n := 1217) (by decide) rfl (by omega)) ((rn_0 hN).trans (hx0.trans w0.1)) ?_
    refine N_icmp_ge (tgt := 110) d_R_pass_9 (by decide) (by omega) (by omega) (fun c9 => absurd c9 (by omega)) (fun c9 => ?_)
    refine J_aload_n (i := 0) d_R_pass_12 rfl rfl ?_
    refine M_getR (b := 245) d_R_pass_13 f_R_7 rfl rfl rfl ?_
    refine J_bipush (v := nI 8) d_R_pass_16 rfl ?_
    refine J_aload_n (i := 0) d_R_pass_18 rfl rfl ?_
    refine M_getR (b := 245) d_R_pass_19 f_R_7 rfl rfl rfl ?_
    refine J_bipush (v := nI 8) d_R_pass_22 rfl ?_
    refine N_iald (x := (nI (tn (x.1 3)))) d_R_pass_24 rfl (by omega) (ltL hY (a := 245) (n := 1217) (by decide) rfl (by omega)) ((rn_y hN (k := 3) (by decide) (by decide)).trans (wg_n hWx (k := 3) (n := 999999) (by decide) (by decide)).1) ?_
    refine J_aload_n (i := 0) d_R_pass_25 rfl rfl ?_
    refine J_iload_n (i := 1) d_R_pass_26 rfl rfl ?_
    refine M_callV (av := [.int (nI i)]) d_R_pass_27 s_R_388 (M_rcv rfl (by decide) rfl) (S_R_feeOf (e := envG x.1 i 0) hY (RE_g hN hWx _ _) (okE_g hWx hik (by decide) (by decide)) (TxR_o hof hx2) (rn_o hN (j := 2) (by decide) (by decide) (by decide)) rfl) (by decide) rfl rfl (Nat.le_of_ble_eq_true rfl) (fun q Z1 hq => ?_)
    obtain ⟨rfl, hZ1⟩ := hq
    have hfe := feV_le DF (envG x.1 i 0)
    have hY1 := OkR_L hZ1 hY
    have hN1 := RNow_L hZ1 hN
    have hof1 := offR_t hof (offR_L hZ1)
    refine N_iadd d_R_pass_30 ?_
    refine J_i2l d_R_pass_31 ?_
    refine J_iconst (v := nI 0) d_R_pass_32 rfl ?_
    refine J_ldcw d_R_pass_33 w_R_391 ?_
    refine I_ton (n := 999999) rfl ?_
    refine CS_I (av := [.long (nI (tn (x.1 3) + (feV DF (envG x.1 i 0)))).toInt64, .int (nI 0), .int (nI 999999)]) d_R_pass_36 s_R_359 S_R_held0 (by decide) rfl rfl (Nat.le_of_ble_eq_true rfl) ?_
    rw [held_min (a := tn (x.1 3) + (feV DF (envG x.1 i 0))) (by omega)]
    refine N_iast d_R_pass_39 rfl (by decide) (by omega) (ltL hY1 (a := 245) (n := 1217) (by decide) rfl (by omega)) ?_
    have hW1 : WFg (upF x.1 3 (nI (min 999999 (tn (x.1 3) + (feV DF (envG x.1 i 0)))))) := WFg_up hWx (show _ ≤ 999999 by omega) (by decide)
    rw [show (Z1.2.1 245).set 8 (nI (min 999999 (tn (x.1 3) + (feV DF (envG x.1 i 0))))) = (ofF 1217 (rowOf r (upF x.1 3 (nI (min 999999 (tn (x.1 3) + (feV DF (envG x.1 i 0)))))))) from rn_set hN1 (k := 3) (by decide) (by decide)]
    refine J_aload_n (i := 0) d_R_pass_40 rfl rfl ?_
    refine J_bipush (v := nI 20) d_R_pass_41 rfl ?_
    refine CV_I (av := [.int (nI 20)]) d_R_pass_43 s_R_392 (M_rcv rfl (by decide) rfl) (S_R_drawnBy_20 (okRow hY1) RNow_pA hW1) (by decide) rfl rfl (Nat.le_of_ble_eq_true rfl) ?_
    rw [show tn ((upF x.1 3 (nI (min 999999 (tn (x.1 3) + (feV DF (envG x.1 i 0)))))) 2) = tn (x.1 2) from by rw [upF_o (by decide)], pA_pA]
    have hW2 := WFg_N hW1
    have hs20 : (tn (x.1 2) % 20) < 20 := Nat.mod_lt _ (by decide)
    have hof2 : offR X (pA Z1 245 (ofF 1217 (rowOf r (gN (upF x.1 3 (nI (min 999999 (tn (x.1 3) + (feV DF (envG x.1 i 0)))))))))) := offR_t hof1 offR_A
    refine J_istore_n (i := 2) (L1 := [some (.ref 244), some (.int (nI i)), some (.int (nI (tn (x.1 2) % 20)))]) d_R_pass_46 rfl (by decide) rfl ?_
    refine J_aload_n (i := 0) d_R_pass_47 rfl rfl ?_
    refine M_getR (b := 245) d_R_pass_48 f_R_7 rfl rfl rfl ?_
    refine J_bipush (v := nI 10) d_R_pass_51 rfl ?_
    refine J_iload_n (i := 1) d_R_pass_53 rfl rfl ?_
    refine N_iadd d_R_pass_54 ?_
    refine N_iald (x := (nI (tn ((gN (upF x.1 3 (nI (min 999999 (tn (x.1 3) + (feV DF (envG x.1 i 0))))))) (5 + i))))) d_R_pass_55 rfl (by omega) (ltL (okRow hY1) (a := 245) (n := 1217) (by decide) rfl (by omega)) (by rw [show 10 + i = 5 + (5 + i) by omega]; exact (rn_y RNow_pA (k := 5 + i) (by omega) (by omega)).trans (wg_n hW2 (k := 5 + i) (n := 1048575) (by omega) (by rw [bdN_s i (by omega)]; exact Nat.le_refl _)).1) ?_
    refine J_iload_n (i := 2) d_R_pass_56 rfl rfl ?_
    have wi := (wg_n hW2 (k := 5 + i) (n := 1048575) (by omega) (by rw [bdN_s i (by omega)]; exact Nat.le_refl _)).2
    refine CS_B (av := [.int (nI (tn ((gN (upF x.1 3 (nI (min 999999 (tn (x.1 3) + (feV DF (envG x.1 i 0))))))) (5 + i)))), .int (nI (tn (x.1 2) % 20))]) d_R_pass_57 s_R_94 (S_R_has (by omega) (by omega)) (by decide) rfl rfl (Nat.le_of_ble_eq_true rfl) ?_
    refine B_if_eq (tgt := 104) d_R_pass_60 (by decide) (fun c60 => ?_) (fun c60 => ?_)
    · refine N_iinc (a := i) (c := 1) (L1 := [some (.ref 244), some (.int (nI (i + 1))), some (.int (nI (tn (x.1 2) % 20)))]) d_R_pass_104 rfl rfl (by decide) rfl ?_
      refine J_goto (tgt := 2) d_R_pass_107 (by decide) ?_
      have e : gMarks DW DF wr g (i + 1) = ((gN (upF x.1 3 (nI (min 999999 (tn (x.1 3) + (feV DF (envG x.1 i 0))))))), x.2) := itr_g (f := gMark DW DF wr) hx (by unfold gMark; rw [if_neg (by rw [c60]; decide)])
      exact (ih (i + 1) _ _ (by omega) (okRow hY1) (by rw [e]; exact RNow_pA) (by rw [e]; exact ((h31k hZ1).trans h31)) hof2).eq rfl rfl rfl
    · refine J_aload_n (i := 0) d_R_pass_63 rfl rfl ?_
      refine J_bipush (v := nI 10) d_R_pass_64 rfl ?_
      refine CV_I (av := [.int (nI 10)]) d_R_pass_66 s_R_392 (M_rcv rfl (by decide) rfl) (S_R_drawnBy_10 (okRow hY1) RNow_pA hW2) (by decide) rfl rfl (Nat.le_of_ble_eq_true rfl) ?_
      rw [pA_pA]
      have hW3 := WFg_N hW2
      have hof3 : offR X (pA Z1 245 (ofF 1217 (rowOf r (gN (gN (upF x.1 3 (nI (min 999999 (tn (x.1 3) + (feV DF (envG x.1 i 0))))))))))) := offR_t hof1 offR_A
      refine J_aload_n (i := 0) d_R_pass_69 rfl rfl ?_
      refine J_aload_n (i := 0) d_R_pass_70 rfl rfl ?_
      refine M_getR (b := 245) d_R_pass_71 f_R_7 rfl rfl rfl ?_
      refine J_iconst (v := nI 2) d_R_pass_74 rfl ?_
      refine N_iald (x := (r 2)) d_R_pass_75 rfl (by omega) (ltL (okRow hY1) (a := 245) (n := 1217) (by decide) rfl (by omega)) (rn_o RNow_pA (j := 2) (by decide) (by decide) (by decide)) ?_
      refine J_iload_n (i := 1) d_R_pass_76 rfl rfl ?_
      refine J_iload_n (i := 2) d_R_pass_77 rfl rfl ?_
      have h3e : (gN (gN (upF x.1 3 (nI (min 999999 (tn (x.1 3) + (feV DF (envG x.1 i 0)))))))) 0 = x.1 0 := by unfold gN; rw [upF_o (by decide), upF_o (by decide), upF_o (by decide)]
      have hcall : CM 5 m_R_wearsOf [.ref 244, .int (r 2), .int (nI i), .int (nI (tn (x.1 2) % 20))] (pA Z1 245 (ofF 1217 (rowOf r (gN (gN (upF x.1 3 (nI (min 999999 (tn (x.1 3) + (feV DF (envG x.1 i 0))))))))))) (fun q Y => q = some (.int (nI (wrV DW (envG (gN (gN (upF x.1 3 (nI (min 999999 (tn (x.1 3) + (feV DF (envG x.1 i 0)))))))) i ((tn (x.1 2) % 20) : Nat))))) ∧ lawR (pA Z1 245 (ofF 1217 (rowOf r (gN (gN (upF x.1 3 (nI (min 999999 (tn (x.1 3) + (feV DF (envG x.1 i 0))))))))))) Y) := by
        have h := S_R_wearsOf (e := envG (gN (gN (upF x.1 3 (nI (min 999999 (tn (x.1 3) + (feV DF (envG x.1 i 0)))))))) i (((tn (x.1 2) % 20) : Nat) : Int)) (v := r 2) (okRow hY1) (RE_g RNow_pA hW3 _ _) (okE_g hW3 (by rw [h3e]; exact hik) (by omega) (by omega)) (TxR_o hof3 hx2)
        rw [show (envG (gN (gN (upF x.1 3 (nI (min 999999 (tn (x.1 3) + (feV DF (envG x.1 i 0)))))))) i (((tn (x.1 2) % 20) : Nat) : Int)).2.2.2.2.2 = (((tn (x.1 2) % 20) : Nat) : Int) from rfl, jI_n] at h
        exact h
      refine M_callV (av := [.int (r 2), .int (nI i), .int (nI (tn (x.1 2) % 20))]) d_R_pass_78 s_R_395 (M_rcv rfl (by decide) rfl) hcall (by decide) rfl rfl (Nat.le_of_ble_eq_true rfl) (fun q Z4 hq => ?_)
      obtain ⟨rfl, hZ4⟩ := hq
      have hwr := wrV_le DW (envG (gN (gN (upF x.1 3 (nI (min 999999 (tn (x.1 3) + (feV DF (envG x.1 i 0)))))))) i ((tn (x.1 2) % 20) : Nat))
      have hY4 := OkR_L hZ4 (okRow hY1)
      have hN4 : RNow Z4 r (gN (gN (upF x.1 3 (nI (min 999999 (tn (x.1 3) + (feV DF (envG x.1 i 0)))))))) := RNow_L hZ4 RNow_pA
      have hof4 := offR_t hof3 (offR_L hZ4)
      refine N_icmp_lt (tgt := 87) d_R_pass_81 (by decide) (by omega) (by omega) (fun c81 => ?_) (fun c81 => ?_)
      · refine J_aload_n (i := 0) d_R_pass_87 rfl rfl ?_
        refine J_iload_n (i := 1) d_R_pass_88 rfl rfl ?_
        refine J_iload_n (i := 2) d_R_pass_89 rfl rfl ?_
        refine J_iconst (v := nI 3) d_R_pass_90 rfl ?_
        have hb : (tn ((gN (gN (upF x.1 3 (nI (min 999999 (tn (x.1 3) + (feV DF (envG x.1 i 0)))))))) (5 + i))).testBit (tn (x.1 2) % 20) = true := by rw [show (gN (gN (upF x.1 3 (nI (min 999999 (tn (x.1 3) + (feV DF (envG x.1 i 0)))))))) (5 + i) = (gN (upF x.1 3 (nI (min 999999 (tn (x.1 3) + (feV DF (envG x.1 i 0))))))) (5 + i) from by unfold gN; rw [upF_o (by omega)]]; exact c60
        refine CV_V (av := [.int (nI i), .int (nI (tn (x.1 2) % 20)), .int (nI 3)]) d_R_pass_91 s_R_398 (M_rcv rfl (by decide) rfl) (S_R_rubNow (wr := wr) hY4 hN4 hW3 (show i < 8 by omega) hs20 ((hof4.1 244 30 (Or.inr (by decide))).trans h30) (by decide) hb) (by decide) rfl rfl (Nat.le_of_ble_eq_true rfl) ?_
        have h31 : (pA Z4 245 (ofF 1217 (rowOf r (gWr wr (gX (gN (gN (upF x.1 3 (nI (min 999999 (tn (x.1 3) + (feV DF (envG x.1 i 0)))))))) i (tn (x.1 2) % 20)) i 3 ((tn (x.1 2) % 20) + 1))))).1 244 31 = nI (W0 + x.2) := (h31k hZ4).trans ((h31k hZ1).trans h31)
        refine J_aload_n (i := 0) d_R_pass_94 rfl rfl ?_
        refine J_dup d_R_pass_95 rfl ?_
        refine M_get (x := (nI (W0 + x.2))) d_R_pass_96 f_R_401 rfl rfl h31 ?_
        refine J_iconst (v := nI 1) d_R_pass_99 rfl ?_
        refine N_iadd d_R_pass_100 ?_
        refine M_put d_R_pass_101 p_R_401 rfl rfl rfl rfl ?_
        refine N_iinc (a := i) (c := 1) (L1 := [some (.ref 244), some (.int (nI (i + 1))), some (.int (nI (tn (x.1 2) % 20)))]) d_R_pass_104 rfl rfl (by decide) rfl ?_
        refine J_goto (tgt := 2) d_R_pass_107 (by decide) ?_
        have e : gMarks DW DF wr g (i + 1) = (gWr wr (gX (gN (gN (upF x.1 3 (nI (min 999999 (tn (x.1 3) + (feV DF (envG x.1 i 0)))))))) i (tn (x.1 2) % 20)) i 3 ((tn (x.1 2) % 20) + 1), x.2 + 1) := itr_g (f := gMark DW DF wr) hx (by unfold gMark; rw [if_pos c60, if_pos (by omega)]; rfl)
        exact (ih (i + 1) _ _ (by omega) (okF (okRow hY4)) (by rw [e]; exact RNow_pA) (by rw [e]; exact pF_at) (offR_t hof4 (offR_t offR_A offR_F))).eq rfl rfl rfl
      · refine J_goto (tgt := 104) d_R_pass_84 (by decide) ?_
        refine N_iinc (a := i) (c := 1) (L1 := [some (.ref 244), some (.int (nI (i + 1))), some (.int (nI (tn (x.1 2) % 20)))]) d_R_pass_104 rfl rfl (by decide) rfl ?_
        refine J_goto (tgt := 2) d_R_pass_107 (by decide) ?_
        have e : gMarks DW DF wr g (i + 1) = ((gN (gN (upF x.1 3 (nI (min 999999 (tn (x.1 3) + (feV DF (envG x.1 i 0)))))))), x.2) := itr_g (f := gMark DW DF wr) hx (by unfold gMark; rw [if_pos c60, if_neg (by omega)])
        exact (ih (i + 1) _ _ (by omega) hY4 (by rw [e]; exact hN4) (by rw [e]; exact ((h31k hZ4).trans ((h31k hZ1).trans h31))) hof4).eq rfl rfl rfl
theorem S_R_pass {X : Mem} {r g : Nat → Int32} {DW DF : Option (Env → Int)} {wr : Bool} {W0 : Nat} (hW : WFg g) (h30 : X.1 244 30 = b2i wr) (hx2 : TxR X (r 2) DW DF) (hX : Ok X) (hR : RNow X r g) (h31 : X.1 244 31 = nI W0) : CM 6 m_R_pass [.ref 244] X (fun q Y => q = none ∧ Ok Y ∧ RNow Y r (gPass DW DF wr g).1 ∧ Y.1 244 31 = nI (W0 + (gPass DW DF wr g).2) ∧ offR X Y) := by
  refine CM_of (L := [some (.ref 244), none, none]) 2 ok_R_pass (fun _ => Nat.le_of_ble_eq_true rfl) rfl ?_
  refine J_iconst (v := nI 0) d_R_pass_0 rfl ?_
  refine J_istore_n (i := 1) (L1 := [some (.ref 244), some (.int (nI 0)), none]) d_R_pass_1 rfl (by decide) rfl ?_
  have w0 := wg_n hW (k := 0) (n := 8) (by decide) (by decide)
  obtain ⟨hWx, hx0, hx1, hxn⟩ := gMarks_ok (DW := DW) (DF := DF) (wr := wr) hW (tn (g 0)) w0.2
  have w1 := wg_n hW (k := 1) (n := 9999) (by decide) (by decide)
  refine lp_R_pass (W0 := W0) hW h30 hx2 (fun Y z2 hY hN h31 hof => ?_) (tn (g 0)) 0 X _ (by omega) hX hR h31 (offR_0 X)
  refine J_aload_n (i := 0) d_R_pass_110 rfl rfl ?_
  refine M_getR (b := 245) d_R_pass_111 f_R_7 rfl rfl rfl ?_
  refine J_bipush (v := nI 6) d_R_pass_114 rfl ?_
  refine J_dup2 d_R_pass_116 rfl rfl ?_
  refine N_iald (x := (nI (tn ((gMarks DW DF wr g (tn (g 0))).1 1)))) d_R_pass_117 rfl (by omega) (ltL hY (a := 245) (n := 1217) (by decide) rfl (by omega)) ((rn_y hN (k := 1) (by decide) (by decide)).trans (wg_n hWx (k := 1) (n := 9999) (by decide) (by decide)).1) ?_
  refine J_iconst (v := nI 1) d_R_pass_118 rfl ?_
  refine N_iadd d_R_pass_119 ?_
  refine N_iast d_R_pass_120 rfl (by decide) (by omega) (ltL hY (a := 245) (n := 1217) (by decide) rfl (by omega)) ?_
  refine M_vr d_R_pass_121 rfl ?_
  have hs := rn_set hN (k := 1) (v := nI (tn ((gMarks DW DF wr g (tn (g 0))).1 1) + 1)) (by decide) (by decide)
  exact ⟨rfl, okA hY rfl (by rw [List.length_set]), (show RNow _ _ _ from by unfold RNow; rw [pA_at]; exact hs), h31, offR_t hof offR_A⟩

