def sdM (r : Nat → Int32) (i : Nat) : Nat := tn (r (28 + 3 * i))
def sdS (r : Nat → Int32) (i : Nat) : Nat := tn (r (28 + 3 * i + 1))
def sdW (r : Nat → Int32) (i : Nat) : Nat := tn (r (28 + 3 * i + 2))
theorem bd_sd : ∀ i, i < 8 → bd (28 + 3 * i) = 7 ∧ bd (28 + 3 * i + 1) = 19 ∧ bd (28 + 3 * i + 2) = 10 := by decide
theorem sd_f {r : Nat → Int32} (h : WFr r) {i : Nat} (hi : i < 8) : (r (28 + 3 * i) = nI (sdM r i) ∧ sdM r i ≤ 7) ∧ (r (28 + 3 * i + 1) = nI (sdS r i) ∧ sdS r i ≤ 19) ∧ r (28 + 3 * i + 2) = nI (sdW r i) ∧ sdW r i ≤ 10 := by
  have b := bd_sd i hi
  exact ⟨wf_1 h (by omega) (by omega) (by omega), wf_1 h (by omega) (by omega) (by omega), wf_1 h (by omega) (by omega) (by omega)⟩
def agP (s : Sg) (t i : Nat) : Bool := wrV (s.2.2.2.2.2.2 t).1 (envR s.1 (sdM s.1 i) (sdS s.1 i : Int)) == sdW s.1 i
def agB (s : Sg) (t : Nat) : Bool := allN (agP s t) (tn (s.1 5))
def whsN (s : Sg) (t : Nat) : Nat := itr (fun t q => if agB s t then q ||| 1 <<< t else q) 0 t
theorem whs_lt (s : Sg) : ∀ t, t ≤ 4 → whsN s t < 16 :=
  itr_invN (f := fun t q => if agB s t then q ||| 1 <<< t else q) (fun _ (x : Nat) => x < 16) 4 (by decide) (fun t x ht hx => by
    try dsimp only
    split
    · exact or_lt 4 hx (sh_lt ht (by decide))
    · exact hx)
theorem txT_0 (t : Nat) : txT t = txT t := rfl
theorem lp_O_agrees {X : Mem} {s : Sg} {t : Nat} {Q : Option Value → Mem → Prop} (hw : WFs s) (ht : t < tn (s.1 1)) (kq : ∀ Y, pC X s Y → Q (some (.int (b2i (agB s t)))) Y) : ∀ (k i : Nat) (Y : Mem) (z3 : Option Value), i + k = tn (s.1 5) → pC X s Y → (∀ q, q < i → agP s t q = true) → JM 5 m_O_agrees Q 2 [some (.ref 8), some (.ref (txT t)), some (.int (nI i)), z3] [] Y := by
  have w5 := wf_1 hw.1 (j := 5) (n := 8) (by decide) (by decide) (by decide)
  have w1 := wf_1 hw.1 (j := 1) (n := 4) (by decide) (by decide) (by decide)
  intro k
  induction k with
  | zero =>
    intro i Y z3 hi hY ha
    obtain rfl : i = tn (s.1 5) := by omega
    rw [show agB s t = true from allN_yes ha] at kq
    refine J_iload_n (i := 2) d_O_agrees_2 rfl rfl ?_
    refine J_aload_n (i := 0) d_O_agrees_3 rfl rfl ?_
    refine M_getR (b := 18) d_O_agrees_4 f_O_48 rfl rfl rfl ?_
    refine M_get (x := (nI (tn (s.1 5)))) d_O_agrees_7 f_O_319 rfl rfl (v_CSd hY.2.1 hw).2 ?_
    refine N_icmp_ge (tgt := 68) d_O_agrees_10 (by decide) (by omega) (by omega) (fun c10 => ?_) (fun c10 => absurd c10 (by omega))
    refine J_iconst (v := nI 1) d_O_agrees_68 rfl ?_
    refine J.eq (st1 := [.int (b2i true)]) ?_ rfl rfl rfl
    refine M_ir d_O_agrees_69 rfl b2i_nar ?_
    exact kq Y hY
  | succ k ih =>
    intro i Y z3 hi hY ha
    have hX := hY.1
    have hsd := sd_f hw.1 (show i < 8 by omega)
    have hmk : sdM s.1 i < mOf s.1 := hw.1.2.2.2 i (by omega)
    obtain ⟨cw, q1, q2, q3, _⟩ := hY.2.1.2.2.2.2 t ht (by omega)
    have hag : agP s t i = (wrV (s.2.2.2.2.2.2 t).1 (envR s.1 (sdM s.1 i) (sdS s.1 i : Int)) == sdW s.1 i) := rfl
    refine J_iload_n (i := 2) d_O_agrees_2 rfl rfl ?_
    refine J_aload_n (i := 0) d_O_agrees_3 rfl rfl ?_
    refine M_getR (b := 18) d_O_agrees_4 f_O_48 rfl rfl rfl ?_
    refine M_get (x := (nI (tn (s.1 5)))) d_O_agrees_7 f_O_319 rfl rfl (v_CSd hY.2.1 hw).2 ?_
    refine N_icmp_ge (tgt := 68) d_O_agrees_10 (by decide) (by omega) (by omega) (fun c10 => absurd c10 (by omega)) (fun c10 => ?_)
    refine J_aload_n (i := 0) d_O_agrees_13 rfl rfl ?_
    refine M_getR (b := 16) d_O_agrees_14 f_O_41 rfl rfl rfl ?_
    refine J_aload_n (i := 1) d_O_agrees_17 rfl rfl ?_
    refine J_aload_n (i := 0) d_O_agrees_18 rfl rfl ?_
    refine M_getR (b := 18) d_O_agrees_19 f_O_48 rfl rfl rfl ?_
    refine M_getR (b := 19) d_O_agrees_22 f_O_110 rfl rfl rfl ?_
    refine J_aload_n (i := 0) d_O_agrees_25 rfl rfl ?_
    refine M_getR (b := 18) d_O_agrees_26 f_O_48 rfl rfl rfl ?_
    refine M_getR (b := 115) d_O_agrees_29 f_O_322 rfl rfl rfl ?_
    refine J_iload_n (i := 2) d_O_agrees_32 rfl rfl ?_
    refine N_iald (x := (nI (sdM s.1 i))) d_O_agrees_33 rfl (by omega) (ltL hX (a := 115) (n := 8) (by decide) rfl (by omega)) (by rw [show (_ : List Int32).getD i 0 = s.1 (28 + 3 * i) from (hY.2.1.1.2.2.2.2 i (by omega)).1]; exact hsd.1.1) ?_
    refine J_aload_n (i := 0) d_O_agrees_34 rfl rfl ?_
    refine M_getR (b := 18) d_O_agrees_35 f_O_48 rfl rfl rfl ?_
    refine M_getR (b := 116) d_O_agrees_38 f_O_325 rfl rfl rfl ?_
    refine J_iload_n (i := 2) d_O_agrees_41 rfl rfl ?_
    refine N_iald (x := (nI (sdS s.1 i))) d_O_agrees_42 rfl (by omega) (ltL hX (a := 116) (n := 8) (by decide) rfl (by omega)) (by rw [show (_ : List Int32).getD i 0 = s.1 (28 + 3 * i + 1) from (hY.2.1.1.2.2.2.2 i (by omega)).2.1]; exact hsd.2.1.1) ?_
    rw [show nI (sdS s.1 i) = jI (sdS s.1 i : Int) from (jI_n _).symm]
    refine M_callV (av := [.ref (txT t), .ref 19, .int (nI (sdM s.1 i)), .int (jI (sdS s.1 i : Int))]) d_O_agrees_43 s_O_201 (M_rcv rfl (by decide) rfl) (S_L_wearsByV (e := envR s.1 (sdM s.1 i) (sdS s.1 i : Int)) hY.1 (CE_n hY.2.1.1.1 hw.1 _ _) (okE_r hw.1 hmk (by omega) (by omega)) (Or.inr ⟨txT t, cw, rfl, q1, q2, q3⟩)) (by decide) rfl rfl (Nat.le_of_ble_eq_true rfl) (fun r Z hq => ?_)
    obtain ⟨rfl, hZ⟩ := hq
    have hY2 := pC_law hY hZ
    have hwr := wrV_le (s.2.2.2.2.2.2 t).1 (envR s.1 (sdM s.1 i) (sdS s.1 i : Int))
    generalize hW : wrV (s.2.2.2.2.2.2 t).1 (envR s.1 (sdM s.1 i) (sdS s.1 i : Int)) = vW at *
    refine J_istore_n (i := 3) (L1 := [some (.ref 8), some (.ref (txT t)), some (.int (nI i)), some (.int (nI vW))]) d_O_agrees_46 rfl (by decide) rfl ?_
    refine J_iload_n (i := 3) d_O_agrees_47 rfl rfl ?_
    refine J_aload_n (i := 0) d_O_agrees_48 rfl rfl ?_
    refine M_getR (b := 18) d_O_agrees_49 f_O_48 rfl rfl rfl ?_
    refine M_getR (b := 117) d_O_agrees_52 f_O_328 rfl rfl rfl ?_
    refine J_iload_n (i := 2) d_O_agrees_55 rfl rfl ?_
    refine N_iald (x := (nI (sdW s.1 i))) d_O_agrees_56 rfl (by omega) (ltL hY2.1 (a := 117) (n := 8) (by decide) rfl (by omega)) (by rw [show (_ : List Int32).getD i 0 = s.1 (28 + 3 * i + 2) from (hY2.2.1.1.2.2.2.2 i (by omega)).2.2]; exact hsd.2.2.1) ?_
    refine N_icmp_eq (tgt := 62) d_O_agrees_57 (by decide) (by omega) (by omega) (fun c57 => ?_) (fun c57 => ?_)
    · refine N_iinc (a := i) (c := 1) (L1 := [some (.ref 8), some (.ref (txT t)), some (.int (nI (i + 1))), some (.int (nI vW))]) d_O_agrees_62 rfl rfl (by decide) rfl ?_
      refine J_goto (tgt := 2) d_O_agrees_65 (by decide) ?_
      exact ih (i + 1) Z _ (by omega) hY2 (fun q hq => by
        rcases Nat.lt_or_ge q i with z | z
        · exact ha q z
        · rw [show q = i by omega, hag]; exact beq_iff_eq.mpr c57)
    · refine J_iconst (v := nI 0) d_O_agrees_60 rfl ?_
      refine J.eq (st1 := [.int (b2i false)]) ?_ rfl rfl rfl
      refine M_ir d_O_agrees_61 rfl b2i_nar ?_
      rw [show agB s t = false from allN_no (i := i) (by rw [hag]; exact beq_eq_false_iff_ne.mpr c57) (by omega)] at kq
      exact kq Z hY2
theorem S_O_agrees {X X0 : Mem} {s : Sg} {t : Nat} (hw : WFs s) (hX : pC X0 s X) (ht : t < tn (s.1 1)) : CM 5 m_O_agrees [.ref 8, .ref (txT t)] X (fun r Y => r = some (.int (b2i (agB s t))) ∧ pC X0 s Y) := by
  refine CM_of (L := [some (.ref 8), some (.ref (txT t)), none, none]) 2 ok_O_agrees (fun _ => Nat.le_of_ble_eq_true rfl) rfl ?_
  refine J_iconst (v := nI 0) d_O_agrees_0 rfl ?_
  refine J_istore_n (i := 2) (L1 := [some (.ref 8), some (.ref (txT t)), some (.int (nI 0)), none]) d_O_agrees_1 rfl (by decide) rfl ?_
  exact lp_O_agrees hw ht (fun Y hY => ⟨rfl, hY⟩) (tn (s.1 5)) 0 X _ (by omega) hX (fun q hq => absurd hq (Nat.not_lt_zero q))

theorem lp_O_whose {X : Mem} {s : Sg} {Q : Option Value → Mem → Prop} (hw : WFs s) (kq : ∀ Y, pC X s Y → Q (some (.int (nI (whsN s (tn (s.1 1)))))) Y) : ∀ (k t : Nat) (Y : Mem), t + k = tn (s.1 1) → pC X s Y → JM 6 m_O_whose Q 4 [some (.ref 8), some (.int (nI (whsN s t))), some (.int (nI t))] [] Y := by
  have w5 := wf_1 hw.1 (j := 5) (n := 8) (by decide) (by decide) (by decide)
  have w1 := wf_1 hw.1 (j := 1) (n := 4) (by decide) (by decide) (by decide)
  intro k
  induction k with
  | zero =>
    intro t Y hi hY
    obtain rfl : t = tn (s.1 1) := by omega
    refine J_iload_n (i := 2) d_O_whose_4 rfl rfl ?_
    refine J_aload_n (i := 0) d_O_whose_5 rfl rfl ?_
    refine M_getR (b := 18) d_O_whose_6 f_O_48 rfl rfl rfl ?_
    refine M_get (x := (nI (tn (s.1 1)))) d_O_whose_9 f_O_85 rfl rfl (v_CTx hY.2.1 hw).2 ?_
    refine N_icmp_ge (tgt := 40) d_O_whose_12 (by decide) (by omega) (by omega) (fun c12 => ?_) (fun c12 => absurd c12 (by omega))
    refine J_iload_n (i := 1) d_O_whose_40 rfl rfl ?_
    refine M_ir d_O_whose_41 rfl rfl ?_
    exact kq Y hY
  | succ k ih =>
    intro t Y hi hY
    have hq := whs_lt s t (by omega)
    refine J_iload_n (i := 2) d_O_whose_4 rfl rfl ?_
    refine J_aload_n (i := 0) d_O_whose_5 rfl rfl ?_
    refine M_getR (b := 18) d_O_whose_6 f_O_48 rfl rfl rfl ?_
    refine M_get (x := (nI (tn (s.1 1)))) d_O_whose_9 f_O_85 rfl rfl (v_CTx hY.2.1 hw).2 ?_
    refine N_icmp_ge (tgt := 40) d_O_whose_12 (by decide) (by omega) (by omega) (fun c12 => absurd c12 (by omega)) (fun c12 => ?_)
    refine J_aload_n (i := 0) d_O_whose_15 rfl rfl ?_
    refine J_aload_n (i := 0) d_O_whose_16 rfl rfl ?_
    refine M_getR (b := 10) d_O_whose_17 f_O_25 rfl rfl rfl ?_
    refine J_iload_n (i := 2) d_O_whose_20 rfl rfl ?_
    refine N_aald (b := (txT t)) (t := 35) d_O_whose_21 rfl (by decide) (by omega) (rf_txt t (by omega)).2.1 (rf_txt t (by omega)).1 ?_
    refine M_callV (av := [.ref (txT t)]) d_O_whose_22 s_O_331 (M_rcv rfl (by decide) rfl) (S_O_agrees hw hY (show t < tn (s.1 1) by omega)) (by decide) rfl rfl (Nat.le_of_ble_eq_true rfl) (fun r Z hq => ?_)
    obtain ⟨rfl, hZ⟩ := hq
    refine B_if_eq (tgt := 34) d_O_whose_25 (by decide) (fun c25 => ?_) (fun c25 => ?_)
    · refine N_iinc (a := t) (c := 1) (L1 := [some (.ref 8), some (.int (nI (whsN s t))), some (.int (nI (t + 1)))]) d_O_whose_34 rfl rfl (by decide) rfl ?_
      refine J_goto (tgt := 4) d_O_whose_37 (by decide) ?_
      exact (ih (t + 1) Z (by omega) hZ).eq (by rw [show whsN s (t + 1) = (whsN s t) from by show (if _ then _ else _) = _; rw [c25]; rfl]) rfl rfl
    · refine J_iload_n (i := 1) d_O_whose_28 rfl rfl ?_
      refine J_iconst (v := nI 1) d_O_whose_29 rfl ?_
      refine J_iload_n (i := 2) d_O_whose_30 rfl rfl ?_
      refine N_ishl d_O_whose_31 (by omega) ?_
      refine N_ior d_O_whose_32 ?_
      refine J_istore_n (i := 1) (L1 := [some (.ref 8), some (.int (nI ((whsN s t) ||| (1 <<< t)))), some (.int (nI t))]) d_O_whose_33 rfl (by decide) rfl ?_
      refine N_iinc (a := t) (c := 1) (L1 := [some (.ref 8), some (.int (nI ((whsN s t) ||| (1 <<< t)))), some (.int (nI (t + 1)))]) d_O_whose_34 rfl rfl (by decide) rfl ?_
      refine J_goto (tgt := 4) d_O_whose_37 (by decide) ?_
      exact (ih (t + 1) Z (by omega) hZ).eq (by rw [show whsN s (t + 1) = ((whsN s t) ||| (1 <<< t)) from by show (if _ then _ else _) = _; rw [c25]; rfl]) rfl rfl
theorem S_O_whose {X : Mem} {s : Sg} (hX : Ok X) (hC : CI X s) (hw : WFs s) : CM 6 m_O_whose [.ref 8] X (fun r Y => r = some (.int (nI (whsN s (tn (s.1 1))))) ∧ pC X s Y) := by
  refine CM_of (L := [some (.ref 8), none, none]) 2 ok_O_whose (fun _ => Nat.le_of_ble_eq_true rfl) rfl ?_
  refine J_iconst (v := nI 0) d_O_whose_0 rfl ?_
  refine J_istore_n (i := 1) (L1 := [some (.ref 8), some (.int (nI 0)), none]) d_O_whose_1 rfl (by decide) rfl ?_
  refine J_iconst (v := nI 0) d_O_whose_2 rfl ?_
  refine J_istore_n (i := 2) (L1 := [some (.ref 8), some (.int (nI 0)), some (.int (nI 0))]) d_O_whose_3 rfl (by decide) rfl ?_
  exact lp_O_whose hw (fun Y hY => ⟨rfl, hY⟩) (tn (s.1 1)) 0 X (by omega) ⟨hX, hC, sR_0 X⟩

theorem lp_R_whose_in {X : Mem} {s : Sg} {t : Nat} {Q : Option Value → Mem → Prop} (hw : WFs s) (ht : t < tn (s.1 1)) (kx : ∀ Y, pR X s Y → JM 6 m_R_whose Q 85 [some (.ref 244), some (.int (nI (whsN s t))), some (.int (nI t)), some (.int (b2i (agB s t))), some (.int (nI (28 + 3 * (tn (s.1 5)))))] [] Y) : ∀ (k i : Nat) (Y : Mem), i + k = tn (s.1 5) → pR X s Y → JM 6 m_R_whose Q 20 [some (.ref 244), some (.int (nI (whsN s t))), some (.int (nI t)), some (.int (b2i (allN (agP s t) i))), some (.int (nI (28 + 3 * i)))] [] Y := by
  have w5 := wf_1 hw.1 (j := 5) (n := 8) (by decide) (by decide) (by decide)
  have w1 := wf_1 hw.1 (j := 1) (n := 4) (by decide) (by decide) (by decide)
  intro k
  induction k with
  | zero =>
    intro i Y hi hY
    have hX := hY.1
    obtain rfl : i = tn (s.1 5) := by omega
    refine J_iload d_R_whose_20 rfl ?_
    refine J_bipush (v := nI 28) d_R_whose_22 rfl ?_
    refine J_iconst (v := nI 3) d_R_whose_24 rfl ?_
    refine J_aload_n (i := 0) d_R_whose_25 rfl rfl ?_
    refine M_getR (b := 245) d_R_whose_26 f_R_7 rfl rfl rfl ?_
    refine J_iconst (v := nI 5) d_R_whose_29 rfl ?_
    refine N_iald (x := (nI (tn (s.1 5)))) d_R_whose_30 rfl (by omega) (ltL hX (a := 245) (n := 1217) (by decide) rfl (by omega)) (v_RSd hY.2.1 hw).2 ?_
    refine N_imul d_R_whose_31 ?_
    refine N_iadd d_R_whose_32 ?_
    refine N_icmp_ge (tgt := 85) d_R_whose_33 (by decide) (by omega) (by omega) (fun c33 => ?_) (fun c33 => absurd c33 (by omega))
    exact kx Y hY
  | succ k ih =>
    intro i Y hi hY
    have hX := hY.1
    have hsd := sd_f hw.1 (show i < 8 by omega)
    have hmk : sdM s.1 i < mOf s.1 := hw.1.2.2.2 i (by omega)
    obtain ⟨oc, vc, q1, q2, q3, q4, _⟩ := hY.2.1.2.2.2.2 t ht (by omega)
    have hag : agP s t i = (wrV (s.2.2.2.2.2.2 t).1 (envR s.1 (sdM s.1 i) (sdS s.1 i : Int)) == sdW s.1 i) := rfl
    refine J_iload d_R_whose_20 rfl ?_
    refine J_bipush (v := nI 28) d_R_whose_22 rfl ?_
    refine J_iconst (v := nI 3) d_R_whose_24 rfl ?_
    refine J_aload_n (i := 0) d_R_whose_25 rfl rfl ?_
    refine M_getR (b := 245) d_R_whose_26 f_R_7 rfl rfl rfl ?_
    refine J_iconst (v := nI 5) d_R_whose_29 rfl ?_
    refine N_iald (x := (nI (tn (s.1 5)))) d_R_whose_30 rfl (by omega) (ltL hX (a := 245) (n := 1217) (by decide) rfl (by omega)) (v_RSd hY.2.1 hw).2 ?_
    refine N_imul d_R_whose_31 ?_
    refine N_iadd d_R_whose_32 ?_
    refine N_icmp_ge (tgt := 85) d_R_whose_33 (by decide) (by omega) (by omega) (fun c33 => absurd c33 (by omega)) (fun c33 => ?_)
    refine J_iload_n (i := 3) d_R_whose_36 rfl rfl ?_
    refine B_if_eq (tgt := 77) d_R_whose_37 (by decide) (fun c37 => ?_) (fun c37 => ?_)
    · refine J_iconst (v := nI 0) d_R_whose_77 rfl ?_
      refine J_istore_n (i := 3) (L1 := [some (.ref 244), some (.int (nI (whsN s t))), some (.int (nI t)), some (.int (nI 0)), some (.int (nI (28 + 3 * i)))]) d_R_whose_78 rfl (by decide) rfl ?_
      refine N_iinc (a := (28 + 3 * i)) (c := 3) (L1 := [some (.ref 244), some (.int (nI (whsN s t))), some (.int (nI t)), some (.int (nI 0)), some (.int (nI ((28 + 3 * i) + 3)))]) d_R_whose_79 rfl rfl (by decide) rfl ?_
      refine J_goto (tgt := 20) d_R_whose_82 (by decide) ?_
      exact (ih (i + 1) Y (by omega) hY).eq (by rw [show allN (agP s t) (i + 1) = false from by rw [allN, c37]; rfl, show 28 + 3 * (i + 1) = 28 + 3 * i + 3 by omega]; rfl) rfl rfl
    · refine J_aload_n (i := 0) d_R_whose_40 rfl rfl ?_
      refine J_iload_n (i := 2) d_R_whose_41 rfl rfl ?_
      refine J_aload_n (i := 0) d_R_whose_42 rfl rfl ?_
      refine M_getR (b := 245) d_R_whose_43 f_R_7 rfl rfl rfl ?_
      refine J_iload d_R_whose_46 rfl ?_
      refine N_iald (x := (nI (sdM s.1 i))) d_R_whose_48 rfl (by omega) (ltL hX (a := 245) (n := 1217) (by decide) rfl (by omega)) (by rw [ri_at hY.2.1 (by omega)]; exact hsd.1.1) ?_
      refine J_aload_n (i := 0) d_R_whose_49 rfl rfl ?_
      refine M_getR (b := 245) d_R_whose_50 f_R_7 rfl rfl rfl ?_
      refine J_iload d_R_whose_53 rfl ?_
      refine J_iconst (v := nI 1) d_R_whose_55 rfl ?_
      refine N_iadd d_R_whose_56 ?_
      refine N_iald (x := (nI (sdS s.1 i))) d_R_whose_57 rfl (by omega) (ltL hX (a := 245) (n := 1217) (by decide) rfl (by omega)) (by rw [ri_at hY.2.1 (by omega)]; exact hsd.2.1.1) ?_
      rw [show nI (sdS s.1 i) = jI (sdS s.1 i : Int) from (jI_n _).symm]
      refine M_callV (av := [.int (nI t), .int (nI (sdM s.1 i)), .int (jI (sdS s.1 i : Int))]) d_R_whose_58 s_R_395 (M_rcv rfl (by decide) rfl) (S_R_wearsOf (e := envR s.1 (sdM s.1 i) (sdS s.1 i : Int)) (DF := (s.2.2.2.2.2.2 t).2.1) hY.1 (RE_n hY.2.1 hw.1 _ _) (okE_r hw.1 hmk (by omega) (by omega)) (Or.inr ⟨t, oc, vc, _, _, rfl, q1, q2, q3, q4⟩)) (by decide) rfl rfl (Nat.le_of_ble_eq_true rfl) (fun r Z hq => ?_)
      obtain ⟨rfl, hZ⟩ := hq
      have hY2 := pR_law hY hZ
      have hwr := wrV_le (s.2.2.2.2.2.2 t).1 (envR s.1 (sdM s.1 i) (sdS s.1 i : Int))
      generalize hW : wrV (s.2.2.2.2.2.2 t).1 (envR s.1 (sdM s.1 i) (sdS s.1 i : Int)) = vW at *
      refine J_aload_n (i := 0) d_R_whose_61 rfl rfl ?_
      refine M_getR (b := 245) d_R_whose_62 f_R_7 rfl rfl rfl ?_
      refine J_iload d_R_whose_65 rfl ?_
      refine J_iconst (v := nI 2) d_R_whose_67 rfl ?_
      refine N_iadd d_R_whose_68 ?_
      refine N_iald (x := (nI (sdW s.1 i))) d_R_whose_69 rfl (by omega) (ltL hY2.1 (a := 245) (n := 1217) (by decide) rfl (by omega)) (by rw [ri_at hY2.2.1 (by omega)]; exact hsd.2.2.1) ?_
      refine N_icmp_ne (tgt := 77) d_R_whose_70 (by decide) (by omega) (by omega) (fun c70 => ?_) (fun c70 => ?_)
      · refine J_iconst (v := nI 0) d_R_whose_77 rfl ?_
        refine J_istore_n (i := 3) (L1 := [some (.ref 244), some (.int (nI (whsN s t))), some (.int (nI t)), some (.int (nI 0)), some (.int (nI (28 + 3 * i)))]) d_R_whose_78 rfl (by decide) rfl ?_
        refine N_iinc (a := (28 + 3 * i)) (c := 3) (L1 := [some (.ref 244), some (.int (nI (whsN s t))), some (.int (nI t)), some (.int (nI 0)), some (.int (nI ((28 + 3 * i) + 3)))]) d_R_whose_79 rfl rfl (by decide) rfl ?_
        refine J_goto (tgt := 20) d_R_whose_82 (by decide) ?_
        exact (ih (i + 1) Z (by omega) hY2).eq (by rw [show allN (agP s t) (i + 1) = false from by rw [allN, c37, hag, show (vW == sdW s.1 i) = false from beq_eq_false_iff_ne.mpr c70]; rfl, show 28 + 3 * (i + 1) = 28 + 3 * i + 3 by omega]; rfl) rfl rfl
      · refine J_iconst (v := nI 1) d_R_whose_73 rfl ?_
        refine J_goto (tgt := 78) d_R_whose_74 (by decide) ?_
        refine J_istore_n (i := 3) (L1 := [some (.ref 244), some (.int (nI (whsN s t))), some (.int (nI t)), some (.int (nI 1)), some (.int (nI (28 + 3 * i)))]) d_R_whose_78 rfl (by decide) rfl ?_
        refine N_iinc (a := (28 + 3 * i)) (c := 3) (L1 := [some (.ref 244), some (.int (nI (whsN s t))), some (.int (nI t)), some (.int (nI 1)), some (.int (nI ((28 + 3 * i) + 3)))]) d_R_whose_79 rfl rfl (by decide) rfl ?_
        refine J_goto (tgt := 20) d_R_whose_82 (by decide) ?_
        exact (ih (i + 1) Z (by omega) hY2).eq (by rw [show allN (agP s t) (i + 1) = true from by rw [allN, c37, hag, show (vW == sdW s.1 i) = true from beq_iff_eq.mpr c70]; rfl, show 28 + 3 * (i + 1) = 28 + 3 * i + 3 by omega]; rfl) rfl rfl
theorem lp_R_whose {X : Mem} {s : Sg} {Q : Option Value → Mem → Prop} (hw : WFs s) (kq : ∀ Y, pR X s Y → Q (some (.int (nI (whsN s (tn (s.1 1)))))) Y) : ∀ (k t : Nat) (Y : Mem) (z3 z4 : Option Value), t + k = tn (s.1 1) → pR X s Y → JM 6 m_R_whose Q 4 [some (.ref 244), some (.int (nI (whsN s t))), some (.int (nI t)), z3, z4] [] Y := by
  have w5 := wf_1 hw.1 (j := 5) (n := 8) (by decide) (by decide) (by decide)
  have w1 := wf_1 hw.1 (j := 1) (n := 4) (by decide) (by decide) (by decide)
  intro k
  induction k with
  | zero =>
    intro t Y z3 z4 hi hY
    have hX := hY.1
    obtain rfl : t = tn (s.1 1) := by omega
    refine J_iload_n (i := 2) d_R_whose_4 rfl rfl ?_
    refine J_aload_n (i := 0) d_R_whose_5 rfl rfl ?_
    refine M_getR (b := 245) d_R_whose_6 f_R_7 rfl rfl rfl ?_
    refine J_iconst (v := nI 1) d_R_whose_9 rfl ?_
    refine N_iald (x := (nI (tn (s.1 1)))) d_R_whose_10 rfl (by omega) (ltL hX (a := 245) (n := 1217) (by decide) rfl (by omega)) (v_RTx hY.2.1 hw).2 ?_
    refine N_icmp_ge (tgt := 105) d_R_whose_11 (by decide) (by omega) (by omega) (fun c11 => ?_) (fun c11 => absurd c11 (by omega))
    refine J_iload_n (i := 1) d_R_whose_105 rfl rfl ?_
    refine M_ir d_R_whose_106 rfl rfl ?_
    exact kq Y hY
  | succ k ih =>
    intro t Y z3 z4 hi hY
    have hX := hY.1
    have hq := whs_lt s t (by omega)
    refine J_iload_n (i := 2) d_R_whose_4 rfl rfl ?_
    refine J_aload_n (i := 0) d_R_whose_5 rfl rfl ?_
    refine M_getR (b := 245) d_R_whose_6 f_R_7 rfl rfl rfl ?_
    refine J_iconst (v := nI 1) d_R_whose_9 rfl ?_
    refine N_iald (x := (nI (tn (s.1 1)))) d_R_whose_10 rfl (by omega) (ltL hX (a := 245) (n := 1217) (by decide) rfl (by omega)) (v_RTx hY.2.1 hw).2 ?_
    refine N_icmp_ge (tgt := 105) d_R_whose_11 (by decide) (by omega) (by omega) (fun c11 => absurd c11 (by omega)) (fun c11 => ?_)
    refine J_iconst (v := nI 1) d_R_whose_14 rfl ?_
    refine J_istore_n (i := 3) (L1 := [some (.ref 244), some (.int (nI (whsN s t))), some (.int (nI t)), some (.int (nI 1)), z4]) d_R_whose_15 rfl (by decide) rfl ?_
    refine J_bipush (v := nI 28) d_R_whose_16 rfl ?_
    refine J_istore (L1 := [some (.ref 244), some (.int (nI (whsN s t))), some (.int (nI t)), some (.int (nI 1)), some (.int (nI 28))]) d_R_whose_18 (by decide) rfl ?_
    refine lp_R_whose_in hw (by omega) (fun Y hY => ?_) (tn (s.1 5)) 0 Y (by omega) hY
    refine J_iload_n (i := 1) d_R_whose_85 rfl rfl ?_
    refine J_iload_n (i := 3) d_R_whose_86 rfl rfl ?_
    refine B_if_eq (tgt := 96) d_R_whose_87 (by decide) (fun c87 => ?_) (fun c87 => ?_)
    · refine J_iconst (v := nI 0) d_R_whose_96 rfl ?_
      refine N_ior d_R_whose_97 ?_
      refine J_istore_n (i := 1) (L1 := [some (.ref 244), some (.int (nI ((whsN s t) ||| 0))), some (.int (nI t)), some (.int (b2i (agB s t))), some (.int (nI (28 + 3 * (tn (s.1 5)))))]) d_R_whose_98 rfl (by decide) rfl ?_
      refine N_iinc (a := t) (c := 1) (L1 := [some (.ref 244), some (.int (nI ((whsN s t) ||| 0))), some (.int (nI (t + 1))), some (.int (b2i (agB s t))), some (.int (nI (28 + 3 * (tn (s.1 5)))))]) d_R_whose_99 rfl rfl (by decide) rfl ?_
      refine J_goto (tgt := 4) d_R_whose_102 (by decide) ?_
      exact (ih (t + 1) Y _ _ (by omega) hY).eq (by rw [show whsN s (t + 1) = ((whsN s t) ||| 0) from by show (if _ then _ else _) = _; rw [c87]; first | rfl | exact (Nat.or_zero _).symm]) rfl rfl
    · refine J_iconst (v := nI 1) d_R_whose_90 rfl ?_
      refine J_iload_n (i := 2) d_R_whose_91 rfl rfl ?_
      refine N_ishl d_R_whose_92 (by omega) ?_
      refine J_goto (tgt := 97) d_R_whose_93 (by decide) ?_
      refine N_ior d_R_whose_97 ?_
      refine J_istore_n (i := 1) (L1 := [some (.ref 244), some (.int (nI ((whsN s t) ||| (1 <<< t)))), some (.int (nI t)), some (.int (b2i (agB s t))), some (.int (nI (28 + 3 * (tn (s.1 5)))))]) d_R_whose_98 rfl (by decide) rfl ?_
      refine N_iinc (a := t) (c := 1) (L1 := [some (.ref 244), some (.int (nI ((whsN s t) ||| (1 <<< t)))), some (.int (nI (t + 1))), some (.int (b2i (agB s t))), some (.int (nI (28 + 3 * (tn (s.1 5)))))]) d_R_whose_99 rfl rfl (by decide) rfl ?_
      refine J_goto (tgt := 4) d_R_whose_102 (by decide) ?_
      exact (ih (t + 1) Y _ _ (by omega) hY).eq (by rw [show whsN s (t + 1) = ((whsN s t) ||| (1 <<< t)) from by show (if _ then _ else _) = _; rw [c87]; first | rfl | exact (Nat.or_zero _).symm]) rfl rfl
theorem S_R_whose {X : Mem} {s : Sg} (hX : Ok X) (hC : RI X s) (hw : WFs s) : CM 6 m_R_whose [.ref 244] X (fun r Y => r = some (.int (nI (whsN s (tn (s.1 1))))) ∧ pR X s Y) := by
  refine CM_of (L := [some (.ref 244), none, none, none, none]) 4 ok_R_whose (fun _ => Nat.le_of_ble_eq_true rfl) rfl ?_
  refine J_iconst (v := nI 0) d_R_whose_0 rfl ?_
  refine J_istore_n (i := 1) (L1 := [some (.ref 244), some (.int (nI 0)), none, none, none]) d_R_whose_1 rfl (by decide) rfl ?_
  refine J_iconst (v := nI 0) d_R_whose_2 rfl ?_
  refine J_istore_n (i := 2) (L1 := [some (.ref 244), some (.int (nI 0)), some (.int (nI 0)), none, none]) d_R_whose_3 rfl (by decide) rfl ?_
  exact lp_R_whose hw (fun Y hY => ⟨rfl, hY⟩) (tn (s.1 1)) 0 X _ _ (by omega) ⟨hX, hC, sC_0 X⟩

