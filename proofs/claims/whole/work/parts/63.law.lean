/-- a text of the reference by its number, or none: its laws -/
def TxR (X : Mem) (v : Int32) (DW DF : Option (Env → Int)) : Prop := (v = -1 ∧ DW = none ∧ DF = none) ∨ ∃ t oc vc nc srt, v = nI t ∧ TRw X t oc vc ∧ TRl X t nc srt ∧ LwR X t 0 nc srt oc vc DW ∧ LwR X t 1 nc srt oc vc DF
theorem svW (D : Option (Env → Int)) (e : Env) : svV D 3 10 e = wrV D e := by cases D <;> rfl
theorem svF (D : Option (Env → Int)) (e : Env) : svV D (bc (eST e)) 99 e = feV D e := by cases D <;> rfl
theorem lawR_of {X Y : Mem} {e : Env} (h : lawS (pA X 256 (nmL e)) Y) : lawR X Y := by
  obtain ⟨l1, l2, h1, h2, e1⟩ := h
  exact ⟨nmL e, l1, l2, rfl, h1, h2, e1⟩
theorem S_R_wearsOf {X : Mem} {e : Env} {v : Int32} {DW DF : Option (Env → Int)} (hX : Ok X) (hR : RE X e) (hO : okE e) (hx : TxR X v DW DF) : CM 5 m_R_wearsOf [.ref 244, .int v, .int (nI e.2.2.2.2.1), .int (jI e.2.2.2.2.2)] X (fun r Y => r = some (.int (nI (wrV DW e))) ∧ lawR X Y) := by
  refine CM_of (L := [some (.ref 244), some (.int v), some (.int (nI e.2.2.2.2.1)), some (.int (jI e.2.2.2.2.2))]) 0 ok_R_wearsOf (fun _ => Nat.le_of_ble_eq_true rfl) rfl ?_
  refine J_aload_n (i := 0) d_R_wearsOf_0 rfl rfl ?_
  refine J_iload_n (i := 2) d_R_wearsOf_1 rfl rfl ?_
  refine J_iload_n (i := 3) d_R_wearsOf_2 rfl rfl ?_
  refine CV_V (av := [.int (nI e.2.2.2.2.1), .int (jI e.2.2.2.2.2)]) d_R_wearsOf_3 s_R_363 (M_rcv rfl (by decide) rfl) (S_R_name hX hR hO) (by decide) rfl rfl (Nat.le_of_ble_eq_true rfl) ?_
  have hX1 : Ok (pA X 256 (nmL e)) := okA hX rfl (by rw [hX.1 256 (by decide)]; rfl)
  refine J_aload_n (i := 0) d_R_wearsOf_6 rfl rfl ?_
  refine J_iload_n (i := 1) d_R_wearsOf_7 rfl rfl ?_
  refine J_iconst (v := nI 0) d_R_wearsOf_8 rfl ?_
  refine J_iconst (v := nI 3) d_R_wearsOf_9 rfl ?_
  refine J_bipush (v := nI 10) d_R_wearsOf_10 rfl ?_
  have hsay : CM 3 m_R_says [.ref 244, .int v, .int (nI 0), .int (nI 3), .int (nI 10)] (pA X 256 (nmL e)) (fun r Y => r = some (.int (nI (svV DW 3 10 e))) ∧ lawS (pA X 256 (nmL e)) Y) := by
    rcases hx with ⟨rfl, hw, hf⟩ | ⟨t, oc, vc, nc, srt, rfl, h1, h2, h3, h4⟩
    · subst hw; subst hf; exact S_R_says_n hX1
    · exact S_R_says hX1 (show RE (pA X 256 (nmL e)) e from hR) nmL_v hO (show TRw (pA X 256 (nmL e)) t oc vc from h1) (show TRl (pA X 256 (nmL e)) t nc srt from h2) (show LwR (pA X 256 (nmL e)) t 0 nc srt oc vc DW from h3) (by decide) (by decide)
  refine M_callV (av := [.int v, .int (nI 0), .int (nI 3), .int (nI 10)]) d_R_wearsOf_12 s_R_366 (M_rcv rfl (by decide) rfl) hsay (by decide) rfl rfl (Nat.le_of_ble_eq_true rfl) (fun r Y hq => ?_)
  obtain ⟨rfl, hY⟩ := hq
  refine M_ir d_R_wearsOf_15 rfl rfl ?_
  exact ⟨by rw [svW], lawR_of hY⟩

theorem S_R_feeOf {X : Mem} {e : Env} {v : Int32} {DW DF : Option (Env → Int)} (hX : Ok X) (hR : RE X e) (hO : okE e) (hx : TxR X v DW DF) (h2 : (X.2.1 245).getD 2 0 = v) (hwh : e.2.2.2.2.2 = 0) : CM 5 m_R_feeOf [.ref 244, .int (nI e.2.2.2.2.1)] X (fun r Y => r = some (.int (nI (feV DF e))) ∧ lawR X Y) := by
  refine CM_of (L := [some (.ref 244), some (.int (nI e.2.2.2.2.1))]) 0 ok_R_feeOf (fun _ => Nat.le_of_ble_eq_true rfl) rfl ?_
  refine J_aload_n (i := 0) d_R_feeOf_0 rfl rfl ?_
  refine J_iload_n (i := 1) d_R_feeOf_1 rfl rfl ?_
  refine J_iconst (v := nI 0) d_R_feeOf_2 rfl ?_
  rw [show nI 0 = jI e.2.2.2.2.2 from by rw [hwh]; rfl]
  refine CV_V (av := [.int (nI e.2.2.2.2.1), .int (jI e.2.2.2.2.2)]) d_R_feeOf_3 s_R_363 (M_rcv rfl (by decide) rfl) (S_R_name hX hR hO) (by decide) rfl rfl (Nat.le_of_ble_eq_true rfl) ?_
  have hX1 : Ok (pA X 256 (nmL e)) := okA hX rfl (by rw [hX.1 256 (by decide)]; rfl)
  refine J_aload_n (i := 0) d_R_feeOf_6 rfl rfl ?_
  refine J_aload_n (i := 0) d_R_feeOf_7 rfl rfl ?_
  refine M_getR (b := 245) d_R_feeOf_8 f_R_7 rfl rfl rfl ?_
  refine J_iconst (v := nI 2) d_R_feeOf_11 rfl ?_
  refine N_iald (x := v) d_R_feeOf_12 rfl (by omega) (ltL hX1 (a := 245) (n := 1217) (by decide) rfl (by omega)) h2 ?_
  refine J_iconst (v := nI 1) d_R_feeOf_13 rfl ?_
  refine J_aload_n (i := 0) d_R_feeOf_14 rfl rfl ?_
  refine M_getR (b := 256) d_R_feeOf_15 f_R_50 rfl rfl rfl ?_
  refine J_iconst (v := nI 2) d_R_feeOf_18 rfl ?_
  refine N_iald (x := (nI (bc (eST e)))) d_R_feeOf_19 rfl (by omega) (ltL hX1 (a := 256) (n := 7) (by decide) rfl (by omega)) (by rw [pA_at]; show jI (nmV e 2) = _; rw [show nmV e 2 = (bc (eST e) : Int) from rfl, jI_n]) ?_
  refine J_bipush (v := nI 99) d_R_feeOf_20 rfl ?_
  have hsay : CM 3 m_R_says [.ref 244, .int v, .int (nI 1), .int (nI (bc (eST e))), .int (nI 99)] (pA X 256 (nmL e)) (fun r Y => r = some (.int (nI (svV DF (bc (eST e)) 99 e))) ∧ lawS (pA X 256 (nmL e)) Y) := by
    rcases hx with ⟨rfl, hw, hf⟩ | ⟨t, oc, vc, nc, srt, rfl, h1, h2, h3, h4⟩
    · subst hw; subst hf; exact S_R_says_n hX1
    · exact S_R_says hX1 (show RE (pA X 256 (nmL e)) e from hR) nmL_v hO (show TRw (pA X 256 (nmL e)) t oc vc from h1) (show TRl (pA X 256 (nmL e)) t nc srt from h2) (show LwR (pA X 256 (nmL e)) t 1 nc srt oc vc DF from h4) (by decide) (by decide)
  refine M_callV (av := [.int v, .int (nI 1), .int (nI (bc (eST e))), .int (nI 99)]) d_R_feeOf_22 s_R_366 (M_rcv rfl (by decide) rfl) hsay (by decide) rfl rfl (Nat.le_of_ble_eq_true rfl) (fun r Y hq => ?_)
  obtain ⟨rfl, hY⟩ := hq
  refine M_ir d_R_feeOf_25 rfl rfl ?_
  exact ⟨by rw [svF], lawR_of hY⟩

def txT (t : Nat) : Nat := 224 + 5 * t
theorem rf_txt : ∀ t, t < 4 → rf 10 t = txT t ∧ t < rl 10 ∧ kd (txT t) = 5 := by decide
theorem S_O_rules {X : Mem} {tx : Nat} {v : Int32} (hX : Ok X) (hT : CTx X tx) (hr : X.1 18 4 = v) : CM 1 m_O_rules [.ref 8] X (fun r Y => Y = X ∧ ((mkB tx v = false ∧ r = some .null) ∨ ∃ t, t < tx ∧ v = nI t ∧ r = some (.ref (txT t)))) := by
  refine CM_of (L := [some (.ref 8)]) 0 ok_O_rules (fun _ => Nat.le_of_ble_eq_true rfl) rfl ?_
  refine J_aload_n (i := 0) d_O_rules_0 rfl rfl ?_
  refine J_aload_n (i := 0) d_O_rules_1 rfl rfl ?_
  refine M_getR (b := 18) d_O_rules_2 f_O_48 rfl rfl rfl ?_
  refine M_get (x := v) d_O_rules_5 f_O_100 rfl rfl hr ?_
  refine CV_B (av := [.int v]) d_O_rules_8 s_O_97 (M_rcv rfl (by decide) rfl) (S_O_isText hT) (by decide) rfl rfl (Nat.le_of_ble_eq_true rfl) ?_
  refine B_if_eq (tgt := 29) d_O_rules_11 (by decide) (fun c11 => ?_) (fun c11 => ?_)
  · refine J_null d_O_rules_29 ?_
    refine M_arN d_O_rules_30 rfl (Or.inl ⟨_, rfl⟩) ?_
    exact ⟨rfl, Or.inl ⟨c11, rfl⟩⟩
  · refine J_aload_n (i := 0) d_O_rules_14 rfl rfl ?_
    refine M_getR (b := 10) d_O_rules_15 f_O_25 rfl rfl rfl ?_
    refine J_aload_n (i := 0) d_O_rules_18 rfl rfl ?_
    refine M_getR (b := 18) d_O_rules_19 f_O_48 rfl rfl rfl ?_
    refine M_get (x := v) d_O_rules_22 f_O_100 rfl rfl hr ?_
    obtain ⟨t, ht, rfl⟩ := mk_n (m := tx) (by have := hT.1; omega) c11
    have htx := hT.1
    refine N_aald (b := (txT t)) (t := 35) d_O_rules_25 rfl (by decide) (by omega) (rf_txt t (by omega)).2.1 (rf_txt t (by omega)).1 ?_
    refine J_goto (tgt := 30) d_O_rules_26 (by decide) ?_
    refine M_ar d_O_rules_30 rfl (Or.inl ⟨_, rfl⟩) ?_
    exact ⟨rfl, Or.inr ⟨t, ht, rfl, rfl⟩⟩

