/-- a sum by its products, what is asked by its parts -/
def pSumP (T : TS) (one : Nat → PR SVl) (j : Nat) : PR SVl := bnd (one j) (pLoop T addB one cmbA 300)
def pEithB (T : TS) (one : Nat → PR SBl) (j : Nat) : PR SBl := bnd (one j) (pLoop T orB one (fun _ a b => fun e => a e || b e) 300)
theorem pSum_P (T : TS) (one : Nat → PR SVl) : pSum T one = pSumP T (pProd T one) := rfl
theorem pEith_B (T : TS) (ask : Nat → PR SBl) : pEith T ask = pEithB T (pBoth T ask) := rfl
theorem lp_D_readProduct {X : Mem} {B : Nat → Nat} {N T j0 c0 dd oo : Nat} {w : Bool} {one : Nat → PR SVl} {R : PR SVl} {Q : Option Value → Mem → Prop} (hOne : COne dd oo B N T w one) (hdd : 2 ≤ dd) (hcj : c0 ≤ j0) (kq : ∀ Z, Out X B N T j0 c0 w (GdC T w) R Z → Q none Z) : ∀ (f i : Nat) (Y : Mem) (j c : Nat) (D : SVl) (z3 : Option Value), i + f = 300 → Ok Y → offL T X Y → Lv Y B N T j c w → c + j0 ≤ c0 + j → (hj0 : j0 < j) → (hc0 : c0 ≤ c) → (hcl : ∀ p, p < c0 → (Y.2.1 (T + 1)).getD p 0 = (X.2.1 (T + 1)).getD p 0) → GdC T w Y c0 c D → pLoop (tkT B) mulB one cmbA f j D = R → JM (dd + 1) m_D_readProduct Q 7 [some (.ref 11), some (.int (nI oo)), some (.int (nI i)), z3] [] Y := by
  intro f
  induction f with
  | zero =>
    intro i Y j c D z3 hi hY ho hL hcc hj0 hc0 hcl hG hR
    obtain rfl : i = 300 := by omega
    refine J_iload_n (i := 2) d_D_readProduct_7 rfl rfl ?_
    refine J_sipush (v := nI 300) d_D_readProduct_8 rfl ?_
    refine N_icmp_ge (tgt := 62) d_D_readProduct_11 (by decide) (by omega) (by omega) (fun c11 => ?_) (fun c11 => absurd c11 (by omega))
    refine M_vr d_D_readProduct_62 rfl ?_
    exact kq Y (by rw [← hR]; exact ⟨hY, ho, c, hL, by omega, hj0, hc0, hcl, hG⟩)
  | succ f ih =>
    intro i Y j c D z3 hi hY ho hL hcc hj0 hc0 hcl hG hR
    have hkT := hL.1.2.1
    have h300 := hL.1.1.1
    have hjN := hL.2.1
    have hlt := tk_lt B j
    have hjl := Lv_N hL
    refine J_iload_n (i := 2) d_D_readProduct_7 rfl rfl ?_
    refine J_sipush (v := nI 300) d_D_readProduct_8 rfl ?_
    refine N_icmp_ge (tgt := 62) d_D_readProduct_11 (by decide) (by omega) (by omega) (fun c11 => absurd c11 (by omega)) (fun c11 => ?_)
    refine J_aload_n (i := 0) d_D_readProduct_14 rfl rfl ?_
    refine M_get (x := (nI (tk_ B j))) d_D_readProduct_15 f_D_32 rfl rfl hL.2.2.2.1 ?_
    refine J_bipush (v := nI 38) d_D_readProduct_18 rfl ?_
    refine N_icmp_eq (tgt := 32) d_D_readProduct_20 (by decide) (by omega) (by omega) (fun c20 => ?_) (fun c20 => ?_)
    · refine J_aload_n (i := 0) d_D_readProduct_32 rfl rfl ?_
      refine M_get (x := (nI (tk_ B j))) d_D_readProduct_33 f_D_32 rfl rfl hL.2.2.2.1 ?_
      refine J_istore_n (i := 3) (L1 := [some (.ref 11), some (.int (nI oo)), some (.int (nI i)), some (.int (nI (tk_ B j)))]) d_D_readProduct_36 rfl (by decide) rfl ?_
      refine J_aload_n (i := 0) d_D_readProduct_37 rfl rfl ?_
      refine CV_V (av := []) d_D_readProduct_38 s_D_54 (M_rcv rfl (by decide) rfl) (S_D_advance hY hL (show tk_ B j ≠ 46 by omega)) (by omega) rfl rfl (Nat.le_of_ble_eq_true rfl) ?_
      have hL1 := ad_Lv hL (show tk_ B j ≠ 46 by omega)
      refine J_aload_n (i := 0) d_D_readProduct_41 rfl rfl ?_
      refine J_iload_n (i := 1) d_D_readProduct_42 rfl rfl ?_
      refine M_callV (av := [.int (nI oo)]) d_D_readProduct_43 s_D_139 (M_rcv rfl (by decide) rfl) (hOne _ _ _ (ad_Ok hY) hL1 (by omega)) (by omega) rfl rfl (Nat.le_of_ble_eq_true rfl) (fun r2 Y2 hq2 => ?_)
      obtain ⟨rfl, hq2⟩ := hq2
      rcases hr2 : one (j + 1) with q2 | q2
      · rw [hr2] at hq2
        obtain ⟨hY2, ho2, hD2⟩ := hq2
        have hD2 : Dd Y2 B N T q2.1 (stT B q2.2) := hD2
        have hf2 := hD2.2.2.2.2.1
        refine J_aload_n (i := 0) d_D_readProduct_46 rfl rfl ?_
        refine M_getI (b := T) d_D_readProduct_47 f_D_34 rfl rfl hD2.1.2.2 ?_
        refine J_iload_n (i := 3) d_D_readProduct_50 rfl rfl ?_
        refine J_iconst (v := nI 0) d_D_readProduct_51 rfl ?_
        obtain ⟨cd3, hcd3, hce3⟩ := hD2.2.2.2.2.2.2
        refine CV_N (av := [.int (nI (tk_ B j)), .int (nI 0)]) d_D_readProduct_52 s_D_136 (M_rcv hD2.1.2.1 (by decide) rfl) (S_T_write hY2 hD2.1.2.1 hce3 hcd3) (by omega) rfl rfl (Nat.le_of_ble_eq_true rfl) ?_
        have hD3 := wr_Dd (x := 0 * 64 + (tk_ B j)) hD2 hce3 hcd3
        refine J_pop d_D_readProduct_55 rfl ?_
        refine N_iinc (a := i) (c := 1) (L1 := [some (.ref 11), some (.int (nI oo)), some (.int (nI (i + 1))), some (.int (nI (tk_ B j)))]) d_D_readProduct_56 rfl rfl (by decide) rfl ?_
        refine J_goto (tgt := 7) d_D_readProduct_59 (by decide) ?_
        refine J_iload_n (i := 2) d_D_readProduct_7 rfl rfl ?_
        refine J_sipush (v := nI 300) d_D_readProduct_8 rfl ?_
        refine N_icmp_ge (tgt := 62) d_D_readProduct_11 (by decide) (by omega) (by omega) (fun c11_1 => ?_) (fun c11_1 => ?_)
        · refine M_vr d_D_readProduct_62 rfl ?_
          have hop : mulB (tk_ B j) = true := by simp only [mulB, Bool.or_eq_true, decide_eq_true_eq]; omega
          have e : pLoop (tkT B) mulB one cmbA (f + 1) j D = bnd (one (j + 1)) (fun j2 v2 => pLoop (tkT B) mulB one cmbA f j2 (cmbA (tk_ B j) D v2)) := by show (if mulB (tk_ B j) then _ else _) = _; rw [hop]; rfl
          rw [e, hr2] at hR
          have hR2 : R = .inl q2 := hR.symm
          exact kq _ (by rw [hR2]; exact ⟨(wr_Ok hY2 hD2.1.2.1), (offL_t (offL_t (offL_t ho (ad_off (j := j))) ho2) wr_off), hD3⟩)
        · refine J_aload_n (i := 0) d_D_readProduct_14 rfl rfl ?_
          refine M_get (x := (nI 47)) d_D_readProduct_15 f_D_32 rfl rfl hD3.2.2.1 ?_
          refine J_bipush (v := nI 38) d_D_readProduct_18 rfl ?_
          refine N_icmp_eq (tgt := 32) d_D_readProduct_20 (by decide) (by omega) (by omega) (fun c20_1 => absurd c20_1 (by decide)) (fun c20_1 => ?_)
          refine J_aload_n (i := 0) d_D_readProduct_23 rfl rfl ?_
          refine M_get (x := (nI 47)) d_D_readProduct_24 f_D_32 rfl rfl hD3.2.2.1 ?_
          refine J_bipush (v := nI 39) d_D_readProduct_27 rfl ?_
          refine N_icmp_ne (tgt := 62) d_D_readProduct_29 (by decide) (by omega) (by omega) (fun c29 => ?_) (fun c29 => absurd c29 (by decide))
          refine M_vr d_D_readProduct_62 rfl ?_
          have hop : mulB (tk_ B j) = true := by simp only [mulB, Bool.or_eq_true, decide_eq_true_eq]; omega
          have e : pLoop (tkT B) mulB one cmbA (f + 1) j D = bnd (one (j + 1)) (fun j2 v2 => pLoop (tkT B) mulB one cmbA f j2 (cmbA (tk_ B j) D v2)) := by show (if mulB (tk_ B j) then _ else _) = _; rw [hop]; rfl
          rw [e, hr2] at hR
          have hR2 : R = .inl q2 := hR.symm
          exact kq _ (by rw [hR2]; exact ⟨(wr_Ok hY2 hD2.1.2.1), (offL_t (offL_t (offL_t ho (ad_off (j := j))) ho2) wr_off), hD3⟩)
      · rw [hr2] at hq2
        obtain ⟨hY2, ho2, c2, hL2, la2, lb2, lc2, hcl2, hG2⟩ := hq2
        have hN2 := hL2.2.1
        have hlt2 := tk_lt B q2.1
        have hjl2 := Lv_N hL2
        refine J_aload_n (i := 0) d_D_readProduct_46 rfl rfl ?_
        refine M_getI (b := T) d_D_readProduct_47 f_D_34 rfl rfl hL2.1.2.2 ?_
        refine J_iload_n (i := 3) d_D_readProduct_50 rfl rfl ?_
        refine J_iconst (v := nI 0) d_D_readProduct_51 rfl ?_
        refine CV_N (av := [.int (nI (tk_ B j)), .int (nI 0)]) d_D_readProduct_52 s_D_136 (M_rcv hL2.1.2.1 (by decide) rfl) (S_T_write hY2 hL2.1.2.1 hL2.2.2.2.2.2.2.1 hL2.2.2.2.2.2.2.2.1) (by omega) rfl rfl (Nat.le_of_ble_eq_true rfl) ?_
        obtain ⟨hL3, hw3⟩ := wr_Lv (x := 0 * 64 + (tk_ B j)) hL2 (show c2 < 300 by omega)
        rw [show min c2 299 = c2 by omega]
        refine J_pop d_D_readProduct_55 rfl ?_
        refine N_iinc (a := i) (c := 1) (L1 := [some (.ref 11), some (.int (nI oo)), some (.int (nI (i + 1))), some (.int (nI (tk_ B j)))]) d_D_readProduct_56 rfl rfl (by decide) rfl ?_
        refine J_goto (tgt := 7) d_D_readProduct_59 (by decide) ?_
        have hop : mulB (tk_ B j) = true := by simp only [mulB, Bool.or_eq_true, decide_eq_true_eq]; omega
        have e : pLoop (tkT B) mulB one cmbA (f + 1) j D = bnd (one (j + 1)) (fun j2 v2 => pLoop (tkT B) mulB one cmbA f j2 (cmbA (tk_ B j) D v2)) := by show (if mulB (tk_ B j) then _ else _) = _; rw [hop]; rfl
        rw [e, hr2] at hR
        have hR2 : pLoop (tkT B) mulB one cmbA f q2.1 (cmbA (tk_ B j) D q2.2) = R := hR
        have hw := wr_cell (x := 0 * 64 + tk_ B j) (c := c2) hY2 hkT (by omega)
        refine ih (i + 1) (wrX Y2 T c2 (0 * 64 + (tk_ B j))) _ _ _ _ (by omega) (wr_Ok hY2 hL2.1.2.1) (offL_t (offL_t (offL_t ho (ad_off (j := j))) ho2) wr_off) hL3 (by omega) (by omega) (by omega) (fun p hp => ?_) ?_ hR2
        · exact (hw.1 p (by omega)).trans ((hcl2 p (by omega)).trans (hcl p hp))
        · refine GC_bin hG hG2 hc0 (by omega) (fun p h1 h2 => ?_) (fun p h1 h2 => hw.1 p h2) hw.2 (by omega)
          exact (hw.1 p (by omega)).trans (hcl2 p (by omega))
    · refine J_aload_n (i := 0) d_D_readProduct_23 rfl rfl ?_
      refine M_get (x := (nI (tk_ B j))) d_D_readProduct_24 f_D_32 rfl rfl hL.2.2.2.1 ?_
      refine J_bipush (v := nI 39) d_D_readProduct_27 rfl ?_
      refine N_icmp_ne (tgt := 62) d_D_readProduct_29 (by decide) (by omega) (by omega) (fun c29 => ?_) (fun c29 => ?_)
      · refine M_vr d_D_readProduct_62 rfl ?_
        have hop : mulB (tk_ B j) = false := fls (fun z => by simp only [mulB, Bool.or_eq_true, decide_eq_true_eq] at z; omega)
        have e : pLoop (tkT B) mulB one cmbA (f + 1) j D = .inr (j, D) := by show (if mulB (tk_ B j) then _ else _) = _; rw [hop]; rfl
        rw [e] at hR
        exact kq Y (by rw [← hR]; exact ⟨hY, ho, c, hL, by omega, hj0, hc0, hcl, hG⟩)
      · refine J_aload_n (i := 0) d_D_readProduct_32 rfl rfl ?_
        refine M_get (x := (nI (tk_ B j))) d_D_readProduct_33 f_D_32 rfl rfl hL.2.2.2.1 ?_
        refine J_istore_n (i := 3) (L1 := [some (.ref 11), some (.int (nI oo)), some (.int (nI i)), some (.int (nI (tk_ B j)))]) d_D_readProduct_36 rfl (by decide) rfl ?_
        refine J_aload_n (i := 0) d_D_readProduct_37 rfl rfl ?_
        refine CV_V (av := []) d_D_readProduct_38 s_D_54 (M_rcv rfl (by decide) rfl) (S_D_advance hY hL (show tk_ B j ≠ 46 by omega)) (by omega) rfl rfl (Nat.le_of_ble_eq_true rfl) ?_
        have hL1 := ad_Lv hL (show tk_ B j ≠ 46 by omega)
        refine J_aload_n (i := 0) d_D_readProduct_41 rfl rfl ?_
        refine J_iload_n (i := 1) d_D_readProduct_42 rfl rfl ?_
        refine M_callV (av := [.int (nI oo)]) d_D_readProduct_43 s_D_139 (M_rcv rfl (by decide) rfl) (hOne _ _ _ (ad_Ok hY) hL1 (by omega)) (by omega) rfl rfl (Nat.le_of_ble_eq_true rfl) (fun r2 Y2 hq2 => ?_)
        obtain ⟨rfl, hq2⟩ := hq2
        rcases hr2 : one (j + 1) with q2 | q2
        · rw [hr2] at hq2
          obtain ⟨hY2, ho2, hD2⟩ := hq2
          have hD2 : Dd Y2 B N T q2.1 (stT B q2.2) := hD2
          have hf2 := hD2.2.2.2.2.1
          refine J_aload_n (i := 0) d_D_readProduct_46 rfl rfl ?_
          refine M_getI (b := T) d_D_readProduct_47 f_D_34 rfl rfl hD2.1.2.2 ?_
          refine J_iload_n (i := 3) d_D_readProduct_50 rfl rfl ?_
          refine J_iconst (v := nI 0) d_D_readProduct_51 rfl ?_
          obtain ⟨cd3, hcd3, hce3⟩ := hD2.2.2.2.2.2.2
          refine CV_N (av := [.int (nI (tk_ B j)), .int (nI 0)]) d_D_readProduct_52 s_D_136 (M_rcv hD2.1.2.1 (by decide) rfl) (S_T_write hY2 hD2.1.2.1 hce3 hcd3) (by omega) rfl rfl (Nat.le_of_ble_eq_true rfl) ?_
          have hD3 := wr_Dd (x := 0 * 64 + (tk_ B j)) hD2 hce3 hcd3
          refine J_pop d_D_readProduct_55 rfl ?_
          refine N_iinc (a := i) (c := 1) (L1 := [some (.ref 11), some (.int (nI oo)), some (.int (nI (i + 1))), some (.int (nI (tk_ B j)))]) d_D_readProduct_56 rfl rfl (by decide) rfl ?_
          refine J_goto (tgt := 7) d_D_readProduct_59 (by decide) ?_
          refine J_iload_n (i := 2) d_D_readProduct_7 rfl rfl ?_
          refine J_sipush (v := nI 300) d_D_readProduct_8 rfl ?_
          refine N_icmp_ge (tgt := 62) d_D_readProduct_11 (by decide) (by omega) (by omega) (fun c11_1 => ?_) (fun c11_1 => ?_)
          · refine M_vr d_D_readProduct_62 rfl ?_
            have hop : mulB (tk_ B j) = true := by simp only [mulB, Bool.or_eq_true, decide_eq_true_eq]; omega
            have e : pLoop (tkT B) mulB one cmbA (f + 1) j D = bnd (one (j + 1)) (fun j2 v2 => pLoop (tkT B) mulB one cmbA f j2 (cmbA (tk_ B j) D v2)) := by show (if mulB (tk_ B j) then _ else _) = _; rw [hop]; rfl
            rw [e, hr2] at hR
            have hR2 : R = .inl q2 := hR.symm
            exact kq _ (by rw [hR2]; exact ⟨(wr_Ok hY2 hD2.1.2.1), (offL_t (offL_t (offL_t ho (ad_off (j := j))) ho2) wr_off), hD3⟩)
          · refine J_aload_n (i := 0) d_D_readProduct_14 rfl rfl ?_
            refine M_get (x := (nI 47)) d_D_readProduct_15 f_D_32 rfl rfl hD3.2.2.1 ?_
            refine J_bipush (v := nI 38) d_D_readProduct_18 rfl ?_
            refine N_icmp_eq (tgt := 32) d_D_readProduct_20 (by decide) (by omega) (by omega) (fun c20_1 => absurd c20_1 (by decide)) (fun c20_1 => ?_)
            refine J_aload_n (i := 0) d_D_readProduct_23 rfl rfl ?_
            refine M_get (x := (nI 47)) d_D_readProduct_24 f_D_32 rfl rfl hD3.2.2.1 ?_
            refine J_bipush (v := nI 39) d_D_readProduct_27 rfl ?_
            refine N_icmp_ne (tgt := 62) d_D_readProduct_29 (by decide) (by omega) (by omega) (fun c29_1 => ?_) (fun c29_1 => absurd c29_1 (by decide))
            refine M_vr d_D_readProduct_62 rfl ?_
            have hop : mulB (tk_ B j) = true := by simp only [mulB, Bool.or_eq_true, decide_eq_true_eq]; omega
            have e : pLoop (tkT B) mulB one cmbA (f + 1) j D = bnd (one (j + 1)) (fun j2 v2 => pLoop (tkT B) mulB one cmbA f j2 (cmbA (tk_ B j) D v2)) := by show (if mulB (tk_ B j) then _ else _) = _; rw [hop]; rfl
            rw [e, hr2] at hR
            have hR2 : R = .inl q2 := hR.symm
            exact kq _ (by rw [hR2]; exact ⟨(wr_Ok hY2 hD2.1.2.1), (offL_t (offL_t (offL_t ho (ad_off (j := j))) ho2) wr_off), hD3⟩)
        · rw [hr2] at hq2
          obtain ⟨hY2, ho2, c2, hL2, la2, lb2, lc2, hcl2, hG2⟩ := hq2
          have hN2 := hL2.2.1
          have hlt2 := tk_lt B q2.1
          have hjl2 := Lv_N hL2
          refine J_aload_n (i := 0) d_D_readProduct_46 rfl rfl ?_
          refine M_getI (b := T) d_D_readProduct_47 f_D_34 rfl rfl hL2.1.2.2 ?_
          refine J_iload_n (i := 3) d_D_readProduct_50 rfl rfl ?_
          refine J_iconst (v := nI 0) d_D_readProduct_51 rfl ?_
          refine CV_N (av := [.int (nI (tk_ B j)), .int (nI 0)]) d_D_readProduct_52 s_D_136 (M_rcv hL2.1.2.1 (by decide) rfl) (S_T_write hY2 hL2.1.2.1 hL2.2.2.2.2.2.2.1 hL2.2.2.2.2.2.2.2.1) (by omega) rfl rfl (Nat.le_of_ble_eq_true rfl) ?_
          obtain ⟨hL3, hw3⟩ := wr_Lv (x := 0 * 64 + (tk_ B j)) hL2 (show c2 < 300 by omega)
          rw [show min c2 299 = c2 by omega]
          refine J_pop d_D_readProduct_55 rfl ?_
          refine N_iinc (a := i) (c := 1) (L1 := [some (.ref 11), some (.int (nI oo)), some (.int (nI (i + 1))), some (.int (nI (tk_ B j)))]) d_D_readProduct_56 rfl rfl (by decide) rfl ?_
          refine J_goto (tgt := 7) d_D_readProduct_59 (by decide) ?_
          have hop : mulB (tk_ B j) = true := by simp only [mulB, Bool.or_eq_true, decide_eq_true_eq]; omega
          have e : pLoop (tkT B) mulB one cmbA (f + 1) j D = bnd (one (j + 1)) (fun j2 v2 => pLoop (tkT B) mulB one cmbA f j2 (cmbA (tk_ B j) D v2)) := by show (if mulB (tk_ B j) then _ else _) = _; rw [hop]; rfl
          rw [e, hr2] at hR
          have hR2 : pLoop (tkT B) mulB one cmbA f q2.1 (cmbA (tk_ B j) D q2.2) = R := hR
          have hw := wr_cell (x := 0 * 64 + tk_ B j) (c := c2) hY2 hkT (by omega)
          refine ih (i + 1) (wrX Y2 T c2 (0 * 64 + (tk_ B j))) _ _ _ _ (by omega) (wr_Ok hY2 hL2.1.2.1) (offL_t (offL_t (offL_t ho (ad_off (j := j))) ho2) wr_off) hL3 (by omega) (by omega) (by omega) (fun p hp => ?_) ?_ hR2
          · exact (hw.1 p (by omega)).trans ((hcl2 p (by omega)).trans (hcl p hp))
          · refine GC_bin hG hG2 hc0 (by omega) (fun p h1 h2 => ?_) (fun p h1 h2 => hw.1 p h2) hw.2 (by omega)
            exact (hw.1 p (by omega)).trans (hcl2 p (by omega))
theorem S_D_readProduct {B : Nat → Nat} {N T dd oo : Nat} {w : Bool} {one : Nat → PR SVl} (hOne : COne dd oo B N T w one) (hdd : 2 ≤ dd) : CProd (dd + 1) oo B N T w (pProd (tkT B) one) := by
  intro X j c hX hL hcj
  have hkT := hL.1.2.1
  have h300 := hL.1.1.1
  have hjN := hL.2.1
  have hlt := tk_lt B j
  have hjl := Lv_N hL
  refine CM_of (L := [some (.ref 11), some (.int (nI oo)), none, none]) 2 ok_D_readProduct (fun _ => Nat.le_of_ble_eq_true rfl) rfl ?_
  refine J_aload_n (i := 0) d_D_readProduct_0 rfl rfl ?_
  refine J_iload_n (i := 1) d_D_readProduct_1 rfl rfl ?_
  refine M_callV (av := [.int (nI oo)]) d_D_readProduct_2 s_D_139 (M_rcv rfl (by decide) rfl) (hOne _ _ _ hX hL (by omega)) (by omega) rfl rfl (Nat.le_of_ble_eq_true rfl) (fun r1 Y1 hq1 => ?_)
  obtain ⟨rfl, hq1⟩ := hq1
  rcases hr1 : one j with q1 | q1
  · rw [hr1] at hq1
    obtain ⟨hY1, ho1, hD1⟩ := hq1
    have hD1 : Dd Y1 B N T q1.1 (stT B q1.2) := hD1
    have hf1 := hD1.2.2.2.2.1
    refine J_iconst (v := nI 0) d_D_readProduct_5 rfl ?_
    refine J_istore_n (i := 2) (L1 := [some (.ref 11), some (.int (nI oo)), some (.int (nI 0)), none]) d_D_readProduct_6 rfl (by decide) rfl ?_
    refine J_iload_n (i := 2) d_D_readProduct_7 rfl rfl ?_
    refine J_sipush (v := nI 300) d_D_readProduct_8 rfl ?_
    refine N_icmp_ge (tgt := 62) d_D_readProduct_11 (by decide) (by omega) (by omega) (fun c11 => absurd c11 (by decide)) (fun c11 => ?_)
    refine J_aload_n (i := 0) d_D_readProduct_14 rfl rfl ?_
    refine M_get (x := (nI 47)) d_D_readProduct_15 f_D_32 rfl rfl hD1.2.2.1 ?_
    refine J_bipush (v := nI 38) d_D_readProduct_18 rfl ?_
    refine N_icmp_eq (tgt := 32) d_D_readProduct_20 (by decide) (by omega) (by omega) (fun c20 => absurd c20 (by decide)) (fun c20 => ?_)
    refine J_aload_n (i := 0) d_D_readProduct_23 rfl rfl ?_
    refine M_get (x := (nI 47)) d_D_readProduct_24 f_D_32 rfl rfl hD1.2.2.1 ?_
    refine J_bipush (v := nI 39) d_D_readProduct_27 rfl ?_
    refine N_icmp_ne (tgt := 62) d_D_readProduct_29 (by decide) (by omega) (by omega) (fun c29 => ?_) (fun c29 => absurd c29 (by decide))
    refine M_vr d_D_readProduct_62 rfl ?_
    have e : pProd (tkT B) one j = .inl q1 := by rw [pProd, hr1]; rfl
    rw [e]
    exact ⟨rfl, hY1, (offL_t (offL_0 T X) ho1), hD1⟩
  · rw [hr1] at hq1
    obtain ⟨hY1, ho1, c1, hL1, la1, lb1, lc1, hcl1, hG1⟩ := hq1
    have hN1 := hL1.2.1
    have hlt1 := tk_lt B q1.1
    have hjl1 := Lv_N hL1
    refine J_iconst (v := nI 0) d_D_readProduct_5 rfl ?_
    refine J_istore_n (i := 2) (L1 := [some (.ref 11), some (.int (nI oo)), some (.int (nI 0)), none]) d_D_readProduct_6 rfl (by decide) rfl ?_
    have e : pProd (tkT B) one j = pLoop (tkT B) mulB one cmbA 300 q1.1 q1.2 := by rw [pProd, hr1]; rfl
    rw [e]
    exact lp_D_readProduct hOne hdd hcj (fun Z hZ => ⟨rfl, hZ⟩) 300 0 Y1 q1.1 c1 q1.2 _ rfl hY1 (offL_t (offL_0 T X) ho1) hL1 la1 lb1 lc1 hcl1 hG1 rfl

theorem lp_D_readSum {X : Mem} {B : Nat → Nat} {N T j0 c0 dd oo : Nat} {w : Bool} {one : Nat → PR SVl} {R : PR SVl} {Q : Option Value → Mem → Prop} (hOne : CProd dd oo B N T w one) (hdd : 2 ≤ dd) (hcj : c0 ≤ j0) (kq : ∀ Z, Out X B N T j0 c0 w (GdC T w) R Z → Q none Z) : ∀ (f i : Nat) (Y : Mem) (j c : Nat) (D : SVl) (z3 : Option Value), i + f = 300 → Ok Y → offL T X Y → Lv Y B N T j c w → c + j0 ≤ c0 + j → (hj0 : j0 < j) → (hc0 : c0 ≤ c) → (hcl : ∀ p, p < c0 → (Y.2.1 (T + 1)).getD p 0 = (X.2.1 (T + 1)).getD p 0) → GdC T w Y c0 c D → pLoop (tkT B) addB one cmbA f j D = R → JM (dd + 1) m_D_readSum Q 7 [some (.ref 11), some (.int (nI oo)), some (.int (nI i)), z3] [] Y := by
  intro f
  induction f with
  | zero =>
    intro i Y j c D z3 hi hY ho hL hcc hj0 hc0 hcl hG hR
    obtain rfl : i = 300 := by omega
    refine J_iload_n (i := 2) d_D_readSum_7 rfl rfl ?_
    refine J_sipush (v := nI 300) d_D_readSum_8 rfl ?_
    refine N_icmp_ge (tgt := 62) d_D_readSum_11 (by decide) (by omega) (by omega) (fun c11 => ?_) (fun c11 => absurd c11 (by omega))
    refine M_vr d_D_readSum_62 rfl ?_
    exact kq Y (by rw [← hR]; exact ⟨hY, ho, c, hL, by omega, hj0, hc0, hcl, hG⟩)
  | succ f ih =>
    intro i Y j c D z3 hi hY ho hL hcc hj0 hc0 hcl hG hR
    have hkT := hL.1.2.1
    have h300 := hL.1.1.1
    have hjN := hL.2.1
    have hlt := tk_lt B j
    have hjl := Lv_N hL
    refine J_iload_n (i := 2) d_D_readSum_7 rfl rfl ?_
    refine J_sipush (v := nI 300) d_D_readSum_8 rfl ?_
    refine N_icmp_ge (tgt := 62) d_D_readSum_11 (by decide) (by omega) (by omega) (fun c11 => absurd c11 (by omega)) (fun c11 => ?_)
    refine J_aload_n (i := 0) d_D_readSum_14 rfl rfl ?_
    refine M_get (x := (nI (tk_ B j))) d_D_readSum_15 f_D_32 rfl rfl hL.2.2.2.1 ?_
    refine J_bipush (v := nI 36) d_D_readSum_18 rfl ?_
    refine N_icmp_eq (tgt := 32) d_D_readSum_20 (by decide) (by omega) (by omega) (fun c20 => ?_) (fun c20 => ?_)
    · refine J_aload_n (i := 0) d_D_readSum_32 rfl rfl ?_
      refine M_get (x := (nI (tk_ B j))) d_D_readSum_33 f_D_32 rfl rfl hL.2.2.2.1 ?_
      refine J_istore_n (i := 3) (L1 := [some (.ref 11), some (.int (nI oo)), some (.int (nI i)), some (.int (nI (tk_ B j)))]) d_D_readSum_36 rfl (by decide) rfl ?_
      refine J_aload_n (i := 0) d_D_readSum_37 rfl rfl ?_
      refine CV_V (av := []) d_D_readSum_38 s_D_54 (M_rcv rfl (by decide) rfl) (S_D_advance hY hL (show tk_ B j ≠ 46 by omega)) (by omega) rfl rfl (Nat.le_of_ble_eq_true rfl) ?_
      have hL1 := ad_Lv hL (show tk_ B j ≠ 46 by omega)
      refine J_aload_n (i := 0) d_D_readSum_41 rfl rfl ?_
      refine J_iload_n (i := 1) d_D_readSum_42 rfl rfl ?_
      refine M_callV (av := [.int (nI oo)]) d_D_readSum_43 s_D_133 (M_rcv rfl (by decide) rfl) (hOne _ _ _ (ad_Ok hY) hL1 (by omega)) (by omega) rfl rfl (Nat.le_of_ble_eq_true rfl) (fun r2 Y2 hq2 => ?_)
      obtain ⟨rfl, hq2⟩ := hq2
      rcases hr2 : one (j + 1) with q2 | q2
      · rw [hr2] at hq2
        obtain ⟨hY2, ho2, hD2⟩ := hq2
        have hD2 : Dd Y2 B N T q2.1 (stT B q2.2) := hD2
        have hf2 := hD2.2.2.2.2.1
        refine J_aload_n (i := 0) d_D_readSum_46 rfl rfl ?_
        refine M_getI (b := T) d_D_readSum_47 f_D_34 rfl rfl hD2.1.2.2 ?_
        refine J_iload_n (i := 3) d_D_readSum_50 rfl rfl ?_
        refine J_iconst (v := nI 0) d_D_readSum_51 rfl ?_
        obtain ⟨cd3, hcd3, hce3⟩ := hD2.2.2.2.2.2.2
        refine CV_N (av := [.int (nI (tk_ B j)), .int (nI 0)]) d_D_readSum_52 s_D_136 (M_rcv hD2.1.2.1 (by decide) rfl) (S_T_write hY2 hD2.1.2.1 hce3 hcd3) (by omega) rfl rfl (Nat.le_of_ble_eq_true rfl) ?_
        have hD3 := wr_Dd (x := 0 * 64 + (tk_ B j)) hD2 hce3 hcd3
        refine J_pop d_D_readSum_55 rfl ?_
        refine N_iinc (a := i) (c := 1) (L1 := [some (.ref 11), some (.int (nI oo)), some (.int (nI (i + 1))), some (.int (nI (tk_ B j)))]) d_D_readSum_56 rfl rfl (by decide) rfl ?_
        refine J_goto (tgt := 7) d_D_readSum_59 (by decide) ?_
        refine J_iload_n (i := 2) d_D_readSum_7 rfl rfl ?_
        refine J_sipush (v := nI 300) d_D_readSum_8 rfl ?_
        refine N_icmp_ge (tgt := 62) d_D_readSum_11 (by decide) (by omega) (by omega) (fun c11_1 => ?_) (fun c11_1 => ?_)
        · refine M_vr d_D_readSum_62 rfl ?_
          have hop : addB (tk_ B j) = true := by simp only [addB, Bool.or_eq_true, decide_eq_true_eq]; omega
          have e : pLoop (tkT B) addB one cmbA (f + 1) j D = bnd (one (j + 1)) (fun j2 v2 => pLoop (tkT B) addB one cmbA f j2 (cmbA (tk_ B j) D v2)) := by show (if addB (tk_ B j) then _ else _) = _; rw [hop]; rfl
          rw [e, hr2] at hR
          have hR2 : R = .inl q2 := hR.symm
          exact kq _ (by rw [hR2]; exact ⟨(wr_Ok hY2 hD2.1.2.1), (offL_t (offL_t (offL_t ho (ad_off (j := j))) ho2) wr_off), hD3⟩)
        · refine J_aload_n (i := 0) d_D_readSum_14 rfl rfl ?_
          refine M_get (x := (nI 47)) d_D_readSum_15 f_D_32 rfl rfl hD3.2.2.1 ?_
          refine J_bipush (v := nI 36) d_D_readSum_18 rfl ?_
          refine N_icmp_eq (tgt := 32) d_D_readSum_20 (by decide) (by omega) (by omega) (fun c20_1 => absurd c20_1 (by decide)) (fun c20_1 => ?_)
          refine J_aload_n (i := 0) d_D_readSum_23 rfl rfl ?_
          refine M_get (x := (nI 47)) d_D_readSum_24 f_D_32 rfl rfl hD3.2.2.1 ?_
          refine J_bipush (v := nI 37) d_D_readSum_27 rfl ?_
          refine N_icmp_ne (tgt := 62) d_D_readSum_29 (by decide) (by omega) (by omega) (fun c29 => ?_) (fun c29 => absurd c29 (by decide))
          refine M_vr d_D_readSum_62 rfl ?_
          have hop : addB (tk_ B j) = true := by simp only [addB, Bool.or_eq_true, decide_eq_true_eq]; omega
          have e : pLoop (tkT B) addB one cmbA (f + 1) j D = bnd (one (j + 1)) (fun j2 v2 => pLoop (tkT B) addB one cmbA f j2 (cmbA (tk_ B j) D v2)) := by show (if addB (tk_ B j) then _ else _) = _; rw [hop]; rfl
          rw [e, hr2] at hR
          have hR2 : R = .inl q2 := hR.symm
          exact kq _ (by rw [hR2]; exact ⟨(wr_Ok hY2 hD2.1.2.1), (offL_t (offL_t (offL_t ho (ad_off (j := j))) ho2) wr_off), hD3⟩)
      · rw [hr2] at hq2
        obtain ⟨hY2, ho2, c2, hL2, la2, lb2, lc2, hcl2, hG2⟩ := hq2
        have hN2 := hL2.2.1
        have hlt2 := tk_lt B q2.1
        have hjl2 := Lv_N hL2
        refine J_aload_n (i := 0) d_D_readSum_46 rfl rfl ?_
        refine M_getI (b := T) d_D_readSum_47 f_D_34 rfl rfl hL2.1.2.2 ?_
        refine J_iload_n (i := 3) d_D_readSum_50 rfl rfl ?_
        refine J_iconst (v := nI 0) d_D_readSum_51 rfl ?_
        refine CV_N (av := [.int (nI (tk_ B j)), .int (nI 0)]) d_D_readSum_52 s_D_136 (M_rcv hL2.1.2.1 (by decide) rfl) (S_T_write hY2 hL2.1.2.1 hL2.2.2.2.2.2.2.1 hL2.2.2.2.2.2.2.2.1) (by omega) rfl rfl (Nat.le_of_ble_eq_true rfl) ?_
        obtain ⟨hL3, hw3⟩ := wr_Lv (x := 0 * 64 + (tk_ B j)) hL2 (show c2 < 300 by omega)
        rw [show min c2 299 = c2 by omega]
        refine J_pop d_D_readSum_55 rfl ?_
        refine N_iinc (a := i) (c := 1) (L1 := [some (.ref 11), some (.int (nI oo)), some (.int (nI (i + 1))), some (.int (nI (tk_ B j)))]) d_D_readSum_56 rfl rfl (by decide) rfl ?_
        refine J_goto (tgt := 7) d_D_readSum_59 (by decide) ?_
        have hop : addB (tk_ B j) = true := by simp only [addB, Bool.or_eq_true, decide_eq_true_eq]; omega
        have e : pLoop (tkT B) addB one cmbA (f + 1) j D = bnd (one (j + 1)) (fun j2 v2 => pLoop (tkT B) addB one cmbA f j2 (cmbA (tk_ B j) D v2)) := by show (if addB (tk_ B j) then _ else _) = _; rw [hop]; rfl
        rw [e, hr2] at hR
        have hR2 : pLoop (tkT B) addB one cmbA f q2.1 (cmbA (tk_ B j) D q2.2) = R := hR
        have hw := wr_cell (x := 0 * 64 + tk_ B j) (c := c2) hY2 hkT (by omega)
        refine ih (i + 1) (wrX Y2 T c2 (0 * 64 + (tk_ B j))) _ _ _ _ (by omega) (wr_Ok hY2 hL2.1.2.1) (offL_t (offL_t (offL_t ho (ad_off (j := j))) ho2) wr_off) hL3 (by omega) (by omega) (by omega) (fun p hp => ?_) ?_ hR2
        · exact (hw.1 p (by omega)).trans ((hcl2 p (by omega)).trans (hcl p hp))
        · refine GC_bin hG hG2 hc0 (by omega) (fun p h1 h2 => ?_) (fun p h1 h2 => hw.1 p h2) hw.2 (by omega)
          exact (hw.1 p (by omega)).trans (hcl2 p (by omega))
    · refine J_aload_n (i := 0) d_D_readSum_23 rfl rfl ?_
      refine M_get (x := (nI (tk_ B j))) d_D_readSum_24 f_D_32 rfl rfl hL.2.2.2.1 ?_
      refine J_bipush (v := nI 37) d_D_readSum_27 rfl ?_
      refine N_icmp_ne (tgt := 62) d_D_readSum_29 (by decide) (by omega) (by omega) (fun c29 => ?_) (fun c29 => ?_)
      · refine M_vr d_D_readSum_62 rfl ?_
        have hop : addB (tk_ B j) = false := fls (fun z => by simp only [addB, Bool.or_eq_true, decide_eq_true_eq] at z; omega)
        have e : pLoop (tkT B) addB one cmbA (f + 1) j D = .inr (j, D) := by show (if addB (tk_ B j) then _ else _) = _; rw [hop]; rfl
        rw [e] at hR
        exact kq Y (by rw [← hR]; exact ⟨hY, ho, c, hL, by omega, hj0, hc0, hcl, hG⟩)
      · refine J_aload_n (i := 0) d_D_readSum_32 rfl rfl ?_
        refine M_get (x := (nI (tk_ B j))) d_D_readSum_33 f_D_32 rfl rfl hL.2.2.2.1 ?_
        refine J_istore_n (i := 3) (L1 := [some (.ref 11), some (.int (nI oo)), some (.int (nI i)), some (.int (nI (tk_ B j)))]) d_D_readSum_36 rfl (by decide) rfl ?_
        refine J_aload_n (i := 0) d_D_readSum_37 rfl rfl ?_
        refine CV_V (av := []) d_D_readSum_38 s_D_54 (M_rcv rfl (by decide) rfl) (S_D_advance hY hL (show tk_ B j ≠ 46 by omega)) (by omega) rfl rfl (Nat.le_of_ble_eq_true rfl) ?_
        have hL1 := ad_Lv hL (show tk_ B j ≠ 46 by omega)
        refine J_aload_n (i := 0) d_D_readSum_41 rfl rfl ?_
        refine J_iload_n (i := 1) d_D_readSum_42 rfl rfl ?_
        refine M_callV (av := [.int (nI oo)]) d_D_readSum_43 s_D_133 (M_rcv rfl (by decide) rfl) (hOne _ _ _ (ad_Ok hY) hL1 (by omega)) (by omega) rfl rfl (Nat.le_of_ble_eq_true rfl) (fun r2 Y2 hq2 => ?_)
        obtain ⟨rfl, hq2⟩ := hq2
        rcases hr2 : one (j + 1) with q2 | q2
        · rw [hr2] at hq2
          obtain ⟨hY2, ho2, hD2⟩ := hq2
          have hD2 : Dd Y2 B N T q2.1 (stT B q2.2) := hD2
          have hf2 := hD2.2.2.2.2.1
          refine J_aload_n (i := 0) d_D_readSum_46 rfl rfl ?_
          refine M_getI (b := T) d_D_readSum_47 f_D_34 rfl rfl hD2.1.2.2 ?_
          refine J_iload_n (i := 3) d_D_readSum_50 rfl rfl ?_
          refine J_iconst (v := nI 0) d_D_readSum_51 rfl ?_
          obtain ⟨cd3, hcd3, hce3⟩ := hD2.2.2.2.2.2.2
          refine CV_N (av := [.int (nI (tk_ B j)), .int (nI 0)]) d_D_readSum_52 s_D_136 (M_rcv hD2.1.2.1 (by decide) rfl) (S_T_write hY2 hD2.1.2.1 hce3 hcd3) (by omega) rfl rfl (Nat.le_of_ble_eq_true rfl) ?_
          have hD3 := wr_Dd (x := 0 * 64 + (tk_ B j)) hD2 hce3 hcd3
          refine J_pop d_D_readSum_55 rfl ?_
          refine N_iinc (a := i) (c := 1) (L1 := [some (.ref 11), some (.int (nI oo)), some (.int (nI (i + 1))), some (.int (nI (tk_ B j)))]) d_D_readSum_56 rfl rfl (by decide) rfl ?_
          refine J_goto (tgt := 7) d_D_readSum_59 (by decide) ?_
          refine J_iload_n (i := 2) d_D_readSum_7 rfl rfl ?_
          refine J_sipush (v := nI 300) d_D_readSum_8 rfl ?_
          refine N_icmp_ge (tgt := 62) d_D_readSum_11 (by decide) (by omega) (by omega) (fun c11_1 => ?_) (fun c11_1 => ?_)
          · refine M_vr d_D_readSum_62 rfl ?_
            have hop : addB (tk_ B j) = true := by simp only [addB, Bool.or_eq_true, decide_eq_true_eq]; omega
            have e : pLoop (tkT B) addB one cmbA (f + 1) j D = bnd (one (j + 1)) (fun j2 v2 => pLoop (tkT B) addB one cmbA f j2 (cmbA (tk_ B j) D v2)) := by show (if addB (tk_ B j) then _ else _) = _; rw [hop]; rfl
            rw [e, hr2] at hR
            have hR2 : R = .inl q2 := hR.symm
            exact kq _ (by rw [hR2]; exact ⟨(wr_Ok hY2 hD2.1.2.1), (offL_t (offL_t (offL_t ho (ad_off (j := j))) ho2) wr_off), hD3⟩)
          · refine J_aload_n (i := 0) d_D_readSum_14 rfl rfl ?_
            refine M_get (x := (nI 47)) d_D_readSum_15 f_D_32 rfl rfl hD3.2.2.1 ?_
            refine J_bipush (v := nI 36) d_D_readSum_18 rfl ?_
            refine N_icmp_eq (tgt := 32) d_D_readSum_20 (by decide) (by omega) (by omega) (fun c20_1 => absurd c20_1 (by decide)) (fun c20_1 => ?_)
            refine J_aload_n (i := 0) d_D_readSum_23 rfl rfl ?_
            refine M_get (x := (nI 47)) d_D_readSum_24 f_D_32 rfl rfl hD3.2.2.1 ?_
            refine J_bipush (v := nI 37) d_D_readSum_27 rfl ?_
            refine N_icmp_ne (tgt := 62) d_D_readSum_29 (by decide) (by omega) (by omega) (fun c29_1 => ?_) (fun c29_1 => absurd c29_1 (by decide))
            refine M_vr d_D_readSum_62 rfl ?_
            have hop : addB (tk_ B j) = true := by simp only [addB, Bool.or_eq_true, decide_eq_true_eq]; omega
            have e : pLoop (tkT B) addB one cmbA (f + 1) j D = bnd (one (j + 1)) (fun j2 v2 => pLoop (tkT B) addB one cmbA f j2 (cmbA (tk_ B j) D v2)) := by show (if addB (tk_ B j) then _ else _) = _; rw [hop]; rfl
            rw [e, hr2] at hR
            have hR2 : R = .inl q2 := hR.symm
            exact kq _ (by rw [hR2]; exact ⟨(wr_Ok hY2 hD2.1.2.1), (offL_t (offL_t (offL_t ho (ad_off (j := j))) ho2) wr_off), hD3⟩)
        · rw [hr2] at hq2
          obtain ⟨hY2, ho2, c2, hL2, la2, lb2, lc2, hcl2, hG2⟩ := hq2
          have hN2 := hL2.2.1
          have hlt2 := tk_lt B q2.1
          have hjl2 := Lv_N hL2
          refine J_aload_n (i := 0) d_D_readSum_46 rfl rfl ?_
          refine M_getI (b := T) d_D_readSum_47 f_D_34 rfl rfl hL2.1.2.2 ?_
          refine J_iload_n (i := 3) d_D_readSum_50 rfl rfl ?_
          refine J_iconst (v := nI 0) d_D_readSum_51 rfl ?_
          refine CV_N (av := [.int (nI (tk_ B j)), .int (nI 0)]) d_D_readSum_52 s_D_136 (M_rcv hL2.1.2.1 (by decide) rfl) (S_T_write hY2 hL2.1.2.1 hL2.2.2.2.2.2.2.1 hL2.2.2.2.2.2.2.2.1) (by omega) rfl rfl (Nat.le_of_ble_eq_true rfl) ?_
          obtain ⟨hL3, hw3⟩ := wr_Lv (x := 0 * 64 + (tk_ B j)) hL2 (show c2 < 300 by omega)
          rw [show min c2 299 = c2 by omega]
          refine J_pop d_D_readSum_55 rfl ?_
          refine N_iinc (a := i) (c := 1) (L1 := [some (.ref 11), some (.int (nI oo)), some (.int (nI (i + 1))), some (.int (nI (tk_ B j)))]) d_D_readSum_56 rfl rfl (by decide) rfl ?_
          refine J_goto (tgt := 7) d_D_readSum_59 (by decide) ?_
          have hop : addB (tk_ B j) = true := by simp only [addB, Bool.or_eq_true, decide_eq_true_eq]; omega
          have e : pLoop (tkT B) addB one cmbA (f + 1) j D = bnd (one (j + 1)) (fun j2 v2 => pLoop (tkT B) addB one cmbA f j2 (cmbA (tk_ B j) D v2)) := by show (if addB (tk_ B j) then _ else _) = _; rw [hop]; rfl
          rw [e, hr2] at hR
          have hR2 : pLoop (tkT B) addB one cmbA f q2.1 (cmbA (tk_ B j) D q2.2) = R := hR
          have hw := wr_cell (x := 0 * 64 + tk_ B j) (c := c2) hY2 hkT (by omega)
          refine ih (i + 1) (wrX Y2 T c2 (0 * 64 + (tk_ B j))) _ _ _ _ (by omega) (wr_Ok hY2 hL2.1.2.1) (offL_t (offL_t (offL_t ho (ad_off (j := j))) ho2) wr_off) hL3 (by omega) (by omega) (by omega) (fun p hp => ?_) ?_ hR2
          · exact (hw.1 p (by omega)).trans ((hcl2 p (by omega)).trans (hcl p hp))
          · refine GC_bin hG hG2 hc0 (by omega) (fun p h1 h2 => ?_) (fun p h1 h2 => hw.1 p h2) hw.2 (by omega)
            exact (hw.1 p (by omega)).trans (hcl2 p (by omega))
theorem S_D_readSum {B : Nat → Nat} {N T dd oo : Nat} {w : Bool} {one : Nat → PR SVl} (hOne : CProd dd oo B N T w one) (hdd : 2 ≤ dd) : CSum (dd + 1) oo B N T w (pSumP (tkT B) one) := by
  intro X j c hX hL hcj
  have hkT := hL.1.2.1
  have h300 := hL.1.1.1
  have hjN := hL.2.1
  have hlt := tk_lt B j
  have hjl := Lv_N hL
  refine CM_of (L := [some (.ref 11), some (.int (nI oo)), none, none]) 2 ok_D_readSum (fun _ => Nat.le_of_ble_eq_true rfl) rfl ?_
  refine J_aload_n (i := 0) d_D_readSum_0 rfl rfl ?_
  refine J_iload_n (i := 1) d_D_readSum_1 rfl rfl ?_
  refine M_callV (av := [.int (nI oo)]) d_D_readSum_2 s_D_133 (M_rcv rfl (by decide) rfl) (hOne _ _ _ hX hL (by omega)) (by omega) rfl rfl (Nat.le_of_ble_eq_true rfl) (fun r1 Y1 hq1 => ?_)
  obtain ⟨rfl, hq1⟩ := hq1
  rcases hr1 : one j with q1 | q1
  · rw [hr1] at hq1
    obtain ⟨hY1, ho1, hD1⟩ := hq1
    have hD1 : Dd Y1 B N T q1.1 (stT B q1.2) := hD1
    have hf1 := hD1.2.2.2.2.1
    refine J_iconst (v := nI 0) d_D_readSum_5 rfl ?_
    refine J_istore_n (i := 2) (L1 := [some (.ref 11), some (.int (nI oo)), some (.int (nI 0)), none]) d_D_readSum_6 rfl (by decide) rfl ?_
    refine J_iload_n (i := 2) d_D_readSum_7 rfl rfl ?_
    refine J_sipush (v := nI 300) d_D_readSum_8 rfl ?_
    refine N_icmp_ge (tgt := 62) d_D_readSum_11 (by decide) (by omega) (by omega) (fun c11 => absurd c11 (by decide)) (fun c11 => ?_)
    refine J_aload_n (i := 0) d_D_readSum_14 rfl rfl ?_
    refine M_get (x := (nI 47)) d_D_readSum_15 f_D_32 rfl rfl hD1.2.2.1 ?_
    refine J_bipush (v := nI 36) d_D_readSum_18 rfl ?_
    refine N_icmp_eq (tgt := 32) d_D_readSum_20 (by decide) (by omega) (by omega) (fun c20 => absurd c20 (by decide)) (fun c20 => ?_)
    refine J_aload_n (i := 0) d_D_readSum_23 rfl rfl ?_
    refine M_get (x := (nI 47)) d_D_readSum_24 f_D_32 rfl rfl hD1.2.2.1 ?_
    refine J_bipush (v := nI 37) d_D_readSum_27 rfl ?_
    refine N_icmp_ne (tgt := 62) d_D_readSum_29 (by decide) (by omega) (by omega) (fun c29 => ?_) (fun c29 => absurd c29 (by decide))
    refine M_vr d_D_readSum_62 rfl ?_
    have e : pSumP (tkT B) one j = .inl q1 := by rw [pSumP, hr1]; rfl
    rw [e]
    exact ⟨rfl, hY1, (offL_t (offL_0 T X) ho1), hD1⟩
  · rw [hr1] at hq1
    obtain ⟨hY1, ho1, c1, hL1, la1, lb1, lc1, hcl1, hG1⟩ := hq1
    have hN1 := hL1.2.1
    have hlt1 := tk_lt B q1.1
    have hjl1 := Lv_N hL1
    refine J_iconst (v := nI 0) d_D_readSum_5 rfl ?_
    refine J_istore_n (i := 2) (L1 := [some (.ref 11), some (.int (nI oo)), some (.int (nI 0)), none]) d_D_readSum_6 rfl (by decide) rfl ?_
    have e : pSumP (tkT B) one j = pLoop (tkT B) addB one cmbA 300 q1.1 q1.2 := by rw [pSumP, hr1]; rfl
    rw [e]
    exact lp_D_readSum hOne hdd hcj (fun Z hZ => ⟨rfl, hZ⟩) 300 0 Y1 q1.1 c1 q1.2 _ rfl hY1 (offL_t (offL_0 T X) ho1) hL1 la1 lb1 lc1 hcl1 hG1 rfl

theorem lp_D_readBoth {X : Mem} {B : Nat → Nat} {N T j0 c0 dd oo : Nat} {w : Bool} {one : Nat → PR SBl} {R : PR SBl} {Q : Option Value → Mem → Prop} (hOne : CAsk dd oo B N T w one) (hdd : 2 ≤ dd) (hcj : c0 ≤ j0) (kq : ∀ Z, Out X B N T j0 c0 w (GdB T w) R Z → Q none Z) : ∀ (f i : Nat) (Y : Mem) (j c : Nat) (D : SBl), i + f = 300 → Ok Y → offL T X Y → Lv Y B N T j c w → c + j0 ≤ c0 + j → (hj0 : j0 < j) → (hc0 : c0 ≤ c) → (hcl : ∀ p, p < c0 → (Y.2.1 (T + 1)).getD p 0 = (X.2.1 (T + 1)).getD p 0) → GdB T w Y c0 c D → pLoop (tkT B) andB one (fun _ a b => fun e => a e && b e) f j D = R → JM (dd + 1) m_D_readBoth Q 7 [some (.ref 11), some (.int (nI oo)), some (.int (nI i))] [] Y := by
  intro f
  induction f with
  | zero =>
    intro i Y j c D hi hY ho hL hcc hj0 hc0 hcl hG hR
    obtain rfl : i = 300 := by omega
    refine J_iload_n (i := 2) d_D_readBoth_7 rfl rfl ?_
    refine J_sipush (v := nI 300) d_D_readBoth_8 rfl ?_
    refine N_icmp_ge (tgt := 49) d_D_readBoth_11 (by decide) (by omega) (by omega) (fun c11 => ?_) (fun c11 => absurd c11 (by omega))
    refine M_vr d_D_readBoth_49 rfl ?_
    exact kq Y (by rw [← hR]; exact ⟨hY, ho, c, hL, by omega, hj0, hc0, hcl, hG⟩)
  | succ f ih =>
    intro i Y j c D hi hY ho hL hcc hj0 hc0 hcl hG hR
    have hkT := hL.1.2.1
    have h300 := hL.1.1.1
    have hjN := hL.2.1
    have hlt := tk_lt B j
    have hjl := Lv_N hL
    refine J_iload_n (i := 2) d_D_readBoth_7 rfl rfl ?_
    refine J_sipush (v := nI 300) d_D_readBoth_8 rfl ?_
    refine N_icmp_ge (tgt := 49) d_D_readBoth_11 (by decide) (by omega) (by omega) (fun c11 => absurd c11 (by omega)) (fun c11 => ?_)
    refine J_aload_n (i := 0) d_D_readBoth_14 rfl rfl ?_
    refine M_get (x := (nI (tk_ B j))) d_D_readBoth_15 f_D_32 rfl rfl hL.2.2.2.1 ?_
    refine J_bipush (v := nI 24) d_D_readBoth_18 rfl ?_
    refine N_icmp_ne (tgt := 49) d_D_readBoth_20 (by decide) (by omega) (by omega) (fun c20 => ?_) (fun c20 => ?_)
    · refine M_vr d_D_readBoth_49 rfl ?_
      have hop : andB (tk_ B j) = false := fls (fun z => by simp only [andB, Bool.or_eq_true, decide_eq_true_eq] at z; omega)
      have e : pLoop (tkT B) andB one (fun _ a b => fun e => a e && b e) (f + 1) j D = .inr (j, D) := by show (if andB (tk_ B j) then _ else _) = _; rw [hop]; rfl
      rw [e] at hR
      exact kq Y (by rw [← hR]; exact ⟨hY, ho, c, hL, by omega, hj0, hc0, hcl, hG⟩)
    · refine J_aload_n (i := 0) d_D_readBoth_23 rfl rfl ?_
      refine CV_V (av := []) d_D_readBoth_24 s_D_54 (M_rcv rfl (by decide) rfl) (S_D_advance hY hL (show tk_ B j ≠ 46 by omega)) (by omega) rfl rfl (Nat.le_of_ble_eq_true rfl) ?_
      have hL1 := ad_Lv hL (show tk_ B j ≠ 46 by omega)
      refine J_aload_n (i := 0) d_D_readBoth_27 rfl rfl ?_
      refine J_iload_n (i := 1) d_D_readBoth_28 rfl rfl ?_
      refine M_callV (av := [.int (nI oo)]) d_D_readBoth_29 s_D_160 (M_rcv rfl (by decide) rfl) (hOne _ _ _ (ad_Ok hY) hL1 (by omega)) (by omega) rfl rfl (Nat.le_of_ble_eq_true rfl) (fun r2 Y2 hq2 => ?_)
      obtain ⟨rfl, hq2⟩ := hq2
      rcases hr2 : one (j + 1) with q2 | q2
      · rw [hr2] at hq2
        obtain ⟨hY2, ho2, hD2⟩ := hq2
        have hD2 : Dd Y2 B N T q2.1 (stT B q2.2) := hD2
        have hf2 := hD2.2.2.2.2.1
        refine J_aload_n (i := 0) d_D_readBoth_32 rfl rfl ?_
        refine M_getI (b := T) d_D_readBoth_33 f_D_34 rfl rfl hD2.1.2.2 ?_
        refine J_bipush (v := nI 24) d_D_readBoth_36 rfl ?_
        refine J_iconst (v := nI 0) d_D_readBoth_38 rfl ?_
        obtain ⟨cd3, hcd3, hce3⟩ := hD2.2.2.2.2.2.2
        refine CV_N (av := [.int (nI 24), .int (nI 0)]) d_D_readBoth_39 s_D_136 (M_rcv hD2.1.2.1 (by decide) rfl) (S_T_write hY2 hD2.1.2.1 hce3 hcd3) (by omega) rfl rfl (Nat.le_of_ble_eq_true rfl) ?_
        have hD3 := wr_Dd (x := 0 * 64 + 24) hD2 hce3 hcd3
        refine J_pop d_D_readBoth_42 rfl ?_
        refine N_iinc (a := i) (c := 1) (L1 := [some (.ref 11), some (.int (nI oo)), some (.int (nI (i + 1)))]) d_D_readBoth_43 rfl rfl (by decide) rfl ?_
        refine J_goto (tgt := 7) d_D_readBoth_46 (by decide) ?_
        refine J_iload_n (i := 2) d_D_readBoth_7 rfl rfl ?_
        refine J_sipush (v := nI 300) d_D_readBoth_8 rfl ?_
        refine N_icmp_ge (tgt := 49) d_D_readBoth_11 (by decide) (by omega) (by omega) (fun c11_1 => ?_) (fun c11_1 => ?_)
        · refine M_vr d_D_readBoth_49 rfl ?_
          have hop : andB (tk_ B j) = true := by simp only [andB, Bool.or_eq_true, decide_eq_true_eq]; omega
          have e : pLoop (tkT B) andB one (fun _ a b => fun e => a e && b e) (f + 1) j D = bnd (one (j + 1)) (fun j2 v2 => pLoop (tkT B) andB one (fun _ a b => fun e => a e && b e) f j2 ((fun _ a b => fun e => a e && b e) (tk_ B j) D v2)) := by show (if andB (tk_ B j) then _ else _) = _; rw [hop]; rfl
          rw [e, hr2] at hR
          have hR2 : R = .inl q2 := hR.symm
          exact kq _ (by rw [hR2]; exact ⟨(wr_Ok hY2 hD2.1.2.1), (offL_t (offL_t (offL_t ho (ad_off (j := j))) ho2) wr_off), hD3⟩)
        · refine J_aload_n (i := 0) d_D_readBoth_14 rfl rfl ?_
          refine M_get (x := (nI 47)) d_D_readBoth_15 f_D_32 rfl rfl hD3.2.2.1 ?_
          refine J_bipush (v := nI 24) d_D_readBoth_18 rfl ?_
          refine N_icmp_ne (tgt := 49) d_D_readBoth_20 (by decide) (by omega) (by omega) (fun c20_1 => ?_) (fun c20_1 => absurd c20_1 (by decide))
          refine M_vr d_D_readBoth_49 rfl ?_
          have hop : andB (tk_ B j) = true := by simp only [andB, Bool.or_eq_true, decide_eq_true_eq]; omega
          have e : pLoop (tkT B) andB one (fun _ a b => fun e => a e && b e) (f + 1) j D = bnd (one (j + 1)) (fun j2 v2 => pLoop (tkT B) andB one (fun _ a b => fun e => a e && b e) f j2 ((fun _ a b => fun e => a e && b e) (tk_ B j) D v2)) := by show (if andB (tk_ B j) then _ else _) = _; rw [hop]; rfl
          rw [e, hr2] at hR
          have hR2 : R = .inl q2 := hR.symm
          exact kq _ (by rw [hR2]; exact ⟨(wr_Ok hY2 hD2.1.2.1), (offL_t (offL_t (offL_t ho (ad_off (j := j))) ho2) wr_off), hD3⟩)
      · rw [hr2] at hq2
        obtain ⟨hY2, ho2, c2, hL2, la2, lb2, lc2, hcl2, hG2⟩ := hq2
        have hN2 := hL2.2.1
        have hlt2 := tk_lt B q2.1
        have hjl2 := Lv_N hL2
        refine J_aload_n (i := 0) d_D_readBoth_32 rfl rfl ?_
        refine M_getI (b := T) d_D_readBoth_33 f_D_34 rfl rfl hL2.1.2.2 ?_
        refine J_bipush (v := nI 24) d_D_readBoth_36 rfl ?_
        refine J_iconst (v := nI 0) d_D_readBoth_38 rfl ?_
        refine CV_N (av := [.int (nI 24), .int (nI 0)]) d_D_readBoth_39 s_D_136 (M_rcv hL2.1.2.1 (by decide) rfl) (S_T_write hY2 hL2.1.2.1 hL2.2.2.2.2.2.2.1 hL2.2.2.2.2.2.2.2.1) (by omega) rfl rfl (Nat.le_of_ble_eq_true rfl) ?_
        obtain ⟨hL3, hw3⟩ := wr_Lv (x := 0 * 64 + 24) hL2 (show c2 < 300 by omega)
        rw [show min c2 299 = c2 by omega]
        refine J_pop d_D_readBoth_42 rfl ?_
        refine N_iinc (a := i) (c := 1) (L1 := [some (.ref 11), some (.int (nI oo)), some (.int (nI (i + 1)))]) d_D_readBoth_43 rfl rfl (by decide) rfl ?_
        refine J_goto (tgt := 7) d_D_readBoth_46 (by decide) ?_
        have hop : andB (tk_ B j) = true := by simp only [andB, Bool.or_eq_true, decide_eq_true_eq]; omega
        have e : pLoop (tkT B) andB one (fun _ a b => fun e => a e && b e) (f + 1) j D = bnd (one (j + 1)) (fun j2 v2 => pLoop (tkT B) andB one (fun _ a b => fun e => a e && b e) f j2 ((fun _ a b => fun e => a e && b e) (tk_ B j) D v2)) := by show (if andB (tk_ B j) then _ else _) = _; rw [hop]; rfl
        rw [e, hr2] at hR
        have hR2 : pLoop (tkT B) andB one (fun _ a b => fun e => a e && b e) f q2.1 ((fun _ a b => fun e => a e && b e) (tk_ B j) D q2.2) = R := hR
        have hw := wr_cell (x := 0 * 64 + 24) (c := c2) hY2 hkT (by omega)
        refine ih (i + 1) (wrX Y2 T c2 (0 * 64 + 24)) _ _ _ (by omega) (wr_Ok hY2 hL2.1.2.1) (offL_t (offL_t (offL_t ho (ad_off (j := j))) ho2) wr_off) hL3 (by omega) (by omega) (by omega) (fun p hp => ?_) ?_ hR2
        · exact (hw.1 p (by omega)).trans ((hcl2 p (by omega)).trans (hcl p hp))
        · refine GB_bin (D := fun e => D e && q2.2 e) hG hG2 hc0 (by omega) (fun p h1 h2 => ?_) (fun p h1 h2 => hw.1 p h2) hw.2 (Or.inl ⟨rfl, rfl⟩)
          exact (hw.1 p (by omega)).trans (hcl2 p (by omega))
theorem S_D_readBoth {B : Nat → Nat} {N T dd oo : Nat} {w : Bool} {one : Nat → PR SBl} (hOne : CAsk dd oo B N T w one) (hdd : 2 ≤ dd) : CBoth (dd + 1) oo B N T w (pBoth (tkT B) one) := by
  intro X j c hX hL hcj
  have hkT := hL.1.2.1
  have h300 := hL.1.1.1
  have hjN := hL.2.1
  have hlt := tk_lt B j
  have hjl := Lv_N hL
  refine CM_of (L := [some (.ref 11), some (.int (nI oo)), none]) 1 ok_D_readBoth (fun _ => Nat.le_of_ble_eq_true rfl) rfl ?_
  refine J_aload_n (i := 0) d_D_readBoth_0 rfl rfl ?_
  refine J_iload_n (i := 1) d_D_readBoth_1 rfl rfl ?_
  refine M_callV (av := [.int (nI oo)]) d_D_readBoth_2 s_D_160 (M_rcv rfl (by decide) rfl) (hOne _ _ _ hX hL (by omega)) (by omega) rfl rfl (Nat.le_of_ble_eq_true rfl) (fun r1 Y1 hq1 => ?_)
  obtain ⟨rfl, hq1⟩ := hq1
  rcases hr1 : one j with q1 | q1
  · rw [hr1] at hq1
    obtain ⟨hY1, ho1, hD1⟩ := hq1
    have hD1 : Dd Y1 B N T q1.1 (stT B q1.2) := hD1
    have hf1 := hD1.2.2.2.2.1
    refine J_iconst (v := nI 0) d_D_readBoth_5 rfl ?_
    refine J_istore_n (i := 2) (L1 := [some (.ref 11), some (.int (nI oo)), some (.int (nI 0))]) d_D_readBoth_6 rfl (by decide) rfl ?_
    refine J_iload_n (i := 2) d_D_readBoth_7 rfl rfl ?_
    refine J_sipush (v := nI 300) d_D_readBoth_8 rfl ?_
    refine N_icmp_ge (tgt := 49) d_D_readBoth_11 (by decide) (by omega) (by omega) (fun c11 => absurd c11 (by decide)) (fun c11 => ?_)
    refine J_aload_n (i := 0) d_D_readBoth_14 rfl rfl ?_
    refine M_get (x := (nI 47)) d_D_readBoth_15 f_D_32 rfl rfl hD1.2.2.1 ?_
    refine J_bipush (v := nI 24) d_D_readBoth_18 rfl ?_
    refine N_icmp_ne (tgt := 49) d_D_readBoth_20 (by decide) (by omega) (by omega) (fun c20 => ?_) (fun c20 => absurd c20 (by decide))
    refine M_vr d_D_readBoth_49 rfl ?_
    have e : pBoth (tkT B) one j = .inl q1 := by rw [pBoth, hr1]; rfl
    rw [e]
    exact ⟨rfl, hY1, (offL_t (offL_0 T X) ho1), hD1⟩
  · rw [hr1] at hq1
    obtain ⟨hY1, ho1, c1, hL1, la1, lb1, lc1, hcl1, hG1⟩ := hq1
    have hN1 := hL1.2.1
    have hlt1 := tk_lt B q1.1
    have hjl1 := Lv_N hL1
    refine J_iconst (v := nI 0) d_D_readBoth_5 rfl ?_
    refine J_istore_n (i := 2) (L1 := [some (.ref 11), some (.int (nI oo)), some (.int (nI 0))]) d_D_readBoth_6 rfl (by decide) rfl ?_
    have e : pBoth (tkT B) one j = pLoop (tkT B) andB one (fun _ a b => fun e => a e && b e) 300 q1.1 q1.2 := by rw [pBoth, hr1]; rfl
    rw [e]
    exact lp_D_readBoth hOne hdd hcj (fun Z hZ => ⟨rfl, hZ⟩) 300 0 Y1 q1.1 c1 q1.2 rfl hY1 (offL_t (offL_0 T X) ho1) hL1 la1 lb1 lc1 hcl1 hG1 rfl

theorem lp_D_readEither {X : Mem} {B : Nat → Nat} {N T j0 c0 dd oo : Nat} {w : Bool} {one : Nat → PR SBl} {R : PR SBl} {Q : Option Value → Mem → Prop} (hOne : CBoth dd oo B N T w one) (hdd : 2 ≤ dd) (hcj : c0 ≤ j0) (kq : ∀ Z, Out X B N T j0 c0 w (GdB T w) R Z → Q none Z) : ∀ (f i : Nat) (Y : Mem) (j c : Nat) (D : SBl), i + f = 300 → Ok Y → offL T X Y → Lv Y B N T j c w → c + j0 ≤ c0 + j → (hj0 : j0 < j) → (hc0 : c0 ≤ c) → (hcl : ∀ p, p < c0 → (Y.2.1 (T + 1)).getD p 0 = (X.2.1 (T + 1)).getD p 0) → GdB T w Y c0 c D → pLoop (tkT B) orB one (fun _ a b => fun e => a e || b e) f j D = R → JM (dd + 1) m_D_readEither Q 7 [some (.ref 11), some (.int (nI oo)), some (.int (nI i))] [] Y := by
  intro f
  induction f with
  | zero =>
    intro i Y j c D hi hY ho hL hcc hj0 hc0 hcl hG hR
    obtain rfl : i = 300 := by omega
    refine J_iload_n (i := 2) d_D_readEither_7 rfl rfl ?_
    refine J_sipush (v := nI 300) d_D_readEither_8 rfl ?_
    refine N_icmp_ge (tgt := 49) d_D_readEither_11 (by decide) (by omega) (by omega) (fun c11 => ?_) (fun c11 => absurd c11 (by omega))
    refine M_vr d_D_readEither_49 rfl ?_
    exact kq Y (by rw [← hR]; exact ⟨hY, ho, c, hL, by omega, hj0, hc0, hcl, hG⟩)
  | succ f ih =>
    intro i Y j c D hi hY ho hL hcc hj0 hc0 hcl hG hR
    have hkT := hL.1.2.1
    have h300 := hL.1.1.1
    have hjN := hL.2.1
    have hlt := tk_lt B j
    have hjl := Lv_N hL
    refine J_iload_n (i := 2) d_D_readEither_7 rfl rfl ?_
    refine J_sipush (v := nI 300) d_D_readEither_8 rfl ?_
    refine N_icmp_ge (tgt := 49) d_D_readEither_11 (by decide) (by omega) (by omega) (fun c11 => absurd c11 (by omega)) (fun c11 => ?_)
    refine J_aload_n (i := 0) d_D_readEither_14 rfl rfl ?_
    refine M_get (x := (nI (tk_ B j))) d_D_readEither_15 f_D_32 rfl rfl hL.2.2.2.1 ?_
    refine J_bipush (v := nI 23) d_D_readEither_18 rfl ?_
    refine N_icmp_ne (tgt := 49) d_D_readEither_20 (by decide) (by omega) (by omega) (fun c20 => ?_) (fun c20 => ?_)
    · refine M_vr d_D_readEither_49 rfl ?_
      have hop : orB (tk_ B j) = false := fls (fun z => by simp only [orB, Bool.or_eq_true, decide_eq_true_eq] at z; omega)
      have e : pLoop (tkT B) orB one (fun _ a b => fun e => a e || b e) (f + 1) j D = .inr (j, D) := by show (if orB (tk_ B j) then _ else _) = _; rw [hop]; rfl
      rw [e] at hR
      exact kq Y (by rw [← hR]; exact ⟨hY, ho, c, hL, by omega, hj0, hc0, hcl, hG⟩)
    · refine J_aload_n (i := 0) d_D_readEither_23 rfl rfl ?_
      refine CV_V (av := []) d_D_readEither_24 s_D_54 (M_rcv rfl (by decide) rfl) (S_D_advance hY hL (show tk_ B j ≠ 46 by omega)) (by omega) rfl rfl (Nat.le_of_ble_eq_true rfl) ?_
      have hL1 := ad_Lv hL (show tk_ B j ≠ 46 by omega)
      refine J_aload_n (i := 0) d_D_readEither_27 rfl rfl ?_
      refine J_iload_n (i := 1) d_D_readEither_28 rfl rfl ?_
      refine M_callV (av := [.int (nI oo)]) d_D_readEither_29 s_D_157 (M_rcv rfl (by decide) rfl) (hOne _ _ _ (ad_Ok hY) hL1 (by omega)) (by omega) rfl rfl (Nat.le_of_ble_eq_true rfl) (fun r2 Y2 hq2 => ?_)
      obtain ⟨rfl, hq2⟩ := hq2
      rcases hr2 : one (j + 1) with q2 | q2
      · rw [hr2] at hq2
        obtain ⟨hY2, ho2, hD2⟩ := hq2
        have hD2 : Dd Y2 B N T q2.1 (stT B q2.2) := hD2
        have hf2 := hD2.2.2.2.2.1
        refine J_aload_n (i := 0) d_D_readEither_32 rfl rfl ?_
        refine M_getI (b := T) d_D_readEither_33 f_D_34 rfl rfl hD2.1.2.2 ?_
        refine J_bipush (v := nI 23) d_D_readEither_36 rfl ?_
        refine J_iconst (v := nI 0) d_D_readEither_38 rfl ?_
        obtain ⟨cd3, hcd3, hce3⟩ := hD2.2.2.2.2.2.2
        refine CV_N (av := [.int (nI 23), .int (nI 0)]) d_D_readEither_39 s_D_136 (M_rcv hD2.1.2.1 (by decide) rfl) (S_T_write hY2 hD2.1.2.1 hce3 hcd3) (by omega) rfl rfl (Nat.le_of_ble_eq_true rfl) ?_
        have hD3 := wr_Dd (x := 0 * 64 + 23) hD2 hce3 hcd3
        refine J_pop d_D_readEither_42 rfl ?_
        refine N_iinc (a := i) (c := 1) (L1 := [some (.ref 11), some (.int (nI oo)), some (.int (nI (i + 1)))]) d_D_readEither_43 rfl rfl (by decide) rfl ?_
        refine J_goto (tgt := 7) d_D_readEither_46 (by decide) ?_
        refine J_iload_n (i := 2) d_D_readEither_7 rfl rfl ?_
        refine J_sipush (v := nI 300) d_D_readEither_8 rfl ?_
        refine N_icmp_ge (tgt := 49) d_D_readEither_11 (by decide) (by omega) (by omega) (fun c11_1 => ?_) (fun c11_1 => ?_)
        · refine M_vr d_D_readEither_49 rfl ?_
          have hop : orB (tk_ B j) = true := by simp only [orB, Bool.or_eq_true, decide_eq_true_eq]; omega
          have e : pLoop (tkT B) orB one (fun _ a b => fun e => a e || b e) (f + 1) j D = bnd (one (j + 1)) (fun j2 v2 => pLoop (tkT B) orB one (fun _ a b => fun e => a e || b e) f j2 ((fun _ a b => fun e => a e || b e) (tk_ B j) D v2)) := by show (if orB (tk_ B j) then _ else _) = _; rw [hop]; rfl
          rw [e, hr2] at hR
          have hR2 : R = .inl q2 := hR.symm
          exact kq _ (by rw [hR2]; exact ⟨(wr_Ok hY2 hD2.1.2.1), (offL_t (offL_t (offL_t ho (ad_off (j := j))) ho2) wr_off), hD3⟩)
        · refine J_aload_n (i := 0) d_D_readEither_14 rfl rfl ?_
          refine M_get (x := (nI 47)) d_D_readEither_15 f_D_32 rfl rfl hD3.2.2.1 ?_
          refine J_bipush (v := nI 23) d_D_readEither_18 rfl ?_
          refine N_icmp_ne (tgt := 49) d_D_readEither_20 (by decide) (by omega) (by omega) (fun c20_1 => ?_) (fun c20_1 => absurd c20_1 (by decide))
          refine M_vr d_D_readEither_49 rfl ?_
          have hop : orB (tk_ B j) = true := by simp only [orB, Bool.or_eq_true, decide_eq_true_eq]; omega
          have e : pLoop (tkT B) orB one (fun _ a b => fun e => a e || b e) (f + 1) j D = bnd (one (j + 1)) (fun j2 v2 => pLoop (tkT B) orB one (fun _ a b => fun e => a e || b e) f j2 ((fun _ a b => fun e => a e || b e) (tk_ B j) D v2)) := by show (if orB (tk_ B j) then _ else _) = _; rw [hop]; rfl
          rw [e, hr2] at hR
          have hR2 : R = .inl q2 := hR.symm
          exact kq _ (by rw [hR2]; exact ⟨(wr_Ok hY2 hD2.1.2.1), (offL_t (offL_t (offL_t ho (ad_off (j := j))) ho2) wr_off), hD3⟩)
      · rw [hr2] at hq2
        obtain ⟨hY2, ho2, c2, hL2, la2, lb2, lc2, hcl2, hG2⟩ := hq2
        have hN2 := hL2.2.1
        have hlt2 := tk_lt B q2.1
        have hjl2 := Lv_N hL2
        refine J_aload_n (i := 0) d_D_readEither_32 rfl rfl ?_
        refine M_getI (b := T) d_D_readEither_33 f_D_34 rfl rfl hL2.1.2.2 ?_
        refine J_bipush (v := nI 23) d_D_readEither_36 rfl ?_
        refine J_iconst (v := nI 0) d_D_readEither_38 rfl ?_
        refine CV_N (av := [.int (nI 23), .int (nI 0)]) d_D_readEither_39 s_D_136 (M_rcv hL2.1.2.1 (by decide) rfl) (S_T_write hY2 hL2.1.2.1 hL2.2.2.2.2.2.2.1 hL2.2.2.2.2.2.2.2.1) (by omega) rfl rfl (Nat.le_of_ble_eq_true rfl) ?_
        obtain ⟨hL3, hw3⟩ := wr_Lv (x := 0 * 64 + 23) hL2 (show c2 < 300 by omega)
        rw [show min c2 299 = c2 by omega]
        refine J_pop d_D_readEither_42 rfl ?_
        refine N_iinc (a := i) (c := 1) (L1 := [some (.ref 11), some (.int (nI oo)), some (.int (nI (i + 1)))]) d_D_readEither_43 rfl rfl (by decide) rfl ?_
        refine J_goto (tgt := 7) d_D_readEither_46 (by decide) ?_
        have hop : orB (tk_ B j) = true := by simp only [orB, Bool.or_eq_true, decide_eq_true_eq]; omega
        have e : pLoop (tkT B) orB one (fun _ a b => fun e => a e || b e) (f + 1) j D = bnd (one (j + 1)) (fun j2 v2 => pLoop (tkT B) orB one (fun _ a b => fun e => a e || b e) f j2 ((fun _ a b => fun e => a e || b e) (tk_ B j) D v2)) := by show (if orB (tk_ B j) then _ else _) = _; rw [hop]; rfl
        rw [e, hr2] at hR
        have hR2 : pLoop (tkT B) orB one (fun _ a b => fun e => a e || b e) f q2.1 ((fun _ a b => fun e => a e || b e) (tk_ B j) D q2.2) = R := hR
        have hw := wr_cell (x := 0 * 64 + 23) (c := c2) hY2 hkT (by omega)
        refine ih (i + 1) (wrX Y2 T c2 (0 * 64 + 23)) _ _ _ (by omega) (wr_Ok hY2 hL2.1.2.1) (offL_t (offL_t (offL_t ho (ad_off (j := j))) ho2) wr_off) hL3 (by omega) (by omega) (by omega) (fun p hp => ?_) ?_ hR2
        · exact (hw.1 p (by omega)).trans ((hcl2 p (by omega)).trans (hcl p hp))
        · refine GB_bin (D := fun e => D e || q2.2 e) hG hG2 hc0 (by omega) (fun p h1 h2 => ?_) (fun p h1 h2 => hw.1 p h2) hw.2 (Or.inr ⟨rfl, rfl⟩)
          exact (hw.1 p (by omega)).trans (hcl2 p (by omega))
theorem S_D_readEither {B : Nat → Nat} {N T dd oo : Nat} {w : Bool} {one : Nat → PR SBl} (hOne : CBoth dd oo B N T w one) (hdd : 2 ≤ dd) : CEith (dd + 1) oo B N T w (pEithB (tkT B) one) := by
  intro X j c hX hL hcj
  have hkT := hL.1.2.1
  have h300 := hL.1.1.1
  have hjN := hL.2.1
  have hlt := tk_lt B j
  have hjl := Lv_N hL
  refine CM_of (L := [some (.ref 11), some (.int (nI oo)), none]) 1 ok_D_readEither (fun _ => Nat.le_of_ble_eq_true rfl) rfl ?_
  refine J_aload_n (i := 0) d_D_readEither_0 rfl rfl ?_
  refine J_iload_n (i := 1) d_D_readEither_1 rfl rfl ?_
  refine M_callV (av := [.int (nI oo)]) d_D_readEither_2 s_D_157 (M_rcv rfl (by decide) rfl) (hOne _ _ _ hX hL (by omega)) (by omega) rfl rfl (Nat.le_of_ble_eq_true rfl) (fun r1 Y1 hq1 => ?_)
  obtain ⟨rfl, hq1⟩ := hq1
  rcases hr1 : one j with q1 | q1
  · rw [hr1] at hq1
    obtain ⟨hY1, ho1, hD1⟩ := hq1
    have hD1 : Dd Y1 B N T q1.1 (stT B q1.2) := hD1
    have hf1 := hD1.2.2.2.2.1
    refine J_iconst (v := nI 0) d_D_readEither_5 rfl ?_
    refine J_istore_n (i := 2) (L1 := [some (.ref 11), some (.int (nI oo)), some (.int (nI 0))]) d_D_readEither_6 rfl (by decide) rfl ?_
    refine J_iload_n (i := 2) d_D_readEither_7 rfl rfl ?_
    refine J_sipush (v := nI 300) d_D_readEither_8 rfl ?_
    refine N_icmp_ge (tgt := 49) d_D_readEither_11 (by decide) (by omega) (by omega) (fun c11 => absurd c11 (by decide)) (fun c11 => ?_)
    refine J_aload_n (i := 0) d_D_readEither_14 rfl rfl ?_
    refine M_get (x := (nI 47)) d_D_readEither_15 f_D_32 rfl rfl hD1.2.2.1 ?_
    refine J_bipush (v := nI 23) d_D_readEither_18 rfl ?_
    refine N_icmp_ne (tgt := 49) d_D_readEither_20 (by decide) (by omega) (by omega) (fun c20 => ?_) (fun c20 => absurd c20 (by decide))
    refine M_vr d_D_readEither_49 rfl ?_
    have e : pEithB (tkT B) one j = .inl q1 := by rw [pEithB, hr1]; rfl
    rw [e]
    exact ⟨rfl, hY1, (offL_t (offL_0 T X) ho1), hD1⟩
  · rw [hr1] at hq1
    obtain ⟨hY1, ho1, c1, hL1, la1, lb1, lc1, hcl1, hG1⟩ := hq1
    have hN1 := hL1.2.1
    have hlt1 := tk_lt B q1.1
    have hjl1 := Lv_N hL1
    refine J_iconst (v := nI 0) d_D_readEither_5 rfl ?_
    refine J_istore_n (i := 2) (L1 := [some (.ref 11), some (.int (nI oo)), some (.int (nI 0))]) d_D_readEither_6 rfl (by decide) rfl ?_
    have e : pEithB (tkT B) one j = pLoop (tkT B) orB one (fun _ a b => fun e => a e || b e) 300 q1.1 q1.2 := by rw [pEithB, hr1]; rfl
    rw [e]
    exact lp_D_readEither hOne hdd hcj (fun Z hZ => ⟨rfl, hZ⟩) 300 0 Y1 q1.1 c1 q1.2 rfl hY1 (offL_t (offL_0 T X) ho1) hL1 la1 lb1 lc1 hcl1 hG1 rfl

