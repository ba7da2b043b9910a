def OutS (X : Mem) (B : Nat → Nat) (N T j c : Nat) (w : Bool) (r : PR Nat) (q : Option Value) (Y : Mem) : Prop := ∃ v, q = some (.int (nI v)) ∧ (v < 1048576 ∧ (Ok Y ∧ (offL T X Y ∧ (match r with
  | .inl e => Dd Y B N T e.1 (stT B e.2)
  | .inr e => v = e.2 ∧ Lv Y B N T e.1 c w ∧ j < e.1 ∧ Y.2.1 (T + 1) = X.2.1 (T + 1)))))
def CPart (dd oo : Nat) (B : Nat → Nat) (N T : Nat) (w : Bool) (one : Nat → PR Nat) : Prop := ∀ (X : Mem) (j c : Nat), Ok X → Lv X B N T j c w → CM dd m_D_readPart [.ref 11, .int (nI oo)] X (fun q Y => OutS X B N T j c w (one j) q Y)
def CShp (dd oo : Nat) (B : Nat → Nat) (N T : Nat) (w : Bool) (one : Nat → PR Nat) : Prop := ∀ (X : Mem) (j c : Nat), Ok X → Lv X B N T j c w → CM dd m_D_readShape [.ref 11, .int (nI oo)] X (fun q Y => OutS X B N T j c w (one j) q Y)
def COpp (dd oo : Nat) (B : Nat → Nat) (N T : Nat) (w : Bool) (one : Nat → PR Nat) : Prop := ∀ (X : Mem) (j c : Nat), Ok X → Lv X B N T j c w → (tk_ B j = 13 ∨ tk_ B j = 14 ∨ tk_ B j = 40) → CM dd m_D_readOpenPart [.ref 11, .int (nI oo)] X (fun q Y => OutS X B N T j c w (one j) q Y)
def cmbS (k a b : Nat) : Nat := if k = 15 then a ||| b else andn a b
def pShapeP (T : TS) (one : Nat → PR Nat) (j : Nat) : PR Nat := bnd (one j) (pLoop T wlB one cmbS 300)
theorem pShape_P (T : TS) (one : Nat → PR Nat) : pShape T one = pShapeP T one := rfl
def fOpp (T : TS) (sub : Option ((Nat → PR Nat) × (Nat → PR Nat))) (j : Nat) : PR Nat := match sub with
  | none => .inl (3, j)
  | some s => if T.1 j = 40 then bnd (s.2 (j + 1)) (fun j2 v => bnd (pExp T 41 j2) (fun j3 _ => .inr (j3, v))) else bnd (s.1 (j + 1)) (fun j2 v => .inr (j2, mvs (if T.1 j = 13 then 1 else 4) v))
def fPartB (T : TS) (pp : Nat → PR Nat) (j : Nat) : PR Nat :=
  if T.1 j = 9 then bnd (pNum T 0 19 (j + 1)) (fun j2 x => .inr (j2, 1 <<< x))
  else if T.1 j = 10 then bnd (pNum T 0 2 (j + 1)) (fun j2 x => .inr (j2, 3 <<< (2 * x)))
  else if T.1 j = 11 then bnd (pNum T 0 2 (j + 1)) (fun j2 x => .inr (j2, 9 <<< (6 + x)))
  else if T.1 j = 12 then .inr (j + 1, 2931)
  else if T.1 j = 13 ∨ T.1 j = 14 ∨ T.1 j = 40 then pp j
  else .inl (1, j)
theorem fPart_B (T : TS) (sub : Option (Nat → PR Nat)) : fPart T sub = fPartB T (fOpp T (match sub with
  | none => none
  | some s => some (s, pShape T s))) := by
  refine funext fun j => ?_
  unfold fPart fPartB fOpp
  cases sub <;> rfl
theorem lk_part : ∀ k, k < 48 → (k ≠ 9 ∧ k ≠ 10 ∧ k ≠ 11 ∧ k ≠ 12 ∧ k ≠ 13 ∧ k ≠ 14 ∧ k ≠ 40) → Op.lookupswitch.offset [(9, 66), (10, 80), (11, 95), (12, 112), (13, 120), (14, 120), (40, 120)] 126 (nI k).toInt = 126 := by decide +kernel
theorem shA_lt : ∀ x, x < 20 → 1 <<< x < 1048576 := by decide
theorem shB_lt : ∀ x, x < 3 → 3 <<< (2 * x) < 1048576 ∧ 9 <<< (6 + x) < 1048576 := by decide
theorem wl_t {k : Nat} : wlB k = true ↔ k = 15 ∨ k = 16 := by
  unfold wlB
  simp only [Bool.or_eq_true, decide_eq_true_eq]
theorem S_D_readOpenPart_0 {B : Nat → Nat} {N T : Nat} {w : Bool} : COpp 1 8 B N T w (fOpp (tkT B) none) := by
  intro X j c hX hL hop
  have hkT := hL.1.2.1
  have h300 := hL.1.1.1
  have hjN := hL.2.1
  have hlt := tk_lt B j
  have hjl := Lv_N hL
  refine CM_of (L := [some (.ref 11), some (.int (nI 8)), none, none]) 2 ok_D_readOpenPart (fun _ => Nat.le_of_ble_eq_true rfl) rfl ?_
  refine J_aload_n (i := 0) d_D_readOpenPart_0 rfl rfl ?_
  refine M_get (x := (nI (tk_ B j))) d_D_readOpenPart_1 f_D_32 rfl rfl hL.2.2.2.1 ?_
  refine J_istore_n (i := 2) (L1 := [some (.ref 11), some (.int (nI 8)), some (.int (nI (tk_ B j))), none]) d_D_readOpenPart_4 rfl (by decide) rfl ?_
  refine J_iload_n (i := 1) d_D_readOpenPart_5 rfl rfl ?_
  refine J_bipush (v := nI 8) d_D_readOpenPart_6 rfl ?_
  refine N_icmp_lt (tgt := 18) d_D_readOpenPart_8 (by decide) (by omega) (by omega) (fun c8 => absurd c8 (by decide)) (fun c8 => ?_)
  refine J_aload_n (i := 0) d_D_readOpenPart_11 rfl rfl ?_
  refine J_iconst (v := nI 3) d_D_readOpenPart_12 rfl ?_
  refine CV_V (av := [.int (nI 3)]) d_D_readOpenPart_13 s_D_57 (M_rcv rfl (by decide) rfl) (S_D_refuse hX hL) (by omega) rfl rfl (Nat.le_of_ble_eq_true rfl) ?_
  have hD1 := rf_Dd (f := 3) (p := stT B j) hL (by decide) (by decide)
  refine J_iconst (v := nI 0) d_D_readOpenPart_16 rfl ?_
  refine M_ir d_D_readOpenPart_17 rfl rfl ?_
  exact ⟨_, rfl, (by decide), (rf_Ok hX), (offL_t (offL_0 T X) rf_off), hD1⟩

theorem S_D_readOpenPart_1 {B : Nat → Nat} {N T ds dp dd oo : Nat} {w : Bool} {ps po : Nat → PR Nat} (hS : CShp ds (oo + 1) B N T w ps) (hP : CPart dp (oo + 1) B N T w po) (h1 : ds < dd) (h2 : dp < dd) (h4 : 2 ≤ dd) (ho8 : oo < 8) : COpp dd oo B N T w (fOpp (tkT B) (some (po, ps))) := by
  intro X j c hX hL hop
  have hkT := hL.1.2.1
  have h300 := hL.1.1.1
  have hjN := hL.2.1
  have hlt := tk_lt B j
  have hjl := Lv_N hL
  refine CM_of (L := [some (.ref 11), some (.int (nI oo)), none, none]) 2 ok_D_readOpenPart (fun _ => Nat.le_of_ble_eq_true rfl) rfl ?_
  refine J_aload_n (i := 0) d_D_readOpenPart_0 rfl rfl ?_
  refine M_get (x := (nI (tk_ B j))) d_D_readOpenPart_1 f_D_32 rfl rfl hL.2.2.2.1 ?_
  refine J_istore_n (i := 2) (L1 := [some (.ref 11), some (.int (nI oo)), some (.int (nI (tk_ B j))), none]) d_D_readOpenPart_4 rfl (by decide) rfl ?_
  refine J_iload_n (i := 1) d_D_readOpenPart_5 rfl rfl ?_
  refine J_bipush (v := nI 8) d_D_readOpenPart_6 rfl ?_
  refine N_icmp_lt (tgt := 18) d_D_readOpenPart_8 (by decide) (by omega) (by omega) (fun c8 => ?_) (fun c8 => absurd c8 (by omega))
  refine J_aload_n (i := 0) d_D_readOpenPart_18 rfl rfl ?_
  refine CV_V (av := []) d_D_readOpenPart_19 s_D_54 (M_rcv rfl (by decide) rfl) (S_D_advance hX hL (show tk_ B j ≠ 46 by omega)) (by omega) rfl rfl (Nat.le_of_ble_eq_true rfl) ?_
  have hL1 := ad_Lv hL (show tk_ B j ≠ 46 by omega)
  refine J_iload_n (i := 2) d_D_readOpenPart_22 rfl rfl ?_
  refine J_bipush (v := nI 40) d_D_readOpenPart_23 rfl ?_
  refine N_icmp_ne (tgt := 44) d_D_readOpenPart_25 (by decide) (by omega) (by omega) (fun c25 => ?_) (fun c25 => ?_)
  · refine J_aload_n (i := 0) d_D_readOpenPart_44 rfl rfl ?_
    refine J_iload_n (i := 1) d_D_readOpenPart_45 rfl rfl ?_
    refine J_iconst (v := nI 1) d_D_readOpenPart_46 rfl ?_
    refine N_iadd d_D_readOpenPart_47 ?_
    refine M_callV (av := [.int (nI (oo + 1))]) d_D_readOpenPart_48 s_D_122 (M_rcv rfl (by decide) rfl) (hP _ _ _ (ad_Ok hX) hL1) (by omega) rfl rfl (Nat.le_of_ble_eq_true rfl) (fun r2 Y2 hq2 => ?_)
    obtain ⟨v2, rfl, hv2, hq2⟩ := hq2
    rcases hr2 : po (j + 1) with q2 | q2
    · rw [hr2] at hq2
      obtain ⟨hY2, ho2, hD2⟩ := hq2
      have hD2 : Dd Y2 B N T q2.1 (stT B q2.2) := hD2
      have hf2 := hD2.2.2.2.2.1
      refine J_iload_n (i := 2) d_D_readOpenPart_51 rfl rfl ?_
      refine J_bipush (v := nI 13) d_D_readOpenPart_52 rfl ?_
      refine N_icmp_ne (tgt := 61) d_D_readOpenPart_54 (by decide) (by omega) (by omega) (fun c54 => ?_) (fun c54 => ?_)
      · refine J_iconst (v := nI 4) d_D_readOpenPart_61 rfl ?_
        refine CS_N (av := [.int (nI v2), .int (nI 4)]) d_D_readOpenPart_62 s_D_128 (S_K_moved hY2 (show v2 < 1048576 by omega) (by decide)) (by omega) rfl rfl (Nat.le_of_ble_eq_true rfl) ?_
        refine M_ir d_D_readOpenPart_65 rfl rfl ?_
        have e : fOpp (tkT B) (some (po, ps)) j = .inl q2 := by unfold fOpp; dsimp only; rw [if_neg (show ¬ (tkT B).1 j = 40 by show ¬ tk_ B j = 40; omega), hr2]; rfl
        rw [e]
        exact ⟨_, rfl, mvs_lt, hY2, (offL_t (offL_t (offL_0 T X) (ad_off (j := j))) ho2), hD2⟩
      · refine J_iconst (v := nI 1) d_D_readOpenPart_57 rfl ?_
        refine J_goto (tgt := 62) d_D_readOpenPart_58 (by decide) ?_
        refine CS_N (av := [.int (nI v2), .int (nI 1)]) d_D_readOpenPart_62 s_D_128 (S_K_moved hY2 (show v2 < 1048576 by omega) (by decide)) (by omega) rfl rfl (Nat.le_of_ble_eq_true rfl) ?_
        refine M_ir d_D_readOpenPart_65 rfl rfl ?_
        have e : fOpp (tkT B) (some (po, ps)) j = .inl q2 := by unfold fOpp; dsimp only; rw [if_neg (show ¬ (tkT B).1 j = 40 by show ¬ tk_ B j = 40; omega), hr2]; rfl
        rw [e]
        exact ⟨_, rfl, mvs_lt, hY2, (offL_t (offL_t (offL_0 T X) (ad_off (j := j))) ho2), hD2⟩
    · rw [hr2] at hq2
      obtain ⟨hY2, ho2, hw2, hL2, lb2, har2⟩ := hq2
      subst hw2
      have hN2 := hL2.2.1
      have hlt2 := tk_lt B q2.1
      have hjl2 := Lv_N hL2
      refine J_iload_n (i := 2) d_D_readOpenPart_51 rfl rfl ?_
      refine J_bipush (v := nI 13) d_D_readOpenPart_52 rfl ?_
      refine N_icmp_ne (tgt := 61) d_D_readOpenPart_54 (by decide) (by omega) (by omega) (fun c54 => ?_) (fun c54 => ?_)
      · refine J_iconst (v := nI 4) d_D_readOpenPart_61 rfl ?_
        refine CS_N (av := [.int (nI q2.2), .int (nI 4)]) d_D_readOpenPart_62 s_D_128 (S_K_moved hY2 (show q2.2 < 1048576 by omega) (by decide)) (by omega) rfl rfl (Nat.le_of_ble_eq_true rfl) ?_
        refine M_ir d_D_readOpenPart_65 rfl rfl ?_
        have e : fOpp (tkT B) (some (po, ps)) j = .inr (q2.1, mvs 4 q2.2) := by unfold fOpp; dsimp only; rw [if_neg (show ¬ (tkT B).1 j = 40 by show ¬ tk_ B j = 40; omega), hr2, bnd_r, if_neg (show ¬ (tkT B).1 j = 13 by show ¬ tk_ B j = 13; omega)]
        rw [e]
        exact ⟨_, rfl, mvs_lt, hY2, (offL_t (offL_t (offL_0 T X) (ad_off (j := j))) ho2), rfl, hL2, by omega, har2⟩
      · refine J_iconst (v := nI 1) d_D_readOpenPart_57 rfl ?_
        refine J_goto (tgt := 62) d_D_readOpenPart_58 (by decide) ?_
        refine CS_N (av := [.int (nI q2.2), .int (nI 1)]) d_D_readOpenPart_62 s_D_128 (S_K_moved hY2 (show q2.2 < 1048576 by omega) (by decide)) (by omega) rfl rfl (Nat.le_of_ble_eq_true rfl) ?_
        refine M_ir d_D_readOpenPart_65 rfl rfl ?_
        have e : fOpp (tkT B) (some (po, ps)) j = .inr (q2.1, mvs 1 q2.2) := by unfold fOpp; dsimp only; rw [if_neg (show ¬ (tkT B).1 j = 40 by show ¬ tk_ B j = 40; omega), hr2, bnd_r, if_pos (show (tkT B).1 j = 13 by show tk_ B j = 13; omega)]
        rw [e]
        exact ⟨_, rfl, mvs_lt, hY2, (offL_t (offL_t (offL_0 T X) (ad_off (j := j))) ho2), rfl, hL2, by omega, har2⟩
  · refine J_aload_n (i := 0) d_D_readOpenPart_28 rfl rfl ?_
    refine J_iload_n (i := 1) d_D_readOpenPart_29 rfl rfl ?_
    refine J_iconst (v := nI 1) d_D_readOpenPart_30 rfl ?_
    refine N_iadd d_D_readOpenPart_31 ?_
    refine M_callV (av := [.int (nI (oo + 1))]) d_D_readOpenPart_32 s_D_111 (M_rcv rfl (by decide) rfl) (hS _ _ _ (ad_Ok hX) hL1) (by omega) rfl rfl (Nat.le_of_ble_eq_true rfl) (fun r2 Y2 hq2 => ?_)
    obtain ⟨v2, rfl, hv2, hq2⟩ := hq2
    rcases hr2 : ps (j + 1) with q2 | q2
    · rw [hr2] at hq2
      obtain ⟨hY2, ho2, hD2⟩ := hq2
      have hD2 : Dd Y2 B N T q2.1 (stT B q2.2) := hD2
      have hf2 := hD2.2.2.2.2.1
      refine J_istore_n (i := 3) (L1 := [some (.ref 11), some (.int (nI oo)), some (.int (nI (tk_ B j))), some (.int (nI v2))]) d_D_readOpenPart_35 rfl (by decide) rfl ?_
      refine J_aload_n (i := 0) d_D_readOpenPart_36 rfl rfl ?_
      refine J_bipush (v := nI 41) d_D_readOpenPart_37 rfl ?_
      refine CV_V (av := [.int (nI 41)]) d_D_readOpenPart_39 s_D_84 (M_rcv rfl (by decide) rfl) (S_D_expect_d hY2 hD2 (show 41 < 46 by omega)) (by omega) rfl rfl (Nat.le_of_ble_eq_true rfl) ?_
      refine J_iload_n (i := 3) d_D_readOpenPart_42 rfl rfl ?_
      refine M_ir d_D_readOpenPart_43 rfl rfl ?_
      have e : fOpp (tkT B) (some (po, ps)) j = .inl q2 := by unfold fOpp; dsimp only; rw [if_pos (show (tkT B).1 j = 40 by show tk_ B j = 40; omega), hr2]; rfl
      rw [e]
      exact ⟨_, rfl, hv2, hY2, (offL_t (offL_t (offL_0 T X) (ad_off (j := j))) ho2), hD2⟩
    · rw [hr2] at hq2
      obtain ⟨hY2, ho2, hw2, hL2, lb2, har2⟩ := hq2
      subst hw2
      have hN2 := hL2.2.1
      have hlt2 := tk_lt B q2.1
      have hjl2 := Lv_N hL2
      refine J_istore_n (i := 3) (L1 := [some (.ref 11), some (.int (nI oo)), some (.int (nI (tk_ B j))), some (.int (nI q2.2))]) d_D_readOpenPart_35 rfl (by decide) rfl ?_
      refine J_aload_n (i := 0) d_D_readOpenPart_36 rfl rfl ?_
      refine J_bipush (v := nI 41) d_D_readOpenPart_37 rfl ?_
      refine CV_V (av := [.int (nI 41)]) d_D_readOpenPart_39 s_D_84 (M_rcv rfl (by decide) rfl) (S_D_expect hY2 hL2 (show 41 < 46 by omega)) (by omega) rfl rfl (Nat.le_of_ble_eq_true rfl) ?_
      by_cases hx3 : tk_ B q2.1 = 41
      · rw [show exX Y2 B q2.1 41 = adX Y2 B q2.1 from if_pos hx3]
        have hL3 := ad_Lv hL2 (show tk_ B q2.1 ≠ 46 by omega)
        refine J_iload_n (i := 3) d_D_readOpenPart_42 rfl rfl ?_
        refine M_ir d_D_readOpenPart_43 rfl rfl ?_
        have e : fOpp (tkT B) (some (po, ps)) j = .inr (q2.1 + 1, q2.2) := by unfold fOpp; dsimp only; rw [if_pos (show (tkT B).1 j = 40 by show tk_ B j = 40; omega), hr2, bnd_r, ex_t hx3]; rfl
        rw [e]
        exact ⟨_, rfl, hv2, (ad_Ok hY2), (offL_t (offL_t (offL_t (offL_0 T X) (ad_off (j := j))) ho2) (ad_off (j := q2.1))), rfl, hL3, by omega, har2⟩
      · rw [show exX Y2 B q2.1 41 = rfX Y2 1 (stT B q2.1) from if_neg hx3]
        have hD3 := rf_Dd (f := 1) (p := stT B q2.1) hL2 (by decide) (by decide)
        refine J_iload_n (i := 3) d_D_readOpenPart_42 rfl rfl ?_
        refine M_ir d_D_readOpenPart_43 rfl rfl ?_
        have e : fOpp (tkT B) (some (po, ps)) j = .inl (1, q2.1) := by unfold fOpp; dsimp only; rw [if_pos (show (tkT B).1 j = 40 by show tk_ B j = 40; omega), hr2, bnd_r, ex_f hx3]; rfl
        rw [e]
        exact ⟨_, rfl, hv2, (rf_Ok hY2), (offL_t (offL_t (offL_t (offL_0 T X) (ad_off (j := j))) ho2) rf_off), hD3⟩

theorem S_D_readPart {B : Nat → Nat} {N T do_ dd oo : Nat} {w : Bool} {pp : Nat → PR Nat} (hO : COpp do_ oo B N T w pp) (h1 : do_ < dd) (h2 : 2 ≤ dd) : CPart dd oo B N T w (fPartB (tkT B) pp) := by
  intro X j c hX hL
  have hkT := hL.1.2.1
  have h300 := hL.1.1.1
  have hjN := hL.2.1
  have hlt := tk_lt B j
  have hjl := Lv_N hL
  refine CM_of (L := [some (.ref 11), some (.int (nI oo)), none]) 1 ok_D_readPart (fun _ => Nat.le_of_ble_eq_true rfl) rfl ?_
  refine J_aload_n (i := 0) d_D_readPart_0 rfl rfl ?_
  refine M_get (x := (nI (tk_ B j))) d_D_readPart_1 f_D_32 rfl rfl hL.2.2.2.1 ?_
  refine J_istore_n (i := 2) (L1 := [some (.ref 11), some (.int (nI oo)), some (.int (nI (tk_ B j)))]) d_D_readPart_4 rfl (by decide) rfl ?_
  refine J_iload_n (i := 2) d_D_readPart_5 rfl rfl ?_
  have hsw : tk_ B j = 9 ∨ tk_ B j = 10 ∨ tk_ B j = 11 ∨ tk_ B j = 12 ∨ tk_ B j = 13 ∨ tk_ B j = 14 ∨ tk_ B j = 40 ∨ (tk_ B j ≠ 9 ∧ tk_ B j ≠ 10 ∧ tk_ B j ≠ 11 ∧ tk_ B j ≠ 12 ∧ tk_ B j ≠ 13 ∧ tk_ B j ≠ 14 ∧ tk_ B j ≠ 40) := by omega
  rcases hsw with hsw | hsw | hsw | hsw | hsw | hsw | hsw | hsw
  · refine J.eq (st1 := [.int (nI 9)]) ?_ rfl (by rw [hsw]) rfl
    refine J_lookup (off := 66) (tgt := 72) d_D_readPart_6 (by decide) (by decide) (by decide) ?_
    refine J_aload_n (i := 0) d_D_readPart_72 rfl rfl ?_
    refine CV_V (av := []) d_D_readPart_73 s_D_54 (M_rcv rfl (by decide) rfl) (S_D_advance hX hL (show tk_ B j ≠ 46 by omega)) (by omega) rfl rfl (Nat.le_of_ble_eq_true rfl) ?_
    have hL1 := ad_Lv hL (show tk_ B j ≠ 46 by omega)
    refine J_iconst (v := nI 1) d_D_readPart_76 rfl ?_
    refine J_aload_n (i := 0) d_D_readPart_77 rfl rfl ?_
    refine J_iconst (v := nI 0) d_D_readPart_78 rfl ?_
    refine J_bipush (v := nI 19) d_D_readPart_79 rfl ?_
    refine CV_N (av := [.int (nI 0), .int (nI 19)]) d_D_readPart_81 s_D_115 (M_rcv rfl (by decide) rfl) (S_D_takeNumber (ad_Ok hX) hL1 (by decide) (by decide)) (by omega) rfl rfl (Nat.le_of_ble_eq_true rfl) ?_
    by_cases ha2 : tk_ B (j + 1) = 45
    · by_cases hr2 : vC B (stT B (j + 1)) < 0 ∨ 19 < vC B (stT B (j + 1))
      · rw [show nuX (adX X B j) B (j + 1) 0 19 = rfX (adX X B j) 2 (stT B (j + 1)) by rw [nuX, if_pos ha2, if_pos hr2], show nuV B (j + 1) 0 19 = 0 by rw [nuV, if_pos ha2, if_pos hr2]]
        have hD2 := rf_Dd (f := 2) (p := stT B (j + 1)) hL1 (by decide) (by decide)
        refine N_ishl d_D_readPart_84 (by omega) ?_
        refine M_ir d_D_readPart_85 rfl rfl ?_
        have e : fPartB (tkT B) pp j = .inl (2, j + 1) := by unfold fPartB; rw [if_pos (show (tkT B).1 j = 9 from hsw), num_2 ha2 hr2]; rfl
        rw [e]
        exact ⟨_, rfl, (by decide), (rf_Ok (ad_Ok hX)), (offL_t (offL_t (offL_0 T X) (ad_off (j := j))) rf_off), hD2⟩
      · rw [show nuX (adX X B j) B (j + 1) 0 19 = adX (adX X B j) B (j + 1) by rw [nuX, if_pos ha2, if_neg hr2], show nuV B (j + 1) 0 19 = vC B (stT B (j + 1)) by rw [nuV, if_pos ha2, if_neg hr2]]
        have hL2 := ad_Lv hL1 (show tk_ B (j + 1) ≠ 46 by omega)
        refine N_ishl d_D_readPart_84 (by omega) ?_
        refine M_ir d_D_readPart_85 rfl rfl ?_
        have e : fPartB (tkT B) pp j = .inr (j + 1 + 1, 1 <<< vC B (stT B (j + 1))) := by unfold fPartB; rw [if_pos (show (tkT B).1 j = 9 from hsw), num_ok ha2 hr2]; rfl
        rw [e]
        exact ⟨_, rfl, shA_lt _ (by omega), (ad_Ok (ad_Ok hX)), (offL_t (offL_t (offL_0 T X) (ad_off (j := j))) (ad_off (j := (j + 1)))), rfl, hL2, by omega, rfl⟩
    · rw [show nuX (adX X B j) B (j + 1) 0 19 = rfX (adX X B j) 1 (stT B (j + 1)) by rw [nuX, if_neg ha2], show nuV B (j + 1) 0 19 = 0 by rw [nuV, if_neg ha2]]
      have hD2 := rf_Dd (f := 1) (p := stT B (j + 1)) hL1 (by decide) (by decide)
      refine N_ishl d_D_readPart_84 (by omega) ?_
      refine M_ir d_D_readPart_85 rfl rfl ?_
      have e : fPartB (tkT B) pp j = .inl (1, j + 1) := by unfold fPartB; rw [if_pos (show (tkT B).1 j = 9 from hsw), num_1 ha2]; rfl
      rw [e]
      exact ⟨_, rfl, (by decide), (rf_Ok (ad_Ok hX)), (offL_t (offL_t (offL_0 T X) (ad_off (j := j))) rf_off), hD2⟩
  · refine J.eq (st1 := [.int (nI 10)]) ?_ rfl (by rw [hsw]) rfl
    refine J_lookup (off := 80) (tgt := 86) d_D_readPart_6 (by decide) (by decide) (by decide) ?_
    refine J_aload_n (i := 0) d_D_readPart_86 rfl rfl ?_
    refine CV_V (av := []) d_D_readPart_87 s_D_54 (M_rcv rfl (by decide) rfl) (S_D_advance hX hL (show tk_ B j ≠ 46 by omega)) (by omega) rfl rfl (Nat.le_of_ble_eq_true rfl) ?_
    have hL1 := ad_Lv hL (show tk_ B j ≠ 46 by omega)
    refine J_iconst (v := nI 3) d_D_readPart_90 rfl ?_
    refine J_iconst (v := nI 2) d_D_readPart_91 rfl ?_
    refine J_aload_n (i := 0) d_D_readPart_92 rfl rfl ?_
    refine J_iconst (v := nI 0) d_D_readPart_93 rfl ?_
    refine J_iconst (v := nI 2) d_D_readPart_94 rfl ?_
    refine CV_N (av := [.int (nI 0), .int (nI 2)]) d_D_readPart_95 s_D_115 (M_rcv rfl (by decide) rfl) (S_D_takeNumber (ad_Ok hX) hL1 (by decide) (by decide)) (by omega) rfl rfl (Nat.le_of_ble_eq_true rfl) ?_
    by_cases ha2 : tk_ B (j + 1) = 45
    · by_cases hr2 : vC B (stT B (j + 1)) < 0 ∨ 2 < vC B (stT B (j + 1))
      · rw [show nuX (adX X B j) B (j + 1) 0 2 = rfX (adX X B j) 2 (stT B (j + 1)) by rw [nuX, if_pos ha2, if_pos hr2], show nuV B (j + 1) 0 2 = 0 by rw [nuV, if_pos ha2, if_pos hr2]]
        have hD2 := rf_Dd (f := 2) (p := stT B (j + 1)) hL1 (by decide) (by decide)
        refine N_imul d_D_readPart_98 ?_
        refine N_ishl d_D_readPart_99 (by omega) ?_
        refine M_ir d_D_readPart_100 rfl rfl ?_
        have e : fPartB (tkT B) pp j = .inl (2, j + 1) := by unfold fPartB; rw [if_neg (show ¬ (tkT B).1 j = 9 by show ¬ tk_ B j = 9; omega), if_pos (show (tkT B).1 j = 10 from hsw), num_2 ha2 hr2]; rfl
        rw [e]
        exact ⟨_, rfl, (by decide), (rf_Ok (ad_Ok hX)), (offL_t (offL_t (offL_0 T X) (ad_off (j := j))) rf_off), hD2⟩
      · rw [show nuX (adX X B j) B (j + 1) 0 2 = adX (adX X B j) B (j + 1) by rw [nuX, if_pos ha2, if_neg hr2], show nuV B (j + 1) 0 2 = vC B (stT B (j + 1)) by rw [nuV, if_pos ha2, if_neg hr2]]
        have hL2 := ad_Lv hL1 (show tk_ B (j + 1) ≠ 46 by omega)
        refine N_imul d_D_readPart_98 ?_
        refine N_ishl d_D_readPart_99 (by omega) ?_
        refine M_ir d_D_readPart_100 rfl rfl ?_
        have e : fPartB (tkT B) pp j = .inr (j + 1 + 1, 3 <<< (2 * vC B (stT B (j + 1)))) := by unfold fPartB; rw [if_neg (show ¬ (tkT B).1 j = 9 by show ¬ tk_ B j = 9; omega), if_pos (show (tkT B).1 j = 10 from hsw), num_ok ha2 hr2]; rfl
        rw [e]
        exact ⟨_, rfl, (shB_lt _ (by omega)).1, (ad_Ok (ad_Ok hX)), (offL_t (offL_t (offL_0 T X) (ad_off (j := j))) (ad_off (j := (j + 1)))), rfl, hL2, by omega, rfl⟩
    · rw [show nuX (adX X B j) B (j + 1) 0 2 = rfX (adX X B j) 1 (stT B (j + 1)) by rw [nuX, if_neg ha2], show nuV B (j + 1) 0 2 = 0 by rw [nuV, if_neg ha2]]
      have hD2 := rf_Dd (f := 1) (p := stT B (j + 1)) hL1 (by decide) (by decide)
      refine N_imul d_D_readPart_98 ?_
      refine N_ishl d_D_readPart_99 (by omega) ?_
      refine M_ir d_D_readPart_100 rfl rfl ?_
      have e : fPartB (tkT B) pp j = .inl (1, j + 1) := by unfold fPartB; rw [if_neg (show ¬ (tkT B).1 j = 9 by show ¬ tk_ B j = 9; omega), if_pos (show (tkT B).1 j = 10 from hsw), num_1 ha2]; rfl
      rw [e]
      exact ⟨_, rfl, (by decide), (rf_Ok (ad_Ok hX)), (offL_t (offL_t (offL_0 T X) (ad_off (j := j))) rf_off), hD2⟩
  · refine J.eq (st1 := [.int (nI 11)]) ?_ rfl (by rw [hsw]) rfl
    refine J_lookup (off := 95) (tgt := 101) d_D_readPart_6 (by decide) (by decide) (by decide) ?_
    refine J_aload_n (i := 0) d_D_readPart_101 rfl rfl ?_
    refine CV_V (av := []) d_D_readPart_102 s_D_54 (M_rcv rfl (by decide) rfl) (S_D_advance hX hL (show tk_ B j ≠ 46 by omega)) (by omega) rfl rfl (Nat.le_of_ble_eq_true rfl) ?_
    have hL1 := ad_Lv hL (show tk_ B j ≠ 46 by omega)
    refine J_bipush (v := nI 9) d_D_readPart_105 rfl ?_
    refine J_bipush (v := nI 6) d_D_readPart_107 rfl ?_
    refine J_aload_n (i := 0) d_D_readPart_109 rfl rfl ?_
    refine J_iconst (v := nI 0) d_D_readPart_110 rfl ?_
    refine J_iconst (v := nI 2) d_D_readPart_111 rfl ?_
    refine CV_N (av := [.int (nI 0), .int (nI 2)]) d_D_readPart_112 s_D_115 (M_rcv rfl (by decide) rfl) (S_D_takeNumber (ad_Ok hX) hL1 (by decide) (by decide)) (by omega) rfl rfl (Nat.le_of_ble_eq_true rfl) ?_
    by_cases ha2 : tk_ B (j + 1) = 45
    · by_cases hr2 : vC B (stT B (j + 1)) < 0 ∨ 2 < vC B (stT B (j + 1))
      · rw [show nuX (adX X B j) B (j + 1) 0 2 = rfX (adX X B j) 2 (stT B (j + 1)) by rw [nuX, if_pos ha2, if_pos hr2], show nuV B (j + 1) 0 2 = 0 by rw [nuV, if_pos ha2, if_pos hr2]]
        have hD2 := rf_Dd (f := 2) (p := stT B (j + 1)) hL1 (by decide) (by decide)
        refine N_iadd d_D_readPart_115 ?_
        refine N_ishl d_D_readPart_116 (by omega) ?_
        refine M_ir d_D_readPart_117 rfl rfl ?_
        have e : fPartB (tkT B) pp j = .inl (2, j + 1) := by unfold fPartB; rw [if_neg (show ¬ (tkT B).1 j = 9 by show ¬ tk_ B j = 9; omega), if_neg (show ¬ (tkT B).1 j = 10 by show ¬ tk_ B j = 10; omega), if_pos (show (tkT B).1 j = 11 from hsw), num_2 ha2 hr2]; rfl
        rw [e]
        exact ⟨_, rfl, (by decide), (rf_Ok (ad_Ok hX)), (offL_t (offL_t (offL_0 T X) (ad_off (j := j))) rf_off), hD2⟩
      · rw [show nuX (adX X B j) B (j + 1) 0 2 = adX (adX X B j) B (j + 1) by rw [nuX, if_pos ha2, if_neg hr2], show nuV B (j + 1) 0 2 = vC B (stT B (j + 1)) by rw [nuV, if_pos ha2, if_neg hr2]]
        have hL2 := ad_Lv hL1 (show tk_ B (j + 1) ≠ 46 by omega)
        refine N_iadd d_D_readPart_115 ?_
        refine N_ishl d_D_readPart_116 (by omega) ?_
        refine M_ir d_D_readPart_117 rfl rfl ?_
        have e : fPartB (tkT B) pp j = .inr (j + 1 + 1, 9 <<< (6 + vC B (stT B (j + 1)))) := by unfold fPartB; rw [if_neg (show ¬ (tkT B).1 j = 9 by show ¬ tk_ B j = 9; omega), if_neg (show ¬ (tkT B).1 j = 10 by show ¬ tk_ B j = 10; omega), if_pos (show (tkT B).1 j = 11 from hsw), num_ok ha2 hr2]; rfl
        rw [e]
        exact ⟨_, rfl, (shB_lt _ (by omega)).2, (ad_Ok (ad_Ok hX)), (offL_t (offL_t (offL_0 T X) (ad_off (j := j))) (ad_off (j := (j + 1)))), rfl, hL2, by omega, rfl⟩
    · rw [show nuX (adX X B j) B (j + 1) 0 2 = rfX (adX X B j) 1 (stT B (j + 1)) by rw [nuX, if_neg ha2], show nuV B (j + 1) 0 2 = 0 by rw [nuV, if_neg ha2]]
      have hD2 := rf_Dd (f := 1) (p := stT B (j + 1)) hL1 (by decide) (by decide)
      refine N_iadd d_D_readPart_115 ?_
      refine N_ishl d_D_readPart_116 (by omega) ?_
      refine M_ir d_D_readPart_117 rfl rfl ?_
      have e : fPartB (tkT B) pp j = .inl (1, j + 1) := by unfold fPartB; rw [if_neg (show ¬ (tkT B).1 j = 9 by show ¬ tk_ B j = 9; omega), if_neg (show ¬ (tkT B).1 j = 10 by show ¬ tk_ B j = 10; omega), if_pos (show (tkT B).1 j = 11 from hsw), num_1 ha2]; rfl
      rw [e]
      exact ⟨_, rfl, (by decide), (rf_Ok (ad_Ok hX)), (offL_t (offL_t (offL_0 T X) (ad_off (j := j))) rf_off), hD2⟩
  · refine J.eq (st1 := [.int (nI 12)]) ?_ rfl (by rw [hsw]) rfl
    refine J_lookup (off := 112) (tgt := 118) d_D_readPart_6 (by decide) (by decide) (by decide) ?_
    refine J_aload_n (i := 0) d_D_readPart_118 rfl rfl ?_
    refine CV_V (av := []) d_D_readPart_119 s_D_54 (M_rcv rfl (by decide) rfl) (S_D_advance hX hL (show tk_ B j ≠ 46 by omega)) (by omega) rfl rfl (Nat.le_of_ble_eq_true rfl) ?_
    have hL1 := ad_Lv hL (show tk_ B j ≠ 46 by omega)
    refine J_sipush (v := nI 2931) d_D_readPart_122 rfl ?_
    refine M_ir d_D_readPart_125 rfl rfl ?_
    have e : fPartB (tkT B) pp j = .inr (j + 1, 2931) := by unfold fPartB; rw [if_neg (show ¬ (tkT B).1 j = 9 by show ¬ tk_ B j = 9; omega), if_neg (show ¬ (tkT B).1 j = 10 by show ¬ tk_ B j = 10; omega), if_neg (show ¬ (tkT B).1 j = 11 by show ¬ tk_ B j = 11; omega), if_pos (show (tkT B).1 j = 12 from hsw)]
    rw [e]
    exact ⟨_, rfl, by decide, (ad_Ok hX), (offL_t (offL_0 T X) (ad_off (j := j))), rfl, hL1, by omega, rfl⟩
  · refine J.eq (st1 := [.int (nI 13)]) ?_ rfl (by rw [hsw]) rfl
    refine J_lookup (off := 120) (tgt := 126) d_D_readPart_6 (by decide) (by decide) (by decide) ?_
    refine J_aload_n (i := 0) d_D_readPart_126 rfl rfl ?_
    refine J_iload_n (i := 1) d_D_readPart_127 rfl rfl ?_
    refine M_callV (av := [.int (nI oo)]) d_D_readPart_128 s_D_125 (M_rcv rfl (by decide) rfl) (hO _ _ _ hX hL (by omega)) (by omega) rfl rfl (Nat.le_of_ble_eq_true rfl) (fun r5 Y5 hq5 => ?_)
    obtain ⟨v5, rfl, hq5⟩ := hq5
    refine M_ir d_D_readPart_131 rfl rfl ?_
    have e : fPartB (tkT B) pp j = pp j := by unfold fPartB; rw [if_neg (show ¬ (tkT B).1 j = 9 by show ¬ tk_ B j = 9; omega), if_neg (show ¬ (tkT B).1 j = 10 by show ¬ tk_ B j = 10; omega), if_neg (show ¬ (tkT B).1 j = 11 by show ¬ tk_ B j = 11; omega), if_neg (show ¬ (tkT B).1 j = 12 by show ¬ tk_ B j = 12; omega), if_pos (show (tkT B).1 j = 13 ∨ (tkT B).1 j = 14 ∨ (tkT B).1 j = 40 by show tk_ B j = 13 ∨ tk_ B j = 14 ∨ tk_ B j = 40; omega)]
    rw [e]
    exact ⟨v5, rfl, hq5⟩
  · refine J.eq (st1 := [.int (nI 14)]) ?_ rfl (by rw [hsw]) rfl
    refine J_lookup (off := 120) (tgt := 126) d_D_readPart_6 (by decide) (by decide) (by decide) ?_
    refine J_aload_n (i := 0) d_D_readPart_126 rfl rfl ?_
    refine J_iload_n (i := 1) d_D_readPart_127 rfl rfl ?_
    refine M_callV (av := [.int (nI oo)]) d_D_readPart_128 s_D_125 (M_rcv rfl (by decide) rfl) (hO _ _ _ hX hL (by omega)) (by omega) rfl rfl (Nat.le_of_ble_eq_true rfl) (fun r5 Y5 hq5 => ?_)
    obtain ⟨v5, rfl, hq5⟩ := hq5
    refine M_ir d_D_readPart_131 rfl rfl ?_
    have e : fPartB (tkT B) pp j = pp j := by unfold fPartB; rw [if_neg (show ¬ (tkT B).1 j = 9 by show ¬ tk_ B j = 9; omega), if_neg (show ¬ (tkT B).1 j = 10 by show ¬ tk_ B j = 10; omega), if_neg (show ¬ (tkT B).1 j = 11 by show ¬ tk_ B j = 11; omega), if_neg (show ¬ (tkT B).1 j = 12 by show ¬ tk_ B j = 12; omega), if_pos (show (tkT B).1 j = 13 ∨ (tkT B).1 j = 14 ∨ (tkT B).1 j = 40 by show tk_ B j = 13 ∨ tk_ B j = 14 ∨ tk_ B j = 40; omega)]
    rw [e]
    exact ⟨v5, rfl, hq5⟩
  · refine J.eq (st1 := [.int (nI 40)]) ?_ rfl (by rw [hsw]) rfl
    refine J_lookup (off := 120) (tgt := 126) d_D_readPart_6 (by decide) (by decide) (by decide) ?_
    refine J_aload_n (i := 0) d_D_readPart_126 rfl rfl ?_
    refine J_iload_n (i := 1) d_D_readPart_127 rfl rfl ?_
    refine M_callV (av := [.int (nI oo)]) d_D_readPart_128 s_D_125 (M_rcv rfl (by decide) rfl) (hO _ _ _ hX hL (by omega)) (by omega) rfl rfl (Nat.le_of_ble_eq_true rfl) (fun r5 Y5 hq5 => ?_)
    obtain ⟨v5, rfl, hq5⟩ := hq5
    refine M_ir d_D_readPart_131 rfl rfl ?_
    have e : fPartB (tkT B) pp j = pp j := by unfold fPartB; rw [if_neg (show ¬ (tkT B).1 j = 9 by show ¬ tk_ B j = 9; omega), if_neg (show ¬ (tkT B).1 j = 10 by show ¬ tk_ B j = 10; omega), if_neg (show ¬ (tkT B).1 j = 11 by show ¬ tk_ B j = 11; omega), if_neg (show ¬ (tkT B).1 j = 12 by show ¬ tk_ B j = 12; omega), if_pos (show (tkT B).1 j = 13 ∨ (tkT B).1 j = 14 ∨ (tkT B).1 j = 40 by show tk_ B j = 13 ∨ tk_ B j = 14 ∨ tk_ B j = 40; omega)]
    rw [e]
    exact ⟨v5, rfl, hq5⟩
  · refine J_lookup (off := 126) (tgt := 132) d_D_readPart_6 (by decide) (lk_part _ hlt hsw) (by decide) ?_
    refine J_aload_n (i := 0) d_D_readPart_132 rfl rfl ?_
    refine J_iconst (v := nI 1) d_D_readPart_133 rfl ?_
    refine CV_V (av := [.int (nI 1)]) d_D_readPart_134 s_D_57 (M_rcv rfl (by decide) rfl) (S_D_refuse hX hL) (by omega) rfl rfl (Nat.le_of_ble_eq_true rfl) ?_
    have hD1 := rf_Dd (f := 1) (p := stT B j) hL (by decide) (by decide)
    refine J_iconst (v := nI 0) d_D_readPart_137 rfl ?_
    refine M_ir d_D_readPart_138 rfl rfl ?_
    have e : fPartB (tkT B) pp j = .inl (1, j) := by unfold fPartB; rw [if_neg (show ¬ (tkT B).1 j = 9 by show ¬ tk_ B j = 9; omega), if_neg (show ¬ (tkT B).1 j = 10 by show ¬ tk_ B j = 10; omega), if_neg (show ¬ (tkT B).1 j = 11 by show ¬ tk_ B j = 11; omega), if_neg (show ¬ (tkT B).1 j = 12 by show ¬ tk_ B j = 12; omega), if_neg (show ¬ ((tkT B).1 j = 13 ∨ (tkT B).1 j = 14 ∨ (tkT B).1 j = 40) by show ¬ (tk_ B j = 13 ∨ tk_ B j = 14 ∨ tk_ B j = 40); omega)]
    rw [e]
    exact ⟨_, rfl, (by decide), (rf_Ok hX), (offL_t (offL_0 T X) rf_off), hD1⟩

theorem lp_D_readShape {X : Mem} {B : Nat → Nat} {N T j0 c dd oo : Nat} {w : Bool} {one : Nat → PR Nat} {R : PR Nat} {Q : Option Value → Mem → Prop} (hOne : CPart dd oo B N T w one) (hdd : 2 ≤ dd) (kq : ∀ Z r, OutS X B N T j0 c w R r Z → Q r Z) : ∀ (f i : Nat) (Y : Mem) (j a : Nat) (z4 z5 : Option Value), i + f = 300 → Ok Y → offL T X Y → Lv Y B N T j c w → (hj0 : j0 < j) → (har : Y.2.1 (T + 1) = X.2.1 (T + 1)) → (ha : a < 1048576) → pLoop (tkT B) wlB one cmbS f j a = R → JM (dd + 1) m_D_readShape Q 8 [some (.ref 11), some (.int (nI oo)), some (.int (nI a)), some (.int (nI i)), z4, z5] [] Y := by
  intro f
  induction f with
  | zero =>
    intro i Y j a z4 z5 hi hY ho hL hj0 har ha hR
    obtain rfl : i = 300 := by omega
    refine J_iload_n (i := 3) d_D_readShape_8 rfl rfl ?_
    refine J_sipush (v := nI 300) d_D_readShape_9 rfl ?_
    refine N_icmp_ge (tgt := 85) d_D_readShape_12 (by decide) (by omega) (by omega) (fun c12 => ?_) (fun c12 => absurd c12 (by omega))
    refine J_iload_n (i := 2) d_D_readShape_85 rfl rfl ?_
    refine M_ir d_D_readShape_86 rfl rfl ?_
    exact kq Y _ ⟨_, rfl, ha, hY, ho, by rw [← hR]; exact ⟨rfl, hL, hj0, har⟩⟩
  | succ f ih =>
    intro i Y j a z4 z5 hi hY ho hL hj0 har ha hR
    have h300 := hL.1.1.1
    have hjN := hL.2.1
    have hlt := tk_lt B j
    have hjl := Lv_N hL
    refine J_iload_n (i := 3) d_D_readShape_8 rfl rfl ?_
    refine J_sipush (v := nI 300) d_D_readShape_9 rfl ?_
    refine N_icmp_ge (tgt := 85) d_D_readShape_12 (by decide) (by omega) (by omega) (fun c12 => absurd c12 (by omega)) (fun c12 => ?_)
    refine J_aload_n (i := 0) d_D_readShape_15 rfl rfl ?_
    refine M_get (x := (nI (tk_ B j))) d_D_readShape_16 f_D_32 rfl rfl hL.2.2.2.1 ?_
    refine J_bipush (v := nI 15) d_D_readShape_19 rfl ?_
    refine N_icmp_eq (tgt := 33) d_D_readShape_21 (by decide) (by omega) (by omega) (fun c21 => ?_) (fun c21 => ?_)
    · refine J_aload_n (i := 0) d_D_readShape_33 rfl rfl ?_
      refine M_get (x := (nI (tk_ B j))) d_D_readShape_34 f_D_32 rfl rfl hL.2.2.2.1 ?_
      refine J_bipush (v := nI 15) d_D_readShape_37 rfl ?_
      refine N_icmp_ne (tgt := 46) d_D_readShape_39 (by decide) (by omega) (by omega) (fun c39 => ?_) (fun c39 => ?_)
      · refine J_iconst (v := nI 0) d_D_readShape_46 rfl ?_
        refine J_istore (L1 := [some (.ref 11), some (.int (nI oo)), some (.int (nI a)), some (.int (nI i)), some (.int (nI 0)), z5]) d_D_readShape_47 (by decide) rfl ?_
        refine J_aload_n (i := 0) d_D_readShape_49 rfl rfl ?_
        refine CV_V (av := []) d_D_readShape_50 s_D_54 (M_rcv rfl (by decide) rfl) (S_D_advance hY hL (show tk_ B j ≠ 46 by omega)) (by omega) rfl rfl (Nat.le_of_ble_eq_true rfl) ?_
        have hL1 := ad_Lv hL (show tk_ B j ≠ 46 by omega)
        refine J_aload_n (i := 0) d_D_readShape_53 rfl rfl ?_
        refine J_iload_n (i := 1) d_D_readShape_54 rfl rfl ?_
        refine M_callV (av := [.int (nI oo)]) d_D_readShape_55 s_D_122 (M_rcv rfl (by decide) rfl) (hOne _ _ _ (ad_Ok hY) hL1) (by omega) rfl rfl (Nat.le_of_ble_eq_true rfl) (fun r2 Y2 hq2 => ?_)
        obtain ⟨v2, rfl, hv2, hq2⟩ := hq2
        rcases hr2 : one (j + 1) with q2 | q2
        · rw [hr2] at hq2
          obtain ⟨hY2, ho2, hD2⟩ := hq2
          have hD2 : Dd Y2 B N T q2.1 (stT B q2.2) := hD2
          have hf2 := hD2.2.2.2.2.1
          refine J_istore (L1 := [some (.ref 11), some (.int (nI oo)), some (.int (nI a)), some (.int (nI i)), some (.int (nI 0)), some (.int (nI v2))]) d_D_readShape_58 (by decide) rfl ?_
          refine J_iload d_D_readShape_60 rfl ?_
          refine N_if_eq (tgt := 72) d_D_readShape_62 (by decide) (by omega) (fun c62 => ?_) (fun c62 => absurd c62 (by decide))
          refine J_iload_n (i := 2) d_D_readShape_72 rfl rfl ?_
          refine J_iload d_D_readShape_73 rfl ?_
          refine J_iconst (v := (-1)) d_D_readShape_75 rfl ?_
          refine J_ixor d_D_readShape_76 ?_
          refine J_iand d_D_readShape_77 ?_
          refine I_ton (n := andn a v2) (nI_andn a v2) ?_
          refine J_istore_n (i := 2) (L1 := [some (.ref 11), some (.int (nI oo)), some (.int (nI (andn a v2))), some (.int (nI i)), some (.int (nI 0)), some (.int (nI v2))]) d_D_readShape_78 rfl (by decide) rfl ?_
          refine N_iinc (a := i) (c := 1) (L1 := [some (.ref 11), some (.int (nI oo)), some (.int (nI (andn a v2))), some (.int (nI (i + 1))), some (.int (nI 0)), some (.int (nI v2))]) d_D_readShape_79 rfl rfl (by decide) rfl ?_
          refine J_goto (tgt := 8) d_D_readShape_82 (by decide) ?_
          refine J_iload_n (i := 3) d_D_readShape_8 rfl rfl ?_
          refine J_sipush (v := nI 300) d_D_readShape_9 rfl ?_
          refine N_icmp_ge (tgt := 85) d_D_readShape_12 (by decide) (by omega) (by omega) (fun c12_1 => ?_) (fun c12_1 => ?_)
          · refine J_iload_n (i := 2) d_D_readShape_85 rfl rfl ?_
            refine M_ir d_D_readShape_86 rfl rfl ?_
            have hop : wlB (tk_ B j) = true := wl_t.mpr (by omega)
            have e : pLoop (tkT B) wlB one cmbS (f + 1) j a = bnd (one (j + 1)) (fun j2 v2 => pLoop (tkT B) wlB one cmbS f j2 (cmbS (tk_ B j) a v2)) := by show (if wlB (tk_ B j) then _ else _) = _; rw [hop]; rfl
            rw [e, hr2] at hR
            have hR2 : R = .inl q2 := hR.symm
            exact kq _ _ ⟨_, rfl, (by first | exact or_lt 20 ha hv2 | exact andn_lt ha), hY2, (offL_t (offL_t ho (ad_off (j := j))) ho2), by rw [hR2]; exact hD2⟩
          · refine J_aload_n (i := 0) d_D_readShape_15 rfl rfl ?_
            refine M_get (x := (nI 47)) d_D_readShape_16 f_D_32 rfl rfl hD2.2.2.1 ?_
            refine J_bipush (v := nI 15) d_D_readShape_19 rfl ?_
            refine N_icmp_eq (tgt := 33) d_D_readShape_21 (by decide) (by omega) (by omega) (fun c21_1 => absurd c21_1 (by decide)) (fun c21_1 => ?_)
            refine J_aload_n (i := 0) d_D_readShape_24 rfl rfl ?_
            refine M_get (x := (nI 47)) d_D_readShape_25 f_D_32 rfl rfl hD2.2.2.1 ?_
            refine J_bipush (v := nI 16) d_D_readShape_28 rfl ?_
            refine N_icmp_ne (tgt := 85) d_D_readShape_30 (by decide) (by omega) (by omega) (fun c30 => ?_) (fun c30 => absurd c30 (by decide))
            refine J_iload_n (i := 2) d_D_readShape_85 rfl rfl ?_
            refine M_ir d_D_readShape_86 rfl rfl ?_
            have hop : wlB (tk_ B j) = true := wl_t.mpr (by omega)
            have e : pLoop (tkT B) wlB one cmbS (f + 1) j a = bnd (one (j + 1)) (fun j2 v2 => pLoop (tkT B) wlB one cmbS f j2 (cmbS (tk_ B j) a v2)) := by show (if wlB (tk_ B j) then _ else _) = _; rw [hop]; rfl
            rw [e, hr2] at hR
            have hR2 : R = .inl q2 := hR.symm
            exact kq _ _ ⟨_, rfl, (by first | exact or_lt 20 ha hv2 | exact andn_lt ha), hY2, (offL_t (offL_t ho (ad_off (j := j))) ho2), by rw [hR2]; exact hD2⟩
        · rw [hr2] at hq2
          obtain ⟨hY2, ho2, hw2, hL2, lb2, har2⟩ := hq2
          subst hw2
          have hN2 := hL2.2.1
          have hlt2 := tk_lt B q2.1
          have hjl2 := Lv_N hL2
          refine J_istore (L1 := [some (.ref 11), some (.int (nI oo)), some (.int (nI a)), some (.int (nI i)), some (.int (nI 0)), some (.int (nI q2.2))]) d_D_readShape_58 (by decide) rfl ?_
          refine J_iload d_D_readShape_60 rfl ?_
          refine N_if_eq (tgt := 72) d_D_readShape_62 (by decide) (by omega) (fun c62 => ?_) (fun c62 => absurd c62 (by decide))
          refine J_iload_n (i := 2) d_D_readShape_72 rfl rfl ?_
          refine J_iload d_D_readShape_73 rfl ?_
          refine J_iconst (v := (-1)) d_D_readShape_75 rfl ?_
          refine J_ixor d_D_readShape_76 ?_
          refine J_iand d_D_readShape_77 ?_
          refine I_ton (n := andn a q2.2) (nI_andn a q2.2) ?_
          refine J_istore_n (i := 2) (L1 := [some (.ref 11), some (.int (nI oo)), some (.int (nI (andn a q2.2))), some (.int (nI i)), some (.int (nI 0)), some (.int (nI q2.2))]) d_D_readShape_78 rfl (by decide) rfl ?_
          refine N_iinc (a := i) (c := 1) (L1 := [some (.ref 11), some (.int (nI oo)), some (.int (nI (andn a q2.2))), some (.int (nI (i + 1))), some (.int (nI 0)), some (.int (nI q2.2))]) d_D_readShape_79 rfl rfl (by decide) rfl ?_
          refine J_goto (tgt := 8) d_D_readShape_82 (by decide) ?_
          have hop : wlB (tk_ B j) = true := wl_t.mpr (by omega)
          have e : pLoop (tkT B) wlB one cmbS (f + 1) j a = bnd (one (j + 1)) (fun j2 v2 => pLoop (tkT B) wlB one cmbS f j2 (cmbS (tk_ B j) a v2)) := by show (if wlB (tk_ B j) then _ else _) = _; rw [hop]; rfl
          have ev : cmbS (tk_ B j) a q2.2 = (andn a q2.2) := if_neg (by omega)
          rw [e, hr2] at hR
          have hR2 : pLoop (tkT B) wlB one cmbS f q2.1 (cmbS (tk_ B j) a q2.2) = R := hR
          rw [ev] at hR2
          exact ih (i + 1) Y2 _ _ _ _ (by omega) hY2 (offL_t (offL_t ho (ad_off (j := j))) ho2) hL2 (by omega) (har2.trans har) (by first | exact or_lt 20 ha hv2 | exact andn_lt ha) hR2
      · refine J_iconst (v := nI 1) d_D_readShape_42 rfl ?_
        refine J_goto (tgt := 47) d_D_readShape_43 (by decide) ?_
        refine J_istore (L1 := [some (.ref 11), some (.int (nI oo)), some (.int (nI a)), some (.int (nI i)), some (.int (nI 1)), z5]) d_D_readShape_47 (by decide) rfl ?_
        refine J_aload_n (i := 0) d_D_readShape_49 rfl rfl ?_
        refine CV_V (av := []) d_D_readShape_50 s_D_54 (M_rcv rfl (by decide) rfl) (S_D_advance hY hL (show tk_ B j ≠ 46 by omega)) (by omega) rfl rfl (Nat.le_of_ble_eq_true rfl) ?_
        have hL1 := ad_Lv hL (show tk_ B j ≠ 46 by omega)
        refine J_aload_n (i := 0) d_D_readShape_53 rfl rfl ?_
        refine J_iload_n (i := 1) d_D_readShape_54 rfl rfl ?_
        refine M_callV (av := [.int (nI oo)]) d_D_readShape_55 s_D_122 (M_rcv rfl (by decide) rfl) (hOne _ _ _ (ad_Ok hY) hL1) (by omega) rfl rfl (Nat.le_of_ble_eq_true rfl) (fun r2 Y2 hq2 => ?_)
        obtain ⟨v2, rfl, hv2, hq2⟩ := hq2
        rcases hr2 : one (j + 1) with q2 | q2
        · rw [hr2] at hq2
          obtain ⟨hY2, ho2, hD2⟩ := hq2
          have hD2 : Dd Y2 B N T q2.1 (stT B q2.2) := hD2
          have hf2 := hD2.2.2.2.2.1
          refine J_istore (L1 := [some (.ref 11), some (.int (nI oo)), some (.int (nI a)), some (.int (nI i)), some (.int (nI 1)), some (.int (nI v2))]) d_D_readShape_58 (by decide) rfl ?_
          refine J_iload d_D_readShape_60 rfl ?_
          refine N_if_eq (tgt := 72) d_D_readShape_62 (by decide) (by omega) (fun c62 => absurd c62 (by decide)) (fun c62 => ?_)
          refine J_iload_n (i := 2) d_D_readShape_65 rfl rfl ?_
          refine J_iload d_D_readShape_66 rfl ?_
          refine N_ior d_D_readShape_68 ?_
          refine J_goto (tgt := 78) d_D_readShape_69 (by decide) ?_
          refine J_istore_n (i := 2) (L1 := [some (.ref 11), some (.int (nI oo)), some (.int (nI (a ||| v2))), some (.int (nI i)), some (.int (nI 1)), some (.int (nI v2))]) d_D_readShape_78 rfl (by decide) rfl ?_
          refine N_iinc (a := i) (c := 1) (L1 := [some (.ref 11), some (.int (nI oo)), some (.int (nI (a ||| v2))), some (.int (nI (i + 1))), some (.int (nI 1)), some (.int (nI v2))]) d_D_readShape_79 rfl rfl (by decide) rfl ?_
          refine J_goto (tgt := 8) d_D_readShape_82 (by decide) ?_
          refine J_iload_n (i := 3) d_D_readShape_8 rfl rfl ?_
          refine J_sipush (v := nI 300) d_D_readShape_9 rfl ?_
          refine N_icmp_ge (tgt := 85) d_D_readShape_12 (by decide) (by omega) (by omega) (fun c12_1 => ?_) (fun c12_1 => ?_)
          · refine J_iload_n (i := 2) d_D_readShape_85 rfl rfl ?_
            refine M_ir d_D_readShape_86 rfl rfl ?_
            have hop : wlB (tk_ B j) = true := wl_t.mpr (by omega)
            have e : pLoop (tkT B) wlB one cmbS (f + 1) j a = bnd (one (j + 1)) (fun j2 v2 => pLoop (tkT B) wlB one cmbS f j2 (cmbS (tk_ B j) a v2)) := by show (if wlB (tk_ B j) then _ else _) = _; rw [hop]; rfl
            rw [e, hr2] at hR
            have hR2 : R = .inl q2 := hR.symm
            exact kq _ _ ⟨_, rfl, (by first | exact or_lt 20 ha hv2 | exact andn_lt ha), hY2, (offL_t (offL_t ho (ad_off (j := j))) ho2), by rw [hR2]; exact hD2⟩
          · refine J_aload_n (i := 0) d_D_readShape_15 rfl rfl ?_
            refine M_get (x := (nI 47)) d_D_readShape_16 f_D_32 rfl rfl hD2.2.2.1 ?_
            refine J_bipush (v := nI 15) d_D_readShape_19 rfl ?_
            refine N_icmp_eq (tgt := 33) d_D_readShape_21 (by decide) (by omega) (by omega) (fun c21_1 => absurd c21_1 (by decide)) (fun c21_1 => ?_)
            refine J_aload_n (i := 0) d_D_readShape_24 rfl rfl ?_
            refine M_get (x := (nI 47)) d_D_readShape_25 f_D_32 rfl rfl hD2.2.2.1 ?_
            refine J_bipush (v := nI 16) d_D_readShape_28 rfl ?_
            refine N_icmp_ne (tgt := 85) d_D_readShape_30 (by decide) (by omega) (by omega) (fun c30 => ?_) (fun c30 => absurd c30 (by decide))
            refine J_iload_n (i := 2) d_D_readShape_85 rfl rfl ?_
            refine M_ir d_D_readShape_86 rfl rfl ?_
            have hop : wlB (tk_ B j) = true := wl_t.mpr (by omega)
            have e : pLoop (tkT B) wlB one cmbS (f + 1) j a = bnd (one (j + 1)) (fun j2 v2 => pLoop (tkT B) wlB one cmbS f j2 (cmbS (tk_ B j) a v2)) := by show (if wlB (tk_ B j) then _ else _) = _; rw [hop]; rfl
            rw [e, hr2] at hR
            have hR2 : R = .inl q2 := hR.symm
            exact kq _ _ ⟨_, rfl, (by first | exact or_lt 20 ha hv2 | exact andn_lt ha), hY2, (offL_t (offL_t ho (ad_off (j := j))) ho2), by rw [hR2]; exact hD2⟩
        · rw [hr2] at hq2
          obtain ⟨hY2, ho2, hw2, hL2, lb2, har2⟩ := hq2
          subst hw2
          have hN2 := hL2.2.1
          have hlt2 := tk_lt B q2.1
          have hjl2 := Lv_N hL2
          refine J_istore (L1 := [some (.ref 11), some (.int (nI oo)), some (.int (nI a)), some (.int (nI i)), some (.int (nI 1)), some (.int (nI q2.2))]) d_D_readShape_58 (by decide) rfl ?_
          refine J_iload d_D_readShape_60 rfl ?_
          refine N_if_eq (tgt := 72) d_D_readShape_62 (by decide) (by omega) (fun c62 => absurd c62 (by decide)) (fun c62 => ?_)
          refine J_iload_n (i := 2) d_D_readShape_65 rfl rfl ?_
          refine J_iload d_D_readShape_66 rfl ?_
          refine N_ior d_D_readShape_68 ?_
          refine J_goto (tgt := 78) d_D_readShape_69 (by decide) ?_
          refine J_istore_n (i := 2) (L1 := [some (.ref 11), some (.int (nI oo)), some (.int (nI (a ||| q2.2))), some (.int (nI i)), some (.int (nI 1)), some (.int (nI q2.2))]) d_D_readShape_78 rfl (by decide) rfl ?_
          refine N_iinc (a := i) (c := 1) (L1 := [some (.ref 11), some (.int (nI oo)), some (.int (nI (a ||| q2.2))), some (.int (nI (i + 1))), some (.int (nI 1)), some (.int (nI q2.2))]) d_D_readShape_79 rfl rfl (by decide) rfl ?_
          refine J_goto (tgt := 8) d_D_readShape_82 (by decide) ?_
          have hop : wlB (tk_ B j) = true := wl_t.mpr (by omega)
          have e : pLoop (tkT B) wlB one cmbS (f + 1) j a = bnd (one (j + 1)) (fun j2 v2 => pLoop (tkT B) wlB one cmbS f j2 (cmbS (tk_ B j) a v2)) := by show (if wlB (tk_ B j) then _ else _) = _; rw [hop]; rfl
          have ev : cmbS (tk_ B j) a q2.2 = (a ||| q2.2) := if_pos (by omega)
          rw [e, hr2] at hR
          have hR2 : pLoop (tkT B) wlB one cmbS f q2.1 (cmbS (tk_ B j) a q2.2) = R := hR
          rw [ev] at hR2
          exact ih (i + 1) Y2 _ _ _ _ (by omega) hY2 (offL_t (offL_t ho (ad_off (j := j))) ho2) hL2 (by omega) (har2.trans har) (by first | exact or_lt 20 ha hv2 | exact andn_lt ha) hR2
    · refine J_aload_n (i := 0) d_D_readShape_24 rfl rfl ?_
      refine M_get (x := (nI (tk_ B j))) d_D_readShape_25 f_D_32 rfl rfl hL.2.2.2.1 ?_
      refine J_bipush (v := nI 16) d_D_readShape_28 rfl ?_
      refine N_icmp_ne (tgt := 85) d_D_readShape_30 (by decide) (by omega) (by omega) (fun c30 => ?_) (fun c30 => ?_)
      · refine J_iload_n (i := 2) d_D_readShape_85 rfl rfl ?_
        refine M_ir d_D_readShape_86 rfl rfl ?_
        have hop : wlB (tk_ B j) = false := fls (fun z => by have := wl_t.mp z; omega)
        have e : pLoop (tkT B) wlB one cmbS (f + 1) j a = .inr (j, a) := by show (if wlB (tk_ B j) then _ else _) = _; rw [hop]; rfl
        rw [e] at hR
        exact kq Y _ ⟨_, rfl, ha, hY, ho, by rw [← hR]; exact ⟨rfl, hL, hj0, har⟩⟩
      · refine J_aload_n (i := 0) d_D_readShape_33 rfl rfl ?_
        refine M_get (x := (nI (tk_ B j))) d_D_readShape_34 f_D_32 rfl rfl hL.2.2.2.1 ?_
        refine J_bipush (v := nI 15) d_D_readShape_37 rfl ?_
        refine N_icmp_ne (tgt := 46) d_D_readShape_39 (by decide) (by omega) (by omega) (fun c39 => ?_) (fun c39 => ?_)
        · refine J_iconst (v := nI 0) d_D_readShape_46 rfl ?_
          refine J_istore (L1 := [some (.ref 11), some (.int (nI oo)), some (.int (nI a)), some (.int (nI i)), some (.int (nI 0)), z5]) d_D_readShape_47 (by decide) rfl ?_
          refine J_aload_n (i := 0) d_D_readShape_49 rfl rfl ?_
          refine CV_V (av := []) d_D_readShape_50 s_D_54 (M_rcv rfl (by decide) rfl) (S_D_advance hY hL (show tk_ B j ≠ 46 by omega)) (by omega) rfl rfl (Nat.le_of_ble_eq_true rfl) ?_
          have hL1 := ad_Lv hL (show tk_ B j ≠ 46 by omega)
          refine J_aload_n (i := 0) d_D_readShape_53 rfl rfl ?_
          refine J_iload_n (i := 1) d_D_readShape_54 rfl rfl ?_
          refine M_callV (av := [.int (nI oo)]) d_D_readShape_55 s_D_122 (M_rcv rfl (by decide) rfl) (hOne _ _ _ (ad_Ok hY) hL1) (by omega) rfl rfl (Nat.le_of_ble_eq_true rfl) (fun r2 Y2 hq2 => ?_)
          obtain ⟨v2, rfl, hv2, hq2⟩ := hq2
          rcases hr2 : one (j + 1) with q2 | q2
          · rw [hr2] at hq2
            obtain ⟨hY2, ho2, hD2⟩ := hq2
            have hD2 : Dd Y2 B N T q2.1 (stT B q2.2) := hD2
            have hf2 := hD2.2.2.2.2.1
            refine J_istore (L1 := [some (.ref 11), some (.int (nI oo)), some (.int (nI a)), some (.int (nI i)), some (.int (nI 0)), some (.int (nI v2))]) d_D_readShape_58 (by decide) rfl ?_
            refine J_iload d_D_readShape_60 rfl ?_
            refine N_if_eq (tgt := 72) d_D_readShape_62 (by decide) (by omega) (fun c62 => ?_) (fun c62 => absurd c62 (by decide))
            refine J_iload_n (i := 2) d_D_readShape_72 rfl rfl ?_
            refine J_iload d_D_readShape_73 rfl ?_
            refine J_iconst (v := (-1)) d_D_readShape_75 rfl ?_
            refine J_ixor d_D_readShape_76 ?_
            refine J_iand d_D_readShape_77 ?_
            refine I_ton (n := andn a v2) (nI_andn a v2) ?_
            refine J_istore_n (i := 2) (L1 := [some (.ref 11), some (.int (nI oo)), some (.int (nI (andn a v2))), some (.int (nI i)), some (.int (nI 0)), some (.int (nI v2))]) d_D_readShape_78 rfl (by decide) rfl ?_
            refine N_iinc (a := i) (c := 1) (L1 := [some (.ref 11), some (.int (nI oo)), some (.int (nI (andn a v2))), some (.int (nI (i + 1))), some (.int (nI 0)), some (.int (nI v2))]) d_D_readShape_79 rfl rfl (by decide) rfl ?_
            refine J_goto (tgt := 8) d_D_readShape_82 (by decide) ?_
            refine J_iload_n (i := 3) d_D_readShape_8 rfl rfl ?_
            refine J_sipush (v := nI 300) d_D_readShape_9 rfl ?_
            refine N_icmp_ge (tgt := 85) d_D_readShape_12 (by decide) (by omega) (by omega) (fun c12_1 => ?_) (fun c12_1 => ?_)
            · refine J_iload_n (i := 2) d_D_readShape_85 rfl rfl ?_
              refine M_ir d_D_readShape_86 rfl rfl ?_
              have hop : wlB (tk_ B j) = true := wl_t.mpr (by omega)
              have e : pLoop (tkT B) wlB one cmbS (f + 1) j a = bnd (one (j + 1)) (fun j2 v2 => pLoop (tkT B) wlB one cmbS f j2 (cmbS (tk_ B j) a v2)) := by show (if wlB (tk_ B j) then _ else _) = _; rw [hop]; rfl
              rw [e, hr2] at hR
              have hR2 : R = .inl q2 := hR.symm
              exact kq _ _ ⟨_, rfl, (by first | exact or_lt 20 ha hv2 | exact andn_lt ha), hY2, (offL_t (offL_t ho (ad_off (j := j))) ho2), by rw [hR2]; exact hD2⟩
            · refine J_aload_n (i := 0) d_D_readShape_15 rfl rfl ?_
              refine M_get (x := (nI 47)) d_D_readShape_16 f_D_32 rfl rfl hD2.2.2.1 ?_
              refine J_bipush (v := nI 15) d_D_readShape_19 rfl ?_
              refine N_icmp_eq (tgt := 33) d_D_readShape_21 (by decide) (by omega) (by omega) (fun c21_1 => absurd c21_1 (by decide)) (fun c21_1 => ?_)
              refine J_aload_n (i := 0) d_D_readShape_24 rfl rfl ?_
              refine M_get (x := (nI 47)) d_D_readShape_25 f_D_32 rfl rfl hD2.2.2.1 ?_
              refine J_bipush (v := nI 16) d_D_readShape_28 rfl ?_
              refine N_icmp_ne (tgt := 85) d_D_readShape_30 (by decide) (by omega) (by omega) (fun c30_1 => ?_) (fun c30_1 => absurd c30_1 (by decide))
              refine J_iload_n (i := 2) d_D_readShape_85 rfl rfl ?_
              refine M_ir d_D_readShape_86 rfl rfl ?_
              have hop : wlB (tk_ B j) = true := wl_t.mpr (by omega)
              have e : pLoop (tkT B) wlB one cmbS (f + 1) j a = bnd (one (j + 1)) (fun j2 v2 => pLoop (tkT B) wlB one cmbS f j2 (cmbS (tk_ B j) a v2)) := by show (if wlB (tk_ B j) then _ else _) = _; rw [hop]; rfl
              rw [e, hr2] at hR
              have hR2 : R = .inl q2 := hR.symm
              exact kq _ _ ⟨_, rfl, (by first | exact or_lt 20 ha hv2 | exact andn_lt ha), hY2, (offL_t (offL_t ho (ad_off (j := j))) ho2), by rw [hR2]; exact hD2⟩
          · rw [hr2] at hq2
            obtain ⟨hY2, ho2, hw2, hL2, lb2, har2⟩ := hq2
            subst hw2
            have hN2 := hL2.2.1
            have hlt2 := tk_lt B q2.1
            have hjl2 := Lv_N hL2
            refine J_istore (L1 := [some (.ref 11), some (.int (nI oo)), some (.int (nI a)), some (.int (nI i)), some (.int (nI 0)), some (.int (nI q2.2))]) d_D_readShape_58 (by decide) rfl ?_
            refine J_iload d_D_readShape_60 rfl ?_
            refine N_if_eq (tgt := 72) d_D_readShape_62 (by decide) (by omega) (fun c62 => ?_) (fun c62 => absurd c62 (by decide))
            refine J_iload_n (i := 2) d_D_readShape_72 rfl rfl ?_
            refine J_iload d_D_readShape_73 rfl ?_
            refine J_iconst (v := (-1)) d_D_readShape_75 rfl ?_
            refine J_ixor d_D_readShape_76 ?_
            refine J_iand d_D_readShape_77 ?_
            refine I_ton (n := andn a q2.2) (nI_andn a q2.2) ?_
            refine J_istore_n (i := 2) (L1 := [some (.ref 11), some (.int (nI oo)), some (.int (nI (andn a q2.2))), some (.int (nI i)), some (.int (nI 0)), some (.int (nI q2.2))]) d_D_readShape_78 rfl (by decide) rfl ?_
            refine N_iinc (a := i) (c := 1) (L1 := [some (.ref 11), some (.int (nI oo)), some (.int (nI (andn a q2.2))), some (.int (nI (i + 1))), some (.int (nI 0)), some (.int (nI q2.2))]) d_D_readShape_79 rfl rfl (by decide) rfl ?_
            refine J_goto (tgt := 8) d_D_readShape_82 (by decide) ?_
            have hop : wlB (tk_ B j) = true := wl_t.mpr (by omega)
            have e : pLoop (tkT B) wlB one cmbS (f + 1) j a = bnd (one (j + 1)) (fun j2 v2 => pLoop (tkT B) wlB one cmbS f j2 (cmbS (tk_ B j) a v2)) := by show (if wlB (tk_ B j) then _ else _) = _; rw [hop]; rfl
            have ev : cmbS (tk_ B j) a q2.2 = (andn a q2.2) := if_neg (by omega)
            rw [e, hr2] at hR
            have hR2 : pLoop (tkT B) wlB one cmbS f q2.1 (cmbS (tk_ B j) a q2.2) = R := hR
            rw [ev] at hR2
            exact ih (i + 1) Y2 _ _ _ _ (by omega) hY2 (offL_t (offL_t ho (ad_off (j := j))) ho2) hL2 (by omega) (har2.trans har) (by first | exact or_lt 20 ha hv2 | exact andn_lt ha) hR2
        · refine J_iconst (v := nI 1) d_D_readShape_42 rfl ?_
          refine J_goto (tgt := 47) d_D_readShape_43 (by decide) ?_
          refine J_istore (L1 := [some (.ref 11), some (.int (nI oo)), some (.int (nI a)), some (.int (nI i)), some (.int (nI 1)), z5]) d_D_readShape_47 (by decide) rfl ?_
          refine J_aload_n (i := 0) d_D_readShape_49 rfl rfl ?_
          refine CV_V (av := []) d_D_readShape_50 s_D_54 (M_rcv rfl (by decide) rfl) (S_D_advance hY hL (show tk_ B j ≠ 46 by omega)) (by omega) rfl rfl (Nat.le_of_ble_eq_true rfl) ?_
          have hL1 := ad_Lv hL (show tk_ B j ≠ 46 by omega)
          refine J_aload_n (i := 0) d_D_readShape_53 rfl rfl ?_
          refine J_iload_n (i := 1) d_D_readShape_54 rfl rfl ?_
          refine M_callV (av := [.int (nI oo)]) d_D_readShape_55 s_D_122 (M_rcv rfl (by decide) rfl) (hOne _ _ _ (ad_Ok hY) hL1) (by omega) rfl rfl (Nat.le_of_ble_eq_true rfl) (fun r2 Y2 hq2 => ?_)
          obtain ⟨v2, rfl, hv2, hq2⟩ := hq2
          rcases hr2 : one (j + 1) with q2 | q2
          · rw [hr2] at hq2
            obtain ⟨hY2, ho2, hD2⟩ := hq2
            have hD2 : Dd Y2 B N T q2.1 (stT B q2.2) := hD2
            have hf2 := hD2.2.2.2.2.1
            refine J_istore (L1 := [some (.ref 11), some (.int (nI oo)), some (.int (nI a)), some (.int (nI i)), some (.int (nI 1)), some (.int (nI v2))]) d_D_readShape_58 (by decide) rfl ?_
            refine J_iload d_D_readShape_60 rfl ?_
            refine N_if_eq (tgt := 72) d_D_readShape_62 (by decide) (by omega) (fun c62 => absurd c62 (by decide)) (fun c62 => ?_)
            refine J_iload_n (i := 2) d_D_readShape_65 rfl rfl ?_
            refine J_iload d_D_readShape_66 rfl ?_
            refine N_ior d_D_readShape_68 ?_
            refine J_goto (tgt := 78) d_D_readShape_69 (by decide) ?_
            refine J_istore_n (i := 2) (L1 := [some (.ref 11), some (.int (nI oo)), some (.int (nI (a ||| v2))), some (.int (nI i)), some (.int (nI 1)), some (.int (nI v2))]) d_D_readShape_78 rfl (by decide) rfl ?_
            refine N_iinc (a := i) (c := 1) (L1 := [some (.ref 11), some (.int (nI oo)), some (.int (nI (a ||| v2))), some (.int (nI (i + 1))), some (.int (nI 1)), some (.int (nI v2))]) d_D_readShape_79 rfl rfl (by decide) rfl ?_
            refine J_goto (tgt := 8) d_D_readShape_82 (by decide) ?_
            refine J_iload_n (i := 3) d_D_readShape_8 rfl rfl ?_
            refine J_sipush (v := nI 300) d_D_readShape_9 rfl ?_
            refine N_icmp_ge (tgt := 85) d_D_readShape_12 (by decide) (by omega) (by omega) (fun c12_1 => ?_) (fun c12_1 => ?_)
            · refine J_iload_n (i := 2) d_D_readShape_85 rfl rfl ?_
              refine M_ir d_D_readShape_86 rfl rfl ?_
              have hop : wlB (tk_ B j) = true := wl_t.mpr (by omega)
              have e : pLoop (tkT B) wlB one cmbS (f + 1) j a = bnd (one (j + 1)) (fun j2 v2 => pLoop (tkT B) wlB one cmbS f j2 (cmbS (tk_ B j) a v2)) := by show (if wlB (tk_ B j) then _ else _) = _; rw [hop]; rfl
              rw [e, hr2] at hR
              have hR2 : R = .inl q2 := hR.symm
              exact kq _ _ ⟨_, rfl, (by first | exact or_lt 20 ha hv2 | exact andn_lt ha), hY2, (offL_t (offL_t ho (ad_off (j := j))) ho2), by rw [hR2]; exact hD2⟩
            · refine J_aload_n (i := 0) d_D_readShape_15 rfl rfl ?_
              refine M_get (x := (nI 47)) d_D_readShape_16 f_D_32 rfl rfl hD2.2.2.1 ?_
              refine J_bipush (v := nI 15) d_D_readShape_19 rfl ?_
              refine N_icmp_eq (tgt := 33) d_D_readShape_21 (by decide) (by omega) (by omega) (fun c21_1 => absurd c21_1 (by decide)) (fun c21_1 => ?_)
              refine J_aload_n (i := 0) d_D_readShape_24 rfl rfl ?_
              refine M_get (x := (nI 47)) d_D_readShape_25 f_D_32 rfl rfl hD2.2.2.1 ?_
              refine J_bipush (v := nI 16) d_D_readShape_28 rfl ?_
              refine N_icmp_ne (tgt := 85) d_D_readShape_30 (by decide) (by omega) (by omega) (fun c30_1 => ?_) (fun c30_1 => absurd c30_1 (by decide))
              refine J_iload_n (i := 2) d_D_readShape_85 rfl rfl ?_
              refine M_ir d_D_readShape_86 rfl rfl ?_
              have hop : wlB (tk_ B j) = true := wl_t.mpr (by omega)
              have e : pLoop (tkT B) wlB one cmbS (f + 1) j a = bnd (one (j + 1)) (fun j2 v2 => pLoop (tkT B) wlB one cmbS f j2 (cmbS (tk_ B j) a v2)) := by show (if wlB (tk_ B j) then _ else _) = _; rw [hop]; rfl
              rw [e, hr2] at hR
              have hR2 : R = .inl q2 := hR.symm
              exact kq _ _ ⟨_, rfl, (by first | exact or_lt 20 ha hv2 | exact andn_lt ha), hY2, (offL_t (offL_t ho (ad_off (j := j))) ho2), by rw [hR2]; exact hD2⟩
          · rw [hr2] at hq2
            obtain ⟨hY2, ho2, hw2, hL2, lb2, har2⟩ := hq2
            subst hw2
            have hN2 := hL2.2.1
            have hlt2 := tk_lt B q2.1
            have hjl2 := Lv_N hL2
            refine J_istore (L1 := [some (.ref 11), some (.int (nI oo)), some (.int (nI a)), some (.int (nI i)), some (.int (nI 1)), some (.int (nI q2.2))]) d_D_readShape_58 (by decide) rfl ?_
            refine J_iload d_D_readShape_60 rfl ?_
            refine N_if_eq (tgt := 72) d_D_readShape_62 (by decide) (by omega) (fun c62 => absurd c62 (by decide)) (fun c62 => ?_)
            refine J_iload_n (i := 2) d_D_readShape_65 rfl rfl ?_
            refine J_iload d_D_readShape_66 rfl ?_
            refine N_ior d_D_readShape_68 ?_
            refine J_goto (tgt := 78) d_D_readShape_69 (by decide) ?_
            refine J_istore_n (i := 2) (L1 := [some (.ref 11), some (.int (nI oo)), some (.int (nI (a ||| q2.2))), some (.int (nI i)), some (.int (nI 1)), some (.int (nI q2.2))]) d_D_readShape_78 rfl (by decide) rfl ?_
            refine N_iinc (a := i) (c := 1) (L1 := [some (.ref 11), some (.int (nI oo)), some (.int (nI (a ||| q2.2))), some (.int (nI (i + 1))), some (.int (nI 1)), some (.int (nI q2.2))]) d_D_readShape_79 rfl rfl (by decide) rfl ?_
            refine J_goto (tgt := 8) d_D_readShape_82 (by decide) ?_
            have hop : wlB (tk_ B j) = true := wl_t.mpr (by omega)
            have e : pLoop (tkT B) wlB one cmbS (f + 1) j a = bnd (one (j + 1)) (fun j2 v2 => pLoop (tkT B) wlB one cmbS f j2 (cmbS (tk_ B j) a v2)) := by show (if wlB (tk_ B j) then _ else _) = _; rw [hop]; rfl
            have ev : cmbS (tk_ B j) a q2.2 = (a ||| q2.2) := if_pos (by omega)
            rw [e, hr2] at hR
            have hR2 : pLoop (tkT B) wlB one cmbS f q2.1 (cmbS (tk_ B j) a q2.2) = R := hR
            rw [ev] at hR2
            exact ih (i + 1) Y2 _ _ _ _ (by omega) hY2 (offL_t (offL_t ho (ad_off (j := j))) ho2) hL2 (by omega) (har2.trans har) (by first | exact or_lt 20 ha hv2 | exact andn_lt ha) hR2
theorem S_D_readShape {B : Nat → Nat} {N T dd oo : Nat} {w : Bool} {one : Nat → PR Nat} (hOne : CPart dd oo B N T w one) (hdd : 2 ≤ dd) : CShp (dd + 1) oo B N T w (pShapeP (tkT B) one) := by
  intro X j c hX hL
  have hkT := hL.1.2.1
  have h300 := hL.1.1.1
  have hjN := hL.2.1
  have hlt := tk_lt B j
  have hjl := Lv_N hL
  refine CM_of (L := [some (.ref 11), some (.int (nI oo)), none, none, none, none]) 4 ok_D_readShape (fun _ => Nat.le_of_ble_eq_true rfl) rfl ?_
  refine J_aload_n (i := 0) d_D_readShape_0 rfl rfl ?_
  refine J_iload_n (i := 1) d_D_readShape_1 rfl rfl ?_
  refine M_callV (av := [.int (nI oo)]) d_D_readShape_2 s_D_122 (M_rcv rfl (by decide) rfl) (hOne _ _ _ hX hL) (by omega) rfl rfl (Nat.le_of_ble_eq_true rfl) (fun r1 Y1 hq1 => ?_)
  obtain ⟨v1, rfl, hv1, hq1⟩ := hq1
  rcases hr1 : one j with q1 | q1
  · rw [hr1] at hq1
    obtain ⟨hY1, ho1, hD1⟩ := hq1
    have hD1 : Dd Y1 B N T q1.1 (stT B q1.2) := hD1
    have hf1 := hD1.2.2.2.2.1
    refine J_istore_n (i := 2) (L1 := [some (.ref 11), some (.int (nI oo)), some (.int (nI v1)), none, none, none]) d_D_readShape_5 rfl (by decide) rfl ?_
    refine J_iconst (v := nI 0) d_D_readShape_6 rfl ?_
    refine J_istore_n (i := 3) (L1 := [some (.ref 11), some (.int (nI oo)), some (.int (nI v1)), some (.int (nI 0)), none, none]) d_D_readShape_7 rfl (by decide) rfl ?_
    refine J_iload_n (i := 3) d_D_readShape_8 rfl rfl ?_
    refine J_sipush (v := nI 300) d_D_readShape_9 rfl ?_
    refine N_icmp_ge (tgt := 85) d_D_readShape_12 (by decide) (by omega) (by omega) (fun c12 => absurd c12 (by decide)) (fun c12 => ?_)
    refine J_aload_n (i := 0) d_D_readShape_15 rfl rfl ?_
    refine M_get (x := (nI 47)) d_D_readShape_16 f_D_32 rfl rfl hD1.2.2.1 ?_
    refine J_bipush (v := nI 15) d_D_readShape_19 rfl ?_
    refine N_icmp_eq (tgt := 33) d_D_readShape_21 (by decide) (by omega) (by omega) (fun c21 => absurd c21 (by decide)) (fun c21 => ?_)
    refine J_aload_n (i := 0) d_D_readShape_24 rfl rfl ?_
    refine M_get (x := (nI 47)) d_D_readShape_25 f_D_32 rfl rfl hD1.2.2.1 ?_
    refine J_bipush (v := nI 16) d_D_readShape_28 rfl ?_
    refine N_icmp_ne (tgt := 85) d_D_readShape_30 (by decide) (by omega) (by omega) (fun c30 => ?_) (fun c30 => absurd c30 (by decide))
    refine J_iload_n (i := 2) d_D_readShape_85 rfl rfl ?_
    refine M_ir d_D_readShape_86 rfl rfl ?_
    have e : pShapeP (tkT B) one j = .inl q1 := by rw [pShapeP, hr1]; rfl
    rw [e]
    exact ⟨_, rfl, hv1, hY1, (offL_t (offL_0 T X) ho1), hD1⟩
  · rw [hr1] at hq1
    obtain ⟨hY1, ho1, hw1, hL1, lb1, har1⟩ := hq1
    subst hw1
    have hN1 := hL1.2.1
    have hlt1 := tk_lt B q1.1
    have hjl1 := Lv_N hL1
    refine J_istore_n (i := 2) (L1 := [some (.ref 11), some (.int (nI oo)), some (.int (nI q1.2)), none, none, none]) d_D_readShape_5 rfl (by decide) rfl ?_
    refine J_iconst (v := nI 0) d_D_readShape_6 rfl ?_
    refine J_istore_n (i := 3) (L1 := [some (.ref 11), some (.int (nI oo)), some (.int (nI q1.2)), some (.int (nI 0)), none, none]) d_D_readShape_7 rfl (by decide) rfl ?_
    have e : pShapeP (tkT B) one j = pLoop (tkT B) wlB one cmbS 300 q1.1 q1.2 := by rw [pShapeP, hr1]; rfl
    rw [e]
    exact lp_D_readShape hOne hdd (fun Z r hZ => hZ) 300 0 Y1 q1.1 q1.2 _ _ rfl hY1 (offL_t (offL_0 T X) ho1) hL1 lb1 har1 hv1 rfl

theorem levS_c (B : Nat → Nat) (N T : Nat) (w : Bool) : ∀ n, n ≤ 8 → CPart (3 * n + 2) (8 - n) B N T w (levS (tkT B) n) := by
  intro n
  induction n with
  | zero =>
    intro _
    show CPart 2 8 B N T w (fPart (tkT B) none)
    rw [fPart_B]
    exact S_D_readPart S_D_readOpenPart_0 (by decide) (by decide)
  | succ n ih =>
    intro hn
    have i1 := ih (by omega)
    have eo : 8 - n = 8 - (n + 1) + 1 := by omega
    rw [eo] at i1
    have s1 := S_D_readShape i1 (by omega)
    rw [← pShape_P] at s1
    show CPart (3 * (n + 1) + 2) (8 - (n + 1)) B N T w (fPart (tkT B) (some (levS (tkT B) n)))
    rw [fPart_B]
    exact S_D_readPart (do_ := 3 * n + 4) (S_D_readOpenPart_1 (dd := 3 * n + 4) s1 i1 (by omega) (by omega) (by omega) (by omega)) (by omega) (by omega)
theorem shape_c (B : Nat → Nat) (N T : Nat) (w : Bool) : CShp 27 0 B N T w (pShape (tkT B) (levS (tkT B) 8)) := by
  rw [pShape_P]
  exact S_D_readShape (levS_c B N T w 8 (by decide)) (by decide)
