/-- held from 0 to t -/
def cgN (v : Int) (t : Nat) : Nat := if v < 0 then 0 else if (t : Int) < v then t else v.toNat
theorem cgN_le (v : Int) (t : Nat) : cgN v t ≤ t := by
  unfold cgN
  split
  · omega
  · split <;> omega
theorem cl_eq {v : Int} {t : Nat} (hv : sm v) (ht : t ≤ 99) : (if nI 0 < (if jI v < nI t then jI v else nI t) then (if jI v < nI t then jI v else nI t) else nI 0) = nI (cgN v t) := by
  have iv := sm_I hv
  have it : bI (t : Int) := ⟨by omega, by omega⟩
  have i0 : bI (0 : Int) := ⟨by decide, by decide⟩
  have l1 : jI v < nI t ↔ v < (t : Int) := by rw [← jI_n]; exact jI_lt iv it
  have l2 : nI 0 < jI v ↔ 0 < v := jI_lt (a := 0) i0 iv
  have l3 : nI 0 < nI t ↔ 0 < t := nI_ltI (by decide) (by omega)
  unfold cgN
  by_cases h1 : v < (t : Int)
  · rw [if_pos (l1.mpr h1), if_neg (show ¬ (t : Int) < v by omega)]
    by_cases h2 : 0 < v
    · rw [if_pos (l2.mpr h2), if_neg (by omega), ← jI_n, Int.toNat_of_nonneg (by omega)]
    · rw [if_neg (fun q => h2 (l2.mp q))]
      by_cases h3 : v < 0
      · rw [if_pos h3]
      · rw [if_neg h3, show v = 0 by omega]; rfl
  · rw [if_neg (fun q => h1 (l1.mp q)), if_neg (show ¬ v < 0 by omega)]
    by_cases h2 : 0 < t
    · rw [if_pos (l3.mpr h2)]
      by_cases h3 : (t : Int) < v
      · rw [if_pos h3]
      · rw [if_neg h3, show v = (t : Int) by omega]; rfl
    · rw [if_neg (fun q => h2 (l3.mp q))]
      obtain rfl : t = 0 := by omega
      by_cases h3 : ((0 : Nat) : Int) < v
      · rw [if_pos h3]
      · rw [if_neg h3, show v = 0 by omega]; rfl
/-- a law of a text of the class: there is none, or its code runs to D -/
def LwV (X : Mem) (T f : Nat) (cw : Nat → Nat) (D : Option (Env → Int)) : Prop := X.1 T f = b2i D.isSome ∧ ∀ d, D = some d → ∃ a b, X.1 T (f + 1) = nI a ∧ X.1 T (f + 2) = nI b ∧ b ≤ 300 ∧ ∀ e, okE e → sm (d e) ∧ ∃ m, stepsC e cw m a [] = some (b, [d e])
def wrV (D : Option (Env → Int)) (e : Env) : Nat := match D with
  | none => 3
  | some d => cgN (d e) 10
def feV (D : Option (Env → Int)) (e : Env) : Nat := match D with
  | none => bc (eST e)
  | some d => cgN (d e) 99
theorem wrV_le (D : Option (Env → Int)) (e : Env) : wrV D e ≤ 10 := by
  cases D with
  | none => exact (show 3 ≤ 10 by decide)
  | some d => exact cgN_le _ _
theorem feV_le (D : Option (Env → Int)) (e : Env) : feV D e ≤ 99 := by
  cases D with
  | none => have := bc_le (eST e); show bc (eST e) ≤ 99; omega
  | some d => exact cgN_le _ _
/-- what the laws of the class leave behind -/
def lawY (X Y : Mem) : Prop := ∃ h l, l.length = 300 ∧ Y = pA (pF X 16 1 h) 17 l
theorem lawY_0 {X : Mem} (hX : Ok X) : lawY X X := ⟨X.1 16 1, X.2.1 17, by rw [hX.1 17 (by decide)]; rfl, by rw [pF_eta, pA_eta]⟩
theorem S_L_wearsBy_n {X : Mem} {a : Nat} {e : Env} (hX : Ok X) (hE : CE X a e) (hO : okE e) : CM 4 m_L_wearsBy [.ref 16, .null, .ref a, .int (nI e.2.2.2.2.1), .int (jI e.2.2.2.2.2)] X (fun r Y => r = some (.int (nI (wrV none e))) ∧ lawY X Y) := by
  have hm8 := hO.1
  have hmk := hO.2.1
  have hst := hO.2.2.1 e.2.2.2.2.1 (by omega)
  refine CM_of (L := [some (.ref 16), some (.null), some (.ref a), some (.int (nI e.2.2.2.2.1)), some (.int (jI e.2.2.2.2.2)), none]) 1 ok_L_wearsBy (fun _ => Nat.le_of_ble_eq_true rfl) rfl ?_
  refine J_aload_nN (i := 1) d_L_wearsBy_0 rfl rfl ?_
  refine J_ifnull_n (tgt := 11) d_L_wearsBy_1 (by decide) ?_
  refine J_iconst (v := nI 3) d_L_wearsBy_11 rfl ?_
  refine M_ir d_L_wearsBy_12 rfl rfl ?_
  exact ⟨rfl, lawY_0 hX⟩

theorem S_L_wearsBy_0 {X : Mem} {a : Nat} {e : Env} (hX : Ok X) (hE : CE X a e) (hO : okE e) {T : Nat} {cw : Nat → Nat} (hT : TC X T cw) (hl1 : LwV X T 2 cw none) : CM 4 m_L_wearsBy [.ref 16, .ref T, .ref a, .int (nI e.2.2.2.2.1), .int (jI e.2.2.2.2.2)] X (fun r Y => r = some (.int (nI (wrV none e))) ∧ lawY X Y) := by
  have hm8 := hO.1
  have hmk := hO.2.1
  have hst := hO.2.2.1 e.2.2.2.2.1 (by omega)
  refine CM_of (L := [some (.ref 16), some (.ref T), some (.ref a), some (.int (nI e.2.2.2.2.1)), some (.int (jI e.2.2.2.2.2)), none]) 1 ok_L_wearsBy (fun _ => Nat.le_of_ble_eq_true rfl) rfl ?_
  refine J_aload_n (i := 1) d_L_wearsBy_0 rfl rfl ?_
  refine J_ifnull_r d_L_wearsBy_1 ?_
  refine J_aload_n (i := 1) d_L_wearsBy_4 rfl rfl ?_
  refine M_get (x := (b2i false)) d_L_wearsBy_5 f_L_15 hT.1 rfl hl1.1 ?_
  refine B_if_ne (tgt := 13) d_L_wearsBy_8 (by decide) (fun c8 => absurd c8 (by decide)) (fun c8 => ?_)
  refine J_iconst (v := nI 3) d_L_wearsBy_11 rfl ?_
  refine M_ir d_L_wearsBy_12 rfl rfl ?_
  exact ⟨rfl, lawY_0 hX⟩

theorem S_L_wearsBy_1 {X : Mem} {a : Nat} {e : Env} (hX : Ok X) (hE : CE X a e) (hO : okE e) {T : Nat} {cw : Nat → Nat} {dd : Env → Int} (hT : TC X T cw) (hl1 : LwV X T 2 cw (some dd)) : CM 4 m_L_wearsBy [.ref 16, .ref T, .ref a, .int (nI e.2.2.2.2.1), .int (jI e.2.2.2.2.2)] X (fun r Y => r = some (.int (nI (wrV (some dd) e))) ∧ lawY X Y) := by
  have hm8 := hO.1
  have hmk := hO.2.1
  have hst := hO.2.2.1 e.2.2.2.2.1 (by omega)
  obtain ⟨fm, to, hfm, hto2, hto, hrun⟩ := hl1.2 dd rfl
  obtain ⟨hsm, m, hs⟩ := hrun e hO
  refine CM_of (L := [some (.ref 16), some (.ref T), some (.ref a), some (.int (nI e.2.2.2.2.1)), some (.int (jI e.2.2.2.2.2)), none]) 1 ok_L_wearsBy (fun _ => Nat.le_of_ble_eq_true rfl) rfl ?_
  refine J_aload_n (i := 1) d_L_wearsBy_0 rfl rfl ?_
  refine J_ifnull_r d_L_wearsBy_1 ?_
  refine J_aload_n (i := 1) d_L_wearsBy_4 rfl rfl ?_
  refine M_get (x := (b2i true)) d_L_wearsBy_5 f_L_15 hT.1 rfl (show X.1 T 2 = b2i true from hl1.1) ?_
  refine B_if_ne (tgt := 13) d_L_wearsBy_8 (by decide) (fun c8 => ?_) (fun c8 => absurd c8 (by decide))
  refine J_aload_n (i := 0) d_L_wearsBy_13 rfl rfl ?_
  refine J_aload_n (i := 1) d_L_wearsBy_14 rfl rfl ?_
  refine J_aload_n (i := 1) d_L_wearsBy_15 rfl rfl ?_
  refine M_get (x := (nI fm)) d_L_wearsBy_16 f_L_21 hT.1 rfl hfm ?_
  refine J_aload_n (i := 1) d_L_wearsBy_19 rfl rfl ?_
  refine M_get (x := (nI to)) d_L_wearsBy_20 f_L_25 hT.1 rfl hto2 ?_
  refine J_aload_n (i := 2) d_L_wearsBy_23 rfl rfl ?_
  refine J_iload_n (i := 3) d_L_wearsBy_24 rfl rfl ?_
  refine J_iload d_L_wearsBy_25 rfl ?_
  refine M_callV (av := [.ref T, .int (nI fm), .int (nI to), .ref a, .int (nI e.2.2.2.2.1), .int (jI e.2.2.2.2.2)]) d_L_wearsBy_27 s_L_28 (M_rcv rfl (by decide) rfl) (S_L_run hX hE hO hT hto hs) (by decide) rfl rfl (Nat.le_of_ble_eq_true rfl) (fun r Y hq => ?_)
  obtain ⟨rfl, h, l, hl, rfl⟩ := hq
  refine J_istore (L1 := [some (.ref 16), some (.ref T), some (.ref a), some (.int (nI e.2.2.2.2.1)), some (.int (jI e.2.2.2.2.2)), some (.int (jI (dd e)))]) d_L_wearsBy_30 (by decide) rfl ?_
  refine J_iconst (v := nI 0) d_L_wearsBy_32 rfl ?_
  refine J_bipush (v := nI 10) d_L_wearsBy_33 rfl ?_
  refine J_iload d_L_wearsBy_35 rfl ?_
  refine J_mmin d_L_wearsBy_37 w_L_32 w_math_min_s w_mathInit w_math_min_c (by omega) (Nat.le_of_ble_eq_true rfl) ?_
  refine J_mmax d_L_wearsBy_40 w_L_38 w_math_max_s w_mathInit w_math_max_c (by omega) (Nat.le_of_ble_eq_true rfl) ?_
  refine M_ir d_L_wearsBy_43 rfl rfl ?_
  exact ⟨by rw [cl_eq hsm (by decide)]; rfl, h, l, hl, rfl⟩

theorem S_L_feeBy_n {X : Mem} {a : Nat} {e : Env} (hX : Ok X) (hE : CE X a e) (hO : okE e) (hw : e.2.2.2.2.2 = -1) : CM 4 m_L_feeBy [.ref 16, .null, .ref a, .int (nI e.2.2.2.2.1)] X (fun r Y => r = some (.int (nI (feV none e))) ∧ lawY X Y) := by
  have hm8 := hO.1
  have hmk := hO.2.1
  have hst := hO.2.2.1 e.2.2.2.2.1 (by omega)
  refine CM_of (L := [some (.ref 16), some (.null), some (.ref a), some (.int (nI e.2.2.2.2.1)), none]) 1 ok_L_feeBy (fun _ => Nat.le_of_ble_eq_true rfl) rfl ?_
  refine J_aload_nN (i := 1) d_L_feeBy_0 rfl rfl ?_
  refine J_ifnull_n (tgt := 11) d_L_feeBy_1 (by decide) ?_
  refine J_aload_n (i := 2) d_L_feeBy_11 rfl rfl ?_
  refine M_getR (b := (a + 1)) d_L_feeBy_12 f_L_44 hE.1 rfl (now_f hE.1).1 ?_
  refine J_iload_n (i := 3) d_L_feeBy_15 rfl rfl ?_
  refine N_iald (x := (nI (e.2.1 e.2.2.2.2.1))) d_L_feeBy_16 (now_f hE.1).2.2.1 (by omega) (ltL hX (a := a + 1) (n := 8) (by omega) (now_f hE.1).2.2.2.2.1 (by omega)) (hE.2.2.1 e.2.2.2.2.1 (by omega)) ?_
  refine CS_N (av := [.int (nI (e.2.1 e.2.2.2.2.1))]) d_L_feeBy_17 s_L_49 (S_bitCount (by omega)) (by decide) rfl rfl (Nat.le_of_ble_eq_true rfl) ?_
  refine M_ir d_L_feeBy_20 rfl rfl ?_
  exact ⟨rfl, lawY_0 hX⟩

theorem S_L_feeBy_0 {X : Mem} {a : Nat} {e : Env} (hX : Ok X) (hE : CE X a e) (hO : okE e) (hw : e.2.2.2.2.2 = -1) {T : Nat} {cw : Nat → Nat} (hT : TC X T cw) (hl1 : LwV X T 5 cw none) : CM 4 m_L_feeBy [.ref 16, .ref T, .ref a, .int (nI e.2.2.2.2.1)] X (fun r Y => r = some (.int (nI (feV none e))) ∧ lawY X Y) := by
  have hm8 := hO.1
  have hmk := hO.2.1
  have hst := hO.2.2.1 e.2.2.2.2.1 (by omega)
  refine CM_of (L := [some (.ref 16), some (.ref T), some (.ref a), some (.int (nI e.2.2.2.2.1)), none]) 1 ok_L_feeBy (fun _ => Nat.le_of_ble_eq_true rfl) rfl ?_
  refine J_aload_n (i := 1) d_L_feeBy_0 rfl rfl ?_
  refine J_ifnull_r d_L_feeBy_1 ?_
  refine J_aload_n (i := 1) d_L_feeBy_4 rfl rfl ?_
  refine M_get (x := (b2i false)) d_L_feeBy_5 f_L_41 hT.1 rfl hl1.1 ?_
  refine B_if_ne (tgt := 21) d_L_feeBy_8 (by decide) (fun c8 => absurd c8 (by decide)) (fun c8 => ?_)
  refine J_aload_n (i := 2) d_L_feeBy_11 rfl rfl ?_
  refine M_getR (b := (a + 1)) d_L_feeBy_12 f_L_44 hE.1 rfl (now_f hE.1).1 ?_
  refine J_iload_n (i := 3) d_L_feeBy_15 rfl rfl ?_
  refine N_iald (x := (nI (e.2.1 e.2.2.2.2.1))) d_L_feeBy_16 (now_f hE.1).2.2.1 (by omega) (ltL hX (a := a + 1) (n := 8) (by omega) (now_f hE.1).2.2.2.2.1 (by omega)) (hE.2.2.1 e.2.2.2.2.1 (by omega)) ?_
  refine CS_N (av := [.int (nI (e.2.1 e.2.2.2.2.1))]) d_L_feeBy_17 s_L_49 (S_bitCount (by omega)) (by decide) rfl rfl (Nat.le_of_ble_eq_true rfl) ?_
  refine M_ir d_L_feeBy_20 rfl rfl ?_
  exact ⟨rfl, lawY_0 hX⟩

theorem S_L_feeBy_1 {X : Mem} {a : Nat} {e : Env} (hX : Ok X) (hE : CE X a e) (hO : okE e) (hw : e.2.2.2.2.2 = -1) {T : Nat} {cw : Nat → Nat} {dd : Env → Int} (hT : TC X T cw) (hl1 : LwV X T 5 cw (some dd)) : CM 4 m_L_feeBy [.ref 16, .ref T, .ref a, .int (nI e.2.2.2.2.1)] X (fun r Y => r = some (.int (nI (feV (some dd) e))) ∧ lawY X Y) := by
  have hm8 := hO.1
  have hmk := hO.2.1
  have hst := hO.2.2.1 e.2.2.2.2.1 (by omega)
  obtain ⟨fm, to, hfm, hto2, hto, hrun⟩ := hl1.2 dd rfl
  obtain ⟨hsm, m, hs⟩ := hrun e hO
  refine CM_of (L := [some (.ref 16), some (.ref T), some (.ref a), some (.int (nI e.2.2.2.2.1)), none]) 1 ok_L_feeBy (fun _ => Nat.le_of_ble_eq_true rfl) rfl ?_
  refine J_aload_n (i := 1) d_L_feeBy_0 rfl rfl ?_
  refine J_ifnull_r d_L_feeBy_1 ?_
  refine J_aload_n (i := 1) d_L_feeBy_4 rfl rfl ?_
  refine M_get (x := (b2i true)) d_L_feeBy_5 f_L_41 hT.1 rfl (show X.1 T 5 = b2i true from hl1.1) ?_
  refine B_if_ne (tgt := 21) d_L_feeBy_8 (by decide) (fun c8 => ?_) (fun c8 => absurd c8 (by decide))
  refine J_aload_n (i := 0) d_L_feeBy_21 rfl rfl ?_
  refine J_aload_n (i := 1) d_L_feeBy_22 rfl rfl ?_
  refine J_aload_n (i := 1) d_L_feeBy_23 rfl rfl ?_
  refine M_get (x := (nI fm)) d_L_feeBy_24 f_L_55 hT.1 rfl hfm ?_
  refine J_aload_n (i := 1) d_L_feeBy_27 rfl rfl ?_
  refine M_get (x := (nI to)) d_L_feeBy_28 f_L_58 hT.1 rfl hto2 ?_
  refine J_aload_n (i := 2) d_L_feeBy_31 rfl rfl ?_
  refine J_iload_n (i := 3) d_L_feeBy_32 rfl rfl ?_
  refine J_iconst (v := (-1)) d_L_feeBy_33 rfl ?_
  rw [show (-1 : Int32) = jI e.2.2.2.2.2 from by rw [hw]; rfl]
  refine M_callV (av := [.ref T, .int (nI fm), .int (nI to), .ref a, .int (nI e.2.2.2.2.1), .int (jI e.2.2.2.2.2)]) d_L_feeBy_34 s_L_28 (M_rcv rfl (by decide) rfl) (S_L_run hX hE hO hT hto hs) (by decide) rfl rfl (Nat.le_of_ble_eq_true rfl) (fun r Y hq => ?_)
  obtain ⟨rfl, h, l, hl, rfl⟩ := hq
  refine J_istore (L1 := [some (.ref 16), some (.ref T), some (.ref a), some (.int (nI e.2.2.2.2.1)), some (.int (jI (dd e)))]) d_L_feeBy_37 (by decide) rfl ?_
  refine J_iconst (v := nI 0) d_L_feeBy_39 rfl ?_
  refine J_bipush (v := nI 99) d_L_feeBy_40 rfl ?_
  refine J_iload d_L_feeBy_42 rfl ?_
  refine J_mmin d_L_feeBy_44 w_L_32 w_math_min_s w_mathInit w_math_min_c (by omega) (Nat.le_of_ble_eq_true rfl) ?_
  refine J_mmax d_L_feeBy_47 w_L_38 w_math_max_s w_mathInit w_math_max_c (by omega) (Nat.le_of_ble_eq_true rfl) ?_
  refine M_ir d_L_feeBy_50 rfl rfl ?_
  exact ⟨by rw [cl_eq hsm (by decide)]; rfl, h, l, hl, rfl⟩

