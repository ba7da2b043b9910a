/-- the laws that rule -/
def lwS (s : Sg) : Option (Env → Int) × Option (Env → Int) := if s.1 2 = -1 then (none, none) else ((s.2.2.2.2.2.2 (tn (s.1 2))).1, (s.2.2.2.2.2.2 (tn (s.1 2))).2.1)
def envR (r : Nat → Int32) (k : Nat) (w : Int) : Env := (mOf r, (stOf r, (tn (r 6), (tn (r 8), (k, w)))))
theorem okE_r {r : Nat → Int32} (hw : WFr r) {k : Nat} {w : Int} (hk : k < mOf r) (h1 : -1 ≤ w) (h2 : w ≤ 19) : okE (envR r k w) := by
  have w0 := wf_1 hw (j := 0) (n := 8) (by decide) (by decide) (by decide)
  have w6 := wf_1 hw (j := 6) (n := 9999) (by decide) (by decide) (by decide)
  have w8 := wf_1 hw (j := 8) (n := 999999) (by decide) (by decide) (by decide)
  refine ⟨w0.2, hk, fun i hi => ?_, w6.2, w8.2, h1, h2⟩
  have w := wf_1 hw (j := 10 + i) (n := 1048575) (by omega) (by omega) (by rw [(bd_10 i hi).1]; exact Nat.le_refl _)
  show tn (r (10 + i)) < 1048576
  omega
theorem CE_n {X : Mem} {a : Nat} {r : Nat → Int32} (hc : CNow X a (nowG r)) (hw : WFr r) (k : Nat) (w : Int) : CE X a (envR r k w) := by
  have w0 := wf_1 hw (j := 0) (n := 8) (by decide) (by decide) (by decide)
  have w6 := wf_1 hw (j := 6) (n := 9999) (by decide) (by decide) (by decide)
  have w8 := wf_1 hw (j := 8) (n := 999999) (by decide) (by decide) (by decide)
  obtain ⟨h1, h2, h3, _, h5, _, h7, _⟩ := hc
  refine ⟨h1, by rw [h2]; exact w0.1, fun i hi => ?_, by rw [h3]; exact w6.1, by rw [h5]; exact w8.1⟩
  have wi := wf_1 hw (j := 10 + i) (n := 1048575) (by omega) (by omega) (by rw [(bd_10 i hi).1]; exact Nat.le_refl _)
  rw [h7 i hi, show nowG r (5 + i) = r (10 + i) from by unfold nowG; rw [if_neg (by omega), if_pos (by omega), ← Nat.add_assoc]]
  exact wi.1
theorem RE_n {X : Mem} {s : Sg} (h : RI X s) (hw : WFr s.1) (k : Nat) (w : Int) : RE X (envR s.1 k w) := by
  have w0 := wf_1 hw (j := 0) (n := 8) (by decide) (by decide) (by decide)
  have w6 := wf_1 hw (j := 6) (n := 9999) (by decide) (by decide) (by decide)
  have w8 := wf_1 hw (j := 8) (n := 999999) (by decide) (by decide) (by decide)
  refine ⟨by rw [ri_at h (by decide)]; exact w0.1, fun i hi => ?_, by rw [ri_at h (by decide)]; exact w6.1, by rw [ri_at h (by decide)]; exact w8.1⟩
  have wi := wf_1 hw (j := 10 + i) (n := 1048575) (by omega) (by omega) (by rw [(bd_10 i hi).1]; exact Nat.le_refl _)
  rw [ri_at h (by omega)]
  exact wi.1
def rvL (X : Mem) (rv : Value) (DW DF : Option (Env → Int)) : Prop := (rv = .null ∧ DW = none ∧ DF = none) ∨ ∃ T cw, rv = .ref T ∧ TC X T cw ∧ LwV X T 2 cw DW ∧ LwV X T 5 cw DF
theorem S_O_rulesL {X : Mem} {s : Sg} (hX : Ok X) (hC : CI X s) (hw : WFs s) : CM 1 m_O_rules [.ref 8] X (fun r Y => Y = X ∧ ∃ rv, r = some rv ∧ rvL X rv (lwS s).1 (lwS s).2) := by
  refine (S_O_rules (v := s.1 2) hX (v_CTx hC hw) hC.1.2.2.2.1.2.1).imp ?_
  rintro r Y ⟨rfl, h⟩
  refine ⟨rfl, ?_⟩
  rcases h with ⟨h1, rfl⟩ | ⟨t, ht, hv, rfl⟩
  · refine ⟨.null, rfl, Or.inl ⟨rfl, ?_⟩⟩
    rcases hw.1.2.1 with h2 | h2
    · unfold lwS; rw [if_pos h2]; exact ⟨rfl, rfl⟩
    · rw [h2] at h1; cases h1
  · have w1 := wf_1 hw.1 (j := 1) (n := 4) (by decide) (by decide) (by decide)
    obtain ⟨cw, q1, q2, q3, _⟩ := hC.2.2.2.2 t ht (by omega)
    refine ⟨.ref (txT t), rfl, Or.inr ⟨txT t, cw, rfl, q1, ?_⟩⟩
    have hne : ¬ s.1 2 = -1 := by rw [hv]; exact nI_nm1 (by omega)
    unfold lwS
    rw [if_neg hne, hv, tn_nI (by omega)]
    exact ⟨q2, q3⟩
theorem S_L_wearsByV {X : Mem} {a : Nat} {e : Env} {rv : Value} {DW DF : Option (Env → Int)} (hX : Ok X) (hE : CE X a e) (hO : okE e) (hr : rvL X rv DW DF) : CM 4 m_L_wearsBy [.ref 16, rv, .ref a, .int (nI e.2.2.2.2.1), .int (jI e.2.2.2.2.2)] X (fun r Y => r = some (.int (nI (wrV DW e))) ∧ lawY X Y) := by
  rcases hr with ⟨rfl, rfl, _⟩ | ⟨T, cw, rfl, h1, h2, _⟩
  · exact S_L_wearsBy_n hX hE hO
  · cases DW with
    | none => exact S_L_wearsBy_0 hX hE hO h1 h2
    | some d => exact S_L_wearsBy_1 hX hE hO h1 h2
theorem S_L_feeByV {X : Mem} {a : Nat} {e : Env} {rv : Value} {DW DF : Option (Env → Int)} (hX : Ok X) (hE : CE X a e) (hO : okE e) (hw : e.2.2.2.2.2 = -1) (hr : rvL X rv DW DF) : CM 4 m_L_feeBy [.ref 16, rv, .ref a, .int (nI e.2.2.2.2.1)] X (fun r Y => r = some (.int (nI (feV DF e))) ∧ lawY X Y) := by
  rcases hr with ⟨rfl, _, rfl⟩ | ⟨T, cw, rfl, h1, _, h2⟩
  · exact S_L_feeBy_n hX hE hO hw
  · cases DF with
    | none => exact S_L_feeBy_0 hX hE hO hw h1 h2
    | some d => exact S_L_feeBy_1 hX hE hO hw h1 h2
/-- fee and wears as they are -/
def fe_ (s : Sg) (k : Nat) : Nat := feV (lwS s).2 (envR s.1 k 0)
def wr_ (s : Sg) (k w : Nat) : Nat := wrV (lwS s).1 (envR s.1 k (w : Int))
theorem fe_w {s : Sg} (hw : WFs s) (k : Nat) : feV (lwS s).2 (envR s.1 k (-1)) = fe_ s k := by
  unfold fe_ feV
  cases hd : (lwS s).2 with
  | none => rfl
  | some d =>
    show cgN _ 99 = cgN _ 99
    congr 1
    unfold lwS at hd
    split at hd
    · cases hd
    · rename_i h2
      have hm : mkB (tn (s.1 1)) (s.1 2) = true := by
        rcases hw.1.2.1 with q | q
        · exact absurd q h2
        · exact q
      have w1 := wf_1 hw.1 (j := 1) (n := 4) (by decide) (by decide) (by decide)
      obtain ⟨t, ht, e⟩ := mk_n (by omega) hm
      rw [e, tn_nI (by omega)] at hd
      exact (hw.2.2.2.2 t ht).2.2 d hd _ _ _ _ _ _ _
theorem TxR_s {X : Mem} {s : Sg} (hC : RI X s) (hw : WFs s) : TxR X (s.1 2) (lwS s).1 (lwS s).2 := by
  unfold lwS
  by_cases h2 : s.1 2 = -1
  · rw [if_pos h2]
    exact Or.inl ⟨h2, rfl, rfl⟩
  · rw [if_neg h2]
    have hm : mkB (tn (s.1 1)) (s.1 2) = true := by
      rcases hw.1.2.1 with q | q
      · exact absurd q h2
      · exact q
    have w1 := wf_1 hw.1 (j := 1) (n := 4) (by decide) (by decide) (by decide)
    obtain ⟨t, ht, e⟩ := mk_n (by omega) hm
    obtain ⟨oc, vc, q1, q2, q3, q4, _⟩ := hC.2.2.2.2 t ht (by omega)
    right
    rw [e, tn_nI (by omega)]
    exact ⟨t, oc, vc, _, _, rfl, q1, q2, q3, q4⟩
theorem lawR_0 {X : Mem} (hX : Ok X) : lawR X X := ⟨X.2.1 256, X.2.2.1 257, X.2.1 258, by rw [hX.1 256 (by decide)]; rfl, by rw [hX.2.1 257]; rfl, by rw [hX.1 258 (by decide)]; rfl, by rw [pA_eta, rk2, pL_eta, pA_eta]⟩
def ofO (s : Sg) (i k : Int32) : Int32 := if mkB (mOf s.1) i then (if k = nI 0 then nI (stOf s.1 (tn i)) else if k = nI 1 then nI (rgOf s.1 (tn i)) else if k = nI 2 then nI (bc (stOf s.1 (tn i))) else if k = nI 3 then nI (bc (odd (stOf s.1 (tn i)))) else if k = nI 4 then nI (pic (stOf s.1 (tn i))) else if k = nI 5 then hol (stOf s.1 (tn i)) else if k = nI 6 then nI (crs (stOf s.1 (tn i))) else if k = nI 7 then nI (fe_ s (tn i)) else (-1)) else (-1)
def wrO (s : Sg) (i k : Int32) : Int32 := if mkB (mOf s.1) i && inR k 19 then nI (wr_ s (tn i) (tn k)) else (-1)
theorem S_O_of {X : Mem} {s : Sg} {i k : Int32} (hX : Ok X) (hC : CI X s) (hw : WFs s) : CM 5 m_O_of [.ref 8, .int i, .int k] X (fun r Y => r = some (.int (ofO s i k)) ∧ lawY X Y) := by
  have hS := v_CSt hC hw
  refine CM_of (L := [some (.ref 8), some (.int i), some (.int k), none]) 1 ok_O_of (fun _ => Nat.le_of_ble_eq_true rfl) rfl ?_
  refine J_aload_n (i := 0) d_O_of_0 rfl rfl ?_
  refine J_iload_n (i := 1) d_O_of_1 rfl rfl ?_
  refine CV_B (av := [.int i]) d_O_of_2 s_O_166 (M_rcv rfl (by decide) rfl) (S_O_isMark hX hS) (by decide) rfl rfl (Nat.le_of_ble_eq_true rfl) ?_
  refine B_if_ne (tgt := 10) d_O_of_5 (by decide) (fun c5 => ?_) (fun c5 => ?_)
  · obtain ⟨i_, hi_, rfl⟩ := mk_n hS.1 c5
    have hm8 := hS.1
    have hst_ := (hS.2.2.1 i_ (by omega)).2
    have hrg_ := (hS.2.2.2 i_ (by omega)).2
    have hoST := odd_lt (stOf s.1 i_)
    have ti := tn_nI (show i_ < 2147483648 by omega)
    refine J_aload_n (i := 0) d_O_of_10 rfl rfl ?_
    refine M_getR (b := 18) d_O_of_11 f_O_48 rfl rfl rfl ?_
    refine M_getR (b := 19) d_O_of_14 f_O_110 rfl rfl rfl ?_
    refine M_getR (b := 20) d_O_of_17 f_O_169 rfl rfl rfl ?_
    refine J_iload_n (i := 1) d_O_of_20 rfl rfl ?_
    refine N_iald (x := (nI (stOf s.1 i_))) d_O_of_21 rfl (by omega) (ltL hX (a := 20) (n := 8) (by decide) rfl (by omega)) (hS.2.2.1 i_ (by omega)).1 ?_
    refine J_istore_n (i := 3) (L1 := [some (.ref 8), some (.int (nI i_)), some (.int k), some (.int (nI (stOf s.1 i_)))]) d_O_of_22 rfl (by decide) rfl ?_
    refine J_iload_n (i := 2) d_O_of_23 rfl rfl ?_
    rcases Bool.eq_false_or_eq_true (inR k 7) with hsw | hsw
    · obtain ⟨jj, hjj, rfl⟩ := inR_n hsw (by decide)
      have hcase : jj = 0 ∨ jj = 1 ∨ jj = 2 ∨ jj = 3 ∨ jj = 4 ∨ jj = 5 ∨ jj = 6 ∨ jj = 7 := by omega
      rcases hcase with rfl | rfl | rfl | rfl | rfl | rfl | rfl | rfl
      · refine J_tableIn (off := 48) (tgt := 72) d_O_of_24 (by decide) (by decide) (by decide) (by decide) ?_
        refine J_iload_n (i := 3) d_O_of_72 rfl rfl ?_
        refine M_ir d_O_of_73 rfl rfl ?_
        exact ⟨by rw [ofO, c5, if_pos rfl, ti]; rfl, lawY_0 hX⟩
      · refine J_tableIn (off := 50) (tgt := 74) d_O_of_24 (by decide) (by decide) (by decide) (by decide) ?_
        refine J_aload_n (i := 0) d_O_of_74 rfl rfl ?_
        refine M_getR (b := 18) d_O_of_75 f_O_48 rfl rfl rfl ?_
        refine M_getR (b := 114) d_O_of_78 f_O_172 rfl rfl rfl ?_
        refine J_iload_n (i := 1) d_O_of_81 rfl rfl ?_
        refine N_iald (x := (nI (rgOf s.1 i_))) d_O_of_82 rfl (by omega) (ltL hX (a := 114) (n := 8) (by decide) rfl (by omega)) (hS.2.2.2 i_ (by omega)).1 ?_
        refine M_ir d_O_of_83 rfl rfl ?_
        exact ⟨by rw [ofO, c5, if_pos rfl, ti]; rfl, lawY_0 hX⟩
      · refine J_tableIn (off := 60) (tgt := 84) d_O_of_24 (by decide) (by decide) (by decide) (by decide) ?_
        refine J_iload_n (i := 3) d_O_of_84 rfl rfl ?_
        refine CS_N (av := [.int (nI (stOf s.1 i_))]) d_O_of_85 s_O_175 (S_bitCount (by omega)) (by decide) rfl rfl (Nat.le_of_ble_eq_true rfl) ?_
        refine M_ir d_O_of_88 rfl rfl ?_
        exact ⟨by rw [ofO, c5, if_pos rfl, ti]; rfl, lawY_0 hX⟩
      · refine J_tableIn (off := 65) (tgt := 89) d_O_of_24 (by decide) (by decide) (by decide) (by decide) ?_
        refine J_iload_n (i := 3) d_O_of_89 rfl rfl ?_
        refine CS_N (av := [.int (nI (stOf s.1 i_))]) d_O_of_90 s_O_180 (S_K_oddPoints hX (by omega)) (by decide) rfl rfl (Nat.le_of_ble_eq_true rfl) ?_
        refine CS_N (av := [.int (nI (odd (stOf s.1 i_)))]) d_O_of_93 s_O_175 (S_bitCount (by omega)) (by decide) rfl rfl (Nat.le_of_ble_eq_true rfl) ?_
        refine M_ir d_O_of_96 rfl rfl ?_
        exact ⟨by rw [ofO, c5, if_pos rfl, ti]; rfl, lawY_0 hX⟩
      · refine J_tableIn (off := 73) (tgt := 97) d_O_of_24 (by decide) (by decide) (by decide) (by decide) ?_
        refine J_iload_n (i := 3) d_O_of_97 rfl rfl ?_
        refine CS_N (av := [.int (nI (stOf s.1 i_))]) d_O_of_98 s_O_185 (S_K_countPieces hX (by omega)) (by decide) rfl rfl (Nat.le_of_ble_eq_true rfl) ?_
        refine M_ir d_O_of_101 rfl rfl ?_
        exact ⟨by rw [ofO, c5, if_pos rfl, ti]; rfl, lawY_0 hX⟩
      · refine J_tableIn (off := 78) (tgt := 102) d_O_of_24 (by decide) (by decide) (by decide) (by decide) ?_
        refine J_iload_n (i := 3) d_O_of_102 rfl rfl ?_
        refine CS_I (av := [.int (nI (stOf s.1 i_))]) d_O_of_103 s_O_188 (S_K_countHoles hX (by omega)) (by decide) rfl rfl (Nat.le_of_ble_eq_true rfl) ?_
        refine M_ir d_O_of_106 rfl rfl ?_
        exact ⟨by rw [ofO, c5, if_pos rfl, ti]; rfl, lawY_0 hX⟩
      · refine J_tableIn (off := 83) (tgt := 107) d_O_of_24 (by decide) (by decide) (by decide) (by decide) ?_
        refine J_iload_n (i := 3) d_O_of_107 rfl rfl ?_
        refine CS_N (av := [.int (nI (stOf s.1 i_))]) d_O_of_108 s_O_191 (S_K_countCrossings (by omega)) (by decide) rfl rfl (Nat.le_of_ble_eq_true rfl) ?_
        refine M_ir d_O_of_111 rfl rfl ?_
        exact ⟨by rw [ofO, c5, if_pos rfl, ti]; rfl, lawY_0 hX⟩
      · refine J_tableIn (off := 88) (tgt := 112) d_O_of_24 (by decide) (by decide) (by decide) (by decide) ?_
        refine J_aload_n (i := 0) d_O_of_112 rfl rfl ?_
        refine M_getR (b := 16) d_O_of_113 f_O_41 rfl rfl rfl ?_
        refine J_aload_n (i := 0) d_O_of_116 rfl rfl ?_
        refine M_callV (av := []) d_O_of_117 s_O_155 (M_rcv rfl (by decide) rfl) (S_O_rulesL hX hC hw) (by decide) rfl rfl (Nat.le_of_ble_eq_true rfl) (fun r Y hq => ?_)
        obtain ⟨rfl, rv, rfl, hrv⟩ := hq
        refine J_aload_n (i := 0) d_O_of_120 rfl rfl ?_
        refine M_getR (b := 18) d_O_of_121 f_O_48 rfl rfl rfl ?_
        refine M_getR (b := 19) d_O_of_124 f_O_110 rfl rfl rfl ?_
        refine J_iload_n (i := 1) d_O_of_127 rfl rfl ?_
        refine M_callV (av := [rv, .ref 19, .int (nI i_)]) d_O_of_128 s_O_194 (M_rcv rfl (by decide) rfl) (S_L_feeByV (e := envR s.1 i_ (-1)) hX (CE_n hC.1.1 hw.1 _ _) (okE_r hw.1 hi_ (by decide) (by decide)) rfl hrv) (by decide) rfl rfl (Nat.le_of_ble_eq_true rfl) (fun r Z hq => ?_)
        obtain ⟨rfl, hZ⟩ := hq
        rw [fe_w hw]
        refine M_ir d_O_of_131 rfl rfl ?_
        exact ⟨by rw [ofO, c5, if_pos rfl, ti]; rfl, hZ⟩
    · refine J_tableOut (tgt := 132) d_O_of_24 (sw_out (n := 7) (by decide) hsw) (by decide) ?_
      refine J_iconst (v := (-1)) d_O_of_132 rfl ?_
      refine M_ir d_O_of_133 rfl rfl ?_
      exact ⟨by rw [ofO, c5, if_pos rfl, if_neg (fun q => by rw [q] at hsw; cases hsw), if_neg (fun q => by rw [q] at hsw; cases hsw), if_neg (fun q => by rw [q] at hsw; cases hsw), if_neg (fun q => by rw [q] at hsw; cases hsw), if_neg (fun q => by rw [q] at hsw; cases hsw), if_neg (fun q => by rw [q] at hsw; cases hsw), if_neg (fun q => by rw [q] at hsw; cases hsw), if_neg (fun q => by rw [q] at hsw; cases hsw)] <;> rfl, lawY_0 hX⟩
  · refine J_iconst (v := (-1)) d_O_of_8 rfl ?_
    refine M_ir d_O_of_9 rfl rfl ?_
    exact ⟨by rw [ofO, c5] <;> rfl, lawY_0 hX⟩

theorem S_R_of {X : Mem} {s : Sg} {i k : Int32} (hX : Ok X) (hC : RI X s) (hw : WFs s) : CM 6 m_R_of [.ref 244, .int i, .int k] X (fun r Y => r = some (.int (ofO s i k)) ∧ lawR X Y) := by
  have hS := v_RSt hC hw
  refine CM_of (L := [some (.ref 244), some (.int i), some (.int k), none]) 1 ok_R_of (fun _ => Nat.le_of_ble_eq_true rfl) rfl ?_
  refine J_aload_n (i := 0) d_R_of_0 rfl rfl ?_
  refine J_iload_n (i := 1) d_R_of_1 rfl rfl ?_
  refine CV_B (av := [.int i]) d_R_of_2 s_R_379 (M_rcv rfl (by decide) rfl) (S_R_isMark hX hS) (by decide) rfl rfl (Nat.le_of_ble_eq_true rfl) ?_
  refine B_if_ne (tgt := 10) d_R_of_5 (by decide) (fun c5 => ?_) (fun c5 => ?_)
  · obtain ⟨i_, hi_, rfl⟩ := mk_n hS.1 c5
    have hm8 := hS.1
    have hst_ := (hS.2.2.1 i_ (by omega)).2
    have hrg_ := (hS.2.2.2 i_ (by omega)).2
    have hoST := odd_lt (stOf s.1 i_)
    have ti := tn_nI (show i_ < 2147483648 by omega)
    refine J_aload_n (i := 0) d_R_of_10 rfl rfl ?_
    refine M_getR (b := 245) d_R_of_11 f_R_7 rfl rfl rfl ?_
    refine J_bipush (v := nI 10) d_R_of_14 rfl ?_
    refine J_iload_n (i := 1) d_R_of_16 rfl rfl ?_
    refine N_iadd d_R_of_17 ?_
    refine N_iald (x := (nI (stOf s.1 i_))) d_R_of_18 rfl (by omega) (ltL hX (a := 245) (n := 1217) (by decide) rfl (by omega)) (hS.2.2.1 i_ (by omega)).1 ?_
    refine J_istore_n (i := 3) (L1 := [some (.ref 244), some (.int (nI i_)), some (.int k), some (.int (nI (stOf s.1 i_)))]) d_R_of_19 rfl (by decide) rfl ?_
    refine J_iload_n (i := 2) d_R_of_20 rfl rfl ?_
    rcases Bool.eq_false_or_eq_true (inR k 7) with hsw | hsw
    · obtain ⟨jj, hjj, rfl⟩ := inR_n hsw (by decide)
      have hcase : jj = 0 ∨ jj = 1 ∨ jj = 2 ∨ jj = 3 ∨ jj = 4 ∨ jj = 5 ∨ jj = 6 ∨ jj = 7 := by omega
      rcases hcase with rfl | rfl | rfl | rfl | rfl | rfl | rfl | rfl
      · refine J_tableIn (off := 47) (tgt := 68) d_R_of_21 (by decide) (by decide) (by decide) (by decide) ?_
        refine J_iload_n (i := 3) d_R_of_68 rfl rfl ?_
        refine M_ir d_R_of_69 rfl rfl ?_
        exact ⟨by rw [ofO, c5, if_pos rfl, ti]; rfl, lawR_0 hX⟩
      · refine J_tableIn (off := 49) (tgt := 70) d_R_of_21 (by decide) (by decide) (by decide) (by decide) ?_
        refine J_aload_n (i := 0) d_R_of_70 rfl rfl ?_
        refine M_getR (b := 245) d_R_of_71 f_R_7 rfl rfl rfl ?_
        refine J_bipush (v := nI 18) d_R_of_74 rfl ?_
        refine J_iload_n (i := 1) d_R_of_76 rfl rfl ?_
        refine N_iadd d_R_of_77 ?_
        refine N_iald (x := (nI (rgOf s.1 i_))) d_R_of_78 rfl (by omega) (ltL hX (a := 245) (n := 1217) (by decide) rfl (by omega)) (hS.2.2.2 i_ (by omega)).1 ?_
        refine M_ir d_R_of_79 rfl rfl ?_
        exact ⟨by rw [ofO, c5, if_pos rfl, ti]; rfl, lawR_0 hX⟩
      · refine J_tableIn (off := 59) (tgt := 80) d_R_of_21 (by decide) (by decide) (by decide) (by decide) ?_
        refine J_iload_n (i := 3) d_R_of_80 rfl rfl ?_
        refine CS_N (av := [.int (nI (stOf s.1 i_))]) d_R_of_81 s_R_121 (S_R_bits (show stOf s.1 i_ < 2147483648 by omega)) (by decide) rfl rfl (Nat.le_of_ble_eq_true rfl) ?_
        refine M_ir d_R_of_84 rfl rfl ?_
        exact ⟨by rw [ofO, c5, if_pos rfl, ti]; rfl, lawR_0 hX⟩
      · refine J_tableIn (off := 64) (tgt := 85) d_R_of_21 (by decide) (by decide) (by decide) (by decide) ?_
        refine J_aload_n (i := 0) d_R_of_85 rfl rfl ?_
        refine J_iload_n (i := 3) d_R_of_86 rfl rfl ?_
        refine CV_N (av := [.int (nI (stOf s.1 i_))]) d_R_of_87 s_R_127 (M_rcv rfl (by decide) rfl) (S_R_oddOf hX (by omega)) (by decide) rfl rfl (Nat.le_of_ble_eq_true rfl) ?_
        refine CS_N (av := [.int (nI (odd (stOf s.1 i_)))]) d_R_of_90 s_R_121 (S_R_bits (show odd (stOf s.1 i_) < 2147483648 by omega)) (by decide) rfl rfl (Nat.le_of_ble_eq_true rfl) ?_
        refine M_ir d_R_of_93 rfl rfl ?_
        exact ⟨by rw [ofO, c5, if_pos rfl, ti]; rfl, lawR_0 hX⟩
      · refine J_tableIn (off := 73) (tgt := 94) d_R_of_21 (by decide) (by decide) (by decide) (by decide) ?_
        refine J_aload_n (i := 0) d_R_of_94 rfl rfl ?_
        refine J_iload_n (i := 3) d_R_of_95 rfl rfl ?_
        refine CV_N (av := [.int (nI (stOf s.1 i_))]) d_R_of_96 s_R_124 (M_rcv rfl (by decide) rfl) (S_R_piecesOf hX (by omega)) (by decide) rfl rfl (Nat.le_of_ble_eq_true rfl) ?_
        refine M_ir d_R_of_99 rfl rfl ?_
        exact ⟨by rw [ofO, c5, if_pos rfl, ti]; rfl, lawR_0 hX⟩
      · refine J_tableIn (off := 79) (tgt := 100) d_R_of_21 (by decide) (by decide) (by decide) (by decide) ?_
        refine J_aload_n (i := 0) d_R_of_100 rfl rfl ?_
        refine J_iload_n (i := 3) d_R_of_101 rfl rfl ?_
        refine CV_I (av := [.int (nI (stOf s.1 i_))]) d_R_of_102 s_R_446 (M_rcv rfl (by decide) rfl) (S_R_holesOf hX (by omega)) (by decide) rfl rfl (Nat.le_of_ble_eq_true rfl) ?_
        refine M_ir d_R_of_105 rfl rfl ?_
        exact ⟨by rw [ofO, c5, if_pos rfl, ti]; rfl, lawR_0 hX⟩
      · refine J_tableIn (off := 85) (tgt := 106) d_R_of_21 (by decide) (by decide) (by decide) (by decide) ?_
        refine J_iload_n (i := 3) d_R_of_106 rfl rfl ?_
        refine CS_N (av := [.int (nI (stOf s.1 i_))]) d_R_of_107 s_R_449 (S_R_crossingsOf (by omega)) (by decide) rfl rfl (Nat.le_of_ble_eq_true rfl) ?_
        refine M_ir d_R_of_110 rfl rfl ?_
        exact ⟨by rw [ofO, c5, if_pos rfl, ti]; rfl, lawR_0 hX⟩
      · refine J_tableIn (off := 90) (tgt := 111) d_R_of_21 (by decide) (by decide) (by decide) (by decide) ?_
        refine J_aload_n (i := 0) d_R_of_111 rfl rfl ?_
        refine J_iload_n (i := 1) d_R_of_112 rfl rfl ?_
        refine M_callV (av := [.int (nI i_)]) d_R_of_113 s_R_388 (M_rcv rfl (by decide) rfl) (S_R_feeOf (e := envR s.1 i_ 0) hX (RE_n hC hw.1 _ _) (okE_r hw.1 hi_ (by decide) (by decide)) (TxR_s hC hw) (ri_at hC (by decide)) rfl) (by decide) rfl rfl (Nat.le_of_ble_eq_true rfl) (fun r Z hq => ?_)
        obtain ⟨rfl, hZ⟩ := hq
        refine M_ir d_R_of_116 rfl rfl ?_
        exact ⟨by rw [ofO, c5, if_pos rfl, ti]; rfl, hZ⟩
    · refine J_tableOut (tgt := 117) d_R_of_21 (sw_out (n := 7) (by decide) hsw) (by decide) ?_
      refine J_iconst (v := (-1)) d_R_of_117 rfl ?_
      refine M_ir d_R_of_118 rfl rfl ?_
      exact ⟨by rw [ofO, c5, if_pos rfl, if_neg (fun q => by rw [q] at hsw; cases hsw), if_neg (fun q => by rw [q] at hsw; cases hsw), if_neg (fun q => by rw [q] at hsw; cases hsw), if_neg (fun q => by rw [q] at hsw; cases hsw), if_neg (fun q => by rw [q] at hsw; cases hsw), if_neg (fun q => by rw [q] at hsw; cases hsw), if_neg (fun q => by rw [q] at hsw; cases hsw), if_neg (fun q => by rw [q] at hsw; cases hsw)] <;> rfl, lawR_0 hX⟩
  · refine J_iconst (v := (-1)) d_R_of_8 rfl ?_
    refine M_ir d_R_of_9 rfl rfl ?_
    exact ⟨by rw [ofO, c5] <;> rfl, lawR_0 hX⟩

theorem S_O_wears {X : Mem} {s : Sg} {i k : Int32} (hX : Ok X) (hC : CI X s) (hw : WFs s) : CM 5 m_O_wears [.ref 8, .int i, .int k] X (fun r Y => r = some (.int (wrO s i k)) ∧ lawY X Y) := by
  have hS := v_CSt hC hw
  refine CM_of (L := [some (.ref 8), some (.int i), some (.int k)]) 0 ok_O_wears (fun _ => Nat.le_of_ble_eq_true rfl) rfl ?_
  refine J_aload_n (i := 0) d_O_wears_0 rfl rfl ?_
  refine J_iload_n (i := 1) d_O_wears_1 rfl rfl ?_
  refine CV_B (av := [.int i]) d_O_wears_2 s_O_166 (M_rcv rfl (by decide) rfl) (S_O_isMark hX hS) (by decide) rfl rfl (Nat.le_of_ble_eq_true rfl) ?_
  refine B_if_eq (tgt := 15) d_O_wears_5 (by decide) (fun c5 => ?_) (fun c5 => ?_)
  · refine J_iconst (v := (-1)) d_O_wears_15 rfl ?_
    refine M_ir d_O_wears_16 rfl rfl ?_
    exact ⟨by rw [wrO, c5] <;> rfl, lawY_0 hX⟩
  · refine J_iload_n (i := 2) d_O_wears_8 rfl rfl ?_
    refine CS_B (av := [.int k]) d_O_wears_9 s_O_198 (S_O_isStroke) (by decide) rfl rfl (Nat.le_of_ble_eq_true rfl) ?_
    refine B_if_ne (tgt := 17) d_O_wears_12 (by decide) (fun c12 => ?_) (fun c12 => ?_)
    · obtain ⟨i_, hi_, rfl⟩ := mk_n hS.1 c5
      have hm8 := hS.1
      have hst_ := (hS.2.2.1 i_ (by omega)).2
      have hrg_ := (hS.2.2.2 i_ (by omega)).2
      have hoST := odd_lt (stOf s.1 i_)
      have ti := tn_nI (show i_ < 2147483648 by omega)
      obtain ⟨k_, hk_, rfl⟩ := inR_n (n := 19) c12 (by decide)
      refine J_aload_n (i := 0) d_O_wears_17 rfl rfl ?_
      refine M_getR (b := 16) d_O_wears_18 f_O_41 rfl rfl rfl ?_
      refine J_aload_n (i := 0) d_O_wears_21 rfl rfl ?_
      refine M_callV (av := []) d_O_wears_22 s_O_155 (M_rcv rfl (by decide) rfl) (S_O_rulesL hX hC hw) (by decide) rfl rfl (Nat.le_of_ble_eq_true rfl) (fun r Y hq => ?_)
      obtain ⟨rfl, rv, rfl, hrv⟩ := hq
      refine J_aload_n (i := 0) d_O_wears_25 rfl rfl ?_
      refine M_getR (b := 18) d_O_wears_26 f_O_48 rfl rfl rfl ?_
      refine M_getR (b := 19) d_O_wears_29 f_O_110 rfl rfl rfl ?_
      refine J_iload_n (i := 1) d_O_wears_32 rfl rfl ?_
      refine J_iload_n (i := 2) d_O_wears_33 rfl rfl ?_
      rw [show nI k_ = jI (k_ : Int) from (jI_n _).symm]
      refine M_callV (av := [rv, .ref 19, .int (nI i_), .int (jI (k_ : Int))]) d_O_wears_34 s_O_201 (M_rcv rfl (by decide) rfl) (S_L_wearsByV (e := envR s.1 i_ (k_ : Int)) hX (CE_n hC.1.1 hw.1 _ _) (okE_r hw.1 hi_ (by omega) (by omega)) hrv) (by decide) rfl rfl (Nat.le_of_ble_eq_true rfl) (fun r Z hq => ?_)
      obtain ⟨rfl, hZ⟩ := hq
      refine M_ir d_O_wears_37 rfl rfl ?_
      exact ⟨by rw [wrO, c5, jI_n, c12, ti, tn_nI (show k_ < 2147483648 by omega)]; rfl, hZ⟩
    · refine J_iconst (v := (-1)) d_O_wears_15 rfl ?_
      refine M_ir d_O_wears_16 rfl rfl ?_
      exact ⟨by rw [wrO, c5, c12] <;> rfl, lawY_0 hX⟩

theorem S_R_wears {X : Mem} {s : Sg} {i k : Int32} (hX : Ok X) (hC : RI X s) (hw : WFs s) : CM 6 m_R_wears [.ref 244, .int i, .int k] X (fun r Y => r = some (.int (wrO s i k)) ∧ lawR X Y) := by
  have hS := v_RSt hC hw
  refine CM_of (L := [some (.ref 244), some (.int i), some (.int k)]) 0 ok_R_wears (fun _ => Nat.le_of_ble_eq_true rfl) rfl ?_
  refine J_aload_n (i := 0) d_R_wears_0 rfl rfl ?_
  refine J_iload_n (i := 1) d_R_wears_1 rfl rfl ?_
  refine CV_B (av := [.int i]) d_R_wears_2 s_R_379 (M_rcv rfl (by decide) rfl) (S_R_isMark hX hS) (by decide) rfl rfl (Nat.le_of_ble_eq_true rfl) ?_
  refine B_if_eq (tgt := 30) d_R_wears_5 (by decide) (fun c5 => ?_) (fun c5 => ?_)
  · refine J_iconst (v := (-1)) d_R_wears_30 rfl ?_
    refine M_ir d_R_wears_31 rfl rfl ?_
    exact ⟨by rw [wrO, c5] <;> rfl, lawR_0 hX⟩
  · refine J_iload_n (i := 2) d_R_wears_8 rfl rfl ?_
    refine CS_B (av := [.int k]) d_R_wears_9 s_R_382 (S_R_isStroke) (by decide) rfl rfl (Nat.le_of_ble_eq_true rfl) ?_
    refine B_if_eq (tgt := 30) d_R_wears_12 (by decide) (fun c12 => ?_) (fun c12 => ?_)
    · refine J_iconst (v := (-1)) d_R_wears_30 rfl ?_
      refine M_ir d_R_wears_31 rfl rfl ?_
      exact ⟨by rw [wrO, c5, c12] <;> rfl, lawR_0 hX⟩
    · obtain ⟨i_, hi_, rfl⟩ := mk_n hS.1 c5
      have hm8 := hS.1
      have hst_ := (hS.2.2.1 i_ (by omega)).2
      have hrg_ := (hS.2.2.2 i_ (by omega)).2
      have hoST := odd_lt (stOf s.1 i_)
      have ti := tn_nI (show i_ < 2147483648 by omega)
      obtain ⟨k_, hk_, rfl⟩ := inR_n (n := 19) c12 (by decide)
      refine J_aload_n (i := 0) d_R_wears_15 rfl rfl ?_
      refine J_aload_n (i := 0) d_R_wears_16 rfl rfl ?_
      refine M_getR (b := 245) d_R_wears_17 f_R_7 rfl rfl rfl ?_
      refine J_iconst (v := nI 2) d_R_wears_20 rfl ?_
      refine N_iald (x := (s.1 2)) d_R_wears_21 rfl (by omega) (ltL hX (a := 245) (n := 1217) (by decide) rfl (by omega)) (ri_at hC (by decide)) ?_
      refine J_iload_n (i := 1) d_R_wears_22 rfl rfl ?_
      refine J_iload_n (i := 2) d_R_wears_23 rfl rfl ?_
      rw [show nI k_ = jI (k_ : Int) from (jI_n _).symm]
      refine M_callV (av := [.int (s.1 2), .int (nI i_), .int (jI (k_ : Int))]) d_R_wears_24 s_R_395 (M_rcv rfl (by decide) rfl) (S_R_wearsOf (e := envR s.1 i_ (k_ : Int)) hX (RE_n hC hw.1 _ _) (okE_r hw.1 hi_ (by omega) (by omega)) (TxR_s hC hw)) (by decide) rfl rfl (Nat.le_of_ble_eq_true rfl) (fun r Z hq => ?_)
      obtain ⟨rfl, hZ⟩ := hq
      refine J_goto (tgt := 31) d_R_wears_27 (by decide) ?_
      refine M_ir d_R_wears_31 rfl rfl ?_
      exact ⟨by rw [wrO, c5, jI_n, c12, ti, tn_nI (show k_ < 2147483648 by omega)]; rfl, hZ⟩

