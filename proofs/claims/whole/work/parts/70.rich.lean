theorem CTxt_on {X Y : Mem} {T : Nat} {x : TX} (h : ∀ b, 224 ≤ b → b < 244 → (∀ k, Y.1 b k = X.1 b k) ∧ Y.2.1 b = X.2.1 b) (hT : CTxt X T x) : CTxt Y T x := by
  obtain ⟨cw, h1, h2, h3, h4, h5⟩ := hT
  have t5 := (txt_f h1.1).2.2.2.2
  have e := (h T (by omega) (by omega)).1
  refine ⟨cw, ⟨h1.1, fun p hp => by rw [(h (T + 1) (by omega) (by omega)).2]; exact h1.2 p hp⟩, LwV_c e h2, LwV_c e h3, by rw [e]; exact h4, fun k hk => ?_⟩
  rw [(h (T + 2) (by omega) (by omega)).2, (h (T + 3) (by omega) (by omega)).2, (h (T + 4) (by omega) (by omega)).2]
  exact h5 k hk
theorem CI_on {X Y : Mem} {s : Sg} (h : ∀ b, (b = 8 ∨ b = 9 ∨ (18 ≤ b ∧ b ≤ 217) ∨ (224 ≤ b ∧ b < 244)) → (∀ k, Y.1 b k = X.1 b k) ∧ Y.2.1 b = X.2.1 b) (hc : CI X s) : CI Y s := by
  obtain ⟨h1, h2, h3, ⟨g1, g2, g3⟩, h5⟩ := hc
  have e := (h 8 (by omega)).1
  refine ⟨CHeld_on (fun b q1 q2 => h b (by omega)) h1, CHeld_on (fun b q1 q2 => h b (by omega)) h2, fun i hi => ?_, ⟨by rw [e]; exact g1, by rw [e]; exact g2, by rw [e]; exact g3⟩, fun t ht ht4 => CTxt_on (fun b q1 q2 => h b (by omega)) (h5 t ht ht4)⟩
  rw [(h 9 (by omega)).2]
  exact h3 i hi
theorem RI_on {X Y : Mem} {s : Sg} (h0 : ∀ k, k = 9 ∨ k = 10 ∨ k = 11 ∨ k = 30 → Y.1 244 k = X.1 244 k) (h : ∀ b, (b = 245 ∨ b = 246 ∨ b = 251 ∨ b = 253) → Y.2.1 b = X.2.1 b) (hc : RI X s) : RI Y s := by
  obtain ⟨h1, h2, h3, ⟨g1, g2, g3, g4⟩, h5⟩ := hc
  refine ⟨by rw [h 245 (by omega)]; exact h1, by rw [h 246 (by omega)]; exact h2, fun i hi => ?_, ⟨by rw [h0 9 (by omega)]; exact g1, by rw [h0 10 (by omega)]; exact g2, by rw [h0 11 (by omega)]; exact g3, by rw [h0 30 (by omega)]; exact g4⟩, fun t ht ht4 => RTxt_e (h 251 (by omega)) (h5 t ht ht4)⟩
  rw [h 253 (by omega)]
  exact h3 i hi
/-- what a method of the class, of the reference, leaves behind: its own half as s, the other as it was -/
def pC (X : Mem) (s : Sg) (Y : Mem) : Prop := Ok Y ∧ CI Y s ∧ sR X Y
def pR (X : Mem) (s : Sg) (Y : Mem) : Prop := Ok Y ∧ RI Y s ∧ sC X Y
theorem pC_law {X Y Z : Mem} {s : Sg} (h : pC X s Y) (hl : lawY Y Z) : pC X s Z := by
  obtain ⟨v, l, h1, rfl⟩ := hl
  refine ⟨okA (okF h.1) rfl (by rw [h1]; exact (h.1.1 17 (by decide)).symm), CI_on (fun b hb => ⟨fun k => pF_o (by omega), if_neg (by omega)⟩) h.2.1, sR_t h.2.2 (sR_t (sR_F (by decide)) (sR_A (by decide)))⟩
theorem pR_law {X Y Z : Mem} {s : Sg} (h : pR X s Y) (hl : lawR Y Z) : pR X s Z := by
  obtain ⟨l0, l1, l2, h0, h1, h2, rfl⟩ := hl
  have hA : Ok (pA Y 256 l0) := okA h.1 rfl (by rw [h0]; exact (h.1.1 256 (by decide)).symm)
  refine ⟨okRk hA h1 h2, RI_on (X := Y) (Y := rk2 (pA Y 256 l0) l1 l2) (fun k _ => rfl) (fun b hb => ?_) h.2.1, sC_t h.2.2 (sC_t (sC_A (by decide)) (sC_t (sC_L (by decide)) (sC_A (by decide))))⟩
  show (if b = 258 then l2 else if b = 256 then l0 else Y.2.1 b) = Y.2.1 b
  rw [if_neg (by omega), if_neg (by omega)]
def fv8 (s : Sg) (b : Nat) : Nat := if b = 8 then 0 else fe_ s b
def rcN (s : Sg) (m : Nat) : Nat := itr (fun i b => if fv8 s b < fe_ s i then i else b) 8 m
theorem fe_le (s : Sg) (k : Nat) : fe_ s k ≤ 99 := feV_le _ _
theorem fv8_le (s : Sg) (k : Nat) : fv8 s k ≤ 99 := by
  unfold fv8
  split
  · omega
  · exact fe_le s k
theorem rc_m {s : Sg} {m : Nat} (hm : m ≤ 8) : ∀ k, k ≤ m → itr (fun i b => if fv8 s b < fe_ s i then i else b) 8 k < m ∨ itr (fun i b => if fv8 s b < fe_ s i then i else b) 8 k = 8 :=
  itr_invN (fun _ (x : Nat) => x < m ∨ x = 8) m (Or.inr rfl) (fun i x hi hx => by
    try dsimp only
    split
    · exact Or.inl hi
    · exact hx)
theorem lp_O_richest {X : Mem} {s : Sg} {Q : Option Value → Mem → Prop} (hw : WFs s) (kq : ∀ Y, pC X s Y → Q (some (.int (o8 (rcN s (mOf s.1))))) Y) : ∀ (k i : Nat) (Y : Mem) (z4 : Option Value), i + k = mOf s.1 → pC X s Y → JM 5 m_O_richest Q 6 [some (.ref 8), some (.int (o8 (itr (fun i b => if fv8 s b < fe_ s i then i else b) 8 i))), some (.int (nI (fv8 s (itr (fun i b => if fv8 s b < fe_ s i then i else b) 8 i)))), some (.int (nI i)), z4] [] Y := by
  have hm8 : mOf s.1 ≤ 8 := (wf_1 hw.1 (j := 0) (n := 8) (by decide) (by decide) (by decide)).2
  intro k
  induction k with
  | zero =>
    intro i Y z4 hi hY
    obtain rfl : i = mOf s.1 := by omega
    refine J_iload_n (i := 3) d_O_richest_6 rfl rfl ?_
    refine J_aload_n (i := 0) d_O_richest_7 rfl rfl ?_
    refine M_getR (b := 18) d_O_richest_8 f_O_48 rfl rfl rfl ?_
    refine M_getR (b := 19) d_O_richest_11 f_O_110 rfl rfl rfl ?_
    refine M_get (x := (nI (mOf s.1))) d_O_richest_14 f_O_258 rfl rfl (v_CSt hY.2.1 hw).2.1 ?_
    refine N_icmp_ge (tgt := 58) d_O_richest_17 (by decide) (by omega) (by omega) (fun c17 => ?_) (fun c17 => absurd c17 (by omega))
    refine J_iload_n (i := 1) d_O_richest_58 rfl rfl ?_
    refine M_ir d_O_richest_59 rfl rfl ?_
    exact kq Y hY
  | succ k ih =>
    intro i Y z4 hi hY
    generalize hx : (itr (fun i b => if fv8 s b < fe_ s i then i else b) 8 i) = x
    have hf1 := fe_le s i
    have hf2 := fv8_le s x
    refine J_iload_n (i := 3) d_O_richest_6 rfl rfl ?_
    refine J_aload_n (i := 0) d_O_richest_7 rfl rfl ?_
    refine M_getR (b := 18) d_O_richest_8 f_O_48 rfl rfl rfl ?_
    refine M_getR (b := 19) d_O_richest_11 f_O_110 rfl rfl rfl ?_
    refine M_get (x := (nI (mOf s.1))) d_O_richest_14 f_O_258 rfl rfl (v_CSt hY.2.1 hw).2.1 ?_
    refine N_icmp_ge (tgt := 58) d_O_richest_17 (by decide) (by omega) (by omega) (fun c17 => absurd c17 (by omega)) (fun c17 => ?_)
    refine J_aload_n (i := 0) d_O_richest_20 rfl rfl ?_
    refine M_getR (b := 16) d_O_richest_21 f_O_41 rfl rfl rfl ?_
    refine J_aload_n (i := 0) d_O_richest_24 rfl rfl ?_
    refine M_callV (av := []) d_O_richest_25 s_O_155 (M_rcv rfl (by decide) rfl) (S_O_rulesL hY.1 hY.2.1 hw) (by decide) rfl rfl (Nat.le_of_ble_eq_true rfl) (fun r Z hq => ?_)
    obtain ⟨rfl, rv, rfl, hrv⟩ := hq
    refine J_aload_n (i := 0) d_O_richest_28 rfl rfl ?_
    refine M_getR (b := 18) d_O_richest_29 f_O_48 rfl rfl rfl ?_
    refine M_getR (b := 19) d_O_richest_32 f_O_110 rfl rfl rfl ?_
    refine J_iload_n (i := 3) d_O_richest_35 rfl rfl ?_
    refine M_callV (av := [rv, .ref 19, .int (nI i)]) d_O_richest_36 s_O_194 (M_rcv rfl (by decide) rfl) (S_L_feeByV (e := envR s.1 i (-1)) hY.1 (CE_n hY.2.1.1.1 hw.1 _ _) (okE_r hw.1 (show i < mOf s.1 by omega) (by decide) (by decide)) rfl hrv) (by decide) rfl rfl (Nat.le_of_ble_eq_true rfl) (fun r Z2 hq => ?_)
    obtain ⟨rfl, hZ⟩ := hq
    rw [fe_w hw]
    have hY2 := pC_law hY hZ
    refine J_istore (L1 := [some (.ref 8), some (.int (o8 x)), some (.int (nI (fv8 s x))), some (.int (nI i)), some (.int (nI (fe_ s i)))]) d_O_richest_39 (by decide) rfl ?_
    refine J_iload d_O_richest_41 rfl ?_
    refine J_iload_n (i := 2) d_O_richest_43 rfl rfl ?_
    refine N_icmp_le (tgt := 52) d_O_richest_44 (by decide) (by omega) (by omega) (fun c44 => ?_) (fun c44 => ?_)
    · refine N_iinc (a := i) (c := 1) (L1 := [some (.ref 8), some (.int (o8 x)), some (.int (nI (fv8 s x))), some (.int (nI (i + 1))), some (.int (nI (fe_ s i)))]) d_O_richest_52 rfl rfl (by decide) rfl ?_
      refine J_goto (tgt := 6) d_O_richest_55 (by decide) ?_
      have e : itr (fun i b => if fv8 s b < fe_ s i then i else b) 8 (i + 1) = x := itr_g hx (if_neg (by omega))
      exact (ih (i + 1) Z2 _ (by omega) hY2).eq (by rw [e]) rfl rfl
    · refine J_iload d_O_richest_47 rfl ?_
      refine J_istore_n (i := 2) (L1 := [some (.ref 8), some (.int (o8 x)), some (.int (nI (fe_ s i))), some (.int (nI i)), some (.int (nI (fe_ s i)))]) d_O_richest_49 rfl (by decide) rfl ?_
      refine J_iload_n (i := 3) d_O_richest_50 rfl rfl ?_
      refine J_istore_n (i := 1) (L1 := [some (.ref 8), some (.int (nI i)), some (.int (nI (fe_ s i))), some (.int (nI i)), some (.int (nI (fe_ s i)))]) d_O_richest_51 rfl (by decide) rfl ?_
      refine N_iinc (a := i) (c := 1) (L1 := [some (.ref 8), some (.int (nI i)), some (.int (nI (fe_ s i))), some (.int (nI (i + 1))), some (.int (nI (fe_ s i)))]) d_O_richest_52 rfl rfl (by decide) rfl ?_
      refine J_goto (tgt := 6) d_O_richest_55 (by decide) ?_
      have e : itr (fun i b => if fv8 s b < fe_ s i then i else b) 8 (i + 1) = i := itr_g hx (if_pos (by omega))
      exact (ih (i + 1) Z2 _ (by omega) hY2).eq (by rw [e, o8_lt (by omega), show fv8 s i = fe_ s i from if_neg (by omega)]) rfl rfl
theorem S_O_richest {X : Mem} {s : Sg} (hX : Ok X) (hC : CI X s) (hw : WFs s) : CM 5 m_O_richest [.ref 8] X (fun r Y => r = some (.int (o8 (rcN s (mOf s.1)))) ∧ pC X s Y) := by
  refine CM_of (L := [some (.ref 8), none, none, none, none]) 4 ok_O_richest (fun _ => Nat.le_of_ble_eq_true rfl) rfl ?_
  refine J_iconst (v := (-1)) d_O_richest_0 rfl ?_
  refine J_istore_n (i := 1) (L1 := [some (.ref 8), some (.int (-1)), none, none, none]) d_O_richest_1 rfl (by decide) rfl ?_
  refine J_iconst (v := nI 0) d_O_richest_2 rfl ?_
  refine J_istore_n (i := 2) (L1 := [some (.ref 8), some (.int (-1)), some (.int (nI 0)), none, none]) d_O_richest_3 rfl (by decide) rfl ?_
  refine J_iconst (v := nI 0) d_O_richest_4 rfl ?_
  refine J_istore_n (i := 3) (L1 := [some (.ref 8), some (.int (-1)), some (.int (nI 0)), some (.int (nI 0)), none]) d_O_richest_5 rfl (by decide) rfl ?_
  exact lp_O_richest hw (fun Y hY => ⟨rfl, hY⟩) (mOf s.1) 0 X _ (by omega) ⟨hX, hC, sR_0 X⟩

theorem lp_R_richest {X : Mem} {s : Sg} {Q : Option Value → Mem → Prop} (hw : WFs s) (kq : ∀ Y, pR X s Y → Q (some (.int (o8 (rcN s (mOf s.1))))) Y) : ∀ (k i : Nat) (Y : Mem), i + k = mOf s.1 → pR X s Y → JM 6 m_R_richest Q 4 [some (.ref 244), some (.int (o8 (itr (fun i b => if fv8 s b < fe_ s i then i else b) 8 i))), some (.int (nI i))] [] Y := by
  have hm8 : mOf s.1 ≤ 8 := (wf_1 hw.1 (j := 0) (n := 8) (by decide) (by decide) (by decide)).2
  intro k
  induction k with
  | zero =>
    intro i Y hi hY
    have hX := hY.1
    obtain rfl : i = mOf s.1 := by omega
    refine J_iload_n (i := 2) d_R_richest_4 rfl rfl ?_
    refine J_aload_n (i := 0) d_R_richest_5 rfl rfl ?_
    refine M_getR (b := 245) d_R_richest_6 f_R_7 rfl rfl rfl ?_
    refine J_iconst (v := nI 0) d_R_richest_9 rfl ?_
    refine N_iald (x := (nI (mOf s.1))) d_R_richest_10 rfl (by omega) (ltL hX (a := 245) (n := 1217) (by decide) rfl (by omega)) (v_RSt hY.2.1 hw).2.1 ?_
    refine N_icmp_ge (tgt := 44) d_R_richest_11 (by decide) (by omega) (by omega) (fun c11 => ?_) (fun c11 => absurd c11 (by omega))
    refine J_iload_n (i := 1) d_R_richest_44 rfl rfl ?_
    refine M_ir d_R_richest_45 rfl rfl ?_
    exact kq Y hY
  | succ k ih =>
    intro i Y hi hY
    have hX := hY.1
    have hrc := rc_m (s := s) hm8 i (by omega)
    generalize hx : (itr (fun i b => if fv8 s b < fe_ s i then i else b) 8 i) = x at *
    have hf1 := fe_le s i
    have hf2 := fv8_le s x
    refine J_iload_n (i := 2) d_R_richest_4 rfl rfl ?_
    refine J_aload_n (i := 0) d_R_richest_5 rfl rfl ?_
    refine M_getR (b := 245) d_R_richest_6 f_R_7 rfl rfl rfl ?_
    refine J_iconst (v := nI 0) d_R_richest_9 rfl ?_
    refine N_iald (x := (nI (mOf s.1))) d_R_richest_10 rfl (by omega) (ltL hX (a := 245) (n := 1217) (by decide) rfl (by omega)) (v_RSt hY.2.1 hw).2.1 ?_
    refine N_icmp_ge (tgt := 44) d_R_richest_11 (by decide) (by omega) (by omega) (fun c11 => absurd c11 (by omega)) (fun c11 => ?_)
    refine J_aload_n (i := 0) d_R_richest_14 rfl rfl ?_
    refine J_iload_n (i := 2) d_R_richest_15 rfl rfl ?_
    refine M_callV (av := [.int (nI i)]) d_R_richest_16 s_R_388 (M_rcv rfl (by decide) rfl) (S_R_feeOf (e := envR s.1 i 0) hY.1 (RE_n hY.2.1 hw.1 _ _) (okE_r hw.1 (show i < mOf s.1 by omega) (by decide) (by decide)) (TxR_s hY.2.1 hw) (ri_at hY.2.1 (by decide)) rfl) (by decide) rfl rfl (Nat.le_of_ble_eq_true rfl) (fun r Z388 hq => ?_)
    obtain ⟨rfl, hZ⟩ := hq
    rw [show feV (lwS s).2 (envR s.1 i 0) = fe_ s i from rfl]
    have hY388 := pR_law hY hZ
    refine J_iload_n (i := 1) d_R_richest_19 rfl rfl ?_
    refine J_iconst (v := (-1)) d_R_richest_20 rfl ?_
    refine J_icmp_ne (tgt := 28) d_R_richest_21 (by decide) (fun c21 => ?_) (fun c21 => ?_)
    · have hx8 : x < 8 := by
        rcases Nat.lt_or_ge x 8 with z | z
        · exact z
        · exact absurd ((o8_m1 (by omega)).mpr (by omega)) c21
      have hxm : x < mOf s.1 := by omega
      have hfv : fv8 s x = fe_ s x := if_neg (by omega)
      have hf3 := fe_le s x
      rw [o8_lt hx8]
      refine J_aload_n (i := 0) d_R_richest_28 rfl rfl ?_
      refine J_iload_n (i := 1) d_R_richest_29 rfl rfl ?_
      refine M_callV (av := [.int (nI x)]) d_R_richest_30 s_R_388 (M_rcv rfl (by decide) rfl) (S_R_feeOf (e := envR s.1 x 0) hY388.1 (RE_n hY388.2.1 hw.1 _ _) (okE_r hw.1 (show x < mOf s.1 by omega) (by decide) (by decide)) (TxR_s hY388.2.1 hw) (ri_at hY388.2.1 (by decide)) rfl) (by decide) rfl rfl (Nat.le_of_ble_eq_true rfl) (fun r Z388 hq => ?_)
      obtain ⟨rfl, hZ⟩ := hq
      rw [show feV (lwS s).2 (envR s.1 x 0) = fe_ s x from rfl]
      have hY388 := pR_law hY388 hZ
      refine N_icmp_le (tgt := 38) d_R_richest_33 (by decide) (by omega) (by omega) (fun c33 => ?_) (fun c33 => ?_)
      · refine N_iinc (a := i) (c := 1) (L1 := [some (.ref 244), some (.int (nI x)), some (.int (nI (i + 1)))]) d_R_richest_38 rfl rfl (by decide) rfl ?_
        refine J_goto (tgt := 4) d_R_richest_41 (by decide) ?_
        have e : itr (fun i b => if fv8 s b < fe_ s i then i else b) 8 (i + 1) = x := itr_g hx (if_neg (by omega))
        exact (ih (i + 1) _ (by omega) hY388).eq (by rw [e, o8_lt hx8]) rfl rfl
      · refine J_iload_n (i := 2) d_R_richest_36 rfl rfl ?_
        refine J_istore_n (i := 1) (L1 := [some (.ref 244), some (.int (nI i)), some (.int (nI i))]) d_R_richest_37 rfl (by decide) rfl ?_
        refine N_iinc (a := i) (c := 1) (L1 := [some (.ref 244), some (.int (nI i)), some (.int (nI (i + 1)))]) d_R_richest_38 rfl rfl (by decide) rfl ?_
        refine J_goto (tgt := 4) d_R_richest_41 (by decide) ?_
        have e : itr (fun i b => if fv8 s b < fe_ s i then i else b) 8 (i + 1) = i := itr_g hx (if_pos (by omega))
        exact (ih (i + 1) _ (by omega) hY388).eq (by rw [e, o8_lt (by omega)]) rfl rfl
    · have hx8 : x = 8 := (o8_m1 (by omega)).mp c21
      have hfv : fv8 s x = 0 := by rw [hx8]; rfl
      refine J_iconst (v := nI 0) d_R_richest_24 rfl ?_
      refine J_goto (tgt := 33) d_R_richest_25 (by decide) ?_
      refine N_icmp_le (tgt := 38) d_R_richest_33 (by decide) (by omega) (by omega) (fun c33 => ?_) (fun c33 => ?_)
      · refine N_iinc (a := i) (c := 1) (L1 := [some (.ref 244), some (.int (o8 x)), some (.int (nI (i + 1)))]) d_R_richest_38 rfl rfl (by decide) rfl ?_
        refine J_goto (tgt := 4) d_R_richest_41 (by decide) ?_
        have e : itr (fun i b => if fv8 s b < fe_ s i then i else b) 8 (i + 1) = x := itr_g hx (if_neg (by omega))
        exact (ih (i + 1) _ (by omega) hY388).eq (by rw [e]) rfl rfl
      · refine J_iload_n (i := 2) d_R_richest_36 rfl rfl ?_
        refine J_istore_n (i := 1) (L1 := [some (.ref 244), some (.int (nI i)), some (.int (nI i))]) d_R_richest_37 rfl (by decide) rfl ?_
        refine N_iinc (a := i) (c := 1) (L1 := [some (.ref 244), some (.int (nI i)), some (.int (nI (i + 1)))]) d_R_richest_38 rfl rfl (by decide) rfl ?_
        refine J_goto (tgt := 4) d_R_richest_41 (by decide) ?_
        have e : itr (fun i b => if fv8 s b < fe_ s i then i else b) 8 (i + 1) = i := itr_g hx (if_pos (by omega))
        exact (ih (i + 1) _ (by omega) hY388).eq (by rw [e, o8_lt (by omega)]) rfl rfl
theorem S_R_richest {X : Mem} {s : Sg} (hX : Ok X) (hC : RI X s) (hw : WFs s) : CM 6 m_R_richest [.ref 244] X (fun r Y => r = some (.int (o8 (rcN s (mOf s.1)))) ∧ pR X s Y) := by
  refine CM_of (L := [some (.ref 244), none, none]) 2 ok_R_richest (fun _ => Nat.le_of_ble_eq_true rfl) rfl ?_
  refine J_iconst (v := (-1)) d_R_richest_0 rfl ?_
  refine J_istore_n (i := 1) (L1 := [some (.ref 244), some (.int (-1)), none]) d_R_richest_1 rfl (by decide) rfl ?_
  refine J_iconst (v := nI 0) d_R_richest_2 rfl ?_
  refine J_istore_n (i := 2) (L1 := [some (.ref 244), some (.int (-1)), some (.int (nI 0))]) d_R_richest_3 rfl (by decide) rfl ?_
  exact lp_R_richest hw (fun Y hY => ⟨rfl, hY⟩) (mOf s.1) 0 X (by omega) ⟨hX, hC, sC_0 X⟩

