theorem st_mono {B : Nat → Nat} {m : Nat} (h : okB B m) (j : Nat) : ∀ k, stT B j ≤ stT B (j + k)
  | 0 => Nat.le_refl _
  | k + 1 => Nat.le_trans (st_mono h j k) (stT_up h (j + k)).1
theorem tkv_of {X : Mem} {B : Nat → Nat} {m : Nat} (hB : okB B m) : ∀ c, c ≤ 300 → stT B c = m → TkC X B (c + 1) → ∃ N, TkV X B N
  | 0, h3, hs, hT => ⟨0, h3, kT_end hB (by rw [hs]; exact Nat.le_refl m), fun j hj => absurd hj (Nat.not_lt_zero j), hT⟩
  | c + 1, h3, hs, hT => by
    by_cases e : stT B c = m
    · exact tkv_of hB c (by omega) e (fun j hj => hT j (by omega))
    · refine ⟨c + 1, h3, kT_end hB (by rw [hs]; exact Nat.le_refl m), fun j hj => kT_ne hB ?_, hT⟩
      have h1 := stT_le hB c
      have h2 := st_mono hB j (c - j)
      rw [show j + (c - j) = c by omega] at h2
      omega
/-- the text emptied -/
def emX (X : Mem) (T : Nat) : Mem := pF (pF (pF (pF X T 1 (nI 0)) T 2 (b2i false)) T 5 (b2i false)) T 8 (nI 0)
/-- what reading a text leaves as it was -/
def offT (T : Nat) (X Y : Mem) : Prop := (∀ b, b ≠ 11 → b ≠ 12 → b ≠ T → ∀ k, Y.1 b k = X.1 b k) ∧ (∀ b, (b < T + 1 ∨ T + 4 < b) → b ≠ 13 → b ≠ 14 → b ≠ 15 → Y.2.1 b = X.2.1 b) ∧ Y.2.2.1 = X.2.2.1 ∧ Y.2.2.2.2 = X.2.2.2.2
/-- the reader as it begins -/
def bgX (Y : Mem) (B : Nat → Nat) (T : Nat) : Mem := pF (pF (emX (pI (pF (pF Y 11 1 (nI 0)) 11 2 (nI (tk_ B 0))) (some T)) T) 11 5 (nI 0)) 11 6 (-1)
theorem okT_0 : okT x0 := ⟨Nat.zero_le _, fun k hk => absurd hk (Nat.not_lt_zero k), fun d hd => by cases hd⟩
theorem bg_L {Y : Mem} {B : Nat → Nat} {N T : Nat} (hT : TkV Y B N) (hk : kd T = 5) : (∃ w, Lv (bgX Y B T) B N T 0 0 w) ∧ CTn (bgX Y B T) T 0 x0 := by
  have ht := tx_ne hk
  have e11 : ∀ k, k ≠ 5 → k ≠ 6 → (bgX Y B T).1 11 k = (pF (pF Y 11 1 (nI 0)) 11 2 (nI (tk_ B 0))).1 11 k := fun k h5 h6 => (pF_k h6).trans ((pF_k h5).trans ((pF_o (by omega)).trans ((pF_o (by omega)).trans ((pF_o (by omega)).trans (pF_o (by omega))))))
  have eT : ∀ k, (bgX Y B T).1 T k = (emX (pI (pF (pF Y 11 1 (nI 0)) 11 2 (nI (tk_ B 0))) (some T)) T).1 T k := fun k => (pF_o (by omega)).trans (pF_o (by omega))
  have q2 : (bgX Y B T).1 T 2 = b2i false := (eT 2).trans ((pF_k (by decide)).trans ((pF_k (by decide)).trans pF_at))
  have q5 : (bgX Y B T).1 T 5 = b2i false := (eT 5).trans ((pF_k (by decide)).trans pF_at)
  refine ⟨⟨decide (Y.1 11 3 ≠ 0), ⟨⟨hT, hk, rfl⟩, Nat.zero_le _, ?_, ?_, ?_, ?_, ?_, ⟨by decide, pF_at⟩⟩⟩, okT_0, ⟨q2, fun d hd => by cases hd⟩, ⟨q5, fun d hd => by cases hd⟩, (eT 8).trans pF_at, fun k hk => absurd hk (Nat.not_lt_zero k)⟩
  · exact (e11 1 (by decide) (by decide)).trans ((pF_k (by decide)).trans pF_at)
  · exact (e11 2 (by decide) (by decide)).trans pF_at
  · rw [e11 3 (by decide) (by decide), pF_k (by decide), pF_k (by decide)]
    simp
  · exact (pF_k (by decide)).trans pF_at
  · exact (eT 1).trans ((pF_k (by decide)).trans ((pF_k (by decide)).trans ((pF_k (by decide)).trans pF_at)))
theorem bg_off {X Y : Mem} {B : Nat → Nat} {T : Nat} (h : offG X Y) : offT T X (bgX Y B T) := by
  refine ⟨fun b q1 q2 q3 k => ?_, fun b _ h1 h2 h3 => h.2.1 b h1 h2 h3, congrArg (fun z => z.1) h.2.2, congrArg (fun z => z.2.2) h.2.2⟩
  exact (pF_o q1).trans ((pF_o q1).trans ((pF_o q3).trans ((pF_o q3).trans ((pF_o q3).trans ((pF_o q3).trans ((pF_o q1).trans ((pF_o q1).trans (h.1 b q2 k))))))))
theorem offT_C {T : Nat} {X Y Z : Mem} (h1 : offT T X Y) (h2 : offC T Y Z) : offT T X Z := ⟨fun b q1 q2 q3 k => (h2.1 b q1 q3 k).trans (h1.1 b q1 q2 q3 k), fun b q q1 q2 q3 => (h2.2.1 b q).trans (h1.2.1 b q q1 q2 q3), (congrArg (fun z => z.1) h2.2.2).trans h1.2.2.1, (congrArg (fun z => z.2.2) h2.2.2).trans h1.2.2.2⟩
/-- what reading comes to -/
def RdP (X : Mem) (B : Nat → Nat) (T : Nat) (R : PR TX) (Z : Mem) : Prop := Ok Z ∧ (offC T X Z ∧ (match R with
  | .inl q => Z.1 11 5 = nI q.1 ∧ ((1 ≤ q.1 ∧ q.1 ≤ 6) ∧ Z.1 11 6 = nI (stT B q.2))
  | .inr q => Z.1 11 5 = nI 0 ∧ (Z.1 11 6 = -1 ∧ ∃ c, c ≤ 300 ∧ CTn Z T c q.2)))
theorem pText_s {T : TS} {f j : Nat} {x : TX} (h : ¬ T.1 j = 46) : pText T (f + 1) j x = bnd (pClause T x j) (pText T f) := if_neg h
theorem pText_e {T : TS} {f j : Nat} {x : TX} (h : T.1 j = 46) : pText T (f + 1) j x = .inr (j, x) := if_pos h
theorem S_T_empty {X : Mem} {T : Nat} (hX : Ok X) (hk : kd T = 5) : CM 0 m_T_empty [.ref T] X (rV (emX X T)) := by
  refine CM_of (L := [some (.ref T)]) 0 ok_T_empty (fun _ => Nat.le_of_ble_eq_true rfl) rfl ?_
  refine J_aload_n (i := 0) d_T_empty_0 rfl rfl ?_
  refine J_iconst (v := nI 0) d_T_empty_1 rfl ?_
  refine M_put d_T_empty_2 p_T_24 hk rfl rfl rfl ?_
  refine J_aload_n (i := 0) d_T_empty_5 rfl rfl ?_
  refine J_iconst (v := nI 0) d_T_empty_6 rfl ?_
  refine J.eq (st1 := [.int (b2i false), .ref T]) ?_ rfl rfl rfl
  refine M_put d_T_empty_7 p_T_28 hk rfl b2i_nar b2i_fit ?_
  refine J_aload_n (i := 0) d_T_empty_10 rfl rfl ?_
  refine J_iconst (v := nI 0) d_T_empty_11 rfl ?_
  refine J.eq (st1 := [.int (b2i false), .ref T]) ?_ rfl rfl rfl
  refine M_put d_T_empty_12 p_T_32 hk rfl b2i_nar b2i_fit ?_
  refine J_aload_n (i := 0) d_T_empty_15 rfl rfl ?_
  refine J_iconst (v := nI 0) d_T_empty_16 rfl ?_
  refine M_put d_T_empty_17 p_T_35 hk rfl rfl rfl ?_
  refine M_vr d_T_empty_20 rfl ?_
  exact ⟨rfl, rfl⟩

theorem lp_D_read {X : Mem} {B : Nat → Nat} {N T m : Nat} {R : PR TX} {Q : Option Value → Mem → Prop} (kq : ∀ Z, RdP X B T R Z → Q none Z) : ∀ (f i : Nat) (Y : Mem) (j c : Nat) (w : Bool) (x : TX), i + f = 25 → Ok Y → offC T X Y → Lv Y B N T j c w → c ≤ j → CTn Y T c x → pText (tkT B) f j x = R → JM 72 m_D_read Q 50 [some (.ref 11), some (.int (nI m)), some (.ref T), some (.int (nI i))] [] Y := by
  intro f
  induction f with
  | zero =>
    intro i Y j c w x hi hY ho hL hcj hC hR
    obtain rfl : i = 25 := by omega
    have hR : (.inr (j, x) : PR TX) = R := hR
    refine J_iload_n (i := 3) d_D_read_50 rfl rfl ?_
    refine J_bipush (v := nI 24) d_D_read_51 rfl ?_
    refine N_icmp_gt (tgt := 82) d_D_read_53 (by decide) (by omega) (by omega) (fun c53 => ?_) (fun c53 => absurd c53 (by decide))
    refine M_vr d_D_read_82 rfl ?_
    exact kq Y (by rw [← hR]; exact ⟨hY, ho, hL.2.2.2.2.2.1, hL.2.2.2.2.2.2.2.2, c, hL.2.2.2.2.2.2.2.1, hC⟩)
  | succ f ih =>
    intro i Y j c w x hi hY ho hL hcj hC hR
    have hlt := tk_lt B j
    refine J_iload_n (i := 3) d_D_read_50 rfl rfl ?_
    refine J_bipush (v := nI 24) d_D_read_51 rfl ?_
    refine N_icmp_gt (tgt := 82) d_D_read_53 (by decide) (by omega) (by omega) (fun c53 => absurd c53 (by omega)) (fun c53 => ?_)
    refine J_aload_n (i := 0) d_D_read_56 rfl rfl ?_
    refine M_get (x := (nI (tk_ B j))) d_D_read_57 f_D_32 rfl rfl hL.2.2.2.1 ?_
    refine J_bipush (v := nI 46) d_D_read_60 rfl ?_
    refine N_icmp_eq (tgt := 82) d_D_read_62 (by decide) (by omega) (by omega) (fun c62 => ?_) (fun c62 => ?_)
    · refine M_vr d_D_read_82 rfl ?_
      exact kq Y (by rw [← hR, pText_e c62]; exact ⟨hY, ho, hL.2.2.2.2.2.1, hL.2.2.2.2.2.2.2.2, c, hL.2.2.2.2.2.2.2.1, hC⟩)
    · refine J_aload_n (i := 0) d_D_read_65 rfl rfl ?_
      refine M_get (x := (nI 0)) d_D_read_66 f_D_43 rfl rfl hL.2.2.2.2.2.1 ?_
      refine N_if_ne (tgt := 82) d_D_read_69 (by decide) (by omega) (fun c69 => absurd c69 (by decide)) (fun c69 => ?_)
      refine J_aload_n (i := 0) d_D_read_72 rfl rfl ?_
      refine M_callV (av := []) d_D_read_73 s_D_49 (M_rcv rfl (by decide) rfl) (S_D_readClause hY hL hC hcj c62) (by omega) rfl rfl (Nat.le_of_ble_eq_true rfl) (fun r1 Y1 hq1 => ?_)
      obtain ⟨rfl, hY1, ho1, hq1⟩ := hq1
      rcases hr1 : pClause (tkT B) x j with q1 | q1
      · rw [hr1] at hq1
        have hD1 : Dd Y1 B N T q1.1 (stT B q1.2) := hq1
        have hf1 := hD1.2.2.2.2.1
        refine N_iinc (a := i) (c := 1) (L1 := [some (.ref 11), some (.int (nI m)), some (.ref T), some (.int (nI (i + 1)))]) d_D_read_76 rfl rfl (by decide) rfl ?_
        refine J_goto (tgt := 50) d_D_read_79 (by decide) ?_
        refine J_iload_n (i := 3) d_D_read_50 rfl rfl ?_
        refine J_bipush (v := nI 24) d_D_read_51 rfl ?_
        refine N_icmp_gt (tgt := 82) d_D_read_53 (by decide) (by omega) (by omega) (fun c53_1 => ?_) (fun c53_1 => ?_)
        · refine M_vr d_D_read_82 rfl ?_
          exact kq Y1 (by rw [← hR, pText_s c62, hr1]; exact ⟨hY1, (offC_t ho ho1), hD1.2.2.2.1, hf1, hD1.2.2.2.2.2.1⟩)
        · refine J_aload_n (i := 0) d_D_read_56 rfl rfl ?_
          refine M_get (x := (nI 47)) d_D_read_57 f_D_32 rfl rfl hD1.2.2.1 ?_
          refine J_bipush (v := nI 46) d_D_read_60 rfl ?_
          refine N_icmp_eq (tgt := 82) d_D_read_62 (by decide) (by omega) (by omega) (fun c62_1 => absurd c62_1 (by decide)) (fun c62_1 => ?_)
          refine J_aload_n (i := 0) d_D_read_65 rfl rfl ?_
          refine M_get (x := (nI q1.1)) d_D_read_66 f_D_43 rfl rfl hD1.2.2.2.1 ?_
          refine N_if_ne (tgt := 82) d_D_read_69 (by decide) (by omega) (fun c69_1 => ?_) (fun c69_1 => absurd c69_1 (by omega))
          refine M_vr d_D_read_82 rfl ?_
          exact kq Y1 (by rw [← hR, pText_s c62, hr1]; exact ⟨hY1, (offC_t ho ho1), hD1.2.2.2.1, hf1, hD1.2.2.2.2.2.1⟩)
      · rw [hr1] at hq1
        obtain ⟨c1, w1, hL1, lc1, lb1, hC1⟩ := hq1
        refine N_iinc (a := i) (c := 1) (L1 := [some (.ref 11), some (.int (nI m)), some (.ref T), some (.int (nI (i + 1)))]) d_D_read_76 rfl rfl (by decide) rfl ?_
        refine J_goto (tgt := 50) d_D_read_79 (by decide) ?_
        rw [pText_s c62, hr1] at hR
        exact ih (i + 1) Y1 q1.1 c1 w1 q1.2 (by omega) hY1 (offC_t ho ho1) hL1 lc1 hC1 hR
theorem S_D_read {X : Mem} {B : Nat → Nat} {m T : Nat} (hX : Ok X) (hB : okB B m) (hV : ∀ q, q < m → (X.2.1 9).getD q 0 = nI (B q)) (hk : kd T = 5) : CM 72 m_D_read [.ref 11, .int (nI m), .ref T] X (fun r Y => r = none ∧ Ok Y ∧ offT T X Y ∧ (match pText (tkT B) 25 0 x0 with
  | .inl q => Y.1 11 5 = nI q.1 ∧ ((1 ≤ q.1 ∧ q.1 ≤ 6) ∧ Y.1 11 6 = nI (stT B q.2))
  | .inr q => Y.1 11 5 = nI 0 ∧ (Y.1 11 6 = -1 ∧ ∃ c, c ≤ 300 ∧ CTn Y T c q.2))) := by
  refine CM_of (L := [some (.ref 11), some (.int (nI m)), some (.ref T), none]) 1 ok_D_read (fun _ => Nat.le_of_ble_eq_true rfl) rfl ?_
  refine J_aload_n (i := 0) d_D_read_0 rfl rfl ?_
  refine M_getR (b := 12) d_D_read_1 f_D_14 rfl rfl rfl ?_
  refine J_iload_n (i := 1) d_D_read_4 rfl rfl ?_
  refine M_callV (av := [.int (nI m)]) d_D_read_5 s_D_20 (M_rcv rfl (by decide) rfl) (S_G_take hX hB hV) (by decide) rfl rfl (Nat.le_of_ble_eq_true rfl) (fun r1 Y1 hq1 => ?_)
  obtain ⟨rfl, hY1, ho1, c1, hc1, hs1, hT1⟩ := hq1
  obtain ⟨N, hN⟩ := tkv_of hB c1 hc1 hs1 hT1
  refine J_aload_n (i := 0) d_D_read_8 rfl rfl ?_
  refine J_iconst (v := nI 0) d_D_read_9 rfl ?_
  refine M_put d_D_read_10 p_D_24 rfl rfl rfl rfl ?_
  refine J_aload_n (i := 0) d_D_read_13 rfl rfl ?_
  refine J_aload_n (i := 0) d_D_read_14 rfl rfl ?_
  refine M_getR (b := 12) d_D_read_15 f_D_14 rfl rfl rfl ?_
  refine M_getR (b := 13) d_D_read_18 f_D_28 rfl rfl rfl ?_
  refine J_iconst (v := nI 0) d_D_read_21 rfl ?_
  refine N_iald (x := (nI (tk_ B 0))) d_D_read_22 rfl (by omega) (ltL hY1 (a := 13) (n := 301) (by decide) rfl (by omega)) (hN.2.2.2 0 (Nat.succ_pos _)).1 ?_
  refine M_put d_D_read_23 p_D_32 rfl rfl rfl rfl ?_
  refine J_aload_n (i := 0) d_D_read_26 rfl rfl ?_
  refine J_aload_n (i := 2) d_D_read_27 rfl rfl ?_
  refine M_putI d_D_read_28 p_D_34 rfl ?_
  refine J_aload_n (i := 0) d_D_read_31 rfl rfl ?_
  refine M_getI (b := T) d_D_read_32 f_D_34 rfl rfl rfl ?_
  refine CV_V (av := []) d_D_read_35 s_D_38 (M_rcv hk (by decide) rfl) (S_T_empty hY1 hk) (by decide) rfl rfl (Nat.le_of_ble_eq_true rfl) ?_
  refine J_aload_n (i := 0) d_D_read_38 rfl rfl ?_
  refine J_iconst (v := nI 0) d_D_read_39 rfl ?_
  refine M_put d_D_read_40 p_D_43 rfl rfl rfl rfl ?_
  refine J_aload_n (i := 0) d_D_read_43 rfl rfl ?_
  refine J_iconst (v := (-1)) d_D_read_44 rfl ?_
  refine M_put d_D_read_45 p_D_46 rfl rfl rfl rfl ?_
  refine J_iconst (v := nI 0) d_D_read_48 rfl ?_
  refine J_istore_n (i := 3) (L1 := [some (.ref 11), some (.int (nI m)), some (.ref T), some (.int (nI 0))]) d_D_read_49 rfl (by decide) rfl ?_
  obtain ⟨⟨w, hL⟩, hC⟩ := bg_L hN hk
  have ho2 := bg_off (T := T) (B := B) ho1
  exact lp_D_read (X := bgX Y1 B T) (fun Z hZ => ⟨rfl, hZ.1, offT_C ho2 hZ.2.1, hZ.2.2⟩) 25 0 (bgX Y1 B T) 0 0 w x0 rfl (show Ok (bgX Y1 B T) from hY1) (offC_0 T _) hL (Nat.le_refl _) hC rfl

