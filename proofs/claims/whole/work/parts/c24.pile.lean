def BhP (X0 : Mem) (t c0 : Nat) (B : Nat → Nat) (X : Mem) (z : Option MC) (r : Option Value) (Y : Mem) : Prop := match z with
  | some c2 => r = some (.int (b2i true)) ∧ MM X0 t c0 B c2 Y
  | none => r = some (.int (b2i false)) ∧ Y = X
theorem bhO {T : TS} {j m b r : Nat} {P : List Nat} {K : Kd} (hbe : btw (T.1 j) P = b) (hb : b ≠ 0) (hr : lstP b = r) : behM T j P m K = some (j + 1, (b :: (stl r P m K).1, ((stl r P m K).2.1, (false, (stl r P m K).2.2)))) := by
  subst hr
  subst hbe
  exact if_pos hb
theorem bhN {T : TS} {j m p a : Nat} {P P2 : List Nat} {K : Kd} (hb : btw (T.1 j) P = 0) (hp : pof (T.1 j) (opn P) (cpd P) = p) (h1 : p ≠ 100) (h0 : p ≠ 0) (e : (stl 1 P m K).1 = a :: P2) : behM T j P m K = some (j + 1, (p :: P2, ((stl 1 P m K).2.1, (false, (stl 1 P m K).2.2)))) := by
  unfold behM
  rw [if_neg (fun z => z hb), hp, if_neg h1, if_neg h0, e]
  rfl
theorem bhS {T : TS} {j m a : Nat} {P P2 : List Nat} {K : Kd} (hb : btw (T.1 j) P = 0) (hp : pof (T.1 j) (opn P) (cpd P) = 0) (e : (stl 1 P m K).1 = a :: P2) : behM T j P m K = some (fin7 (j + 1) P2 ((stl 1 P m K).2.1 - 1) (if opn P = 43 then (3, 0) :: (stl 1 P m K).2.2 else (stl 1 P m K).2.2)) := by
  unfold behM
  rw [if_neg (fun z => z hb), hp, if_neg (by decide), if_pos rfl, e]
  rfl
theorem S_R_partN {X : Mem} {B : Nat → Nat} {m q p : Nat} {P : List Nat} (hX : Ok X) (hB : okB B m) (hV : RV X m B) (hT : RTq X B q) (hq : q ≤ m) (hP : PiR X P) (hl : P.length ≤ 100) (ho : opn P ≠ 0) (hp : pof (kT B q) (opn P) (cpd P) = p) (h1 : p ≠ 100) : CM 3 m_R_partOf [.ref 244, .int (nI (opn P))] X (rN p X) := by
  have h := S_R_partOf hX hB hV hT hq hP hl
  rw [show opR P = nI (opn P) from if_neg ho, ptR_v hp h1] at h
  exact h
theorem opn_64 {X : Mem} : ∀ {P : List Nat}, PL X P → opn P < 64
  | [], _ => by decide
  | a :: P, ⟨_, h2, h3⟩ => by
    show (if 40 ≤ a then a else opn P) < 64
    split
    · exact h2
    · exact opn_64 h3
theorem S_R_behindOne_1a {X0 X : Mem} {t c0 mm j m : Nat} {B : Nat → Nat} {P : List Nat} {K : Kd} (hB : okB B mm) (hV0 : RV X0 mm B) (ht : t < 4) (hM : MN X0 t c0 B (stT B j) P m K X) (h24 : X.1 244 24 = b2i true) (hI : IV c0 (j, (P, (m, (true, K))))) {b : Nat} (hbe : btw (kT B (stT B j)) P = b) (hb : b ≠ 0) (h4 : rkP b = 4) : CM 4 m_R_behindOne [.ref 244] X (BhP X0 t c0 B X (behM (tkT B) j P m K)) := by
  have hl := iv_l hI
  obtain ⟨i1, i2, i3, i4, i5, i6⟩ := hI
  have i1 : m ≤ 8 := i1
  have i2 : m = cnP P := i2
  have i4 : K.length + P.length ≤ j := i4
  have i5 : c0 ≤ K.length := i5
  have i6 : j ≤ 300 := i6
  have hl : P.length ≤ 62 := hl
  have hct := ctQ_cn P
  have hX := hM.1
  have hV := RV_B hM.2.2.2 hV0
  have hT := hM.2.1
  have hq := stT_le hB j
  have htr := tR_sm (q := stT B j) hB
  obtain ⟨b1, b2, b3, b4, b5, b6⟩ := btw_f (show btw (kT B (stT B j)) P ≠ 0 by omega)
  rw [hbe] at b1 b2 b3 b4
  refine CM_of (L := [some (.ref 244), none, none, none]) 3 ok_R_behindOne (fun _ => Nat.le_of_ble_eq_true rfl) rfl ?_
  refine J_aload_n (i := 0) d_R_behindOne_0 rfl rfl ?_
  refine CV_I (av := []) d_R_behindOne_1 s_R_264 (M_rcv rfl (by decide) rfl) (S_R_betweenOf hX hB hV hT hq hM.2.2.1.1 (by omega)) (by decide) rfl rfl (Nat.le_of_ble_eq_true rfl) ?_
  rw [btR_v hbe hb]
  refine J_istore_n (i := 1) (L1 := [some (.ref 244), some (.int (nI b)), none, none]) d_R_behindOne_4 rfl (by decide) rfl ?_
  refine J_iload_n (i := 1) d_R_behindOne_5 rfl rfl ?_
  refine N_if_lt (tgt := 60) d_R_behindOne_6 (by decide) (by omega) ?_
  refine J_aload_n (i := 0) d_R_behindOne_9 rfl rfl ?_
  refine J_iload_n (i := 1) d_R_behindOne_10 rfl rfl ?_
  refine CS_N (av := [.int (nI b)]) d_R_behindOne_11 s_R_216 (S_R_rank b2) (by decide) rfl rfl (Nat.le_of_ble_eq_true rfl) ?_
  refine J_iconst (v := nI 4) d_R_behindOne_14 rfl ?_
  refine N_icmp_ne (tgt := 22) d_R_behindOne_15 (by decide) (by omega) (by omega) (fun c15 => absurd c15 (fun z => z h4)) (fun c15 => ?_)
  refine J_iconst (v := nI 5) d_R_behindOne_18 rfl ?_
  refine J_goto (tgt := 26) d_R_behindOne_19 (by decide) ?_
  have hN2 := hM
  refine M_callV (av := [.int (nI 5)]) d_R_behindOne_26 s_R_245 (M_rcv rfl (by decide) rfl) (S_R_settle hN2.1 ht (by omega) hN2.2.2.1 (by omega) (by omega) (by omega) (by omega)) (by decide) rfl rfl (Nat.le_of_ble_eq_true rfl) (fun r2 Y2 hq2 => ?_)
  obtain ⟨rfl, hY2, ho2, hS2⟩ := hq2
  obtain ⟨hM2, h24_2⟩ := MN_st hN2 hY2 ho2 hS2 i5
  have hsl := (stl_in (r := 5) (by omega) P m K i3 i2).2.2.2.1
  refine J_aload_n (i := 0) d_R_behindOne_29 rfl rfl ?_
  refine M_getR (b := 254) d_R_behindOne_30 f_R_44 rfl rfl rfl ?_
  refine J_aload_n (i := 0) d_R_behindOne_33 rfl rfl ?_
  refine M_get (x := (nI ((stl 5 P m K).1.length))) d_R_behindOne_34 f_R_213 rfl rfl hM2.2.2.1.1.1 ?_
  refine J_iload_n (i := 1) d_R_behindOne_37 rfl rfl ?_
  refine N_iast d_R_behindOne_38 rfl (by decide) (by omega) (ltL hM2.1 (a := 254) (n := 160) (by decide) rfl (by omega)) ?_
  refine J_aload_n (i := 0) d_R_behindOne_39 rfl rfl ?_
  refine J_dup d_R_behindOne_40 rfl ?_
  refine M_get (x := (nI ((stl 5 P m K).1.length))) d_R_behindOne_41 f_R_213 rfl rfl hM2.2.2.1.1.1 ?_
  refine J_iconst (v := nI 1) d_R_behindOne_44 rfl ?_
  refine N_iadd d_R_behindOne_45 ?_
  refine M_put d_R_behindOne_46 p_R_213 rfl rfl rfl rfl ?_
  refine J_aload_n (i := 0) d_R_behindOne_49 rfl rfl ?_
  refine J_iconst (v := nI 0) d_R_behindOne_50 rfl ?_
  refine J.eq (st1 := [.int (b2i false), .ref 244]) ?_ rfl rfl rfl
  refine M_put d_R_behindOne_51 p_R_242 rfl rfl b2i_nar b2i_fit ?_
  refine J_aload_n (i := 0) d_R_behindOne_54 rfl rfl ?_
  have hN3 := MN_24 (v := b2i false) (MN_push hM2 b2 (by omega))
  refine M_callV (av := []) d_R_behindOne_55 s_R_233 (M_rcv rfl (by decide) rfl) (S_R_nextToken hN3.1 hB (RV_B hN3.2.2.2 hV0) hN3.2.1.2.1 (eN_le hB (stT_le hB j))) (by decide) rfl rfl (Nat.le_of_ble_eq_true rfl) (fun r3 Y3 hq3 => ?_)
  obtain ⟨rfl, hY3, ho3, hT3⟩ := hq3
  obtain ⟨hM3, h24_3⟩ := MN_nx hN3 hY3 ho3 hT3
  refine J_iconst (v := nI 1) d_R_behindOne_58 rfl ?_
  refine J.eq (st1 := [.int (b2i true)]) ?_ rfl rfl rfl
  refine M_ir d_R_behindOne_59 rfl b2i_nar ?_
  rw [bhO (T := tkT B) hbe hb (show lstP b = 5 from if_pos h4)]
  exact ⟨rfl, hM3, h24_3.trans pF_at⟩

theorem S_R_behindOne_1b {X0 X : Mem} {t c0 mm j m : Nat} {B : Nat → Nat} {P : List Nat} {K : Kd} (hB : okB B mm) (hV0 : RV X0 mm B) (ht : t < 4) (hM : MN X0 t c0 B (stT B j) P m K X) (h24 : X.1 244 24 = b2i true) (hI : IV c0 (j, (P, (m, (true, K))))) {b : Nat} (hbe : btw (kT B (stT B j)) P = b) (hb : b ≠ 0) (h4 : rkP b ≠ 4) : CM 4 m_R_behindOne [.ref 244] X (BhP X0 t c0 B X (behM (tkT B) j P m K)) := by
  have hl := iv_l hI
  obtain ⟨i1, i2, i3, i4, i5, i6⟩ := hI
  have i1 : m ≤ 8 := i1
  have i2 : m = cnP P := i2
  have i4 : K.length + P.length ≤ j := i4
  have i5 : c0 ≤ K.length := i5
  have i6 : j ≤ 300 := i6
  have hl : P.length ≤ 62 := hl
  have hct := ctQ_cn P
  have hX := hM.1
  have hV := RV_B hM.2.2.2 hV0
  have hT := hM.2.1
  have hq := stT_le hB j
  have htr := tR_sm (q := stT B j) hB
  obtain ⟨b1, b2, b3, b4, b5, b6⟩ := btw_f (show btw (kT B (stT B j)) P ≠ 0 by omega)
  rw [hbe] at b1 b2 b3 b4
  refine CM_of (L := [some (.ref 244), none, none, none]) 3 ok_R_behindOne (fun _ => Nat.le_of_ble_eq_true rfl) rfl ?_
  refine J_aload_n (i := 0) d_R_behindOne_0 rfl rfl ?_
  refine CV_I (av := []) d_R_behindOne_1 s_R_264 (M_rcv rfl (by decide) rfl) (S_R_betweenOf hX hB hV hT hq hM.2.2.1.1 (by omega)) (by decide) rfl rfl (Nat.le_of_ble_eq_true rfl) ?_
  rw [btR_v hbe hb]
  refine J_istore_n (i := 1) (L1 := [some (.ref 244), some (.int (nI b)), none, none]) d_R_behindOne_4 rfl (by decide) rfl ?_
  refine J_iload_n (i := 1) d_R_behindOne_5 rfl rfl ?_
  refine N_if_lt (tgt := 60) d_R_behindOne_6 (by decide) (by omega) ?_
  refine J_aload_n (i := 0) d_R_behindOne_9 rfl rfl ?_
  refine J_iload_n (i := 1) d_R_behindOne_10 rfl rfl ?_
  refine CS_N (av := [.int (nI b)]) d_R_behindOne_11 s_R_216 (S_R_rank b2) (by decide) rfl rfl (Nat.le_of_ble_eq_true rfl) ?_
  refine J_iconst (v := nI 4) d_R_behindOne_14 rfl ?_
  refine N_icmp_ne (tgt := 22) d_R_behindOne_15 (by decide) (by omega) (by omega) (fun c15 => ?_) (fun c15 => absurd c15 h4)
  refine J_iload_n (i := 1) d_R_behindOne_22 rfl rfl ?_
  refine CS_N (av := [.int (nI b)]) d_R_behindOne_23 s_R_216 (S_R_rank b2) (by decide) rfl rfl (Nat.le_of_ble_eq_true rfl) ?_
  have hN2 := hM
  refine M_callV (av := [.int (nI (rkP b))]) d_R_behindOne_26 s_R_245 (M_rcv rfl (by decide) rfl) (S_R_settle hN2.1 ht (by omega) hN2.2.2.1 (by omega) (by omega) (by omega) (by omega)) (by decide) rfl rfl (Nat.le_of_ble_eq_true rfl) (fun r2 Y2 hq2 => ?_)
  obtain ⟨rfl, hY2, ho2, hS2⟩ := hq2
  obtain ⟨hM2, h24_2⟩ := MN_st hN2 hY2 ho2 hS2 i5
  have hsl := (stl_in (r := (rkP b)) (by omega) P m K i3 i2).2.2.2.1
  refine J_aload_n (i := 0) d_R_behindOne_29 rfl rfl ?_
  refine M_getR (b := 254) d_R_behindOne_30 f_R_44 rfl rfl rfl ?_
  refine J_aload_n (i := 0) d_R_behindOne_33 rfl rfl ?_
  refine M_get (x := (nI ((stl (rkP b) P m K).1.length))) d_R_behindOne_34 f_R_213 rfl rfl hM2.2.2.1.1.1 ?_
  refine J_iload_n (i := 1) d_R_behindOne_37 rfl rfl ?_
  refine N_iast d_R_behindOne_38 rfl (by decide) (by omega) (ltL hM2.1 (a := 254) (n := 160) (by decide) rfl (by omega)) ?_
  refine J_aload_n (i := 0) d_R_behindOne_39 rfl rfl ?_
  refine J_dup d_R_behindOne_40 rfl ?_
  refine M_get (x := (nI ((stl (rkP b) P m K).1.length))) d_R_behindOne_41 f_R_213 rfl rfl hM2.2.2.1.1.1 ?_
  refine J_iconst (v := nI 1) d_R_behindOne_44 rfl ?_
  refine N_iadd d_R_behindOne_45 ?_
  refine M_put d_R_behindOne_46 p_R_213 rfl rfl rfl rfl ?_
  refine J_aload_n (i := 0) d_R_behindOne_49 rfl rfl ?_
  refine J_iconst (v := nI 0) d_R_behindOne_50 rfl ?_
  refine J.eq (st1 := [.int (b2i false), .ref 244]) ?_ rfl rfl rfl
  refine M_put d_R_behindOne_51 p_R_242 rfl rfl b2i_nar b2i_fit ?_
  refine J_aload_n (i := 0) d_R_behindOne_54 rfl rfl ?_
  have hN3 := MN_24 (v := b2i false) (MN_push hM2 b2 (by omega))
  refine M_callV (av := []) d_R_behindOne_55 s_R_233 (M_rcv rfl (by decide) rfl) (S_R_nextToken hN3.1 hB (RV_B hN3.2.2.2 hV0) hN3.2.1.2.1 (eN_le hB (stT_le hB j))) (by decide) rfl rfl (Nat.le_of_ble_eq_true rfl) (fun r3 Y3 hq3 => ?_)
  obtain ⟨rfl, hY3, ho3, hT3⟩ := hq3
  obtain ⟨hM3, h24_3⟩ := MN_nx hN3 hY3 ho3 hT3
  refine J_iconst (v := nI 1) d_R_behindOne_58 rfl ?_
  refine J.eq (st1 := [.int (b2i true)]) ?_ rfl rfl rfl
  refine M_ir d_R_behindOne_59 rfl b2i_nar ?_
  rw [bhO (T := tkT B) hbe hb (show lstP b = rkP b from if_neg h4)]
  exact ⟨rfl, hM3, h24_3.trans pF_at⟩

theorem S_R_behindOne_0 {X0 X : Mem} {t c0 mm j m : Nat} {B : Nat → Nat} {P : List Nat} {K : Kd} (hB : okB B mm) (hV0 : RV X0 mm B) (ht : t < 4) (hM : MN X0 t c0 B (stT B j) P m K X) (h24 : X.1 244 24 = b2i true) (hI : IV c0 (j, (P, (m, (true, K))))) (hb : btw (kT B (stT B j)) P = 0) (hp : pof (kT B (stT B j)) (opn P) (cpd P) = 100) : CM 4 m_R_behindOne [.ref 244] X (BhP X0 t c0 B X (behM (tkT B) j P m K)) := by
  have hl := iv_l hI
  obtain ⟨i1, i2, i3, i4, i5, i6⟩ := hI
  have i1 : m ≤ 8 := i1
  have i2 : m = cnP P := i2
  have i4 : K.length + P.length ≤ j := i4
  have i5 : c0 ≤ K.length := i5
  have i6 : j ≤ 300 := i6
  have hl : P.length ≤ 62 := hl
  have hct := ctQ_cn P
  have hX := hM.1
  have hV := RV_B hM.2.2.2 hV0
  have hT := hM.2.1
  have hq := stT_le hB j
  have htr := tR_sm (q := stT B j) hB
  refine CM_of (L := [some (.ref 244), none, none, none]) 3 ok_R_behindOne (fun _ => Nat.le_of_ble_eq_true rfl) rfl ?_
  refine J_aload_n (i := 0) d_R_behindOne_0 rfl rfl ?_
  refine CV_I (av := []) d_R_behindOne_1 s_R_264 (M_rcv rfl (by decide) rfl) (S_R_betweenOf hX hB hV hT hq hM.2.2.1.1 (by omega)) (by decide) rfl rfl (Nat.le_of_ble_eq_true rfl) ?_
  rw [btR_0 hb]
  refine J_istore_n (i := 1) (L1 := [some (.ref 244), some (.int (-1)), none, none]) d_R_behindOne_4 rfl (by decide) rfl ?_
  refine J_iload_n (i := 1) d_R_behindOne_5 rfl rfl ?_
  refine J_if_lt (tgt := 60) d_R_behindOne_6 (by decide) (fun c6 => ?_) (fun c6 => absurd c6 (by decide))
  refine J_aload_n (i := 0) d_R_behindOne_60 rfl rfl ?_
  refine CV_I (av := []) d_R_behindOne_61 s_R_230 (M_rcv rfl (by decide) rfl) (S_R_openNow hX hM.2.2.1.1 (by omega)) (by decide) rfl rfl (Nat.le_of_ble_eq_true rfl) ?_
  refine J_istore_n (i := 2) (L1 := [some (.ref 244), some (.int (-1)), some (.int (opR P)), none]) d_R_behindOne_64 rfl (by decide) rfl ?_
  refine J_aload_n (i := 0) d_R_behindOne_65 rfl rfl ?_
  refine J_iload_n (i := 2) d_R_behindOne_66 rfl rfl ?_
  refine CV_I (av := [.int (opR P)]) d_R_behindOne_67 s_R_267 (M_rcv rfl (by decide) rfl) (S_R_partOf hX hB hV hT hq hM.2.2.1.1 (by omega)) (by decide) rfl rfl (Nat.le_of_ble_eq_true rfl) ?_
  rw [ptR_0 hp]
  refine J_istore_n (i := 3) (L1 := [some (.ref 244), some (.int (-1)), some (.int (opR P)), some (.int (-1))]) d_R_behindOne_70 rfl (by decide) rfl ?_
  refine J_iload_n (i := 3) d_R_behindOne_71 rfl rfl ?_
  refine J_if_ge (tgt := 77) d_R_behindOne_72 (by decide) (fun c72 => absurd c72 (by decide)) (fun c72 => ?_)
  refine J_iconst (v := nI 0) d_R_behindOne_75 rfl ?_
  refine J.eq (st1 := [.int (b2i false)]) ?_ rfl rfl rfl
  refine M_ir d_R_behindOne_76 rfl b2i_nar ?_
  rw [beh_none (T := tkT B) hb hp]
  exact ⟨rfl, rfl⟩

theorem S_R_behindOne_p {X0 X : Mem} {t c0 mm j m : Nat} {B : Nat → Nat} {P : List Nat} {K : Kd} (hB : okB B mm) (hV0 : RV X0 mm B) (ht : t < 4) (hM : MN X0 t c0 B (stT B j) P m K X) (h24 : X.1 244 24 = b2i true) (hI : IV c0 (j, (P, (m, (true, K))))) {p : Nat} (hb : btw (kT B (stT B j)) P = 0) (hp : pof (kT B (stT B j)) (opn P) (cpd P) = p) (h1 : p ≠ 100) : CM 4 m_R_behindOne [.ref 244] X (BhP X0 t c0 B X (behM (tkT B) j P m K)) := by
  have hl := iv_l hI
  obtain ⟨i1, i2, i3, i4, i5, i6⟩ := hI
  have i1 : m ≤ 8 := i1
  have i2 : m = cnP P := i2
  have i4 : K.length + P.length ≤ j := i4
  have i5 : c0 ≤ K.length := i5
  have i6 : j ≤ 300 := i6
  have hl : P.length ≤ 62 := hl
  have hct := ctQ_cn P
  have hX := hM.1
  have hV := RV_B hM.2.2.2 hV0
  have hT := hM.2.1
  have hq := stT_le hB j
  have htr := tR_sm (q := stT B j) hB
  obtain ⟨f1, f2, f3⟩ := pof_f (show pof (kT B (stT B j)) (opn P) (cpd P) ≠ 100 by omega)
  rw [hp] at f3
  have ho : opn P ≠ 0 := by omega
  have h40 := opn_40 ho
  have hj := tk_300 hB f1
  obtain ⟨P2, e2⟩ := stl1_o (m := m) (K := K) ho
  obtain ⟨s1, s2, s3, s4, s5, s6, s7, s8⟩ := stl_in (r := 1) (by decide) P m K i3 i2
  rw [e2] at s1 s2 s3 s4 s6
  have c1 := cnO_40 h40
  have s2 : (stl 1 P m K).2.1 = cnO (opn P) + cnP P2 := s2
  have s3 : (stl 1 P m K).2.2.length + (P2.length + 1) = K.length + P.length := s3
  have s4 : P2.length + 1 ≤ P.length := s4
  have s6 : cnO (opn P) + cnP P2 ≤ cnP P := s6
  have hc2 := ctQ_cn P2
  have hop : opn P < 64 := opn_64 hM.2.2.1.1.2
  refine CM_of (L := [some (.ref 244), none, none, none]) 3 ok_R_behindOne (fun _ => Nat.le_of_ble_eq_true rfl) rfl ?_
  refine J_aload_n (i := 0) d_R_behindOne_0 rfl rfl ?_
  refine CV_I (av := []) d_R_behindOne_1 s_R_264 (M_rcv rfl (by decide) rfl) (S_R_betweenOf hX hB hV hT hq hM.2.2.1.1 (by omega)) (by decide) rfl rfl (Nat.le_of_ble_eq_true rfl) ?_
  rw [btR_0 hb]
  refine J_istore_n (i := 1) (L1 := [some (.ref 244), some (.int (-1)), none, none]) d_R_behindOne_4 rfl (by decide) rfl ?_
  refine J_iload_n (i := 1) d_R_behindOne_5 rfl rfl ?_
  refine J_if_lt (tgt := 60) d_R_behindOne_6 (by decide) (fun c6 => ?_) (fun c6 => absurd c6 (by decide))
  refine J_aload_n (i := 0) d_R_behindOne_60 rfl rfl ?_
  refine CV_I (av := []) d_R_behindOne_61 s_R_230 (M_rcv rfl (by decide) rfl) (S_R_openNow hX hM.2.2.1.1 (by omega)) (by decide) rfl rfl (Nat.le_of_ble_eq_true rfl) ?_
  rw [show opR P = nI (opn P) from if_neg ho]
  refine J_istore_n (i := 2) (L1 := [some (.ref 244), some (.int (-1)), some (.int (nI (opn P))), none]) d_R_behindOne_64 rfl (by decide) rfl ?_
  refine J_aload_n (i := 0) d_R_behindOne_65 rfl rfl ?_
  refine J_iload_n (i := 2) d_R_behindOne_66 rfl rfl ?_
  refine CV_N (av := [.int (nI (opn P))]) d_R_behindOne_67 s_R_267 (M_rcv rfl (by decide) rfl) (S_R_partN hX hB hV hT hq hM.2.2.1.1 (by omega) ho hp h1) (by decide) rfl rfl (Nat.le_of_ble_eq_true rfl) ?_
  refine J_istore_n (i := 3) (L1 := [some (.ref 244), some (.int (-1)), some (.int (nI (opn P))), some (.int (nI p))]) d_R_behindOne_70 rfl (by decide) rfl ?_
  refine J_iload_n (i := 3) d_R_behindOne_71 rfl rfl ?_
  refine N_if_ge (tgt := 77) d_R_behindOne_72 (by decide) (by omega) ?_
  refine J_aload_n (i := 0) d_R_behindOne_77 rfl rfl ?_
  refine J_iconst (v := nI 1) d_R_behindOne_78 rfl ?_
  have hN2 := hM
  refine M_callV (av := [.int (nI 1)]) d_R_behindOne_79 s_R_245 (M_rcv rfl (by decide) rfl) (S_R_settle hN2.1 ht (by decide) hN2.2.2.1 (by omega) (by omega) (by omega) (by omega)) (by decide) rfl rfl (Nat.le_of_ble_eq_true rfl) (fun r2 Y2 hq2 => ?_)
  obtain ⟨rfl, hY2, ho2, hS2⟩ := hq2
  obtain ⟨hM2, h24_2⟩ := MN_st hN2 hY2 ho2 hS2 i5
  rw [e2] at hM2
  refine J_aload_n (i := 0) d_R_behindOne_82 rfl rfl ?_
  have hN3 := hM2
  refine M_callV (av := []) d_R_behindOne_83 s_R_233 (M_rcv rfl (by decide) rfl) (S_R_nextToken hN3.1 hB (RV_B hN3.2.2.2 hV0) hN3.2.1.2.1 (eN_le hB (stT_le hB j))) (by decide) rfl rfl (Nat.le_of_ble_eq_true rfl) (fun r3 Y3 hq3 => ?_)
  obtain ⟨rfl, hY3, ho3, hT3⟩ := hq3
  obtain ⟨hM3, h24_3⟩ := MN_nx hN3 hY3 ho3 hT3
  refine J_iload_n (i := 3) d_R_behindOne_86 rfl rfl ?_
  refine N_if_le (tgt := 107) d_R_behindOne_87 (by decide) (by omega) (fun c87 => ?_) (fun c87 => ?_)
  · refine J_aload_n (i := 0) d_R_behindOne_107 rfl rfl ?_
    refine J_dup d_R_behindOne_108 rfl ?_
    refine M_get (x := (nI ((stl 1 P m K).2.1))) d_R_behindOne_109 f_R_223 rfl rfl hM3.2.2.1.2.1 ?_
    refine J_iconst (v := nI 1) d_R_behindOne_112 rfl ?_
    refine N_isub d_R_behindOne_113 (by omega) ?_
    refine M_put d_R_behindOne_114 p_R_223 rfl rfl rfl rfl ?_
    refine J_aload_n (i := 0) d_R_behindOne_117 rfl rfl ?_
    refine J_dup d_R_behindOne_118 rfl ?_
    refine M_get (x := (nI (P2.length + 1))) d_R_behindOne_119 f_R_213 rfl rfl hM3.2.2.1.1.1 ?_
    refine J_iconst (v := nI 1) d_R_behindOne_122 rfl ?_
    refine N_isub d_R_behindOne_123 (by omega) ?_
    rw [show P2.length + 1 - 1 = P2.length from rfl]
    refine M_put d_R_behindOne_124 p_R_213 rfl rfl rfl rfl ?_
    have hN3b := MN_pop (MN_23 (n := (stl 1 P m K).2.1 - 1) hM3)
    refine J_iload_n (i := 2) d_R_behindOne_127 rfl rfl ?_
    refine J_bipush (v := nI 43) d_R_behindOne_128 rfl ?_
    refine N_icmp_ne (tgt := 139) d_R_behindOne_130 (by decide) (by omega) (by omega) (fun c130 => ?_) (fun c130 => ?_)
    · refine J_aload_n (i := 0) d_R_behindOne_139 rfl rfl ?_
      refine J_bipush (v := nI 7) d_R_behindOne_140 rfl ?_
      have hN5 := hN3b
      refine M_callV (av := [.int (nI 7)]) d_R_behindOne_142 s_R_245 (M_rcv rfl (by decide) rfl) (S_R_settle hN5.1 ht (by decide) hN5.2.2.1 (by omega) (by omega) (show (stl 1 P m K).2.2.length + P2.length ≤ 300 by omega) (by omega)) (by decide) rfl rfl (Nat.le_of_ble_eq_true rfl) (fun r5 Y5 hq5 => ?_)
      obtain ⟨rfl, hY5, ho5, hS5⟩ := hq5
      obtain ⟨hM5, h24_5⟩ := MN_st hN5 hY5 ho5 hS5 (show c0 ≤ (stl 1 P m K).2.2.length by omega)
      refine J_iconst (v := nI 1) d_R_behindOne_145 rfl ?_
      refine J.eq (st1 := [.int (b2i true)]) ?_ rfl rfl rfl
      refine M_ir d_R_behindOne_146 rfl b2i_nar ?_
      rw [show p = 0 by omega] at hp
      rw [bhS (T := tkT B) hb hp e2, if_neg (show ¬ opn P = 43 by omega)]
      exact ⟨rfl, hM5, h24_5.trans ((pF_k (by decide)).trans ((pF_k (by decide)).trans (h24_3.trans (h24_2.trans h24))))⟩
    · refine J_aload_n (i := 0) d_R_behindOne_133 rfl rfl ?_
      refine J_iconst (v := nI 3) d_R_behindOne_134 rfl ?_
      refine J_iconst (v := nI 0) d_R_behindOne_135 rfl ?_
      refine CV_V (av := [.int (nI 3), .int (nI 0)]) d_R_behindOne_136 s_R_219 (M_rcv rfl (by decide) rfl) (S_R_emit hN3b.1 hN3b.2.2.1.2.2.2.1 hN3b.2.2.1.2.2.1 ht (show (stl 1 P m K).2.2.length < 304 by omega)) (by decide) rfl rfl (Nat.le_of_ble_eq_true rfl) ?_
      have hN4 := MN_em (a := 3) (v := 0) hN3b ht (show (stl 1 P m K).2.2.length < 304 by omega) (show c0 ≤ (stl 1 P m K).2.2.length by omega)
      refine J_aload_n (i := 0) d_R_behindOne_139 rfl rfl ?_
      refine J_bipush (v := nI 7) d_R_behindOne_140 rfl ?_
      have hN5 := hN4
      refine M_callV (av := [.int (nI 7)]) d_R_behindOne_142 s_R_245 (M_rcv rfl (by decide) rfl) (S_R_settle hN5.1 ht (by decide) hN5.2.2.1 (by omega) (by omega) (show (stl 1 P m K).2.2.length + 1 + P2.length ≤ 300 by omega) (by omega)) (by decide) rfl rfl (Nat.le_of_ble_eq_true rfl) (fun r5 Y5 hq5 => ?_)
      obtain ⟨rfl, hY5, ho5, hS5⟩ := hq5
      obtain ⟨hM5, h24_5⟩ := MN_st hN5 hY5 ho5 hS5 (show c0 ≤ (stl 1 P m K).2.2.length + 1 by omega)
      refine J_iconst (v := nI 1) d_R_behindOne_145 rfl ?_
      refine J.eq (st1 := [.int (b2i true)]) ?_ rfl rfl rfl
      refine M_ir d_R_behindOne_146 rfl b2i_nar ?_
      rw [show p = 0 by omega] at hp
      rw [bhS (T := tkT B) hb hp e2, if_pos (show opn P = 43 by omega)]
      exact ⟨rfl, hM5, h24_5.trans ((emR_F (by decide)).trans ((pF_k (by decide)).trans ((pF_k (by decide)).trans (h24_3.trans (h24_2.trans h24)))))⟩
  · refine J_aload_n (i := 0) d_R_behindOne_90 rfl rfl ?_
    refine M_getR (b := 254) d_R_behindOne_91 f_R_44 rfl rfl rfl ?_
    refine J_aload_n (i := 0) d_R_behindOne_94 rfl rfl ?_
    refine CV_I (av := []) d_R_behindOne_95 s_R_226 (M_rcv rfl (by decide) rfl) (S_R_openAt hM3.1 hM3.2.2.1.1 (show P2.length + 1 ≤ 100 by omega)) (by decide) rfl rfl (Nat.le_of_ble_eq_true rfl) ?_
    rw [show opA (opn P :: P2) = nI P2.length from if_pos h40]
    refine J_iload_n (i := 3) d_R_behindOne_98 rfl rfl ?_
    refine N_iast d_R_behindOne_99 rfl (by decide) (by omega) (ltL hM3.1 (a := 254) (n := 160) (by decide) rfl (by omega)) ?_
    refine J_aload_n (i := 0) d_R_behindOne_100 rfl rfl ?_
    refine J_iconst (v := nI 0) d_R_behindOne_101 rfl ?_
    refine J.eq (st1 := [.int (b2i false), .ref 244]) ?_ rfl rfl rfl
    refine M_put d_R_behindOne_102 p_R_242 rfl rfl b2i_nar b2i_fit ?_
    refine J_iconst (v := nI 1) d_R_behindOne_105 rfl ?_
    refine J.eq (st1 := [.int (b2i true)]) ?_ rfl rfl rfl
    refine M_ir d_R_behindOne_106 rfl b2i_nar ?_
    rw [bhN (T := tkT B) hb hp h1 (by omega) e2]
    exact ⟨rfl, MN_24 (MN_top hM3 (by omega) (by omega)), pF_at⟩

theorem S_R_behindOne {X0 X : Mem} {t c0 mm j m : Nat} {B : Nat → Nat} {P : List Nat} {K : Kd} (hB : okB B mm) (hV0 : RV X0 mm B) (ht : t < 4) (hM : MN X0 t c0 B (stT B j) P m K X) (h24 : X.1 244 24 = b2i true) (hI : IV c0 (j, (P, (m, (true, K))))) : CM 4 m_R_behindOne [.ref 244] X (BhP X0 t c0 B X (behM (tkT B) j P m K)) := by
  by_cases hb : btw (kT B (stT B j)) P = 0
  · by_cases hp : pof (kT B (stT B j)) (opn P) (cpd P) = 100
    · exact S_R_behindOne_0 hB hV0 ht hM h24 hI hb hp
    · exact S_R_behindOne_p hB hV0 ht hM h24 hI hb rfl hp
  · by_cases h4 : rkP (btw (kT B (stT B j)) P) = 4
    · exact S_R_behindOne_1a hB hV0 ht hM h24 hI rfl hb h4
    · exact S_R_behindOne_1b hB hV0 ht hM h24 hI rfl hb h4
