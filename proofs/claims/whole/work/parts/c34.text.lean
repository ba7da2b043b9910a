theorem bnd_inr {α β : Type} {r : PR α} {f : Nat → α → PR β} {q : Nat × β} (h : bnd r f = .inr q) : ∃ p, r = .inr p ∧ f p.1 p.2 = .inr q := by
  cases r with
  | inl e => cases h
  | inr p => exact ⟨p, rfl, h⟩
theorem pCl_n {T : TS} {x : TX} {j : Nat} {q : Nat × TX} (h : pClause T x j = .inr q) : q.2.2.2.1 = x.2.2.1 + 1 := by
  by_cases h6 : 6 < T.1 j
  · rw [pCl_A rfl h6] at h; cases h
  · by_cases h4 : (T.1 j = 0 ∧ x.1.isSome = true) ∨ (T.1 j = 1 ∧ x.2.1.isSome = true)
    · rw [pCl_4 rfl h6 h4] at h; cases h
    · by_cases hn : 24 ≤ x.2.2.1
      · rw [pCl_6 rfl h6 h4 hn] at h; cases h
      · rw [pCl_b rfl h6 h4 hn] at h
        obtain ⟨p, h1, h2⟩ := bnd_inr h
        obtain ⟨p2, h3, h4⟩ := bnd_inr h2
        cases h4
        by_cases hv : T.1 j ≤ 1
        · rw [pB_k hv] at h1
          obtain ⟨p3, h5, h6⟩ := bnd_inr h1
          cases h6
          rfl
        · rw [pB_d (by omega)] at h1
          obtain ⟨p3, h5, h6⟩ := bnd_inr h1
          cases h6
          rfl
/-- what a text that was read leaves -/
def RdR (X : Mem) (t : Nat) (B : Nat → Nat) (z : PR TX) (v : Int32) (Y : Mem) : Prop := match z with
  | .inl q => v = nI q.1 ∧ (q.1 ≠ 0 ∧ (q.1 < 10 ∧ (Ok Y ∧ (RTq Y B (stT B q.2) ∧ offX t X Y))))
  | .inr q => v = nI 0 ∧ (Ok Y ∧ (offX t X Y ∧ RTxt Y t q.2))
theorem RTn_0 {Y : Mem} {t : Nat} (h17 : Y.1 244 17 = nI (681 * t)) (h18 : Y.1 244 18 = nI 0) (h26 : Y.1 244 26 = nI 0) (hc : (Y.2.1 251).getD (681 * t) 0 = nI 0) : RTn Y t [] x0 := ⟨h17, h18, trivial, (fun p hp => by cases hp), h26, hc, Nat.zero_le _, fun k hk => absurd hk (Nat.not_lt_zero k), ⟨fun _ k hk => absurd hk (Nat.not_lt_zero k), fun d hd => by cases hd⟩, ⟨fun _ k hk => absurd hk (Nat.not_lt_zero k), fun d hd => by cases hd⟩⟩
theorem lp_R_readText {X0 : Mem} {t mm : Nat} {B : Nat → Nat} {z : PR TX} (hB : okB B mm) (hV0 : RV X0 mm B) (ht : t < 4) {Q : Option Value → Mem → Prop} (kq : ∀ v Y, RdR X0 t B z v Y → Q (some (.int v)) Y) : ∀ (f : Nat) (X : Mem) (j : Nat) (K : Kd) (x : TX) (zz : Option Value), x.2.2.1 + f = 25 → Ok X → RTq X B (stT B j) → RTn X t K x → K.length ≤ j → j ≤ 300 → offX t X0 X → pText (tkT B) f j x = z → JM 11 m_R_readText Q 43 [some (.ref 244), zz] [] X := by
  intro f
  induction f with
  | zero =>
    intro X j K x zz hn hX hT hR
    have := hR.2.2.2.2.2.2.1
    omega
  | succ f ih =>
    intro X j K x zz hn hX hT hR hKj hj hof hp
    have htr := tR_sm (q := stT B j) hB
    by_cases h46 : kT B (stT B j) = 46
    · rw [pText_e (show (tkT B).1 j = 46 from h46)] at hp
      subst hp
      have h0 : tR B (stT B j) = 0 := (sg_of hB (p := (0, 46)) (by decide)).mpr h46
      refine J_aload_n (i := 0) d_R_readText_43 rfl rfl ?_
      refine M_get (x := (nI (tR B (stT B j)))) d_R_readText_44 f_R_158 rfl rfl hT.2.2.1 ?_
      refine N_if_eq (tgt := 64) d_R_readText_47 (by decide) (by omega) (fun c47 => ?_) (fun c47 => absurd c47 (fun z => z h0))
      refine J_iconst (v := nI 0) d_R_readText_64 rfl ?_
      refine M_ir d_R_readText_65 rfl rfl ?_
      exact kq _ _ ⟨rfl, hX, hof, RTn_x ht (by omega) hR⟩
    · have h0 : tR B (stT B j) ≠ 0 := fun y => h46 ((sg_of hB (p := (0, 46)) (by decide)).mp y)
      rw [pText_s (show ¬ (tkT B).1 j = 46 from h46)] at hp
      refine J_aload_n (i := 0) d_R_readText_43 rfl rfl ?_
      refine M_get (x := (nI (tR B (stT B j)))) d_R_readText_44 f_R_158 rfl rfl hT.2.2.1 ?_
      refine N_if_eq (tgt := 64) d_R_readText_47 (by decide) (by omega) (fun c47 => absurd c47 h0) (fun c47 => ?_)
      refine J_aload_n (i := 0) d_R_readText_50 rfl rfl ?_
      refine M_callV (av := []) d_R_readText_51 s_R_324 (M_rcv rfl (by decide) rfl) (S_R_clause hB (RV_X hof hV0) hX ht hT hR hKj) (by decide) rfl rfl (Nat.le_of_ble_eq_true rfl) (fun r1 Y1 hq1 => ?_)
      unfold ClP at hq1
      rcases hz : pClause (tkT B) x j with q1 | q1
      · rw [hz] at hq1 hp
        obtain ⟨rfl, g0, g1, hY1, hT1, ho1⟩ := hq1
        refine J_istore_n (i := 1) (L1 := [some (.ref 244), some (.int (nI q1.1))]) d_R_readText_54 rfl (by decide) rfl ?_
        refine J_iload_n (i := 1) d_R_readText_55 rfl rfl ?_
        refine N_if_eq (tgt := 61) d_R_readText_56 (by decide) (by omega) (fun c56 => absurd c56 g0) (fun c56 => ?_)
        refine J_iload_n (i := 1) d_R_readText_59 rfl rfl ?_
        refine M_ir d_R_readText_60 rfl rfl ?_
        subst hp
        exact kq _ _ ⟨rfl, g0, g1, hY1, hT1, offX_t hof ho1⟩
      · have hcn := pCl_n hz
        rw [hz] at hq1 hp
        obtain ⟨rfl, hY1, hT1, ho1, hj1, hj3, K2, hR2, hK2⟩ := hq1
        refine J_istore_n (i := 1) (L1 := [some (.ref 244), some (.int (nI 0))]) d_R_readText_54 rfl (by decide) rfl ?_
        refine J_iload_n (i := 1) d_R_readText_55 rfl rfl ?_
        refine N_if_eq (tgt := 61) d_R_readText_56 (by decide) (by omega) (fun c56 => ?_) (fun c56 => absurd c56 (by decide))
        refine J_goto (tgt := 43) d_R_readText_61 (by decide) ?_
        exact ih Y1 q1.1 K2 q1.2 _ (by omega) hY1 hT1 hR2 hK2 hj3 (offX_t hof ho1) hp
theorem S_R_readText {X : Mem} {t mm : Nat} {B : Nat → Nat} (hX : Ok X) (hB : okB B mm) (hV : RV X mm B) (ht : t < 4) (h1 : (X.2.1 245).getD 1 0 = nI t) : CM 11 m_R_readText [.ref 244] X (fun r Y => ∃ v, r = some (.int v) ∧ RdR X t B (pText (tkT B) 25 0 x0) v Y) := by
  have kq : ∀ v Y, RdR X t B (pText (tkT B) 25 0 x0) v Y → (fun (r : Option Value) (Y : Mem) => ∃ v, r = some (.int v) ∧ RdR X t B (pText (tkT B) 25 0 x0) v Y) (some (.int v)) Y := fun v Y h => ⟨v, rfl, h⟩
  have hl : (X.2.1 251).length = 2724 := hX.1 251 (by decide)
  refine CM_of (L := [some (.ref 244), none]) 1 ok_R_readText (fun _ => Nat.le_of_ble_eq_true rfl) rfl ?_
  refine J_aload_n (i := 0) d_R_readText_0 rfl rfl ?_
  refine J_sipush (v := nI 681) d_R_readText_1 rfl ?_
  refine J_aload_n (i := 0) d_R_readText_4 rfl rfl ?_
  refine M_getR (b := 245) d_R_readText_5 f_R_7 rfl rfl rfl ?_
  refine J_iconst (v := nI 1) d_R_readText_8 rfl ?_
  refine N_iald (x := (nI t)) d_R_readText_9 rfl (by omega) (ltL hX (a := 245) (n := 1217) (by decide) rfl (by omega)) h1 ?_
  refine N_imul d_R_readText_10 ?_
  refine M_put d_R_readText_11 p_R_196 rfl rfl rfl rfl ?_
  refine J_aload_n (i := 0) d_R_readText_14 rfl rfl ?_
  refine M_getR (b := 251) d_R_readText_15 f_R_28 rfl rfl rfl ?_
  refine J_aload_n (i := 0) d_R_readText_18 rfl rfl ?_
  refine M_get (x := (nI (681 * t))) d_R_readText_19 f_R_196 rfl rfl rfl ?_
  refine J_iconst (v := nI 0) d_R_readText_22 rfl ?_
  refine N_iast d_R_readText_23 rfl (by decide) (by omega) (ltL hX (a := 251) (n := 2724) (by decide) rfl (by omega)) ?_
  refine J_aload_n (i := 0) d_R_readText_24 rfl rfl ?_
  refine J_iconst (v := nI 0) d_R_readText_25 rfl ?_
  refine M_put d_R_readText_26 p_R_199 rfl rfl rfl rfl ?_
  refine J_aload_n (i := 0) d_R_readText_29 rfl rfl ?_
  refine J_iconst (v := nI 0) d_R_readText_30 rfl ?_
  refine M_put d_R_readText_31 p_R_318 rfl rfl rfl rfl ?_
  refine J_aload_n (i := 0) d_R_readText_34 rfl rfl ?_
  refine J_iconst (v := nI 0) d_R_readText_35 rfl ?_
  refine M_put d_R_readText_36 p_R_149 rfl rfl rfl rfl ?_
  refine J_aload_n (i := 0) d_R_readText_39 rfl rfl ?_
  have hok0 : Ok (pF (pF (pF (pA (pF X 244 17 (nI (681 * t))) 251 (((pF X 244 17 (nI (681 * t))).2.1 251).set (681 * t) (nI 0))) 244 18 (nI 0)) 244 26 (nI 0)) 244 12 (nI 0)) := okF (okF (okF (okS (okF hX) rfl)))
  have hof0 : offX t X (pF (pF (pF (pA (pF X 244 17 (nI (681 * t))) 251 (((pF X 244 17 (nI (681 * t))).2.1 251).set (681 * t) (nI 0))) 244 18 (nI 0)) 244 26 (nI 0)) 244 12 (nI 0)) := offX_t (offX_F (by decide)) (offX_t (offX_A (q := 681 * t) (by omega)) (offX_t (offX_F (by decide)) (offX_t (offX_F (by decide)) (offX_F (by decide)))))
  refine M_callV (av := []) d_R_readText_40 s_R_233 (M_rcv rfl (by decide) rfl) (S_R_nextToken (p := 0) hok0 hB (RV_X hof0 hV) pF_at (Nat.zero_le _)) (by decide) rfl rfl (Nat.le_of_ble_eq_true rfl) (fun r1 Y1 hq1 => ?_)
  obtain ⟨rfl, hY1, ho1, hT1⟩ := hq1
  refine lp_R_readText hB hV ht kq 25 Y1 0 [] x0 none rfl hY1 hT1 (RTn_0 ?_ ?_ ?_ ?_) (Nat.zero_le _) (Nat.zero_le _) (offX_t hof0 (offX_N ho1)) rfl
  · rw [ho1.1 244 17 (by omega)]; rfl
  · rw [ho1.1 244 18 (by omega)]; rfl
  · rw [ho1.1 244 26 (by omega)]; rfl
  · rw [ho1.2.1]
    show (((pF X 244 17 (nI (681 * t))).2.1 251).set (681 * t) (nI 0)).getD (681 * t) 0 = nI 0
    exact set_eq (by show 681 * t < (X.2.1 251).length; omega)
theorem txE_F {s : Sg} {q : Nat × Nat} (h : ¬ tn (s.1 1) = 4) (hz : tsP s = .inl q) : txF s = -1 := by
  unfold txF
  rw [if_neg h, hz]
theorem txE_S {s : Sg} {q : Nat × Nat} (h : ¬ tn (s.1 1) = 4) (hz : tsP s = .inl q) : txS s = (s.1, (s.2.1, (s.2.2.1, (0, (nI q.1, (nI (stT (tsB s) q.2), s.2.2.2.2.2.2)))))) := by
  unfold txS
  rw [if_neg h, hz]
theorem txK_F {s : Sg} {q : Nat × TX} (h : ¬ tn (s.1 1) = 4) (hz : tsP s = .inr q) : txF s = nI (tn (s.1 1)) := by
  unfold txF
  rw [if_neg h, hz]
theorem txK_S {s : Sg} {q : Nat × TX} (h : ¬ tn (s.1 1) = 4) (hz : tsP s = .inr q) : txS s = (upF s.1 1 (nI (tn (s.1 1) + 1)), (s.2.1, (s.2.2.1, (0, (nI 0, (-1, fun t => if t = tn (s.1 1) then q.2 else s.2.2.2.2.2.2 t)))))) := by
  unfold txS
  rw [if_neg h, hz]
theorem sC_X {t : Nat} {X Y : Mem} (h : offX t X Y) : sC X Y := ⟨fun a ha => ⟨fun k => h.1 a k (by omega), h.2.1 a (by omega) (by omega) (by omega), by rw [h.2.2.1]⟩, h.2.2.2.1⟩
theorem RI_txE {X Y : Mem} {s : Sg} {t : Nat} {q : Nat × Nat} (hC : RI X s) (ht : t = tn (s.1 1)) (h4 : t < 4) (ho : offX t X Y) : RI (pF (pF (pF Y 244 10 (nI q.1)) 244 11 (nI (stT (tsB s) q.2))) 244 9 (nI 0)) (s.1, (s.2.1, (s.2.2.1, (0, (nI q.1, (nI (stT (tsB s) q.2), s.2.2.2.2.2.2)))))) := by
  obtain ⟨h1, h2, h3, ⟨g1, g2, g3, g4⟩, h5⟩ := hC
  refine ⟨(ho.2.1 245 (by decide) (by decide) (by decide)).trans h1, (ho.2.1 246 (by decide) (by decide) (by decide)).trans h2, fun i hi => ?_, ⟨pF_at, (pF_k (by decide)).trans ((pF_k (by decide)).trans pF_at), (pF_k (by decide)).trans pF_at, (pF_k (by decide)).trans ((pF_k (by decide)).trans ((pF_k (by decide)).trans ((ho.1 244 30 (by omega)).trans g4)))⟩, fun t' ht' ht4 => ?_⟩
  · show (Y.2.1 253).getD i 0 = _
    rw [ho.2.1 253 (by decide) (by decide) (by decide)]
    exact h3 i hi
  · have ht' : t' < tn (s.1 1) := ht'
    exact RTxt_r (fun p p1 p2 => ho.2.2.2.2 p (by omega)) (h5 t' ht' ht4)
theorem RI_txK {X Y : Mem} {s : Sg} {t : Nat} {q : Nat × TX} (hC : RI X s) (ht : t = tn (s.1 1)) (h4 : t < 4) (ho : offX t X Y) (hR : RTxt Y t q.2) (hY : Ok Y) : RI (pA (pF (pF (pF Y 244 10 (nI 0)) 244 11 (-1)) 244 9 (nI 0)) 245 (((pF (pF (pF Y 244 10 (nI 0)) 244 11 (-1)) 244 9 (nI 0)).2.1 245).set 1 (nI (t + 1)))) (upF s.1 1 (nI (t + 1)), (s.2.1, (s.2.2.1, (0, (nI 0, (-1, fun t' => if t' = t then q.2 else s.2.2.2.2.2.2 t')))))) := by
  obtain ⟨h1, h2, h3, ⟨g1, g2, g3, g4⟩, h5⟩ := hC
  refine ⟨?_, (ho.2.1 246 (by decide) (by decide) (by decide)).trans h2, fun i hi => ?_, ⟨rfl, rfl, rfl, (ho.1 244 30 (by omega)).trans g4⟩, fun t' ht' ht4 => ?_⟩
  · rw [pA_at]
    show (Y.2.1 245).set 1 (nI (t + 1)) = ofF 1217 (upF s.1 1 (nI (t + 1)))
    rw [ho.2.1 245 (by decide) (by decide) (by decide), h1, ofF_set]
  · show (Y.2.1 253).getD i 0 = _
    rw [ho.2.1 253 (by decide) (by decide) (by decide)]
    exact h3 i hi
  · have ht' : t' < tn (upF s.1 1 (nI (t + 1)) 1) := ht'
    rw [upF_at, tn_nI (by omega)] at ht'
    have e1 : (pA (pF (pF (pF Y 244 10 (nI 0)) 244 11 (-1)) 244 9 (nI 0)) 245 (((pF (pF (pF Y 244 10 (nI 0)) 244 11 (-1)) 244 9 (nI 0)).2.1 245).set 1 (nI (t + 1)))).2.1 251 = Y.2.1 251 := pA_b (by decide)
    refine RTxt_e (X := Y) e1 ?_
    show RTxt Y t' (if t' = t then q.2 else s.2.2.2.2.2.2 t')
    by_cases c : t' = t
    · rw [if_pos c, c]; exact hR
    · rw [if_neg c]
      exact RTxt_r (fun p p1 p2 => ho.2.2.2.2 p (by omega)) (h5 t' (by omega) ht4)
theorem S_R_textN {X : Mem} {s : Sg} {t : Nat} (hX : Ok X) (hC : RI X s) (hw : WFs s) (ht : t = tn (s.1 1)) : CM 12 m_R_text [.ref 244] X (fun q Y => q = some (.int (txF s)) ∧ pR X (txS s) Y) := by
  obtain ⟨e1, b1⟩ := wf_n hw.1 (j := 1) (by decide) (by decide)
  rw [← ht] at e1 b1
  have hb1 : t ≤ 4 := b1
  have hc1 : (X.2.1 245).getD 1 0 = nI t := by rw [hC.1, ofF_get (by decide)]; exact e1
  obtain ⟨hm3, htp⟩ := hw.2.2.2.1
  have hB : okB (tsB s) s.2.2.2.1 := okB_t hm3 htp
  have hV : RV X s.2.2.2.1 (tsB s) := ⟨hC.2.2.2.1.1, fun q hq => by
    rw [hC.2.2.1 q (by omega)]
    obtain ⟨v, hv, e⟩ := inR_n (htp q (by omega)) (by decide)
    rw [show tsB s q = tn (s.2.2.1 q) from if_pos hq, e, tn_nI (by omega)]⟩
  by_cases h4' : t = 4
  · refine CM_of (L := [some (.ref 244)]) 0 ok_R_text (fun _ => Nat.le_of_ble_eq_true rfl) rfl ?_

    refine J_aload_n (i := 0) d_R_text_0 rfl rfl ?_
    refine M_getR (b := 245) d_R_text_1 f_R_7 rfl rfl rfl ?_
    refine J_iconst (v := nI 1) d_R_text_4 rfl ?_
    refine N_iald (x := (nI t)) d_R_text_5 rfl (by omega) (ltL hX (a := 245) (n := 1217) (by decide) rfl (by omega)) hc1 ?_
    refine J_iconst (v := nI 4) d_R_text_6 rfl ?_
    refine N_icmp_ne (tgt := 12) d_R_text_7 (by decide) (by omega) (by omega) (fun c7 => absurd c7 (fun z => z h4')) (fun c7 => ?_)
    refine J_iconst (v := (-1)) d_R_text_10 rfl ?_
    refine M_ir d_R_text_11 rfl rfl ?_
    rw [show txF s = -1 from if_pos (by omega), show txS s = s from if_pos (by omega)]
    exact ⟨rfl, pR_0 hX hC⟩
  · have h4 : t < 4 := by omega
    refine CM_of (L := [some (.ref 244)]) 0 ok_R_text (fun _ => Nat.le_of_ble_eq_true rfl) rfl ?_
    refine J_aload_n (i := 0) d_R_text_0 rfl rfl ?_
    refine M_getR (b := 245) d_R_text_1 f_R_7 rfl rfl rfl ?_
    refine J_iconst (v := nI 1) d_R_text_4 rfl ?_
    refine N_iald (x := (nI t)) d_R_text_5 rfl (by omega) (ltL hX (a := 245) (n := 1217) (by decide) rfl (by omega)) hc1 ?_
    refine J_iconst (v := nI 4) d_R_text_6 rfl ?_
    refine N_icmp_ne (tgt := 12) d_R_text_7 (by decide) (by omega) (by omega) (fun c7 => ?_) (fun c7 => absurd c7 h4')
    refine J_aload_n (i := 0) d_R_text_12 rfl rfl ?_
    refine J_aload_n (i := 0) d_R_text_13 rfl rfl ?_
    refine M_callV (av := []) d_R_text_14 s_R_327 (M_rcv rfl (by decide) rfl) (S_R_readText hX hB hV h4 hc1) (by decide) rfl rfl (Nat.le_of_ble_eq_true rfl) (fun r1 Y1 hq1 => ?_)
    obtain ⟨v1, rfl, hq1⟩ := hq1
    unfold RdR at hq1
    rcases hz : pText (tkT (tsB s)) 25 0 x0 with q1 | q1
    · rw [hz] at hq1
      obtain ⟨rfl, g0, g1, hY1, hT1, ho1⟩ := hq1
      refine M_put d_R_text_17 p_R_37 rfl rfl rfl rfl ?_
      refine J_aload_n (i := 0) d_R_text_20 rfl rfl ?_
      refine J_aload_n (i := 0) d_R_text_21 rfl rfl ?_
      refine M_get (x := (nI q1.1)) d_R_text_22 f_R_37 rfl rfl rfl ?_
      refine N_if_ne (tgt := 32) d_R_text_25 (by decide) (by omega) (fun c25 => ?_) (fun c25 => absurd c25 g0)
      refine J_aload_n (i := 0) d_R_text_32 rfl rfl ?_
      refine M_get (x := (nI (stT (tsB s) q1.2))) d_R_text_33 f_R_155 rfl rfl hT1.1 ?_
      refine M_put d_R_text_36 p_R_41 rfl rfl rfl rfl ?_
      refine J_aload_n (i := 0) d_R_text_39 rfl rfl ?_
      refine J_iconst (v := nI 0) d_R_text_40 rfl ?_
      refine M_put d_R_text_41 p_R_142 rfl rfl rfl rfl ?_
      refine J_aload_n (i := 0) d_R_text_44 rfl rfl ?_
      refine M_get (x := (nI q1.1)) d_R_text_45 f_R_37 rfl rfl rfl ?_
      refine N_if_eq (tgt := 53) d_R_text_48 (by decide) (by omega) (fun c48 => absurd c48 g0) (fun c48 => ?_)
      refine J_iconst (v := (-1)) d_R_text_51 rfl ?_
      refine M_ir d_R_text_52 rfl rfl ?_
      have hn4 : ¬ tn (s.1 1) = 4 := by omega
      rw [txE_F hn4 hz, txE_S hn4 hz]
      exact ⟨rfl, okF (okF (okF hY1)), RI_txE hC ht h4 ho1, sC_t (sC_X ho1) (sC_t (sC_F (by decide)) (sC_t (sC_F (by decide)) (sC_F (by decide))))⟩
    · rw [hz] at hq1
      obtain ⟨rfl, hY1, ho1, hR1⟩ := hq1
      have e5 : Y1.2.1 245 = ofF 1217 s.1 := (ho1.2.1 245 (by decide) (by decide) (by decide)).trans hC.1
      have hc2 : (Y1.2.1 245).getD 1 0 = nI t := by rw [e5, ofF_get (by decide)]; exact e1
      refine M_put d_R_text_17 p_R_37 rfl rfl rfl rfl ?_
      refine J_aload_n (i := 0) d_R_text_20 rfl rfl ?_
      refine J_aload_n (i := 0) d_R_text_21 rfl rfl ?_
      refine M_get (x := (nI 0)) d_R_text_22 f_R_37 rfl rfl rfl ?_
      refine N_if_ne (tgt := 32) d_R_text_25 (by decide) (by omega) (fun c25 => absurd c25 (by decide)) (fun c25 => ?_)
      refine J_iconst (v := (-1)) d_R_text_28 rfl ?_
      refine J_goto (tgt := 36) d_R_text_29 (by decide) ?_
      refine M_put d_R_text_36 p_R_41 rfl rfl rfl rfl ?_
      refine J_aload_n (i := 0) d_R_text_39 rfl rfl ?_
      refine J_iconst (v := nI 0) d_R_text_40 rfl ?_
      refine M_put d_R_text_41 p_R_142 rfl rfl rfl rfl ?_
      refine J_aload_n (i := 0) d_R_text_44 rfl rfl ?_
      refine M_get (x := (nI 0)) d_R_text_45 f_R_37 rfl rfl rfl ?_
      refine N_if_eq (tgt := 53) d_R_text_48 (by decide) (by omega) (fun c48 => ?_) (fun c48 => absurd c48 (by decide))
      refine J_aload_n (i := 0) d_R_text_53 rfl rfl ?_
      refine M_getR (b := 245) d_R_text_54 f_R_7 rfl rfl rfl ?_
      refine J_iconst (v := nI 1) d_R_text_57 rfl ?_
      refine J_dup2 d_R_text_58 rfl rfl ?_
      refine N_iald (x := (nI t)) d_R_text_59 rfl (by omega) (ltL hY1 (a := 245) (n := 1217) (by decide) rfl (by omega)) hc2 ?_
      refine J_iconst (v := nI 1) d_R_text_60 rfl ?_
      refine N_iadd d_R_text_61 ?_
      refine N_iast d_R_text_62 rfl (by decide) (by omega) (ltL hY1 (a := 245) (n := 1217) (by decide) rfl (by omega)) ?_
      have hl5 : (Y1.2.1 245).length = 1217 := hY1.1 245 (by decide)
      have hc3 : ((Y1.2.1 245).set 1 (nI (t + 1))).getD 1 0 = nI (t + 1) := set_eq (by omega)
      refine J_aload_n (i := 0) d_R_text_63 rfl rfl ?_
      refine M_getR (b := 245) d_R_text_64 f_R_7 rfl rfl rfl ?_
      refine J_iconst (v := nI 1) d_R_text_67 rfl ?_
      refine N_iald (x := (nI (t + 1))) d_R_text_68 rfl (by omega) (ltL (okS hY1 rfl) (a := 245) (n := 1217) (by decide) rfl (by omega)) hc3 ?_
      refine J_iconst (v := nI 1) d_R_text_69 rfl ?_
      refine N_isub d_R_text_70 (by omega) ?_
      refine M_ir d_R_text_71 rfl rfl ?_
      have hn4 : ¬ tn (s.1 1) = 4 := by omega
      rw [txK_F hn4 hz, txK_S hn4 hz, ← ht]
      exact ⟨rfl, okS (okF (okF (okF hY1))) rfl, RI_txK hC ht h4 ho1 hR1 hY1, sC_t (sC_X ho1) (sC_t (sC_F (by decide)) (sC_t (sC_F (by decide)) (sC_t (sC_F (by decide)) (sC_A (by decide)))))⟩
