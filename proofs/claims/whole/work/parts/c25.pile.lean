/-- what a law that was read leaves -/
def SmP (X0 : Mem) (t c0 : Nat) (B : Nat → Nat) (z : MR) (v : Int32) (Y : Mem) : Prop := match z with
  | .inl q => v = nI q.1 ∧ (q.1 ≠ 0 ∧ (q.1 < 10 ∧ FL X0 t c0 B q.2 Y))
  | .inr q => v = nI 0 ∧ (FL X0 t c0 B q.1 Y ∧ (Y.1 244 18 = nI q.2.length ∧ (EC Y t q.2 ∧ (c0 ≤ q.2.length ∧ (q.2.length ≤ q.1 ∧ (q.1 ≤ 300 ∧ KB q.2))))))
theorem beg_ne {T : TS} {w : Bool} {j n f : Nat} {P : List Nat} {K : Kd} (h : begM T w j P n K = .inl f) : f ≠ 0 ∧ f < 10 := by
  have ho : ∀ a, opd a j P n K = .inl f → f ≠ 0 ∧ f < 10 := fun a q => by
    unfold opd at q
    split at q <;> cases q
    decide
  unfold begM at h
  repeat' split at h
  all_goals first
    | exact ho _ h
    | (cases h; done)
    | (cases h; decide)
theorem mrun_s {T : TS} {w : Bool} {f : Nat} {c c2 : MC} {r : MR} (h : mstep T w c = .inr c2) (hr : mrun T w (f + 1) c = some r) : mrun T w f c2 = some r := by
  have e : mrun T w (f + 1) c = (match mstep T w c with
    | .inl r => some r
    | .inr c2 => mrun T w f c2) := rfl
  rw [e, h] at hr
  exact hr
theorem mrun_e {T : TS} {w : Bool} {f : Nat} {c : MC} {r r2 : MR} (h : mstep T w c = .inl r2) (hr : mrun T w (f + 1) c = some r) : r2 = r := by
  have e : mrun T w (f + 1) c = (match mstep T w c with
    | .inl r => some r
    | .inr c2 => mrun T w f c2) := rfl
  rw [e, h] at hr
  exact Option.some.inj hr
theorem nI_k64 : ∀ k, k < 64 → ¬ nI k < 0 := by decide
theorem lp_R_summed {X0 : Mem} {t c0 mm so : Nat} {B : Nat → Nat} {w : Bool} (hB : okB B mm) (hV0 : RV X0 mm B) (ht : t < 4) (hso : X0.1 244 19 = nI so) (hw : (so = 0 ∧ w = true) ∨ (so = 1 ∧ w = false)) {Q : Option Value → Mem → Prop} {r : MR} (kq : ∀ v Y, SmP X0 t c0 B r v Y → Q (some (.int v)) Y) : ∀ (f : Nat) (c : MC) (X : Mem) (zz : Option Value), MM X0 t c0 B c X → IV c0 c → KV c → mrun (tkT B) w f c = some r → JM 7 m_R_summed Q 15 [some (.ref 244), zz] [] X := by
  intro f
  induction f with
  | zero =>
    intro c X zz _ _ _ hr
    cases hr
  | succ f ih =>
    intro c X zz hMM hI hK hr
    obtain ⟨j, P, m, wh, K⟩ := c
    obtain ⟨hM0, h24⟩ := hMM
    have hM : MN X0 t c0 B (stT B j) P m K X := hM0
    clear hM0
    have hl := iv_l hI
    obtain ⟨i1, i2, i3, i4, i5, i6⟩ := id hI
    have i1 : m ≤ 8 := i1
    have i2 : m = cnP P := i2
    have i4 : K.length + P.length ≤ j := i4
    have i5 : c0 ≤ K.length := i5
    have i6 : j ≤ 300 := i6
    have hl : P.length ≤ 62 := hl
    have hct := ctQ_cn P
    have hs : X.1 244 19 = nI so := (hM.2.2.2.1 244 19 (by omega)).trans hso
    cases wh with
    | true =>
      have h24 : X.1 244 24 = b2i true := h24
      cases hz : behM (tkT B) j P m K with
      | some c2 =>
        refine J_aload_n (i := 0) d_R_summed_15 rfl rfl ?_
        refine M_get (x := (b2i true)) d_R_summed_16 f_R_242 rfl rfl h24 ?_
        refine B_if_eq (tgt := 48) d_R_summed_19 (by decide) (fun c19 => absurd c19 (by decide)) (fun c19 => ?_)
        refine J_aload_n (i := 0) d_R_summed_22 rfl rfl ?_
        refine M_callV (av := []) d_R_summed_23 s_R_270 (M_rcv rfl (by decide) rfl) (S_R_behindOne hB hV0 ht hM h24 hI) (by decide) rfl rfl (Nat.le_of_ble_eq_true rfl) (fun r1 Y1 hq1 => ?_)
        unfold BhP at hq1
        rw [hz] at hq1
        obtain ⟨rfl, hM1⟩ := hq1
        refine B_if_eq (tgt := 32) d_R_summed_26 (by decide) (fun c26 => absurd c26 (by decide)) (fun c26 => ?_)
        refine J_goto (tgt := 15) d_R_summed_29 (by decide) ?_
        exact ih _ _ _ hM1 (iv_s (w := w) (tk_46 hB) hI (ms_beh hz)) (kv_s (w := w) hK (ms_beh hz)) (mrun_s (ms_beh hz) hr)
      | none =>
        have hno := ms_no (T := tkT B) (w := w) hz
        by_cases ho : opn P ≠ 0
        · rw [if_pos ho] at hno
          rw [← mrun_e hno hr] at kq
          refine J_aload_n (i := 0) d_R_summed_15 rfl rfl ?_
          refine M_get (x := (b2i true)) d_R_summed_16 f_R_242 rfl rfl h24 ?_
          refine B_if_eq (tgt := 48) d_R_summed_19 (by decide) (fun c19 => absurd c19 (by decide)) (fun c19 => ?_)
          refine J_aload_n (i := 0) d_R_summed_22 rfl rfl ?_
          refine M_callV (av := []) d_R_summed_23 s_R_270 (M_rcv rfl (by decide) rfl) (S_R_behindOne hB hV0 ht hM h24 hI) (by decide) rfl rfl (Nat.le_of_ble_eq_true rfl) (fun r1 Y1 hq1 => ?_)
          unfold BhP at hq1
          rw [hz] at hq1
          obtain ⟨rfl, rfl⟩ := hq1
          refine B_if_eq (tgt := 32) d_R_summed_26 (by decide) (fun c26 => ?_) (fun c26 => absurd c26 (by decide))
          refine J_aload_n (i := 0) d_R_summed_32 rfl rfl ?_
          refine CV_I (av := []) d_R_summed_33 s_R_230 (M_rcv rfl (by decide) rfl) (S_R_openNow hM.1 hM.2.2.1.1 (by omega)) (by decide) rfl rfl (Nat.le_of_ble_eq_true rfl) ?_
          refine J_if_lt (tgt := 41) d_R_summed_36 (by decide) (fun c36 => absurd c36 (by rw [show opR P = nI (opn P) from if_neg ho]; exact nI_k64 _ (opn_64 hM.2.2.1.1.2))) (fun c36 => ?_)
          refine J_iconst (v := nI 1) d_R_summed_39 rfl ?_
          refine M_ir d_R_summed_40 rfl rfl ?_
          exact kq _ _ ⟨rfl, show (1 : Nat) ≠ 0 by decide, show (1 : Nat) < 10 by decide, MN_FL hM⟩
        · rw [if_neg ho] at hno
          rw [← mrun_e hno hr] at kq
          refine J_aload_n (i := 0) d_R_summed_15 rfl rfl ?_
          refine M_get (x := (b2i true)) d_R_summed_16 f_R_242 rfl rfl h24 ?_
          refine B_if_eq (tgt := 48) d_R_summed_19 (by decide) (fun c19 => absurd c19 (by decide)) (fun c19 => ?_)
          refine J_aload_n (i := 0) d_R_summed_22 rfl rfl ?_
          refine M_callV (av := []) d_R_summed_23 s_R_270 (M_rcv rfl (by decide) rfl) (S_R_behindOne hB hV0 ht hM h24 hI) (by decide) rfl rfl (Nat.le_of_ble_eq_true rfl) (fun r1 Y1 hq1 => ?_)
          unfold BhP at hq1
          rw [hz] at hq1
          obtain ⟨rfl, rfl⟩ := hq1
          refine B_if_eq (tgt := 32) d_R_summed_26 (by decide) (fun c26 => ?_) (fun c26 => absurd c26 (by decide))
          refine J_aload_n (i := 0) d_R_summed_32 rfl rfl ?_
          refine CV_I (av := []) d_R_summed_33 s_R_230 (M_rcv rfl (by decide) rfl) (S_R_openNow hM.1 hM.2.2.1.1 (by omega)) (by decide) rfl rfl (Nat.le_of_ble_eq_true rfl) ?_
          refine J_if_lt (tgt := 41) d_R_summed_36 (by decide) (fun c36 => ?_) (fun c36 => absurd c36 (by rw [show opR P = -1 from if_pos (by omega)]; decide))
          refine J_aload_n (i := 0) d_R_summed_41 rfl rfl ?_
          refine J_iconst (v := nI 1) d_R_summed_42 rfl ?_
          have hN2 := hM
          refine M_callV (av := [.int (nI 1)]) d_R_summed_43 s_R_245 (M_rcv rfl (by decide) rfl) (S_R_settle hN2.1 ht (by decide) hN2.2.2.1 (by omega) (by omega) (by omega) (by omega)) (by decide) rfl rfl (Nat.le_of_ble_eq_true rfl) (fun r2 Y2 hq2 => ?_)
          obtain ⟨rfl, hY2, ho2, hS2⟩ := hq2
          obtain ⟨hM2, h24_2⟩ := MN_st hN2 hY2 ho2 hS2 i5
          refine J_iconst (v := nI 0) d_R_summed_46 rfl ?_
          refine M_ir d_R_summed_47 rfl rfl ?_
          obtain ⟨s1, s2, s3, s4, s5, s6, s7, s8⟩ := stl_in (r := 1) (by decide) P m K i3 i2
          exact kq _ _ ⟨rfl, ⟨hM2.1, hM2.2.1, hM2.2.2.2⟩, hM2.2.2.1.2.2.1, hM2.2.2.1.2.2.2.2, show c0 ≤ (stl 1 P m K).2.2.length by omega, show (stl 1 P m K).2.2.length ≤ j by omega, show j ≤ 300 by omega, (stl_kb (r := 1) P m K hK.1 hK.2).1⟩
    | false =>
      have h24 : X.1 244 24 = b2i false := h24
      cases hz : begM (tkT B) w j P m K with
      | inr c2 =>
        refine J_aload_n (i := 0) d_R_summed_15 rfl rfl ?_
        refine M_get (x := (b2i false)) d_R_summed_16 f_R_242 rfl rfl h24 ?_
        refine B_if_eq (tgt := 48) d_R_summed_19 (by decide) (fun c19 => ?_) (fun c19 => absurd c19 (by decide))
        refine J_aload_n (i := 0) d_R_summed_48 rfl rfl ?_
        refine M_callV (av := []) d_R_summed_49 s_R_273 (M_rcv rfl (by decide) rfl) (S_R_beginOne hB hV0 ht hM h24 hI hs hw) (by decide) rfl rfl (Nat.le_of_ble_eq_true rfl) (fun r1 Y1 hq1 => ?_)
        unfold BgP at hq1
        rw [hz] at hq1
        obtain ⟨rfl, hM1⟩ := hq1
        refine J_istore_n (i := 1) (L1 := [some (.ref 244), some (.int (nI 0))]) d_R_summed_52 rfl (by decide) rfl ?_
        refine J_iload_n (i := 1) d_R_summed_53 rfl rfl ?_
        refine N_if_eq (tgt := 59) d_R_summed_54 (by decide) (by omega) (fun c54 => ?_) (fun c54 => absurd c54 (by decide))
        refine J_goto (tgt := 15) d_R_summed_59 (by decide) ?_
        exact ih _ _ _ hM1 (iv_s (w := w) (tk_46 hB) hI (ms_beg hz)) (kv_s (w := w) hK (ms_beg hz)) (mrun_s (ms_beg hz) hr)
      | inl g =>
        have hg := beg_ne hz
        rw [← mrun_e (ms_begf (w := w) hz) hr] at kq
        refine J_aload_n (i := 0) d_R_summed_15 rfl rfl ?_
        refine M_get (x := (b2i false)) d_R_summed_16 f_R_242 rfl rfl h24 ?_
        refine B_if_eq (tgt := 48) d_R_summed_19 (by decide) (fun c19 => ?_) (fun c19 => absurd c19 (by decide))
        refine J_aload_n (i := 0) d_R_summed_48 rfl rfl ?_
        refine M_callV (av := []) d_R_summed_49 s_R_273 (M_rcv rfl (by decide) rfl) (S_R_beginOne hB hV0 ht hM h24 hI hs hw) (by decide) rfl rfl (Nat.le_of_ble_eq_true rfl) (fun r1 Y1 hq1 => ?_)
        unfold BgP at hq1
        rw [hz] at hq1
        obtain ⟨rfl, hF1⟩ := hq1
        refine J_istore_n (i := 1) (L1 := [some (.ref 244), some (.int (nI g))]) d_R_summed_52 rfl (by decide) rfl ?_
        refine J_iload_n (i := 1) d_R_summed_53 rfl rfl ?_
        refine N_if_eq (tgt := 59) d_R_summed_54 (by decide) (by omega) (fun c54 => absurd c54 hg.1) (fun c54 => ?_)
        refine J_iload_n (i := 1) d_R_summed_57 rfl rfl ?_
        refine M_ir d_R_summed_58 rfl rfl ?_
        exact kq _ _ ⟨rfl, hg.1, hg.2, hF1⟩
theorem S_R_summed {X0 X : Mem} {t mm so j : Nat} {K : Kd} {B : Nat → Nat} {w : Bool} {r : MR} (hB : okB B mm) (hV0 : RV X0 mm B) (ht : t < 4) (hso : X0.1 244 19 = nI so) (hw : (so = 0 ∧ w = true) ∨ (so = 1 ∧ w = false)) (hX : Ok X) (hT : RTq X B (stT B j)) (hof : offB t K.length X0 X) (h18 : X.1 244 18 = nI K.length) (h17 : X.1 244 17 = nI (681 * t)) (hE : EC X t K) (hKB : KB K) (hKj : K.length ≤ j) (hj : j ≤ 300) (hf : Fin_ (tkT B) w (j, ([], (0, (false, K)))) r) : CM 7 m_R_summed [.ref 244] X (fun v Y => ∃ u, v = some (.int u) ∧ SmP X0 t K.length B r u Y) := by
  obtain ⟨f, hr⟩ := hf
  have hMM : MM X0 t K.length B (j, ([], (0, (false, K)))) (pF (pF (pF X 244 22 (nI 0)) 244 23 (nI 0)) 244 24 (b2i false)) := by
    refine ⟨⟨okF (okF (okF hX)), RTq_e hT (fun k _ _ => (pF_k (by omega)).trans ((pF_k (by omega)).trans (pF_k (by omega)))) rfl, ⟨⟨(pF_k (by decide)).trans ((pF_k (by decide)).trans pF_at), trivial⟩, (pF_k (by decide)).trans pF_at, (pF_k (by decide)).trans ((pF_k (by decide)).trans ((pF_k (by decide)).trans h18)), (pF_k (by decide)).trans ((pF_k (by decide)).trans ((pF_k (by decide)).trans h17)), EC_e (X := X) (fun _ _ => rfl) hE⟩, offB_t hof (offB_t (offB_F (c := K.length) (by decide)) (offB_t (offB_F (c := K.length) (by decide)) (offB_F (c := K.length) (by decide)) (Nat.le_refl _)) (Nat.le_refl _)) (Nat.le_refl _)⟩, pF_at⟩
  have kq : ∀ (u : Int32) (Y : Mem), SmP X0 t K.length B r u Y → (fun (v : Option Value) (Y : Mem) => ∃ u, v = some (.int u) ∧ SmP X0 t K.length B r u Y) (some (.int u)) Y := fun u Y h => ⟨u, rfl, h⟩
  refine CM_of (L := [some (.ref 244), none]) 1 ok_R_summed (fun _ => Nat.le_of_ble_eq_true rfl) rfl ?_
  refine J_aload_n (i := 0) d_R_summed_0 rfl rfl ?_
  refine J_iconst (v := nI 0) d_R_summed_1 rfl ?_
  refine M_put d_R_summed_2 p_R_213 rfl rfl rfl rfl ?_
  refine J_aload_n (i := 0) d_R_summed_5 rfl rfl ?_
  refine J_iconst (v := nI 0) d_R_summed_6 rfl ?_
  refine M_put d_R_summed_7 p_R_223 rfl rfl rfl rfl ?_
  refine J_aload_n (i := 0) d_R_summed_10 rfl rfl ?_
  refine J_iconst (v := nI 0) d_R_summed_11 rfl ?_
  refine J.eq (st1 := [.int (b2i false), .ref 244]) ?_ rfl rfl rfl
  refine M_put d_R_summed_12 p_R_242 rfl rfl b2i_nar b2i_fit ?_
  exact lp_R_summed hB hV0 ht hso hw kq f (j, ([], (0, (false, K)))) _ none hMM ⟨show (0 : Nat) ≤ 8 by decide, rfl, trivial, (show K.length + 0 ≤ j by omega), Nat.le_refl _, hj⟩ ⟨hKB, fun a ha => by cases ha⟩ hr
