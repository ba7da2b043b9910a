/-- what a shape that was read leaves -/
def ShP (X0 : Mem) (B : Nat → Nat) (z : MT) (v : Int32) (Y : Mem) : Prop := match z with
  | .inl q => v = nI q.1 ∧ (q.1 ≠ 0 ∧ (q.1 < 10 ∧ FLS X0 B q.2 Y))
  | .inr q => v = nI 0 ∧ (FLS X0 B q.1 Y ∧ (Y.1 244 25 = nI q.2 ∧ q.2 < 1048576))
theorem srun_s {T : TS} {f : Nat} {c c2 : MS} {r : MT} (h : sstep T c = .inr c2) (hr : srun T (f + 1) c = some r) : srun T f c2 = some r := by
  have e : srun T (f + 1) c = (match sstep T c with
    | .inl r => some r
    | .inr c2 => srun T f c2) := rfl
  rw [e, h] at hr
  exact hr
theorem srun_e {T : TS} {f : Nat} {c : MS} {r r2 : MT} (h : sstep T c = .inl r2) (hr : srun T (f + 1) c = some r) : r2 = r := by
  have e : srun T (f + 1) c = (match sstep T c with
    | .inl r => some r
    | .inr c2 => srun T f c2) := rfl
  rw [e, h] at hr
  exact Option.some.inj hr
theorem lp_R_shaped {X0 : Mem} {mm : Nat} {B : Nat → Nat} (hB : okB B mm) (hV0 : RV X0 mm B) {Q : Option Value → Mem → Prop} {r : MT} (kq : ∀ v Y, ShP X0 B r v Y → Q (some (.int v)) Y) : ∀ (f : Nat) (c : MS) (X : Mem) (zz : Option Value), NM X0 B c X → IVS c → srun (tkT B) f c = some r → JM 6 m_R_shaped Q 15 [some (.ref 244), zz] [] X := by
  intro f
  induction f with
  | zero =>
    intro c X zz _ _ hr
    cases hr
  | succ f ih =>
    intro c X zz hMM hI hr
    obtain ⟨j, P, m, wh, D⟩ := c
    obtain ⟨hN0, h24, h25⟩ := hMM
    have hN : NS X0 B (stT B j) P m X := hN0
    clear hN0
    obtain ⟨i1, i2, i3, i4⟩ := id hI
    have i1 : m ≤ 8 := i1
    have i2 : m = cnS P := i2
    have i3 : inS P := i3
    have hpl := inS_le i3
    have hh := hdS_le P
    cases wh with
    | true =>
      have h24 : X.1 244 24 = b2i true := h24
      have h0 : hdS P = 0 := i4 rfl
      obtain ⟨h25, hD⟩ := h25 rfl
      have h25 : X.1 244 25 = nI D := h25
      have hD : D < 1048576 := hD
      cases hz : behS (tkT B) j P m D with
      | some c2 =>
        refine J_aload_n (i := 0) d_R_shaped_15 rfl rfl ?_
        refine M_get (x := (b2i true)) d_R_shaped_16 f_R_242 rfl rfl h24 ?_
        refine B_if_eq (tgt := 45) d_R_shaped_19 (by decide) (fun c19 => absurd c19 (by decide)) (fun c19 => ?_)
        refine J_aload_n (i := 0) d_R_shaped_22 rfl rfl ?_
        refine M_callV (av := []) d_R_shaped_23 s_R_289 (M_rcv rfl (by decide) rfl) (S_R_behindPart hB hV0 hN i1 i2 i3 h24 h25 hD h0) (by decide) rfl rfl (Nat.le_of_ble_eq_true rfl) (fun r1 Y1 hq1 => ?_)
        unfold BhS at hq1
        rw [hz] at hq1
        obtain ⟨rfl, hN1⟩ := hq1
        refine B_if_eq (tgt := 32) d_R_shaped_26 (by decide) (fun c26 => absurd c26 (by decide)) (fun c26 => ?_)
        refine J_goto (tgt := 15) d_R_shaped_29 (by decide) ?_
        exact ih _ _ _ hN1 (ivs_s (T := tkT B) hI (ss_beh hz)) (srun_s (ss_beh hz) hr)
      | none =>
        have hno := ss_no (T := tkT B) hz
        by_cases ho : P ≠ []
        · rw [if_pos ho] at hno
          rw [← srun_e hno hr] at kq
          have hp0 : 0 < P.length := by
            cases P with
            | nil => exact absurd rfl ho
            | cons p P => exact Nat.succ_pos _
          refine J_aload_n (i := 0) d_R_shaped_15 rfl rfl ?_
          refine M_get (x := (b2i true)) d_R_shaped_16 f_R_242 rfl rfl h24 ?_
          refine B_if_eq (tgt := 45) d_R_shaped_19 (by decide) (fun c19 => absurd c19 (by decide)) (fun c19 => ?_)
          refine J_aload_n (i := 0) d_R_shaped_22 rfl rfl ?_
          refine M_callV (av := []) d_R_shaped_23 s_R_289 (M_rcv rfl (by decide) rfl) (S_R_behindPart hB hV0 hN i1 i2 i3 h24 h25 hD h0) (by decide) rfl rfl (Nat.le_of_ble_eq_true rfl) (fun r1 Y1 hq1 => ?_)
          unfold BhS at hq1
          rw [hz] at hq1
          obtain ⟨rfl, e1⟩ := hq1
          rw [e1]
          refine B_if_eq (tgt := 32) d_R_shaped_26 (by decide) (fun c26 => ?_) (fun c26 => absurd c26 (by decide))
          refine J_aload_n (i := 0) d_R_shaped_32 rfl rfl ?_
          refine M_get (x := (nI P.length)) d_R_shaped_33 f_R_213 rfl rfl hN.2.2.1 ?_
          refine N_if_le (tgt := 43) d_R_shaped_36 (by decide) (by omega) (fun c36 => absurd c36 (by omega)) (fun c36 => ?_)
          refine J_iconst (v := nI 1) d_R_shaped_39 rfl ?_
          refine J_goto (tgt := 44) d_R_shaped_40 (by decide) ?_
          refine M_ir d_R_shaped_44 rfl rfl ?_
          exact kq _ _ ⟨rfl, show (1 : Nat) ≠ 0 by decide, show (1 : Nat) < 10 by decide, NS_FS hN⟩
        · rw [if_neg ho] at hno
          rw [← srun_e hno hr] at kq
          have hp0 : P.length = 0 := by
            cases P with
            | nil => rfl
            | cons p P => exact absurd (fun z => by cases z) ho
          refine J_aload_n (i := 0) d_R_shaped_15 rfl rfl ?_
          refine M_get (x := (b2i true)) d_R_shaped_16 f_R_242 rfl rfl h24 ?_
          refine B_if_eq (tgt := 45) d_R_shaped_19 (by decide) (fun c19 => absurd c19 (by decide)) (fun c19 => ?_)
          refine J_aload_n (i := 0) d_R_shaped_22 rfl rfl ?_
          refine M_callV (av := []) d_R_shaped_23 s_R_289 (M_rcv rfl (by decide) rfl) (S_R_behindPart hB hV0 hN i1 i2 i3 h24 h25 hD h0) (by decide) rfl rfl (Nat.le_of_ble_eq_true rfl) (fun r1 Y1 hq1 => ?_)
          unfold BhS at hq1
          rw [hz] at hq1
          obtain ⟨rfl, e1⟩ := hq1
          rw [e1]
          refine B_if_eq (tgt := 32) d_R_shaped_26 (by decide) (fun c26 => ?_) (fun c26 => absurd c26 (by decide))
          refine J_aload_n (i := 0) d_R_shaped_32 rfl rfl ?_
          refine M_get (x := (nI P.length)) d_R_shaped_33 f_R_213 rfl rfl hN.2.2.1 ?_
          refine N_if_le (tgt := 43) d_R_shaped_36 (by decide) (by omega) (fun c36 => ?_) (fun c36 => absurd c36 (by omega))
          refine J_iconst (v := nI 0) d_R_shaped_43 rfl ?_
          refine M_ir d_R_shaped_44 rfl rfl ?_
          exact kq _ _ ⟨rfl, NS_FS hN, h25, hD⟩
    | false =>
      have h24 : X.1 244 24 = b2i false := h24
      cases hz : begS (tkT B) j P m D with
      | inr c2 =>
        refine J_aload_n (i := 0) d_R_shaped_15 rfl rfl ?_
        refine M_get (x := (b2i false)) d_R_shaped_16 f_R_242 rfl rfl h24 ?_
        refine B_if_eq (tgt := 45) d_R_shaped_19 (by decide) (fun c19 => ?_) (fun c19 => absurd c19 (by decide))
        refine J_aload_n (i := 0) d_R_shaped_45 rfl rfl ?_
        refine M_callV (av := []) d_R_shaped_46 s_R_292 (M_rcv rfl (by decide) rfl) (S_R_beginPart (D := D) hB hV0 hN i1 i2 i3 h24) (by decide) rfl rfl (Nat.le_of_ble_eq_true rfl) (fun r1 Y1 hq1 => ?_)
        unfold BgS at hq1
        rw [hz] at hq1
        obtain ⟨rfl, hN1⟩ := hq1
        refine J_istore_n (i := 1) (L1 := [some (.ref 244), some (.int (nI 0))]) d_R_shaped_49 rfl (by decide) rfl ?_
        refine J_iload_n (i := 1) d_R_shaped_50 rfl rfl ?_
        refine N_if_eq (tgt := 56) d_R_shaped_51 (by decide) (by omega) (fun c51 => ?_) (fun c51 => absurd c51 (by decide))
        refine J_goto (tgt := 15) d_R_shaped_56 (by decide) ?_
        exact ih _ _ _ hN1 (ivs_s (T := tkT B) hI (ss_beg hz)) (srun_s (ss_beg hz) hr)
      | inl g =>
        rw [← srun_e (ss_begf hz) hr] at kq
        refine J_aload_n (i := 0) d_R_shaped_15 rfl rfl ?_
        refine M_get (x := (b2i false)) d_R_shaped_16 f_R_242 rfl rfl h24 ?_
        refine B_if_eq (tgt := 45) d_R_shaped_19 (by decide) (fun c19 => ?_) (fun c19 => absurd c19 (by decide))
        refine J_aload_n (i := 0) d_R_shaped_45 rfl rfl ?_
        refine M_callV (av := []) d_R_shaped_46 s_R_292 (M_rcv rfl (by decide) rfl) (S_R_beginPart (D := D) hB hV0 hN i1 i2 i3 h24) (by decide) rfl rfl (Nat.le_of_ble_eq_true rfl) (fun r1 Y1 hq1 => ?_)
        unfold BgS at hq1
        rw [hz] at hq1
        obtain ⟨rfl, g0, g1, hF1⟩ := hq1
        refine J_istore_n (i := 1) (L1 := [some (.ref 244), some (.int (nI g.1))]) d_R_shaped_49 rfl (by decide) rfl ?_
        refine J_iload_n (i := 1) d_R_shaped_50 rfl rfl ?_
        refine N_if_eq (tgt := 56) d_R_shaped_51 (by decide) (by omega) (fun c51 => absurd c51 g0) (fun c51 => ?_)
        refine J_iload_n (i := 1) d_R_shaped_54 rfl rfl ?_
        refine M_ir d_R_shaped_55 rfl rfl ?_
        exact kq _ _ ⟨rfl, g0, g1, hF1⟩
theorem S_R_shaped {X0 X : Mem} {mm j D : Nat} {B : Nat → Nat} {r : MT} (hB : okB B mm) (hV0 : RV X0 mm B) (hX : Ok X) (hT : RTq X B (stT B j)) (hof : offV X0 X) (hf : FiS (tkT B) (j, ([], (0, (false, D)))) r) : CM 6 m_R_shaped [.ref 244] X (fun v Y => ∃ u, v = some (.int u) ∧ ShP X0 B r u Y) := by
  obtain ⟨f, hr⟩ := hf
  have hMM : NM X0 B (j, ([], (0, (false, D)))) (pF (pF (pF X 244 22 (nI 0)) 244 23 (nI 0)) 244 24 (b2i false)) := by
    refine ⟨⟨okF (okF (okF hX)), RTq_e hT (fun k _ _ => (pF_k (by omega)).trans ((pF_k (by omega)).trans (pF_k (by omega)))) rfl, (pF_k (by decide)).trans ((pF_k (by decide)).trans pF_at), trivial, (pF_k (by decide)).trans pF_at, offV_t hof (offV_t (offV_F (by decide)) (offV_t (offV_F (by decide)) (offV_F (by decide))))⟩, pF_at, fun z => by cases z⟩
  have kq : ∀ (u : Int32) (Y : Mem), ShP X0 B r u Y → (fun (v : Option Value) (Y : Mem) => ∃ u, v = some (.int u) ∧ ShP X0 B r u Y) (some (.int u)) Y := fun u Y h => ⟨u, rfl, h⟩
  refine CM_of (L := [some (.ref 244), none]) 1 ok_R_shaped (fun _ => Nat.le_of_ble_eq_true rfl) rfl ?_
  refine J_aload_n (i := 0) d_R_shaped_0 rfl rfl ?_
  refine J_iconst (v := nI 0) d_R_shaped_1 rfl ?_
  refine M_put d_R_shaped_2 p_R_213 rfl rfl rfl rfl ?_
  refine J_aload_n (i := 0) d_R_shaped_5 rfl rfl ?_
  refine J_iconst (v := nI 0) d_R_shaped_6 rfl ?_
  refine M_put d_R_shaped_7 p_R_223 rfl rfl rfl rfl ?_
  refine J_aload_n (i := 0) d_R_shaped_10 rfl rfl ?_
  refine J_iconst (v := nI 0) d_R_shaped_11 rfl ?_
  refine J.eq (st1 := [.int (b2i false), .ref 244]) ?_ rfl rfl rfl
  refine M_put d_R_shaped_12 p_R_242 rfl rfl b2i_nar b2i_fit ?_
  exact lp_R_shaped hB hV0 kq f (j, ([], (0, (false, D)))) _ none hMM ⟨show (0 : Nat) ≤ 8 by decide, rfl, trivial, fun z => by cases z⟩ hr
