/-- what is now behind a step taken back -/
def udG (r : Nat → Int32) : Nat → Int32 := fun k => if k = 0 then r 0 else if 5 + tn (stG r (tn (r 3) - 1) 0) ≤ k ∧ k < 5 + tn (r 0) then r (13 + k) else stG r (tn (r 3) - 1) k
def udR (r : Nat → Int32) : Nat → Int32 := rowOf (upF r 3 (nI (tn (r 3) - 1))) (udG r)
def udO (s : Sg) : Sg := if tn (s.1 3) = 0 then s else setr s (udR s.1)
def udF (s : Sg) : Int32 := if tn (s.1 3) = 0 then (-1) else nI (tn (s.1 3) - 1)
theorem WFg_st {r : Nat → Int32} (h : WFr r) {q : Nat} (hq : q < 30) : WFg (stG r q) := fun k hk => by
  have := h.1 (52 + 38 * q + k) (by omega) (by omega)
  rw [bd_st _ (by omega) (by omega), show (52 + 38 * q + k - 52) % 38 = k by omega] at this
  exact this
theorem WFg_ud {r : Nat → Int32} (h : WFr r) (hc : 1 ≤ tn (r 3)) : WFg (udG r) := by
  have w0 := wf_1 h (j := 0) (n := 8) (by decide) (by decide) (by decide)
  have w3 := wf_1 h (j := 3) (n := 30) (by decide) (by decide) (by decide)
  intro k hk
  unfold udG
  split
  · rename_i e; rw [e]; exact h.1 0 (by decide) (by decide)
  · split
    · rename_i e1 e
      have h2 := h.1 (13 + k) (by omega) (by omega)
      obtain ⟨i, rfl⟩ : ∃ i, k = 5 + i := ⟨k - 5, by omega⟩
      rw [show 13 + (5 + i) = 18 + i by omega, (bd_10 i (by omega)).2] at h2
      rw [show 13 + (5 + i) = 18 + i by omega, bdN_s i (by omega)]
      exact h2
    · exact WFg_st h (by omega) k hk
theorem WF_3 {s : Sg} {q : Nat} (hw : WFs s) (hq : q ≤ 30) : WFs (setr s (upF s.1 3 (nI q))) := by
  obtain ⟨⟨w1, w2, w3, w4⟩, h2, h3, h4, h5⟩ := hw
  have o : ∀ j, j ≠ 3 → upF s.1 3 (nI q) j = s.1 j := fun j h => upF_o h
  refine ⟨⟨fun j hj hj2 => ?_, ?_, ?_, fun i hi => ?_⟩, h2, ?_, h4, fun t ht => ?_⟩
  · show inR (upF s.1 3 (nI q) j) (bd j) = true
    by_cases e : j = 3
    · rw [e, upF_at, show bd 3 = 30 from rfl, inR_nI (by omega) (by decide)]; exact decide_eq_true hq
    · rw [o j e]; exact w1 j hj hj2
  · show upF s.1 3 (nI q) 2 = -1 ∨ mkB (tn (upF s.1 3 (nI q) 1)) (upF s.1 3 (nI q) 2) = true
    rw [o 1 (by decide), o 2 (by decide)]; exact w2
  · show upF s.1 3 (nI q) 4 = nI (bc (tn (upF s.1 3 (nI q) 26) ||| tn (upF s.1 3 (nI q) 27)))
    rw [o 4 (by decide), o 26 (by decide), o 27 (by decide)]; exact w3
  · have hi : i < tn (upF s.1 3 (nI q) 5) := hi
    rw [o 5 (by decide)] at hi
    show tn (upF s.1 3 (nI q) (28 + 3 * i)) < tn (upF s.1 3 (nI q) 0)
    rw [o _ (by omega), o 0 (by decide)]; exact w4 i hi
  · show tn (s.2.1 1) ≤ tn (upF s.1 3 (nI q) 1)
    rw [o 1 (by decide)]; exact h3
  · have ht : t < tn (upF s.1 3 (nI q) 1) := ht
    rw [o 1 (by decide)] at ht
    exact h5 t ht
theorem WF_ud {s : Sg} (hw : WFs s) (hc : 1 ≤ tn (s.1 3)) : WFs (setr s (udR s.1)) := by
  have w3 := wf_1 hw.1 (j := 3) (n := 30) (by decide) (by decide) (by decide)
  refine WF_g (s := setr s (upF s.1 3 (nI (tn (s.1 3) - 1)))) (WF_3 hw (by omega)) (WFg_ud hw.1 hc) ?_
  show tn (upF s.1 3 (nI (tn (s.1 3) - 1)) 0) ≤ tn (s.1 0)
  rw [upF_o (by decide)]
  exact Nat.le_refl _
theorem WF_udO {s : Sg} (hw : WFs s) : WFs (udO s) := by
  unfold udO
  split
  · exact hw
  · exact WF_ud hw (by omega)
theorem CI_pop {X : Mem} {s : Sg} (hC : CI X s) (hw : WFs s) (hc : 1 ≤ tn (s.1 3)) : CI (pF X 22 2 (nI (tn (s.1 3) - 1))) (setr s (upF s.1 3 (nI (tn (s.1 3) - 1)))) := by
  have w3 := wf_1 hw.1 (j := 3) (n := 30) (by decide) (by decide) (by decide)
  have o : ∀ j, j ≠ 3 → upF s.1 3 (nI (tn (s.1 3) - 1)) j = s.1 j := fun j h => upF_o h
  obtain ⟨⟨k1, ⟨h2, e, he, h3, h4⟩, k5, ⟨g1, g2, g3, g4, g5⟩, k7⟩, hk, h8, ⟨h9, h10, h11⟩, h12⟩ := hC
  refine ⟨⟨?_, ⟨?_, e, he, ?_, fun i hi => ?_⟩, fun i hi => ?_, ⟨?_, ?_, ?_, ?_, ?_⟩, fun i hi => ?_⟩, ?_, fun i hi => ?_, ⟨?_, ?_, ?_⟩, fun t ht ht4 => ?_⟩
  · refine CNow_g (fun k hk => ?_) (CNow_on (X := X) (fun k => pF_o (by decide)) rfl rfl k1)
    show nowG s.1 k = nowG (upF s.1 3 (nI (tn (s.1 3) - 1))) k
    unfold nowG
    split
    · rw [o _ (by decide)]
    · split
      · rw [o _ (by omega)]
      · rw [o _ (by omega)]
  · exact pF_at.trans (show nI (tn (s.1 3) - 1) = upF s.1 3 (nI (tn (s.1 3) - 1)) 3 from upF_at.symm)
  · exact (pF_k (by decide)).trans h3
  · have hi : i < tn (upF s.1 3 (nI (tn (s.1 3) - 1)) 3) := hi
    rw [upF_at, tn_nI (by omega)] at hi
    have hb : (e + i) % 30 < 30 := Nat.mod_lt _ (by decide)
    refine CNow_g (fun k hk => ?_) (CNow_on (X := X) (fun k => pF_o (by omega)) rfl rfl (h4 i (by omega)))
    exact (o (52 + 38 * i + k) (by omega)).symm
  · exact (k5 i hi).trans (o _ (by omega)).symm
  · exact (pF_o (by decide)).trans (g1.trans (o _ (by decide)).symm)
  · exact (pF_o (by decide)).trans (g2.trans (o _ (by decide)).symm)
  · exact (pF_o (by decide)).trans (g3.trans (o _ (by decide)).symm)
  · exact (pF_o (by decide)).trans (g4.trans (o _ (by decide)).symm)
  · exact (pF_o (by decide)).trans (g5.trans (o _ (by decide)).symm)
  · have h := k7 i hi
    exact ⟨h.1.trans (o _ (by omega)).symm, h.2.1.trans (o _ (by omega)).symm, h.2.2.trans (o _ (by omega)).symm⟩
  · exact CHeld_on (X := X) (fun b q1 q2 => ⟨fun k => pF_o (by omega), rfl⟩) hk
  · exact h8 i hi
  · exact (pF_o (by decide)).trans h9
  · exact (pF_o (by decide)).trans h10
  · exact (pF_o (by decide)).trans h11
  · have ht : t < tn (upF s.1 3 (nI (tn (s.1 3) - 1)) 1) := ht
    rw [o 1 (by decide)] at ht
    exact CTxt_on (X := X) (fun b q1 q2 => ⟨fun k => pF_o (by omega), rfl⟩) (h12 t ht ht4)
theorem CNow_mk {X : Mem} {a : Nat} {g : Nat → Int32} {v : Int32} (hN : CNow X a g) : CNow (pF X a 0 v) a (upF g 0 v) := by
  obtain ⟨h1, h2, h3, h4, h5, h6, h7, h8⟩ := hN
  exact ⟨h1, pF_at.trans upF_at.symm, (pF_k (by decide)).trans h3, (pF_k (by decide)).trans h4, (pF_k (by decide)).trans h5, (pF_k (by decide)).trans h6, fun i hi => (h7 i hi).trans (upF_o (by omega)).symm, fun i hi => (h8 i hi).trans (congrArg c32 (upF_o (by omega)).symm)⟩
theorem S_S_pop {X : Mem} {e c : Nat} (hX : Ok X) (he : X.1 22 1 = nI e) (hc : X.1 22 2 = nI c) (e30 : e < 30) (c1 : 1 ≤ c) (c30 : c ≤ 30) : CM 1 m_S_pop [.ref 22] X (rR (24 + 3 * ((e + (c - 1)) % 30)) (pF X 22 2 (nI (c - 1)))) := by
  have hsl : (e + (c - 1)) % 30 < 30 := Nat.mod_lt _ (by decide)
  refine CM_of (L := [some (.ref 22)]) 0 ok_S_pop (fun _ => Nat.le_of_ble_eq_true rfl) rfl ?_
  refine J_aload_n (i := 0) d_S_pop_0 rfl rfl ?_
  refine J_iconst (v := nI 0) d_S_pop_1 rfl ?_
  refine J_aload_n (i := 0) d_S_pop_2 rfl rfl ?_
  refine M_get (x := (nI c)) d_S_pop_3 f_S_18 rfl rfl hc ?_
  refine J_iconst (v := nI 1) d_S_pop_6 rfl ?_
  refine N_isub d_S_pop_7 (by omega) ?_
  refine J_mmax d_S_pop_8 w_S_29 w_math_max_s w_mathInit w_math_max_c (by omega) (Nat.le_of_ble_eq_true rfl) ?_
  refine I_ton (n := max 0 (c - 1)) (nI_max (by omega) (by omega)) ?_
  rw [show max 0 (c - 1) = c - 1 by omega]
  refine M_put d_S_pop_11 p_S_18 rfl rfl rfl rfl ?_
  refine J_aload_n (i := 0) d_S_pop_14 rfl rfl ?_
  refine M_getR (b := 23) d_S_pop_15 f_S_11 rfl rfl rfl ?_
  refine J_aload_n (i := 0) d_S_pop_18 rfl rfl ?_
  refine M_get (x := (nI e)) d_S_pop_19 f_S_22 rfl rfl (by first | exact he | exact (pF_k (by decide)).trans he) ?_
  refine J_aload_n (i := 0) d_S_pop_22 rfl rfl ?_
  refine M_get (x := (nI (c - 1))) d_S_pop_23 f_S_18 rfl rfl pF_at ?_
  refine N_iadd d_S_pop_26 ?_
  refine J_bipush (v := nI 30) d_S_pop_27 rfl ?_
  refine N_irem d_S_pop_29 (by omega) (by omega) (by omega) ?_
  refine N_aald (b := (24 + 3 * ((e + (c - 1)) % 30))) (t := 32) d_S_pop_30 rfl (by decide) (by omega) (show _ < 30 from hsl) (st_rf _ hsl).1 ?_
  refine M_ar d_S_pop_31 rfl (Or.inl ⟨_, rfl⟩) ?_
  exact ⟨rfl, rfl⟩

def gU (g r : Nat → Int32) (a i : Nat) : Nat → Int32 := fun k => if 5 + a ≤ k ∧ k < 5 + i then r (13 + k) else g k
theorem gU_s {g r : Nat → Int32} {a i : Nat} (h : a ≤ i) : ∀ k, upF (gU g r a i) (5 + i) (r (18 + i)) k = gU g r a (i + 1) k := by
  intro k
  by_cases e : k = 5 + i
  · rw [e, upF_at]
    unfold gU
    rw [if_pos (by omega), show 13 + (5 + i) = 18 + i by omega]
  · rw [upF_o e]
    unfold gU
    by_cases q : 5 + a ≤ k ∧ k < 5 + i
    · rw [if_pos q, if_pos (by omega)]
    · rw [if_neg q, if_neg (by omega)]
theorem lp_H_takeBack {X0 : Mem} {g r : Nat → Int32} {a M : Nat} {Q : Option Value → Mem → Prop} (hM : M ≤ 8) (ha8 : a ≤ 8) (hr : ∀ i, i < 8 → (X0.2.1 114).getD i 0 = r (18 + i)) (kx : ∀ (Y : Mem) (i : Nat), Ok Y → CNow Y 19 (gU g r a M) → offN 19 X0 Y → JM 2 m_H_takeBack Q 68 [some (.ref 18), some (.int (nI M)), some (.int (nI i))] [] Y) : ∀ (k i : Nat) (Y : Mem), M - i = k → a ≤ i → (i ≤ M ∨ i = a) → Ok Y → CNow Y 19 (gU g r a i) → offN 19 X0 Y → JM 2 m_H_takeBack Q 42 [some (.ref 18), some (.int (nI M)), some (.int (nI i))] [] Y := by
  intro k
  induction k with
  | zero =>
    intro i Y hi ha hia hY hN hof
    have hN2 : CNow Y 19 (gU g r a M) := CNow_g (fun k hk => by
      rcases hia with q | q
      · rw [show i = M by omega]
      · unfold gU
        rw [if_neg (by omega), if_neg (by omega)]) hN
    refine J_iload_n (i := 2) d_H_takeBack_42 rfl rfl ?_
    refine J_iload_n (i := 1) d_H_takeBack_43 rfl rfl ?_
    refine N_icmp_ge (tgt := 68) d_H_takeBack_44 (by decide) (by omega) (by omega) (fun c44 => ?_) (fun c44 => absurd c44 (by omega))
    exact kx Y i hY hN2 hof
  | succ k ih =>
    intro i Y hi ha hia hY hN hof
    refine J_iload_n (i := 2) d_H_takeBack_42 rfl rfl ?_
    refine J_iload_n (i := 1) d_H_takeBack_43 rfl rfl ?_
    refine N_icmp_ge (tgt := 68) d_H_takeBack_44 (by decide) (by omega) (by omega) (fun c44 => absurd c44 (by omega)) (fun c44 => ?_)
    refine J_aload_n (i := 0) d_H_takeBack_47 rfl rfl ?_
    refine M_getR (b := 19) d_H_takeBack_48 f_H_12 rfl rfl rfl ?_
    refine M_getR (b := 20) d_H_takeBack_51 f_H_70 rfl rfl rfl ?_
    refine J_iload_n (i := 2) d_H_takeBack_54 rfl rfl ?_
    refine J_aload_n (i := 0) d_H_takeBack_55 rfl rfl ?_
    refine M_getR (b := 114) d_H_takeBack_56 f_H_25 rfl rfl rfl ?_
    refine J_iload_n (i := 2) d_H_takeBack_59 rfl rfl ?_
    refine N_iald (x := (r (18 + i))) d_H_takeBack_60 rfl (by omega) (ltL hY (a := 114) (n := 8) (by decide) rfl (by omega)) (by rw [hof.2.1 114 (by decide) (by decide)]; exact hr i (by omega)) ?_
    refine N_iast d_H_takeBack_61 rfl (by decide) (by omega) (ltL hY (a := 20) (n := 8) (by decide) rfl (by omega)) ?_
    refine N_iinc (a := i) (c := 1) (L1 := [some (.ref 18), some (.int (nI M)), some (.int (nI (i + 1)))]) d_H_takeBack_62 rfl rfl (by decide) rfl ?_
    refine J_goto (tgt := 42) d_H_takeBack_65 (by decide) ?_
    have hof2 : offN 19 Y (pA Y 20 ((Y.2.1 20).set i (r (18 + i)))) := ⟨fun _ _ _ => rfl, fun b q1 q2 => if_neg q1, rfl⟩
    exact ih (i + 1) _ (by omega) (by omega) (Or.inl (by omega)) (okS hY rfl) (CNow_g (fun k hk => gU_s ha k) (CNow_st (a := 19) (m := i) (v := r (18 + i)) hY hN (by omega))) (offN_t hof hof2)
theorem S_H_takeBack {X : Mem} {s : Sg} (hX : Ok X) (hC : CI X s) (hw : WFs s) : CM 2 m_H_takeBack [.ref 18] X (fun q Y => q = some (.int (udF s)) ∧ pC X (udO s) Y) := by
  have w3 := wf_1 hw.1 (j := 3) (n := 30) (by decide) (by decide) (by decide)
  have w0 := wf_1 hw.1 (j := 0) (n := 8) (by decide) (by decide) (by decide)
  obtain ⟨h2, e, he, h3, hst⟩ := hC.1.2.1
  have h2 : X.1 22 2 = s.1 3 := h2
  have h3 : X.1 22 1 = nI e := h3
  have hst : ∀ i, i < tn (s.1 3) → CNow X (24 + 3 * ((e + i) % 30)) (stG s.1 i) := hst
  refine CM_of (L := [some (.ref 18), none, none]) 2 ok_H_takeBack (fun _ => Nat.le_of_ble_eq_true rfl) rfl ?_
  refine J_aload_n (i := 0) d_H_takeBack_0 rfl rfl ?_
  refine M_getR (b := 22) d_H_takeBack_1 f_H_21 rfl rfl rfl ?_
  refine M_get (x := (nI (tn (s.1 3)))) d_H_takeBack_4 f_H_100 rfl rfl (h2.trans w3.1) ?_
  refine N_if_ne (tgt := 12) d_H_takeBack_7 (by decide) (by omega) (fun c7 => ?_) (fun c7 => ?_)
  · refine J_aload_n (i := 0) d_H_takeBack_12 rfl rfl ?_
    refine M_getR (b := 19) d_H_takeBack_13 f_H_12 rfl rfl rfl ?_
    refine M_get (x := (nI (tn (s.1 0)))) d_H_takeBack_16 f_H_67 rfl rfl (hC.1.1.2.1.trans w0.1) ?_
    refine J_istore_n (i := 1) (L1 := [some (.ref 18), some (.int (nI (tn (s.1 0)))), none]) d_H_takeBack_19 rfl (by decide) rfl ?_
    refine J_aload_n (i := 0) d_H_takeBack_20 rfl rfl ?_
    refine M_getR (b := 19) d_H_takeBack_21 f_H_12 rfl rfl rfl ?_
    refine J_aload_n (i := 0) d_H_takeBack_24 rfl rfl ?_
    refine M_getR (b := 22) d_H_takeBack_25 f_H_21 rfl rfl rfl ?_
    refine CV_R (av := []) d_H_takeBack_28 s_H_103 (M_rcv rfl (by decide) rfl) (S_S_pop hX h3 (h2.trans w3.1) he (by omega) w3.2) (by decide) rfl rfl (Nat.le_of_ble_eq_true rfl) ?_
    have hsl : (e + (tn (s.1 3) - 1)) % 30 < 30 := Nat.mod_lt _ (by decide)
    have hX1 : Ok (pF X 22 2 (nI (tn (s.1 3) - 1))) := okF hX
    have hN1 := CNow_on (X := X) (Y := pF X 22 2 (nI (tn (s.1 3) - 1))) (fun k => pF_o (by omega)) rfl rfl (hst (tn (s.1 3) - 1) (by omega))
    refine M_callV (av := [.ref (24 + 3 * ((e + (tn (s.1 3) - 1)) % 30))]) d_H_takeBack_31 s_H_42 (M_rcv rfl (by decide) rfl) (S_N_copyFrom hX1 hN1 rfl (by omega)) (by decide) rfl rfl (Nat.le_of_ble_eq_true rfl) (fun q Y hq => ?_)
    obtain ⟨rfl, hY, hNY, hof⟩ := hq
    have hg := WFg_st hw.1 (q := tn (s.1 3) - 1) (by omega)
    have hg0 := wg_n hg (k := 0) (n := 8) (by decide) (by decide)
    refine J_aload_n (i := 0) d_H_takeBack_34 rfl rfl ?_
    refine M_getR (b := 19) d_H_takeBack_35 f_H_12 rfl rfl rfl ?_
    refine M_get (x := (nI (tn (stG s.1 (tn (s.1 3) - 1) 0)))) d_H_takeBack_38 f_H_67 rfl rfl (hNY.2.1.trans hg0.1) ?_
    refine J_istore_n (i := 2) (L1 := [some (.ref 18), some (.int (nI (tn (s.1 0)))), some (.int (nI (tn (stG s.1 (tn (s.1 3) - 1) 0))))]) d_H_takeBack_41 rfl (by decide) rfl ?_
    refine lp_H_takeBack (X0 := Y) (g := stG s.1 (tn (s.1 3) - 1)) (r := s.1) w0.2 hg0.2 (fun i hi => by rw [hof.2.1 114 (by decide) (by decide)]; exact hC.1.2.2.1 i hi) (fun Z i hZ hNZ hof2 => ?_) _ _ Y rfl (Nat.le_refl _) (Or.inr rfl) hY (CNow_g (fun k hk => by unfold gU; rw [if_neg (by omega)]) hNY) (offN_0 19 Y)
    refine J_aload_n (i := 0) d_H_takeBack_68 rfl rfl ?_
    refine M_getR (b := 19) d_H_takeBack_69 f_H_12 rfl rfl rfl ?_
    refine J_iload_n (i := 1) d_H_takeBack_72 rfl rfl ?_
    refine M_put d_H_takeBack_73 p_H_67 rfl rfl rfl rfl ?_
    refine J_aload_n (i := 0) d_H_takeBack_76 rfl rfl ?_
    refine M_getR (b := 22) d_H_takeBack_77 f_H_21 rfl rfl rfl ?_
    refine M_get (x := (nI (tn (s.1 3) - 1))) d_H_takeBack_80 f_H_100 rfl rfl ((pF_o (by decide)).trans ((hof2.1 22 (by decide) 2).trans ((hof.1 22 (by decide) 2).trans pF_at))) ?_
    refine M_ir d_H_takeBack_83 rfl rfl ?_
    refine ⟨by rw [udF, if_neg (by omega)], ?_⟩
    rw [udO, if_neg (by omega)]
    have hp1 : pC X (setr s (upF s.1 3 (nI (tn (s.1 3) - 1)))) (pF X 22 2 (nI (tn (s.1 3) - 1))) := ⟨hX1, CI_pop hC hw (by omega), sR_F (by decide)⟩
    refine pC_now hp1 (WF_3 hw (by omega)) (okF hZ) (g := udG s.1) (CNow_g (fun k hk => ?_) (CNow_mk (v := nI (tn (s.1 0))) hNZ)) (offP_t (offP_N (offN_t hof hof2)) ⟨fun b q1 _ k => pF_o q1, fun _ _ _ _ => rfl, rfl⟩) rfl
    unfold udG
    by_cases e0 : k = 0
    · rw [if_pos e0, e0, upF_at]; exact w0.1.symm
    · rw [if_neg e0, upF_o e0]
      rfl
  · refine J_iconst (v := (-1)) d_H_takeBack_10 rfl ?_
    refine M_ir d_H_takeBack_11 rfl rfl ?_
    exact ⟨by rw [udF, if_pos (by omega)], by rw [udO, if_pos (by omega)]; exact pC_0 hX hC⟩

theorem S_O_undo {X : Mem} {s : Sg} (hX : Ok X) (hC : CI X s) (hw : WFs s) : CM 3 m_O_undo [.ref 8] X (fun q Y => q = some (.int (udF s)) ∧ pC X (udO s) Y) := by
  refine CM_of (L := [some (.ref 8)]) 0 ok_O_undo (fun _ => Nat.le_of_ble_eq_true rfl) rfl ?_
  refine J_aload_n (i := 0) d_O_undo_0 rfl rfl ?_
  refine M_getR (b := 18) d_O_undo_1 f_O_48 rfl rfl rfl ?_
  refine M_callV (av := []) d_O_undo_4 s_O_163 (M_rcv rfl (by decide) rfl) (S_H_takeBack hX hC hw) (by decide) rfl rfl (Nat.le_of_ble_eq_true rfl) (fun q Y hq => ?_)
  obtain ⟨rfl, hp⟩ := hq
  refine M_ir d_O_undo_7 rfl rfl ?_
  exact ⟨rfl, hp⟩

