def offZ (xc : Nat) (X Y : Mem) : Prop := (∀ b k, ¬ (b = 244 ∧ ((12 ≤ k ∧ k ≤ 15) ∨ (22 ≤ k ∧ k ≤ 25))) → Y.1 b k = X.1 b k) ∧ ((∀ b, b ≠ 251 → b ≠ 254 → b ≠ 255 → Y.2.1 b = X.2.1 b) ∧ (Y.2.2.1 = X.2.2.1 ∧ (Y.2.2.2.1 = X.2.2.2.1 ∧ ∀ p, p ≠ xc + 1 → p ≠ xc + 2 → (Y.2.1 251).getD p 0 = (X.2.1 251).getD p 0)))
theorem offZ_0 (xc : Nat) (X : Mem) : offZ xc X X := ⟨fun _ _ _ => rfl, fun _ _ _ _ => rfl, rfl, rfl, fun _ _ _ => rfl⟩
theorem offZ_t {xc : Nat} {X Y Z : Mem} (h1 : offZ xc X Y) (h2 : offZ xc Y Z) : offZ xc X Z := ⟨fun b k q => (h2.1 b k q).trans (h1.1 b k q), fun b q1 q2 q3 => (h2.2.1 b q1 q2 q3).trans (h1.2.1 b q1 q2 q3), h2.2.2.1.trans h1.2.2.1, h2.2.2.2.1.trans h1.2.2.2.1, fun p q r => (h2.2.2.2.2 p q r).trans (h1.2.2.2.2 p q r)⟩
theorem offZ_N {xc : Nat} {X Y : Mem} (h : offNx X Y) : offZ xc X Y := ⟨fun b k q => h.1 b k (fun z => q ⟨z.1, by have := z.2; omega⟩), fun b _ _ _ => congrFun h.2.1 b, h.2.2.1, h.2.2.2, fun p _ _ => by rw [h.2.1]⟩
theorem offZ_V {xc : Nat} {X Y : Mem} (h : offV X Y) : offZ xc X Y := ⟨h.1, fun b _ q1 q2 => h.2.1 b q1 q2, h.2.2.1, h.2.2.2, fun p _ _ => by rw [h.2.1 251 (by decide) (by decide)]⟩
theorem offZ_A {xc q : Nat} {X : Mem} {v : Int32} (hq : q = xc + 1 ∨ q = xc + 2) : offZ xc X (pA X 251 ((X.2.1 251).set q v)) := ⟨fun _ _ _ => rfl, fun a h1 h2 h3 => pA_b h1, rfl, rfl, fun p h1 h2 => by rw [pA_at, set_ne (by omega)]⟩
theorem RV_Z {xc m : Nat} {X Y : Mem} {B : Nat → Nat} (h : offZ xc X Y) (hV : RV X m B) : RV Y m B := ⟨(h.1 244 9 (by omega)).trans hV.1, fun q hq => by rw [h.2.1 253 (by decide) (by decide) (by decide)]; exact hV.2 q hq⟩
def PsZ (X0 : Mem) (xc : Nat) (B : Nat → Nat) (j : Nat) (X : Mem) : Prop := Ok X ∧ (RTq X B (stT B j) ∧ offZ xc X0 X)
theorem PsZ_nx {X0 X Y : Mem} {xc j : Nat} {B : Nat → Nat} {v : Int32} {x : Nat} (hx : x = xc + 1 ∨ x = xc + 2) (h : PsZ X0 xc B j X) (hY : Ok Y) (ho : offNx (pA X 251 ((X.2.1 251).set x v)) Y) (hT : RTq Y B (sk B (eN B (stT B j)))) : PsZ X0 xc B (j + 1) Y := ⟨hY, hT, offZ_t h.2.2 (offZ_t (offZ_A hx) (offZ_N ho))⟩
def FgP (X0 : Mem) (xc : Nat) (B : Nat → Nat) (x : Nat) (X : Mem) (z : PR Nat) (r : Option Value) (Y : Mem) : Prop := match z with
  | .inl q => r = some (.int (nI q.1)) ∧ (q.1 ≠ 0 ∧ (q.1 < 10 ∧ PsZ X0 xc B q.2 Y))
  | .inr q => r = some (.int (nI 0)) ∧ (PsZ X0 xc B q.1 Y ∧ ((Y.2.1 251).getD x 0 = nI q.2 ∧ ∀ p, p ≠ x → (Y.2.1 251).getD p 0 = (X.2.1 251).getD p 0))
/-- what a deed that was read leaves -/
def DdP (X0 : Mem) (xc : Nat) (B : Nat → Nat) (j : Nat) (two : Prop) (z : PR (Nat × Nat)) (r : Option Value) (Y : Mem) : Prop := match z with
  | .inl q => r = some (.int (nI q.1)) ∧ (q.1 ≠ 0 ∧ (q.1 < 10 ∧ PsZ X0 xc B q.2 Y))
  | .inr q => r = some (.int (nI 0)) ∧ (PsZ X0 xc B q.1 Y ∧ (j ≤ q.1 ∧ ((Y.2.1 251).getD (xc + 1) 0 = nI q.2.1 ∧ (two → (Y.2.1 251).getD (xc + 2) 0 = nI q.2.2))))
theorem pNum_j {T : TS} {lo hi j : Nat} {q : Nat × Nat} (h : pNum T lo hi j = .inr q) : q.1 = j + 1 := by
  unfold pNum at h
  repeat' split at h
  all_goals cases h
  rfl
theorem S_R_figure {X0 X : Mem} {xc mm j : Nat} {B : Nat → Nat} (hB : okB B mm) (hV0 : RV X0 mm B) (hP : PsZ X0 xc B j X) (hxc : xc + 2 < 2724) {lo hi x : Nat} (hx : x = xc + 1 ∨ x = xc + 2) (hlo : lo < 100) (hhi : hi < 100) : CM 2 m_R_figure [.ref 244, .int (nI x), .int (nI lo), .int (nI hi)] X (FgP X0 xc B x X (pNum (tkT B) lo hi j)) := by
  have hX := hP.1
  have hT := hP.2.1
  have hV := RV_Z hP.2.2 hV0
  have hq := stT_le hB j
  have htr := tR_sm (q := stT B j) hB
  have hnr := nR_le hB (q := stT B j)
  have hnv := nv_le hB (q := stT B j)
  refine CM_of (L := [some (.ref 244), some (.int (nI x)), some (.int (nI lo)), some (.int (nI hi))]) 0 ok_R_figure (fun _ => Nat.le_of_ble_eq_true rfl) rfl ?_
  refine J_aload_n (i := 0) d_R_figure_0 rfl rfl ?_
  refine M_get (x := (nI (tR B (stT B j)))) d_R_figure_1 f_R_158 rfl rfl hT.2.2.1 ?_
  refine J_iconst (v := nI 1) d_R_figure_4 rfl ?_
  refine N_icmp_eq (tgt := 10) d_R_figure_5 (by decide) (by omega) (by omega) (fun c5 => ?_) (fun c5 => ?_)
  · refine J_aload_n (i := 0) d_R_figure_10 rfl rfl ?_
    refine M_get (x := (nI (nR B (stT B j)))) d_R_figure_11 f_R_164 rfl rfl (hT.2.2.2.1 c5) ?_
    refine J_iload_n (i := 2) d_R_figure_14 rfl rfl ?_
    refine J_iload_n (i := 3) d_R_figure_15 rfl rfl ?_
    refine CS_B (av := [.int (nI (nR B (stT B j))), .int (nI lo), .int (nI hi)]) d_R_figure_16 s_R_89 S_R_isIn (by decide) rfl rfl (Nat.le_of_ble_eq_true rfl) ?_
    rw [isIn_n (by omega) (by omega) (by omega)]
    refine B_if_ne (tgt := 24) d_R_figure_19 (by decide) (fun c19 => ?_) (fun c19 => ?_)
    · refine J_aload_n (i := 0) d_R_figure_24 rfl rfl ?_
      refine M_getR (b := 251) d_R_figure_25 f_R_28 rfl rfl rfl ?_
      refine J_iload_n (i := 1) d_R_figure_28 rfl rfl ?_
      refine J_aload_n (i := 0) d_R_figure_29 rfl rfl ?_
      refine M_get (x := (nI (nR B (stT B j)))) d_R_figure_30 f_R_164 rfl rfl (hT.2.2.2.1 c5) ?_
      refine N_iast d_R_figure_33 rfl (by decide) (by omega) (ltL hX (a := 251) (n := 2724) (by decide) rfl (by omega)) ?_
      refine J_aload_n (i := 0) d_R_figure_34 rfl rfl ?_
      refine M_callV (av := []) d_R_figure_35 s_R_233 (M_rcv rfl (by decide) rfl) (S_R_nextToken (okS hX rfl) hB (RV_Z (offZ_A hx) hV) hT.2.1 (eN_le hB hq)) (by decide) rfl rfl (Nat.le_of_ble_eq_true rfl) (fun r1 Y1 hq1 => ?_)
      obtain ⟨rfl, hY1, ho1, hT1⟩ := hq1
      refine J_iconst (v := nI 0) d_R_figure_38 rfl ?_
      refine M_ir d_R_figure_39 rfl rfl ?_
      rw [Bool.and_eq_true] at c19
      have y1 := of_decide_eq_true c19.1
      have y2 := of_decide_eq_true c19.2
      rw [show pNum (tkT B) lo hi j = .inr (j + 1, (nR B (stT B j))) from (if_pos (show kT B (stT B j) = 45 from (sg_of hB (p := (1, 45)) (by decide)).mp c5)).trans ((if_neg (show ¬ (vC B (stT B j) < lo ∨ hi < vC B (stT B j)) by omega)).trans (by rw [← show vC B (stT B j) = (nR B (stT B j)) by omega]; rfl))]
      have hl : (X.2.1 251).length = 2724 := hX.1 251 (by decide)
      refine ⟨rfl, PsZ_nx hx hP hY1 ho1 hT1, ?_, fun p hp => ?_⟩
      · rw [ho1.2.1, pA_at, set_eq (by omega)]
      · rw [ho1.2.1, pA_at, set_ne (by omega)]
    · refine J_iconst (v := nI 2) d_R_figure_22 rfl ?_
      refine M_ir d_R_figure_23 rfl rfl ?_
      rw [show pNum (tkT B) lo hi j = .inl (2, j) from (if_pos (show kT B (stT B j) = 45 from (sg_of hB (p := (1, 45)) (by decide)).mp c5)).trans (if_pos (show vC B (stT B j) < lo ∨ hi < vC B (stT B j) from ?_))]
      · exact ⟨rfl, show (2 : Nat) ≠ 0 by decide, show (2 : Nat) < 10 by decide, hP⟩
      · rcases Nat.lt_or_ge (nR B (stT B j)) lo with y | y
        · omega
        · rw [decide_eq_true y, Bool.true_and] at c19
          have c := of_decide_eq_false c19
          omega
  · refine J_iconst (v := nI 1) d_R_figure_8 rfl ?_
    refine M_ir d_R_figure_9 rfl rfl ?_
    rw [show pNum (tkT B) lo hi j = .inl (1, j) from if_neg (fun z => c5 ((sg_of hB (p := (1, 45)) (by decide)).mpr z))]
    exact ⟨rfl, show (1 : Nat) ≠ 0 by decide, show (1 : Nat) < 10 by decide, hP⟩

theorem S_R_pair {X0 X : Mem} {xc mm j : Nat} {B : Nat → Nat} (hB : okB B mm) (hV0 : RV X0 mm B) (hP : PsZ X0 xc B j X) (hxc : xc + 2 < 2724) {i : Nat} {w : Int64} {two : Prop} (hi : i = 7 ∨ i = 8) (hw : w = Int64.ofNat (pkr (KW.getD i []).reverse)) : CM 3 m_R_pair [.ref 244, .int (nI xc), .long w] X (DdP X0 xc B j two (bnd (pNum (tkT B) 0 19 j) (fun j2 a => bnd (pExp (tkT B) i j2) (fun j3 _ => bnd (pNum (tkT B) 0 7 j3) (fun j4 b => (.inr (j4, (a, b)) : PR (Nat × Nat))))))) := by
  have hX := hP.1
  have hT := hP.2.1
  have hV := RV_Z hP.2.2 hV0
  have hq := stT_le hB j
  have htr := tR_sm (q := stT B j) hB
  have hnr := nR_le hB (q := stT B j)
  have hnv := nv_le hB (q := stT B j)
  refine CM_of (L := [some (.ref 244), some (.int (nI xc)), some (.long w), none, none]) 1 ok_R_pair (fun _ => Nat.le_of_ble_eq_true rfl) rfl ?_
  refine J_aload_n (i := 0) d_R_pair_0 rfl rfl ?_
  refine J_iload_n (i := 1) d_R_pair_1 rfl rfl ?_
  refine J_iconst (v := nI 1) d_R_pair_2 rfl ?_
  refine N_iadd d_R_pair_3 ?_
  refine J_iconst (v := nI 0) d_R_pair_4 rfl ?_
  refine J_bipush (v := nI 19) d_R_pair_5 rfl ?_
  refine M_callV (av := [.int (nI (xc + 1)), .int (nI 0), .int (nI 19)]) d_R_pair_7 s_R_301 (M_rcv rfl (by decide) rfl) (S_R_figure hB hV0 hP hxc (x := (xc + 1)) (lo := 0) (hi := 19) (Or.inl rfl) (by decide) (by decide)) (by decide) rfl rfl (Nat.le_of_ble_eq_true rfl) (fun r1 Y1 hq1 => ?_)
  unfold FgP at hq1
  rcases hz1 : pNum (tkT B) 0 19 j with q1 | q1
  · rw [hz1] at hq1
    obtain ⟨rfl, g0_1, g1_1, hP1⟩ := hq1
    refine J_istore (L1 := [some (.ref 244), some (.int (nI xc)), some (.long w), none, some (.int (nI q1.1))]) d_R_pair_10 (by decide) rfl ?_
    refine J_iload d_R_pair_12 rfl ?_
    refine N_if_eq (tgt := 20) d_R_pair_14 (by decide) (by omega) (fun c14 => absurd c14 g0_1) (fun c14 => ?_)
    refine J_iload d_R_pair_17 rfl ?_
    refine M_ir d_R_pair_19 rfl rfl ?_
    exact ⟨rfl, g0_1, g1_1, hP1⟩
  · rw [hz1] at hq1
    obtain ⟨rfl, hP1, cx1, ce1⟩ := hq1
    refine J_istore (L1 := [some (.ref 244), some (.int (nI xc)), some (.long w), none, some (.int (nI 0))]) d_R_pair_10 (by decide) rfl ?_
    refine J_iload d_R_pair_12 rfl ?_
    refine N_if_eq (tgt := 20) d_R_pair_14 (by decide) (by omega) (fun c14 => ?_) (fun c14 => absurd c14 (by decide))
    refine J_aload_n (i := 0) d_R_pair_20 rfl rfl ?_
    refine J_lload_n (i := 2) d_R_pair_21 rfl rfl ?_
    refine CV_B (av := [.long w]) d_R_pair_22 s_R_251 (M_rcv rfl (by decide) rfl) (S_R_isWord hB hP1.2.1 (show i < 32 by omega) (by omega) hw) (by decide) rfl rfl (Nat.le_of_ble_eq_true rfl) ?_
    refine B_if_ne (tgt := 30) d_R_pair_25 (by decide) (fun c25 => ?_) (fun c25 => ?_)
    · refine J_aload_n (i := 0) d_R_pair_30 rfl rfl ?_
      refine M_callV (av := []) d_R_pair_31 s_R_233 (M_rcv rfl (by decide) rfl) (S_R_nextToken hP1.1 hB (RV_Z hP1.2.2 hV0) hP1.2.1.2.1 (eN_le hB (stT_le hB q1.1))) (by decide) rfl rfl (Nat.le_of_ble_eq_true rfl) (fun r2 Y2 hq2 => ?_)
      obtain ⟨rfl, hY2, ho2, hT2⟩ := hq2
      have hP2 : PsZ X0 xc B (q1.1 + 1) Y2 := ⟨hY2, hT2, offZ_t hP1.2.2 (offZ_N ho2)⟩
      refine J_aload_n (i := 0) d_R_pair_34 rfl rfl ?_
      refine J_iload_n (i := 1) d_R_pair_35 rfl rfl ?_
      refine J_iconst (v := nI 2) d_R_pair_36 rfl ?_
      refine N_iadd d_R_pair_37 ?_
      refine J_iconst (v := nI 0) d_R_pair_38 rfl ?_
      refine J_bipush (v := nI 7) d_R_pair_39 rfl ?_
      refine M_callV (av := [.int (nI (xc + 2)), .int (nI 0), .int (nI 7)]) d_R_pair_41 s_R_301 (M_rcv rfl (by decide) rfl) (S_R_figure hB hV0 hP2 hxc (x := (xc + 2)) (lo := 0) (hi := 7) (Or.inr rfl) (by decide) (by decide)) (by decide) rfl rfl (Nat.le_of_ble_eq_true rfl) (fun r3 Y3 hq3 => ?_)
      unfold FgP at hq3
      rcases hz3 : pNum (tkT B) 0 7 (q1.1 + 1) with q3 | q3
      · rw [hz3] at hq3
        obtain ⟨rfl, g0_3, g1_3, hP3⟩ := hq3
        refine M_ir d_R_pair_44 rfl rfl ?_
        show DdP X0 xc B j two (bnd (pExp (tkT B) i q1.1) (fun j3 _ => bnd (pNum (tkT B) 0 7 j3) (fun j4 b => (.inr (j4, (q1.2, b)) : PR (Nat × Nat))))) _ _
        rw [show pExp (tkT B) i q1.1 = .inr (q1.1 + 1, 0) from if_pos (of_decide_eq_true c25)]
        show DdP X0 xc B j two (bnd (pNum (tkT B) 0 7 (q1.1 + 1)) (fun j4 b => (.inr (j4, (q1.2, b)) : PR (Nat × Nat)))) _ _
        rw [hz3]
        exact ⟨rfl, g0_3, g1_3, hP3⟩
      · rw [hz3] at hq3
        obtain ⟨rfl, hP3, cx3, ce3⟩ := hq3
        refine M_ir d_R_pair_44 rfl rfl ?_
        show DdP X0 xc B j two (bnd (pExp (tkT B) i q1.1) (fun j3 _ => bnd (pNum (tkT B) 0 7 j3) (fun j4 b => (.inr (j4, (q1.2, b)) : PR (Nat × Nat))))) _ _
        rw [show pExp (tkT B) i q1.1 = .inr (q1.1 + 1, 0) from if_pos (of_decide_eq_true c25)]
        show DdP X0 xc B j two (bnd (pNum (tkT B) 0 7 (q1.1 + 1)) (fun j4 b => (.inr (j4, (q1.2, b)) : PR (Nat × Nat)))) _ _
        rw [hz3]
        have y1 := pNum_j hz1
        have y3 := pNum_j hz3
        exact ⟨rfl, hP3, show j ≤ q3.1 by omega, (ce3 _ (by omega)).trans ((by rw [ho2.2.1]) : (Y2.2.1 251).getD (xc + 1) 0 = (Y1.2.1 251).getD (xc + 1) 0) |>.trans cx1, fun _ => cx3⟩
    · refine J_iconst (v := nI 1) d_R_pair_28 rfl ?_
      refine M_ir d_R_pair_29 rfl rfl ?_
      show DdP X0 xc B j two (bnd (pExp (tkT B) i q1.1) (fun j3 _ => bnd (pNum (tkT B) 0 7 j3) (fun j4 b => (.inr (j4, (q1.2, b)) : PR (Nat × Nat))))) _ _
      rw [show pExp (tkT B) i q1.1 = .inl (1, q1.1) from if_neg (of_decide_eq_false c25)]
      exact ⟨rfl, show (1 : Nat) ≠ 0 by decide, show (1 : Nat) < 10 by decide, hP1⟩

theorem S_R_drawClause {X0 X : Mem} {xc mm j : Nat} {B : Nat → Nat} (hB : okB B mm) (hV0 : RV X0 mm B) (hP : PsZ X0 xc B j X) (hxc : xc + 2 < 2724) : CM 7 m_R_drawClause [.ref 244, .int (nI xc)] X (DdP X0 xc B j False (bnd (pShape (tkT B) (levS (tkT B) 8) j) (fun j2 v => .inr (j2, (v, 0))))) := by
  have hX := hP.1
  have hT := hP.2.1
  have hV := RV_Z hP.2.2 hV0
  have hq := stT_le hB j
  have htr := tR_sm (q := stT B j) hB
  have hnr := nR_le hB (q := stT B j)
  have hnv := nv_le hB (q := stT B j)
  refine CM_of (L := [some (.ref 244), some (.int (nI xc)), none]) 1 ok_R_drawClause (fun _ => Nat.le_of_ble_eq_true rfl) rfl ?_
  refine J_aload_n (i := 0) d_R_drawClause_0 rfl rfl ?_
  have hsm := shape_m (tk_46 hB) j 0
  rcases hz1 : pShape (tkT B) (levS (tkT B) 8) j with q1 | q1
  · rw [hz1] at hsm
    refine M_callV (av := []) d_R_drawClause_1 s_R_298 (M_rcv rfl (by decide) rfl) (S_R_shaped hB hV hX hT (offV_0 X) hsm) (by decide) rfl rfl (Nat.le_of_ble_eq_true rfl) (fun r1 Y1 hq1 => ?_)
    obtain ⟨u1, rfl, rfl, g0, g1, hF1⟩ := hq1
    refine J_istore_n (i := 2) (L1 := [some (.ref 244), some (.int (nI xc)), some (.int (nI q1.1))]) d_R_drawClause_4 rfl (by decide) rfl ?_
    refine J_aload_n (i := 0) d_R_drawClause_5 rfl rfl ?_
    refine M_getR (b := 251) d_R_drawClause_6 f_R_28 rfl rfl rfl ?_
    refine J_iload_n (i := 1) d_R_drawClause_9 rfl rfl ?_
    refine J_iconst (v := nI 1) d_R_drawClause_10 rfl ?_
    refine N_iadd d_R_drawClause_11 ?_
    refine J_aload_n (i := 0) d_R_drawClause_12 rfl rfl ?_
    refine M_get (x := (Y1.1 244 25)) d_R_drawClause_13 f_R_276 rfl rfl rfl ?_
    refine N_iast d_R_drawClause_16 rfl (by decide) (by omega) (ltL hF1.1 (a := 251) (n := 2724) (by decide) rfl (by omega)) ?_
    refine J_iload_n (i := 2) d_R_drawClause_17 rfl rfl ?_
    refine M_ir d_R_drawClause_18 rfl rfl ?_
    have hl : (Y1.2.1 251).length = 2724 := hF1.1.1 251 (by decide)
    have hP1 : PsZ X0 xc B q1.2 (pA Y1 251 ((Y1.2.1 251).set (xc + 1) (Y1.1 244 25))) := ⟨okS hF1.1 rfl, RTq_e hF1.2.1 (fun k _ _ => rfl) rfl, offZ_t hP.2.2 (offZ_t (offZ_V hF1.2.2) (offZ_A (Or.inl rfl)))⟩
    exact ⟨rfl, g0, g1, hP1⟩
  · rw [hz1] at hsm
    refine M_callV (av := []) d_R_drawClause_1 s_R_298 (M_rcv rfl (by decide) rfl) (S_R_shaped hB hV hX hT (offV_0 X) hsm.2) (by decide) rfl rfl (Nat.le_of_ble_eq_true rfl) (fun r1 Y1 hq1 => ?_)
    obtain ⟨u1, rfl, rfl, hF1, h25, hD1⟩ := hq1
    refine J_istore_n (i := 2) (L1 := [some (.ref 244), some (.int (nI xc)), some (.int (nI 0))]) d_R_drawClause_4 rfl (by decide) rfl ?_
    refine J_aload_n (i := 0) d_R_drawClause_5 rfl rfl ?_
    refine M_getR (b := 251) d_R_drawClause_6 f_R_28 rfl rfl rfl ?_
    refine J_iload_n (i := 1) d_R_drawClause_9 rfl rfl ?_
    refine J_iconst (v := nI 1) d_R_drawClause_10 rfl ?_
    refine N_iadd d_R_drawClause_11 ?_
    refine J_aload_n (i := 0) d_R_drawClause_12 rfl rfl ?_
    refine M_get (x := (nI q1.2)) d_R_drawClause_13 f_R_276 rfl rfl h25 ?_
    refine N_iast d_R_drawClause_16 rfl (by decide) (by omega) (ltL hF1.1 (a := 251) (n := 2724) (by decide) rfl (by omega)) ?_
    refine J_iload_n (i := 2) d_R_drawClause_17 rfl rfl ?_
    refine M_ir d_R_drawClause_18 rfl rfl ?_
    have hl : (Y1.2.1 251).length = 2724 := hF1.1.1 251 (by decide)
    have hP1 : PsZ X0 xc B q1.1 (pA Y1 251 ((Y1.2.1 251).set (xc + 1) (nI q1.2))) := ⟨okS hF1.1 rfl, RTq_e hF1.2.1 (fun k _ _ => rfl) rfl, offZ_t hP.2.2 (offZ_t (offZ_V hF1.2.2) (offZ_A (Or.inl rfl)))⟩
    exact ⟨rfl, hP1, Nat.le_of_lt hsm.1, by rw [pA_at, set_eq (by omega)], fun z => z.elim⟩

