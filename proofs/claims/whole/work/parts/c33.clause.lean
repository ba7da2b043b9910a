def oBb (a b : Bool) : Nat := (if a = true then 1 else 0) + (if b = true then 2 else 0)
theorem oBb_0 : ∀ a b : Bool, (oBb a b).testBit 0 = a := by decide
theorem oBb_1 : ∀ a b : Bool, (oBb a b).testBit 1 = b := by decide
theorem oBb_a : ∀ b : Bool, oBb false b ||| 1 <<< 0 = oBb true b := by decide
theorem oBb_b : ∀ a : Bool, oBb a false ||| 1 <<< 1 = oBb a true := by decide
theorem oB_0 (x : TX) : (oB x).testBit 0 = x.1.isSome := oBb_0 x.1.isSome x.2.1.isSome
theorem oB_1 (x : TX) : (oB x).testBit 1 = x.2.1.isSome := oBb_1 x.1.isSome x.2.1.isSome
theorem oB_le (x : TX) : oB x ≤ 3 := by
  unfold oB
  split <;> split <;> decide
theorem oB_a0 {x : TX} {d : Env → Int} (h : x.1 = none) : oB x ||| 1 <<< 0 = oB (addT x 0 (some d) 0 0) := by
  show oBb x.1.isSome x.2.1.isSome ||| 1 <<< 0 = oBb true x.2.1.isSome
  rw [h]
  exact oBb_a x.2.1.isSome
theorem oB_a1 {x : TX} {d : Env → Int} (h : x.2.1 = none) : oB x ||| 1 <<< 1 = oB (addT x 1 (some d) 0 0) := by
  show oBb x.1.isSome x.2.1.isSome ||| 1 <<< 1 = oBb x.1.isSome true
  rw [h]
  exact oBb_b x.1.isSome
theorem oB_d {x : TX} {v a b : Nat} (h : 2 ≤ v) : oB (addT x v none a b) = oB x := by
  show (if (if v = 0 then none else x.1).isSome = true then 1 else 0) + (if (if v = 1 then none else x.2.1).isSome = true then 2 else 0) = oB x
  rw [if_neg (show ¬ v = 0 by omega), if_neg (show ¬ v = 1 by omega)]
  rfl
/-- what a clause that was read leaves -/
def ClP (X : Mem) (t : Nat) (B : Nat → Nat) (j : Nat) (z : PR TX) (r : Option Value) (Y : Mem) : Prop := match z with
  | .inl q => r = some (.int (nI q.1)) ∧ (q.1 ≠ 0 ∧ (q.1 < 10 ∧ (Ok Y ∧ (RTq Y B (stT B q.2) ∧ offX t X Y))))
  | .inr q => r = some (.int (nI 0)) ∧ (Ok Y ∧ (RTq Y B (stT B q.1) ∧ (offX t X Y ∧ (j < q.1 ∧ (q.1 ≤ 300 ∧ ∃ K2, RTn Y t K2 q.2 ∧ K2.length ≤ q.1)))))
/-- a clause begun -/
theorem cl_2 {X X' Y1 : Mem} {t nn k q : Nat} {B : Nat → Nat} (ht : t < 4) (hn : nn < 24) (e1 : ∀ b i, ¬ (b = 244 ∧ (i = 19 ∨ i = 26)) → X'.1 b i = X.1 b i) (e2 : X'.2 = X.2) (hY : Ok Y1) (ho : offNx X' Y1) (hT : RTq Y1 B q) : Ok (pA Y1 251 ((Y1.2.1 251).set (681 * t + 1 + 3 * nn) (nI k))) ∧ (RTq (pA Y1 251 ((Y1.2.1 251).set (681 * t + 1 + 3 * nn) (nI k))) B q ∧ (offX t X (pA Y1 251 ((Y1.2.1 251).set (681 * t + 1 + 3 * nn) (nI k))) ∧ ((∀ i, i = 17 ∨ i = 18 → Y1.1 244 i = X.1 244 i) ∧ ((∀ i, i = 19 ∨ i = 26 → Y1.1 244 i = X'.1 244 i) ∧ (((pA Y1 251 ((Y1.2.1 251).set (681 * t + 1 + 3 * nn) (nI k))).2.1 251).getD (681 * t + 1 + 3 * nn) 0 = nI k ∧ ∀ p, p ≠ 681 * t + 1 + 3 * nn → ((pA Y1 251 ((Y1.2.1 251).set (681 * t + 1 + 3 * nn) (nI k))).2.1 251).getD p 0 = (X.2.1 251).getD p 0))))) := by
  have hl : (Y1.2.1 251).length = 2724 := hY.1 251 (by decide)
  have hx : offX t X X' := ⟨fun b i h => e1 b i (fun z => h ⟨z.1, by have := z.2; omega⟩), fun b _ _ _ => by rw [e2], by rw [e2], by rw [e2], fun p _ => by rw [e2]⟩
  refine ⟨okS hY rfl, RTq_e hT (fun k _ _ => rfl) rfl, offX_t hx (offX_t (offX_N ho) (offX_A (by omega))), fun i hi => (ho.1 244 i (by omega)).trans (e1 244 i (by omega)), fun i hi => ho.1 244 i (by omega), by rw [pA_at, set_eq (by omega)], fun p hp => by rw [pA_at, set_ne (Ne.symm hp), ho.2.1, e2]⟩
theorem S_R_clause_A {X : Mem} {t mm j k : Nat} {K : Kd} {B : Nat → Nat} {x : TX} (hB : okB B mm) (hV : RV X mm B) (hX : Ok X) (ht : t < 4) (hT : RTq X B (stT B j)) (hR : RTn X t K x) (hKj : K.length ≤ j) (hk : kT B (stT B j) = k) (h6 : 6 < k) : CM 10 m_R_clause [.ref 244] X (ClP X t B j (pClause (tkT B) x j)) := by
  have hq := stT_le hB j
  have htr := tR_sm (q := stT B j) hB
  obtain ⟨h17, h18, hE, hKB, h26, hn, hn24, hC, hL0, hL1⟩ := id hR
  have hob := oB_le x
  have hT1 : (tkT B).1 j = k := hk
  refine CM_of (L := [some (.ref 244), none, none, none, none]) 4 ok_R_clause (fun _ => Nat.le_of_ble_eq_true rfl) rfl ?_
  refine J_aload_n (i := 0) d_R_clause_0 rfl rfl ?_
  refine CV_I (av := []) d_R_clause_1 s_R_315 (M_rcv rfl (by decide) rfl) (S_R_sortOf hX hB hV hT hq) (by decide) rfl rfl (Nat.le_of_ble_eq_true rfl) ?_
  rw [hk, show soR k = -1 from if_neg (by omega)]
  refine J_istore_n (i := 1) (L1 := [some (.ref 244), some (.int (-1)), none, none, none]) d_R_clause_4 rfl (by decide) rfl ?_
  refine J_iload_n (i := 1) d_R_clause_5 rfl rfl ?_
  refine J_if_ge (tgt := 11) d_R_clause_6 (by decide) (fun c6 => absurd c6 (by decide)) (fun c6 => ?_)
  refine J_iconst (v := nI 1) d_R_clause_9 rfl ?_
  refine M_ir d_R_clause_10 rfl rfl ?_
  rw [show pClause (tkT B) x j = .inl (1, j) from if_pos (by omega)]
  exact ⟨rfl, show (1 : Nat) ≠ 0 by decide, show (1 : Nat) < 10 by decide, hX, hT, offX_0 t X⟩

theorem oB_h {x : TX} {k : Nat} (h : k ≤ 1) : (oB x).testBit k = true ↔ ((k = 0 ∧ x.1.isSome = true) ∨ (k = 1 ∧ x.2.1.isSome = true)) := by
  have hk : k = 0 ∨ k = 1 := by omega
  rcases hk with rfl | rfl
  · rw [oB_0]
    exact ⟨fun z => Or.inl ⟨rfl, z⟩, fun z => by
      rcases z with z | z
      · exact z.2
      · exact absurd z.1 (by decide)⟩
  · rw [oB_1]
    exact ⟨fun z => Or.inr ⟨rfl, z⟩, fun z => by
      rcases z with z | z
      · exact absurd z.1 (by decide)
      · exact z.2⟩
theorem pCl_A {T : TS} {x : TX} {j k : Nat} (hk : T.1 j = k) (h6 : 6 < k) : pClause T x j = .inl (1, j) := if_pos (by omega)
theorem pCl_4 {T : TS} {x : TX} {j k : Nat} (hk : T.1 j = k) (h6 : ¬ 6 < k) (h4 : (k = 0 ∧ x.1.isSome = true) ∨ (k = 1 ∧ x.2.1.isSome = true)) : pClause T x j = .inl (4, j) := by
  subst hk
  exact (if_neg h6).trans (if_pos h4)
theorem pCl_6 {T : TS} {x : TX} {j k : Nat} (hk : T.1 j = k) (h6 : ¬ 6 < k) (h4 : ¬ ((k = 0 ∧ x.1.isSome = true) ∨ (k = 1 ∧ x.2.1.isSome = true))) (hn : 24 ≤ x.2.2.1) : pClause T x j = .inl (6, j) := by
  subst hk
  exact (if_neg h6).trans ((if_neg h4).trans (if_pos hn))
theorem pCl_b {T : TS} {x : TX} {j k : Nat} (hk : T.1 j = k) (h6 : ¬ 6 < k) (h4 : ¬ ((k = 0 ∧ x.1.isSome = true) ∨ (k = 1 ∧ x.2.1.isSome = true))) (hn : ¬ 24 ≤ x.2.2.1) : pClause T x j = bnd (pBody T x k (j + 1)) (fun j2 y => bnd (pExp T 42 j2) (fun j3 _ => .inr (j3, y))) := by
  subst hk
  exact (if_neg h6).trans ((if_neg h4).trans (if_neg hn))
theorem S_R_clause_4 {X : Mem} {t mm j k : Nat} {K : Kd} {B : Nat → Nat} {x : TX} (hB : okB B mm) (hV : RV X mm B) (hX : Ok X) (ht : t < 4) (hT : RTq X B (stT B j)) (hR : RTn X t K x) (hKj : K.length ≤ j) (hk : kT B (stT B j) = k) (h4 : ((k = 0 ∧ x.1.isSome = true) ∨ (k = 1 ∧ x.2.1.isSome = true))) : CM 10 m_R_clause [.ref 244] X (ClP X t B j (pClause (tkT B) x j)) := by
  have hq := stT_le hB j
  have htr := tR_sm (q := stT B j) hB
  obtain ⟨h17, h18, hE, hKB, h26, hn, hn24, hC, hL0, hL1⟩ := id hR
  have hob := oB_le x
  have hT1 : (tkT B).1 j = k := hk
  have hk1 : k ≤ 1 := by omega
  have hh := (oB_h hk1).mpr h4
  refine CM_of (L := [some (.ref 244), none, none, none, none]) 4 ok_R_clause (fun _ => Nat.le_of_ble_eq_true rfl) rfl ?_
  refine J_aload_n (i := 0) d_R_clause_0 rfl rfl ?_
  refine CV_I (av := []) d_R_clause_1 s_R_315 (M_rcv rfl (by decide) rfl) (S_R_sortOf hX hB hV hT hq) (by decide) rfl rfl (Nat.le_of_ble_eq_true rfl) ?_
  rw [hk, show soR k = nI k from if_pos (by omega)]
  refine J_istore_n (i := 1) (L1 := [some (.ref 244), some (.int (nI k)), none, none, none]) d_R_clause_4 rfl (by decide) rfl ?_
  refine J_iload_n (i := 1) d_R_clause_5 rfl rfl ?_
  refine N_if_ge (tgt := 11) d_R_clause_6 (by decide) (by omega) ?_
  refine J_iload_n (i := 1) d_R_clause_11 rfl rfl ?_
  refine J_iconst (v := nI 1) d_R_clause_12 rfl ?_
  refine N_icmp_gt (tgt := 29) d_R_clause_13 (by decide) (by omega) (by omega) (fun c13 => absurd c13 (by omega)) (fun c13 => ?_)
  refine J_aload_n (i := 0) d_R_clause_16 rfl rfl ?_
  refine M_get (x := (nI (oB x))) d_R_clause_17 f_R_318 rfl rfl h26 ?_
  refine J_iload_n (i := 1) d_R_clause_20 rfl rfl ?_
  refine CS_B (av := [.int (nI (oB x)), .int (nI k)]) d_R_clause_21 s_R_94 (S_R_has (by omega) (by omega)) (by decide) rfl rfl (Nat.le_of_ble_eq_true rfl) ?_
  rw [show (oB x).testBit k = true from hh]
  refine B_if_eq (tgt := 29) d_R_clause_24 (by decide) (fun c24 => absurd c24 (by decide)) (fun c24 => ?_)
  refine J_iconst (v := nI 4) d_R_clause_27 rfl ?_
  refine M_ir d_R_clause_28 rfl rfl ?_
  rw [pCl_4 hT1 (by omega) h4]
  exact ⟨rfl, show (4 : Nat) ≠ 0 by decide, show (4 : Nat) < 10 by decide, hX, hT, offX_0 t X⟩

theorem S_R_clause_6 {X : Mem} {t mm j k : Nat} {K : Kd} {B : Nat → Nat} {x : TX} (hB : okB B mm) (hV : RV X mm B) (hX : Ok X) (ht : t < 4) (hT : RTq X B (stT B j)) (hR : RTn X t K x) (hKj : K.length ≤ j) (hk : kT B (stT B j) = k) (h6 : k ≤ 6) (h4 : ¬ ((k = 0 ∧ x.1.isSome = true) ∨ (k = 1 ∧ x.2.1.isSome = true))) (hn6 : 24 ≤ x.2.2.1) : CM 10 m_R_clause [.ref 244] X (ClP X t B j (pClause (tkT B) x j)) := by
  have hq := stT_le hB j
  have htr := tR_sm (q := stT B j) hB
  obtain ⟨h17, h18, hE, hKB, h26, hn, hn24, hC, hL0, hL1⟩ := id hR
  have hob := oB_le x
  have hT1 : (tkT B).1 j = k := hk
  have hh : k ≤ 1 → (oB x).testBit k = false := fun z => fls (fun y => h4 ((oB_h z).mp y))
  refine CM_of (L := [some (.ref 244), none, none, none, none]) 4 ok_R_clause (fun _ => Nat.le_of_ble_eq_true rfl) rfl ?_
  refine J_aload_n (i := 0) d_R_clause_0 rfl rfl ?_
  refine CV_I (av := []) d_R_clause_1 s_R_315 (M_rcv rfl (by decide) rfl) (S_R_sortOf hX hB hV hT hq) (by decide) rfl rfl (Nat.le_of_ble_eq_true rfl) ?_
  rw [hk, show soR k = nI k from if_pos (by omega)]
  refine J_istore_n (i := 1) (L1 := [some (.ref 244), some (.int (nI k)), none, none, none]) d_R_clause_4 rfl (by decide) rfl ?_
  refine J_iload_n (i := 1) d_R_clause_5 rfl rfl ?_
  refine N_if_ge (tgt := 11) d_R_clause_6 (by decide) (by omega) ?_
  refine J_iload_n (i := 1) d_R_clause_11 rfl rfl ?_
  refine J_iconst (v := nI 1) d_R_clause_12 rfl ?_
  refine N_icmp_gt (tgt := 29) d_R_clause_13 (by decide) (by omega) (by omega) (fun c13 => ?_) (fun c13 => ?_)
  · refine J_aload_n (i := 0) d_R_clause_29 rfl rfl ?_
    refine M_getR (b := 251) d_R_clause_30 f_R_28 rfl rfl rfl ?_
    refine J_aload_n (i := 0) d_R_clause_33 rfl rfl ?_
    refine M_get (x := (nI (681 * t))) d_R_clause_34 f_R_196 rfl rfl h17 ?_
    refine N_iald (x := (nI x.2.2.1)) d_R_clause_37 rfl (by omega) (ltL hX (a := 251) (n := 2724) (by decide) rfl (by omega)) hn ?_
    refine J_istore_n (i := 2) (L1 := [some (.ref 244), some (.int (nI k)), some (.int (nI x.2.2.1)), none, none]) d_R_clause_38 rfl (by decide) rfl ?_
    refine J_iload_n (i := 2) d_R_clause_39 rfl rfl ?_
    refine J_bipush (v := nI 24) d_R_clause_40 rfl ?_
    refine N_icmp_ne (tgt := 48) d_R_clause_42 (by decide) (by omega) (by omega) (fun c42 => absurd c42 (by omega)) (fun c42 => ?_)
    refine J_bipush (v := nI 6) d_R_clause_45 rfl ?_
    refine M_ir d_R_clause_47 rfl rfl ?_
    rw [pCl_6 hT1 (by omega) h4 hn6]
    exact ⟨rfl, show (6 : Nat) ≠ 0 by decide, show (6 : Nat) < 10 by decide, hX, hT, offX_0 t X⟩
  · refine J_aload_n (i := 0) d_R_clause_16 rfl rfl ?_
    refine M_get (x := (nI (oB x))) d_R_clause_17 f_R_318 rfl rfl h26 ?_
    refine J_iload_n (i := 1) d_R_clause_20 rfl rfl ?_
    refine CS_B (av := [.int (nI (oB x)), .int (nI k)]) d_R_clause_21 s_R_94 (S_R_has (by omega) (by omega)) (by decide) rfl rfl (Nat.le_of_ble_eq_true rfl) ?_
    rw [show (oB x).testBit k = false from hh (by omega)]
    refine B_if_eq (tgt := 29) d_R_clause_24 (by decide) (fun c24 => ?_) (fun c24 => absurd c24 (by decide))
    refine J_aload_n (i := 0) d_R_clause_29 rfl rfl ?_
    refine M_getR (b := 251) d_R_clause_30 f_R_28 rfl rfl rfl ?_
    refine J_aload_n (i := 0) d_R_clause_33 rfl rfl ?_
    refine M_get (x := (nI (681 * t))) d_R_clause_34 f_R_196 rfl rfl h17 ?_
    refine N_iald (x := (nI x.2.2.1)) d_R_clause_37 rfl (by omega) (ltL hX (a := 251) (n := 2724) (by decide) rfl (by omega)) hn ?_
    refine J_istore_n (i := 2) (L1 := [some (.ref 244), some (.int (nI k)), some (.int (nI x.2.2.1)), none, none]) d_R_clause_38 rfl (by decide) rfl ?_
    refine J_iload_n (i := 2) d_R_clause_39 rfl rfl ?_
    refine J_bipush (v := nI 24) d_R_clause_40 rfl ?_
    refine N_icmp_ne (tgt := 48) d_R_clause_42 (by decide) (by omega) (by omega) (fun c42 => absurd c42 (by omega)) (fun c42 => ?_)
    refine J_bipush (v := nI 6) d_R_clause_45 rfl ?_
    refine M_ir d_R_clause_47 rfl rfl ?_
    rw [pCl_6 hT1 (by omega) h4 hn6]
    exact ⟨rfl, show (6 : Nat) ≠ 0 by decide, show (6 : Nat) < 10 by decide, hX, hT, offX_0 t X⟩

theorem no_some {α : Type} {a : Option α} (h : ¬ a.isSome = true) : a = none := by
  cases a with
  | none => rfl
  | some v => exact absurd rfl h
theorem pB_k {T : TS} {x : TX} {k j : Nat} (h : k ≤ 1) : pBody T x k j = bnd (pSum T (lev T (decide (k = 0)) 8).1 j) (fun j2 v => .inr (j2, addT x k (some v) 0 0)) := if_pos h
theorem S_R_clause_L {X : Mem} {t mm j k : Nat} {K : Kd} {B : Nat → Nat} {x : TX} (hB : okB B mm) (hV : RV X mm B) (hX : Ok X) (ht : t < 4) (hT : RTq X B (stT B j)) (hR : RTn X t K x) (hKj : K.length ≤ j) (hk : kT B (stT B j) = k) (hk1 : k ≤ 1) (h4 : ¬ ((k = 0 ∧ x.1.isSome = true) ∨ (k = 1 ∧ x.2.1.isSome = true))) (hn6 : ¬ 24 ≤ x.2.2.1) : CM 10 m_R_clause [.ref 244] X (ClP X t B j (pClause (tkT B) x j)) := by
  have hq := stT_le hB j
  have htr := tR_sm (q := stT B j) hB
  obtain ⟨h17, h18, hE, hKB, h26, hn, hn24, hC, hL0, hL1⟩ := id hR
  have hob := oB_le x
  have hT1 : (tkT B).1 j = k := hk
  have hh : k ≤ 1 → (oB x).testBit k = false := fun z => fls (fun y => h4 ((oB_h z).mp y))
  have hj := tk_300 hB (j := j) (by omega)
  have hw : (k = 0 ∧ decide (k = 0) = true) ∨ (k = 1 ∧ decide (k = 0) = false) := by
    have hk01 : k = 0 ∨ k = 1 := by omega
    rcases hk01 with rfl | rfl
    · exact Or.inl ⟨rfl, rfl⟩
    · exact Or.inr ⟨rfl, rfl⟩
  have hk01 : k = 0 ∨ k = 1 := by omega
  refine CM_of (L := [some (.ref 244), none, none, none, none]) 4 ok_R_clause (fun _ => Nat.le_of_ble_eq_true rfl) rfl ?_
  refine J_aload_n (i := 0) d_R_clause_0 rfl rfl ?_
  refine CV_I (av := []) d_R_clause_1 s_R_315 (M_rcv rfl (by decide) rfl) (S_R_sortOf hX hB hV hT hq) (by decide) rfl rfl (Nat.le_of_ble_eq_true rfl) ?_
  rw [hk, show soR k = nI k from if_pos (by omega)]
  refine J_istore_n (i := 1) (L1 := [some (.ref 244), some (.int (nI k)), none, none, none]) d_R_clause_4 rfl (by decide) rfl ?_
  refine J_iload_n (i := 1) d_R_clause_5 rfl rfl ?_
  refine N_if_ge (tgt := 11) d_R_clause_6 (by decide) (by omega) ?_
  refine J_iload_n (i := 1) d_R_clause_11 rfl rfl ?_
  refine J_iconst (v := nI 1) d_R_clause_12 rfl ?_
  refine N_icmp_gt (tgt := 29) d_R_clause_13 (by decide) (by omega) (by omega) (fun c13 => absurd c13 (by omega)) (fun c13 => ?_)
  refine J_aload_n (i := 0) d_R_clause_16 rfl rfl ?_
  refine M_get (x := (nI (oB x))) d_R_clause_17 f_R_318 rfl rfl h26 ?_
  refine J_iload_n (i := 1) d_R_clause_20 rfl rfl ?_
  refine CS_B (av := [.int (nI (oB x)), .int (nI k)]) d_R_clause_21 s_R_94 (S_R_has (by omega) (by omega)) (by decide) rfl rfl (Nat.le_of_ble_eq_true rfl) ?_
  rw [show (oB x).testBit k = false from hh (by omega)]
  refine B_if_eq (tgt := 29) d_R_clause_24 (by decide) (fun c24 => ?_) (fun c24 => absurd c24 (by decide))
  refine J_aload_n (i := 0) d_R_clause_29 rfl rfl ?_
  refine M_getR (b := 251) d_R_clause_30 f_R_28 rfl rfl rfl ?_
  refine J_aload_n (i := 0) d_R_clause_33 rfl rfl ?_
  refine M_get (x := (nI (681 * t))) d_R_clause_34 f_R_196 rfl rfl h17 ?_
  refine N_iald (x := (nI x.2.2.1)) d_R_clause_37 rfl (by omega) (ltL hX (a := 251) (n := 2724) (by decide) rfl (by omega)) hn ?_
  refine J_istore_n (i := 2) (L1 := [some (.ref 244), some (.int (nI k)), some (.int (nI x.2.2.1)), none, none]) d_R_clause_38 rfl (by decide) rfl ?_
  refine J_iload_n (i := 2) d_R_clause_39 rfl rfl ?_
  refine J_bipush (v := nI 24) d_R_clause_40 rfl ?_
  refine N_icmp_ne (tgt := 48) d_R_clause_42 (by decide) (by omega) (by omega) (fun c42 => ?_) (fun c42 => absurd c42 (by omega))
  refine J_iload_n (i := 1) d_R_clause_48 rfl rfl ?_
  refine J_iconst (v := nI 1) d_R_clause_49 rfl ?_
  refine N_icmp_gt (tgt := 65) d_R_clause_50 (by decide) (by omega) (by omega) (fun c50 => absurd c50 (by omega)) (fun c50 => ?_)
  refine J_aload_n (i := 0) d_R_clause_53 rfl rfl ?_
  refine J_dup d_R_clause_54 rfl ?_
  refine M_get (x := (nI (oB x))) d_R_clause_55 f_R_318 rfl rfl h26 ?_
  refine J_iconst (v := nI 1) d_R_clause_58 rfl ?_
  refine J_iload_n (i := 1) d_R_clause_59 rfl rfl ?_
  refine N_ishl d_R_clause_60 (by omega) ?_
  refine N_ior d_R_clause_61 ?_
  refine M_put d_R_clause_62 p_R_318 rfl rfl rfl rfl ?_
  refine J_aload_n (i := 0) d_R_clause_65 rfl rfl ?_
  refine J_iload_n (i := 1) d_R_clause_66 rfl rfl ?_
  refine M_put d_R_clause_67 p_R_210 rfl rfl rfl rfl ?_
  refine J_aload_n (i := 0) d_R_clause_70 rfl rfl ?_
  refine M_callV (av := []) d_R_clause_71 s_R_233 (M_rcv rfl (by decide) rfl) (S_R_nextToken (X := (pF (pF X 244 26 (nI ((oB x) ||| (1 <<< k)))) 244 19 (nI k))) hX hB ⟨hV.1, hV.2⟩ hT.2.1 (eN_le hB hq)) (by decide) rfl rfl (Nat.le_of_ble_eq_true rfl) (fun r1 Y1 hq1 => ?_)
  obtain ⟨rfl, hY1, ho1, hT1'⟩ := hq1
  obtain ⟨z1, z2, z3, z4, z5, z6, z7⟩ := cl_2 (X := X) (k := k) ht (show x.2.2.1 < 24 by omega) (fun b i h => (pF_x (fun z => h ⟨z.1, Or.inl z.2⟩)).trans (pF_x (fun z => h ⟨z.1, Or.inr z.2⟩))) rfl hY1 ho1 hT1'
  refine J_aload_n (i := 0) d_R_clause_74 rfl rfl ?_
  refine M_get (x := (nI (681 * t))) d_R_clause_75 f_R_196 rfl rfl ((z4 17 (Or.inl rfl)).trans h17) ?_
  refine J_iconst (v := nI 1) d_R_clause_78 rfl ?_
  refine N_iadd d_R_clause_79 ?_
  refine J_iconst (v := nI 3) d_R_clause_80 rfl ?_
  refine J_iload_n (i := 2) d_R_clause_81 rfl rfl ?_
  refine N_imul d_R_clause_82 ?_
  refine N_iadd d_R_clause_83 ?_
  refine J_istore_n (i := 3) (L1 := [some (.ref 244), some (.int (nI k)), some (.int (nI x.2.2.1)), some (.int (nI (((681 * t) + 1) + (3 * x.2.2.1)))), none]) d_R_clause_84 rfl (by decide) rfl ?_
  refine J_aload_n (i := 0) d_R_clause_85 rfl rfl ?_
  refine M_getR (b := 251) d_R_clause_86 f_R_28 rfl rfl rfl ?_
  refine J_iload_n (i := 3) d_R_clause_89 rfl rfl ?_
  refine J_iload_n (i := 1) d_R_clause_90 rfl rfl ?_
  refine N_iast d_R_clause_91 rfl (by decide) (by omega) (ltL hY1 (a := 251) (n := 2724) (by decide) rfl (by omega)) ?_
  refine J_aload_n (i := 0) d_R_clause_92 rfl rfl ?_
  refine J_iload_n (i := 1) d_R_clause_93 rfl rfl ?_
  refine J_iload_n (i := 3) d_R_clause_94 rfl rfl ?_
  have hV2 := RV_X z3 hV
  have hE2 : EC (pA Y1 251 ((Y1.2.1 251).set (681 * t + 1 + 3 * x.2.2.1) (nI k))) t K := EC_g (fun p h1 h2 => z7 p (by omega)) hE
  refine M_callV (av := [.int (nI k), .int (nI (681 * t + 1 + 3 * x.2.2.1))]) d_R_clause_95 s_R_321 (M_rcv rfl (by decide) rfl) (S_R_bodyL (w := decide (k = 0)) (so := k) (j := j + 1) (K := K) hB hV2 z1 z2 ht ((z5 19 (Or.inl rfl)).trans pF_at) hw ((z4 18 (Or.inr rfl)).trans h18) ((z4 17 (Or.inl rfl)).trans h17) hE2 hKB (by omega) (by omega) rfl (show x.2.2.1 < 24 by omega)) (by decide) rfl rfl (Nat.le_of_ble_eq_true rfl) (fun r2 Y2 hq2 => ?_)
  unfold LcP at hq2
  rcases hz : pSum (tkT B) (lev (tkT B) (decide (k = 0)) 8).1 (j + 1) with q1 | q1
  · rw [hz] at hq2
    obtain ⟨rfl, g0, g1, hY2, hT2, hX2⟩ := hq2
    refine J_istore (L1 := [some (.ref 244), some (.int (nI k)), some (.int (nI x.2.2.1)), some (.int (nI (((681 * t) + 1) + (3 * x.2.2.1)))), some (.int (nI q1.1))]) d_R_clause_98 (by decide) rfl ?_
    refine J_iload d_R_clause_100 rfl ?_
    refine N_if_eq (tgt := 108) d_R_clause_102 (by decide) (by omega) (fun c102 => absurd c102 g0) (fun c102 => ?_)
    refine J_iload d_R_clause_105 rfl ?_
    refine M_ir d_R_clause_107 rfl rfl ?_
    rw [pCl_b hT1 (by omega) h4 (by omega), pB_k hk1]
    rw [hz]
    exact ⟨rfl, g0, g1, hY2, hT2, offX_t z3 hX2⟩
  · rw [hz] at hq2
    obtain ⟨rfl, hY2, hT2, hQ2, hj2, hj3, L, hL, h182, hEL, hKBL, hKl, ca, cb⟩ := hq2
    have hX2 : offX t X Y2 := offX_t z3 (offX_Q (by omega) hQ2)
    have h172 : Y2.1 244 17 = nI (681 * t) := (hQ2.1 244 17 (by omega)).trans ((z4 17 (Or.inl rfl)).trans h17)
    have hcl : ∀ p, p < 681 * t + 73 → p ≠ (681 * t + 1 + 3 * x.2.2.1) + 1 → p ≠ (681 * t + 1 + 3 * x.2.2.1) + 2 → (Y2.2.1 251).getD p 0 = (((pA Y1 251 ((Y1.2.1 251).set (681 * t + 1 + 3 * x.2.2.1) (nI k)))).2.1 251).getD p 0 := fun p h1 h2 h3 => hQ2.2.2.2.2 p (Or.inl h1) h2 h3
    have hc0 : (Y2.2.1 251).getD (681 * t) 0 = nI x.2.2.1 := (hcl _ (by omega) (by omega) (by omega)).trans ((z7 _ (by omega)).trans hn)
    have htr2 := tR_sm (q := stT B q1.1) hB
    refine J_istore (L1 := [some (.ref 244), some (.int (nI k)), some (.int (nI x.2.2.1)), some (.int (nI (((681 * t) + 1) + (3 * x.2.2.1)))), some (.int (nI 0))]) d_R_clause_98 (by decide) rfl ?_
    refine J_iload d_R_clause_100 rfl ?_
    refine N_if_eq (tgt := 108) d_R_clause_102 (by decide) (by omega) (fun c102 => ?_) (fun c102 => absurd c102 (by decide))
    refine J_aload_n (i := 0) d_R_clause_108 rfl rfl ?_
    refine M_getR (b := 251) d_R_clause_109 f_R_28 rfl rfl rfl ?_
    refine J_aload_n (i := 0) d_R_clause_112 rfl rfl ?_
    refine M_get (x := (nI (681 * t))) d_R_clause_113 f_R_196 rfl rfl h172 ?_
    refine J_dup2 d_R_clause_116 rfl rfl ?_
    refine N_iald (x := (nI x.2.2.1)) d_R_clause_117 rfl (by omega) (ltL hY2 (a := 251) (n := 2724) (by decide) rfl (by omega)) hc0 ?_
    refine J_iconst (v := nI 1) d_R_clause_118 rfl ?_
    refine N_iadd d_R_clause_119 ?_
    refine N_iast d_R_clause_120 rfl (by decide) (by omega) (ltL hY2 (a := 251) (n := 2724) (by decide) rfl (by omega)) ?_
    refine J_aload_n (i := 0) d_R_clause_121 rfl rfl ?_
    refine M_get (x := (nI (tR B (stT B q1.1)))) d_R_clause_122 f_R_158 rfl rfl hT2.2.2.1 ?_
    refine J_bipush (v := nI 59) d_R_clause_125 rfl ?_
    refine N_icmp_eq (tgt := 132) d_R_clause_127 (by decide) (by omega) (by omega) (fun c127 => ?_) (fun c127 => ?_)
    · refine J_aload_n (i := 0) d_R_clause_132 rfl rfl ?_
      refine M_callV (av := []) d_R_clause_133 s_R_233 (M_rcv rfl (by decide) rfl) (S_R_nextToken (okS hY2 rfl) hB (RV_X (offX_t hX2 (offX_A (q := 681 * t) (by omega))) hV) hT2.2.1 (eN_le hB (stT_le hB q1.1))) (by decide) rfl rfl (Nat.le_of_ble_eq_true rfl) (fun r3 Y3 hq3 => ?_)
      obtain ⟨rfl, hY3, ho3, hT3⟩ := hq3
      refine J_iconst (v := nI 0) d_R_clause_136 rfl ?_
      refine M_ir d_R_clause_137 rfl rfl ?_
      rw [pCl_b hT1 (by omega) h4 (by omega), pB_k hk1]
      rw [hz]
      show ClP X t B j (bnd (pExp (tkT B) 42 q1.1) (fun j3 _ => .inr (j3, (addT x k (some q1.2) 0 0)))) _ _
      have k42 : kT B (stT B q1.1) = 42 := (sg_of hB (p := (59, 42)) (by decide)).mp c127
      have hj9 := tk_300 hB (j := q1.1) (by omega)
      rw [show pExp (tkT B) 42 q1.1 = .inr (q1.1 + 1, 0) from if_pos k42]
      have hl2 : (Y2.2.1 251).length = 2724 := hY2.1 251 (by decide)
      have e3 : Y3.2.1 251 = (Y2.2.1 251).set (681 * t) (nI (x.2.2.1 + 1)) := by rw [ho3.2.1, pA_at]
      refine ⟨rfl, hY3, hT3, offX_t hX2 (offX_t (offX_A (by omega)) (offX_N ho3)), show j < q1.1 + 1 by omega, show q1.1 + 1 ≤ 300 by omega, L ++ K, ?_, Nat.le_succ_of_le hKl⟩
      refine RTn_add hR (by omega) (by omega) ((ho3.1 244 17 (by omega)).trans (h172.trans h17.symm)) ((ho3.1 244 18 (by omega)).trans h182) (EC_g (fun p h1 h2 => by rw [e3, set_ne (by omega)]) hEL) hKBL ?_ (fun p h1 h2 => by rw [e3, set_ne (by omega), hcl p (by omega) (by omega) (by omega), z7 p (by omega)]) (by rw [e3, set_eq (by omega)]) (by rw [e3, set_ne (by omega), hcl _ (by omega) (by omega) (by omega), z6]) (fun z => by omega) (fun z => by omega) ⟨L, rfl⟩ (fun _ => ⟨fun z => ?_, fun z => ?_, q1.2, L, rfl, rfl, hL, by rw [e3, set_ne (by omega), ca], by rw [e3, set_ne (by omega), cb]⟩)
      · rw [ho3.1 244 26 (by omega), show (pA Y2 251 ((Y2.2.1 251).set (681 * t) (nI (x.2.2.1 + 1)))).1 244 26 = Y2.1 244 26 from rfl, hQ2.1 244 26 (by omega), show ((pA Y1 251 ((Y1.2.1 251).set (681 * t + 1 + 3 * x.2.2.1) (nI k)))).1 244 26 = Y1.1 244 26 from rfl, z5 26 (Or.inr rfl)]
        show nI (oB x ||| 1 <<< k) = _
        rcases hk01 with rfl | rfl
        · rw [oB_a0 (no_some (fun y => h4 (Or.inl ⟨rfl, y⟩)))]
        · rw [oB_a1 (no_some (fun y => h4 (Or.inr ⟨rfl, y⟩)))]
      · exact no_some (fun y => h4 (Or.inl ⟨z, y⟩))
      · exact no_some (fun y => h4 (Or.inr ⟨z, y⟩))
    · refine J_iconst (v := nI 1) d_R_clause_130 rfl ?_
      refine M_ir d_R_clause_131 rfl rfl ?_
      rw [pCl_b hT1 (by omega) h4 (by omega), pB_k hk1]
      rw [hz]
      show ClP X t B j (bnd (pExp (tkT B) 42 q1.1) (fun j3 _ => .inr (j3, (addT x k (some q1.2) 0 0)))) _ _
      rw [show pExp (tkT B) 42 q1.1 = .inl (1, q1.1) from if_neg (fun z => c127 ((sg_of hB (p := (59, 42)) (by decide)).mpr z))]
      exact ⟨rfl, show (1 : Nat) ≠ 0 by decide, show (1 : Nat) < 10 by decide, okS hY2 rfl, RTq_e hT2 (fun k _ _ => rfl) rfl, offX_t hX2 (offX_A (by omega))⟩

theorem S_R_clause_D {X : Mem} {t mm j k : Nat} {K : Kd} {B : Nat → Nat} {x : TX} (hB : okB B mm) (hV : RV X mm B) (hX : Ok X) (ht : t < 4) (hT : RTq X B (stT B j)) (hR : RTn X t K x) (hKj : K.length ≤ j) (hk : kT B (stT B j) = k) (h2 : 2 ≤ k) (h6 : k ≤ 6) (h4 : ¬ ((k = 0 ∧ x.1.isSome = true) ∨ (k = 1 ∧ x.2.1.isSome = true))) (hn6 : ¬ 24 ≤ x.2.2.1) : CM 10 m_R_clause [.ref 244] X (ClP X t B j (pClause (tkT B) x j)) := by
  have hq := stT_le hB j
  have htr := tR_sm (q := stT B j) hB
  obtain ⟨h17, h18, hE, hKB, h26, hn, hn24, hC, hL0, hL1⟩ := id hR
  have hob := oB_le x
  have hT1 : (tkT B).1 j = k := hk
  have hh : k ≤ 1 → (oB x).testBit k = false := fun z => fls (fun y => h4 ((oB_h z).mp y))
  refine CM_of (L := [some (.ref 244), none, none, none, none]) 4 ok_R_clause (fun _ => Nat.le_of_ble_eq_true rfl) rfl ?_
  refine J_aload_n (i := 0) d_R_clause_0 rfl rfl ?_
  refine CV_I (av := []) d_R_clause_1 s_R_315 (M_rcv rfl (by decide) rfl) (S_R_sortOf hX hB hV hT hq) (by decide) rfl rfl (Nat.le_of_ble_eq_true rfl) ?_
  rw [hk, show soR k = nI k from if_pos (by omega)]
  refine J_istore_n (i := 1) (L1 := [some (.ref 244), some (.int (nI k)), none, none, none]) d_R_clause_4 rfl (by decide) rfl ?_
  refine J_iload_n (i := 1) d_R_clause_5 rfl rfl ?_
  refine N_if_ge (tgt := 11) d_R_clause_6 (by decide) (by omega) ?_
  refine J_iload_n (i := 1) d_R_clause_11 rfl rfl ?_
  refine J_iconst (v := nI 1) d_R_clause_12 rfl ?_
  refine N_icmp_gt (tgt := 29) d_R_clause_13 (by decide) (by omega) (by omega) (fun c13 => ?_) (fun c13 => absurd c13 (by omega))
  refine J_aload_n (i := 0) d_R_clause_29 rfl rfl ?_
  refine M_getR (b := 251) d_R_clause_30 f_R_28 rfl rfl rfl ?_
  refine J_aload_n (i := 0) d_R_clause_33 rfl rfl ?_
  refine M_get (x := (nI (681 * t))) d_R_clause_34 f_R_196 rfl rfl h17 ?_
  refine N_iald (x := (nI x.2.2.1)) d_R_clause_37 rfl (by omega) (ltL hX (a := 251) (n := 2724) (by decide) rfl (by omega)) hn ?_
  refine J_istore_n (i := 2) (L1 := [some (.ref 244), some (.int (nI k)), some (.int (nI x.2.2.1)), none, none]) d_R_clause_38 rfl (by decide) rfl ?_
  refine J_iload_n (i := 2) d_R_clause_39 rfl rfl ?_
  refine J_bipush (v := nI 24) d_R_clause_40 rfl ?_
  refine N_icmp_ne (tgt := 48) d_R_clause_42 (by decide) (by omega) (by omega) (fun c42 => ?_) (fun c42 => absurd c42 (by omega))
  refine J_iload_n (i := 1) d_R_clause_48 rfl rfl ?_
  refine J_iconst (v := nI 1) d_R_clause_49 rfl ?_
  refine N_icmp_gt (tgt := 65) d_R_clause_50 (by decide) (by omega) (by omega) (fun c50 => ?_) (fun c50 => absurd c50 (by omega))
  refine J_aload_n (i := 0) d_R_clause_65 rfl rfl ?_
  refine J_iload_n (i := 1) d_R_clause_66 rfl rfl ?_
  refine M_put d_R_clause_67 p_R_210 rfl rfl rfl rfl ?_
  refine J_aload_n (i := 0) d_R_clause_70 rfl rfl ?_
  refine M_callV (av := []) d_R_clause_71 s_R_233 (M_rcv rfl (by decide) rfl) (S_R_nextToken (X := (pF X 244 19 (nI k))) hX hB ⟨hV.1, hV.2⟩ hT.2.1 (eN_le hB hq)) (by decide) rfl rfl (Nat.le_of_ble_eq_true rfl) (fun r1 Y1 hq1 => ?_)
  obtain ⟨rfl, hY1, ho1, hT1'⟩ := hq1
  obtain ⟨z1, z2, z3, z4, z5, z6, z7⟩ := cl_2 (X := X) (k := k) ht (show x.2.2.1 < 24 by omega) (fun b i h => pF_x (fun z => h ⟨z.1, Or.inl z.2⟩)) rfl hY1 ho1 hT1'
  refine J_aload_n (i := 0) d_R_clause_74 rfl rfl ?_
  refine M_get (x := (nI (681 * t))) d_R_clause_75 f_R_196 rfl rfl ((z4 17 (Or.inl rfl)).trans h17) ?_
  refine J_iconst (v := nI 1) d_R_clause_78 rfl ?_
  refine N_iadd d_R_clause_79 ?_
  refine J_iconst (v := nI 3) d_R_clause_80 rfl ?_
  refine J_iload_n (i := 2) d_R_clause_81 rfl rfl ?_
  refine N_imul d_R_clause_82 ?_
  refine N_iadd d_R_clause_83 ?_
  refine J_istore_n (i := 3) (L1 := [some (.ref 244), some (.int (nI k)), some (.int (nI x.2.2.1)), some (.int (nI (((681 * t) + 1) + (3 * x.2.2.1)))), none]) d_R_clause_84 rfl (by decide) rfl ?_
  refine J_aload_n (i := 0) d_R_clause_85 rfl rfl ?_
  refine M_getR (b := 251) d_R_clause_86 f_R_28 rfl rfl rfl ?_
  refine J_iload_n (i := 3) d_R_clause_89 rfl rfl ?_
  refine J_iload_n (i := 1) d_R_clause_90 rfl rfl ?_
  refine N_iast d_R_clause_91 rfl (by decide) (by omega) (ltL hY1 (a := 251) (n := 2724) (by decide) rfl (by omega)) ?_
  refine J_aload_n (i := 0) d_R_clause_92 rfl rfl ?_
  refine J_iload_n (i := 1) d_R_clause_93 rfl rfl ?_
  refine J_iload_n (i := 3) d_R_clause_94 rfl rfl ?_
  have hV2 := RV_X z3 hV
  refine M_callV (av := [.int (nI k), .int (nI (681 * t + 1 + 3 * x.2.2.1))]) d_R_clause_95 s_R_321 (M_rcv rfl (by decide) rfl) (S_R_bodyD (j := j + 1) (xc := (681 * t + 1 + 3 * x.2.2.1)) hB hV2 z1 z2 (by omega) h2 h6) (by decide) rfl rfl (Nat.le_of_ble_eq_true rfl) (fun r2 Y2 hq2 => ?_)
  unfold DdP at hq2
  rcases hz : pDeed (tkT B) k (j + 1) with q1 | q1
  · rw [hz] at hq2
    obtain ⟨rfl, g0, g1, hY2, hT2, hZ2⟩ := hq2
    refine J_istore (L1 := [some (.ref 244), some (.int (nI k)), some (.int (nI x.2.2.1)), some (.int (nI (((681 * t) + 1) + (3 * x.2.2.1)))), some (.int (nI q1.1))]) d_R_clause_98 (by decide) rfl ?_
    refine J_iload d_R_clause_100 rfl ?_
    refine N_if_eq (tgt := 108) d_R_clause_102 (by decide) (by omega) (fun c102 => absurd c102 g0) (fun c102 => ?_)
    refine J_iload d_R_clause_105 rfl ?_
    refine M_ir d_R_clause_107 rfl rfl ?_
    rw [pCl_b hT1 (by omega) h4 (by omega), pB_d h2]
    rw [hz]
    exact ⟨rfl, g0, g1, hY2, hT2, offX_t z3 (offX_Z (by omega) hZ2)⟩
  · rw [hz] at hq2
    obtain ⟨rfl, ⟨hY2, hT2, hZ2⟩, hj2, ca, cb⟩ := hq2
    have hX2 : offX t X Y2 := offX_t z3 (offX_Z (by omega) hZ2)
    have h172 : Y2.1 244 17 = nI (681 * t) := (hZ2.1 244 17 (by omega)).trans ((z4 17 (Or.inl rfl)).trans h17)
    have hcl : ∀ p, p ≠ (681 * t + 1 + 3 * x.2.2.1) + 1 → p ≠ (681 * t + 1 + 3 * x.2.2.1) + 2 → (Y2.2.1 251).getD p 0 = (((pA Y1 251 ((Y1.2.1 251).set (681 * t + 1 + 3 * x.2.2.1) (nI k)))).2.1 251).getD p 0 := fun p h2 h3 => hZ2.2.2.2.2 p h2 h3
    have hc0 : (Y2.2.1 251).getD (681 * t) 0 = nI x.2.2.1 := (hcl _ (by omega) (by omega)).trans ((z7 _ (by omega)).trans hn)
    have htr2 := tR_sm (q := stT B q1.1) hB
    refine J_istore (L1 := [some (.ref 244), some (.int (nI k)), some (.int (nI x.2.2.1)), some (.int (nI (((681 * t) + 1) + (3 * x.2.2.1)))), some (.int (nI 0))]) d_R_clause_98 (by decide) rfl ?_
    refine J_iload d_R_clause_100 rfl ?_
    refine N_if_eq (tgt := 108) d_R_clause_102 (by decide) (by omega) (fun c102 => ?_) (fun c102 => absurd c102 (by decide))
    refine J_aload_n (i := 0) d_R_clause_108 rfl rfl ?_
    refine M_getR (b := 251) d_R_clause_109 f_R_28 rfl rfl rfl ?_
    refine J_aload_n (i := 0) d_R_clause_112 rfl rfl ?_
    refine M_get (x := (nI (681 * t))) d_R_clause_113 f_R_196 rfl rfl h172 ?_
    refine J_dup2 d_R_clause_116 rfl rfl ?_
    refine N_iald (x := (nI x.2.2.1)) d_R_clause_117 rfl (by omega) (ltL hY2 (a := 251) (n := 2724) (by decide) rfl (by omega)) hc0 ?_
    refine J_iconst (v := nI 1) d_R_clause_118 rfl ?_
    refine N_iadd d_R_clause_119 ?_
    refine N_iast d_R_clause_120 rfl (by decide) (by omega) (ltL hY2 (a := 251) (n := 2724) (by decide) rfl (by omega)) ?_
    refine J_aload_n (i := 0) d_R_clause_121 rfl rfl ?_
    refine M_get (x := (nI (tR B (stT B q1.1)))) d_R_clause_122 f_R_158 rfl rfl hT2.2.2.1 ?_
    refine J_bipush (v := nI 59) d_R_clause_125 rfl ?_
    refine N_icmp_eq (tgt := 132) d_R_clause_127 (by decide) (by omega) (by omega) (fun c127 => ?_) (fun c127 => ?_)
    · refine J_aload_n (i := 0) d_R_clause_132 rfl rfl ?_
      refine M_callV (av := []) d_R_clause_133 s_R_233 (M_rcv rfl (by decide) rfl) (S_R_nextToken (okS hY2 rfl) hB (RV_X (offX_t hX2 (offX_A (q := 681 * t) (by omega))) hV) hT2.2.1 (eN_le hB (stT_le hB q1.1))) (by decide) rfl rfl (Nat.le_of_ble_eq_true rfl) (fun r3 Y3 hq3 => ?_)
      obtain ⟨rfl, hY3, ho3, hT3⟩ := hq3
      refine J_iconst (v := nI 0) d_R_clause_136 rfl ?_
      refine M_ir d_R_clause_137 rfl rfl ?_
      rw [pCl_b hT1 (by omega) h4 (by omega), pB_d h2]
      rw [hz]
      show ClP X t B j (bnd (pExp (tkT B) 42 q1.1) (fun j3 _ => .inr (j3, (addT x k none q1.2.1 q1.2.2)))) _ _
      have k42 : kT B (stT B q1.1) = 42 := (sg_of hB (p := (59, 42)) (by decide)).mp c127
      have hj9 := tk_300 hB (j := q1.1) (by omega)
      rw [show pExp (tkT B) 42 q1.1 = .inr (q1.1 + 1, 0) from if_pos k42]
      have hl2 : (Y2.2.1 251).length = 2724 := hY2.1 251 (by decide)
      have e3 : Y3.2.1 251 = (Y2.2.1 251).set (681 * t) (nI (x.2.2.1 + 1)) := by rw [ho3.2.1, pA_at]
      refine ⟨rfl, hY3, hT3, offX_t hX2 (offX_t (offX_A (by omega)) (offX_N ho3)), show j < q1.1 + 1 by omega, show q1.1 + 1 ≤ 300 by omega, K, ?_, show K.length ≤ q1.1 + 1 by omega⟩
      refine RTn_add hR (by omega) (by omega) ((ho3.1 244 17 (by omega)).trans (h172.trans h17.symm)) ?_ (EC_g (fun p h1 h2 => by rw [e3, set_ne (by omega), hcl p (by omega) (by omega), z7 p (by omega)]) hE) hKB ?_ (fun p h1 h2 => by rw [e3, set_ne (by omega), hcl p (by omega) (by omega), z7 p (by omega)]) (by rw [e3, set_eq (by omega)]) (by rw [e3, set_ne (by omega), hcl _ (by omega) (by omega), z6]) (fun _ => by rw [e3, set_ne (by omega), ca]) (fun z => by rw [e3, set_ne (by omega), cb z]) ⟨[], rfl⟩ (fun z => by omega)
      · rw [ho3.1 244 18 (by omega)]
        exact (hZ2.1 244 18 (by omega)).trans ((z4 18 (Or.inr rfl)).trans h18)
      · rw [ho3.1 244 26 (by omega), oB_d h2]
        exact (hZ2.1 244 26 (by omega)).trans ((z5 26 (Or.inr rfl)).trans h26)
    · refine J_iconst (v := nI 1) d_R_clause_130 rfl ?_
      refine M_ir d_R_clause_131 rfl rfl ?_
      rw [pCl_b hT1 (by omega) h4 (by omega), pB_d h2]
      rw [hz]
      show ClP X t B j (bnd (pExp (tkT B) 42 q1.1) (fun j3 _ => .inr (j3, (addT x k none q1.2.1 q1.2.2)))) _ _
      rw [show pExp (tkT B) 42 q1.1 = .inl (1, q1.1) from if_neg (fun z => c127 ((sg_of hB (p := (59, 42)) (by decide)).mpr z))]
      exact ⟨rfl, show (1 : Nat) ≠ 0 by decide, show (1 : Nat) < 10 by decide, okS hY2 rfl, RTq_e hT2 (fun k _ _ => rfl) rfl, offX_t hX2 (offX_A (by omega))⟩

theorem S_R_clause {X : Mem} {t mm j : Nat} {K : Kd} {B : Nat → Nat} {x : TX} (hB : okB B mm) (hV : RV X mm B) (hX : Ok X) (ht : t < 4) (hT : RTq X B (stT B j)) (hR : RTn X t K x) (hKj : K.length ≤ j) : CM 10 m_R_clause [.ref 244] X (ClP X t B j (pClause (tkT B) x j)) := by
  by_cases h6 : 6 < kT B (stT B j)
  · exact S_R_clause_A hB hV hX ht hT hR hKj rfl h6
  · by_cases h4 : ((kT B (stT B j) = 0 ∧ x.1.isSome = true) ∨ (kT B (stT B j) = 1 ∧ x.2.1.isSome = true))
    · exact S_R_clause_4 hB hV hX ht hT hR hKj rfl h4
    · by_cases hn : 24 ≤ x.2.2.1
      · exact S_R_clause_6 hB hV hX ht hT hR hKj rfl (by omega) h4 hn
      · by_cases hk : kT B (stT B j) ≤ 1
        · exact S_R_clause_L hB hV hX ht hT hR hKj rfl hk h4 hn
        · exact S_R_clause_D hB hV hX ht hT hR hKj rfl (by omega) (by omega) h4 hn
