def rawG (X : Mem) (b : Nat) : Nat → Int32 := fun k => if k = 0 then X.1 b 0 else if k = 1 then X.1 b 3 else if k = 2 then X.1 b 4 else if k = 3 then X.1 b 2 else X.1 b 5
theorem cpN_g {X : Mem} {a b : Nat} {g : Nat → Int32} (hN : CNow X b g) : cpN X a b (rawG X b) = cpN X a b g := by
  obtain ⟨h1, h2, h3, h4, h5, h6, _⟩ := hN
  have e0 : rawG X b 0 = g 0 := h2
  have e1 : rawG X b 1 = g 1 := h3
  have e2 : rawG X b 2 = g 2 := h4
  have e3 : rawG X b 3 = g 3 := h5
  have e4 : rawG X b 4 = g 4 := h6
  unfold cpN pF5
  rw [e0, e1, e2, e3, e4]
/-- a copy of what is now, whatever it is -/
theorem S_N_copyRaw {X : Mem} {a b : Nat} (hX : Ok X) (ha : kd a = 2) (hb : kd b = 2) (hab : b ≠ a) : CM 1 m_N_copyFrom [.ref a, .ref b] X (fun r Y => r = none ∧ Ok Y ∧ (∀ g, CNow X b g → CNow Y a g) ∧ offN a X Y) := CM.imp (S_N_copyFromL (g := rawG X b) hX ha hb hab rfl rfl rfl rfl rfl) (fun r Y h => by
  obtain ⟨h1, rfl⟩ := h
  have ho := cpN_o (b := b) (g := rawG X b) hX ha
  exact ⟨h1, ho.1, fun g hN => by rw [cpN_g hN]; exact (cpN_ok hX hN ha hab).2.1, ho.2⟩)
/-- beside the steps at D nothing is other -/
def offS (D : Nat) (X Y : Mem) : Prop := (∀ b, b < D + 4 ∨ D + 95 < b → (∀ k, Y.1 b k = X.1 b k) ∧ Y.2.1 b = X.2.1 b) ∧ Y.2.2 = X.2.2
theorem offS_t {D : Nat} {X Y Z : Mem} (h1 : offS D X Y) (h2 : offS D Y Z) : offS D X Z := ⟨fun b hb => ⟨fun k => ((h2.1 b hb).1 k).trans ((h1.1 b hb).1 k), (h2.1 b hb).2.trans (h1.1 b hb).2⟩, h2.2.trans h1.2⟩
theorem offS_N {D a : Nat} {X Y : Mem} (h : offN a X Y) (h1 : D + 4 ≤ a) (h2 : a + 2 ≤ D + 95) : offS D X Y := ⟨fun b hb => ⟨fun k => h.1 b (by omega) k, h.2.1 b (by omega) (by omega)⟩, h.2.2⟩
theorem lp_S_copyFrom_i {X0 : Mem} {Q : Option Value → Mem → Prop} (kx : ∀ Y : Mem, Ok Y → offS 118 X0 Y → Y.1 122 1 = X0.1 122 1 → Y.1 122 2 = X0.1 122 2 → (∀ j, j < 30 → ∀ g, CNow X0 (24 + 3 * j) g → CNow Y (124 + 3 * j) g) → JM 2 m_S_copyFrom Q 45 [some (.ref 122), some (.ref 22), some (.int (nI 30))] [] Y) : ∀ (k i : Nat) (Y : Mem), i + k = 30 → Ok Y → offS 118 X0 Y → Y.1 122 1 = X0.1 122 1 → Y.1 122 2 = X0.1 122 2 → (∀ j, j < i → ∀ g, CNow X0 (24 + 3 * j) g → CNow Y (124 + 3 * j) g) → JM 2 m_S_copyFrom Q 18 [some (.ref 122), some (.ref 22), some (.int (nI i))] [] Y := by
  intro k
  induction k with
  | zero =>
    intro i Y hi hY ho h1 h2 hc
    obtain rfl : i = 30 := by omega
    refine J_iload_n (i := 2) d_S_copyFrom_18 rfl rfl ?_
    refine J_bipush (v := nI 30) d_S_copyFrom_19 rfl ?_
    refine N_icmp_ge (tgt := 45) d_S_copyFrom_21 (by decide) (by omega) (by omega) (fun c21 => ?_) (fun c21 => absurd c21 (by decide))
    exact kx Y hY ho h1 h2 hc
  | succ k ih =>
    intro i Y hi hY ho h1 h2 hc
    refine J_iload_n (i := 2) d_S_copyFrom_18 rfl rfl ?_
    refine J_bipush (v := nI 30) d_S_copyFrom_19 rfl ?_
    refine N_icmp_ge (tgt := 45) d_S_copyFrom_21 (by decide) (by omega) (by omega) (fun c21 => absurd c21 (by omega)) (fun c21 => ?_)
    refine J_aload_n (i := 0) d_S_copyFrom_24 rfl rfl ?_
    refine M_getR (b := 123) d_S_copyFrom_25 f_S_11 rfl rfl rfl ?_
    refine J_iload_n (i := 2) d_S_copyFrom_28 rfl rfl ?_
    refine N_aald (b := (124 + 3 * i)) (t := 32) d_S_copyFrom_29 rfl (by decide) (by omega) (show i < 30 by omega) (st_rf2 i (by omega)).1 ?_
    refine J_aload_n (i := 1) d_S_copyFrom_30 rfl rfl ?_
    refine M_getR (b := 23) d_S_copyFrom_31 f_S_11 rfl rfl rfl ?_
    refine J_iload_n (i := 2) d_S_copyFrom_34 rfl rfl ?_
    refine N_aald (b := (24 + 3 * i)) (t := 32) d_S_copyFrom_35 rfl (by decide) (by omega) (show i < 30 by omega) (st_rf i (by omega)).1 ?_
    refine M_callV (av := [.ref (24 + 3 * i)]) d_S_copyFrom_36 s_S_25 (M_rcv (st_rf2 i (by omega)).2 (by decide) rfl) (S_N_copyRaw hY (st_rf2 i (by omega)).2 (st_rf i (by omega)).2 (by omega)) (by decide) rfl rfl (Nat.le_of_ble_eq_true rfl) (fun q Z hq => ?_)
    obtain ⟨rfl, hZ, hcN, hof⟩ := hq
    refine N_iinc (a := i) (c := 1) (L1 := [some (.ref 122), some (.ref 22), some (.int (nI (i + 1)))]) d_S_copyFrom_39 rfl rfl (by decide) rfl ?_
    refine J_goto (tgt := 18) d_S_copyFrom_42 (by decide) ?_
    refine ih (i + 1) Z (by omega) hZ (offS_t ho (offS_N hof (by omega) (by omega))) ((hof.1 122 (by omega) 1).trans h1) ((hof.1 122 (by omega) 2).trans h2) (fun j hj g hg => ?_)
    by_cases e : j = i
    · rw [e] at hg ⊢
      exact hcN g (CNow_on (fun k => (ho.1 _ (by omega)).1 k) (ho.1 _ (by omega)).2 (ho.1 _ (by omega)).2 hg)
    · exact CNow_on (fun k => hof.1 _ (by omega) k) (hof.2.1 _ (by omega) (by omega)) (hof.2.1 _ (by omega) (by omega)) (hc j (by omega) g hg)
theorem S_S_copyFrom_i {X : Mem} (hX : Ok X) : CM 2 m_S_copyFrom [.ref 122, .ref 22] X (fun r Y => r = none ∧ Ok Y ∧ offS 118 X Y ∧ Y.1 122 1 = X.1 22 1 ∧ Y.1 122 2 = X.1 22 2 ∧ ∀ j, j < 30 → ∀ g, CNow X (24 + 3 * j) g → CNow Y (124 + 3 * j) g) := by
  refine CM_of (L := [some (.ref 122), some (.ref 22), none]) 1 ok_S_copyFrom (fun _ => Nat.le_of_ble_eq_true rfl) rfl ?_
  refine J_aload_n (i := 0) d_S_copyFrom_0 rfl rfl ?_
  refine J_aload_n (i := 1) d_S_copyFrom_1 rfl rfl ?_
  refine M_get (x := (X.1 22 1)) d_S_copyFrom_2 f_S_22 rfl rfl rfl ?_
  refine M_put d_S_copyFrom_5 p_S_22 rfl rfl rfl rfl ?_
  refine J_aload_n (i := 0) d_S_copyFrom_8 rfl rfl ?_
  refine J_aload_n (i := 1) d_S_copyFrom_9 rfl rfl ?_
  refine M_get (x := (X.1 22 2)) d_S_copyFrom_10 f_S_18 rfl rfl rfl ?_
  refine M_put d_S_copyFrom_13 p_S_18 rfl rfl rfl rfl ?_
  refine J_iconst (v := nI 0) d_S_copyFrom_16 rfl ?_
  refine J_istore_n (i := 2) (L1 := [some (.ref 122), some (.ref 22), some (.int (nI 0))]) d_S_copyFrom_17 rfl (by decide) rfl ?_
  have hX2 : offS 118 X (pF (pF X 122 1 (X.1 22 1)) 122 2 (X.1 22 2)) := ⟨fun b hb => ⟨fun k => (pF_o (by omega)).trans (pF_o (by omega)), rfl⟩, rfl⟩
  refine lp_S_copyFrom_i (X0 := pF (pF X 122 1 (X.1 22 1)) 122 2 (X.1 22 2)) (fun Y hY ho h1 h2 hc => ?_) 30 0 _ rfl (okF (okF hX)) ⟨fun b hb => ⟨fun k => rfl, rfl⟩, rfl⟩ rfl rfl (fun j hj => by omega)
  refine M_vr d_S_copyFrom_45 rfl ?_
  exact ⟨rfl, hY, offS_t hX2 ho, h1.trans ((pF_k (by decide)).trans pF_at), h2.trans pF_at, fun j hj g hg => hc j hj g (CNow_on (X := X) (fun k => (pF_o (by omega)).trans (pF_o (by omega))) rfl rfl hg)⟩

theorem lp_S_copyFrom_b {X0 : Mem} {Q : Option Value → Mem → Prop} (kx : ∀ Y : Mem, Ok Y → offS 18 X0 Y → Y.1 22 1 = X0.1 22 1 → Y.1 22 2 = X0.1 22 2 → (∀ j, j < 30 → ∀ g, CNow X0 (124 + 3 * j) g → CNow Y (24 + 3 * j) g) → JM 2 m_S_copyFrom Q 45 [some (.ref 22), some (.ref 122), some (.int (nI 30))] [] Y) : ∀ (k i : Nat) (Y : Mem), i + k = 30 → Ok Y → offS 18 X0 Y → Y.1 22 1 = X0.1 22 1 → Y.1 22 2 = X0.1 22 2 → (∀ j, j < i → ∀ g, CNow X0 (124 + 3 * j) g → CNow Y (24 + 3 * j) g) → JM 2 m_S_copyFrom Q 18 [some (.ref 22), some (.ref 122), some (.int (nI i))] [] Y := by
  intro k
  induction k with
  | zero =>
    intro i Y hi hY ho h1 h2 hc
    obtain rfl : i = 30 := by omega
    refine J_iload_n (i := 2) d_S_copyFrom_18 rfl rfl ?_
    refine J_bipush (v := nI 30) d_S_copyFrom_19 rfl ?_
    refine N_icmp_ge (tgt := 45) d_S_copyFrom_21 (by decide) (by omega) (by omega) (fun c21 => ?_) (fun c21 => absurd c21 (by decide))
    exact kx Y hY ho h1 h2 hc
  | succ k ih =>
    intro i Y hi hY ho h1 h2 hc
    refine J_iload_n (i := 2) d_S_copyFrom_18 rfl rfl ?_
    refine J_bipush (v := nI 30) d_S_copyFrom_19 rfl ?_
    refine N_icmp_ge (tgt := 45) d_S_copyFrom_21 (by decide) (by omega) (by omega) (fun c21 => absurd c21 (by omega)) (fun c21 => ?_)
    refine J_aload_n (i := 0) d_S_copyFrom_24 rfl rfl ?_
    refine M_getR (b := 23) d_S_copyFrom_25 f_S_11 rfl rfl rfl ?_
    refine J_iload_n (i := 2) d_S_copyFrom_28 rfl rfl ?_
    refine N_aald (b := (24 + 3 * i)) (t := 32) d_S_copyFrom_29 rfl (by decide) (by omega) (show i < 30 by omega) (st_rf i (by omega)).1 ?_
    refine J_aload_n (i := 1) d_S_copyFrom_30 rfl rfl ?_
    refine M_getR (b := 123) d_S_copyFrom_31 f_S_11 rfl rfl rfl ?_
    refine J_iload_n (i := 2) d_S_copyFrom_34 rfl rfl ?_
    refine N_aald (b := (124 + 3 * i)) (t := 32) d_S_copyFrom_35 rfl (by decide) (by omega) (show i < 30 by omega) (st_rf2 i (by omega)).1 ?_
    refine M_callV (av := [.ref (124 + 3 * i)]) d_S_copyFrom_36 s_S_25 (M_rcv (st_rf i (by omega)).2 (by decide) rfl) (S_N_copyRaw hY (st_rf i (by omega)).2 (st_rf2 i (by omega)).2 (by omega)) (by decide) rfl rfl (Nat.le_of_ble_eq_true rfl) (fun q Z hq => ?_)
    obtain ⟨rfl, hZ, hcN, hof⟩ := hq
    refine N_iinc (a := i) (c := 1) (L1 := [some (.ref 22), some (.ref 122), some (.int (nI (i + 1)))]) d_S_copyFrom_39 rfl rfl (by decide) rfl ?_
    refine J_goto (tgt := 18) d_S_copyFrom_42 (by decide) ?_
    refine ih (i + 1) Z (by omega) hZ (offS_t ho (offS_N hof (by omega) (by omega))) ((hof.1 22 (by omega) 1).trans h1) ((hof.1 22 (by omega) 2).trans h2) (fun j hj g hg => ?_)
    by_cases e : j = i
    · rw [e] at hg ⊢
      exact hcN g (CNow_on (fun k => (ho.1 _ (by omega)).1 k) (ho.1 _ (by omega)).2 (ho.1 _ (by omega)).2 hg)
    · exact CNow_on (fun k => hof.1 _ (by omega) k) (hof.2.1 _ (by omega) (by omega)) (hof.2.1 _ (by omega) (by omega)) (hc j (by omega) g hg)
theorem S_S_copyFrom_b {X : Mem} (hX : Ok X) : CM 2 m_S_copyFrom [.ref 22, .ref 122] X (fun r Y => r = none ∧ Ok Y ∧ offS 18 X Y ∧ Y.1 22 1 = X.1 122 1 ∧ Y.1 22 2 = X.1 122 2 ∧ ∀ j, j < 30 → ∀ g, CNow X (124 + 3 * j) g → CNow Y (24 + 3 * j) g) := by
  refine CM_of (L := [some (.ref 22), some (.ref 122), none]) 1 ok_S_copyFrom (fun _ => Nat.le_of_ble_eq_true rfl) rfl ?_
  refine J_aload_n (i := 0) d_S_copyFrom_0 rfl rfl ?_
  refine J_aload_n (i := 1) d_S_copyFrom_1 rfl rfl ?_
  refine M_get (x := (X.1 122 1)) d_S_copyFrom_2 f_S_22 rfl rfl rfl ?_
  refine M_put d_S_copyFrom_5 p_S_22 rfl rfl rfl rfl ?_
  refine J_aload_n (i := 0) d_S_copyFrom_8 rfl rfl ?_
  refine J_aload_n (i := 1) d_S_copyFrom_9 rfl rfl ?_
  refine M_get (x := (X.1 122 2)) d_S_copyFrom_10 f_S_18 rfl rfl rfl ?_
  refine M_put d_S_copyFrom_13 p_S_18 rfl rfl rfl rfl ?_
  refine J_iconst (v := nI 0) d_S_copyFrom_16 rfl ?_
  refine J_istore_n (i := 2) (L1 := [some (.ref 22), some (.ref 122), some (.int (nI 0))]) d_S_copyFrom_17 rfl (by decide) rfl ?_
  have hX2 : offS 18 X (pF (pF X 22 1 (X.1 122 1)) 22 2 (X.1 122 2)) := ⟨fun b hb => ⟨fun k => (pF_o (by omega)).trans (pF_o (by omega)), rfl⟩, rfl⟩
  refine lp_S_copyFrom_b (X0 := pF (pF X 22 1 (X.1 122 1)) 22 2 (X.1 122 2)) (fun Y hY ho h1 h2 hc => ?_) 30 0 _ rfl (okF (okF hX)) ⟨fun b hb => ⟨fun k => rfl, rfl⟩, rfl⟩ rfl rfl (fun j hj => by omega)
  refine M_vr d_S_copyFrom_45 rfl ?_
  exact ⟨rfl, hY, offS_t hX2 ho, h1.trans ((pF_k (by decide)).trans pF_at), h2.trans pF_at, fun j hj g hg => hc j hj g (CNow_on (X := X) (fun k => (pF_o (by omega)).trans (pF_o (by omega))) rfl rfl hg)⟩

