def tk_ (B : Nat → Nat) (j : Nat) : Nat := kT B (stT B j)
/-- the tokens lie there: N of them, and the end -/
def TkV (X : Mem) (B : Nat → Nat) (N : Nat) : Prop := N ≤ 300 ∧ tk_ B N = 46 ∧ (∀ j, j < N → tk_ B j ≠ 46) ∧ TkC X B (N + 1)
def Bs (X : Mem) (B : Nat → Nat) (N T : Nat) : Prop := TkV X B N ∧ kd T = 5 ∧ X.2.2.2.1 = some T
/-- the reader at token j, nothing refused, c things written -/
def Lv (X : Mem) (B : Nat → Nat) (N T j c : Nat) (w : Bool) : Prop := Bs X B N T ∧ j ≤ N ∧ X.1 11 1 = nI j ∧ X.1 11 2 = nI (tk_ B j) ∧ (X.1 11 3 = 0 ↔ w = false) ∧ X.1 11 5 = nI 0 ∧ X.1 T 1 = nI c ∧ (c ≤ 300 ∧ X.1 11 6 = -1)
/-- the reader with a fault -/
def Dd (X : Mem) (B : Nat → Nat) (N T f p : Nat) : Prop := Bs X B N T ∧ (∃ j, j ≤ 300 ∧ X.1 11 1 = nI j) ∧ X.1 11 2 = nI 47 ∧ X.1 11 5 = nI f ∧ (1 ≤ f ∧ f ≤ 6) ∧ X.1 11 6 = nI p ∧ ∃ c, c ≤ 300 ∧ X.1 T 1 = nI c
/-- what reading a law leaves as it was -/
def offL (T : Nat) (X Y : Mem) : Prop := (∀ b k, ¬ (b = 11 ∧ (k = 1 ∨ k = 2 ∨ k = 5 ∨ k = 6)) → ¬ (b = T ∧ k = 1) → Y.1 b k = X.1 b k) ∧ (∀ b, b ≠ T + 1 → Y.2.1 b = X.2.1 b) ∧ Y.2.2 = X.2.2
theorem offL_0 (T : Nat) (X : Mem) : offL T X X := ⟨fun _ _ _ _ => rfl, fun _ _ => rfl, rfl⟩
theorem offL_t {T : Nat} {X Y Z : Mem} (h1 : offL T X Y) (h2 : offL T Y Z) : offL T X Z := ⟨fun b k q1 q2 => (h2.1 b k q1 q2).trans (h1.1 b k q1 q2), fun b q => (h2.2.1 b q).trans (h1.2.1 b q), h2.2.2.trans h1.2.2⟩
theorem tx_ne {T : Nat} (h : kd T = 5) : 223 < T ∧ T < 240 := ⟨(txt_f h).2.2.2.2.1, (txt_f h).2.2.2.2.2⟩
theorem pF_x {X : Mem} {a b k j : Nat} {v : Int32} (h : ¬ (b = a ∧ j = k)) : (pF X a k v).1 b j = X.1 b j := by
  by_cases e : b = a
  · exact pF_k (fun q => h ⟨e, q⟩)
  · exact pF_o e
theorem Bs_o {X Y : Mem} {B : Nat → Nat} {N T : Nat} (h : offL T X Y) (hb : Bs X B N T) : Bs Y B N T := by
  obtain ⟨⟨h1, h2, h3, h4⟩, h5, h6⟩ := hb
  have ht := tx_ne h5
  refine ⟨⟨h1, h2, h3, fun j hj => ?_⟩, h5, by rw [h.2.2]; exact h6⟩
  rw [h.2.1 13 (by omega), h.2.1 14 (by omega), h.2.1 15 (by omega)]
  exact h4 j hj
theorem Lv_N {X : Mem} {B : Nat → Nat} {N T j c : Nat} {w : Bool} (h : Lv X B N T j c w) (hk : tk_ B j ≠ 46) : j < N := by
  rcases Nat.lt_or_ge j N with q | q
  · exact q
  · have := h.2.1
    have e : j = N := by omega
    rw [e] at hk
    exact absurd h.1.1.2.1 hk
theorem tk_lt (B : Nat → Nat) (j : Nat) : tk_ B j < 48 := kT_lt B _
/-- one token taken -/
def adX (X : Mem) (B : Nat → Nat) (j : Nat) : Mem := pF (pF X 11 1 (nI (j + 1))) 11 2 (nI (tk_ B (j + 1)))
theorem ad_off {X : Mem} {B : Nat → Nat} {j T : Nat} : offL T X (adX X B j) := ⟨fun b k q1 _ => (pF_x (by omega)).trans (pF_x (by omega)), fun _ _ => rfl, rfl⟩
theorem ad_Lv {X : Mem} {B : Nat → Nat} {N T j c : Nat} {w : Bool} (h : Lv X B N T j c w) (hk : tk_ B j ≠ 46) : Lv (adX X B j) B N T (j + 1) c w := by
  have hN := Lv_N h hk
  obtain ⟨h1, h2, h3, h4, h5, h6, h7, h8⟩ := h
  have ht := tx_ne h1.2.1
  exact ⟨Bs_o (T := T) ad_off h1, hN, (pF_k (by decide)).trans pF_at, pF_at, (by rw [show (adX X B j).1 11 3 = X.1 11 3 from (pF_k (by decide)).trans (pF_k (by decide))]; exact h5), (pF_k (by decide)).trans ((pF_k (by decide)).trans h6), (pF_o (by omega)).trans ((pF_o (by omega)).trans h7), ⟨h8.1, (pF_k (by decide)).trans ((pF_k (by decide)).trans h8.2)⟩⟩
/-- refused -/
def rfX (X : Mem) (f p : Nat) : Mem := pF (pF (pF X 11 5 (nI f)) 11 6 (nI p)) 11 2 (nI 47)
theorem rf_off {X : Mem} {f p T : Nat} : offL T X (rfX X f p) := ⟨fun b k q1 _ => (pF_x (by omega)).trans ((pF_x (by omega)).trans (pF_x (by omega))), fun _ _ => rfl, rfl⟩
theorem rf_Dd {X : Mem} {B : Nat → Nat} {N T j c f p : Nat} {w : Bool} (h : Lv X B N T j c w) (h1 : 1 ≤ f) (h6 : f ≤ 6) : Dd (rfX X f p) B N T f p := by
  obtain ⟨g1, g2, g3, g4, g5, g6, g7, g8⟩ := h
  have ht := tx_ne g1.2.1
  have hN := g1.1.1
  exact ⟨Bs_o (T := T) rf_off g1, ⟨j, by omega, (pF_k (by decide)).trans ((pF_k (by decide)).trans ((pF_k (by decide)).trans g3))⟩, pF_at, (pF_k (by decide)).trans ((pF_k (by decide)).trans pF_at), ⟨h1, h6⟩, (pF_k (by decide)).trans pF_at, c, g8.1, (pF_o (by omega)).trans ((pF_o (by omega)).trans ((pF_o (by omega)).trans g7))⟩
theorem dd_47 {X : Mem} {B : Nat → Nat} {N T f p : Nat} (h : Dd X B N T f p) : pF X 11 2 (nI 47) = X := by rw [← h.2.2.1, pF_eta]
theorem S_D_advance {X : Mem} {B : Nat → Nat} {N T j c : Nat} {w : Bool} (hX : Ok X) (hL : Lv X B N T j c w) (hk : tk_ B j ≠ 46) : CM 0 m_D_advance [.ref 11] X (rV (adX X B j)) := by
  have hN := Lv_N hL hk
  have h300 := hL.1.1.1
  refine CM_of (L := [some (.ref 11)]) 0 ok_D_advance (fun _ => Nat.le_of_ble_eq_true rfl) rfl ?_
  refine J_aload_n (i := 0) d_D_advance_0 rfl rfl ?_
  refine M_get (x := (nI 0)) d_D_advance_1 f_D_43 rfl rfl hL.2.2.2.2.2.1 ?_
  refine N_if_ne (tgt := 43) d_D_advance_4 (by decide) (by omega) (fun c4 => absurd c4 (fun z => z rfl)) (fun c4 => ?_)
  refine J_aload_n (i := 0) d_D_advance_7 rfl rfl ?_
  refine M_get (x := (nI j)) d_D_advance_8 f_D_24 rfl rfl hL.2.2.1 ?_
  refine J_sipush (v := nI 300) d_D_advance_11 rfl ?_
  refine N_icmp_ge (tgt := 43) d_D_advance_14 (by decide) (by omega) (by omega) (fun c14 => absurd c14 (by omega)) (fun c14 => ?_)
  refine J_aload_n (i := 0) d_D_advance_17 rfl rfl ?_
  refine J_dup d_D_advance_18 rfl ?_
  refine M_get (x := (nI j)) d_D_advance_19 f_D_24 rfl rfl hL.2.2.1 ?_
  refine J_iconst (v := nI 1) d_D_advance_22 rfl ?_
  refine N_iadd d_D_advance_23 ?_
  refine M_put d_D_advance_24 p_D_24 rfl rfl rfl rfl ?_
  refine J_aload_n (i := 0) d_D_advance_27 rfl rfl ?_
  refine J_aload_n (i := 0) d_D_advance_28 rfl rfl ?_
  refine M_getR (b := 12) d_D_advance_29 f_D_14 rfl rfl rfl ?_
  refine M_getR (b := 13) d_D_advance_32 f_D_28 rfl rfl rfl ?_
  refine J_aload_n (i := 0) d_D_advance_35 rfl rfl ?_
  refine M_get (x := (nI (j + 1))) d_D_advance_36 f_D_24 rfl rfl rfl ?_
  refine N_iald (x := (nI (tk_ B (j + 1)))) d_D_advance_39 rfl (by omega) (ltL (okF hX) (a := 13) (n := 301) (by decide) rfl (by omega)) (hL.1.1.2.2.2 (j + 1) (by omega)).1 ?_
  refine M_put d_D_advance_40 p_D_32 rfl rfl rfl rfl ?_
  refine M_vr d_D_advance_43 rfl ?_
  exact ⟨rfl, rfl⟩

theorem S_D_advance_d {X : Mem} {B : Nat → Nat} {N T f p : Nat} (hX : Ok X) (hD : Dd X B N T f p) : CM 0 m_D_advance [.ref 11] X (rV X) := by
  have hf := hD.2.2.2.2.1
  refine CM_of (L := [some (.ref 11)]) 0 ok_D_advance (fun _ => Nat.le_of_ble_eq_true rfl) rfl ?_
  refine J_aload_n (i := 0) d_D_advance_0 rfl rfl ?_
  refine M_get (x := (nI f)) d_D_advance_1 f_D_43 rfl rfl hD.2.2.2.1 ?_
  refine N_if_ne (tgt := 43) d_D_advance_4 (by decide) (by omega) (fun c4 => ?_) (fun c4 => absurd c4 (by omega))
  refine M_vr d_D_advance_43 rfl ?_
  exact ⟨rfl, rfl⟩

theorem S_D_refuse {X : Mem} {B : Nat → Nat} {N T j c : Nat} {w : Bool} (hX : Ok X) (hL : Lv X B N T j c w) {f : Nat} : CM 0 m_D_refuse [.ref 11, .int (nI f)] X (rV (rfX X f (stT B j))) := by
  have h300 := hL.1.1.1
  have hjN := hL.2.1
  refine CM_of (L := [some (.ref 11), some (.int (nI f))]) 0 ok_D_refuse (fun _ => Nat.le_of_ble_eq_true rfl) rfl ?_
  refine J_aload_n (i := 0) d_D_refuse_0 rfl rfl ?_
  refine M_get (x := (nI 0)) d_D_refuse_1 f_D_43 rfl rfl hL.2.2.2.2.2.1 ?_
  refine N_if_ne (tgt := 28) d_D_refuse_4 (by decide) (by omega) (fun c4 => absurd c4 (fun z => z rfl)) (fun c4 => ?_)
  refine J_aload_n (i := 0) d_D_refuse_7 rfl rfl ?_
  refine J_iload_n (i := 1) d_D_refuse_8 rfl rfl ?_
  refine M_put d_D_refuse_9 p_D_43 rfl rfl rfl rfl ?_
  refine J_aload_n (i := 0) d_D_refuse_12 rfl rfl ?_
  refine J_aload_n (i := 0) d_D_refuse_13 rfl rfl ?_
  refine M_getR (b := 12) d_D_refuse_14 f_D_14 rfl rfl rfl ?_
  refine M_getR (b := 14) d_D_refuse_17 f_D_52 rfl rfl rfl ?_
  refine J_aload_n (i := 0) d_D_refuse_20 rfl rfl ?_
  refine M_get (x := (nI j)) d_D_refuse_21 f_D_24 rfl rfl ((pF_k (by decide)).trans hL.2.2.1) ?_
  refine N_iald (x := (nI (stT B j))) d_D_refuse_24 rfl (by omega) (ltL hX (a := 14) (n := 301) (by decide) rfl (by omega)) (hL.1.1.2.2.2 j (by omega)).2.1 ?_
  refine M_put d_D_refuse_25 p_D_46 rfl rfl rfl rfl ?_
  refine J_aload_n (i := 0) d_D_refuse_28 rfl rfl ?_
  refine J_bipush (v := nI 47) d_D_refuse_29 rfl ?_
  refine M_put d_D_refuse_31 p_D_32 rfl rfl rfl rfl ?_
  refine M_vr d_D_refuse_34 rfl ?_
  exact ⟨rfl, rfl⟩

theorem S_D_refuse_d {X : Mem} {B : Nat → Nat} {N T f p : Nat} (hX : Ok X) (hD : Dd X B N T f p) {g : Nat} : CM 0 m_D_refuse [.ref 11, .int (nI g)] X (rV X) := by
  have hf := hD.2.2.2.2.1
  refine CM_of (L := [some (.ref 11), some (.int (nI g))]) 0 ok_D_refuse (fun _ => Nat.le_of_ble_eq_true rfl) rfl ?_
  refine J_aload_n (i := 0) d_D_refuse_0 rfl rfl ?_
  refine M_get (x := (nI f)) d_D_refuse_1 f_D_43 rfl rfl hD.2.2.2.1 ?_
  refine N_if_ne (tgt := 28) d_D_refuse_4 (by decide) (by omega) (fun c4 => ?_) (fun c4 => absurd c4 (by omega))
  refine J_aload_n (i := 0) d_D_refuse_28 rfl rfl ?_
  refine J_bipush (v := nI 47) d_D_refuse_29 rfl ?_
  refine M_put d_D_refuse_31 p_D_32 rfl rfl rfl rfl ?_
  refine M_vr d_D_refuse_34 rfl ?_
  exact ⟨rfl, dd_47 hD⟩

