def offQ (t xc : Nat) (X Y : Mem) : Prop := (∀ b k, ¬ (b = 244 ∧ ((12 ≤ k ∧ k ≤ 15) ∨ (k = 18 ∨ (22 ≤ k ∧ k ≤ 25)))) → Y.1 b k = X.1 b k) ∧ ((∀ b, b ≠ 251 → b ≠ 254 → b ≠ 255 → Y.2.1 b = X.2.1 b) ∧ (Y.2.2.1 = X.2.2.1 ∧ (Y.2.2.2.1 = X.2.2.2.1 ∧ ∀ p, (p < 681 * t + 73 ∨ 681 * t + 681 ≤ p) → p ≠ xc + 1 → p ≠ xc + 2 → (Y.2.1 251).getD p 0 = (X.2.1 251).getD p 0)))
theorem offQ_t {t xc : Nat} {X Y Z : Mem} (h1 : offQ t xc X Y) (h2 : offQ t xc Y Z) : offQ t xc X Z := ⟨fun b k q => (h2.1 b k q).trans (h1.1 b k q), fun b q1 q2 q3 => (h2.2.1 b q1 q2 q3).trans (h1.2.1 b q1 q2 q3), h2.2.2.1.trans h1.2.2.1, h2.2.2.2.1.trans h1.2.2.2.1, fun p q r s => (h2.2.2.2.2 p q r s).trans (h1.2.2.2.2 p q r s)⟩
theorem offQ_B {t c xc : Nat} {X Y : Mem} (h : offB t c X Y) : offQ t xc X Y := ⟨h.1, h.2.1, h.2.2.1, h.2.2.2.1, fun p q _ _ => h.2.2.2.2 p (by omega)⟩
theorem offQ_A {t xc q : Nat} {X : Mem} {v : Int32} (hq : q = xc + 1 ∨ q = xc + 2) : offQ t xc X (pA X 251 ((X.2.1 251).set q v)) := ⟨fun _ _ _ => rfl, fun a h1 h2 h3 => pA_b h1, rfl, rfl, fun p _ h1 h2 => by rw [pA_at, set_ne (by omega)]⟩
theorem offX_Q {t xc : Nat} {X Y : Mem} (hx : 681 * t ≤ xc ∧ xc + 2 < 681 * t + 681) (h : offQ t xc X Y) : offX t X Y := ⟨fun b k q => h.1 b k (fun z => q ⟨z.1, by have := z.2; omega⟩), h.2.1, h.2.2.1, h.2.2.2.1, fun p q => h.2.2.2.2 p (by omega) (by omega) (by omega)⟩
theorem offX_Z {t xc : Nat} {X Y : Mem} (hx : 681 * t ≤ xc ∧ xc + 2 < 681 * t + 681) (h : offZ xc X Y) : offX t X Y := ⟨fun b k q => h.1 b k (fun z => q ⟨z.1, by have := z.2; omega⟩), h.2.1, h.2.2.1, h.2.2.2.1, fun p q => h.2.2.2.2 p (by omega) (by omega)⟩
theorem EC_g {X Y : Mem} {t : Nat} : ∀ {K : Kd}, (∀ p, 681 * t + 73 ≤ p → p < 681 * t + 73 + 2 * K.length → (Y.2.1 251).getD p 0 = (X.2.1 251).getD p 0) → EC X t K → EC Y t K
  | [], _, _ => trivial
  | q :: K, h, ⟨h1, h2, h3⟩ => by
    have h : ∀ p, 681 * t + 73 ≤ p → p < 681 * t + 73 + 2 * (K.length + 1) → (Y.2.1 251).getD p 0 = (X.2.1 251).getD p 0 := h
    exact ⟨(h _ (by omega) (by omega)).trans h1, (h _ (by omega) (by omega)).trans h2, EC_g (fun p hp hp2 => h p hp (by omega)) h3⟩
/-- what a law's clause that was read leaves -/
def LcP (X : Mem) (t xc : Nat) (B : Nat → Nat) (j : Nat) (K : Kd) (z : PR SVl) (r : Option Value) (Y : Mem) : Prop := match z with
  | .inl q => r = some (.int (nI q.1)) ∧ (q.1 ≠ 0 ∧ (q.1 < 10 ∧ (Ok Y ∧ (RTq Y B (stT B q.2) ∧ offX t X Y))))
  | .inr q => r = some (.int (nI 0)) ∧ (Ok Y ∧ (RTq Y B (stT B q.1) ∧ (offQ t xc X Y ∧ (j ≤ q.1 ∧ (q.1 ≤ 300 ∧ ∃ L, CodV L q.2 ∧ (Y.1 244 18 = nI (L ++ K).length ∧ (EC Y t (L ++ K) ∧ (KB (L ++ K) ∧ ((L ++ K).length ≤ q.1 ∧ ((Y.2.1 251).getD (xc + 1) 0 = nI K.length ∧ (Y.2.1 251).getD (xc + 2) 0 = nI (L.length + K.length)))))))))))
theorem S_R_lawClause {X : Mem} {t xc mm so j nn : Nat} {K : Kd} {B : Nat → Nat} {w : Bool} (hB : okB B mm) (hV : RV X mm B) (hX : Ok X) (hT : RTq X B (stT B j)) (ht : t < 4) (hso : X.1 244 19 = nI so) (hw : (so = 0 ∧ w = true) ∨ (so = 1 ∧ w = false)) (h18 : X.1 244 18 = nI K.length) (h17 : X.1 244 17 = nI (681 * t)) (hE : EC X t K) (hKB : KB K) (hKj : K.length ≤ j) (hj : j ≤ 300) (hxc : xc = 681 * t + 1 + 3 * nn) (hnn : nn < 24) : CM 8 m_R_lawClause [.ref 244, .int (nI xc)] X (LcP X t xc B j K (pSum (tkT B) (lev (tkT B) w 8).1 j)) := by
  have hxl : xc + 2 < 681 * t + 73 := by omega
  refine CM_of (L := [some (.ref 244), some (.int (nI xc)), none]) 1 ok_R_lawClause (fun _ => Nat.le_of_ble_eq_true rfl) rfl ?_
  refine J_aload_n (i := 0) d_R_lawClause_0 rfl rfl ?_
  refine M_getR (b := 251) d_R_lawClause_1 f_R_28 rfl rfl rfl ?_
  refine J_iload_n (i := 1) d_R_lawClause_4 rfl rfl ?_
  refine J_iconst (v := nI 1) d_R_lawClause_5 rfl ?_
  refine N_iadd d_R_lawClause_6 ?_
  refine J_aload_n (i := 0) d_R_lawClause_7 rfl rfl ?_
  refine M_get (x := (nI K.length)) d_R_lawClause_8 f_R_199 rfl rfl h18 ?_
  refine N_iast d_R_lawClause_11 rfl (by decide) (by omega) (ltL hX (a := 251) (n := 2724) (by decide) rfl (by omega)) ?_
  refine J_aload_n (i := 0) d_R_lawClause_12 rfl rfl ?_
  have hsm := law_m (w := w) (tk_46 hB) j K
  have hE1 : EC (pA X 251 ((X.2.1 251).set (xc + 1) (nI K.length))) t K := EC_g (fun p h1 h2 => by rw [pA_at, set_ne (by omega)]) hE
  have hV1 : RV (pA X 251 ((X.2.1 251).set (xc + 1) (nI K.length))) mm B := ⟨hV.1, fun q hq => by rw [pA_b (by decide)]; exact hV.2 q hq⟩
  have hT1 : RTq (pA X 251 ((X.2.1 251).set (xc + 1) (nI K.length))) B (stT B j) := RTq_e hT (fun k _ _ => rfl) rfl
  rcases hz1 : pSum (tkT B) (lev (tkT B) w 8).1 j with q1 | q1
  · rw [hz1] at hsm
    refine M_callV (av := []) d_R_lawClause_13 s_R_295 (M_rcv rfl (by decide) rfl) (S_R_summed (X0 := (pA X 251 ((X.2.1 251).set (xc + 1) (nI K.length)))) (t := t) (K := K) (so := so) (w := w) hB hV1 ht hso hw (okS hX rfl) hT1 (offB_0 t K.length _) h18 h17 hE1 hKB hKj hj hsm) (by decide) rfl rfl (Nat.le_of_ble_eq_true rfl) (fun r1 Y1 hq1 => ?_)
    obtain ⟨u1, rfl, rfl, g0, g1, hF1⟩ := hq1
    refine J_istore_n (i := 2) (L1 := [some (.ref 244), some (.int (nI xc)), some (.int (nI q1.1))]) d_R_lawClause_16 rfl (by decide) rfl ?_
    refine J_aload_n (i := 0) d_R_lawClause_17 rfl rfl ?_
    refine M_getR (b := 251) d_R_lawClause_18 f_R_28 rfl rfl rfl ?_
    refine J_iload_n (i := 1) d_R_lawClause_21 rfl rfl ?_
    refine J_iconst (v := nI 2) d_R_lawClause_22 rfl ?_
    refine N_iadd d_R_lawClause_23 ?_
    refine J_aload_n (i := 0) d_R_lawClause_24 rfl rfl ?_
    refine M_get (x := (Y1.1 244 18)) d_R_lawClause_25 f_R_199 rfl rfl rfl ?_
    refine N_iast d_R_lawClause_28 rfl (by decide) (by omega) (ltL hF1.1 (a := 251) (n := 2724) (by decide) rfl (by omega)) ?_
    refine J_iload_n (i := 2) d_R_lawClause_29 rfl rfl ?_
    refine M_ir d_R_lawClause_30 rfl rfl ?_
    exact ⟨rfl, g0, g1, okS hF1.1 rfl, RTq_e hF1.2.1 (fun k _ _ => rfl) rfl, offX_Q (xc := xc) (by omega) (offQ_t (offQ_A (Or.inl rfl)) (offQ_t (offQ_B hF1.2.2) (offQ_A (Or.inr rfl))))⟩
  · rw [hz1] at hsm
    obtain ⟨hlt, L, hL, hsm⟩ := hsm
    refine M_callV (av := []) d_R_lawClause_13 s_R_295 (M_rcv rfl (by decide) rfl) (S_R_summed (X0 := (pA X 251 ((X.2.1 251).set (xc + 1) (nI K.length)))) (t := t) (K := K) (so := so) (w := w) hB hV1 ht hso hw (okS hX rfl) hT1 (offB_0 t K.length _) h18 h17 hE1 hKB hKj hj hsm) (by decide) rfl rfl (Nat.le_of_ble_eq_true rfl) (fun r1 Y1 hq1 => ?_)
    obtain ⟨u1, rfl, rfl, hF1, h181, hE2, hc0, hKl, hj3, hKB2⟩ := hq1
    refine J_istore_n (i := 2) (L1 := [some (.ref 244), some (.int (nI xc)), some (.int (nI 0))]) d_R_lawClause_16 rfl (by decide) rfl ?_
    refine J_aload_n (i := 0) d_R_lawClause_17 rfl rfl ?_
    refine M_getR (b := 251) d_R_lawClause_18 f_R_28 rfl rfl rfl ?_
    refine J_iload_n (i := 1) d_R_lawClause_21 rfl rfl ?_
    refine J_iconst (v := nI 2) d_R_lawClause_22 rfl ?_
    refine N_iadd d_R_lawClause_23 ?_
    refine J_aload_n (i := 0) d_R_lawClause_24 rfl rfl ?_
    refine M_get (x := (nI ((L ++ K).length))) d_R_lawClause_25 f_R_199 rfl rfl h181 ?_
    refine N_iast d_R_lawClause_28 rfl (by decide) (by omega) (ltL hF1.1 (a := 251) (n := 2724) (by decide) rfl (by omega)) ?_
    refine J_iload_n (i := 2) d_R_lawClause_29 rfl rfl ?_
    refine M_ir d_R_lawClause_30 rfl rfl ?_
    have hl : (X.2.1 251).length = 2724 := hX.1 251 (by decide)
    have hl1 : (Y1.2.1 251).length = 2724 := hF1.1.1 251 (by decide)
    have hlk : (L ++ K).length = L.length + K.length := List.length_append
    refine ⟨rfl, okS hF1.1 rfl, RTq_e hF1.2.1 (fun k _ _ => rfl) rfl, offQ_t (offQ_A (Or.inl rfl)) (offQ_t (offQ_B hF1.2.2) (offQ_A (Or.inr rfl))), Nat.le_of_lt hlt, hj3, L, hL, h181, EC_g (fun p h1 h2 => by rw [pA_at, set_ne (by omega)]) hE2, hKB2, hKl, ?_, ?_⟩
    · rw [pA_at, set_ne (by omega), hF1.2.2.2.2.2.2 _ (Or.inl (by omega)), pA_at, set_eq (by omega)]
    · rw [pA_at, set_eq (by omega), hlk]

theorem DdP_v {X0 Y : Mem} {xc j : Nat} {B : Nat → Nat} {two : Prop} {z : PR (Nat × Nat)} {r : Option Value} (h : DdP X0 xc B j two z r Y) : ∃ v : Int32, r = some (.int v) := by
  cases z with
  | inl f => exact ⟨_, h.1⟩
  | inr c => exact ⟨_, h.1⟩
theorem LcP_v {X Y : Mem} {t xc j : Nat} {B : Nat → Nat} {K : Kd} {z : PR SVl} {r : Option Value} (h : LcP X t xc B j K z r Y) : ∃ v : Int32, r = some (.int v) := by
  cases z with
  | inl f => exact ⟨_, h.1⟩
  | inr c => exact ⟨_, h.1⟩
theorem FgP_v {X0 X Y : Mem} {xc x : Nat} {B : Nat → Nat} {z : PR Nat} {r : Option Value} (h : FgP X0 xc B x X z r Y) : ∃ v : Int32, r = some (.int v) := by
  cases z with
  | inl f => exact ⟨_, h.1⟩
  | inr c => exact ⟨_, h.1⟩
theorem FgP_D {X0 X Y : Mem} {xc j lo hi : Nat} {B : Nat → Nat} {T : TS} {two : Prop} {r : Option Value} (h2 : ¬ two) (h : FgP X0 xc B (xc + 1) X (pNum T lo hi j) r Y) : DdP X0 xc B j two (bnd (pNum T lo hi j) (fun j2 v => .inr (j2, (v, 0)))) r Y := by
  cases hz : pNum T lo hi j with
  | inl f => rw [hz] at h; exact h
  | inr c =>
    rw [hz] at h
    have hj := pNum_j hz
    exact ⟨h.1, h.2.1, show j ≤ c.1 by omega, h.2.2.1, fun z => absurd z h2⟩
theorem DdP_2 {X0 Y : Mem} {xc j : Nat} {B : Nat → Nat} {two two2 : Prop} {z : PR (Nat × Nat)} {r : Option Value} (h2 : two2 → two) (h : DdP X0 xc B j two z r Y) : DdP X0 xc B j two2 z r Y := by
  cases z with
  | inl f => exact h
  | inr c => exact ⟨h.1, h.2.1, h.2.2.1, h.2.2.2.1, fun q => h.2.2.2.2 (h2 q)⟩
theorem S_R_body_2 {X : Mem} {xc mm j : Nat} {B : Nat → Nat} (hB : okB B mm) (hV : RV X mm B) (hX : Ok X) (hT : RTq X B (stT B j)) (hxc : xc + 2 < 2724) : CM 8 m_R_body [.ref 244, .int (nI 2), .int (nI xc)] X (DdP X xc B j (2 = 3 ∨ 2 = 4) (pDeed (tkT B) 2 j)) := by
  have hP : PsZ X xc B j X := ⟨hX, hT, offZ_0 xc X⟩
  refine CM_of (L := [some (.ref 244), some (.int (nI 2)), some (.int (nI xc))]) 0 ok_R_body (fun _ => Nat.le_of_ble_eq_true rfl) rfl ?_
  refine J_iload_n (i := 1) d_R_body_0 rfl rfl ?_
  refine J_tableIn (off := 35) (tgt := 36) d_R_body_1 (by decide) (by decide) (by decide) (by decide) ?_
  refine J_aload_n (i := 0) d_R_body_36 rfl rfl ?_
  refine J_iload_n (i := 2) d_R_body_37 rfl rfl ?_
  refine M_callV (av := [.int (nI xc)]) d_R_body_38 s_R_305 (M_rcv rfl (by decide) rfl) (S_R_drawClause hB hV hP hxc) (by decide) rfl rfl (Nat.le_of_ble_eq_true rfl) (fun r1 Y1 hq1 => ?_)
  obtain ⟨v1, rfl⟩ := DdP_v hq1
  refine M_ir d_R_body_41 rfl rfl ?_
  exact DdP_2 (fun z => by omega) hq1

theorem S_R_body_3 {X : Mem} {xc mm j : Nat} {B : Nat → Nat} (hB : okB B mm) (hV : RV X mm B) (hX : Ok X) (hT : RTq X B (stT B j)) (hxc : xc + 2 < 2724) : CM 8 m_R_body [.ref 244, .int (nI 3), .int (nI xc)] X (DdP X xc B j (3 = 3 ∨ 3 = 4) (pDeed (tkT B) 3 j)) := by
  have hP : PsZ X xc B j X := ⟨hX, hT, offZ_0 xc X⟩
  refine CM_of (L := [some (.ref 244), some (.int (nI 3)), some (.int (nI xc))]) 0 ok_R_body (fun _ => Nat.le_of_ble_eq_true rfl) rfl ?_
  refine J_iload_n (i := 1) d_R_body_0 rfl rfl ?_
  refine J_tableIn (off := 41) (tgt := 42) d_R_body_1 (by decide) (by decide) (by decide) (by decide) ?_
  refine J_aload_n (i := 0) d_R_body_42 rfl rfl ?_
  refine J_iload_n (i := 2) d_R_body_43 rfl rfl ?_
  refine J_bipush (v := nI 116) d_R_body_44 rfl ?_
  refine J_bipush (v := nI 111) d_R_body_46 rfl ?_
  refine CS_L (av := [.int (nI 116), .int (nI 111)]) d_R_body_48 s_R_180 (S_R_w2 (nI 116) (nI 111)) (by decide) rfl rfl (Nat.le_of_ble_eq_true rfl) ?_
  refine M_callV (av := [.int (nI xc), .long (wE2 (nI 116) (nI 111))]) d_R_body_51 s_R_308 (M_rcv rfl (by decide) rfl) (S_R_pair (i := 7) (two := (3 = 3 ∨ 3 = 4)) hB hV hP hxc (by decide) (w := (wE2 (nI 116) (nI 111))) (by decide +kernel)) (by decide) rfl rfl (Nat.le_of_ble_eq_true rfl) (fun r1 Y1 hq1 => ?_)
  obtain ⟨v1, rfl⟩ := DdP_v hq1
  refine M_ir d_R_body_54 rfl rfl ?_
  exact hq1

theorem S_R_body_4 {X : Mem} {xc mm j : Nat} {B : Nat → Nat} (hB : okB B mm) (hV : RV X mm B) (hX : Ok X) (hT : RTq X B (stT B j)) (hxc : xc + 2 < 2724) : CM 8 m_R_body [.ref 244, .int (nI 4), .int (nI xc)] X (DdP X xc B j (4 = 3 ∨ 4 = 4) (pDeed (tkT B) 4 j)) := by
  have hP : PsZ X xc B j X := ⟨hX, hT, offZ_0 xc X⟩
  refine CM_of (L := [some (.ref 244), some (.int (nI 4)), some (.int (nI xc))]) 0 ok_R_body (fun _ => Nat.le_of_ble_eq_true rfl) rfl ?_
  refine J_iload_n (i := 1) d_R_body_0 rfl rfl ?_
  refine J_tableIn (off := 54) (tgt := 55) d_R_body_1 (by decide) (by decide) (by decide) (by decide) ?_
  refine J_aload_n (i := 0) d_R_body_55 rfl rfl ?_
  refine J_iload_n (i := 2) d_R_body_56 rfl rfl ?_
  refine J_bipush (v := nI 111) d_R_body_57 rfl ?_
  refine J_bipush (v := nI 102) d_R_body_59 rfl ?_
  refine CS_L (av := [.int (nI 111), .int (nI 102)]) d_R_body_61 s_R_180 (S_R_w2 (nI 111) (nI 102)) (by decide) rfl rfl (Nat.le_of_ble_eq_true rfl) ?_
  refine M_callV (av := [.int (nI xc), .long (wE2 (nI 111) (nI 102))]) d_R_body_64 s_R_308 (M_rcv rfl (by decide) rfl) (S_R_pair (i := 8) (two := (4 = 3 ∨ 4 = 4)) hB hV hP hxc (by decide) (w := (wE2 (nI 111) (nI 102))) (by decide +kernel)) (by decide) rfl rfl (Nat.le_of_ble_eq_true rfl) (fun r1 Y1 hq1 => ?_)
  obtain ⟨v1, rfl⟩ := DdP_v hq1
  refine M_ir d_R_body_67 rfl rfl ?_
  exact hq1

theorem S_R_body_5 {X : Mem} {xc mm j : Nat} {B : Nat → Nat} (hB : okB B mm) (hV : RV X mm B) (hX : Ok X) (hT : RTq X B (stT B j)) (hxc : xc + 2 < 2724) : CM 8 m_R_body [.ref 244, .int (nI 5), .int (nI xc)] X (DdP X xc B j (5 = 3 ∨ 5 = 4) (pDeed (tkT B) 5 j)) := by
  have hP : PsZ X xc B j X := ⟨hX, hT, offZ_0 xc X⟩
  refine CM_of (L := [some (.ref 244), some (.int (nI 5)), some (.int (nI xc))]) 0 ok_R_body (fun _ => Nat.le_of_ble_eq_true rfl) rfl ?_
  refine J_iload_n (i := 1) d_R_body_0 rfl rfl ?_
  refine J_tableIn (off := 67) (tgt := 68) d_R_body_1 (by decide) (by decide) (by decide) (by decide) ?_
  refine J_aload_n (i := 0) d_R_body_68 rfl rfl ?_
  refine J_iload_n (i := 2) d_R_body_69 rfl rfl ?_
  refine J_iconst (v := nI 1) d_R_body_70 rfl ?_
  refine N_iadd d_R_body_71 ?_
  refine J_iconst (v := nI 0) d_R_body_72 rfl ?_
  refine J_bipush (v := nI 7) d_R_body_73 rfl ?_
  refine M_callV (av := [.int (nI (xc + 1)), .int (nI 0), .int (nI 7)]) d_R_body_75 s_R_301 (M_rcv rfl (by decide) rfl) (S_R_figure (lo := 0) (hi := 7) hB hV hP hxc (Or.inl rfl) (by decide) (by decide)) (by decide) rfl rfl (Nat.le_of_ble_eq_true rfl) (fun r1 Y1 hq1 => ?_)
  obtain ⟨v1, rfl⟩ := FgP_v hq1
  refine M_ir d_R_body_78 rfl rfl ?_
  exact FgP_D (by decide) hq1

theorem S_R_body_6 {X : Mem} {xc mm j : Nat} {B : Nat → Nat} (hB : okB B mm) (hV : RV X mm B) (hX : Ok X) (hT : RTq X B (stT B j)) (hxc : xc + 2 < 2724) : CM 8 m_R_body [.ref 244, .int (nI 6), .int (nI xc)] X (DdP X xc B j (6 = 3 ∨ 6 = 4) (pDeed (tkT B) 6 j)) := by
  have hP : PsZ X xc B j X := ⟨hX, hT, offZ_0 xc X⟩
  refine CM_of (L := [some (.ref 244), some (.int (nI 6)), some (.int (nI xc))]) 0 ok_R_body (fun _ => Nat.le_of_ble_eq_true rfl) rfl ?_
  refine J_iload_n (i := 1) d_R_body_0 rfl rfl ?_
  refine J_tableIn (off := 78) (tgt := 79) d_R_body_1 (by decide) (by decide) (by decide) (by decide) ?_
  refine J_aload_n (i := 0) d_R_body_79 rfl rfl ?_
  refine J_iload_n (i := 2) d_R_body_80 rfl rfl ?_
  refine J_iconst (v := nI 1) d_R_body_81 rfl ?_
  refine N_iadd d_R_body_82 ?_
  refine J_iconst (v := nI 1) d_R_body_83 rfl ?_
  refine J_bipush (v := nI 60) d_R_body_84 rfl ?_
  refine M_callV (av := [.int (nI (xc + 1)), .int (nI 1), .int (nI 60)]) d_R_body_86 s_R_301 (M_rcv rfl (by decide) rfl) (S_R_figure (lo := 1) (hi := 60) hB hV hP hxc (Or.inl rfl) (by decide) (by decide)) (by decide) rfl rfl (Nat.le_of_ble_eq_true rfl) (fun r1 Y1 hq1 => ?_)
  obtain ⟨v1, rfl⟩ := FgP_v hq1
  refine M_ir d_R_body_89 rfl rfl ?_
  exact FgP_D (by decide) hq1

theorem S_R_bodyD {X : Mem} {xc mm j : Nat} {B : Nat → Nat} (hB : okB B mm) (hV : RV X mm B) (hX : Ok X) (hT : RTq X B (stT B j)) (hxc : xc + 2 < 2724) {vb : Nat} (h2 : 2 ≤ vb) (h6 : vb ≤ 6) : CM 8 m_R_body [.ref 244, .int (nI vb), .int (nI xc)] X (DdP X xc B j (vb = 3 ∨ vb = 4) (pDeed (tkT B) vb j)) := by
  have h : vb = 2 ∨ vb = 3 ∨ vb = 4 ∨ vb = 5 ∨ vb = 6 := by omega
  rcases h with rfl | rfl | rfl | rfl | rfl
  · exact S_R_body_2 hB hV hX hT hxc
  · exact S_R_body_3 hB hV hX hT hxc
  · exact S_R_body_4 hB hV hX hT hxc
  · exact S_R_body_5 hB hV hX hT hxc
  · exact S_R_body_6 hB hV hX hT hxc
theorem S_R_bodyL {X : Mem} {t xc mm so j nn : Nat} {K : Kd} {B : Nat → Nat} {w : Bool} (hB : okB B mm) (hV : RV X mm B) (hX : Ok X) (hT : RTq X B (stT B j)) (ht : t < 4) (hso : X.1 244 19 = nI so) (hw : (so = 0 ∧ w = true) ∨ (so = 1 ∧ w = false)) (h18 : X.1 244 18 = nI K.length) (h17 : X.1 244 17 = nI (681 * t)) (hE : EC X t K) (hKB : KB K) (hKj : K.length ≤ j) (hj : j ≤ 300) (hxc : xc = 681 * t + 1 + 3 * nn) (hnn : nn < 24) : CM 9 m_R_body [.ref 244, .int (nI so), .int (nI xc)] X (LcP X t xc B j K (pSum (tkT B) (lev (tkT B) w 8).1 j)) := by
  have hsw : (nI so).toInt < 2 ∨ 6 < (nI so).toInt := by
    rw [nI_int (by omega)]
    omega
  refine CM_of (L := [some (.ref 244), some (.int (nI so)), some (.int (nI xc))]) 0 ok_R_body (fun _ => Nat.le_of_ble_eq_true rfl) rfl ?_
  refine J_iload_n (i := 1) d_R_body_0 rfl rfl ?_
  refine J_tableOut (tgt := 90) d_R_body_1 hsw (by decide) ?_
  refine J_aload_n (i := 0) d_R_body_90 rfl rfl ?_
  refine J_iload_n (i := 2) d_R_body_91 rfl rfl ?_
  refine M_callV (av := [.int (nI xc)]) d_R_body_92 s_R_312 (M_rcv rfl (by decide) rfl) (S_R_lawClause hB hV hX hT ht hso hw h18 h17 hE hKB hKj hj hxc hnn) (by decide) rfl rfl (Nat.le_of_ble_eq_true rfl) (fun r1 Y1 hq1 => ?_)
  obtain ⟨v1, rfl⟩ := LcP_v hq1
  refine M_ir d_R_body_95 rfl rfl ?_
  exact hq1

