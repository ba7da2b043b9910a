theorem pA_b {X : Mem} {a b : Nat} {l : List Int32} (h : b ≠ a) : (pA X a l).2.1 b = X.2.1 b := if_neg h
/-- what reading leaves as it was -/
def offB (t c : Nat) (X Y : Mem) : Prop := (∀ b k, ¬ (b = 244 ∧ ((12 ≤ k ∧ k ≤ 15) ∨ (k = 18 ∨ (22 ≤ k ∧ k ≤ 25)))) → Y.1 b k = X.1 b k) ∧ ((∀ b, b ≠ 251 → b ≠ 254 → b ≠ 255 → Y.2.1 b = X.2.1 b) ∧ (Y.2.2.1 = X.2.2.1 ∧ (Y.2.2.2.1 = X.2.2.2.1 ∧ ∀ p, (p < 681 * t + 73 + 2 * c ∨ 681 * t + 681 ≤ p) → (Y.2.1 251).getD p 0 = (X.2.1 251).getD p 0)))
theorem offB_0 (t c : Nat) (X : Mem) : offB t c X X := ⟨fun _ _ _ => rfl, fun _ _ _ _ => rfl, rfl, rfl, fun _ _ => rfl⟩
theorem offB_t {t c c2 : Nat} {X Y Z : Mem} (h1 : offB t c X Y) (h2 : offB t c2 Y Z) (hc : c ≤ c2) : offB t c X Z := ⟨fun b k q => (h2.1 b k q).trans (h1.1 b k q), fun b q1 q2 q3 => (h2.2.1 b q1 q2 q3).trans (h1.2.1 b q1 q2 q3), h2.2.2.1.trans h1.2.2.1, h2.2.2.2.1.trans h1.2.2.2.1, fun p q => (h2.2.2.2.2 p (by omega)).trans (h1.2.2.2.2 p q)⟩
theorem offB_M {t c : Nat} {X Y : Mem} (h : offM t c X Y) : offB t c X Y := ⟨fun b k q => h.1 b k (fun z => q ⟨z.1, by have := z.2; omega⟩), fun b h1 _ _ => h.2.1 b h1, congrArg (fun z => z.1) h.2.2.1, congrArg (fun z => z.2.1) h.2.2.1, h.2.2.2⟩
theorem offB_N {t c : Nat} {X Y : Mem} (h : offNx X Y) : offB t c X Y := ⟨fun b k q => h.1 b k (fun z => q ⟨z.1, by have := z.2; omega⟩), fun b _ _ _ => congrFun h.2.1 b, h.2.2.1, h.2.2.2, fun p _ => by rw [h.2.1]⟩
theorem offB_F {t c k : Nat} {X : Mem} {v : Int32} (hk : (12 ≤ k ∧ k ≤ 15) ∨ (k = 18 ∨ (22 ≤ k ∧ k ≤ 25))) : offB t c X (pF X 244 k v) := ⟨fun b j q => pF_x (fun z => q ⟨z.1, by rw [z.2]; exact hk⟩), fun _ _ _ _ => rfl, rfl, rfl, fun _ _ => rfl⟩
theorem offB_A {t c b : Nat} {X : Mem} {l : List Int32} (hb : b = 254 ∨ b = 255) : offB t c X (pA X b l) := ⟨fun _ _ _ => rfl, fun a h1 h2 h3 => if_neg (by omega), rfl, rfl, fun p _ => by rw [show (pA X b l).2.1 251 = X.2.1 251 from if_neg (by omega)]⟩
theorem RV_B {t c m : Nat} {X Y : Mem} {B : Nat → Nat} (h : offB t c X Y) (hV : RV X m B) : RV Y m B := ⟨(h.1 244 9 (by omega)).trans hV.1, fun q hq => by rw [h.2.1 253 (by decide) (by decide) (by decide)]; exact hV.2 q hq⟩
theorem RTq_e {X Y : Mem} {B : Nat → Nat} {q : Nat} (h : RTq X B q) (e : ∀ k, 12 ≤ k → k ≤ 15 → Y.1 244 k = X.1 244 k) (ew : Y.2.2.2.2 = X.2.2.2.2) : RTq Y B q := ⟨(e 13 (by decide) (by decide)).trans h.1, (e 12 (by decide) (by decide)).trans h.2.1, (e 14 (by decide) (by decide)).trans h.2.2.1, fun z => (e 15 (by decide) (by decide)).trans (h.2.2.2.1 z), fun z => ew.trans (h.2.2.2.2 z)⟩
theorem PL_u {X Y : Mem} : ∀ {P : List Nat}, (∀ p, p < P.length → (Y.2.1 254).getD p 0 = (X.2.1 254).getD p 0) → PL X P → PL Y P
  | [], _, _ => trivial
  | a :: P, h, ⟨h1, h2, h3⟩ => by
    have h : ∀ p, p < P.length + 1 → (Y.2.1 254).getD p 0 = (X.2.1 254).getD p 0 := h
    exact ⟨(h _ (by omega)).trans h1, h2, PL_u (fun p hp => h p (by omega)) h3⟩
/-- the machine lies there, token q is at hand -/
def MN (X0 : Mem) (t c0 : Nat) (B : Nat → Nat) (q : Nat) (P : List Nat) (m : Nat) (K : Kd) (X : Mem) : Prop := Ok X ∧ (RTq X B q ∧ (MSR X t P m K ∧ offB t c0 X0 X))
def FL (X0 : Mem) (t c0 : Nat) (B : Nat → Nat) (j : Nat) (X : Mem) : Prop := Ok X ∧ (RTq X B (stT B j) ∧ offB t c0 X0 X)
def MM (X0 : Mem) (t c0 : Nat) (B : Nat → Nat) (c : MC) (X : Mem) : Prop := MN X0 t c0 B (stT B c.1) c.2.1 c.2.2.1 c.2.2.2.2 X ∧ X.1 244 24 = b2i c.2.2.2.1
theorem MN_nx {X0 X : Mem} {t c0 q : Nat} {B : Nat → Nat} {P : List Nat} {m : Nat} {K : Kd} {Y : Mem} {q' : Nat} (h : MN X0 t c0 B q P m K X) (hY : Ok Y) (ho : offNx X Y) (hT : RTq Y B q') : MN X0 t c0 B q' P m K Y ∧ Y.1 244 24 = X.1 244 24 := by
  obtain ⟨h1, h2, ⟨⟨g22, gP⟩, g23, g18, g17, g⟩, h4⟩ := h
  refine ⟨⟨hY, hT, ⟨⟨(ho.1 244 22 (by omega)).trans g22, PL_e (congrFun ho.2.1 254) gP⟩, (ho.1 244 23 (by omega)).trans g23, (ho.1 244 18 (by omega)).trans g18, (ho.1 244 17 (by omega)).trans g17, EC_e (fun p _ => by rw [ho.2.1]) g⟩, offB_t h4 (offB_N (c := c0) ho) (Nat.le_refl _)⟩, ho.1 244 24 (by omega)⟩
theorem MN_24 {X0 X : Mem} {t c0 q : Nat} {B : Nat → Nat} {P : List Nat} {m : Nat} {K : Kd} {v : Int32} (h : MN X0 t c0 B q P m K X) : MN X0 t c0 B q P m K (pF X 244 24 v) := by
  obtain ⟨h1, h2, ⟨⟨g22, gP⟩, g23, g18, g17, g⟩, h4⟩ := h
  exact ⟨okF h1, RTq_e h2 (fun k _ _ => pF_k (by omega)) rfl, ⟨⟨(pF_k (by decide)).trans g22, PL_e (X := X) (Y := pF X 244 24 v) rfl gP⟩, (pF_k (by decide)).trans g23, (pF_k (by decide)).trans g18, (pF_k (by decide)).trans g17, EC_e (X := X) (Y := pF X 244 24 v) (fun _ _ => rfl) g⟩, offB_t h4 (offB_F (c := c0) (by decide)) (Nat.le_refl _)⟩
theorem MN_23 {X0 X : Mem} {t c0 q : Nat} {B : Nat → Nat} {P : List Nat} {m : Nat} {K : Kd} {n : Nat} (h : MN X0 t c0 B q P m K X) : MN X0 t c0 B q P n K (pF X 244 23 (nI n)) := by
  obtain ⟨h1, h2, ⟨⟨g22, gP⟩, g23, g18, g17, g⟩, h4⟩ := h
  exact ⟨okF h1, RTq_e h2 (fun k _ _ => pF_k (by omega)) rfl, ⟨⟨(pF_k (by decide)).trans g22, PL_e (X := X) (Y := pF X 244 23 (nI n)) rfl gP⟩, pF_at, (pF_k (by decide)).trans g18, (pF_k (by decide)).trans g17, EC_e (X := X) (Y := pF X 244 23 (nI n)) (fun _ _ => rfl) g⟩, offB_t h4 (offB_F (c := c0) (by decide)) (Nat.le_refl _)⟩
theorem MN_push {X0 X : Mem} {t c0 q : Nat} {B : Nat → Nat} {P : List Nat} {m : Nat} {K : Kd} {a : Nat} (h : MN X0 t c0 B q P m K X) (ha : a < 64) (hl : P.length < 150) : MN X0 t c0 B q (a :: P) m K (pF (pA X 254 ((X.2.1 254).set P.length (nI a))) 244 22 (nI (P.length + 1))) := by
  obtain ⟨h1, h2, ⟨⟨g22, gP⟩, g23, g18, g17, g⟩, h4⟩ := h
  have hl2 : (X.2.1 254).length = 160 := h1.1 254 (by decide)
  have e : ∀ v : Int32, (pF (pA X 254 ((X.2.1 254).set P.length (nI a))) 244 22 v).2.1 254 = (X.2.1 254).set P.length (nI a) := fun v => pA_at
  have e2 : (pF (pA X 254 ((X.2.1 254).set P.length (nI a))) 244 22 (nI (P.length + 1))).2.1 251 = X.2.1 251 := pA_b (by decide)
  refine ⟨okF (okS h1 rfl), RTq_e h2 (fun k _ _ => pF_k (by omega)) rfl, ⟨⟨pF_at, ?_, ha, PL_u (fun p hp => ?_) gP⟩, (pF_k (by decide)).trans g23, (pF_k (by decide)).trans g18, (pF_k (by decide)).trans g17, EC_e (fun p _ => by rw [e2]) g⟩, offB_t h4 (offB_t (offB_A (c := c0) (Or.inl rfl)) (offB_F (c := c0) (by decide)) (Nat.le_refl _)) (Nat.le_refl _)⟩
  · rw [e, set_eq (by omega)]
  · rw [e, set_ne (by omega)]
theorem MN_top {X0 X : Mem} {t c0 q : Nat} {B : Nat → Nat} {P : List Nat} {m a b : Nat} {K : Kd} (h : MN X0 t c0 B q (a :: P) m K X) (hb : b < 64) (hl : P.length < 150) : MN X0 t c0 B q (b :: P) m K (pA X 254 ((X.2.1 254).set P.length (nI b))) := by
  obtain ⟨h1, h2, ⟨⟨g22, k1, k2, gP⟩, g23, g18, g17, g⟩, h4⟩ := h
  have hl2 : (X.2.1 254).length = 160 := h1.1 254 (by decide)
  have e : (pA X 254 ((X.2.1 254).set P.length (nI b))).2.1 254 = (X.2.1 254).set P.length (nI b) := pA_at
  have e2 : (pA X 254 ((X.2.1 254).set P.length (nI b))).2.1 251 = X.2.1 251 := pA_b (by decide)
  refine ⟨okS h1 rfl, RTq_e h2 (fun k _ _ => rfl) rfl, ⟨⟨g22, ?_, hb, PL_u (fun p hp => ?_) gP⟩, g23, g18, g17, EC_e (fun p _ => by rw [e2]) g⟩, offB_t h4 (offB_A (c := c0) (Or.inl rfl)) (Nat.le_refl _)⟩
  · rw [e, set_eq (by omega)]
  · rw [e, set_ne (by omega)]
theorem MN_pop {X0 X : Mem} {t c0 q : Nat} {B : Nat → Nat} {P : List Nat} {m a : Nat} {K : Kd} (h : MN X0 t c0 B q (a :: P) m K X) : MN X0 t c0 B q P m K (pF X 244 22 (nI P.length)) := by
  obtain ⟨h1, h2, ⟨⟨g22, k1, k2, gP⟩, g23, g18, g17, g⟩, h4⟩ := h
  exact ⟨okF h1, RTq_e h2 (fun k _ _ => pF_k (by omega)) rfl, ⟨⟨pF_at, PL_e (X := X) (Y := pF X 244 22 (nI P.length)) rfl gP⟩, (pF_k (by decide)).trans g23, (pF_k (by decide)).trans g18, (pF_k (by decide)).trans g17, EC_e (X := X) (Y := pF X 244 22 (nI P.length)) (fun _ _ => rfl) g⟩, offB_t h4 (offB_F (c := c0) (by decide)) (Nat.le_refl _)⟩
theorem MN_em {X0 X : Mem} {t c0 q : Nat} {B : Nat → Nat} {P : List Nat} {m : Nat} {K : Kd} {a v : Nat} (h : MN X0 t c0 B q P m K X) (ht : t < 4) (hc : K.length < 304) (h0 : c0 ≤ K.length) : MN X0 t c0 B q P m ((a, v) :: K) (emR X t K.length (nI a) (nI v)) := by
  obtain ⟨h1, h2, ⟨⟨g22, gP⟩, g23, g18, g17, g⟩, h4⟩ := h
  exact ⟨emR_Ok h1, RTq_e h2 (fun k _ _ => emR_F (by omega)) rfl, ⟨⟨(emR_F (by decide)).trans g22, PL_e (X := X) (Y := emR X t K.length (nI a) (nI v)) (emR_A (by decide)) gP⟩, (emR_F (by decide)).trans g23, emR_8, (emR_F (by decide)).trans g17, EC_E h1 ht hc g⟩, offB_t h4 (offB_M (offM_E hc)) h0⟩
theorem MN_st {X0 X : Mem} {t c0 q : Nat} {B : Nat → Nat} {P : List Nat} {m : Nat} {K : Kd} {Y : Mem} {P2 : List Nat} {m2 : Nat} {K2 : Kd} (h : MN X0 t c0 B q P m K X) (hY : Ok Y) (ho : offM t K.length X Y) (hM : MSR Y t P2 m2 K2) (h0 : c0 ≤ K.length) : MN X0 t c0 B q P2 m2 K2 Y ∧ Y.1 244 24 = X.1 244 24 :=
  ⟨⟨hY, RTq_e h.2.1 (fun k h1 h2 => ho.1 244 k (by omega)) (congrArg (fun z => z.2.2) ho.2.2.1), hM, offB_t h.2.2.2 (offB_M ho) h0⟩, ho.1 244 24 (by omega)⟩
theorem MN_FL {X0 X : Mem} {t c0 j : Nat} {B : Nat → Nat} {P : List Nat} {m : Nat} {K : Kd} (h : MN X0 t c0 B (stT B j) P m K X) : FL X0 t c0 B j X := ⟨h.1, h.2.1, h.2.2.2⟩
