def kAt : Kd → Nat → Nat × Nat
  | [], _ => (64, 0)
  | p :: K, i => if i = K.length then p else kAt K i
theorem kAt_no : ∀ {K : Kd} {i : Nat}, K.length ≤ i → kAt K i = (64, 0)
  | [], _, _ => rfl
  | p :: K, i, h => by
    have h : K.length + 1 ≤ i := h
    show (if i = K.length then p else kAt K i) = (64, 0)
    rw [if_neg (by omega)]
    exact kAt_no (by omega)
theorem kAt_mid {p : Nat × Nat} {R : Kd} : ∀ {K3 : Kd}, kAt (K3 ++ (p :: R)) R.length = p
  | [] => if_pos rfl
  | q :: K3 => by
    show (if R.length = (K3 ++ (p :: R)).length then q else kAt (K3 ++ (p :: R)) R.length) = p
    rw [if_neg (by rw [List.length_append, List.length_cons]; omega)]
    exact kAt_mid
theorem EC_at {X : Mem} {t : Nat} : ∀ {K : Kd}, EC X t K → KB K → ∀ i, i < K.length → (X.2.1 251).getD (681 * t + 73 + 2 * i) 0 = nI (kAt K i).1 ∧ ((X.2.1 251).getD (681 * t + 73 + 2 * i + 1) 0 = nI (kAt K i).2 ∧ ((kAt K i).1 < 64 ∧ (kAt K i).2 < 10000))
  | [], _, _, i, hi => absurd hi (Nat.not_lt_zero i)
  | p :: K, ⟨h1, h2, h3⟩, hk, i, hi => by
    have hi : i < K.length + 1 := hi
    by_cases c : i = K.length
    · rw [show kAt (p :: K) i = p from if_pos c, c]
      exact ⟨h1, h2, hk p List.mem_cons_self⟩
    · rw [show kAt (p :: K) i = kAt K i from if_neg c]
      exact EC_at h3 (fun q hq => hk q (List.mem_cons_of_mem _ hq)) i (by omega)
theorem run_st {e : Env} {K : Kd} : ∀ (L K3 K1 : Kd) {vs v1 : List Int} {bs b1 : List Bool}, K = K3 ++ (L ++ K1) → runL e L vs bs = some (v1, b1) → stepsR e (fun i => (kAt K i).1) (fun i => (kAt K i).2) L.length K1.length vs bs = some (v1, b1)
  | [], K3, K1, vs, v1, bs, b1, _, h => h
  | p :: L, K3, K1, vs, v1, bs, b1, hK, h => by
    have h : (match runL e L vs bs with
      | none => none
      | some s => stepR e p.1 p.2 s.1 s.2) = some (v1, b1) := h
    cases hr : runL e L vs bs with
    | none => rw [hr] at h; cases h
    | some s =>
      rw [hr] at h
      obtain ⟨v2, b2⟩ := s
      have h : stepR e p.1 p.2 v2 b2 = some (v1, b1) := h
      have ih := run_st (K := K) L (K3 ++ [p]) K1 (by rw [hK, List.append_assoc]; rfl) hr
      refine stepsR_app (m' := 1) ih ?_
      have hk : kAt K (K1.length + L.length) = p := by
        rw [hK, show K1.length + L.length = (L ++ K1).length by rw [List.length_append]; omega]
        exact kAt_mid
      show (match stepR e (kAt K (K1.length + L.length)).1 (kAt K (K1.length + L.length)).2 v2 b2 with
        | none => none
        | some (vs', bs') => some (vs', bs')) = some (v1, b1)
      rw [hk, h]
/-- what of a law is written: where its code lies -/
def LwP (X : Mem) (t so : Nat) (K : Kd) (nn : Nat) (vb : Nat → Nat) (D : Option (Env → Int)) : Prop := (D = none → ∀ k, k < nn → vb k ≠ so) ∧ ∀ d, D = some d → ∃ k, k < nn ∧ (vb k = so ∧ ((∀ q, q < k → vb q ≠ so) ∧ ∃ K3 L K1 : Kd, K = K3 ++ (L ++ K1) ∧ (CodV L d ∧ ((X.2.1 251).getD (681 * t + 1 + 3 * k + 1) 0 = nI K1.length ∧ (X.2.1 251).getD (681 * t + 1 + 3 * k + 2) 0 = nI (L.length + K1.length)))))
def RCl (X : Mem) (t : Nat) (x : TX) : Prop := ∀ k, k < x.2.2.1 → (X.2.1 251).getD (681 * t + 1 + 3 * k) 0 = nI (x.2.2.2.1 k) ∧ (x.2.2.2.1 k < 7 ∧ ((2 ≤ x.2.2.2.1 k → (X.2.1 251).getD (681 * t + 1 + 3 * k + 1) 0 = nI (x.2.2.2.2.1 k)) ∧ (x.2.2.2.1 k = 3 ∨ x.2.2.2.1 k = 4 → (X.2.1 251).getD (681 * t + 1 + 3 * k + 2) 0 = nI (x.2.2.2.2.2 k))))
def oB (x : TX) : Nat := (if x.1.isSome = true then 1 else 0) + (if x.2.1.isSome = true then 2 else 0)
/-- a text so far lies there -/
def RTn (X : Mem) (t : Nat) (K : Kd) (x : TX) : Prop := X.1 244 17 = nI (681 * t) ∧ (X.1 244 18 = nI K.length ∧ (EC X t K ∧ (KB K ∧ (X.1 244 26 = nI (oB x) ∧ ((X.2.1 251).getD (681 * t) 0 = nI x.2.2.1 ∧ (x.2.2.1 ≤ 24 ∧ (RCl X t x ∧ (LwP X t 0 K x.2.2.1 x.2.2.2.1 x.1 ∧ LwP X t 1 K x.2.2.1 x.2.2.2.1 x.2.1))))))))
theorem LwP_R {X : Mem} {t so nn : Nat} {K : Kd} {vb : Nat → Nat} {D : Option (Env → Int)} (hK : K.length ≤ 300) (h : LwP X t so K nn vb D) : LwR X t so nn vb (fun i => (kAt K i).1) (fun i => (kAt K i).2) D := by
  refine ⟨h.1, fun d hd => ?_⟩
  obtain ⟨k, h1, h2, h3, K3, L, K1, e, hc, c1, c2⟩ := h.2 d hd
  have hl : K.length = K3.length + (L.length + K1.length) := by rw [e, List.length_append, List.length_append]
  refine ⟨k, h1, h2, h3, K1.length, L.length + K1.length, c1, c2, by omega, by omega, fun en he => ?_⟩
  obtain ⟨s1, s2⟩ := hc en he
  refine ⟨s1, ?_⟩
  rw [show L.length + K1.length - K1.length = L.length by omega]
  exact run_st L K3 K1 e (s2 [] [])
theorem RTn_x {X : Mem} {t : Nat} {K : Kd} {x : TX} (ht : t < 4) (hK : K.length ≤ 300) (h : RTn X t K x) : RTxt X t x := by
  obtain ⟨h17, h18, hE, hKB, h26, hn, hn24, hC, hL0, hL1⟩ := h
  refine ⟨fun i => (kAt K i).1, fun i => (kAt K i).2, ⟨ht, fun i hi ho => ?_⟩, ⟨ht, hn24, hn, fun k hk => ⟨(hC k hk).1, (hC k hk).2.1⟩⟩, LwP_R hK hL0, LwP_R hK hL1, fun k hk => (hC k hk).2.2⟩
  rcases Nat.lt_or_ge i K.length with c | c
  · obtain ⟨a1, a2, a3, a4⟩ := EC_at hE hKB i c
    exact ⟨a1, a2, by show (kAt K i).1 < 2147483648; omega, by show (kAt K i).2 < 2147483648; omega⟩
  · have ho : (kAt K i).1 < 64 := ho
    rw [kAt_no c] at ho
    exact absurd ho (by decide)
theorem RTxt_r {X Y : Mem} {t : Nat} {x : TX} (e : ∀ p, 681 * t ≤ p → p < 681 * t + 681 → (Y.2.1 251).getD p 0 = (X.2.1 251).getD p 0) (hT : RTxt X t x) : RTxt Y t x := by
  obtain ⟨oc, vc, h1, h2, h3, h4, h5⟩ := hT
  have hk : ∀ k, k < x.2.2.1 → k < 24 := fun k hk => by have := h2.2.1; omega
  have hl : ∀ so D, LwR X t so x.2.2.1 x.2.2.2.1 oc vc D → LwR Y t so x.2.2.1 x.2.2.2.1 oc vc D := fun so D h => ⟨h.1, fun d hd => by
    obtain ⟨k, k1, k2, k3, a, b, c1, c2, c3⟩ := h.2 d hd
    have := hk k k1
    exact ⟨k, k1, k2, k3, a, b, (e _ (by omega) (by omega)).trans c1, (e _ (by omega) (by omega)).trans c2, c3⟩⟩
  refine ⟨oc, vc, ⟨h1.1, fun i hi ho => ?_⟩, ⟨h2.1, h2.2.1, (e _ (by omega) (by omega)).trans h2.2.2.1, fun k q => ?_⟩, hl 0 _ h3, hl 1 _ h4, fun k q => ?_⟩
  · obtain ⟨a1, a2, a3⟩ := h1.2 i hi ho
    exact ⟨(e _ (by omega) (by omega)).trans a1, (e _ (by omega) (by omega)).trans a2, a3⟩
  · have := hk k q
    exact ⟨(e _ (by omega) (by omega)).trans (h2.2.2.2 k q).1, (h2.2.2.2 k q).2⟩
  · have := hk k q
    exact ⟨fun z => (e _ (by omega) (by omega)).trans ((h5 k q).1 z), fun z => (e _ (by omega) (by omega)).trans ((h5 k q).2 z)⟩
/-- a clause is added -/
theorem LwP_add {X Y : Mem} {t so nn v : Nat} {K K2 : Kd} {vb : Nat → Nat} {D D2 : Option (Env → Int)} (h : LwP X t so K nn vb D) (hn : nn < 24) (e : ∀ p, p < 681 * t + 1 + 3 * nn → 681 * t < p → (Y.2.1 251).getD p 0 = (X.2.1 251).getD p 0) (hK : ∃ L : Kd, K2 = L ++ K) (hv : (v ≠ so ∧ D2 = D) ∨ (v = so ∧ D = none ∧ ∃ d L, D2 = some d ∧ (K2 = L ++ K ∧ (CodV L d ∧ ((Y.2.1 251).getD (681 * t + 1 + 3 * nn + 1) 0 = nI K.length ∧ (Y.2.1 251).getD (681 * t + 1 + 3 * nn + 2) 0 = nI (L.length + K.length)))))) : LwP Y t so K2 (nn + 1) (updN vb nn v) D2 := by
  rcases hv with ⟨v1, v2⟩ | ⟨v1, v2, d, L, v3, v4, v5, v6, v7⟩
  · rw [v2]
    refine ⟨fun q k hk => ?_, fun d hd => ?_⟩
    · by_cases c : k = nn
      · rw [c, updN_a]; exact v1
      · rw [updN_n c]; exact h.1 q k (by omega)
    · obtain ⟨k, k1, k2, k3, K3, L, K1, e1, e2, e3, e4⟩ := h.2 d hd
      obtain ⟨L0, e0⟩ := hK
      refine ⟨k, by omega, by rw [updN_n (by omega)]; exact k2, fun q hq => by rw [updN_n (by omega)]; exact k3 q hq, L0 ++ K3, L, K1, by rw [e0, e1, List.append_assoc], e2, (e _ (by omega) (by omega)).trans e3, (e _ (by omega) (by omega)).trans e4⟩
  · rw [v3]
    refine ⟨fun q => (by cases q), fun d' hd => ?_⟩
    cases hd
    refine ⟨nn, by omega, by rw [updN_a]; exact v1, fun q hq => by rw [updN_n (by omega)]; exact h.1 v2 q hq, [], L, K, v4, v5, v6, v7⟩
theorem RTn_add {X Y : Mem} {t v a b : Nat} {K K2 : Kd} {x : TX} {D : Option (Env → Int)} (h : RTn X t K x) (hn : x.2.2.1 < 24) (hv : v < 7) (h17 : Y.1 244 17 = X.1 244 17) (h18 : Y.1 244 18 = nI K2.length) (hE : EC Y t K2) (hKB : KB K2) (h26 : Y.1 244 26 = nI (oB (addT x v D a b))) (e : ∀ p, p < 681 * t + 1 + 3 * x.2.2.1 → 681 * t < p → (Y.2.1 251).getD p 0 = (X.2.1 251).getD p 0) (c0 : (Y.2.1 251).getD (681 * t) 0 = nI (x.2.2.1 + 1)) (cv : (Y.2.1 251).getD (681 * t + 1 + 3 * x.2.2.1) 0 = nI v) (ca : 2 ≤ v → (Y.2.1 251).getD (681 * t + 1 + 3 * x.2.2.1 + 1) 0 = nI a) (cb : v = 3 ∨ v = 4 → (Y.2.1 251).getD (681 * t + 1 + 3 * x.2.2.1 + 2) 0 = nI b) (hK : ∃ L : Kd, K2 = L ++ K) (hD : v < 2 → (v = 0 → x.1 = none) ∧ ((v = 1 → x.2.1 = none) ∧ ∃ d L, D = some d ∧ (K2 = L ++ K ∧ (CodV L d ∧ ((Y.2.1 251).getD (681 * t + 1 + 3 * x.2.2.1 + 1) 0 = nI K.length ∧ (Y.2.1 251).getD (681 * t + 1 + 3 * x.2.2.1 + 2) 0 = nI (L.length + K.length)))))) : RTn Y t K2 (addT x v D a b) := by
  obtain ⟨g17, g18, gE, gKB, g26, gn, gn24, gC, gL0, gL1⟩ := h
  refine ⟨h17.trans g17, h18, hE, hKB, h26, c0, show x.2.2.1 + 1 ≤ 24 by omega, fun k hk => ?_, ?_, ?_⟩
  · have hk : k < x.2.2.1 + 1 := hk
    show (Y.2.1 251).getD (681 * t + 1 + 3 * k) 0 = nI (updN x.2.2.2.1 x.2.2.1 v k) ∧ (updN x.2.2.2.1 x.2.2.1 v k < 7 ∧ ((2 ≤ updN x.2.2.2.1 x.2.2.1 v k → (Y.2.1 251).getD (681 * t + 1 + 3 * k + 1) 0 = nI (updN x.2.2.2.2.1 x.2.2.1 a k)) ∧ (updN x.2.2.2.1 x.2.2.1 v k = 3 ∨ updN x.2.2.2.1 x.2.2.1 v k = 4 → (Y.2.1 251).getD (681 * t + 1 + 3 * k + 2) 0 = nI (updN x.2.2.2.2.2 x.2.2.1 b k))))
    by_cases c : k = x.2.2.1
    · rw [c, updN_a, updN_a, updN_a]
      exact ⟨cv, hv, ca, cb⟩
    · rw [updN_n c, updN_n c, updN_n c]
      obtain ⟨q1, q2, q3, q4⟩ := gC k (by omega)
      exact ⟨(e _ (by omega) (by omega)).trans q1, q2, fun z => (e _ (by omega) (by omega)).trans (q3 z), fun z => (e _ (by omega) (by omega)).trans (q4 z)⟩
  · refine LwP_add gL0 hn e hK ?_
    by_cases c : v = 0
    · obtain ⟨n0, n1, d, L, r⟩ := hD (by omega)
      exact Or.inr ⟨c, n0 c, d, L, (if_pos c).trans r.1, r.2⟩
    · exact Or.inl ⟨c, if_neg c⟩
  · refine LwP_add gL1 hn e hK ?_
    by_cases c : v = 1
    · obtain ⟨n0, n1, d, L, r⟩ := hD (by omega)
      exact Or.inr ⟨c, n1 c, d, L, (if_pos c).trans r.1, r.2⟩
    · exact Or.inl ⟨c, if_neg c⟩
/-- what reading a text leaves as it was -/
def offX (t : Nat) (X Y : Mem) : Prop := (∀ b k, ¬ (b = 244 ∧ ((12 ≤ k ∧ k ≤ 15) ∨ ((17 ≤ k ∧ k ≤ 19) ∨ (22 ≤ k ∧ k ≤ 26)))) → Y.1 b k = X.1 b k) ∧ ((∀ b, b ≠ 251 → b ≠ 254 → b ≠ 255 → Y.2.1 b = X.2.1 b) ∧ (Y.2.2.1 = X.2.2.1 ∧ (Y.2.2.2.1 = X.2.2.2.1 ∧ ∀ p, (p < 681 * t ∨ 681 * t + 681 ≤ p) → (Y.2.1 251).getD p 0 = (X.2.1 251).getD p 0)))
theorem offX_0 (t : Nat) (X : Mem) : offX t X X := ⟨fun _ _ _ => rfl, fun _ _ _ _ => rfl, rfl, rfl, fun _ _ => rfl⟩
theorem offX_t {t : Nat} {X Y Z : Mem} (h1 : offX t X Y) (h2 : offX t Y Z) : offX t X Z := ⟨fun b k q => (h2.1 b k q).trans (h1.1 b k q), fun b q1 q2 q3 => (h2.2.1 b q1 q2 q3).trans (h1.2.1 b q1 q2 q3), h2.2.2.1.trans h1.2.2.1, h2.2.2.2.1.trans h1.2.2.2.1, fun p q => (h2.2.2.2.2 p q).trans (h1.2.2.2.2 p q)⟩
theorem offX_N {t : Nat} {X Y : Mem} (h : offNx X Y) : offX t X Y := ⟨fun b k q => h.1 b k (fun z => q ⟨z.1, by have := z.2; omega⟩), fun b _ _ _ => congrFun h.2.1 b, h.2.2.1, h.2.2.2, fun p _ => by rw [h.2.1]⟩
theorem offX_B {t c : Nat} {X Y : Mem} (h : offB t c X Y) : offX t X Y := ⟨fun b k q => h.1 b k (fun z => q ⟨z.1, by have := z.2; omega⟩), h.2.1, h.2.2.1, h.2.2.2.1, fun p q => h.2.2.2.2 p (by omega)⟩
theorem offX_F {t k : Nat} {X : Mem} {v : Int32} (hk : (12 ≤ k ∧ k ≤ 15) ∨ ((17 ≤ k ∧ k ≤ 19) ∨ (22 ≤ k ∧ k ≤ 26))) : offX t X (pF X 244 k v) := ⟨fun b j q => pF_x (fun z => q ⟨z.1, by rw [z.2]; exact hk⟩), fun _ _ _ _ => rfl, rfl, rfl, fun _ _ => rfl⟩
theorem offX_A {t q : Nat} {X : Mem} {v : Int32} (hq : 681 * t ≤ q ∧ q < 681 * t + 681) : offX t X (pA X 251 ((X.2.1 251).set q v)) := ⟨fun _ _ _ => rfl, fun a h1 h2 h3 => pA_b h1, rfl, rfl, fun p hp => by rw [pA_at, set_ne (by omega)]⟩
theorem RV_X {t m : Nat} {X Y : Mem} {B : Nat → Nat} (h : offX t X Y) (hV : RV X m B) : RV Y m B := ⟨(h.1 244 9 (by omega)).trans hV.1, fun q hq => by rw [h.2.1 253 (by decide) (by decide) (by decide)]; exact hV.2 q hq⟩
