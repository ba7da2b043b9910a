def offV (X Y : Mem) : Prop := (∀ b k, ¬ (b = 244 ∧ ((12 ≤ k ∧ k ≤ 15) ∨ (22 ≤ k ∧ k ≤ 25))) → Y.1 b k = X.1 b k) ∧ ((∀ b, b ≠ 254 → b ≠ 255 → Y.2.1 b = X.2.1 b) ∧ (Y.2.2.1 = X.2.2.1 ∧ Y.2.2.2.1 = X.2.2.2.1))
theorem offV_0 (X : Mem) : offV X X := ⟨fun _ _ _ => rfl, fun _ _ _ => rfl, rfl, rfl⟩
theorem offV_t {X Y Z : Mem} (h1 : offV X Y) (h2 : offV Y Z) : offV X Z := ⟨fun b k q => (h2.1 b k q).trans (h1.1 b k q), fun b q1 q2 => (h2.2.1 b q1 q2).trans (h1.2.1 b q1 q2), h2.2.2.1.trans h1.2.2.1, h2.2.2.2.trans h1.2.2.2⟩
theorem offV_N {X Y : Mem} (h : offNx X Y) : offV X Y := ⟨fun b k q => h.1 b k (fun z => q ⟨z.1, by have := z.2; omega⟩), fun b _ _ => congrFun h.2.1 b, h.2.2.1, h.2.2.2⟩
theorem offV_F {k : Nat} {X : Mem} {v : Int32} (hk : (12 ≤ k ∧ k ≤ 15) ∨ (22 ≤ k ∧ k ≤ 25)) : offV X (pF X 244 k v) := ⟨fun b j q => pF_x (fun z => q ⟨z.1, by rw [z.2]; exact hk⟩), fun _ _ _ => rfl, rfl, rfl⟩
theorem offV_A {b : Nat} {X : Mem} {l : List Int32} (hb : b = 254 ∨ b = 255) : offV X (pA X b l) := ⟨fun _ _ _ => rfl, fun a h2 h3 => if_neg (by omega), rfl, rfl⟩
theorem RV_V {m : Nat} {X Y : Mem} {B : Nat → Nat} (h : offV X Y) (hV : RV X m B) : RV Y m B := ⟨(h.1 244 9 (by omega)).trans hV.1, fun q hq => by rw [h.2.1 253 (by decide) (by decide)]; exact hV.2 q hq⟩
def okO (a : Nat) : Prop := a = 40 ∨ (a = 50 ∨ (a = 51 ∨ (a = 52 ∨ a = 53)))
theorem okO_l {a : Nat} (h : okO a) : a < 64 := by
  unfold okO at h
  omega
/-- the pile of a shape, its top first -/
def PLS (X : Mem) : List (Nat × Nat) → Prop
  | [] => True
  | p :: P => (X.2.1 254).getD P.length 0 = nI p.1 ∧ (okO p.1 ∧ ((p.1 = 52 ∨ p.1 = 53 → (X.2.1 255).getD P.length 0 = nI p.2 ∧ p.2 < 1048576) ∧ PLS X P))
theorem PLS_u {X Y : Mem} : ∀ {P : List (Nat × Nat)}, (∀ p, p < P.length → (Y.2.1 254).getD p 0 = (X.2.1 254).getD p 0 ∧ (Y.2.1 255).getD p 0 = (X.2.1 255).getD p 0) → PLS X P → PLS Y P
  | [], _, _ => trivial
  | a :: P, h, ⟨h1, h2, h3, h4⟩ => by
    have h : ∀ p, p < P.length + 1 → (Y.2.1 254).getD p 0 = (X.2.1 254).getD p 0 ∧ (Y.2.1 255).getD p 0 = (X.2.1 255).getD p 0 := h
    exact ⟨(h _ (by omega)).1.trans h1, h2, fun z => ⟨(h _ (by omega)).2.trans (h3 z).1, (h3 z).2⟩, PLS_u (fun p hp => h p (by omega)) h4⟩
def NS (X0 : Mem) (B : Nat → Nat) (q : Nat) (P : List (Nat × Nat)) (m : Nat) (X : Mem) : Prop := Ok X ∧ (RTq X B q ∧ (X.1 244 22 = nI P.length ∧ (PLS X P ∧ (X.1 244 23 = nI m ∧ offV X0 X))))
def FLS (X0 : Mem) (B : Nat → Nat) (j : Nat) (X : Mem) : Prop := Ok X ∧ (RTq X B (stT B j) ∧ offV X0 X)
def NM (X0 : Mem) (B : Nat → Nat) (c : MS) (X : Mem) : Prop := NS X0 B (stT B c.1) c.2.1 c.2.2.1 X ∧ (X.1 244 24 = b2i c.2.2.2.1 ∧ (c.2.2.2.1 = true → X.1 244 25 = nI c.2.2.2.2 ∧ c.2.2.2.2 < 1048576))
theorem NS_FS {X0 X : Mem} {B : Nat → Nat} {j m : Nat} {P : List (Nat × Nat)} (h : NS X0 B (stT B j) P m X) : FLS X0 B j X := ⟨h.1, h.2.1, h.2.2.2.2.2⟩
theorem NS_nx {X0 X : Mem} {q : Nat} {B : Nat → Nat} {P : List (Nat × Nat)} {m : Nat} {Y : Mem} {q' : Nat} (h : NS X0 B q P m X) (hY : Ok Y) (ho : offNx X Y) (hT : RTq Y B q') : NS X0 B q' P m Y ∧ (Y.1 244 24 = X.1 244 24 ∧ Y.1 244 25 = X.1 244 25) := by
  obtain ⟨h1, h2, g22, gP, g23, h4⟩ := h
  exact ⟨⟨hY, hT, (ho.1 244 22 (by omega)).trans g22, PLS_u (fun p _ => by rw [ho.2.1]; exact ⟨rfl, rfl⟩) gP, (ho.1 244 23 (by omega)).trans g23, offV_t h4 (offV_N ho)⟩, ho.1 244 24 (by omega), ho.1 244 25 (by omega)⟩
theorem NS_F {X0 X : Mem} {q : Nat} {B : Nat → Nat} {P : List (Nat × Nat)} {m : Nat} {k : Nat} {v : Int32} (hk : k = 24 ∨ k = 25) (h : NS X0 B q P m X) : NS X0 B q P m (pF X 244 k v) := by
  obtain ⟨h1, h2, g22, gP, g23, h4⟩ := h
  exact ⟨okF h1, RTq_e h2 (fun j _ _ => pF_k (by omega)) rfl, (pF_k (by omega)).trans g22, PLS_u (X := X) (Y := pF X 244 k v) (fun p _ => ⟨rfl, rfl⟩) gP, (pF_k (by omega)).trans g23, offV_t h4 (offV_F (by omega))⟩
theorem NS_23 {X0 X : Mem} {q : Nat} {B : Nat → Nat} {P : List (Nat × Nat)} {m : Nat} {n : Nat} (h : NS X0 B q P m X) : NS X0 B q P n (pF X 244 23 (nI n)) := by
  obtain ⟨h1, h2, g22, gP, g23, h4⟩ := h
  exact ⟨okF h1, RTq_e h2 (fun j _ _ => pF_k (by omega)) rfl, (pF_k (by decide)).trans g22, PLS_u (X := X) (Y := pF X 244 23 (nI n)) (fun p _ => ⟨rfl, rfl⟩) gP, pF_at, offV_t h4 (offV_F (by decide))⟩
theorem NS_pop {X0 X : Mem} {q : Nat} {B : Nat → Nat} {p : Nat × Nat} {P : List (Nat × Nat)} {m : Nat} (h : NS X0 B q (p :: P) m X) : NS X0 B q P m (pF X 244 22 (nI P.length)) := by
  obtain ⟨h1, h2, g22, gP, g23, h4⟩ := h
  exact ⟨okF h1, RTq_e h2 (fun j _ _ => pF_k (by omega)) rfl, pF_at, PLS_u (X := X) (Y := pF X 244 22 (nI P.length)) (fun p _ => ⟨rfl, rfl⟩) gP.2.2.2, (pF_k (by decide)).trans g23, offV_t h4 (offV_F (by decide))⟩
theorem NS_push {X0 X : Mem} {q : Nat} {B : Nat → Nat} {P : List (Nat × Nat)} {m : Nat} {a D : Nat} (h : NS X0 B q P m X) (ha : a = 40 ∨ a = 50 ∨ a = 51) (hl : P.length < 150) : NS X0 B q ((a, D) :: P) m (pF (pA X 254 ((X.2.1 254).set P.length (nI a))) 244 22 (nI (P.length + 1))) := by
  obtain ⟨h1, h2, g22, gP, g23, h4⟩ := h
  have hl2 : (X.2.1 254).length = 160 := h1.1 254 (by decide)
  have e : (pF (pA X 254 ((X.2.1 254).set P.length (nI a))) 244 22 (nI (P.length + 1))).2.1 254 = (X.2.1 254).set P.length (nI a) := pA_at
  have e5 : (pF (pA X 254 ((X.2.1 254).set P.length (nI a))) 244 22 (nI (P.length + 1))).2.1 255 = X.2.1 255 := pA_b (by decide)
  refine ⟨okF (okS h1 rfl), RTq_e h2 (fun k _ _ => pF_k (by omega)) rfl, pF_at, ⟨?_, show okO a by unfold okO; omega, fun z => ?_, PLS_u (fun p hp => ?_) gP⟩, (pF_k (by decide)).trans g23, offV_t h4 (offV_t (offV_A (Or.inl rfl)) (offV_F (by decide)))⟩
  · rw [e, set_eq (by omega)]
  · have z : a = 52 ∨ a = 53 := z
    omega
  · rw [e, e5, set_ne (by omega)]
    exact ⟨rfl, rfl⟩
theorem NS_pw {X0 X : Mem} {q : Nat} {B : Nat → Nat} {P : List (Nat × Nat)} {m : Nat} {a D : Nat} (h : NS X0 B q P m X) (ha : a = 52 ∨ a = 53) (hD : D < 1048576) (hl : P.length < 150) : NS X0 B q ((a, D) :: P) m (pF (pA (pA X 254 ((X.2.1 254).set P.length (nI a))) 255 (((pA X 254 ((X.2.1 254).set P.length (nI a))).2.1 255).set P.length (nI D))) 244 22 (nI (P.length + 1))) := by
  obtain ⟨h1, h2, g22, gP, g23, h4⟩ := h
  have hl2 : (X.2.1 254).length = 160 := h1.1 254 (by decide)
  have hl3 : (X.2.1 255).length = 160 := h1.1 255 (by decide)
  have e : (pF (pA (pA X 254 ((X.2.1 254).set P.length (nI a))) 255 (((pA X 254 ((X.2.1 254).set P.length (nI a))).2.1 255).set P.length (nI D))) 244 22 (nI (P.length + 1))).2.1 254 = (X.2.1 254).set P.length (nI a) := (pA_b (by decide)).trans pA_at
  have e4 : (pA X 254 ((X.2.1 254).set P.length (nI a))).2.1 255 = X.2.1 255 := pA_b (by decide)
  have e5 : (pF (pA (pA X 254 ((X.2.1 254).set P.length (nI a))) 255 (((pA X 254 ((X.2.1 254).set P.length (nI a))).2.1 255).set P.length (nI D))) 244 22 (nI (P.length + 1))).2.1 255 = (X.2.1 255).set P.length (nI D) := pA_at.trans (by rw [e4])
  refine ⟨okF (okS (okS h1 rfl) rfl), RTq_e h2 (fun k _ _ => pF_k (by omega)) rfl, pF_at, ⟨?_, show okO a by unfold okO; omega, fun z => ⟨?_, hD⟩, PLS_u (fun p hp => ?_) gP⟩, (pF_k (by decide)).trans g23, offV_t h4 (offV_t (offV_A (Or.inl rfl)) (offV_t (offV_A (Or.inr rfl)) (offV_F (by decide))))⟩
  · rw [e, set_eq (by omega)]
  · rw [e5, set_eq (by omega)]
  · rw [e, e5, set_ne (by omega), set_ne (by omega)]
    exact ⟨rfl, rfl⟩
theorem endP_p {a e m D : Nat} {P : List (Nat × Nat)} (h : a = 40) : endP ((a, e) :: P) m D = ((a, e) :: P, (m, D)) := if_pos h
theorem endP_t {a e m D : Nat} {P : List (Nat × Nat)} (h : a = 50 ∨ a = 51) : endP ((a, e) :: P) m D = endP P (m - 1) (mvs (if a = 50 then 1 else 4) D) := (if_neg (show ¬ a = 40 by omega)).trans (if_pos h)
theorem endP_w {a e m D : Nat} {P : List (Nat × Nat)} (h : a = 52) : endP ((a, e) :: P) m D = endP P m (e ||| D) := by
  subst h
  rfl
theorem endP_l {a e m D : Nat} {P : List (Nat × Nat)} (h : a = 53) : endP ((a, e) :: P) m D = endP P m (andn e D) := by
  subst h
  rfl
def cs1 (a : Nat) : Nat := if a = 52 ∨ a = 53 then 0 else 1
def cnS : List (Nat × Nat) → Nat
  | [] => 0
  | p :: P => cs1 p.1 + cnS P
theorem cs1_c (a : Nat) : (cs1 a = 0 ∧ (a = 52 ∨ a = 53)) ∨ (cs1 a = 1 ∧ ¬ (a = 52 ∨ a = 53)) := by
  unfold cs1
  split
  · exact Or.inl ⟨rfl, by assumption⟩
  · exact Or.inr ⟨rfl, by assumption⟩
theorem andn_20 {a b : Nat} (h : a < 1048576) : andn a b < 1048576 := Nat.lt_of_le_of_lt (andn_le a b) h
theorem or_20 {a b : Nat} (h : a < 1048576) (h2 : b < 1048576) : a ||| b < 1048576 := Nat.or_lt_two_pow (n := 20) h h2
theorem lp_R_endPart {d : Nat} {X0 : Mem} {B : Nat → Nat} {q : Nat} {Q : Option Value → Mem → Prop} {s : Nat} (hd : 2 ≤ d) : ∀ (P : List (Nat × Nat)) (m D : Nat) (Y : Mem) (z : Option Value), NS X0 B q P m Y → Y.1 244 24 = b2i true → Y.1 244 25 = nI D → D < 1048576 → cnS P ≤ m → m < 100 → P.length ≤ 100 → (∀ Z, NS X0 B q (endP P m D).1 (endP P m D).2.1 Z → Z.1 244 24 = b2i true → Z.1 244 25 = nI (endP P m D).2.2 → (endP P m D).2.2 < 1048576 → Q none Z) → JM d m_R_endPart Q 10 [some (.ref 244), some (.int (nI s)), z] [] Y
  | [], m, D, Y, z, hN, h24, h25, hD, hc, hm, hl, kq => by
    refine J_aload_n (i := 0) d_R_endPart_10 rfl rfl ?_
    refine M_get (x := (nI 0)) d_R_endPart_11 f_R_213 rfl rfl hN.2.2.1 ?_
    refine N_if_le (tgt := 147) d_R_endPart_14 (by decide) (by omega) (fun c14 => ?_) (fun c14 => absurd c14 (by decide))
    refine M_vr d_R_endPart_147 rfl ?_
    exact kq Y hN h24 h25 hD
  | (a, e) :: P, m, D, Y, z, hN, h24, h25, hD, hc, hm, hl, kq => by
    have hN0 := hN
    obtain ⟨hY, hT, g22, ⟨h1, h2, h3, h4⟩, g23, hof⟩ := hN0
    have h1 : (Y.2.1 254).getD P.length 0 = nI a := h1
    have h2 : okO a := h2
    have h3 : a = 52 ∨ a = 53 → (Y.2.1 255).getD P.length 0 = nI e ∧ e < 1048576 := h3
    have h64 := okO_l h2
    have hc : cs1 a + cnS P ≤ m := hc
    have hl : P.length + 1 ≤ 100 := hl
    unfold okO at h2
    refine J_aload_n (i := 0) d_R_endPart_10 rfl rfl ?_
    refine M_get (x := (nI (P.length + 1))) d_R_endPart_11 f_R_213 rfl rfl hN.2.2.1 ?_
    refine N_if_le (tgt := 147) d_R_endPart_14 (by decide) (by omega) (fun c14 => absurd c14 (by omega)) (fun c14 => ?_)
    refine J_aload_n (i := 0) d_R_endPart_17 rfl rfl ?_
    refine M_getR (b := 254) d_R_endPart_18 f_R_44 rfl rfl rfl ?_
    refine J_aload_n (i := 0) d_R_endPart_21 rfl rfl ?_
    refine M_get (x := (nI (P.length + 1))) d_R_endPart_22 f_R_213 rfl rfl hN.2.2.1 ?_
    refine J_iconst (v := nI 1) d_R_endPart_25 rfl ?_
    refine N_isub d_R_endPart_26 (by omega) ?_
    rw [show P.length + 1 - 1 = P.length from rfl]
    refine N_iald (x := (nI a)) d_R_endPart_27 rfl (by omega) (ltL hN.1 (a := 254) (n := 160) (by decide) rfl (by omega)) h1 ?_
    refine J_bipush (v := nI 40) d_R_endPart_28 rfl ?_
    refine N_icmp_eq (tgt := 147) d_R_endPart_30 (by decide) (by omega) (by omega) (fun c30 => ?_) (fun c30 => ?_)
    · refine M_vr d_R_endPart_147 rfl ?_
      rw [endP_p (show a = 40 by omega)] at kq
      exact kq Y hN h24 h25 hD
    · refine J_aload_n (i := 0) d_R_endPart_33 rfl rfl ?_
      refine J_dup d_R_endPart_34 rfl ?_
      refine M_get (x := (nI (P.length + 1))) d_R_endPart_35 f_R_213 rfl rfl hN.2.2.1 ?_
      refine J_iconst (v := nI 1) d_R_endPart_38 rfl ?_
      refine N_isub d_R_endPart_39 (by omega) ?_
      rw [show P.length + 1 - 1 = P.length from rfl]
      refine M_put d_R_endPart_40 p_R_213 rfl rfl rfl rfl ?_
      refine J_aload_n (i := 0) d_R_endPart_43 rfl rfl ?_
      refine M_getR (b := 254) d_R_endPart_44 f_R_44 rfl rfl rfl ?_
      refine J_aload_n (i := 0) d_R_endPart_47 rfl rfl ?_
      refine M_get (x := (nI P.length)) d_R_endPart_48 f_R_213 rfl rfl rfl ?_
      refine N_iald (x := (nI a)) d_R_endPart_51 rfl (by omega) (ltL hN.1 (a := 254) (n := 160) (by decide) rfl (by omega)) h1 ?_
      refine J_istore_n (i := 2) (L1 := [some (.ref 244), some (.int (nI s)), some (.int (nI a))]) d_R_endPart_52 rfl (by decide) rfl ?_
      refine J_iload_n (i := 2) d_R_endPart_53 rfl rfl ?_
      refine J_bipush (v := nI 50) d_R_endPart_54 rfl ?_
      refine N_icmp_eq (tgt := 65) d_R_endPart_56 (by decide) (by omega) (by omega) (fun c56 => ?_) (fun c56 => ?_)
      · refine J_aload_n (i := 0) d_R_endPart_65 rfl rfl ?_
        refine J_aload_n (i := 0) d_R_endPart_66 rfl rfl ?_
        refine J_aload_n (i := 0) d_R_endPart_67 rfl rfl ?_
        refine M_get (x := (nI D)) d_R_endPart_68 f_R_276 rfl rfl h25 ?_
        refine J_iload_n (i := 2) d_R_endPart_71 rfl rfl ?_
        refine J_bipush (v := nI 50) d_R_endPart_72 rfl ?_
        refine N_icmp_ne (tgt := 81) d_R_endPart_74 (by decide) (by omega) (by omega) (fun c74 => absurd c74 (fun z => z c56)) (fun c74 => ?_)
        refine J_iconst (v := nI 1) d_R_endPart_77 rfl ?_
        refine J_goto (tgt := 82) d_R_endPart_78 (by decide) ?_
        refine CV_N (av := [.int (nI D), .int (nI 1)]) d_R_endPart_82 s_R_105 (M_rcv rfl (by decide) rfl) (S_R_byWay hN.1 hD (by decide)) (by omega) rfl rfl (Nat.le_of_ble_eq_true rfl) ?_
        refine M_put d_R_endPart_85 p_R_276 rfl rfl rfl rfl ?_
        have hc1 : cs1 a = 1 := by have := cs1_c a; omega
        refine J_aload_n (i := 0) d_R_endPart_88 rfl rfl ?_
        refine J_dup d_R_endPart_89 rfl ?_
        refine M_get (x := (nI m)) d_R_endPart_90 f_R_223 rfl rfl hN.2.2.2.2.1 ?_
        refine J_iconst (v := nI 1) d_R_endPart_93 rfl ?_
        refine N_isub d_R_endPart_94 (by omega) ?_
        refine M_put d_R_endPart_95 p_R_223 rfl rfl rfl rfl ?_
        refine J_goto (tgt := 144) d_R_endPart_98 (by decide) ?_
        refine J_goto (tgt := 10) d_R_endPart_144 (by decide) ?_
        rw [endP_t (Or.inl c56), show (if a = 50 then 1 else 4) = 1 from if_pos c56] at kq
        exact lp_R_endPart hd P (m - 1) (mvs 1 D) _ _ (NS_23 (n := m - 1) (NS_F (k := 25) (v := nI (mvs 1 D)) (Or.inr rfl) (NS_pop hN))) ((pF_k (by decide)).trans ((pF_k (by decide)).trans ((pF_k (by decide)).trans h24))) ((pF_k (by decide)).trans pF_at) mvs_lt (by omega) (by omega) (by omega) kq
      · refine J_iload_n (i := 2) d_R_endPart_59 rfl rfl ?_
        refine J_bipush (v := nI 51) d_R_endPart_60 rfl ?_
        refine N_icmp_ne (tgt := 101) d_R_endPart_62 (by decide) (by omega) (by omega) (fun c62 => ?_) (fun c62 => ?_)
        · refine J_aload_n (i := 0) d_R_endPart_101 rfl rfl ?_
          refine J_iload_n (i := 2) d_R_endPart_102 rfl rfl ?_
          refine J_bipush (v := nI 52) d_R_endPart_103 rfl ?_
          refine N_icmp_ne (tgt := 125) d_R_endPart_105 (by decide) (by omega) (by omega) (fun c105 => ?_) (fun c105 => ?_)
          · refine J_aload_n (i := 0) d_R_endPart_125 rfl rfl ?_
            refine M_getR (b := 255) d_R_endPart_126 f_R_47 rfl rfl rfl ?_
            refine J_aload_n (i := 0) d_R_endPart_129 rfl rfl ?_
            refine M_get (x := (nI P.length)) d_R_endPart_130 f_R_213 rfl rfl rfl ?_
            refine N_iald (x := (nI e)) d_R_endPart_133 rfl (by omega) (ltL hN.1 (a := 255) (n := 160) (by decide) rfl (by omega)) (h3 (by omega)).1 ?_
            refine J_aload_n (i := 0) d_R_endPart_134 rfl rfl ?_
            refine M_get (x := (nI D)) d_R_endPart_135 f_R_276 rfl rfl h25 ?_
            refine J_iconst (v := (-1)) d_R_endPart_138 rfl ?_
            refine J_ixor d_R_endPart_139 ?_
            refine J_iand d_R_endPart_140 ?_
            refine I_ton (n := andn e D) (nI_andn e D) ?_
            refine M_put d_R_endPart_141 p_R_276 rfl rfl rfl rfl ?_
            refine J_goto (tgt := 10) d_R_endPart_144 (by decide) ?_
            rw [endP_l (show a = 53 by omega)] at kq
            exact lp_R_endPart hd P m (andn e D) _ _ (NS_F (k := 25) (v := nI (andn e D)) (Or.inr rfl) (NS_pop hN)) ((pF_k (by decide)).trans ((pF_k (by decide)).trans h24)) pF_at (andn_20 (h3 (Or.inr (by omega))).2) (by omega) (by omega) (by omega) kq
          · refine J_aload_n (i := 0) d_R_endPart_108 rfl rfl ?_
            refine M_getR (b := 255) d_R_endPart_109 f_R_47 rfl rfl rfl ?_
            refine J_aload_n (i := 0) d_R_endPart_112 rfl rfl ?_
            refine M_get (x := (nI P.length)) d_R_endPart_113 f_R_213 rfl rfl rfl ?_
            refine N_iald (x := (nI e)) d_R_endPart_116 rfl (by omega) (ltL hN.1 (a := 255) (n := 160) (by decide) rfl (by omega)) (h3 (by omega)).1 ?_
            refine J_aload_n (i := 0) d_R_endPart_117 rfl rfl ?_
            refine M_get (x := (nI D)) d_R_endPart_118 f_R_276 rfl rfl h25 ?_
            refine N_ior d_R_endPart_121 ?_
            refine J_goto (tgt := 141) d_R_endPart_122 (by decide) ?_
            refine M_put d_R_endPart_141 p_R_276 rfl rfl rfl rfl ?_
            refine J_goto (tgt := 10) d_R_endPart_144 (by decide) ?_
            rw [endP_w c105] at kq
            exact lp_R_endPart hd P m (e ||| D) _ _ (NS_F (k := 25) (v := nI (e ||| D)) (Or.inr rfl) (NS_pop hN)) ((pF_k (by decide)).trans ((pF_k (by decide)).trans h24)) pF_at (or_20 (h3 (Or.inl c105)).2 hD) (by omega) (by omega) (by omega) kq
        · refine J_aload_n (i := 0) d_R_endPart_65 rfl rfl ?_
          refine J_aload_n (i := 0) d_R_endPart_66 rfl rfl ?_
          refine J_aload_n (i := 0) d_R_endPart_67 rfl rfl ?_
          refine M_get (x := (nI D)) d_R_endPart_68 f_R_276 rfl rfl h25 ?_
          refine J_iload_n (i := 2) d_R_endPart_71 rfl rfl ?_
          refine J_bipush (v := nI 50) d_R_endPart_72 rfl ?_
          refine N_icmp_ne (tgt := 81) d_R_endPart_74 (by decide) (by omega) (by omega) (fun c74 => ?_) (fun c74 => absurd c74 c56)
          refine J_iconst (v := nI 4) d_R_endPart_81 rfl ?_
          refine CV_N (av := [.int (nI D), .int (nI 4)]) d_R_endPart_82 s_R_105 (M_rcv rfl (by decide) rfl) (S_R_byWay hN.1 hD (by decide)) (by omega) rfl rfl (Nat.le_of_ble_eq_true rfl) ?_
          refine M_put d_R_endPart_85 p_R_276 rfl rfl rfl rfl ?_
          have hc1 : cs1 a = 1 := by have := cs1_c a; omega
          refine J_aload_n (i := 0) d_R_endPart_88 rfl rfl ?_
          refine J_dup d_R_endPart_89 rfl ?_
          refine M_get (x := (nI m)) d_R_endPart_90 f_R_223 rfl rfl hN.2.2.2.2.1 ?_
          refine J_iconst (v := nI 1) d_R_endPart_93 rfl ?_
          refine N_isub d_R_endPart_94 (by omega) ?_
          refine M_put d_R_endPart_95 p_R_223 rfl rfl rfl rfl ?_
          refine J_goto (tgt := 144) d_R_endPart_98 (by decide) ?_
          refine J_goto (tgt := 10) d_R_endPart_144 (by decide) ?_
          rw [endP_t (Or.inr c62), show (if a = 50 then 1 else 4) = 4 from if_neg c56] at kq
          exact lp_R_endPart hd P (m - 1) (mvs 4 D) _ _ (NS_23 (n := m - 1) (NS_F (k := 25) (v := nI (mvs 4 D)) (Or.inr rfl) (NS_pop hN))) ((pF_k (by decide)).trans ((pF_k (by decide)).trans ((pF_k (by decide)).trans h24))) ((pF_k (by decide)).trans pF_at) mvs_lt (by omega) (by omega) (by omega) kq
theorem S_R_endPart {X0 X : Mem} {B : Nat → Nat} {q m D : Nat} {P : List (Nat × Nat)} (hN : NS X0 B q P m X) (hD : D < 1048576) (hc : cnS P ≤ m) (hm : m < 100) (hl : P.length ≤ 100) : CM 2 m_R_endPart [.ref 244, .int (nI D)] X (fun r Z => r = none ∧ (NS X0 B q (endP P m D).1 (endP P m D).2.1 Z ∧ (Z.1 244 24 = b2i true ∧ (Z.1 244 25 = nI (endP P m D).2.2 ∧ (endP P m D).2.2 < 1048576)))) := by
  refine CM_of (L := [some (.ref 244), some (.int (nI D)), none]) 1 ok_R_endPart (fun _ => Nat.le_of_ble_eq_true rfl) rfl ?_
  refine J_aload_n (i := 0) d_R_endPart_0 rfl rfl ?_
  refine J_iload_n (i := 1) d_R_endPart_1 rfl rfl ?_
  refine M_put d_R_endPart_2 p_R_276 rfl rfl rfl rfl ?_
  refine J_aload_n (i := 0) d_R_endPart_5 rfl rfl ?_
  refine J_iconst (v := nI 1) d_R_endPart_6 rfl ?_
  refine J.eq (st1 := [.int (b2i true), .ref 244]) ?_ rfl rfl rfl
  refine M_put d_R_endPart_7 p_R_242 rfl rfl b2i_nar b2i_fit ?_
  exact lp_R_endPart (Nat.le_refl 2) P m D _ none (NS_F (k := 24) (v := b2i true) (Or.inl rfl) (NS_F (k := 25) (v := nI D) (Or.inr rfl) hN)) pF_at ((pF_k (by decide)).trans pF_at) hD hc hm hl (fun Z h1 h2 h3 h4 => ⟨rfl, h1, h2, h3, h4⟩)
