def LwC (X : Mem) (T f : Nat) (w : Bool) (c : Nat) (D : Option (Env → Int)) : Prop := X.1 T f = b2i D.isSome ∧ ∀ d, D = some d → ∃ a b, X.1 T (f + 1) = nI a ∧ (X.1 T (f + 2) = nI b ∧ (a ≤ b ∧ (b ≤ c ∧ GdC T w X a b d)))
def ClC (X : Mem) (T : Nat) (x : TX) : Prop := ∀ k, k < x.2.2.1 → (X.2.1 (T + 2)).getD k 0 = nI (x.2.2.2.1 k) ∧ (2 ≤ x.2.2.2.1 k → (X.2.1 (T + 3)).getD k 0 = nI (x.2.2.2.2.1 k)) ∧ (x.2.2.2.1 k = 3 ∨ x.2.2.2.1 k = 4 → (X.2.1 (T + 4)).getD k 0 = nI (x.2.2.2.2.2 k))
/-- a text as far as it is read, c things written -/
def CTn (X : Mem) (T c : Nat) (x : TX) : Prop := okT x ∧ (LwC X T 2 true c x.1 ∧ (LwC X T 5 false c x.2.1 ∧ (X.1 T 8 = nI x.2.2.1 ∧ ClC X T x)))
theorem LwC_e {X Y : Mem} {T f c c' : Nat} {w : Bool} {D : Option (Env → Int)} (h : LwC X T f w c D) (e0 : Y.1 T f = X.1 T f) (e1 : Y.1 T (f + 1) = X.1 T (f + 1)) (e2 : Y.1 T (f + 2) = X.1 T (f + 2)) (e : ∀ p, p < c → (Y.2.1 (T + 1)).getD p 0 = (X.2.1 (T + 1)).getD p 0) (hc : c ≤ c') : LwC Y T f w c' D := by
  refine ⟨e0.trans h.1, fun d hd => ?_⟩
  obtain ⟨a, b, h1, h2, h3, h4, h5⟩ := h.2 d hd
  exact ⟨a, b, e1.trans h1, e2.trans h2, h3, by omega, GC_same h5 (fun p q1 q2 => e p (by omega))⟩
theorem CTn_ad {X : Mem} {B : Nat → Nat} {T c j : Nat} {x : TX} (ht : T ≠ 11) (h : CTn X T c x) : CTn (adX X B j) T c x := by
  obtain ⟨h1, h2, h3, h4, h5⟩ := h
  have e : ∀ k, (adX X B j).1 T k = X.1 T k := fun k => (pF_o ht).trans (pF_o ht)
  exact ⟨h1, LwC_e h2 (e _) (e _) (e _) (fun _ _ => rfl) (Nat.le_refl _), LwC_e h3 (e _) (e _) (e _) (fun _ _ => rfl) (Nat.le_refl _), (e _).trans h4, h5⟩
theorem updN_a {f : Nat → Nat} {k v : Nat} : updN f k v k = v := if_pos rfl
theorem updN_n {f : Nat → Nat} {k v j : Nat} (h : j ≠ k) : updN f k v j = f j := if_neg h
theorem ClC_add {X Y : Mem} {T vb a b : Nat} {x : TX} {D : Option (Env → Int)} (hl : (X.2.1 (T + 2)).length = 24 ∧ (X.2.1 (T + 3)).length = 24 ∧ (X.2.1 (T + 4)).length = 24) (hK : x.2.2.1 < 24) (h : ClC X T x) (e2 : Y.2.1 (T + 2) = (X.2.1 (T + 2)).set x.2.2.1 (nI vb)) (e3 : (Y.2.1 (T + 3) = X.2.1 (T + 3) ∧ vb < 2) ∨ Y.2.1 (T + 3) = (X.2.1 (T + 3)).set x.2.2.1 (nI a)) (e4 : (Y.2.1 (T + 4) = X.2.1 (T + 4) ∧ ¬ (vb = 3 ∨ vb = 4)) ∨ Y.2.1 (T + 4) = (X.2.1 (T + 4)).set x.2.2.1 (nI b)) : ClC Y T (addT x vb D a b) := by
  intro k hk
  have hk' : k < x.2.2.1 + 1 := hk
  show (Y.2.1 (T + 2)).getD k 0 = nI (updN x.2.2.2.1 x.2.2.1 vb k) ∧ (2 ≤ updN x.2.2.2.1 x.2.2.1 vb k → (Y.2.1 (T + 3)).getD k 0 = nI (updN x.2.2.2.2.1 x.2.2.1 a k)) ∧ (updN x.2.2.2.1 x.2.2.1 vb k = 3 ∨ updN x.2.2.2.1 x.2.2.1 vb k = 4 → (Y.2.1 (T + 4)).getD k 0 = nI (updN x.2.2.2.2.2 x.2.2.1 b k))
  by_cases hq : k = x.2.2.1
  · rw [hq, updN_a, updN_a, updN_a, e2, set_eq (by omega)]
    refine ⟨rfl, fun h2 => ?_, fun h2 => ?_⟩
    · rcases e3 with e3 | e3
      · exact absurd e3.2 (by omega)
      · rw [e3, set_eq (by omega)]
    · rcases e4 with e4 | e4
      · exact absurd h2 e4.2
      · rw [e4, set_eq (by omega)]
  · obtain ⟨g1, g2, g3⟩ := h k (by omega)
    rw [updN_n hq, updN_n hq, updN_n hq, e2, set_ne (Ne.symm hq)]
    refine ⟨g1, fun h2 => ?_, fun h2 => ?_⟩
    · rcases e3 with e3 | e3
      · rw [e3.1]; exact g2 h2
      · rw [e3, set_ne (Ne.symm hq)]; exact g2 h2
    · rcases e4 with e4 | e4
      · rw [e4.1]; exact g3 h2
      · rw [e4, set_ne (Ne.symm hq)]; exact g3 h2
theorem okT_add {x : TX} {vb : Nat} {D : Option (Env → Int)} {p : Nat × Nat} (hK : x.2.2.1 < 24) (h : okT x) (h7 : vb < 7) (hb : dkB vb p) (hD : vb = 1 → ∀ d, D = some d → ∀ (m : Nat) (st : Nat → Nat) (y f k : Nat) (w w' : Int), d (m, st, y, f, k, w) = d (m, st, y, f, k, w')) : okT (addT x vb D p.1 p.2) := by
  obtain ⟨h1, h2, h3⟩ := h
  refine ⟨hK, fun k hk => ?_, fun d hd => ?_⟩
  · have hk' : k < x.2.2.1 + 1 := hk
    show updN x.2.2.2.1 x.2.2.1 vb k < 7 ∧ (updN x.2.2.2.1 x.2.2.1 vb k = 2 → updN x.2.2.2.2.1 x.2.2.1 p.1 k < 1048576) ∧ (updN x.2.2.2.1 x.2.2.1 vb k = 3 ∨ updN x.2.2.2.1 x.2.2.1 vb k = 4 → updN x.2.2.2.2.1 x.2.2.1 p.1 k < 20 ∧ updN x.2.2.2.2.2 x.2.2.1 p.2 k < 8) ∧ (updN x.2.2.2.1 x.2.2.1 vb k = 5 → updN x.2.2.2.2.1 x.2.2.1 p.1 k < 8) ∧ (updN x.2.2.2.1 x.2.2.1 vb k = 6 → 1 ≤ updN x.2.2.2.2.1 x.2.2.1 p.1 k ∧ updN x.2.2.2.2.1 x.2.2.1 p.1 k ≤ 60)
    by_cases hq : k = x.2.2.1
    · rw [hq, updN_a, updN_a, updN_a]
      exact ⟨h7, hb.1, hb.2.1, hb.2.2.1, hb.2.2.2⟩
    · rw [updN_n hq, updN_n hq, updN_n hq]
      exact h2 k (by omega)
  · have hd2 : (if vb = 1 then D else x.2.1) = some d := hd
    by_cases hv : vb = 1
    · rw [if_pos hv] at hd2
      exact hD hv d hd2
    · rw [if_neg hv] at hd2
      exact h3 d hd2
theorem pCl_m {B : Nat → Nat} {x : TX} {j : Nat} (h1 : ¬ 6 < tk_ B j) (h2 : ¬ ((tk_ B j = 0 ∧ x.1.isSome = true) ∨ (tk_ B j = 1 ∧ x.2.1.isSome = true))) (h3 : ¬ 24 ≤ x.2.2.1) : pClause (tkT B) x j = bnd (pBody (tkT B) x (tk_ B j) (j + 1)) (fun j2 y => bnd (pExp (tkT B) 42 j2) (fun j3 _ => .inr (j3, y))) := by
  unfold pClause
  rw [if_neg (show ¬ 6 < (tkT B).1 j from h1), if_neg (show ¬ (((tkT B).1 j = 0 ∧ x.1.isSome = true) ∨ ((tkT B).1 j = 1 ∧ x.2.1.isSome = true)) from h2), if_neg h3]
  rfl
theorem pB_0 {T : TS} {x : TX} {j : Nat} : pBody T x 0 j = bnd (pSum T (lev T true 8).1 j) (fun j2 v => .inr (j2, addT x 0 (some v) 0 0)) := rfl
theorem pB_1 {T : TS} {x : TX} {j : Nat} : pBody T x 1 j = bnd (pSum T (lev T false 8).1 j) (fun j2 v => .inr (j2, addT x 1 (some v) 0 0)) := rfl
theorem pB_d {T : TS} {x : TX} {vb j : Nat} (h : 2 ≤ vb) : pBody T x vb j = bnd (pDeed T vb j) (fun j2 p => .inr (j2, addT x vb none p.1 p.2)) := if_neg (by omega)
theorem dkB_0 {vb : Nat} (h : vb < 2) : dkB vb (0, 0) := ⟨fun z => by omega, fun z => by omega, fun z => by omega, fun z => by omega⟩
theorem tl24 {X : Mem} {T : Nat} (hX : Ok X) (hk : kd T = 5) : (X.2.1 (T + 2)).length = 24 ∧ (X.2.1 (T + 3)).length = 24 ∧ (X.2.1 (T + 4)).length = 24 := by
  have tf := txt_f hk
  exact ⟨(hX.1 (T + 2) (by omega)).trans tf.2.2.1.2.1, (hX.1 (T + 3) (by omega)).trans tf.2.2.1.2.2.1, (hX.1 (T + 4) (by omega)).trans tf.2.2.1.2.2.2⟩
theorem X1_f {X : Mem} {B : Nat → Nat} {T v j K : Nat} (ht : T ≠ 11) : (∀ k, k ≠ 8 → ((adX (pF (pA X (T + 2) ((X.2.1 (T + 2)).set K (nI v))) T 8 (nI (K + 1))) B j)).1 T k = X.1 T k) ∧ ((adX (pF (pA X (T + 2) ((X.2.1 (T + 2)).set K (nI v))) T 8 (nI (K + 1))) B j)).1 T 8 = nI (K + 1) ∧ ((adX (pF (pA X (T + 2) ((X.2.1 (T + 2)).set K (nI v))) T 8 (nI (K + 1))) B j)).2.1 (T + 2) = (X.2.1 (T + 2)).set K (nI v) ∧ (∀ a, a ≠ T + 2 → ((adX (pF (pA X (T + 2) ((X.2.1 (T + 2)).set K (nI v))) T 8 (nI (K + 1))) B j)).2.1 a = X.2.1 a) := ⟨fun k hk => (pF_o ht).trans ((pF_o ht).trans (pF_k hk)), (pF_o ht).trans ((pF_o ht).trans pF_at), pA_at, fun a ha => if_neg ha⟩
theorem CTn_law_t {X Y0 Y : Mem} {B : Nat → Nat} {T j c c2 v : Nat} {x : TX} {D : Env → Int} {wv : Int32} (hX : Ok X) (hk : kd T = 5) (hK : x.2.2.1 < 24) (h : CTn X T c x) (hv : v = 0) (h0 : offL T (pF (adX (pF (pA X (T + 2) ((X.2.1 (T + 2)).set x.2.2.1 (nI v))) T 8 (nI (x.2.2.1 + 1))) B j) 11 3 wv) Y0) (hY : Y = pF (pF (pF Y0 T 2 (b2i true)) T 3 (nI c)) T 4 (nI c2)) (hcl : ∀ p, p < c → (Y0.2.1 (T + 1)).getD p 0 = (((adX (pF (pA X (T + 2) ((X.2.1 (T + 2)).set x.2.2.1 (nI v))) T 8 (nI (x.2.2.1 + 1))) B j)).2.1 (T + 1)).getD p 0) (hG : GdC T true Y c c2 D) (hcc : c ≤ c2) : CTn Y T c2 (addT x 0 (some D) 0 0) := by
  have ht := tx_ne hk
  have hf := X1_f (X := X) (B := B) (v := v) (j := j) (K := x.2.2.1) (show T ≠ 11 by omega)
  have hl := tl24 hX hk
  obtain ⟨h1, h2, h3, h4, h5⟩ := h
  have e1 : ∀ k, k ≠ 2 → k ≠ 3 → k ≠ 4 → k ≠ 1 → k ≠ 8 → Y.1 T k = X.1 T k := fun k q1 q2 q3 q4 q5 => by
    rw [hY, pF_k q3, pF_k q2, pF_k q1, h0.1 T k (by omega) (by omega), pF_o (by omega), hf.1 k q5]
  have e8 : Y.1 T 8 = nI (x.2.2.1 + 1) := by rw [hY, pF_k (by decide), pF_k (by decide), pF_k (by decide), h0.1 T 8 (by omega) (by omega), pF_o (by omega), hf.2.1]
  have ea : ∀ a, a ≠ T + 1 → Y.2.1 a = ((adX (pF (pA X (T + 2) ((X.2.1 (T + 2)).set x.2.2.1 (nI v))) T 8 (nI (x.2.2.1 + 1))) B j)).2.1 a := fun a q => by rw [hY]; exact h0.2.1 a q
  have ec : ∀ p, p < c → (Y.2.1 (T + 1)).getD p 0 = (X.2.1 (T + 1)).getD p 0 := fun p hp => by
    rw [hY, show (pF (pF (pF Y0 T 2 (b2i true)) T 3 (nI c)) T 4 (nI c2)).2.1 (T + 1) = Y0.2.1 (T + 1) from rfl, hcl p hp, hf.2.2.2 (T + 1) (by omega)]
  have hn : LwC Y T 2 true c2 (some D) := ⟨by rw [hY, pF_k (by decide), pF_k (by decide), pF_at]; rfl, fun d hd => by
    cases hd
    exact ⟨c, c2, by rw [hY, pF_k (by decide), pF_at], by rw [hY, pF_at], hcc, Nat.le_refl _, hG⟩⟩
  have ho : LwC Y T 5 false c2 x.2.1 := LwC_e h3 (e1 _ (by decide) (by decide) (by decide) (by decide) (by decide)) (e1 _ (by decide) (by decide) (by decide) (by decide) (by decide)) (e1 _ (by decide) (by decide) (by decide) (by decide) (by decide)) ec hcc
  refine ⟨okT_add (p := (0, 0)) hK h1 (by decide) (dkB_0 (by decide)) (fun z d hd => ?_), hn, ho, e8, ClC_add hl hK h5 ?_ (Or.inl ⟨?_, by decide⟩) (Or.inl ⟨?_, by decide⟩)⟩
  · exact absurd z (by decide)
  · rw [ea _ (by omega), hf.2.2.1, hv]
  · rw [ea _ (by omega), hf.2.2.2 _ (by omega)]
  · rw [ea _ (by omega), hf.2.2.2 _ (by omega)]
theorem CTn_law_f {X Y0 Y : Mem} {B : Nat → Nat} {T j c c2 v : Nat} {x : TX} {D : Env → Int} {wv : Int32} (hX : Ok X) (hk : kd T = 5) (hK : x.2.2.1 < 24) (h : CTn X T c x) (hv : v = 1) (h0 : offL T (pF (adX (pF (pA X (T + 2) ((X.2.1 (T + 2)).set x.2.2.1 (nI v))) T 8 (nI (x.2.2.1 + 1))) B j) 11 3 wv) Y0) (hY : Y = pF (pF (pF Y0 T 5 (b2i true)) T 6 (nI c)) T 7 (nI c2)) (hcl : ∀ p, p < c → (Y0.2.1 (T + 1)).getD p 0 = (((adX (pF (pA X (T + 2) ((X.2.1 (T + 2)).set x.2.2.1 (nI v))) T 8 (nI (x.2.2.1 + 1))) B j)).2.1 (T + 1)).getD p 0) (hG : GdC T false Y c c2 D) (hcc : c ≤ c2) : CTn Y T c2 (addT x 1 (some D) 0 0) := by
  have ht := tx_ne hk
  have hf := X1_f (X := X) (B := B) (v := v) (j := j) (K := x.2.2.1) (show T ≠ 11 by omega)
  have hl := tl24 hX hk
  obtain ⟨h1, h2, h3, h4, h5⟩ := h
  have e1 : ∀ k, k ≠ 5 → k ≠ 6 → k ≠ 7 → k ≠ 1 → k ≠ 8 → Y.1 T k = X.1 T k := fun k q1 q2 q3 q4 q5 => by
    rw [hY, pF_k q3, pF_k q2, pF_k q1, h0.1 T k (by omega) (by omega), pF_o (by omega), hf.1 k q5]
  have e8 : Y.1 T 8 = nI (x.2.2.1 + 1) := by rw [hY, pF_k (by decide), pF_k (by decide), pF_k (by decide), h0.1 T 8 (by omega) (by omega), pF_o (by omega), hf.2.1]
  have ea : ∀ a, a ≠ T + 1 → Y.2.1 a = ((adX (pF (pA X (T + 2) ((X.2.1 (T + 2)).set x.2.2.1 (nI v))) T 8 (nI (x.2.2.1 + 1))) B j)).2.1 a := fun a q => by rw [hY]; exact h0.2.1 a q
  have ec : ∀ p, p < c → (Y.2.1 (T + 1)).getD p 0 = (X.2.1 (T + 1)).getD p 0 := fun p hp => by
    rw [hY, show (pF (pF (pF Y0 T 5 (b2i true)) T 6 (nI c)) T 7 (nI c2)).2.1 (T + 1) = Y0.2.1 (T + 1) from rfl, hcl p hp, hf.2.2.2 (T + 1) (by omega)]
  have hn : LwC Y T 5 false c2 (some D) := ⟨by rw [hY, pF_k (by decide), pF_k (by decide), pF_at]; rfl, fun d hd => by
    cases hd
    exact ⟨c, c2, by rw [hY, pF_k (by decide), pF_at], by rw [hY, pF_at], hcc, Nat.le_refl _, hG⟩⟩
  have ho : LwC Y T 2 true c2 x.1 := LwC_e h2 (e1 _ (by decide) (by decide) (by decide) (by decide) (by decide)) (e1 _ (by decide) (by decide) (by decide) (by decide) (by decide)) (e1 _ (by decide) (by decide) (by decide) (by decide) (by decide)) ec hcc
  refine ⟨okT_add (p := (0, 0)) hK h1 (by decide) (dkB_0 (by decide)) (fun z d hd => ?_), ho, hn, e8, ClC_add hl hK h5 ?_ (Or.inl ⟨?_, by decide⟩) (Or.inl ⟨?_, by decide⟩)⟩
  · cases hd
    obtain ⟨cw, _, _, h9⟩ := hG
    exact h9 rfl
  · rw [ea _ (by omega), hf.2.2.1, hv]
  · rw [ea _ (by omega), hf.2.2.2 _ (by omega)]
  · rw [ea _ (by omega), hf.2.2.2 _ (by omega)]
theorem CTn_deed {X Y : Mem} {B : Nat → Nat} {N T j c v : Nat} {w : Bool} {x : TX} {q : Nat × (Nat × Nat)} (hX : Ok X) (hk : kd T = 5) (hK : x.2.2.1 < 24) (h : CTn X T c x) (h2v : 2 ≤ v) (h6v : v ≤ 6) (hq : DeedC v x.2.2.1 B N T (j + 1) c w (adX (pF (pA X (T + 2) ((X.2.1 (T + 2)).set x.2.2.1 (nI v))) T 8 (nI (x.2.2.1 + 1))) B j) Y q) : CTn Y T c (addT x v none q.2.1 q.2.2) := by
  have ht := tx_ne hk
  have hf := X1_f (X := X) (B := B) (v := v) (j := j) (K := x.2.2.1) (show T ≠ 11 by omega)
  have hl := tl24 hX hk
  obtain ⟨h1, h2, h3, h4, h5⟩ := h
  obtain ⟨d1, d2, d3, d4, d5, d6, d7, d8⟩ := hq
  have e1 : ∀ k, k ≠ 1 → k ≠ 8 → Y.1 T k = X.1 T k := fun k q1 q2 => by rw [d2.1 T k (by omega) (by omega), hf.1 k q2]
  have ec : ∀ p, p < c → (Y.2.1 (T + 1)).getD p 0 = (X.2.1 (T + 1)).getD p 0 := fun p hp => by rw [d5, hf.2.2.2 (T + 1) (by omega)]
  refine ⟨okT_add (p := q.2) hK h1 (by omega) d1 (fun z => absurd z (by omega)), ?_, ?_, ?_, ClC_add hl hK h5 ?_ (Or.inr ?_) ?_⟩
  · rw [show (addT x v none q.2.1 q.2.2).1 = x.1 from if_neg (by omega)]
    exact LwC_e h2 (e1 _ (by decide) (by decide)) (e1 _ (by decide) (by decide)) (e1 _ (by decide) (by decide)) ec (Nat.le_refl _)
  · rw [show (addT x v none q.2.1 q.2.2).2.1 = x.2.1 from if_neg (by omega)]
    exact LwC_e h3 (e1 _ (by decide) (by decide)) (e1 _ (by decide) (by decide)) (e1 _ (by decide) (by decide)) ec (Nat.le_refl _)
  · rw [d2.1 T 8 (by omega) (by omega), hf.2.1]; rfl
  · rw [d2.2.1 _ (by omega) (by omega) (by omega), hf.2.2.1]
  · rw [d6, hf.2.2.2 _ (by omega)]
  · by_cases hz : v = 3 ∨ v = 4
    · exact Or.inr (by rw [d7 hz, hf.2.2.2 _ (by omega)])
    · exact Or.inl ⟨by rw [d8 hz, hf.2.2.2 _ (by omega)], hz⟩
theorem S_D_readDeed {X : Mem} {B : Nat → Nat} {N T j c kk vb : Nat} {w : Bool} (hX : Ok X) (hL : Lv X B N T j c w) (hkk : kk < 24) (h2 : 2 ≤ vb) (h6 : vb ≤ 6) : CM 28 m_D_readDeed [.ref 11, .int (nI vb), .int (nI kk)] X (fun r Y => r = none ∧ Ok Y ∧ offC T X Y ∧ (match pDeed (tkT B) vb j with
  | .inl q => Dd Y B N T q.1 (stT B q.2)
  | .inr q => DeedC vb kk B N T j c w X Y q)) := by
  have hc : vb = 2 ∨ vb = 3 ∨ vb = 4 ∨ vb = 5 ∨ vb = 6 := by omega
  rcases hc with rfl | rfl | rfl | rfl | rfl
  · exact S_D_readDeed_2 hX hL hkk
  · exact S_D_readDeed_3 hX hL hkk
  · exact S_D_readDeed_4 hX hL hkk
  · exact S_D_readDeed_5 hX hL hkk
  · exact S_D_readDeed_6 hX hL hkk
theorem S_D_readClause {X : Mem} {B : Nat → Nat} {N T j c : Nat} {w : Bool} {x : TX} (hX : Ok X) (hL : Lv X B N T j c w) (hC : CTn X T c x) (hcj : c ≤ j) (h46 : tk_ B j ≠ 46) : CM 71 m_D_readClause [.ref 11] X (fun r Y => r = none ∧ Ok Y ∧ offC T X Y ∧ (match pClause (tkT B) x j with
  | .inl q => Dd Y B N T q.1 (stT B q.2)
  | .inr q => ∃ c2 w2, Lv Y B N T q.1 c2 w2 ∧ c2 ≤ q.1 ∧ j < q.1 ∧ CTn Y T c2 q.2)) := by
  have hkT := hL.1.2.1
  have h300 := hL.1.1.1
  have hjN := hL.2.1
  have hlt := tk_lt B j
  have hjl := Lv_N hL
  have tf := txt_f hkT
  have h24 := hC.1.1
  refine CM_of (L := [some (.ref 11), none, none]) 2 ok_D_readClause (fun _ => Nat.le_of_ble_eq_true rfl) rfl ?_
  refine J_aload_n (i := 0) d_D_readClause_0 rfl rfl ?_
  refine M_get (x := (nI (tk_ B j))) d_D_readClause_1 f_D_32 rfl rfl hL.2.2.2.1 ?_
  refine J_istore_n (i := 1) (L1 := [some (.ref 11), some (.int (nI (tk_ B j))), none]) d_D_readClause_4 rfl (by decide) rfl ?_
  refine J_iload_n (i := 1) d_D_readClause_5 rfl rfl ?_
  refine J_bipush (v := nI 6) d_D_readClause_6 rfl ?_
  refine N_icmp_le (tgt := 19) d_D_readClause_8 (by decide) (by omega) (by omega) (fun c8 => ?_) (fun c8 => ?_)
  · refine J_iload_n (i := 1) d_D_readClause_19 rfl rfl ?_
    refine N_if_ne (tgt := 33) d_D_readClause_20 (by decide) (by omega) (fun c20 => ?_) (fun c20 => ?_)
    · refine J_iload_n (i := 1) d_D_readClause_33 rfl rfl ?_
      refine J_iconst (v := nI 1) d_D_readClause_34 rfl ?_
      refine N_icmp_ne (tgt := 56) d_D_readClause_35 (by decide) (by omega) (by omega) (fun c35 => ?_) (fun c35 => ?_)
      · refine J_aload_n (i := 0) d_D_readClause_56 rfl rfl ?_
        refine M_getI (b := T) d_D_readClause_57 f_D_34 rfl rfl hL.1.2.2 ?_
        refine M_get (x := (nI x.2.2.1)) d_D_readClause_60 f_D_70 hkT rfl hC.2.2.2.1 ?_
        refine J_bipush (v := nI 24) d_D_readClause_63 rfl ?_
        refine N_icmp_lt (tgt := 77) d_D_readClause_65 (by decide) (by omega) (by omega) (fun c65 => ?_) (fun c65 => ?_)
        · refine J_aload_n (i := 0) d_D_readClause_77 rfl rfl ?_
          refine M_getI (b := T) d_D_readClause_78 f_D_34 rfl rfl hL.1.2.2 ?_
          refine M_get (x := (nI x.2.2.1)) d_D_readClause_81 f_D_70 hkT rfl hC.2.2.2.1 ?_
          refine J_istore_n (i := 2) (L1 := [some (.ref 11), some (.int (nI (tk_ B j))), some (.int (nI x.2.2.1))]) d_D_readClause_84 rfl (by decide) rfl ?_
          refine J_aload_n (i := 0) d_D_readClause_85 rfl rfl ?_
          refine M_getI (b := T) d_D_readClause_86 f_D_34 rfl rfl hL.1.2.2 ?_
          refine M_getR (b := (T + 2)) d_D_readClause_89 f_D_73 hkT rfl tf.1.2.1 ?_
          refine J_iload_n (i := 2) d_D_readClause_92 rfl rfl ?_
          refine J_iload_n (i := 1) d_D_readClause_93 rfl rfl ?_
          refine N_iast d_D_readClause_94 tf.2.1.2.1 (by omega) (by omega) (by rw [hX.1 (T + 2) (by omega), tf.2.2.1.2.1]; omega) ?_
          have hL1 := Lv_A (a := T + 2) (l := ((X.2.1 (T + 2)).set x.2.2.1 (nI (tk_ B j)))) hL (by omega) (by omega)
          refine J_aload_n (i := 0) d_D_readClause_95 rfl rfl ?_
          refine M_getI (b := T) d_D_readClause_96 f_D_34 rfl rfl hL1.1.2.2 ?_
          refine J_dup d_D_readClause_99 rfl ?_
          refine M_get (x := (nI x.2.2.1)) d_D_readClause_100 f_D_70 hkT rfl hC.2.2.2.1 ?_
          refine J_iconst (v := nI 1) d_D_readClause_103 rfl ?_
          refine N_iadd d_D_readClause_104 ?_
          refine M_put d_D_readClause_105 p_D_70 hkT rfl rfl rfl ?_
          have hL2 := Lv_T (k := 8) (v := nI (x.2.2.1 + 1)) hL1 (by decide)
          refine J_aload_n (i := 0) d_D_readClause_108 rfl rfl ?_
          refine CV_V (av := []) d_D_readClause_109 s_D_54 (M_rcv rfl (by decide) rfl) (S_D_advance (okF (okS hX tf.2.2.2.1.2.1)) hL2 (show tk_ B j ≠ 46 by omega)) (by omega) rfl rfl (Nat.le_of_ble_eq_true rfl) ?_
          have hL3 := ad_Lv hL2 (show tk_ B j ≠ 46 by omega)
          refine J_iload_n (i := 1) d_D_readClause_112 rfl rfl ?_
          refine N_if_eq (tgt := 121) d_D_readClause_113 (by decide) (by omega) (fun c113 => absurd c113 (by omega)) (fun c113 => ?_)
          refine J_iload_n (i := 1) d_D_readClause_116 rfl rfl ?_
          refine J_iconst (v := nI 1) d_D_readClause_117 rfl ?_
          refine N_icmp_ne (tgt := 137) d_D_readClause_118 (by decide) (by omega) (by omega) (fun c118 => ?_) (fun c118 => absurd c118 (by omega))
          refine J_aload_n (i := 0) d_D_readClause_137 rfl rfl ?_
          refine J_iload_n (i := 1) d_D_readClause_138 rfl rfl ?_
          refine J_iload_n (i := 2) d_D_readClause_139 rfl rfl ?_
          refine M_callV (av := [.int (nI (tk_ B j)), .int (nI x.2.2.1)]) d_D_readClause_140 s_D_80 (M_rcv rfl (by decide) rfl) (S_D_readDeed (ad_Ok (okF (okS hX tf.2.2.2.1.2.1))) hL3 (show x.2.2.1 < 24 by omega) (by omega) (by omega)) (by omega) rfl rfl (Nat.le_of_ble_eq_true rfl) (fun r4 Y4 hq4 => ?_)
          obtain ⟨rfl, hY4, ho4, hq4⟩ := hq4
          rcases hr4 : pDeed (tkT B) (tk_ B j) (j + 1) with q4 | q4
          · rw [hr4] at hq4
            have hD4 : Dd Y4 B N T q4.1 (stT B q4.2) := hq4
            have hf4 := hD4.2.2.2.2.1
            refine J_aload_n (i := 0) d_D_readClause_143 rfl rfl ?_
            refine J_bipush (v := nI 42) d_D_readClause_144 rfl ?_
            refine CV_V (av := [.int (nI 42)]) d_D_readClause_146 s_D_84 (M_rcv rfl (by decide) rfl) (S_D_expect_d hY4 hD4 (show 42 < 46 by omega)) (by omega) rfl rfl (Nat.le_of_ble_eq_true rfl) ?_
            refine M_vr d_D_readClause_149 rfl ?_
            have h2 := (show ¬ ((tk_ B j = 0 ∧ x.1.isSome = true) ∨ (tk_ B j = 1 ∧ x.2.1.isSome = true)) from fun z => by
                  rcases z with ⟨z1, z2⟩ | ⟨z1, z2⟩
                  · omega
                  · omega)
            have e : pClause (tkT B) x j = .inl q4 := by rw [pCl_m (show ¬ 6 < tk_ B j by omega) h2 (show ¬ 24 ≤ x.2.2.1 by omega), pB_d (show 2 ≤ tk_ B j by omega), hr4]; rfl
            rw [e]
            exact ⟨rfl, hY4, offC_t (offC_t (offC_t (offC_t (offC_t (offC_t (offC_t (offC_0 T X) (offC_L (offL_0 T X))) (offC_A (by omega) (by omega))) (offC_L (offL_0 T (pA X (T + 2) ((X.2.1 (T + 2)).set x.2.2.1 (nI (tk_ B j))))))) offC_T) (offC_L (offL_t (offL_0 T (pF (pA X (T + 2) ((X.2.1 (T + 2)).set x.2.2.1 (nI (tk_ B j)))) T 8 (nI (x.2.2.1 + 1)))) (ad_off (j := j))))) ho4) (offC_L (offL_0 T Y4)), hD4⟩
          · rw [hr4] at hq4
            have hG4 : DeedC (tk_ B j) x.2.2.1 B N T (j + 1) c w (adX (pF (pA X (T + 2) ((X.2.1 (T + 2)).set x.2.2.1 (nI (tk_ B j)))) T 8 (nI (x.2.2.1 + 1))) B j) Y4 q4 := hq4
            have hL4 := hG4.2.2.1
            have lb4 := hG4.2.2.2.1
            have hN4 := hL4.2.1
            have hlt4 := tk_lt B q4.1
            refine J_aload_n (i := 0) d_D_readClause_143 rfl rfl ?_
            refine J_bipush (v := nI 42) d_D_readClause_144 rfl ?_
            refine CV_V (av := [.int (nI 42)]) d_D_readClause_146 s_D_84 (M_rcv rfl (by decide) rfl) (S_D_expect hY4 hL4 (show 42 < 46 by omega)) (by omega) rfl rfl (Nat.le_of_ble_eq_true rfl) ?_
            by_cases hx5 : tk_ B q4.1 = 42
            · rw [show exX Y4 B q4.1 42 = adX Y4 B q4.1 from if_pos hx5]
              have hL5 := ad_Lv hL4 (show tk_ B q4.1 ≠ 46 by omega)
              refine M_vr d_D_readClause_149 rfl ?_
              have h2 := (show ¬ ((tk_ B j = 0 ∧ x.1.isSome = true) ∨ (tk_ B j = 1 ∧ x.2.1.isSome = true)) from fun z => by
                    rcases z with ⟨z1, z2⟩ | ⟨z1, z2⟩
                    · omega
                    · omega)
              have e : pClause (tkT B) x j = .inr (q4.1 + 1, addT x (tk_ B j) none q4.2.1 q4.2.2) := by rw [pCl_m (show ¬ 6 < tk_ B j by omega) h2 (show ¬ 24 ≤ x.2.2.1 by omega), pB_d (show 2 ≤ tk_ B j by omega), hr4, bnd_r, bnd_r, ex_t hx5]; rfl
              rw [e]
              exact ⟨rfl, (ad_Ok hY4), offC_t (offC_t (offC_t (offC_t (offC_t (offC_t (offC_t (offC_0 T X) (offC_L (offL_0 T X))) (offC_A (by omega) (by omega))) (offC_L (offL_0 T (pA X (T + 2) ((X.2.1 (T + 2)).set x.2.2.1 (nI (tk_ B j))))))) offC_T) (offC_L (offL_t (offL_0 T (pF (pA X (T + 2) ((X.2.1 (T + 2)).set x.2.2.1 (nI (tk_ B j)))) T 8 (nI (x.2.2.1 + 1)))) (ad_off (j := j))))) ho4) (offC_L (offL_t (offL_0 T Y4) (ad_off (j := q4.1)))), c, _, hL5, by omega, by omega, CTn_ad (by omega) (CTn_deed hX hkT (show x.2.2.1 < 24 by omega) hC (show 2 ≤ tk_ B j by omega) (show tk_ B j ≤ 6 by omega) hG4)⟩
            · rw [show exX Y4 B q4.1 42 = rfX Y4 1 (stT B q4.1) from if_neg hx5]
              have hD5 := rf_Dd (f := 1) (p := stT B q4.1) hL4 (by decide) (by decide)
              refine M_vr d_D_readClause_149 rfl ?_
              have h2 := (show ¬ ((tk_ B j = 0 ∧ x.1.isSome = true) ∨ (tk_ B j = 1 ∧ x.2.1.isSome = true)) from fun z => by
                    rcases z with ⟨z1, z2⟩ | ⟨z1, z2⟩
                    · omega
                    · omega)
              have e : pClause (tkT B) x j = .inl (1, q4.1) := by rw [pCl_m (show ¬ 6 < tk_ B j by omega) h2 (show ¬ 24 ≤ x.2.2.1 by omega), pB_d (show 2 ≤ tk_ B j by omega), hr4, bnd_r, bnd_r, ex_f hx5]; rfl
              rw [e]
              exact ⟨rfl, (rf_Ok hY4), offC_t (offC_t (offC_t (offC_t (offC_t (offC_t (offC_t (offC_0 T X) (offC_L (offL_0 T X))) (offC_A (by omega) (by omega))) (offC_L (offL_0 T (pA X (T + 2) ((X.2.1 (T + 2)).set x.2.2.1 (nI (tk_ B j))))))) offC_T) (offC_L (offL_t (offL_0 T (pF (pA X (T + 2) ((X.2.1 (T + 2)).set x.2.2.1 (nI (tk_ B j)))) T 8 (nI (x.2.2.1 + 1)))) (ad_off (j := j))))) ho4) (offC_L (offL_t (offL_0 T Y4) rf_off)), hD5⟩
        · refine J_aload_n (i := 0) d_D_readClause_68 rfl rfl ?_
          refine J_bipush (v := nI 6) d_D_readClause_69 rfl ?_
          refine CV_V (av := [.int (nI 6)]) d_D_readClause_71 s_D_57 (M_rcv rfl (by decide) rfl) (S_D_refuse hX hL) (by omega) rfl rfl (Nat.le_of_ble_eq_true rfl) ?_
          have hD1 := rf_Dd (f := 6) (p := stT B j) hL (by decide) (by decide)
          refine J_goto (tgt := 149) d_D_readClause_74 (by decide) ?_
          refine M_vr d_D_readClause_149 rfl ?_
          have h2 := (show ¬ ((tk_ B j = 0 ∧ x.1.isSome = true) ∨ (tk_ B j = 1 ∧ x.2.1.isSome = true)) from fun z => by
                rcases z with ⟨z1, z2⟩ | ⟨z1, z2⟩
                · omega
                · omega)
          have e : pClause (tkT B) x j = .inl (6, j) := (if_neg (show ¬ 6 < tk_ B j by omega)).trans ((if_neg h2).trans (if_pos (show 24 ≤ x.2.2.1 by omega)))
          rw [e]
          exact ⟨rfl, (rf_Ok hX), offC_t (offC_0 T X) (offC_L (offL_t (offL_0 T X) rf_off)), hD1⟩
      · refine J_aload_n (i := 0) d_D_readClause_38 rfl rfl ?_
        refine M_getI (b := T) d_D_readClause_39 f_D_34 rfl rfl hL.1.2.2 ?_
        refine M_get (x := (b2i x.2.1.isSome)) d_D_readClause_42 f_D_67 hkT rfl hC.2.2.1.1 ?_
        refine B_if_eq (tgt := 56) d_D_readClause_45 (by decide) (fun c45 => ?_) (fun c45 => ?_)
        · refine J_aload_n (i := 0) d_D_readClause_56 rfl rfl ?_
          refine M_getI (b := T) d_D_readClause_57 f_D_34 rfl rfl hL.1.2.2 ?_
          refine M_get (x := (nI x.2.2.1)) d_D_readClause_60 f_D_70 hkT rfl hC.2.2.2.1 ?_
          refine J_bipush (v := nI 24) d_D_readClause_63 rfl ?_
          refine N_icmp_lt (tgt := 77) d_D_readClause_65 (by decide) (by omega) (by omega) (fun c65 => ?_) (fun c65 => ?_)
          · refine J_aload_n (i := 0) d_D_readClause_77 rfl rfl ?_
            refine M_getI (b := T) d_D_readClause_78 f_D_34 rfl rfl hL.1.2.2 ?_
            refine M_get (x := (nI x.2.2.1)) d_D_readClause_81 f_D_70 hkT rfl hC.2.2.2.1 ?_
            refine J_istore_n (i := 2) (L1 := [some (.ref 11), some (.int (nI (tk_ B j))), some (.int (nI x.2.2.1))]) d_D_readClause_84 rfl (by decide) rfl ?_
            refine J_aload_n (i := 0) d_D_readClause_85 rfl rfl ?_
            refine M_getI (b := T) d_D_readClause_86 f_D_34 rfl rfl hL.1.2.2 ?_
            refine M_getR (b := (T + 2)) d_D_readClause_89 f_D_73 hkT rfl tf.1.2.1 ?_
            refine J_iload_n (i := 2) d_D_readClause_92 rfl rfl ?_
            refine J_iload_n (i := 1) d_D_readClause_93 rfl rfl ?_
            refine N_iast d_D_readClause_94 tf.2.1.2.1 (by omega) (by omega) (by rw [hX.1 (T + 2) (by omega), tf.2.2.1.2.1]; omega) ?_
            have hL1 := Lv_A (a := T + 2) (l := ((X.2.1 (T + 2)).set x.2.2.1 (nI (tk_ B j)))) hL (by omega) (by omega)
            refine J_aload_n (i := 0) d_D_readClause_95 rfl rfl ?_
            refine M_getI (b := T) d_D_readClause_96 f_D_34 rfl rfl hL1.1.2.2 ?_
            refine J_dup d_D_readClause_99 rfl ?_
            refine M_get (x := (nI x.2.2.1)) d_D_readClause_100 f_D_70 hkT rfl hC.2.2.2.1 ?_
            refine J_iconst (v := nI 1) d_D_readClause_103 rfl ?_
            refine N_iadd d_D_readClause_104 ?_
            refine M_put d_D_readClause_105 p_D_70 hkT rfl rfl rfl ?_
            have hL2 := Lv_T (k := 8) (v := nI (x.2.2.1 + 1)) hL1 (by decide)
            refine J_aload_n (i := 0) d_D_readClause_108 rfl rfl ?_
            refine CV_V (av := []) d_D_readClause_109 s_D_54 (M_rcv rfl (by decide) rfl) (S_D_advance (okF (okS hX tf.2.2.2.1.2.1)) hL2 (show tk_ B j ≠ 46 by omega)) (by omega) rfl rfl (Nat.le_of_ble_eq_true rfl) ?_
            have hL3 := ad_Lv hL2 (show tk_ B j ≠ 46 by omega)
            refine J_iload_n (i := 1) d_D_readClause_112 rfl rfl ?_
            refine N_if_eq (tgt := 121) d_D_readClause_113 (by decide) (by omega) (fun c113 => absurd c113 (by omega)) (fun c113 => ?_)
            refine J_iload_n (i := 1) d_D_readClause_116 rfl rfl ?_
            refine J_iconst (v := nI 1) d_D_readClause_117 rfl ?_
            refine N_icmp_ne (tgt := 137) d_D_readClause_118 (by decide) (by omega) (by omega) (fun c118 => absurd c118 (by omega)) (fun c118 => ?_)
            refine J_aload_n (i := 0) d_D_readClause_121 rfl rfl ?_
            refine J_iload_n (i := 1) d_D_readClause_122 rfl rfl ?_
            refine N_if_ne (tgt := 130) d_D_readClause_123 (by decide) (by omega) (fun c123 => ?_) (fun c123 => absurd c123 (by omega))
            refine J_iconst (v := nI 0) d_D_readClause_130 rfl ?_
            refine J.eq (st1 := [.int (b2i false), .ref 11]) ?_ rfl rfl rfl
            refine M_callV (av := [.int (b2i false)]) d_D_readClause_131 s_D_76 (M_rcv rfl (by decide) rfl) (S_D_readLaw_f (ad_Ok (okF (okS hX tf.2.2.2.1.2.1))) hL3 (show c ≤ j + 1 by omega)) (by omega) rfl rfl (Nat.le_of_ble_eq_true rfl) (fun r4 Y4 hq4 => ?_)
            obtain ⟨rfl, hY4, ho4, hq4⟩ := hq4
            rcases hr4 : pSum (tkT B) (lev (tkT B) false 8).1 (j + 1) with q4 | q4
            · rw [hr4] at hq4
              have hD4 : Dd Y4 B N T q4.1 (stT B q4.2) := hq4
              have hf4 := hD4.2.2.2.2.1
              refine J_goto (tgt := 143) d_D_readClause_134 (by decide) ?_
              refine J_aload_n (i := 0) d_D_readClause_143 rfl rfl ?_
              refine J_bipush (v := nI 42) d_D_readClause_144 rfl ?_
              refine CV_V (av := [.int (nI 42)]) d_D_readClause_146 s_D_84 (M_rcv rfl (by decide) rfl) (S_D_expect_d hY4 hD4 (show 42 < 46 by omega)) (by omega) rfl rfl (Nat.le_of_ble_eq_true rfl) ?_
              refine M_vr d_D_readClause_149 rfl ?_
              have h2 := (show ¬ ((tk_ B j = 0 ∧ x.1.isSome = true) ∨ (tk_ B j = 1 ∧ x.2.1.isSome = true)) from fun z => by
                    rcases z with ⟨z1, z2⟩ | ⟨z1, z2⟩
                    · omega
                    · rw [c45] at z2; cases z2)
              have e : pClause (tkT B) x j = .inl q4 := by rw [pCl_m (show ¬ 6 < tk_ B j by omega) h2 (show ¬ 24 ≤ x.2.2.1 by omega), show tk_ B j = 1 by omega, pB_1, hr4]; rfl
              rw [e]
              exact ⟨rfl, hY4, offC_t (offC_t (offC_t (offC_t (offC_t (offC_t (offC_t (offC_0 T X) (offC_L (offL_0 T X))) (offC_A (by omega) (by omega))) (offC_L (offL_0 T (pA X (T + 2) ((X.2.1 (T + 2)).set x.2.2.1 (nI (tk_ B j))))))) offC_T) (offC_L (offL_t (offL_0 T (pF (pA X (T + 2) ((X.2.1 (T + 2)).set x.2.2.1 (nI (tk_ B j)))) T 8 (nI (x.2.2.1 + 1)))) (ad_off (j := j))))) ho4) (offC_L (offL_0 T Y4)), hD4⟩
            · rw [hr4] at hq4
              obtain ⟨c4, Z4, hYe4, hoz4, hL4, la4, lb4, lc4, hcl4, hG4⟩ := hq4
              have hN4 := hL4.2.1
              have hlt4 := tk_lt B q4.1
              refine J_goto (tgt := 143) d_D_readClause_134 (by decide) ?_
              refine J_aload_n (i := 0) d_D_readClause_143 rfl rfl ?_
              refine J_bipush (v := nI 42) d_D_readClause_144 rfl ?_
              refine CV_V (av := [.int (nI 42)]) d_D_readClause_146 s_D_84 (M_rcv rfl (by decide) rfl) (S_D_expect hY4 hL4 (show 42 < 46 by omega)) (by omega) rfl rfl (Nat.le_of_ble_eq_true rfl) ?_
              by_cases hx5 : tk_ B q4.1 = 42
              · rw [show exX Y4 B q4.1 42 = adX Y4 B q4.1 from if_pos hx5]
                have hL5 := ad_Lv hL4 (show tk_ B q4.1 ≠ 46 by omega)
                refine M_vr d_D_readClause_149 rfl ?_
                have h2 := (show ¬ ((tk_ B j = 0 ∧ x.1.isSome = true) ∨ (tk_ B j = 1 ∧ x.2.1.isSome = true)) from fun z => by
                      rcases z with ⟨z1, z2⟩ | ⟨z1, z2⟩
                      · omega
                      · rw [c45] at z2; cases z2)
                have e : pClause (tkT B) x j = .inr (q4.1 + 1, addT x 1 (some q4.2) 0 0) := by rw [pCl_m (show ¬ 6 < tk_ B j by omega) h2 (show ¬ 24 ≤ x.2.2.1 by omega), show tk_ B j = 1 by omega, pB_1, hr4, bnd_r, bnd_r, ex_t hx5]; rfl
                rw [e]
                exact ⟨rfl, (ad_Ok hY4), offC_t (offC_t (offC_t (offC_t (offC_t (offC_t (offC_t (offC_0 T X) (offC_L (offL_0 T X))) (offC_A (by omega) (by omega))) (offC_L (offL_0 T (pA X (T + 2) ((X.2.1 (T + 2)).set x.2.2.1 (nI (tk_ B j))))))) offC_T) (offC_L (offL_t (offL_0 T (pF (pA X (T + 2) ((X.2.1 (T + 2)).set x.2.2.1 (nI (tk_ B j)))) T 8 (nI (x.2.2.1 + 1)))) (ad_off (j := j))))) ho4) (offC_L (offL_t (offL_0 T Y4) (ad_off (j := q4.1)))), c4, _, hL5, by omega, by omega, CTn_ad (by omega) (CTn_law_f hX hkT (show x.2.2.1 < 24 by omega) hC (show tk_ B j = 1 by omega) hoz4 hYe4 hcl4 hG4 lc4)⟩
              · rw [show exX Y4 B q4.1 42 = rfX Y4 1 (stT B q4.1) from if_neg hx5]
                have hD5 := rf_Dd (f := 1) (p := stT B q4.1) hL4 (by decide) (by decide)
                refine M_vr d_D_readClause_149 rfl ?_
                have h2 := (show ¬ ((tk_ B j = 0 ∧ x.1.isSome = true) ∨ (tk_ B j = 1 ∧ x.2.1.isSome = true)) from fun z => by
                      rcases z with ⟨z1, z2⟩ | ⟨z1, z2⟩
                      · omega
                      · rw [c45] at z2; cases z2)
                have e : pClause (tkT B) x j = .inl (1, q4.1) := by rw [pCl_m (show ¬ 6 < tk_ B j by omega) h2 (show ¬ 24 ≤ x.2.2.1 by omega), show tk_ B j = 1 by omega, pB_1, hr4, bnd_r, bnd_r, ex_f hx5]; rfl
                rw [e]
                exact ⟨rfl, (rf_Ok hY4), offC_t (offC_t (offC_t (offC_t (offC_t (offC_t (offC_t (offC_0 T X) (offC_L (offL_0 T X))) (offC_A (by omega) (by omega))) (offC_L (offL_0 T (pA X (T + 2) ((X.2.1 (T + 2)).set x.2.2.1 (nI (tk_ B j))))))) offC_T) (offC_L (offL_t (offL_0 T (pF (pA X (T + 2) ((X.2.1 (T + 2)).set x.2.2.1 (nI (tk_ B j)))) T 8 (nI (x.2.2.1 + 1)))) (ad_off (j := j))))) ho4) (offC_L (offL_t (offL_0 T Y4) rf_off)), hD5⟩
          · refine J_aload_n (i := 0) d_D_readClause_68 rfl rfl ?_
            refine J_bipush (v := nI 6) d_D_readClause_69 rfl ?_
            refine CV_V (av := [.int (nI 6)]) d_D_readClause_71 s_D_57 (M_rcv rfl (by decide) rfl) (S_D_refuse hX hL) (by omega) rfl rfl (Nat.le_of_ble_eq_true rfl) ?_
            have hD1 := rf_Dd (f := 6) (p := stT B j) hL (by decide) (by decide)
            refine J_goto (tgt := 149) d_D_readClause_74 (by decide) ?_
            refine M_vr d_D_readClause_149 rfl ?_
            have h2 := (show ¬ ((tk_ B j = 0 ∧ x.1.isSome = true) ∨ (tk_ B j = 1 ∧ x.2.1.isSome = true)) from fun z => by
                  rcases z with ⟨z1, z2⟩ | ⟨z1, z2⟩
                  · omega
                  · rw [c45] at z2; cases z2)
            have e : pClause (tkT B) x j = .inl (6, j) := (if_neg (show ¬ 6 < tk_ B j by omega)).trans ((if_neg h2).trans (if_pos (show 24 ≤ x.2.2.1 by omega)))
            rw [e]
            exact ⟨rfl, (rf_Ok hX), offC_t (offC_0 T X) (offC_L (offL_t (offL_0 T X) rf_off)), hD1⟩
        · refine J_aload_n (i := 0) d_D_readClause_48 rfl rfl ?_
          refine J_iconst (v := nI 4) d_D_readClause_49 rfl ?_
          refine CV_V (av := [.int (nI 4)]) d_D_readClause_50 s_D_57 (M_rcv rfl (by decide) rfl) (S_D_refuse hX hL) (by omega) rfl rfl (Nat.le_of_ble_eq_true rfl) ?_
          have hD1 := rf_Dd (f := 4) (p := stT B j) hL (by decide) (by decide)
          refine J_goto (tgt := 149) d_D_readClause_53 (by decide) ?_
          refine M_vr d_D_readClause_149 rfl ?_
          have e : pClause (tkT B) x j = .inl (4, j) := (if_neg (show ¬ 6 < tk_ B j by omega)).trans (if_pos (Or.inr ⟨(show tk_ B j = 1 by omega), c45⟩))
          rw [e]
          exact ⟨rfl, (rf_Ok hX), offC_t (offC_0 T X) (offC_L (offL_t (offL_0 T X) rf_off)), hD1⟩
    · refine J_aload_n (i := 0) d_D_readClause_23 rfl rfl ?_
      refine M_getI (b := T) d_D_readClause_24 f_D_34 rfl rfl hL.1.2.2 ?_
      refine M_get (x := (b2i x.1.isSome)) d_D_readClause_27 f_D_63 hkT rfl hC.2.1.1 ?_
      refine B_if_ne (tgt := 48) d_D_readClause_30 (by decide) (fun c30 => ?_) (fun c30 => ?_)
      · refine J_aload_n (i := 0) d_D_readClause_48 rfl rfl ?_
        refine J_iconst (v := nI 4) d_D_readClause_49 rfl ?_
        refine CV_V (av := [.int (nI 4)]) d_D_readClause_50 s_D_57 (M_rcv rfl (by decide) rfl) (S_D_refuse hX hL) (by omega) rfl rfl (Nat.le_of_ble_eq_true rfl) ?_
        have hD1 := rf_Dd (f := 4) (p := stT B j) hL (by decide) (by decide)
        refine J_goto (tgt := 149) d_D_readClause_53 (by decide) ?_
        refine M_vr d_D_readClause_149 rfl ?_
        have e : pClause (tkT B) x j = .inl (4, j) := (if_neg (show ¬ 6 < tk_ B j by omega)).trans (if_pos (Or.inl ⟨(show tk_ B j = 0 by omega), c30⟩))
        rw [e]
        exact ⟨rfl, (rf_Ok hX), offC_t (offC_0 T X) (offC_L (offL_t (offL_0 T X) rf_off)), hD1⟩
      · refine J_iload_n (i := 1) d_D_readClause_33 rfl rfl ?_
        refine J_iconst (v := nI 1) d_D_readClause_34 rfl ?_
        refine N_icmp_ne (tgt := 56) d_D_readClause_35 (by decide) (by omega) (by omega) (fun c35 => ?_) (fun c35 => absurd c35 (by omega))
        refine J_aload_n (i := 0) d_D_readClause_56 rfl rfl ?_
        refine M_getI (b := T) d_D_readClause_57 f_D_34 rfl rfl hL.1.2.2 ?_
        refine M_get (x := (nI x.2.2.1)) d_D_readClause_60 f_D_70 hkT rfl hC.2.2.2.1 ?_
        refine J_bipush (v := nI 24) d_D_readClause_63 rfl ?_
        refine N_icmp_lt (tgt := 77) d_D_readClause_65 (by decide) (by omega) (by omega) (fun c65 => ?_) (fun c65 => ?_)
        · refine J_aload_n (i := 0) d_D_readClause_77 rfl rfl ?_
          refine M_getI (b := T) d_D_readClause_78 f_D_34 rfl rfl hL.1.2.2 ?_
          refine M_get (x := (nI x.2.2.1)) d_D_readClause_81 f_D_70 hkT rfl hC.2.2.2.1 ?_
          refine J_istore_n (i := 2) (L1 := [some (.ref 11), some (.int (nI (tk_ B j))), some (.int (nI x.2.2.1))]) d_D_readClause_84 rfl (by decide) rfl ?_
          refine J_aload_n (i := 0) d_D_readClause_85 rfl rfl ?_
          refine M_getI (b := T) d_D_readClause_86 f_D_34 rfl rfl hL.1.2.2 ?_
          refine M_getR (b := (T + 2)) d_D_readClause_89 f_D_73 hkT rfl tf.1.2.1 ?_
          refine J_iload_n (i := 2) d_D_readClause_92 rfl rfl ?_
          refine J_iload_n (i := 1) d_D_readClause_93 rfl rfl ?_
          refine N_iast d_D_readClause_94 tf.2.1.2.1 (by omega) (by omega) (by rw [hX.1 (T + 2) (by omega), tf.2.2.1.2.1]; omega) ?_
          have hL1 := Lv_A (a := T + 2) (l := ((X.2.1 (T + 2)).set x.2.2.1 (nI (tk_ B j)))) hL (by omega) (by omega)
          refine J_aload_n (i := 0) d_D_readClause_95 rfl rfl ?_
          refine M_getI (b := T) d_D_readClause_96 f_D_34 rfl rfl hL1.1.2.2 ?_
          refine J_dup d_D_readClause_99 rfl ?_
          refine M_get (x := (nI x.2.2.1)) d_D_readClause_100 f_D_70 hkT rfl hC.2.2.2.1 ?_
          refine J_iconst (v := nI 1) d_D_readClause_103 rfl ?_
          refine N_iadd d_D_readClause_104 ?_
          refine M_put d_D_readClause_105 p_D_70 hkT rfl rfl rfl ?_
          have hL2 := Lv_T (k := 8) (v := nI (x.2.2.1 + 1)) hL1 (by decide)
          refine J_aload_n (i := 0) d_D_readClause_108 rfl rfl ?_
          refine CV_V (av := []) d_D_readClause_109 s_D_54 (M_rcv rfl (by decide) rfl) (S_D_advance (okF (okS hX tf.2.2.2.1.2.1)) hL2 (show tk_ B j ≠ 46 by omega)) (by omega) rfl rfl (Nat.le_of_ble_eq_true rfl) ?_
          have hL3 := ad_Lv hL2 (show tk_ B j ≠ 46 by omega)
          refine J_iload_n (i := 1) d_D_readClause_112 rfl rfl ?_
          refine N_if_eq (tgt := 121) d_D_readClause_113 (by decide) (by omega) (fun c113 => ?_) (fun c113 => absurd c113 (by omega))
          refine J_aload_n (i := 0) d_D_readClause_121 rfl rfl ?_
          refine J_iload_n (i := 1) d_D_readClause_122 rfl rfl ?_
          refine N_if_ne (tgt := 130) d_D_readClause_123 (by decide) (by omega) (fun c123 => absurd c123 (by omega)) (fun c123 => ?_)
          refine J_iconst (v := nI 1) d_D_readClause_126 rfl ?_
          refine J_goto (tgt := 131) d_D_readClause_127 (by decide) ?_
          refine J.eq (st1 := [.int (b2i true), .ref 11]) ?_ rfl rfl rfl
          refine M_callV (av := [.int (b2i true)]) d_D_readClause_131 s_D_76 (M_rcv rfl (by decide) rfl) (S_D_readLaw_t (ad_Ok (okF (okS hX tf.2.2.2.1.2.1))) hL3 (show c ≤ j + 1 by omega)) (by omega) rfl rfl (Nat.le_of_ble_eq_true rfl) (fun r4 Y4 hq4 => ?_)
          obtain ⟨rfl, hY4, ho4, hq4⟩ := hq4
          rcases hr4 : pSum (tkT B) (lev (tkT B) true 8).1 (j + 1) with q4 | q4
          · rw [hr4] at hq4
            have hD4 : Dd Y4 B N T q4.1 (stT B q4.2) := hq4
            have hf4 := hD4.2.2.2.2.1
            refine J_goto (tgt := 143) d_D_readClause_134 (by decide) ?_
            refine J_aload_n (i := 0) d_D_readClause_143 rfl rfl ?_
            refine J_bipush (v := nI 42) d_D_readClause_144 rfl ?_
            refine CV_V (av := [.int (nI 42)]) d_D_readClause_146 s_D_84 (M_rcv rfl (by decide) rfl) (S_D_expect_d hY4 hD4 (show 42 < 46 by omega)) (by omega) rfl rfl (Nat.le_of_ble_eq_true rfl) ?_
            refine M_vr d_D_readClause_149 rfl ?_
            have h2 := (show ¬ ((tk_ B j = 0 ∧ x.1.isSome = true) ∨ (tk_ B j = 1 ∧ x.2.1.isSome = true)) from fun z => by
                  rcases z with ⟨z1, z2⟩ | ⟨z1, z2⟩
                  · rw [c30] at z2; cases z2
                  · omega)
            have e : pClause (tkT B) x j = .inl q4 := by rw [pCl_m (show ¬ 6 < tk_ B j by omega) h2 (show ¬ 24 ≤ x.2.2.1 by omega), show tk_ B j = 0 by omega, pB_0, hr4]; rfl
            rw [e]
            exact ⟨rfl, hY4, offC_t (offC_t (offC_t (offC_t (offC_t (offC_t (offC_t (offC_0 T X) (offC_L (offL_0 T X))) (offC_A (by omega) (by omega))) (offC_L (offL_0 T (pA X (T + 2) ((X.2.1 (T + 2)).set x.2.2.1 (nI (tk_ B j))))))) offC_T) (offC_L (offL_t (offL_0 T (pF (pA X (T + 2) ((X.2.1 (T + 2)).set x.2.2.1 (nI (tk_ B j)))) T 8 (nI (x.2.2.1 + 1)))) (ad_off (j := j))))) ho4) (offC_L (offL_0 T Y4)), hD4⟩
          · rw [hr4] at hq4
            obtain ⟨c4, Z4, hYe4, hoz4, hL4, la4, lb4, lc4, hcl4, hG4⟩ := hq4
            have hN4 := hL4.2.1
            have hlt4 := tk_lt B q4.1
            refine J_goto (tgt := 143) d_D_readClause_134 (by decide) ?_
            refine J_aload_n (i := 0) d_D_readClause_143 rfl rfl ?_
            refine J_bipush (v := nI 42) d_D_readClause_144 rfl ?_
            refine CV_V (av := [.int (nI 42)]) d_D_readClause_146 s_D_84 (M_rcv rfl (by decide) rfl) (S_D_expect hY4 hL4 (show 42 < 46 by omega)) (by omega) rfl rfl (Nat.le_of_ble_eq_true rfl) ?_
            by_cases hx5 : tk_ B q4.1 = 42
            · rw [show exX Y4 B q4.1 42 = adX Y4 B q4.1 from if_pos hx5]
              have hL5 := ad_Lv hL4 (show tk_ B q4.1 ≠ 46 by omega)
              refine M_vr d_D_readClause_149 rfl ?_
              have h2 := (show ¬ ((tk_ B j = 0 ∧ x.1.isSome = true) ∨ (tk_ B j = 1 ∧ x.2.1.isSome = true)) from fun z => by
                    rcases z with ⟨z1, z2⟩ | ⟨z1, z2⟩
                    · rw [c30] at z2; cases z2
                    · omega)
              have e : pClause (tkT B) x j = .inr (q4.1 + 1, addT x 0 (some q4.2) 0 0) := by rw [pCl_m (show ¬ 6 < tk_ B j by omega) h2 (show ¬ 24 ≤ x.2.2.1 by omega), show tk_ B j = 0 by omega, pB_0, hr4, bnd_r, bnd_r, ex_t hx5]; rfl
              rw [e]
              exact ⟨rfl, (ad_Ok hY4), offC_t (offC_t (offC_t (offC_t (offC_t (offC_t (offC_t (offC_0 T X) (offC_L (offL_0 T X))) (offC_A (by omega) (by omega))) (offC_L (offL_0 T (pA X (T + 2) ((X.2.1 (T + 2)).set x.2.2.1 (nI (tk_ B j))))))) offC_T) (offC_L (offL_t (offL_0 T (pF (pA X (T + 2) ((X.2.1 (T + 2)).set x.2.2.1 (nI (tk_ B j)))) T 8 (nI (x.2.2.1 + 1)))) (ad_off (j := j))))) ho4) (offC_L (offL_t (offL_0 T Y4) (ad_off (j := q4.1)))), c4, _, hL5, by omega, by omega, CTn_ad (by omega) (CTn_law_t hX hkT (show x.2.2.1 < 24 by omega) hC (show tk_ B j = 0 by omega) hoz4 hYe4 hcl4 hG4 lc4)⟩
            · rw [show exX Y4 B q4.1 42 = rfX Y4 1 (stT B q4.1) from if_neg hx5]
              have hD5 := rf_Dd (f := 1) (p := stT B q4.1) hL4 (by decide) (by decide)
              refine M_vr d_D_readClause_149 rfl ?_
              have h2 := (show ¬ ((tk_ B j = 0 ∧ x.1.isSome = true) ∨ (tk_ B j = 1 ∧ x.2.1.isSome = true)) from fun z => by
                    rcases z with ⟨z1, z2⟩ | ⟨z1, z2⟩
                    · rw [c30] at z2; cases z2
                    · omega)
              have e : pClause (tkT B) x j = .inl (1, q4.1) := by rw [pCl_m (show ¬ 6 < tk_ B j by omega) h2 (show ¬ 24 ≤ x.2.2.1 by omega), show tk_ B j = 0 by omega, pB_0, hr4, bnd_r, bnd_r, ex_f hx5]; rfl
              rw [e]
              exact ⟨rfl, (rf_Ok hY4), offC_t (offC_t (offC_t (offC_t (offC_t (offC_t (offC_t (offC_0 T X) (offC_L (offL_0 T X))) (offC_A (by omega) (by omega))) (offC_L (offL_0 T (pA X (T + 2) ((X.2.1 (T + 2)).set x.2.2.1 (nI (tk_ B j))))))) offC_T) (offC_L (offL_t (offL_0 T (pF (pA X (T + 2) ((X.2.1 (T + 2)).set x.2.2.1 (nI (tk_ B j)))) T 8 (nI (x.2.2.1 + 1)))) (ad_off (j := j))))) ho4) (offC_L (offL_t (offL_0 T Y4) rf_off)), hD5⟩
        · refine J_aload_n (i := 0) d_D_readClause_68 rfl rfl ?_
          refine J_bipush (v := nI 6) d_D_readClause_69 rfl ?_
          refine CV_V (av := [.int (nI 6)]) d_D_readClause_71 s_D_57 (M_rcv rfl (by decide) rfl) (S_D_refuse hX hL) (by omega) rfl rfl (Nat.le_of_ble_eq_true rfl) ?_
          have hD1 := rf_Dd (f := 6) (p := stT B j) hL (by decide) (by decide)
          refine J_goto (tgt := 149) d_D_readClause_74 (by decide) ?_
          refine M_vr d_D_readClause_149 rfl ?_
          have h2 := (show ¬ ((tk_ B j = 0 ∧ x.1.isSome = true) ∨ (tk_ B j = 1 ∧ x.2.1.isSome = true)) from fun z => by
                rcases z with ⟨z1, z2⟩ | ⟨z1, z2⟩
                · rw [c30] at z2; cases z2
                · omega)
          have e : pClause (tkT B) x j = .inl (6, j) := (if_neg (show ¬ 6 < tk_ B j by omega)).trans ((if_neg h2).trans (if_pos (show 24 ≤ x.2.2.1 by omega)))
          rw [e]
          exact ⟨rfl, (rf_Ok hX), offC_t (offC_0 T X) (offC_L (offL_t (offL_0 T X) rf_off)), hD1⟩
  · refine J_aload_n (i := 0) d_D_readClause_11 rfl rfl ?_
    refine J_iconst (v := nI 1) d_D_readClause_12 rfl ?_
    refine CV_V (av := [.int (nI 1)]) d_D_readClause_13 s_D_57 (M_rcv rfl (by decide) rfl) (S_D_refuse hX hL) (by omega) rfl rfl (Nat.le_of_ble_eq_true rfl) ?_
    have hD1 := rf_Dd (f := 1) (p := stT B j) hL (by decide) (by decide)
    refine J_goto (tgt := 149) d_D_readClause_16 (by decide) ?_
    refine M_vr d_D_readClause_149 rfl ?_
    have e : pClause (tkT B) x j = .inl (1, j) := if_pos (show 6 < tk_ B j by omega)
    rw [e]
    exact ⟨rfl, (rf_Ok hX), offC_t (offC_0 T X) (offC_L (offL_t (offL_0 T X) rf_off)), hD1⟩

