theorem seg_ex {X : Mem} {T f c : Nat} {w : Bool} {D : Option (Env → Int)} (h : LwC X T f w c D) : ∃ u : Nat → Option Nat, (∀ p v, u p = some v → (X.2.1 (T + 1)).getD p 0 = nI v ∧ v < 2147483648) ∧ ∀ d, D = some d → ∃ a b, X.1 T (f + 1) = nI a ∧ (X.1 T (f + 2) = nI b ∧ (b ≤ c ∧ ∀ e, okE e → sm (d e) ∧ ∀ cx : Nat → Nat, (∀ p v, u p = some v → cx p = v) → ∃ m, stepsC e cx m a [] = some (b, [d e]))) := by
  cases D with
  | none => exact ⟨fun _ => none, fun p v hv => (by cases hv), fun d hd => (by cases hd)⟩
  | some d =>
    obtain ⟨a, b, h1, h2, h3, h4, cw, g1, g2, g3⟩ := h.2 d rfl
    refine ⟨fun p => if a ≤ p ∧ p < b then some (cw p) else none, fun p v hv => ?_, fun d' hd => ?_⟩
    · dsimp only at hv
      split at hv
      · rename_i q
        cases hv
        exact g1 p q.1 q.2
      · cases hv
    · cases hd
      refine ⟨a, b, h1, h2, h4, fun e he => ⟨(g2 e he).1, fun cx hcx => (g2 e he).2 cx (fun p q1 q2 => hcx p (cw p) (if_pos ⟨q1, q2⟩)) []⟩⟩
theorem CTn_t {X : Mem} {T c : Nat} {x : TX} (hk : kd T = 5) (hc : c ≤ 300) (h : CTn X T c x) : CTxt X T x := by
  obtain ⟨h1, h2, h3, h4, h5⟩ := h
  obtain ⟨u1, a1, a2⟩ := seg_ex h2
  obtain ⟨u2, b1, b2⟩ := seg_ex h3
  have hu : ∃ cw : Nat → Nat, (∀ p v, u1 p = some v → cw p = v) ∧ (∀ p v, u2 p = some v → cw p = v) ∧ ∀ p, cw p % 64 ≠ 63 → (X.2.1 (T + 1)).getD p 0 = nI (cw p) ∧ cw p < 2147483648 := by
    refine ⟨fun p => (u1 p).getD ((u2 p).getD 63), fun p v hv => ?_, fun p v hv => ?_, fun p hp => ?_⟩
    · show (u1 p).getD ((u2 p).getD 63) = v
      rw [hv]; rfl
    · show (u1 p).getD ((u2 p).getD 63) = v
      cases hq : u1 p with
      | none => rw [hv]; rfl
      | some v' =>
        have q1 := a1 p v' hq
        have q2 := b1 p v hv
        show v' = v
        exact (nI_inj (by omega) (by omega)).mp (q1.1.symm.trans q2.1)
    · revert hp
      show (u1 p).getD ((u2 p).getD 63) % 64 ≠ 63 → _ = nI ((u1 p).getD ((u2 p).getD 63)) ∧ (u1 p).getD ((u2 p).getD 63) < _
      cases hq : u1 p with
      | some v' => exact fun _ => a1 p v' hq
      | none =>
        cases hr : u2 p with
        | some v' => exact fun _ => b1 p v' hr
        | none => exact fun hp => absurd rfl hp
  obtain ⟨cw, c1, c2, c3⟩ := hu
  refine ⟨cw, ⟨hk, fun p _ hp => c3 p hp⟩, ⟨h2.1, fun d hd => ?_⟩, ⟨h3.1, fun d hd => ?_⟩, h4, h5⟩
  · obtain ⟨a, b, q1, q2, q3, q4⟩ := a2 d hd
    exact ⟨a, b, q1, q2, by omega, fun e he => ⟨(q4 e he).1, (q4 e he).2 cw c1⟩⟩
  · obtain ⟨a, b, q1, q2, q3, q4⟩ := b2 d hd
    exact ⟨a, b, q1, q2, by omega, fun e he => ⟨(q4 e he).1, (q4 e he).2 cw c2⟩⟩
theorem CTxt_T {X Y : Mem} {T : Nat} {x : TX} (h : ∀ b, T ≤ b → b ≤ T + 4 → (∀ k, Y.1 b k = X.1 b k) ∧ Y.2.1 b = X.2.1 b) (hT : CTxt X T x) : CTxt Y T x := by
  obtain ⟨cw, h1, h2, h3, h4, h5⟩ := hT
  have e := (h T (by omega) (by omega)).1
  refine ⟨cw, ⟨h1.1, fun p hp => by rw [(h (T + 1) (by omega) (by omega)).2]; exact h1.2 p hp⟩, LwV_c e h2, LwV_c e h3, by rw [e]; exact h4, fun k hk => ?_⟩
  rw [(h (T + 2) (by omega) (by omega)).2, (h (T + 3) (by omega) (by omega)).2, (h (T + 4) (by omega) (by omega)).2]
  exact h5 k hk
theorem CHeld_n {X Y : Mem} {r : Nat → Int32} {v : Int32} (h : ∀ b, 18 ≤ b → b ≤ 117 → (∀ k, ¬ (b = 18 ∧ k = 3) → Y.1 b k = X.1 b k) ∧ Y.2.1 b = X.2.1 b) (h3 : Y.1 18 3 = v) (hC : CHeld X 18 r) : CHeld Y 18 (upF r 1 v) := by
  obtain ⟨k1, ⟨h2, e, he, h3', h4⟩, k5, ⟨g1, g2, g3, g4, g5⟩, k7⟩ := hC
  have hr : ∀ j, j ≠ 1 → upF r 1 v j = r j := fun j hj => upF_o hj
  refine ⟨?_, ⟨?_, e, he, ?_, fun i hi => ?_⟩, fun i hi => ?_, ⟨?_, ?_, ?_, ?_, ?_⟩, fun i hi => ?_⟩
  · refine CNow_g (fun k hk => ?_) (CNow_on (fun k => (h _ (by decide) (by decide)).1 k (by omega)) (h _ (by decide) (by decide)).2 (h _ (by decide) (by decide)).2 k1)
    show nowG r k = nowG (upF r 1 v) k
    unfold nowG
    split
    · exact (hr _ (by decide)).symm
    · split
      · exact (hr _ (by omega)).symm
      · exact (hr _ (by omega)).symm
  · rw [(h _ (by decide) (by decide)).1 _ (by omega)]; exact h2.trans (hr 3 (by decide)).symm
  · rw [(h _ (by decide) (by decide)).1 _ (by omega)]; exact h3'
  · have hi : i < tn (upF r 1 v 3) := hi
    rw [hr 3 (by decide)] at hi
    have hb : (e + i) % 30 < 30 := Nat.mod_lt _ (by decide)
    refine CNow_g (fun k hk => ?_) (CNow_on (fun k => (h _ (by omega) (by omega)).1 k (by omega)) (h _ (by omega) (by omega)).2 (h _ (by omega) (by omega)).2 (h4 i hi))
    exact (hr (52 + 38 * i + k) (by omega)).symm
  · rw [(h _ (by decide) (by decide)).2]; exact (k5 i hi).trans (hr _ (by omega)).symm
  · exact h3.trans upF_at.symm
  · rw [(h _ (by decide) (by decide)).1 _ (by omega)]; exact g2.trans (hr 2 (by decide)).symm
  · rw [(h _ (by decide) (by decide)).1 _ (by omega)]; exact g3.trans (hr 26 (by decide)).symm
  · rw [(h _ (by decide) (by decide)).1 _ (by omega)]; exact g4.trans (hr 27 (by decide)).symm
  · rw [(h _ (by decide) (by decide)).1 _ (by omega)]; exact g5.trans (hr 5 (by decide)).symm
  · rw [(h _ (by decide) (by decide)).2, (h _ (by decide) (by decide)).2, (h _ (by decide) (by decide)).2, hr _ (by omega), hr _ (by omega), hr _ (by omega)]
    exact k7 i hi
-- text
def tsB (s : Sg) : Nat → Nat := tB s.2.2.1 s.2.2.2.1
def tsP (s : Sg) : PR TX := pText (tkT (tsB s)) 25 0 x0
def txS (s : Sg) : Sg := if tn (s.1 1) = 4 then s else match tsP s with
  | .inl q => (s.1, (s.2.1, (s.2.2.1, (0, (nI q.1, (nI (stT (tsB s) q.2), s.2.2.2.2.2.2))))))
  | .inr q => (upF s.1 1 (nI (tn (s.1 1) + 1)), (s.2.1, (s.2.2.1, (0, (nI 0, (-1, fun t => if t = tn (s.1 1) then q.2 else s.2.2.2.2.2.2 t))))))
def txF (s : Sg) : Int32 := if tn (s.1 1) = 4 then -1 else match tsP s with
  | .inl _ => -1
  | .inr _ => nI (tn (s.1 1))
theorem WF_txS {s : Sg} (hw : WFs s) (hk : ∀ q, tsP s = .inr q → okT q.2) : WFs (txS s) := by
  unfold txS
  split
  · exact hw
  · rename_i h4
    obtain ⟨⟨w1, w2, w3, w4⟩, v2, v3, v4, v5⟩ := hw
    obtain ⟨e1, b1⟩ := wf_n ⟨w1, w2, w3, w4⟩ (j := 1) (by decide) (by decide)
    have hb1 : tn (s.1 1) ≤ 4 := b1
    cases hp : tsP s with
    | inl q => exact ⟨⟨w1, w2, w3, w4⟩, v2, v3, ⟨Nat.zero_le _, v4.2⟩, v5⟩
    | inr q =>
      have u1 : upF s.1 1 (nI (tn (s.1 1) + 1)) 1 = nI (tn (s.1 1) + 1) := upF_at
      have t1 : tn (upF s.1 1 (nI (tn (s.1 1) + 1)) 1) = tn (s.1 1) + 1 := by rw [u1, tn_nI (by omega)]
      refine ⟨⟨fun j hj hj2 => ?_, ?_, ?_, fun i hi => ?_⟩, v2, ?_, ⟨Nat.zero_le _, v4.2⟩, fun t ht => ?_⟩
      · show inR (upF s.1 1 (nI (tn (s.1 1) + 1)) j) (bd j) = true
        by_cases hj1 : j = 1
        · rw [hj1, u1, inR_nI (by omega) (by decide)]
          exact decide_eq_true (show tn (s.1 1) + 1 ≤ 4 by omega)
        · rw [upF_o hj1]; exact w1 j hj hj2
      · show upF s.1 1 (nI (tn (s.1 1) + 1)) 2 = -1 ∨ mkB (tn (upF s.1 1 (nI (tn (s.1 1) + 1)) 1)) (upF s.1 1 (nI (tn (s.1 1) + 1)) 2) = true
        rw [t1, upF_o (by decide)]
        rcases w2 with w2 | w2
        · exact Or.inl w2
        · obtain ⟨j, hj, e⟩ := mk_n (by omega) w2
          refine Or.inr ?_
          rw [e]
          simp only [mkB, Bool.and_eq_true, Bool.not_eq_true', decide_eq_false_iff_not]
          refine ⟨fun z => ?_, fun z => ?_⟩
          · have := (nI_ltI (show j < 2147483648 by omega) (show 0 < 2147483648 by decide)).mp z
            omega
          · have := (nI_leI (show tn (s.1 1) + 1 < 2147483648 by omega) (show j < 2147483648 by omega)).mp z
            omega
      · show upF s.1 1 (nI (tn (s.1 1) + 1)) 4 = nI (bc (tn (upF s.1 1 (nI (tn (s.1 1) + 1)) 26) ||| tn (upF s.1 1 (nI (tn (s.1 1) + 1)) 27)))
        rw [upF_o (by decide), upF_o (by decide), upF_o (by decide)]; exact w3
      · have hi : i < tn (upF s.1 1 (nI (tn (s.1 1) + 1)) 5) := hi
        show tn (upF s.1 1 (nI (tn (s.1 1) + 1)) (28 + 3 * i)) < tn (upF s.1 1 (nI (tn (s.1 1) + 1)) 0)
        rw [upF_o (by decide)] at hi
        rw [upF_o (by omega), upF_o (by decide)]; exact w4 i hi
      · show tn (s.2.1 1) ≤ tn (upF s.1 1 (nI (tn (s.1 1) + 1)) 1)
        rw [t1]; omega
      · have ht : t < tn (upF s.1 1 (nI (tn (s.1 1) + 1)) 1) := ht
        rw [t1] at ht
        show okT (if t = tn (s.1 1) then q.2 else s.2.2.2.2.2.2 t)
        by_cases e : t = tn (s.1 1)
        · rw [if_pos e]; exact hk q hp
        · rw [if_neg e]; exact v5 t (by omega)
theorem CI_txE {X Y : Mem} {s : Sg} {t : Nat} {q : Nat × Nat} (hC : CI X s) (ht : t = tn (s.1 1)) (h4 : t < 4) (ho : offT (txT t) X Y) : CI (pF (pF (pF Y 8 1 (nI 0)) 8 2 (nI q.1)) 8 3 (nI (stT (tsB s) q.2))) (s.1, (s.2.1, (s.2.2.1, (0, (nI q.1, (nI (stT (tsB s) q.2), s.2.2.2.2.2.2)))))) := by
  obtain ⟨k1, k2, k3, ⟨g1, g2, g3⟩, k5⟩ := hC
  have e : ∀ b, b ≠ 8 → b ≠ 11 → b ≠ 12 → b ≠ txT t → ∀ k, (pF (pF (pF Y 8 1 (nI 0)) 8 2 (nI q.1)) 8 3 (nI (stT (tsB s) q.2))).1 b k = X.1 b k := fun b q1 q2 q3 q4 k => (pF_o q1).trans ((pF_o q1).trans ((pF_o q1).trans (ho.1 b q2 q3 q4 k)))
  have hT : txT t = 224 + 5 * t := rfl
  refine ⟨CHeld_on (fun b q1 q2 => ⟨fun k => e b (by omega) (by omega) (by omega) (by omega) k, ho.2.1 b (by omega) (by omega) (by omega) (by omega)⟩) k1, CHeld_on (fun b q1 q2 => ⟨fun k => e b (by omega) (by omega) (by omega) (by omega) k, ho.2.1 b (by omega) (by omega) (by omega) (by omega)⟩) k2, fun i hi => ?_, ⟨(pF_k (by decide)).trans ((pF_k (by decide)).trans pF_at), (pF_k (by decide)).trans pF_at, pF_at⟩, fun t' ht' ht4 => ?_⟩
  · rw [show (pF (pF (pF Y 8 1 (nI 0)) 8 2 (nI q.1)) 8 3 (nI (stT (tsB s) q.2))).2.1 9 = Y.2.1 9 from rfl, ho.2.1 9 (by omega) (by decide) (by decide) (by decide)]; exact k3 i hi
  · have ht' : t' < tn (s.1 1) := ht'
    have hT' : txT t' = 224 + 5 * t' := rfl
    exact CTxt_T (fun b q1 q2 => ⟨fun k => e b (by omega) (by omega) (by omega) (by omega) k, ho.2.1 b (by omega) (by omega) (by omega) (by omega)⟩) (k5 t' ht' ht4)
theorem CI_txK {X Y : Mem} {s : Sg} {t c : Nat} {q : Nat × TX} (hC : CI X s) (ht : t = tn (s.1 1)) (h4 : t < 4) (ho : offT (txT t) X Y) (hc : c ≤ 300) (hN : CTn Y (txT t) c q.2) : CI (pF (pF (pF (pF Y 8 1 (nI 0)) 8 2 (nI 0)) 8 3 (-1)) 18 3 (nI (t + 1))) (upF s.1 1 (nI (t + 1)), (s.2.1, (s.2.2.1, (0, (nI 0, (-1, fun t' => if t' = t then q.2 else s.2.2.2.2.2.2 t')))))) := by
  obtain ⟨k1, k2, k3, ⟨g1, g2, g3⟩, k5⟩ := hC
  have e0 : ∀ b, b ≠ 8 → b ≠ 18 → ∀ k, (pF (pF (pF (pF Y 8 1 (nI 0)) 8 2 (nI 0)) 8 3 (-1)) 18 3 (nI (t + 1))).1 b k = Y.1 b k := fun b q1 q5 k => (pF_o q5).trans ((pF_o q1).trans ((pF_o q1).trans (pF_o q1)))
  have e : ∀ b, b ≠ 8 → b ≠ 11 → b ≠ 12 → b ≠ txT t → b ≠ 18 → ∀ k, (pF (pF (pF (pF Y 8 1 (nI 0)) 8 2 (nI 0)) 8 3 (-1)) 18 3 (nI (t + 1))).1 b k = X.1 b k := fun b q1 q2 q3 q4 q5 k => (e0 b q1 q5 k).trans (ho.1 b q2 q3 q4 k)
  have e18 : ∀ k, k ≠ 3 → (pF (pF (pF (pF Y 8 1 (nI 0)) 8 2 (nI 0)) 8 3 (-1)) 18 3 (nI (t + 1))).1 18 k = X.1 18 k := fun k hk => (pF_k hk).trans ((pF_o (by decide)).trans ((pF_o (by decide)).trans ((pF_o (by decide)).trans (ho.1 18 (by decide) (by decide) (by have := show txT t = 224 + 5 * t from rfl; omega) k))))
  have hT : txT t = 224 + 5 * t := rfl
  refine ⟨CHeld_n (fun b q1 q2 => ⟨fun k hk => ?_, ho.2.1 b (by omega) (by omega) (by omega) (by omega)⟩) pF_at k1, CHeld_on (fun b q1 q2 => ⟨fun k => e b (by omega) (by omega) (by omega) (by omega) (by omega) k, ho.2.1 b (by omega) (by omega) (by omega) (by omega)⟩) k2, fun i hi => ?_, ⟨?_, ?_, ?_⟩, fun t' ht' ht4 => ?_⟩
  · by_cases hb : b = 18
    · rw [hb]; exact e18 k (by omega)
    · exact e b (by omega) (by omega) (by omega) (by omega) hb k
  · rw [show (pF (pF (pF (pF Y 8 1 (nI 0)) 8 2 (nI 0)) 8 3 (-1)) 18 3 (nI (t + 1))).2.1 9 = Y.2.1 9 from rfl, ho.2.1 9 (by omega) (by decide) (by decide) (by decide)]; exact k3 i hi
  · exact (pF_o (by decide)).trans ((pF_k (by decide)).trans ((pF_k (by decide)).trans pF_at))
  · exact (pF_o (by decide)).trans ((pF_k (by decide)).trans pF_at)
  · exact (pF_o (by decide)).trans pF_at
  · have ht' : t' < tn (upF s.1 1 (nI (t + 1)) 1) := ht'
    rw [upF_at, tn_nI (by omega)] at ht'
    have hT' : txT t' = 224 + 5 * t' := rfl
    show CTxt _ (txT t') (if t' = t then q.2 else s.2.2.2.2.2.2 t')
    by_cases hq : t' = t
    · rw [if_pos hq, hq]
      exact CTxt_T (fun b q1 q2 => ⟨fun k => e0 b (by omega) (by omega) k, rfl⟩) (CTn_t (rf_txt t h4).2.2 hc hN)
    · rw [if_neg hq]
      exact CTxt_T (fun b q1 q2 => ⟨fun k => e b (by omega) (by omega) (by omega) (by omega) (by omega) k, ho.2.1 b (by omega) (by omega) (by omega) (by omega)⟩) (k5 t' (by omega) ht4)
theorem sR_T {X Y : Mem} {t : Nat} (h4 : t < 4) (ho : offT (txT t) X Y) : sR X Y := by
  have hT : txT t = 224 + 5 * t := rfl
  exact ⟨fun a ha => ⟨fun k => ho.1 a (by omega) (by omega) (by omega) k, ho.2.1 a (by omega) (by omega) (by omega) (by omega), congrFun ho.2.2.1 a⟩, ho.2.2.2⟩
theorem S_O_textN {X : Mem} {s : Sg} {t : Nat} (hX : Ok X) (hC : CI X s) (hw : WFs s) (ht : t = tn (s.1 1)) : CM 73 m_O_text [.ref 8] X (fun q Y => q = some (.int (txF s)) ∧ pC X (txS s) Y ∧ (t < 4 → ∀ q, tsP s = .inr q → okT q.2)) := by
  obtain ⟨e1, b1⟩ := wf_n hw.1 (j := 1) (by decide) (by decide)
  have hb1 : tn (s.1 1) ≤ 4 := b1
  have ht1 : X.1 18 3 = nI t := by rw [ht, hC.1.2.2.2.1.1]; exact e1
  have hT : txT t = 224 + 5 * t := rfl
  have hB : okB (tsB s) s.2.2.2.1 := okB_t hw.2.2.2.1.1 hw.2.2.2.1.2
  have hV : ∀ q, q < s.2.2.2.1 → (X.2.1 9).getD q 0 = nI (tsB s q) := fun q hq => by
    obtain ⟨j, hj, e⟩ := inR_n (hw.2.2.2.1.2 q (by have := hw.2.2.2.1.1; omega)) (by decide)
    rw [hC.2.2.1 q (by have := hw.2.2.2.1.1; omega), show tsB s q = tn (s.2.2.1 q) from if_pos hq, e, tn_nI (by omega)]
  refine CM_of (L := [some (.ref 8)]) 0 ok_O_text (fun _ => Nat.le_of_ble_eq_true rfl) rfl ?_
  refine J_aload_n (i := 0) d_O_text_0 rfl rfl ?_
  refine M_getR (b := 18) d_O_text_1 f_O_48 rfl rfl rfl ?_
  refine M_get (x := (nI t)) d_O_text_4 f_O_85 rfl rfl ht1 ?_
  refine J_iconst (v := nI 4) d_O_text_7 rfl ?_
  refine N_icmp_lt (tgt := 13) d_O_text_8 (by decide) (by omega) (by omega) (fun c8 => ?_) (fun c8 => ?_)
  · have hlt : t < 4 := by omega
    refine J_aload_n (i := 0) d_O_text_13 rfl rfl ?_
    refine M_getR (b := 11) d_O_text_14 f_O_34 rfl rfl rfl ?_
    refine J_aload_n (i := 0) d_O_text_17 rfl rfl ?_
    refine M_get (x := (nI s.2.2.2.1)) d_O_text_18 f_O_13 rfl rfl hC.2.2.2.1.1 ?_
    refine J_aload_n (i := 0) d_O_text_21 rfl rfl ?_
    refine M_getR (b := 10) d_O_text_22 f_O_25 rfl rfl rfl ?_
    refine J_aload_n (i := 0) d_O_text_25 rfl rfl ?_
    refine M_getR (b := 18) d_O_text_26 f_O_48 rfl rfl rfl ?_
    refine M_get (x := (nI t)) d_O_text_29 f_O_85 rfl rfl ht1 ?_
    refine N_aald (b := (txT t)) (t := 35) d_O_text_32 rfl (by decide) (by omega) (rf_txt t hlt).2.1 (rf_txt t hlt).1 ?_
    refine M_callV (av := [.int (nI s.2.2.2.1), .ref (txT t)]) d_O_text_33 s_O_87 (M_rcv rfl (by decide) rfl) (S_D_read hX hB hV (rf_txt t hlt).2.2) (by decide) rfl rfl (Nat.le_of_ble_eq_true rfl) (fun r1 Y1 hq1 => ?_)
    obtain ⟨rfl, hY1, ho1, hq1⟩ := hq1
    rcases hr1 : pText (tkT (tsB s)) 25 0 x0 with q1 | q1
    · rw [hr1] at hq1
      have hf1 := hq1.2.1
      refine J_aload_n (i := 0) d_O_text_36 rfl rfl ?_
      refine J_iconst (v := nI 0) d_O_text_37 rfl ?_
      refine M_put d_O_text_38 p_O_13 rfl rfl rfl rfl ?_
      refine J_aload_n (i := 0) d_O_text_41 rfl rfl ?_
      refine J_aload_n (i := 0) d_O_text_42 rfl rfl ?_
      refine M_getR (b := 11) d_O_text_43 f_O_34 rfl rfl rfl ?_
      refine M_get (x := (nI q1.1)) d_O_text_46 f_O_91 rfl rfl hq1.1 ?_
      refine M_put d_O_text_49 p_O_17 rfl rfl rfl rfl ?_
      refine J_aload_n (i := 0) d_O_text_52 rfl rfl ?_
      refine J_aload_n (i := 0) d_O_text_53 rfl rfl ?_
      refine M_getR (b := 11) d_O_text_54 f_O_34 rfl rfl rfl ?_
      refine M_get (x := (nI (stT (tsB s) q1.2))) d_O_text_57 f_O_94 rfl rfl hq1.2.2 ?_
      refine M_put d_O_text_60 p_O_20 rfl rfl rfl rfl ?_
      refine J_aload_n (i := 0) d_O_text_63 rfl rfl ?_
      refine M_get (x := (nI q1.1)) d_O_text_64 f_O_17 rfl rfl rfl ?_
      refine N_if_eq (tgt := 72) d_O_text_67 (by decide) (by omega) (fun c67 => absurd c67 (by omega)) (fun c67 => ?_)
      refine J_iconst (v := (-1)) d_O_text_70 rfl ?_
      refine M_ir d_O_text_71 rfl rfl ?_
      have e1 : txS s = (s.1, (s.2.1, (s.2.2.1, (0, (nI q1.1, (nI (stT (tsB s) q1.2), s.2.2.2.2.2.2)))))) := by unfold txS tsP; rw [if_neg (by omega), show pText (tkT (tsB s)) 25 0 x0 = .inl q1 from hr1]
      have e2 : txF s = -1 := by unfold txF tsP; rw [if_neg (by omega), hr1]
      rw [e1, e2]
      exact ⟨rfl, ⟨okF (okF (okF hY1)), CI_txE hC ht hlt ho1, sR_t (sR_T hlt ho1) (sR_t (sR_F (by decide)) (sR_t (sR_F (by decide)) (sR_F (by decide))))⟩, fun _ q hq => (by rw [show tsP s = .inl q1 from hr1] at hq; cases hq)⟩
    · rw [hr1] at hq1
      obtain ⟨hg5, hg6, c1, hc1, hC1⟩ := hq1
      have h18 : Y1.1 18 3 = nI t := (ho1.1 18 (by decide) (by decide) (by omega) 3).trans ht1
      refine J_aload_n (i := 0) d_O_text_36 rfl rfl ?_
      refine J_iconst (v := nI 0) d_O_text_37 rfl ?_
      refine M_put d_O_text_38 p_O_13 rfl rfl rfl rfl ?_
      refine J_aload_n (i := 0) d_O_text_41 rfl rfl ?_
      refine J_aload_n (i := 0) d_O_text_42 rfl rfl ?_
      refine M_getR (b := 11) d_O_text_43 f_O_34 rfl rfl rfl ?_
      refine M_get (x := (nI 0)) d_O_text_46 f_O_91 rfl rfl hg5 ?_
      refine M_put d_O_text_49 p_O_17 rfl rfl rfl rfl ?_
      refine J_aload_n (i := 0) d_O_text_52 rfl rfl ?_
      refine J_aload_n (i := 0) d_O_text_53 rfl rfl ?_
      refine M_getR (b := 11) d_O_text_54 f_O_34 rfl rfl rfl ?_
      refine M_get (x := (-1)) d_O_text_57 f_O_94 rfl rfl hg6 ?_
      refine M_put d_O_text_60 p_O_20 rfl rfl rfl rfl ?_
      refine J_aload_n (i := 0) d_O_text_63 rfl rfl ?_
      refine M_get (x := (nI 0)) d_O_text_64 f_O_17 rfl rfl rfl ?_
      refine N_if_eq (tgt := 72) d_O_text_67 (by decide) (by omega) (fun c67 => ?_) (fun c67 => absurd c67 (by decide))
      refine J_aload_n (i := 0) d_O_text_72 rfl rfl ?_
      refine M_getR (b := 18) d_O_text_73 f_O_48 rfl rfl rfl ?_
      refine J_dup d_O_text_76 rfl ?_
      refine M_get (x := (nI t)) d_O_text_77 f_O_85 rfl rfl h18 ?_
      refine J_iconst (v := nI 1) d_O_text_80 rfl ?_
      refine N_iadd d_O_text_81 ?_
      refine M_put d_O_text_82 p_O_85 rfl rfl rfl rfl ?_
      refine J_aload_n (i := 0) d_O_text_85 rfl rfl ?_
      refine M_getR (b := 18) d_O_text_86 f_O_48 rfl rfl rfl ?_
      refine M_get (x := (nI (t + 1))) d_O_text_89 f_O_85 rfl rfl rfl ?_
      refine J_iconst (v := nI 1) d_O_text_92 rfl ?_
      refine N_isub d_O_text_93 (by omega) ?_
      refine M_ir d_O_text_94 rfl rfl ?_
      have e1 : txS s = (upF s.1 1 (nI (t + 1)), (s.2.1, (s.2.2.1, (0, (nI 0, (-1, fun t' => if t' = t then q1.2 else s.2.2.2.2.2.2 t')))))) := by unfold txS tsP; rw [if_neg (by omega), hr1, ht]
      have e2 : txF s = nI t := by unfold txF tsP; rw [if_neg (by omega), hr1, ht]
      rw [e1, e2]
      exact ⟨rfl, ⟨okF (okF (okF (okF hY1))), CI_txK hC ht hlt ho1 hc1 hC1, sR_t (sR_T hlt ho1) (sR_t (sR_F (by decide)) (sR_t (sR_F (by decide)) (sR_t (sR_F (by decide)) (sR_F (by decide)))))⟩, fun _ q hq => (by rw [show tsP s = .inr q1 from hr1] at hq; cases hq; exact hC1.1)⟩
  · refine J_iconst (v := (-1)) d_O_text_11 rfl ?_
    refine M_ir d_O_text_12 rfl rfl ?_
    have e1 : txS s = s := if_pos (by omega)
    have e2 : txF s = -1 := if_pos (by omega)
    rw [e1, e2]
    exact ⟨rfl, pC_0 hX hC, fun z => absurd z (by omega)⟩

