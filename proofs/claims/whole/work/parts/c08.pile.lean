def OneG (T : TS) (w : Bool) (n : Nat) (one : Nat → PR SVl) : Prop := ∀ (j : Nat) (P : List Nat) (m : Nat) (K : Kd), m + n = 8 → (T.1 j = 25 → ahd P = false) → (match one j with
  | .inl q => Fin_ T w (j, (P, (m, (false, K)))) (.inl q)
  | .inr q => j < q.1 ∧ ∃ L, CodV L q.2 ∧ Rch T w (j, (P, (m, (false, K)))) (fin7 q.1 P m (L ++ K)))
def exT (_ : List Nat) : Prop := True
def nx0 (_ : Nat) : Prop := True
def kxP (k : Nat) : Prop := nx0 k ∧ mulB k = false
def kxS (k : Nat) : Prop := kxP k ∧ addB k = false
def preA (P : List Nat) : Prop := opn P = 41 ∧ (tp3 P = true ∧ cpd P = false)
def preB (P : List Nat) : Prop := preA P ∧ tpR 1 P
def preE (P : List Nat) : Prop := preB P ∧ tpR 0 P
def exA (P : List Nat) : Prop := cpd P = true ∧ opn P = 41
def nxB (k : Nat) : Prop := kxS k ∧ andB k = false
def nxE (k : Nat) : Prop := nxB k ∧ orB k = false
def pV (r k : Nat) (P : List Nat) : Prop := tpR r P ∧ (k = 25 → ahd P = false)
def SumCt (T : TS) (w : Bool) (n : Nat) (s : Nat → PR SVl) : Prop := Ct T w n 5 (pV 4) exT CodV kxS s
def AskCt (T : TS) (w : Bool) (n : Nat) (a : Nat → PR SBl) : Prop := Ct T w n 3 (fun _ => preA) exA CodB kxS a
def EitCt (T : TS) (w : Bool) (n : Nat) (a : Nat → PR SBl) : Prop := Ct T w n 1 (fun _ => preE) exA CodB nxE a
theorem one_ct {T : TS} {w : Bool} {n : Nat} {one : Nat → PR SVl} (h : OneG T w n one) : Ct T w n 7 (pV 6) exT CodV nx0 one := by
  intro j P m K hm hP
  have h := h j P m K hm hP.2
  cases hq : one j with
  | inl q => rw [hq] at h; exact h
  | inr q =>
    rw [hq] at h
    obtain ⟨h1, L, h2, h3⟩ := h
    refine ⟨h1, trivial, L, [], h2, fun a ha => (by cases ha), trivial, ?_⟩
    have e : fin7 q.1 P m (L ++ K) = (q.1, (P, (m, (true, L ++ K)))) := by unfold fin7; rw [stl_no hP.1]
    rw [e] at h3
    exact h3
theorem mul_k {k : Nat} (h : mulB k = true) : k = 38 ∨ k = 39 := by simp only [mulB, Bool.or_eq_true, decide_eq_true_eq] at h; exact h
theorem add_k {k : Nat} (h : addB k = true) : k = 36 ∨ k = 37 := by simp only [addB, Bool.or_eq_true, decide_eq_true_eq] at h; exact h
theorem cod_2 {k : Nat} {L1 L2 : Kd} {v1 v2 : SVl} (hk : k - 30 = 6 ∨ k - 30 = 7 ∨ k - 30 = 8 ∨ k - 30 = 9) (h1 : CodV L1 v1) (h2 : CodV L2 v2) : CodV ((k - 30, 0) :: (L2 ++ L1)) (cmbA k v1 v2) := by
  intro e he
  refine ⟨ar2_sm _, fun vs bs => ?_⟩
  show (match runL e (L2 ++ L1) vs bs with
    | none => none
    | some s => stepR e (k - 30) 0 s.1 s.2) = _
  rw [runL_app ((h1 e he).2 vs bs) L2, (h2 e he).2]
  show stepR e (k - 30) 0 (v2 e :: v1 e :: vs) bs = some (ar2 (k - 30) (v1 e) (v2 e) :: vs, bs)
  rcases hk with hk | hk | hk | hk <;> rw [hk] <;> rfl
theorem ahd_r {a : Nat} {P : List Nat} (h : 4 ≤ rkP a) : ahd (a :: P) = false := by
  have e : tp3 (a :: P) = false := by
    show (decide (40 ≤ a) || (decide (1 ≤ rkP a) && decide (rkP a ≤ 3))) = false
    refine fls (fun z => ?_)
    simp only [Bool.or_eq_true, Bool.and_eq_true, decide_eq_true_eq] at z
    rcases z with z | z
    · have := rk_40.mpr z; omega
    · omega
  unfold ahd
  rw [e, Bool.and_false]
theorem prod_ct {T : TS} {w : Bool} {n : Nat} {one : Nat → PR SVl} (h46 : ∀ j, 300 ≤ j → T.1 j = 46) (h : OneG T w n one) : Ct T w n 6 (pV 5) exT CodV kxP (pProd T one) := by
  refine ct_loop (r := 5) (op := mulB) (cmb := cmbA) (pre := pV 5) (preS := pV 6) (nxS := nx0) (mc := fun k => k - 30) h46 rfl (one_ct h) (fun k0 P hP => ⟨hP.1, ⟨tpR_le (by decide) hP.1, hP.2⟩, fun k hk k2 => ?_⟩) (fun _ _ _ _ _ _ _ => trivial) (fun k hk => ?_) (fun k k0 P Q hk _ _ _ => ?_) (fun k L1 L2 v1 v2 hk h1 h2 => cod_2 ?_ h1 h2)
  · rcases mul_k hk with rfl | rfl <;> exact ⟨Nat.le_refl 6, fun _ => ahd_r (by decide)⟩
  · rcases mul_k hk with rfl | rfl <;> decide
  · rcases mul_k hk with rfl | rfl <;> rfl
  · rcases mul_k hk with rfl | rfl <;> decide
theorem sum_ct {T : TS} {w : Bool} {n : Nat} {one : Nat → PR SVl} (h46 : ∀ j, 300 ≤ j → T.1 j = 46) (h : OneG T w n one) : SumCt T w n (pSum T one) := by
  refine ct_loop (r := 4) (op := addB) (cmb := cmbA) (pre := pV 4) (preS := pV 5) (nxS := kxP) (mc := fun k => k - 30) h46 rfl (prod_ct h46 h) (fun k0 P hP => ⟨hP.1, ⟨tpR_le (by decide) hP.1, hP.2⟩, fun k hk k2 => ?_⟩) (fun _ _ _ _ _ _ _ => trivial) (fun k hk => ?_) (fun k k0 P Q hk _ _ _ => ?_) (fun k L1 L2 v1 v2 hk h1 h2 => cod_2 ?_ h1 h2)
  · rcases add_k hk with rfl | rfl <;> exact ⟨Nat.le_refl 5, fun _ => ahd_r (by decide)⟩
  · rcases add_k hk with rfl | rfl <;> decide
  · rcases add_k hk with rfl | rfl <;> rfl
  · rcases add_k hk with rfl | rfl <;> decide
theorem preA_c {P : List Nat} {a : Nat} (h : preA P) (ha : a < 40) (hr : 1 ≤ rkP a ∧ rkP a ≤ 3) : preA (a :: P) := by
  refine ⟨(if_neg (by omega)).trans h.1, ?_, ?_⟩
  · show (decide (40 ≤ a) || (decide (1 ≤ rkP a) && decide (rkP a ≤ 3))) = true
    simp only [Bool.or_eq_true, Bool.and_eq_true, decide_eq_true_eq]
    exact Or.inr hr
  · show (if rkP a ≤ 4 then decide (rkP a = 4) else cpd P) = false
    rw [if_pos (by omega)]
    exact decide_eq_false (by omega)
theorem cod_b {k : Nat} {L1 L2 : Kd} {v1 v2 : SBl} {f : Bool → Bool → Bool} (hk : (k = 21 ∧ f = and) ∨ (k = 22 ∧ f = or)) (h1 : CodB L1 v1) (h2 : CodB L2 v2) : CodB ((k, 0) :: (L2 ++ L1)) (fun e => f (v1 e) (v2 e)) := by
  intro e he vs bs
  show (match runL e (L2 ++ L1) vs bs with
    | none => none
    | some s => stepR e k 0 s.1 s.2) = _
  rw [runL_app (h1 e he vs bs) L2, h2 e he]
  show stepR e k 0 vs (v2 e :: v1 e :: bs) = some (vs, f (v1 e) (v2 e) :: bs)
  rcases hk with ⟨rfl, rfl⟩ | ⟨rfl, rfl⟩ <;> rfl
theorem btw_c {k : Nat} {P : List Nat} (hk : k ≠ 36 ∧ k ≠ 37 ∧ k ≠ 38 ∧ k ≠ 39) (h : opn P = 41) : btw k P = if cpd P = true then (if k = 24 then 21 else if k = 23 then 22 else 0) else if cmpB k = true then cpK k else 0 := by
  unfold btw
  rw [if_neg hk.1, if_neg hk.2.1, if_neg hk.2.2.1, if_neg hk.2.2.2, if_pos h]
theorem btw_n {k : Nat} {P : List Nat} (hk : k ≠ 36 ∧ k ≠ 37 ∧ k ≠ 38 ∧ k ≠ 39) (h : opn P ≠ 41) : btw k P = 0 := by
  unfold btw
  rw [if_neg hk.1, if_neg hk.2.1, if_neg hk.2.2.1, if_neg hk.2.2.2, if_neg h]
theorem both_ct {T : TS} {w : Bool} {n : Nat} {ask : Nat → PR SBl} (h46 : ∀ j, 300 ≤ j → T.1 j = 46) (h : AskCt T w n ask) : Ct T w n 2 (fun _ => preB) exA CodB nxB (pBoth T ask) := by
  show Ct T w n 2 (fun _ => preB) exA CodB (fun k => kxS k ∧ andB k = false) (fun j => bnd (ask j) (pLoop T andB ask (fun _ a b => fun e => a e && b e) 300))
  refine ct_loop (one := ask) (ex := exA) (Cod := CodB) (r := 1) (op := andB) (cmb := fun _ a b => fun e => a e && b e) (pre := fun _ => preB) (preS := fun _ => preA) (nxS := kxS) (mc := fun _ => 21) h46 rfl h (fun _ P hP => ⟨hP.2, hP.1, fun k hk _ => preA_c hP.1 (by decide) (by decide)⟩) (fun k _ P Q _ _ h => by rw [List.append_assoc]; exact h) (fun k hk => by decide) (fun k _ P Q hk _ _ hE => ?_) (fun k L1 L2 v1 v2 hk h1 h2 => cod_b (f := and) (Or.inl ⟨rfl, rfl⟩) h1 h2)
  have e : k = 24 := of_decide_eq_true hk
  rw [e, btw_c (by decide) hE.2, if_pos hE.1]
  rfl
theorem eit_ct {T : TS} {w : Bool} {n : Nat} {ask : Nat → PR SBl} (h46 : ∀ j, 300 ≤ j → T.1 j = 46) (h : AskCt T w n ask) : EitCt T w n (pEith T ask) := by
  show Ct T w n 1 (fun _ => preE) exA CodB (fun k => nxB k ∧ orB k = false) (fun j => bnd (pBoth T ask j) (pLoop T orB (pBoth T ask) (fun _ a b => fun e => a e || b e) 300))
  refine ct_loop (one := pBoth T ask) (ex := exA) (Cod := CodB) (r := 0) (op := orB) (cmb := fun _ a b => fun e => a e || b e) (pre := fun _ => preE) (preS := fun _ => preB) (nxS := nxB) (mc := fun _ => 22) h46 rfl (both_ct h46 h) (fun _ P hP => ⟨hP.2, hP.1, fun k hk _ => ⟨preA_c hP.1.1 (by decide) (by decide), Nat.le_refl 1⟩⟩) (fun k _ P Q _ _ h => by rw [List.append_assoc]; exact h) (fun k hk => by decide) (fun k _ P Q hk _ _ hE => ?_) (fun k L1 L2 v1 v2 hk h1 h2 => cod_b (f := or) (Or.inr ⟨rfl, rfl⟩) h1 h2)
  have e : k = 23 := of_decide_eq_true hk
  rw [e, btw_c (by decide) hE.2, if_pos hE.1]
  rfl
theorem nx_op {k : Nat} (h : kxS k) : k ≠ 36 ∧ k ≠ 37 ∧ k ≠ 38 ∧ k ≠ 39 := by
  refine ⟨fun z => ?_, fun z => ?_, fun z => ?_, fun z => ?_⟩
  · have := h.2; rw [z] at this; cases this
  · have := h.2; rw [z] at this; cases this
  · have := h.1.2; rw [z] at this; cases this
  · have := h.1.2; rw [z] at this; cases this
theorem tp3_4 : ∀ {P : List Nat}, tp3 P = true → tpR 4 P
  | [], _ => trivial
  | a :: P, h => by
    have h : (decide (40 ≤ a) || (decide (1 ≤ rkP a) && decide (rkP a ≤ 3))) = true := h
    simp only [Bool.or_eq_true, Bool.and_eq_true, decide_eq_true_eq] at h
    show rkP a ≤ 4
    rcases h with h | h
    · rw [rk_40.mpr h]; decide
    · omega
theorem cmp_k {k : Nat} (h : cmpB k = true) : k = 32 ∨ k = 33 ∨ k = 34 ∨ k = 35 ∨ k = 43 ∨ k = 44 := by
  simp only [cmpB, Bool.or_eq_true, Bool.and_eq_true, decide_eq_true_eq] at h
  omega
theorem cmp_f {k : Nat} (h : cmpB k = true) : cpK k ≠ 0 ∧ (rkP (cpK k) = 4 ∧ (lstP (cpK k) = 5 ∧ (ctP (cpK k) = 0 ∧ cpK k < 40))) := by
  rcases cmp_k h with rfl | rfl | rfl | rfl | rfl | rfl <;> decide
theorem cod_c {k : Nat} {L1 L2 : Kd} {v1 v2 : SVl} (hk : cmpB k = true) (h1 : CodV L1 v1) (h2 : CodV L2 v2) : CodB ((cpK k, 0) :: (L2 ++ L1)) (fun e => cp2 (cpK k) (v1 e) (v2 e)) := by
  intro e he vs bs
  show (match runL e (L2 ++ L1) vs bs with
    | none => none
    | some s => stepR e (cpK k) 0 s.1 s.2) = _
  rw [runL_app ((h1 e he).2 vs bs) L2, (h2 e he).2]
  show stepR e (cpK k) 0 (v2 e :: v1 e :: vs) bs = some (vs, cp2 (cpK k) (v1 e) (v2 e) :: bs)
  rcases cmp_k hk with rfl | rfl | rfl | rfl | rfl | rfl <;> rfl
theorem pof_1 {k : Nat} : pof k 41 false = 100 := by
  unfold pof
  rw [if_neg (by decide), if_pos rfl, if_neg (fun z => by cases z.2)]
theorem beh_none {T : TS} {j n : Nat} {P : List Nat} {K : Kd} (h1 : btw (T.1 j) P = 0) (h2 : pof (T.1 j) (opn P) (cpd P) = 100) : behM T j P n K = none := by
  unfold behM
  rw [if_neg (by rw [h1]; exact fun z => z rfl), if_pos h2]
theorem fin_no {T : TS} {w : Bool} {j n : Nat} {P : List Nat} {K : Kd} (h1 : btw (T.1 j) P = 0) (h2 : pof (T.1 j) (opn P) (cpd P) = 100) (h3 : opn P ≠ 0) : Fin_ T w (j, (P, (n, (true, K)))) (.inl (1, j)) := fin_1 (by rw [ms_no (beh_none h1 h2), if_pos h3])
theorem askC_ct {T : TS} {w : Bool} {n : Nat} {one : Nat → PR SVl} (h : SumCt T w n (pSum T one)) : Ct T w n 3 (fun k P => preA P ∧ k ≠ 25) exA CodB kxS (pAskC T one) := by
  intro j P m K hm hP25
  have hP := hP25.1
  have p4 := tp3_4 hP.2.1
  have s := h j P m K hm ⟨p4, fun z => absurd z hP25.2⟩
  unfold pAskC
  cases hq : pSum T one j with
  | inl q => rw [hq] at s; exact s
  | inr q =>
    rw [hq] at s
    obtain ⟨s1, s2, L, Q, s3, s4, _, s6⟩ := s
    have ho : opn (Q ++ P) = 41 := (opn_Q (fun a ha => by have := s4 a ha; omega)).trans hP.1
    have hc : cpd (Q ++ P) = false := (cpd_Q s4).trans hP.2.2
    rw [bnd_r]
    by_cases hk : cmpB (T.1 q.1) = true
    · rw [if_pos hk]
      obtain ⟨m1, m2, m3, m4, m5⟩ := cmp_f hk
      have hb : btw (T.1 q.1) (Q ++ P) = cpK (T.1 q.1) := by rw [btw_c (nx_op s2) ho, if_neg (by rw [hc]; decide), if_pos hk]
      have h1 := beh_op (T := T) (w := w) (j := q.1) (n := m + ctQ Q) (P := Q ++ P) (K := L ++ K) (by rw [hb]; exact m1)
      rw [hb, m3, stl_Q p4 s4] at h1
      have hR1 := rch_t s6 (rch_1 h1)
      have t := h (q.1 + 1) (cpK (T.1 q.1) :: P) m (emQ Q (L ++ K)) hm ⟨show rkP (cpK (T.1 q.1)) ≤ 4 by omega, fun _ => ahd_r (by omega)⟩
      cases hr : pSum T one (q.1 + 1) with
      | inl r =>
        rw [hr] at t
        exact fin_t hR1 t
      | inr r =>
        rw [hr] at t
        obtain ⟨t1, t2, L2, Q2, t3, t4, _, t6⟩ := t
        refine ⟨by show j < r.1; omega, t2, L2 ++ emQ Q L, Q2 ++ [cpK (T.1 q.1)], ?_, fun a ha => ?_, ⟨?_, ?_⟩, rch_t hR1 ?_⟩
        · rw [emQ_cat, emQ_app]
          exact cod_c hk s3 t3
        · rcases List.mem_append.mp ha with ha | ha
          · have := t4 a ha; omega
          · rw [List.mem_singleton.mp ha, m2]; decide
        · rw [List.append_assoc, cpd_Q t4]
          show (if rkP (cpK (T.1 q.1)) ≤ 4 then decide (rkP (cpK (T.1 q.1)) = 4) else cpd P) = true
          rw [m2]; rfl
        · rw [List.append_assoc, opn_Q (fun a ha => by have := t4 a ha; omega)]
          exact (if_neg (by omega)).trans hP.1
        · rw [ctQ_cat, show ctQ [cpK (T.1 q.1)] = 0 from m4, List.append_assoc, List.append_assoc, ← emQ_app]
          exact t6
    · rw [if_neg hk]
      refine fin_t s6 (fin_no ?_ ?_ (by rw [ho]; decide))
      · rw [btw_c (nx_op s2) ho, if_neg (by rw [hc]; decide), if_neg hk]
      · rw [ho, hc, pof_1]
