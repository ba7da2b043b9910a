theorem ahd_A {P : List Nat} (h : preA P) : ahd P = true := by
  unfold ahd
  rw [h.1, h.2.1]
  rfl
theorem beg_not {T : TS} {w : Bool} {j n : Nat} {P : List Nat} {K : Kd} (h : T.1 j = 25) (hA : ahd P = true) : begM T w j P n K = opd 20 j P n K := by
  simp [begM, h, hA, nameB]
def mkO (k : Nat) : Nat := if k = 40 then 40 else if k = 37 then 5 else if k = 17 then 4 else if k = 18 then 2 else 41
theorem opn_k {k : Nat} (h : opnB k = true) : k = 40 ∨ k = 37 ∨ k = 17 ∨ k = 18 ∨ k = 19 := by
  simp only [opnB, Bool.or_eq_true, decide_eq_true_eq] at h
  exact h
theorem beg_opn {T : TS} {w : Bool} {j n : Nat} {P : List Nat} {K : Kd} (h : opnB (T.1 j) = true) : begM T w j P n K = opd (mkO (T.1 j)) j P n K := by
  rcases opn_k h with e | e | e | e | e <;> simp [begM, e, nameB, mkO]
theorem opd_8 {a j n : Nat} {P : List Nat} {K : Kd} (h : n = 8) : opd a j P n K = .inl 3 := if_pos h
theorem opd_n {a j n : Nat} {P : List Nat} {K : Kd} (h : n ≠ 8) : opd a j P n K = .inr (j + 1, (a :: P, (n + 1, (false, K)))) := if_neg h
theorem cod_not {L : Kd} {b : SBl} (h : CodB L b) : CodB ((20, 0) :: L) (fun e => !(b e)) := by
  intro e he vs bs
  show (match runL e L vs bs with
    | none => none
    | some s => stepR e 20 0 s.1 s.2) = _
  rw [h e he]
  rfl
theorem ask_0 {T : TS} {w : Bool} {one : Nat → PR SVl} (h : SumCt T w 0 (pSum T one)) : AskCt T w 0 (fAsk T one none) := by
  intro j P m K hm hP
  by_cases h25 : T.1 j = 25
  · rw [show fAsk T one none j = .inl (3, j) from if_pos h25]
    exact fin_1 (ms_begf (by rw [beg_not h25 (ahd_A hP), opd_8 (by omega)]))
  · rw [show fAsk T one none j = pAskC T one j from if_neg h25]
    exact askC_ct h j P m K hm ⟨hP, h25⟩
theorem ask_s {T : TS} {w : Bool} {n : Nat} {one : Nat → PR SVl} {a : Nat → PR SBl} (h : SumCt T w (n + 1) (pSum T one)) (ha : AskCt T w n a) : AskCt T w (n + 1) (fAsk T one (some a)) := by
  intro j P m K hm hP
  by_cases h25 : T.1 j = 25
  · rw [show fAsk T one (some a) j = bnd (a (j + 1)) (fun j2 b => .inr (j2, fun e => !(b e))) from if_pos h25]
    have hR := rch_1 (w := w) (ms_beg (w := w) (n := m) (K := K) (c2 := (j + 1, (20 :: P, (m + 1, (false, K))))) (by rw [beg_not h25 (ahd_A hP), opd_n (by omega)]))
    have t := ha (j + 1) (20 :: P) (m + 1) K (by omega) (preA_c hP (by decide) (by decide))
    cases hq : a (j + 1) with
    | inl q => rw [hq] at t; exact fin_t hR t
    | inr q =>
      rw [hq] at t
      obtain ⟨t1, t2, L, Q, t3, t4, t5, t6⟩ := t
      refine ⟨by show j < q.1; omega, t2, L, Q ++ [20], ?_, fun b hb => ?_, ?_, rch_t hR ?_⟩
      · rw [emQ_cat]
        exact cod_not t3
      · rcases List.mem_append.mp hb with hb | hb
        · exact t4 b hb
        · rw [List.mem_singleton.mp hb]; decide
      · rw [List.append_assoc]; exact t5
      · rw [ctQ_cat, show ctQ [20] = 1 from rfl, show m + (ctQ Q + 1) = m + 1 + ctQ Q by omega, List.append_assoc]
        exact t6
  · rw [show fAsk T one (some a) j = pAskC T one j from if_neg h25]
    exact askC_ct h j P m K hm ⟨hP, h25⟩
