def ftJ (st : Nat → Nat) (sn un j : Nat) : Bool := fitB sn un (mvs (j % 8) (st (j / 8)))
def aA (st : Nat → Nat) (sn un s j : Nat) : Nat := if ftJ st sn un j && (mvs (j % 8) (st (j / 8))).testBit s then 1 else 0
def aB (st : Nat → Nat) (sn un s j : Nat) : Nat := if ftJ st sn un j && !(mvs (j % 8) (st (j / 8))).testBit s then 1 else 0
def aT (st : Nat → Nat) (sn un j : Nat) : Nat := if ftJ st sn un j then 1 else 0
def aM (st : Nat → Nat) (sn un i : Nat) : Nat := if fwN sn un (st i) = 0 then 0 else 1
theorem aAB (st : Nat → Nat) (sn un s N : Nat) : smN (aA st sn un s) N + smN (aB st sn un s) N = smN (aT st sn un) N := by
  rw [← smN_add]
  refine smN_cong (fun j _ => ?_)
  show aA st sn un s j + aB st sn un s j = aT st sn un j
  unfold aA aB aT
  cases ftJ st sn un j
  · rfl
  · cases (mvs (j % 8) (st (j / 8))).testBit s <;> rfl
theorem jw (i w : Nat) (hw : w < 8) : (8 * i + w) % 8 = w ∧ (8 * i + w) / 8 = i := ⟨by omega, by omega⟩
theorem aA_at {st : Nat → Nat} {sn un s i w : Nat} (hw : w < 8) : aA st sn un s (8 * i + w) = if fitB sn un (mvs w (st i)) && (mvs w (st i)).testBit s then 1 else 0 := by
  unfold aA ftJ
  rw [(jw i w hw).1, (jw i w hw).2]
theorem aB_at {st : Nat → Nat} {sn un s i w : Nat} (hw : w < 8) : aB st sn un s (8 * i + w) = if fitB sn un (mvs w (st i)) && !(mvs w (st i)).testBit s then 1 else 0 := by
  unfold aB ftJ
  rw [(jw i w hw).1, (jw i w hw).2]
theorem aT_at {st : Nat → Nat} {sn un i w : Nat} (hw : w < 8) : aT st sn un (8 * i + w) = if fitB sn un (mvs w (st i)) then 1 else 0 := by
  unfold aT ftJ
  rw [(jw i w hw).1, (jw i w hw).2]
theorem smN_le1 {f : Nat → Nat} (h : ∀ k, f k ≤ 1) : ∀ n, smN f n ≤ n
  | 0 => Nat.le_refl 0
  | n + 1 => by
    have := smN_le1 h n
    have := h n
    rw [smN]
    omega
theorem aT_le (st : Nat → Nat) (sn un N : Nat) : smN (aT st sn un) N ≤ N := smN_le1 (fun k => by unfold aT; split <;> omega) N
theorem aM_le (st : Nat → Nat) (sn un N : Nat) : smN (aM st sn un) N ≤ N := smN_le1 (fun k => by unfold aM; split <;> omega) N
theorem smN_app {f : Nat → Nat} (a : Nat) : ∀ n, smN f (a + n) = smN f a + smN (fun k => f (a + k)) n
  | 0 => rfl
  | n + 1 => by
    have := smN_app (f := f) a n
    rw [← Nat.add_assoc, smN, this, smN, Nat.add_assoc]
theorem fw_tb (sn un s w : Nat) : (fwN sn un s).testBit w = (decide (w < 8) && fitB sn un (mvs w s)) := by
  have h := orf_tb (fun w => fitB sn un (mvs w s) = true) w 8
  have e : fwN sn un s = itr (fun p q => q ||| (if fitB sn un (mvs p s) = true then 1 <<< p else 0)) 0 8 := itr_cong (fun k x _ => by rw [or_if])
  rw [e, h]
  congr 1
  cases fitB sn un (mvs w s) <;> rfl
/-- a mark fits if shapes of it come to the row -/
theorem fw_cnt (st : Nat → Nat) (sn un i : Nat) : smN (aT st sn un) (8 * i) < smN (aT st sn un) (8 * i + 8) ↔ ¬ fwN sn un (st i) = 0 := by
  rw [smN_app]
  constructor
  · intro h e
    have hz : smN (fun k => aT st sn un (8 * i + k)) 8 = 0 := smN_0 (fun w hw => by
      have h2 := fw_tb sn un (st i) w
      rw [e, Nat.zero_testBit, decide_eq_true hw, Bool.true_and] at h2
      show aT st sn un (8 * i + w) = 0
      rw [aT_at hw, ← h2]
      rfl)
    omega
  · intro h
    obtain ⟨w, hw⟩ := ne_bit h
    rw [fw_tb, Bool.and_eq_true, decide_eq_true_eq] at hw
    have h1 : aT st sn un (8 * i + w) ≤ smN (fun k => aT st sn un (8 * i + k)) 8 := smN_ge (f := fun k => aT st sn un (8 * i + k)) hw.1
    have h2 : aT st sn un (8 * i + w) = 1 := by rw [aT_at hw.1, hw.2]; rfl
    omega
theorem wh_bc (st : Nat → Nat) (sn un : Nat) : ∀ m, m ≤ 8 → bc (whN m st sn un) = smN (aM st sn un) m ∧ whN m st sn un < 2 ^ m := by
  intro m
  induction m with
  | zero => intro _; exact ⟨pcn_0 32, by show 0 < 1; decide⟩
  | succ m ih =>
    intro hm
    obtain ⟨h1, h2⟩ := ih (by omega)
    have e : whN (m + 1) st sn un = if fwN sn un (st m) = 0 then whN m st sn un else whN m st sn un ||| 1 <<< m := rfl
    rw [e, smN, aM]
    split
    · exact ⟨h1, Nat.lt_of_lt_of_le h2 (Nat.pow_le_pow_right (by decide) (by omega))⟩
    · refine ⟨?_, or_lt (m + 1) (Nat.lt_of_lt_of_le h2 (Nat.pow_le_pow_right (by decide) (by omega))) (sh_lt (Nat.lt_succ_self m) (Nat.le_refl _))⟩
      rw [show bc (whN m st sn un ||| 1 <<< m) = bc (whN m st sn un) + 1 from pcn_or2 32 m _ (by omega) (lt_tb (f := m) h2 (Nat.le_refl m)), h1]
/-- the greater part by a stroke -/
def gpN (m : Nat) (st : Nat → Nat) (sn un s : Nat) : Nat := max (smN (aA st sn un s) (8 * m)) (smN (aB st sn un s) (8 * m))
theorem gp_le {m : Nat} {st : Nat → Nat} {sn un s : Nat} : gpN m st sn un s ≤ smN (aT st sn un) (8 * m) := by
  have := aAB st sn un s (8 * m)
  unfold gpN
  omega
def akF (m : Nat) (st : Nat → Nat) (sn un : Nat) : Nat → Nat × Nat → Nat × Nat := fun k x => if (sn ||| un).testBit k then x else if gpN m st sn un k < x.2 then (k, gpN m st sn un k) else x
def akN (m : Nat) (st : Nat → Nat) (sn un v : Nat) (k : Nat) : Nat × Nat := itr (akF m st sn un) (20, v) k
theorem ak_same {m : Nat} {st : Nat → Nat} {sn un v v' : Nat} (hv : smN (aT st sn un) (8 * m) < v) (hv' : smN (aT st sn un) (8 * m) < v') : ∀ k, (akN m st sn un v k = (20, v) ∧ akN m st sn un v' k = (20, v')) ∨ akN m st sn un v k = akN m st sn un v' k
  | 0 => Or.inl ⟨rfl, rfl⟩
  | k + 1 => by
    have e : ∀ v, akN m st sn un v (k + 1) = akF m st sn un k (akN m st sn un v k) := fun _ => rfl
    rw [e, e]
    have hg := gp_le (m := m) (st := st) (sn := sn) (un := un) (s := k)
    rcases ak_same hv hv' k with ⟨h1, h2⟩ | h
    · rw [h1, h2]
      unfold akF
      split
      · exact Or.inl ⟨rfl, rfl⟩
      · right
        rw [if_pos (show gpN m st sn un k < (20, v).2 by show _ < v; omega), if_pos (show gpN m st sn un k < (20, v').2 by show _ < v'; omega)]
    · exact Or.inr (by rw [h])
theorem ak_le {m : Nat} {st : Nat → Nat} {sn un v : Nat} (hv : v < 1000001) : ∀ k, k ≤ 20 → (akN m st sn un v k).1 ≤ 20 ∧ (akN m st sn un v k).2 ≤ v :=
  itr_invN (f := akF m st sn un) (fun _ (x : Nat × Nat) => x.1 ≤ 20 ∧ x.2 ≤ v) 20 ⟨Nat.le_refl 20, Nat.le_refl v⟩ (fun k x hk hx => by
    unfold akF
    split
    · exact hx
    · split
      · exact ⟨by show k ≤ 20; omega, by show gpN m st sn un k ≤ v; omega⟩
      · exact hx)
def askI (m : Nat) (st : Nat → Nat) (sn un : Nat) : Int32 := if smN (aM st sn un) m < 2 then (-1) else oI (akN m st sn un (smN (aT st sn un) (8 * m) + 1) 20).1
theorem lp_R_greater_in {d : Nat} {Q : Option Value → Mem → Prop} {X : Mem} {m : Nat} {st rg : Nat → Nat} (hX : Ok X) (hS : RSt X m st rg) {sn un : Nat} (hW : RSn X sn un) {s i : Nat} (hs : s < 20) (hi : i < m) (hd : 2 ≤ d) (kx : ∀ z6 : Option Value, JM d m_R_greaterPart Q 98 [some (.ref 244), some (.int (nI s)), some (.int (nI (smN (aA st sn un s) (8 * i + 8)))), some (.int (nI (smN (aB st sn un s) (8 * i + 8)))), some (.int (nI i)), some (.int (nI 8)), z6] [] X) : ∀ (n w : Nat) (z6 : Option Value), w + n = 8 → JM d m_R_greaterPart Q 21 [some (.ref 244), some (.int (nI s)), some (.int (nI (smN (aA st sn un s) (8 * i + w)))), some (.int (nI (smN (aB st sn un s) (8 * i + w)))), some (.int (nI i)), some (.int (nI w)), z6] [] X := by
  have hm8 := hS.1
  have hsti := (hS.2.2.1 i (by omega)).2
  intro n
  induction n with
  | zero =>
    intro w z6 hi
    obtain rfl : w = 8 := by omega
    refine J_iload d_R_greaterPart_21 rfl ?_
    refine J_bipush (v := nI 8) d_R_greaterPart_23 rfl ?_
    refine N_icmp_ge (tgt := 98) d_R_greaterPart_25 (by decide) (by omega) (by omega) (fun c25 => ?_) (fun c25 => absurd c25 (by omega))
    exact kx _
  | succ n ih =>
    intro w z6 hi
    have hw8 : w < 8 := by omega
    have hmv : mvs w (st i) < 1048576 := mvs_lt
    have hq1 := aT_le st sn un (8 * i + w)
    have hq2 := aAB st sn un s (8 * i + w)
    refine J_iload d_R_greaterPart_21 rfl ?_
    refine J_bipush (v := nI 8) d_R_greaterPart_23 rfl ?_
    refine N_icmp_ge (tgt := 98) d_R_greaterPart_25 (by decide) (by omega) (by omega) (fun c25 => absurd c25 (by omega)) (fun c25 => ?_)
    refine J_aload_n (i := 0) d_R_greaterPart_28 rfl rfl ?_
    refine J_aload_n (i := 0) d_R_greaterPart_29 rfl rfl ?_
    refine M_getR (b := 245) d_R_greaterPart_30 f_R_7 rfl rfl rfl ?_
    refine J_bipush (v := nI 10) d_R_greaterPart_33 rfl ?_
    refine J_iload d_R_greaterPart_35 rfl ?_
    refine N_iadd d_R_greaterPart_37 ?_
    refine N_iald (x := (nI (st i))) d_R_greaterPart_38 rfl (by omega) (ltL hX (a := 245) (n := 1217) (by decide) rfl (by omega)) (hS.2.2.1 i (by omega)).1 ?_
    refine J_iload d_R_greaterPart_39 rfl ?_
    refine CV_N (av := [.int (nI (st i)), .int (nI w)]) d_R_greaterPart_41 s_R_105 (M_rcv rfl (by decide) rfl) (S_R_byWay hX (by omega) (by omega)) (by omega) rfl rfl (Nat.le_of_ble_eq_true rfl) ?_
    refine J_istore (L1 := [some (.ref 244), some (.int (nI s)), some (.int (nI (smN (aA st sn un s) (8 * i + w)))), some (.int (nI (smN (aB st sn un s) (8 * i + w)))), some (.int (nI i)), some (.int (nI w)), some (.int (nI (mvs w (st i))))]) d_R_greaterPart_44 (by decide) rfl ?_
    refine J_aload_n (i := 0) d_R_greaterPart_46 rfl rfl ?_
    refine J_iload d_R_greaterPart_47 rfl ?_
    refine CV_B (av := [.int (nI (mvs w (st i)))]) d_R_greaterPart_49 s_R_483 (M_rcv rfl (by decide) rfl) (S_R_isSeen hX hW hmv) (by omega) rfl rfl (Nat.le_of_ble_eq_true rfl) ?_
    refine B_if_ne (tgt := 58) d_R_greaterPart_52 (by decide) (fun c52 => ?_) (fun c52 => ?_)
    · refine J_iload_n (i := 2) d_R_greaterPart_58 rfl rfl ?_
      refine J_iload d_R_greaterPart_59 rfl ?_
      refine J_iload_n (i := 1) d_R_greaterPart_61 rfl rfl ?_
      refine CS_B (av := [.int (nI (mvs w (st i))), .int (nI s)]) d_R_greaterPart_62 s_R_94 (S_R_has (by first | omega | (simp only [*]; omega)) (by first | omega | exact Nat.lt_trans one_lt (by decide) | exact Nat.lt_trans oth_lt (by decide))) (by omega) rfl rfl (Nat.le_of_ble_eq_true rfl) ?_
      refine B_if_eq (tgt := 72) d_R_greaterPart_65 (by decide) (fun c65 => ?_) (fun c65 => ?_)
      · refine J_iconst (v := nI 0) d_R_greaterPart_72 rfl ?_
        refine N_iadd d_R_greaterPart_73 ?_
        refine J_istore_n (i := 2) (L1 := [some (.ref 244), some (.int (nI s)), some (.int (nI ((smN (aA st sn un s) (8 * i + w)) + 0))), some (.int (nI (smN (aB st sn un s) (8 * i + w)))), some (.int (nI i)), some (.int (nI w)), some (.int (nI (mvs w (st i))))]) d_R_greaterPart_74 rfl (by decide) rfl ?_
        refine J_iload_n (i := 3) d_R_greaterPart_75 rfl rfl ?_
        refine J_iload d_R_greaterPart_76 rfl ?_
        refine J_iload_n (i := 1) d_R_greaterPart_78 rfl rfl ?_
        refine CS_B (av := [.int (nI (mvs w (st i))), .int (nI s)]) d_R_greaterPart_79 s_R_94 (S_R_has (by first | omega | (simp only [*]; omega)) (by first | omega | exact Nat.lt_trans one_lt (by decide) | exact Nat.lt_trans oth_lt (by decide))) (by omega) rfl rfl (Nat.le_of_ble_eq_true rfl) ?_
        refine B_if_eq (tgt := 89) d_R_greaterPart_82 (by decide) (fun c82 => ?_) (fun c82 => absurd c82 (fun z => by rw [c65] at z; cases z))
        refine J_iconst (v := nI 1) d_R_greaterPart_89 rfl ?_
        refine N_iadd d_R_greaterPart_90 ?_
        refine J_istore_n (i := 3) (L1 := [some (.ref 244), some (.int (nI s)), some (.int (nI ((smN (aA st sn un s) (8 * i + w)) + 0))), some (.int (nI ((smN (aB st sn un s) (8 * i + w)) + 1))), some (.int (nI i)), some (.int (nI w)), some (.int (nI (mvs w (st i))))]) d_R_greaterPart_91 rfl (by decide) rfl ?_
        refine N_iinc (a := w) (c := 1) (L1 := [some (.ref 244), some (.int (nI s)), some (.int (nI ((smN (aA st sn un s) (8 * i + w)) + 0))), some (.int (nI ((smN (aB st sn un s) (8 * i + w)) + 1))), some (.int (nI i)), some (.int (nI (w + 1))), some (.int (nI (mvs w (st i))))]) d_R_greaterPart_92 rfl rfl (by decide) rfl ?_
        refine J_goto (tgt := 21) d_R_greaterPart_95 (by decide) ?_
        have e1 : smN (aA st sn un s) (8 * i + (w + 1)) = ((smN (aA st sn un s) (8 * i + w)) + 0) := by show smN (aA st sn un s) (8 * i + w) + aA st sn un s (8 * i + w) = _; rw [aA_at hw8, c52, c65]; rfl
        have e2 : smN (aB st sn un s) (8 * i + (w + 1)) = ((smN (aB st sn un s) (8 * i + w)) + 1) := by show smN (aB st sn un s) (8 * i + w) + aB st sn un s (8 * i + w) = _; rw [aB_at hw8, c52, c65]; rfl
        exact (ih (w + 1) _ (by omega)).eq (by rw [e1, e2]) rfl rfl
      · refine J_iconst (v := nI 1) d_R_greaterPart_68 rfl ?_
        refine J_goto (tgt := 73) d_R_greaterPart_69 (by decide) ?_
        refine N_iadd d_R_greaterPart_73 ?_
        refine J_istore_n (i := 2) (L1 := [some (.ref 244), some (.int (nI s)), some (.int (nI ((smN (aA st sn un s) (8 * i + w)) + 1))), some (.int (nI (smN (aB st sn un s) (8 * i + w)))), some (.int (nI i)), some (.int (nI w)), some (.int (nI (mvs w (st i))))]) d_R_greaterPart_74 rfl (by decide) rfl ?_
        refine J_iload_n (i := 3) d_R_greaterPart_75 rfl rfl ?_
        refine J_iload d_R_greaterPart_76 rfl ?_
        refine J_iload_n (i := 1) d_R_greaterPart_78 rfl rfl ?_
        refine CS_B (av := [.int (nI (mvs w (st i))), .int (nI s)]) d_R_greaterPart_79 s_R_94 (S_R_has (by first | omega | (simp only [*]; omega)) (by first | omega | exact Nat.lt_trans one_lt (by decide) | exact Nat.lt_trans oth_lt (by decide))) (by omega) rfl rfl (Nat.le_of_ble_eq_true rfl) ?_
        refine B_if_eq (tgt := 89) d_R_greaterPart_82 (by decide) (fun c82 => absurd c82 (fun z => by rw [c65] at z; cases z)) (fun c82 => ?_)
        refine J_iconst (v := nI 0) d_R_greaterPart_85 rfl ?_
        refine J_goto (tgt := 90) d_R_greaterPart_86 (by decide) ?_
        refine N_iadd d_R_greaterPart_90 ?_
        refine J_istore_n (i := 3) (L1 := [some (.ref 244), some (.int (nI s)), some (.int (nI ((smN (aA st sn un s) (8 * i + w)) + 1))), some (.int (nI ((smN (aB st sn un s) (8 * i + w)) + 0))), some (.int (nI i)), some (.int (nI w)), some (.int (nI (mvs w (st i))))]) d_R_greaterPart_91 rfl (by decide) rfl ?_
        refine N_iinc (a := w) (c := 1) (L1 := [some (.ref 244), some (.int (nI s)), some (.int (nI ((smN (aA st sn un s) (8 * i + w)) + 1))), some (.int (nI ((smN (aB st sn un s) (8 * i + w)) + 0))), some (.int (nI i)), some (.int (nI (w + 1))), some (.int (nI (mvs w (st i))))]) d_R_greaterPart_92 rfl rfl (by decide) rfl ?_
        refine J_goto (tgt := 21) d_R_greaterPart_95 (by decide) ?_
        have e1 : smN (aA st sn un s) (8 * i + (w + 1)) = ((smN (aA st sn un s) (8 * i + w)) + 1) := by show smN (aA st sn un s) (8 * i + w) + aA st sn un s (8 * i + w) = _; rw [aA_at hw8, c52, c65]; rfl
        have e2 : smN (aB st sn un s) (8 * i + (w + 1)) = ((smN (aB st sn un s) (8 * i + w)) + 0) := by show smN (aB st sn un s) (8 * i + w) + aB st sn un s (8 * i + w) = _; rw [aB_at hw8, c52, c65]; rfl
        exact (ih (w + 1) _ (by omega)).eq (by rw [e1, e2]) rfl rfl
    · refine J_goto (tgt := 92) d_R_greaterPart_55 (by decide) ?_
      refine N_iinc (a := w) (c := 1) (L1 := [some (.ref 244), some (.int (nI s)), some (.int (nI (smN (aA st sn un s) (8 * i + w)))), some (.int (nI (smN (aB st sn un s) (8 * i + w)))), some (.int (nI i)), some (.int (nI (w + 1))), some (.int (nI (mvs w (st i))))]) d_R_greaterPart_92 rfl rfl (by decide) rfl ?_
      refine J_goto (tgt := 21) d_R_greaterPart_95 (by decide) ?_
      have e1 : smN (aA st sn un s) (8 * i + (w + 1)) = (smN (aA st sn un s) (8 * i + w)) := by show smN (aA st sn un s) (8 * i + w) + aA st sn un s (8 * i + w) = _; rw [aA_at hw8, c52]; rfl
      have e2 : smN (aB st sn un s) (8 * i + (w + 1)) = (smN (aB st sn un s) (8 * i + w)) := by show smN (aB st sn un s) (8 * i + w) + aB st sn un s (8 * i + w) = _; rw [aB_at hw8, c52]; rfl
      exact (ih (w + 1) _ (by omega)).eq (by rw [e1, e2]) rfl rfl

theorem lp_R_greater {d : Nat} {Q : Option Value → Mem → Prop} {X : Mem} {m : Nat} {st rg : Nat → Nat} (hX : Ok X) (hS : RSt X m st rg) {sn un : Nat} (hW : RSn X sn un) {s : Nat} (hs : s < 20) (hd : 2 ≤ d) (kx : ∀ z5 z6 : Option Value, JM d m_R_greaterPart Q 104 [some (.ref 244), some (.int (nI s)), some (.int (nI (smN (aA st sn un s) (8 * m)))), some (.int (nI (smN (aB st sn un s) (8 * m)))), some (.int (nI m)), z5, z6] [] X) : ∀ (n i : Nat) (z5 z6 : Option Value), i + n = m → JM d m_R_greaterPart Q 7 [some (.ref 244), some (.int (nI s)), some (.int (nI (smN (aA st sn un s) (8 * i)))), some (.int (nI (smN (aB st sn un s) (8 * i)))), some (.int (nI i)), z5, z6] [] X := by
  have hm8 := hS.1
  intro n
  induction n with
  | zero =>
    intro i z5 z6 hi
    obtain rfl : m = i := by omega
    refine J_iload d_R_greaterPart_7 rfl ?_
    refine J_aload_n (i := 0) d_R_greaterPart_9 rfl rfl ?_
    refine M_getR (b := 245) d_R_greaterPart_10 f_R_7 rfl rfl rfl ?_
    refine J_iconst (v := nI 0) d_R_greaterPart_13 rfl ?_
    refine N_iald (x := (nI m)) d_R_greaterPart_14 rfl (by omega) (ltL hX (a := 245) (n := 1217) (by decide) rfl (by omega)) hS.2.1 ?_
    refine N_icmp_ge (tgt := 104) d_R_greaterPart_15 (by decide) (by omega) (by omega) (fun c15 => ?_) (fun c15 => absurd c15 (by omega))
    exact kx _ _
  | succ n ih =>
    intro i z5 z6 hi
    refine J_iload d_R_greaterPart_7 rfl ?_
    refine J_aload_n (i := 0) d_R_greaterPart_9 rfl rfl ?_
    refine M_getR (b := 245) d_R_greaterPart_10 f_R_7 rfl rfl rfl ?_
    refine J_iconst (v := nI 0) d_R_greaterPart_13 rfl ?_
    refine N_iald (x := (nI m)) d_R_greaterPart_14 rfl (by omega) (ltL hX (a := 245) (n := 1217) (by decide) rfl (by omega)) hS.2.1 ?_
    refine N_icmp_ge (tgt := 104) d_R_greaterPart_15 (by decide) (by omega) (by omega) (fun c15 => absurd c15 (by omega)) (fun c15 => ?_)
    refine J_iconst (v := nI 0) d_R_greaterPart_18 rfl ?_
    refine J_istore (L1 := [some (.ref 244), some (.int (nI s)), some (.int (nI (smN (aA st sn un s) (8 * i)))), some (.int (nI (smN (aB st sn un s) (8 * i)))), some (.int (nI i)), some (.int (nI 0)), z6]) d_R_greaterPart_19 (by decide) rfl ?_
    refine lp_R_greater_in hX hS hW hs (by omega) hd (fun z6 => ?_) 8 0 _ (by omega)
    refine N_iinc (a := i) (c := 1) (L1 := [some (.ref 244), some (.int (nI s)), some (.int (nI (smN (aA st sn un s) (8 * i + 8)))), some (.int (nI (smN (aB st sn un s) (8 * i + 8)))), some (.int (nI (i + 1))), some (.int (nI 8)), z6]) d_R_greaterPart_98 rfl rfl (by decide) rfl ?_
    refine J_goto (tgt := 7) d_R_greaterPart_101 (by decide) ?_
    exact ih (i + 1) _ _ (by omega)

theorem S_R_greaterPart {X : Mem} {m : Nat} {st rg : Nat → Nat} (hX : Ok X) (hS : RSt X m st rg) {sn un : Nat} (hW : RSn X sn un) {s : Nat} (hs : s < 20) : CM 2 m_R_greaterPart [.ref 244, .int (nI s)] X (rN (gpN m st sn un s) X) := by
  refine CM_of (L := [some (.ref 244), some (.int (nI s)), none, none, none, none, none]) 5 ok_R_greaterPart (fun _ => Nat.le_of_ble_eq_true rfl) rfl ?_
  refine J_iconst (v := nI 0) d_R_greaterPart_0 rfl ?_
  refine J_istore_n (i := 2) (L1 := [some (.ref 244), some (.int (nI s)), some (.int (nI 0)), none, none, none, none]) d_R_greaterPart_1 rfl (by decide) rfl ?_
  refine J_iconst (v := nI 0) d_R_greaterPart_2 rfl ?_
  refine J_istore_n (i := 3) (L1 := [some (.ref 244), some (.int (nI s)), some (.int (nI 0)), some (.int (nI 0)), none, none, none]) d_R_greaterPart_3 rfl (by decide) rfl ?_
  refine J_iconst (v := nI 0) d_R_greaterPart_4 rfl ?_
  refine J_istore (L1 := [some (.ref 244), some (.int (nI s)), some (.int (nI 0)), some (.int (nI 0)), some (.int (nI 0)), none, none]) d_R_greaterPart_5 (by decide) rfl ?_
  have hq1 := aT_le st sn un (8 * m)
  have hq2 := aAB st sn un s (8 * m)
  have hm8 := hS.1
  refine lp_R_greater hX hS hW hs (by decide) (fun z5 z6 => ?_) m 0 _ _ (by omega)
  refine J_iload_n (i := 2) d_R_greaterPart_104 rfl rfl ?_
  refine J_iload_n (i := 3) d_R_greaterPart_105 rfl rfl ?_
  refine N_icmp_le (tgt := 113) d_R_greaterPart_106 (by decide) (by omega) (by omega) (fun c106 => ?_) (fun c106 => ?_)
  · refine J_iload_n (i := 3) d_R_greaterPart_113 rfl rfl ?_
    refine M_ir d_R_greaterPart_114 rfl rfl ?_
    exact ⟨by rw [show gpN m st sn un s = (smN (aB st sn un s) (8 * m)) from Nat.max_eq_right (by omega)], rfl⟩
  · refine J_iload_n (i := 2) d_R_greaterPart_109 rfl rfl ?_
    refine J_goto (tgt := 114) d_R_greaterPart_110 (by decide) ?_
    refine M_ir d_R_greaterPart_114 rfl rfl ?_
    exact ⟨by rw [show gpN m st sn un s = (smN (aA st sn un s) (8 * m)) from Nat.max_eq_left (by omega)], rfl⟩

theorem lp_R_ask {d : Nat} {Q : Option Value → Mem → Prop} {X : Mem} {m : Nat} {st rg : Nat → Nat} (hX : Ok X) (hS : RSt X m st rg) {sn un : Nat} (hW : RSn X sn un) (hd : 3 ≤ d) (kx : JM d m_R_ask Q 75 [some (.ref 244), some (.int (oI (akN m st sn un 1000000 20).1)), some (.int (nI ((akN m st sn un 1000000 20).2))), some (.int (nI 20))] [] X) : ∀ (n k : Nat), k + n = 20 → JM d m_R_ask Q 21 [some (.ref 244), some (.int (oI (akN m st sn un 1000000 k).1)), some (.int (nI ((akN m st sn un 1000000 k).2))), some (.int (nI k))] [] X := by
  have hm8 := hS.1
  have hsu := or_lt 20 hW.2.2.1 hW.2.2.2
  have hq1 := aT_le st sn un (8 * m)
  intro n
  induction n with
  | zero =>
    intro k hi
    obtain rfl : k = 20 := by omega
    refine J_iload_n (i := 3) d_R_ask_21 rfl rfl ?_
    refine J_bipush (v := nI 20) d_R_ask_22 rfl ?_
    refine N_icmp_ge (tgt := 75) d_R_ask_24 (by decide) (by omega) (by omega) (fun c24 => ?_) (fun c24 => absurd c24 (by omega))
    exact kx
  | succ n ih =>
    intro k hi
    generalize hx : (akN m st sn un 1000000 k) = x
    have hx5 : x.1 ≤ 20 ∧ x.2 ≤ 1000000 := by rw [← hx]; exact ak_le (by decide) k (by omega)
    have hg := gp_le (m := m) (st := st) (sn := sn) (un := un) (s := k)
    refine J_iload_n (i := 3) d_R_ask_21 rfl rfl ?_
    refine J_bipush (v := nI 20) d_R_ask_22 rfl ?_
    refine N_icmp_ge (tgt := 75) d_R_ask_24 (by decide) (by omega) (by omega) (fun c24 => absurd c24 (by omega)) (fun c24 => ?_)
    refine J_aload_n (i := 0) d_R_ask_27 rfl rfl ?_
    refine M_getR (b := 245) d_R_ask_28 f_R_7 rfl rfl rfl ?_
    refine J_bipush (v := nI 26) d_R_ask_31 rfl ?_
    refine N_iald (x := (nI sn)) d_R_ask_33 rfl (by omega) (ltL hX (a := 245) (n := 1217) (by decide) rfl (by omega)) hW.1 ?_
    refine J_aload_n (i := 0) d_R_ask_34 rfl rfl ?_
    refine M_getR (b := 245) d_R_ask_35 f_R_7 rfl rfl rfl ?_
    refine J_bipush (v := nI 27) d_R_ask_38 rfl ?_
    refine N_iald (x := (nI un)) d_R_ask_40 rfl (by omega) (ltL hX (a := 245) (n := 1217) (by decide) rfl (by omega)) hW.2.1 ?_
    refine N_ior d_R_ask_41 ?_
    refine J_iload_n (i := 3) d_R_ask_42 rfl rfl ?_
    refine CS_B (av := [.int (nI (sn ||| un)), .int (nI k)]) d_R_ask_43 s_R_94 (S_R_has (by first | omega | (simp only [*]; omega)) (by first | omega | exact Nat.lt_trans one_lt (by decide) | exact Nat.lt_trans oth_lt (by decide))) (by omega) rfl rfl (Nat.le_of_ble_eq_true rfl) ?_
    refine B_if_ne (tgt := 69) d_R_ask_46 (by decide) (fun c46 => ?_) (fun c46 => ?_)
    · refine N_iinc (a := k) (c := 1) (L1 := [some (.ref 244), some (.int (oI x.1)), some (.int (nI x.2)), some (.int (nI (k + 1)))]) d_R_ask_69 rfl rfl (by decide) rfl ?_
      refine J_goto (tgt := 21) d_R_ask_72 (by decide) ?_
      have e : akN m st sn un 1000000 (k + 1) = x := itr_g (f := akF m st sn un) hx (by show akF m st sn un k x = _; rw [akF, c46]; rfl)
      exact (ih (k + 1) (by omega)).eq (by rw [e]) rfl rfl
    · refine J_aload_n (i := 0) d_R_ask_49 rfl rfl ?_
      refine J_iload_n (i := 3) d_R_ask_50 rfl rfl ?_
      refine CV_N (av := [.int (nI k)]) d_R_ask_51 s_R_493 (M_rcv rfl (by decide) rfl) (S_R_greaterPart hX hS hW (by omega)) (by omega) rfl rfl (Nat.le_of_ble_eq_true rfl) ?_
      refine J_iload_n (i := 2) d_R_ask_54 rfl rfl ?_
      refine N_icmp_lt (tgt := 61) d_R_ask_55 (by decide) (by omega) (by omega) (fun c55 => ?_) (fun c55 => ?_)
      · refine J_aload_n (i := 0) d_R_ask_61 rfl rfl ?_
        refine J_iload_n (i := 3) d_R_ask_62 rfl rfl ?_
        refine CV_N (av := [.int (nI k)]) d_R_ask_63 s_R_493 (M_rcv rfl (by decide) rfl) (S_R_greaterPart hX hS hW (by omega)) (by omega) rfl rfl (Nat.le_of_ble_eq_true rfl) ?_
        refine J_istore_n (i := 2) (L1 := [some (.ref 244), some (.int (oI x.1)), some (.int (nI (gpN m st sn un k))), some (.int (nI k))]) d_R_ask_66 rfl (by decide) rfl ?_
        refine J_iload_n (i := 3) d_R_ask_67 rfl rfl ?_
        refine J_istore_n (i := 1) (L1 := [some (.ref 244), some (.int (nI k)), some (.int (nI (gpN m st sn un k))), some (.int (nI k))]) d_R_ask_68 rfl (by decide) rfl ?_
        refine N_iinc (a := k) (c := 1) (L1 := [some (.ref 244), some (.int (nI k)), some (.int (nI (gpN m st sn un k))), some (.int (nI (k + 1)))]) d_R_ask_69 rfl rfl (by decide) rfl ?_
        refine J_goto (tgt := 21) d_R_ask_72 (by decide) ?_
        have e : akN m st sn un 1000000 (k + 1) = (k, gpN m st sn un k) := itr_g (f := akF m st sn un) hx (by show akF m st sn un k x = _; rw [akF, c46, if_neg (show ¬ false = true by decide), if_pos (by omega)])
        exact (ih (k + 1) (by omega)).eq (by rw [e]; rw [show oI (k, gpN m st sn un k).1 = nI k from oI_lt (by omega)]) rfl rfl
      · refine J_goto (tgt := 69) d_R_ask_58 (by decide) ?_
        refine N_iinc (a := k) (c := 1) (L1 := [some (.ref 244), some (.int (oI x.1)), some (.int (nI x.2)), some (.int (nI (k + 1)))]) d_R_ask_69 rfl rfl (by decide) rfl ?_
        refine J_goto (tgt := 21) d_R_ask_72 (by decide) ?_
        have e : akN m st sn un 1000000 (k + 1) = x := itr_g (f := akF m st sn un) hx (by show akF m st sn un k x = _; rw [akF, c46, if_neg (show ¬ false = true by decide), if_neg (by omega)])
        exact (ih (k + 1) (by omega)).eq (by rw [e]) rfl rfl

theorem S_R_ask {X : Mem} {m : Nat} {st rg : Nat → Nat} (hX : Ok X) (hS : RSt X m st rg) {sn un : Nat} (hW : RSn X sn un) : CM 4 m_R_ask [.ref 244] X (rI (askI m st sn un) X) := by
  have hwl := (wh_bc st sn un m hS.1).2
  have hwl2 : whN m st sn un < 256 := Nat.lt_of_lt_of_le hwl (Nat.pow_le_pow_right (n := 2) (by decide) hS.1)
  have hq1 := aT_le st sn un (8 * m)
  have hm8 := hS.1
  refine CM_of (L := [some (.ref 244), none, none, none]) 3 ok_R_ask (fun _ => Nat.le_of_ble_eq_true rfl) rfl ?_
  refine J_aload_n (i := 0) d_R_ask_0 rfl rfl ?_
  refine CV_N (av := []) d_R_ask_1 s_R_489 (M_rcv rfl (by decide) rfl) (S_R_which hX hS hW) (by decide) rfl rfl (Nat.le_of_ble_eq_true rfl) ?_
  refine CS_N (av := [.int (nI (whN m st sn un))]) d_R_ask_4 s_R_121 (S_R_bits (by omega)) (by decide) rfl rfl (Nat.le_of_ble_eq_true rfl) ?_
  refine N_nm (fun vB hvB => ?_)
  have hvB2 : vB ≤ 32 := by rw [hvB]; exact bc_le _
  refine J_iconst (v := nI 2) d_R_ask_7 rfl ?_
  refine N_icmp_ge (tgt := 13) d_R_ask_8 (by decide) (by omega) (by omega) (fun c8 => ?_) (fun c8 => ?_)
  · refine J_iconst (v := (-1)) d_R_ask_13 rfl ?_
    refine J_istore_n (i := 1) (L1 := [some (.ref 244), some (.int (-1)), none, none]) d_R_ask_14 rfl (by decide) rfl ?_
    refine J_ldcw d_R_ask_15 w_R_492 ?_
    refine I_ton (n := 1000000) rfl ?_
    refine J_istore_n (i := 2) (L1 := [some (.ref 244), some (.int (-1)), some (.int (nI 1000000)), none]) d_R_ask_18 rfl (by decide) rfl ?_
    refine J_iconst (v := nI 0) d_R_ask_19 rfl ?_
    refine J_istore_n (i := 3) (L1 := [some (.ref 244), some (.int (-1)), some (.int (nI 1000000)), some (.int (nI 0))]) d_R_ask_20 rfl (by decide) rfl ?_
    refine lp_R_ask hX hS hW (by decide) ?_ 20 0 (by omega)
    refine J_iload_n (i := 1) d_R_ask_75 rfl rfl ?_
    refine M_ir d_R_ask_76 rfl rfl ?_
    have hb := (wh_bc st sn un m hS.1).1
    refine ⟨?_, rfl⟩
    rw [askI, ← hb, ← hvB, if_neg (by omega)]
    rcases ak_same (m := m) (st := st) (sn := sn) (un := un) (v := 1000000) (v' := smN (aT st sn un) (8 * m) + 1) (by omega) (by omega) 20 with ⟨e1, e2⟩ | e
    · rw [e1, e2]
    · rw [e]
  · refine J_iconst (v := (-1)) d_R_ask_11 rfl ?_
    refine M_ir d_R_ask_12 rfl rfl ?_
    have hb := (wh_bc st sn un m hS.1).1
    exact ⟨by rw [askI, ← hb, ← hvB, if_pos (by omega)], rfl⟩

