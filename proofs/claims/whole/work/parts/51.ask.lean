/-- the shapes that fit lie in the row, of the first N marks by ways -/
def ghL (st : Nat → Nat) (sn un N : Nat) (l : List Int32) : Prop := l.length = 64 ∧ (∀ q, q < smN (aT st sn un) N → ∃ v, v < 1048576 ∧ l.getD q 0 = nI v) ∧ ∀ s, s < 20 → smN (fun q => if (tn (l.getD q 0)).testBit s then 1 else 0) (smN (aT st sn un) N) = smN (aA st sn un s) N
theorem gh_skip {st : Nat → Nat} {sn un i w : Nat} {l : List Int32} (hw : w < 8) (hf : fitB sn un (mvs w (st i)) = false) (h : ghL st sn un (8 * i + w) l) : smN (aT st sn un) (8 * i + (w + 1)) = smN (aT st sn un) (8 * i + w) ∧ ghL st sn un (8 * i + (w + 1)) l := by
  have e1 : smN (aT st sn un) (8 * i + (w + 1)) = smN (aT st sn un) (8 * i + w) := by
    show smN (aT st sn un) (8 * i + w) + aT st sn un (8 * i + w) = _
    rw [aT_at hw, hf]; rfl
  refine ⟨e1, h.1, fun q hq => h.2.1 q (by rw [← e1]; exact hq), fun s hs => ?_⟩
  rw [e1, h.2.2 s hs]
  show _ = smN (aA st sn un s) (8 * i + w) + aA st sn un s (8 * i + w)
  rw [aA_at hw, hf]; rfl
theorem gh_put {st : Nat → Nat} {sn un i w : Nat} {l : List Int32} (hi : i < 8) (hw : w < 8) (hf : fitB sn un (mvs w (st i)) = true) (h : ghL st sn un (8 * i + w) l) : smN (aT st sn un) (8 * i + (w + 1)) = smN (aT st sn un) (8 * i + w) + 1 ∧ ghL st sn un (8 * i + (w + 1)) (l.set (smN (aT st sn un) (8 * i + w)) (nI (mvs w (st i)))) := by
  have e1 : smN (aT st sn un) (8 * i + (w + 1)) = smN (aT st sn un) (8 * i + w) + 1 := by
    show smN (aT st sn un) (8 * i + w) + aT st sn un (8 * i + w) = _
    rw [aT_at hw, hf]; rfl
  have hle := aT_le st sn un (8 * i + w)
  have hmv : mvs w (st i) < 1048576 := mvs_lt
  have g1 : (l.set (smN (aT st sn un) (8 * i + w)) (nI (mvs w (st i)))).getD (smN (aT st sn un) (8 * i + w)) 0 = nI (mvs w (st i)) := set_eq (by rw [h.1]; omega)
  have g2 : ∀ q, q ≠ smN (aT st sn un) (8 * i + w) → (l.set (smN (aT st sn un) (8 * i + w)) (nI (mvs w (st i)))).getD q 0 = l.getD q 0 := fun q hq => set_ne (Ne.symm hq)
  refine ⟨e1, by rw [List.length_set]; exact h.1, fun q hq => ?_, fun s hs => ?_⟩
  · by_cases e : q = smN (aT st sn un) (8 * i + w)
    · rw [e, g1]; exact ⟨_, hmv, rfl⟩
    · rw [g2 q e]; exact h.2.1 q (by omega)
  · rw [e1]
    show smN _ (smN (aT st sn un) (8 * i + w)) + (if _ then 1 else 0) = smN (aA st sn un s) (8 * i + w) + aA st sn un s (8 * i + w)
    rw [g1, tn_nI (by omega), aA_at hw, hf, ← h.2.2 s hs, smN_cong (g := fun q => if (tn (l.getD q 0)).testBit s then 1 else 0) (fun q hq => by rw [g2 q (by omega)])]
    rfl
theorem lp_O_gather {X0 : Mem} {m : Nat} {st rg : Nat → Nat} (hX : Ok X0) (hS : CSt X0 m st rg) {sn un : Nat} (hW : CSn X0 sn un) {Q : Option Value → Mem → Prop} {i c : Nat} (hi : i < m) (kx : ∀ (l : List Int32) (z5 : Option Value), ghL st sn un (8 * i + 8) l → JM 2 m_O_gatherFitting Q 60 [some (.ref 8), some (.int (nI i)), some (.int (nI c)), some (.int (nI (smN (aT st sn un) (8 * i + 8)))), some (.int (nI 8)), z5] [] (pA X0 221 l)) : ∀ (k w : Nat) (l : List Int32) (z5 : Option Value), w + k = 8 → ghL st sn un (8 * i + w) l → JM 2 m_O_gatherFitting Q 5 [some (.ref 8), some (.int (nI i)), some (.int (nI c)), some (.int (nI (smN (aT st sn un) (8 * i + w)))), some (.int (nI w)), z5] [] (pA X0 221 l) := by
  have hm8 := hS.1
  have hsti := (hS.2.2.1 i (by omega)).2
  intro k
  induction k with
  | zero =>
    intro w l z5 hw hl
    obtain rfl : w = 8 := by omega
    refine J_iload d_O_gatherFitting_5 rfl ?_
    refine J_bipush (v := nI 8) d_O_gatherFitting_7 rfl ?_
    refine N_icmp_ge (tgt := 60) d_O_gatherFitting_9 (by decide) (by omega) (by omega) (fun c9 => ?_) (fun c9 => absurd c9 (by omega))
    exact kx l z5 hl
  | succ k ih =>
    intro w l z5 hw hl
    have hXl : Ok (pA X0 221 l) := okA hX rfl (by rw [hl.1, hX.1 221 (by decide)]; rfl)
    have hw8 : w < 8 := by omega
    have hmv : mvs w (st i) < 1048576 := mvs_lt
    have hq1 := aT_le st sn un (8 * i + w)
    refine J_iload d_O_gatherFitting_5 rfl ?_
    refine J_bipush (v := nI 8) d_O_gatherFitting_7 rfl ?_
    refine N_icmp_ge (tgt := 60) d_O_gatherFitting_9 (by decide) (by omega) (by omega) (fun c9 => absurd c9 (by omega)) (fun c9 => ?_)
    refine J_aload_n (i := 0) d_O_gatherFitting_12 rfl rfl ?_
    refine M_getR (b := 18) d_O_gatherFitting_13 f_O_48 rfl rfl rfl ?_
    refine M_getR (b := 19) d_O_gatherFitting_16 f_O_110 rfl rfl rfl ?_
    refine M_getR (b := 20) d_O_gatherFitting_19 f_O_169 rfl rfl rfl ?_
    refine J_iload_n (i := 1) d_O_gatherFitting_22 rfl rfl ?_
    refine N_iald (x := (nI (st i))) d_O_gatherFitting_23 rfl (by omega) (ltL hXl (a := 20) (n := 8) (by decide) rfl (by omega)) ((CSt_A (by decide) (by decide) hS).2.2.1 i (by omega)).1 ?_
    refine J_iload d_O_gatherFitting_24 rfl ?_
    refine CS_N (av := [.int (nI (st i)), .int (nI w)]) d_O_gatherFitting_26 s_O_230 (S_K_moved hXl hsti hw8) (by decide) rfl rfl (Nat.le_of_ble_eq_true rfl) ?_
    refine J_istore (L1 := [some (.ref 8), some (.int (nI i)), some (.int (nI c)), some (.int (nI (smN (aT st sn un) (8 * i + w)))), some (.int (nI w)), some (.int (nI (mvs w (st i))))]) d_O_gatherFitting_29 (by decide) rfl ?_
    refine J_aload_n (i := 0) d_O_gatherFitting_31 rfl rfl ?_
    refine M_getR (b := 18) d_O_gatherFitting_32 f_O_48 rfl rfl rfl ?_
    refine J_iload d_O_gatherFitting_35 rfl ?_
    refine CV_B (av := [.int (nI (mvs w (st i)))]) d_O_gatherFitting_37 s_O_359 (M_rcv rfl (by decide) rfl) (S_H_fits (show CSn (pA X0 221 l) sn un from hW) hmv) (by decide) rfl rfl (Nat.le_of_ble_eq_true rfl) ?_
    refine B_if_eq (tgt := 54) d_O_gatherFitting_40 (by decide) (fun c40 => ?_) (fun c40 => ?_)
    · refine N_iinc (a := w) (c := 1) (L1 := [some (.ref 8), some (.int (nI i)), some (.int (nI c)), some (.int (nI (smN (aT st sn un) (8 * i + w)))), some (.int (nI (w + 1))), some (.int (nI (mvs w (st i))))]) d_O_gatherFitting_54 rfl rfl (by decide) rfl ?_
      refine J_goto (tgt := 5) d_O_gatherFitting_57 (by decide) ?_
      obtain ⟨e1, hl2⟩ := gh_skip hw8 c40 hl
      exact (ih (w + 1) l _ (by omega) hl2).eq (by rw [e1]) rfl rfl
    · refine J_aload_n (i := 0) d_O_gatherFitting_43 rfl rfl ?_
      refine M_getR (b := 221) d_O_gatherFitting_44 f_O_62 rfl rfl rfl ?_
      refine J_iload_n (i := 3) d_O_gatherFitting_47 rfl rfl ?_
      refine J_iload d_O_gatherFitting_48 rfl ?_
      refine N_iast d_O_gatherFitting_50 rfl (by decide) (by omega) (ltL hXl (a := 221) (n := 64) (by decide) rfl (by omega)) ?_
      refine N_iinc (a := (smN (aT st sn un) (8 * i + w))) (c := 1) (L1 := [some (.ref 8), some (.int (nI i)), some (.int (nI c)), some (.int (nI ((smN (aT st sn un) (8 * i + w)) + 1))), some (.int (nI w)), some (.int (nI (mvs w (st i))))]) d_O_gatherFitting_51 rfl rfl (by decide) rfl ?_
      refine N_iinc (a := w) (c := 1) (L1 := [some (.ref 8), some (.int (nI i)), some (.int (nI c)), some (.int (nI ((smN (aT st sn un) (8 * i + w)) + 1))), some (.int (nI (w + 1))), some (.int (nI (mvs w (st i))))]) d_O_gatherFitting_54 rfl rfl (by decide) rfl ?_
      refine J_goto (tgt := 5) d_O_gatherFitting_57 (by decide) ?_
      obtain ⟨e1, hl2⟩ := gh_put (by omega) hw8 c40 hl
      rw [pA_pA, pA_at]
      exact (ih (w + 1) _ _ (by omega) hl2).eq (by rw [e1]) rfl rfl
theorem S_O_gather {X0 : Mem} {m : Nat} {st rg : Nat → Nat} (hX : Ok X0) (hS : CSt X0 m st rg) {sn un : Nat} (hW : CSn X0 sn un) {i : Nat} {l : List Int32} (hi : i < m) (hl : ghL st sn un (8 * i) l) : CM 2 m_O_gatherFitting [.ref 8, .int (nI i), .int (nI (smN (aT st sn un) (8 * i)))] (pA X0 221 l) (fun r Y => r = some (.int (nI (smN (aT st sn un) (8 * i + 8)))) ∧ ∃ l, ghL st sn un (8 * i + 8) l ∧ Y = pA X0 221 l) := by
  refine CM_of (L := [some (.ref 8), some (.int (nI i)), some (.int (nI (smN (aT st sn un) (8 * i)))), none, none, none]) 3 ok_O_gatherFitting (fun _ => Nat.le_of_ble_eq_true rfl) rfl ?_
  refine J_iload_n (i := 2) d_O_gatherFitting_0 rfl rfl ?_
  refine J_istore_n (i := 3) (L1 := [some (.ref 8), some (.int (nI i)), some (.int (nI (smN (aT st sn un) (8 * i)))), some (.int (nI (smN (aT st sn un) (8 * i)))), none, none]) d_O_gatherFitting_1 rfl (by decide) rfl ?_
  refine J_iconst (v := nI 0) d_O_gatherFitting_2 rfl ?_
  refine J_istore (L1 := [some (.ref 8), some (.int (nI i)), some (.int (nI (smN (aT st sn un) (8 * i)))), some (.int (nI (smN (aT st sn un) (8 * i)))), some (.int (nI 0)), none]) d_O_gatherFitting_3 (by decide) rfl ?_
  refine lp_O_gather hX hS hW hi (fun l z5 hl => ?_) 8 0 l _ (by omega) hl
  refine J_iload_n (i := 3) d_O_gatherFitting_60 rfl rfl ?_
  refine M_ir d_O_gatherFitting_61 rfl rfl ?_
  exact ⟨rfl, l, hl, rfl⟩

theorem sh1_lt {v k : Nat} (hv : v < 1048576) : v >>> k < 2147483648 := Nat.lt_of_le_of_lt (shr_le v k) (by omega)
theorem and1_le (x : Nat) : x &&& 1 ≤ 1 := Nat.and_le_right
theorem lp_O_best_in {d : Nat} {Q : Option Value → Mem → Prop} {X0 : Mem} {m : Nat} {st rg : Nat → Nat} {sn un c e k : Nat} {b : Int32} {l : List Int32} {z7 : Option Value} (hX : Ok X0) (hm8 : m ≤ 8) (hk : k < 20) (hc : c = smN (aT st sn un) (8 * m)) (hl : ghL st sn un (8 * m) l) (kx : JM d m_O_bestQuestion Q 51 [some (.ref 8), some (.int (nI c)), some (.int b), some (.int (nI e)), some (.int (nI k)), some (.int (nI (smN (fun q => if (tn (l.getD q 0)).testBit k then 1 else 0) c))), some (.int (nI c)), z7] [] (pA X0 221 l)) : ∀ (n j : Nat), j + n = c → JM d m_O_bestQuestion Q 22 [some (.ref 8), some (.int (nI c)), some (.int b), some (.int (nI e)), some (.int (nI k)), some (.int (nI (smN (fun q => if (tn (l.getD q 0)).testBit k then 1 else 0) j))), some (.int (nI j)), z7] [] (pA X0 221 l) := by
  have hq1 := aT_le st sn un (8 * m)
  have hXl : Ok (pA X0 221 l) := okA hX rfl (by rw [hl.1, hX.1 221 (by decide)]; rfl)
  intro n
  induction n with
  | zero =>
    intro j hi
    obtain rfl : c = j := by omega
    refine J_iload d_O_bestQuestion_22 rfl ?_
    refine J_iload_n (i := 1) d_O_bestQuestion_24 rfl rfl ?_
    refine N_icmp_ge (tgt := 51) d_O_bestQuestion_25 (by decide) (by omega) (by omega) (fun c25 => ?_) (fun c25 => absurd c25 (by omega))
    exact kx
  | succ n ih =>
    intro j hi
    obtain ⟨v, hv2, hv⟩ := hl.2.1 j (by omega)
    have hsj := smN_le1 (f := fun q => if (tn (l.getD q 0)).testBit k then 1 else 0) (fun q => by
      show (if _ then 1 else 0) ≤ 1
      split <;> omega) j
    have ha1 := and1_le (v >>> k)
    have hsv : v >>> k < 2147483648 := sh1_lt hv2
    refine J_iload d_O_bestQuestion_22 rfl ?_
    refine J_iload_n (i := 1) d_O_bestQuestion_24 rfl rfl ?_
    refine N_icmp_ge (tgt := 51) d_O_bestQuestion_25 (by decide) (by omega) (by omega) (fun c25 => absurd c25 (by omega)) (fun c25 => ?_)
    refine J_iload d_O_bestQuestion_28 rfl ?_
    refine J_aload_n (i := 0) d_O_bestQuestion_30 rfl rfl ?_
    refine M_getR (b := 221) d_O_bestQuestion_31 f_O_62 rfl rfl rfl ?_
    refine J_iload d_O_bestQuestion_34 rfl ?_
    refine N_iald (x := (nI v)) d_O_bestQuestion_36 rfl (by omega) (ltL hXl (a := 221) (n := 64) (by decide) rfl (by omega)) (by rw [pA_at]; exact hv) ?_
    refine J_iload d_O_bestQuestion_37 rfl ?_
    refine N_ishr d_O_bestQuestion_39 (by omega) (by omega) ?_
    refine J_iconst (v := nI 1) d_O_bestQuestion_40 rfl ?_
    refine N_iand d_O_bestQuestion_41 ?_
    have hbit : (if v.testBit k = true then 1 else 0) = v >>> k &&& 1 := by
      cases z : v.testBit k
      · rw [(tb_z v k).mpr z]; rfl
      · rw [(tb_and1 v k).mpr z]; rfl
    refine N_iadd d_O_bestQuestion_42 ?_
    refine J_istore (L1 := [some (.ref 8), some (.int (nI c)), some (.int b), some (.int (nI e)), some (.int (nI k)), some (.int (nI ((smN (fun q => if (tn (l.getD q 0)).testBit k then 1 else 0) j) + ((v >>> k) &&& 1)))), some (.int (nI j)), z7]) d_O_bestQuestion_43 (by decide) rfl ?_
    refine N_iinc (a := j) (c := 1) (L1 := [some (.ref 8), some (.int (nI c)), some (.int b), some (.int (nI e)), some (.int (nI k)), some (.int (nI ((smN (fun q => if (tn (l.getD q 0)).testBit k then 1 else 0) j) + ((v >>> k) &&& 1)))), some (.int (nI (j + 1))), z7]) d_O_bestQuestion_45 rfl rfl (by decide) rfl ?_
    refine J_goto (tgt := 22) d_O_bestQuestion_48 (by decide) ?_
    exact (ih (j + 1) (by omega)).eq (by rw [show smN (fun q => if (tn (l.getD q 0)).testBit k then 1 else 0) (j + 1) = ((smN (fun q => if (tn (l.getD q 0)).testBit k then 1 else 0) j) + ((v >>> k) &&& 1)) from by show _ + (if _ then 1 else 0) = _; rw [hv, tn_nI (by omega), hbit]]) rfl rfl

theorem lp_O_best {d : Nat} {Q : Option Value → Mem → Prop} {X0 : Mem} {m : Nat} {st rg : Nat → Nat} {sn un : Nat} {l : List Int32} (hX : Ok X0) (hW : CSn X0 sn un) (hm8 : m ≤ 8) (hl : ghL st sn un (8 * m) l) (hd : 1 ≤ d) (kx : ∀ z5 z6 z7 : Option Value, JM d m_O_bestQuestion Q 116 [some (.ref 8), some (.int (nI (smN (aT st sn un) (8 * m)))), some (.int (oI (akN m st sn un ((smN (aT st sn un) (8 * m)) + 1) 20).1)), some (.int (nI ((akN m st sn un ((smN (aT st sn un) (8 * m)) + 1) 20).2))), some (.int (nI 20)), z5, z6, z7] [] (pA X0 221 l)) : ∀ (n k : Nat) (z5 z6 z7 : Option Value), k + n = 20 → JM d m_O_bestQuestion Q 9 [some (.ref 8), some (.int (nI (smN (aT st sn un) (8 * m)))), some (.int (oI (akN m st sn un ((smN (aT st sn un) (8 * m)) + 1) k).1)), some (.int (nI ((akN m st sn un ((smN (aT st sn un) (8 * m)) + 1) k).2))), some (.int (nI k)), z5, z6, z7] [] (pA X0 221 l) := by
  have hq1 := aT_le st sn un (8 * m)
  have hsu := or_lt 20 hW.2.2.1 hW.2.2.2
  have hXl : Ok (pA X0 221 l) := okA hX rfl (by rw [hl.1, hX.1 221 (by decide)]; rfl)
  intro n
  induction n with
  | zero =>
    intro k z5 z6 z7 hi
    obtain rfl : k = 20 := by omega
    refine J_iload d_O_bestQuestion_9 rfl ?_
    refine J_bipush (v := nI 20) d_O_bestQuestion_11 rfl ?_
    refine N_icmp_ge (tgt := 116) d_O_bestQuestion_13 (by decide) (by omega) (by omega) (fun c13 => ?_) (fun c13 => absurd c13 (by omega))
    exact kx _ _ _
  | succ n ih =>
    intro k z5 z6 z7 hi
    generalize hx : (akN m st sn un ((smN (aT st sn un) (8 * m)) + 1) k) = x
    have hx5 : x.1 ≤ 20 ∧ x.2 ≤ (smN (aT st sn un) (8 * m)) + 1 := by rw [← hx]; exact ak_le (by omega) k (by omega)
    have hg := gp_le (m := m) (st := st) (sn := sn) (un := un) (s := k)
    have hj := hl.2.2 k (by omega)
    have hj2 := aAB st sn un k (8 * m)
    refine J_iload d_O_bestQuestion_9 rfl ?_
    refine J_bipush (v := nI 20) d_O_bestQuestion_11 rfl ?_
    refine N_icmp_ge (tgt := 116) d_O_bestQuestion_13 (by decide) (by omega) (by omega) (fun c13 => absurd c13 (by omega)) (fun c13 => ?_)
    refine J_iconst (v := nI 0) d_O_bestQuestion_16 rfl ?_
    refine J_istore (L1 := [some (.ref 8), some (.int (nI (smN (aT st sn un) (8 * m)))), some (.int (oI x.1)), some (.int (nI x.2)), some (.int (nI k)), some (.int (nI 0)), z6, z7]) d_O_bestQuestion_17 (by decide) rfl ?_
    refine J_iconst (v := nI 0) d_O_bestQuestion_19 rfl ?_
    refine J_istore (L1 := [some (.ref 8), some (.int (nI (smN (aT st sn un) (8 * m)))), some (.int (oI x.1)), some (.int (nI x.2)), some (.int (nI k)), some (.int (nI 0)), some (.int (nI 0)), z7]) d_O_bestQuestion_20 (by decide) rfl ?_
    refine lp_O_best_in (rg := st) hX hm8 (by omega) rfl hl ?_ (smN (aT st sn un) (8 * m)) 0 (by omega)
    refine J_iload d_O_bestQuestion_51 rfl ?_
    refine J_iload_n (i := 1) d_O_bestQuestion_53 rfl rfl ?_
    refine J_iload d_O_bestQuestion_54 rfl ?_
    refine N_isub d_O_bestQuestion_56 (by omega) ?_
    refine J_mmax d_O_bestQuestion_57 w_O_362 w_math_max_s w_mathInit w_math_max_c (by omega) (Nat.le_of_ble_eq_true rfl) ?_
    refine I_ton (n := max (smN (fun q => if (tn (l.getD q 0)).testBit k then 1 else 0) (smN (aT st sn un) (8 * m))) ((smN (aT st sn un) (8 * m)) - (smN (fun q => if (tn (l.getD q 0)).testBit k then 1 else 0) (smN (aT st sn un) (8 * m))))) (nI_max (by omega) (by omega)) ?_
    have hgp : max (smN (fun q => if (tn (l.getD q 0)).testBit k then 1 else 0) (smN (aT st sn un) (8 * m))) ((smN (aT st sn un) (8 * m)) - smN (fun q => if (tn (l.getD q 0)).testBit k then 1 else 0) (smN (aT st sn un) (8 * m))) = gpN m st sn un k := by
      have h1 := aAB st sn un k (8 * m)
      rw [hl.2.2 k (by omega), gpN]
      omega
    rw [hgp]
    refine J_istore (L1 := [some (.ref 8), some (.int (nI (smN (aT st sn un) (8 * m)))), some (.int (oI x.1)), some (.int (nI x.2)), some (.int (nI k)), some (.int (nI (smN (fun q => if (tn (l.getD q 0)).testBit k then 1 else 0) (smN (aT st sn un) (8 * m))))), some (.int (nI (gpN m st sn un k))), _]) d_O_bestQuestion_60 (by decide) rfl ?_
    refine J_aload_n (i := 0) d_O_bestQuestion_62 rfl rfl ?_
    refine M_getR (b := 18) d_O_bestQuestion_63 f_O_48 rfl rfl rfl ?_
    refine M_get (x := (nI sn)) d_O_bestQuestion_66 f_O_291 rfl rfl hW.1 ?_
    refine J_aload_n (i := 0) d_O_bestQuestion_69 rfl rfl ?_
    refine M_getR (b := 18) d_O_bestQuestion_70 f_O_48 rfl rfl rfl ?_
    refine M_get (x := (nI un)) d_O_bestQuestion_73 f_O_294 rfl rfl hW.2.1 ?_
    refine N_ior d_O_bestQuestion_76 ?_
    refine J_iload d_O_bestQuestion_77 rfl ?_
    refine N_ishr d_O_bestQuestion_79 (by omega) (by omega) ?_
    refine J_iconst (v := nI 1) d_O_bestQuestion_80 rfl ?_
    refine N_iand d_O_bestQuestion_81 ?_
    refine J_iconst (v := nI 1) d_O_bestQuestion_82 rfl ?_
    refine T_ne (tgt := 90) d_O_bestQuestion_83 (by decide) (fun c83 => ?_) (fun c83 => ?_)
    · refine J_iconst (v := nI 0) d_O_bestQuestion_90 rfl ?_
      refine J_istore (L1 := [some (.ref 8), some (.int (nI (smN (aT st sn un) (8 * m)))), some (.int (oI x.1)), some (.int (nI x.2)), some (.int (nI k)), some (.int (nI (smN (fun q => if (tn (l.getD q 0)).testBit k then 1 else 0) (smN (aT st sn un) (8 * m))))), some (.int (nI (gpN m st sn un k))), some (.int (nI 0))]) d_O_bestQuestion_91 (by decide) rfl ?_
      refine J_iload d_O_bestQuestion_93 rfl ?_
      refine N_if_ne (tgt := 110) d_O_bestQuestion_95 (by decide) (by omega) (fun c95 => absurd c95 (by decide)) (fun c95 => ?_)
      refine J_iload d_O_bestQuestion_98 rfl ?_
      refine J_iload_n (i := 3) d_O_bestQuestion_100 rfl rfl ?_
      refine N_icmp_ge (tgt := 110) d_O_bestQuestion_101 (by decide) (by omega) (by omega) (fun c101 => ?_) (fun c101 => ?_)
      · refine N_iinc (a := k) (c := 1) (L1 := [some (.ref 8), some (.int (nI (smN (aT st sn un) (8 * m)))), some (.int (oI x.1)), some (.int (nI x.2)), some (.int (nI (k + 1))), some (.int (nI (smN (fun q => if (tn (l.getD q 0)).testBit k then 1 else 0) (smN (aT st sn un) (8 * m))))), some (.int (nI (gpN m st sn un k))), some (.int (nI 0))]) d_O_bestQuestion_110 rfl rfl (by decide) rfl ?_
        refine J_goto (tgt := 9) d_O_bestQuestion_113 (by decide) ?_
        have e : akN m st sn un ((smN (aT st sn un) (8 * m)) + 1) (k + 1) = x := itr_g (f := akF m st sn un) hx (by show akF m st sn un k x = _; rw [akF, c83, if_neg (show ¬ false = true by decide), if_neg (by omega)])
        exact (ih (k + 1) _ _ _ (by omega)).eq (by rw [e]) rfl rfl
      · refine J_iload d_O_bestQuestion_104 rfl ?_
        refine J_istore_n (i := 3) (L1 := [some (.ref 8), some (.int (nI (smN (aT st sn un) (8 * m)))), some (.int (oI x.1)), some (.int (nI (gpN m st sn un k))), some (.int (nI k)), some (.int (nI (smN (fun q => if (tn (l.getD q 0)).testBit k then 1 else 0) (smN (aT st sn un) (8 * m))))), some (.int (nI (gpN m st sn un k))), some (.int (nI 0))]) d_O_bestQuestion_106 rfl (by decide) rfl ?_
        refine J_iload d_O_bestQuestion_107 rfl ?_
        refine J_istore_n (i := 2) (L1 := [some (.ref 8), some (.int (nI (smN (aT st sn un) (8 * m)))), some (.int (nI k)), some (.int (nI (gpN m st sn un k))), some (.int (nI k)), some (.int (nI (smN (fun q => if (tn (l.getD q 0)).testBit k then 1 else 0) (smN (aT st sn un) (8 * m))))), some (.int (nI (gpN m st sn un k))), some (.int (nI 0))]) d_O_bestQuestion_109 rfl (by decide) rfl ?_
        refine N_iinc (a := k) (c := 1) (L1 := [some (.ref 8), some (.int (nI (smN (aT st sn un) (8 * m)))), some (.int (nI k)), some (.int (nI (gpN m st sn un k))), some (.int (nI (k + 1))), some (.int (nI (smN (fun q => if (tn (l.getD q 0)).testBit k then 1 else 0) (smN (aT st sn un) (8 * m))))), some (.int (nI (gpN m st sn un k))), some (.int (nI 0))]) d_O_bestQuestion_110 rfl rfl (by decide) rfl ?_
        refine J_goto (tgt := 9) d_O_bestQuestion_113 (by decide) ?_
        have e : akN m st sn un ((smN (aT st sn un) (8 * m)) + 1) (k + 1) = (k, gpN m st sn un k) := itr_g (f := akF m st sn un) hx (by show akF m st sn un k x = _; rw [akF, c83, if_neg (show ¬ false = true by decide), if_pos (by omega)])
        exact (ih (k + 1) _ _ _ (by omega)).eq (by rw [e, show oI (k, gpN m st sn un k).1 = nI k from oI_lt (by omega)]) rfl rfl
    · refine J_iconst (v := nI 1) d_O_bestQuestion_86 rfl ?_
      refine J_goto (tgt := 91) d_O_bestQuestion_87 (by decide) ?_
      refine J_istore (L1 := [some (.ref 8), some (.int (nI (smN (aT st sn un) (8 * m)))), some (.int (oI x.1)), some (.int (nI x.2)), some (.int (nI k)), some (.int (nI (smN (fun q => if (tn (l.getD q 0)).testBit k then 1 else 0) (smN (aT st sn un) (8 * m))))), some (.int (nI (gpN m st sn un k))), some (.int (nI 1))]) d_O_bestQuestion_91 (by decide) rfl ?_
      refine J_iload d_O_bestQuestion_93 rfl ?_
      refine N_if_ne (tgt := 110) d_O_bestQuestion_95 (by decide) (by omega) (fun c95 => ?_) (fun c95 => absurd c95 (by decide))
      refine N_iinc (a := k) (c := 1) (L1 := [some (.ref 8), some (.int (nI (smN (aT st sn un) (8 * m)))), some (.int (oI x.1)), some (.int (nI x.2)), some (.int (nI (k + 1))), some (.int (nI (smN (fun q => if (tn (l.getD q 0)).testBit k then 1 else 0) (smN (aT st sn un) (8 * m))))), some (.int (nI (gpN m st sn un k))), some (.int (nI 1))]) d_O_bestQuestion_110 rfl rfl (by decide) rfl ?_
      refine J_goto (tgt := 9) d_O_bestQuestion_113 (by decide) ?_
      have e : akN m st sn un ((smN (aT st sn un) (8 * m)) + 1) (k + 1) = x := itr_g (f := akF m st sn un) hx (by show akF m st sn un k x = _; rw [akF, c83]; rfl)
      exact (ih (k + 1) _ _ _ (by omega)).eq (by rw [e]) rfl rfl

theorem S_O_best {X0 : Mem} {m : Nat} {st rg : Nat → Nat} {sn un : Nat} {l : List Int32} (hX : Ok X0) (hW : CSn X0 sn un) (hm8 : m ≤ 8) (hl : ghL st sn un (8 * m) l) : CM 1 m_O_bestQuestion [.ref 8, .int (nI (smN (aT st sn un) (8 * m)))] (pA X0 221 l) (rI (oI (akN m st sn un ((smN (aT st sn un) (8 * m)) + 1) 20).1) (pA X0 221 l)) := by
  refine CM_of (L := [some (.ref 8), some (.int (nI (smN (aT st sn un) (8 * m)))), none, none, none, none, none, none]) 6 ok_O_bestQuestion (fun _ => Nat.le_of_ble_eq_true rfl) rfl ?_
  refine J_iconst (v := (-1)) d_O_bestQuestion_0 rfl ?_
  refine J_istore_n (i := 2) (L1 := [some (.ref 8), some (.int (nI (smN (aT st sn un) (8 * m)))), some (.int (-1)), none, none, none, none, none]) d_O_bestQuestion_1 rfl (by decide) rfl ?_
  refine J_iload_n (i := 1) d_O_bestQuestion_2 rfl rfl ?_
  refine J_iconst (v := nI 1) d_O_bestQuestion_3 rfl ?_
  refine N_iadd d_O_bestQuestion_4 ?_
  refine J_istore_n (i := 3) (L1 := [some (.ref 8), some (.int (nI (smN (aT st sn un) (8 * m)))), some (.int (-1)), some (.int (nI ((smN (aT st sn un) (8 * m)) + 1))), none, none, none, none]) d_O_bestQuestion_5 rfl (by decide) rfl ?_
  refine J_iconst (v := nI 0) d_O_bestQuestion_6 rfl ?_
  refine J_istore (L1 := [some (.ref 8), some (.int (nI (smN (aT st sn un) (8 * m)))), some (.int (-1)), some (.int (nI ((smN (aT st sn un) (8 * m)) + 1))), some (.int (nI 0)), none, none, none]) d_O_bestQuestion_7 (by decide) rfl ?_
  refine lp_O_best (rg := st) hX hW hm8 hl (by decide) (fun z5 z6 z7 => ?_) 20 0 _ _ _ (by omega)
  refine J_iload_n (i := 2) d_O_bestQuestion_116 rfl rfl ?_
  refine M_ir d_O_bestQuestion_117 rfl rfl ?_
  exact ⟨rfl, rfl⟩

theorem lp_O_ask {X0 : Mem} {m : Nat} {st rg : Nat → Nat} (hX : Ok X0) (hS : CSt X0 m st rg) {sn un : Nat} (hW : CSn X0 sn un) {Q : Option Value → Mem → Prop} (kx : ∀ (l : List Int32) (z4 : Option Value), ghL st sn un (8 * m) l → JM 3 m_O_ask Q 50 [some (.ref 8), some (.int (nI (smN (aM st sn un) m))), some (.int (nI (smN (aT st sn un) (8 * m)))), some (.int (nI m)), z4] [] (pA X0 221 l)) : ∀ (k i : Nat) (l : List Int32) (z4 : Option Value), i + k = m → ghL st sn un (8 * i) l → JM 3 m_O_ask Q 6 [some (.ref 8), some (.int (nI (smN (aM st sn un) i))), some (.int (nI (smN (aT st sn un) (8 * i)))), some (.int (nI i)), z4] [] (pA X0 221 l) := by
  have hm8 := hS.1
  intro k
  induction k with
  | zero =>
    intro i l z4 hi hl
    obtain rfl : i = m := by omega
    refine J_iload_n (i := 3) d_O_ask_6 rfl rfl ?_
    refine J_aload_n (i := 0) d_O_ask_7 rfl rfl ?_
    refine M_getR (b := 18) d_O_ask_8 f_O_48 rfl rfl rfl ?_
    refine M_getR (b := 19) d_O_ask_11 f_O_110 rfl rfl rfl ?_
    refine M_get (x := (nI i)) d_O_ask_14 f_O_258 rfl rfl hS.2.1 ?_
    refine N_icmp_ge (tgt := 50) d_O_ask_17 (by decide) (by omega) (by omega) (fun c17 => ?_) (fun c17 => absurd c17 (by omega))
    exact kx l z4 hl
  | succ k ih =>
    intro i l z4 hi hl
    have hq1 := aT_le st sn un (8 * i)
    have hq2 := aT_le st sn un (8 * i + 8)
    have hq3 := aM_le st sn un i
    refine J_iload_n (i := 3) d_O_ask_6 rfl rfl ?_
    refine J_aload_n (i := 0) d_O_ask_7 rfl rfl ?_
    refine M_getR (b := 18) d_O_ask_8 f_O_48 rfl rfl rfl ?_
    refine M_getR (b := 19) d_O_ask_11 f_O_110 rfl rfl rfl ?_
    refine M_get (x := (nI m)) d_O_ask_14 f_O_258 rfl rfl hS.2.1 ?_
    refine N_icmp_ge (tgt := 50) d_O_ask_17 (by decide) (by omega) (by omega) (fun c17 => absurd c17 (by omega)) (fun c17 => ?_)
    refine J_iload_n (i := 2) d_O_ask_20 rfl rfl ?_
    refine J_istore (L1 := [some (.ref 8), some (.int (nI (smN (aM st sn un) i))), some (.int (nI (smN (aT st sn un) (8 * i)))), some (.int (nI i)), some (.int (nI (smN (aT st sn un) (8 * i))))]) d_O_ask_21 (by decide) rfl ?_
    refine J_aload_n (i := 0) d_O_ask_23 rfl rfl ?_
    refine J_iload_n (i := 3) d_O_ask_24 rfl rfl ?_
    refine J_iload_n (i := 2) d_O_ask_25 rfl rfl ?_
    refine M_callV (av := [.int (nI i), .int (nI (smN (aT st sn un) (8 * i)))]) d_O_ask_26 s_O_303 (M_rcv rfl (by decide) rfl) (S_O_gather hX hS hW (show i < m by omega) hl) (by omega) rfl rfl (Nat.le_of_ble_eq_true rfl) (fun r Y hq => ?_)
    obtain ⟨rfl, l, hl, rfl⟩ := hq
    refine J_istore_n (i := 2) (L1 := [some (.ref 8), some (.int (nI (smN (aM st sn un) i))), some (.int (nI (smN (aT st sn un) (8 * i + 8)))), some (.int (nI i)), some (.int (nI (smN (aT st sn un) (8 * i))))]) d_O_ask_29 rfl (by decide) rfl ?_
    refine J_iload_n (i := 1) d_O_ask_30 rfl rfl ?_
    refine J_iload_n (i := 2) d_O_ask_31 rfl rfl ?_
    refine J_iload d_O_ask_32 rfl ?_
    refine N_icmp_le (tgt := 41) d_O_ask_34 (by decide) (by omega) (by omega) (fun c34 => ?_) (fun c34 => ?_)
    · refine J_iconst (v := nI 0) d_O_ask_41 rfl ?_
      refine N_iadd d_O_ask_42 ?_
      refine J_istore_n (i := 1) (L1 := [some (.ref 8), some (.int (nI ((smN (aM st sn un) i) + 0))), some (.int (nI (smN (aT st sn un) (8 * i + 8)))), some (.int (nI i)), some (.int (nI (smN (aT st sn un) (8 * i))))]) d_O_ask_43 rfl (by decide) rfl ?_
      refine N_iinc (a := i) (c := 1) (L1 := [some (.ref 8), some (.int (nI ((smN (aM st sn un) i) + 0))), some (.int (nI (smN (aT st sn un) (8 * i + 8)))), some (.int (nI (i + 1))), some (.int (nI (smN (aT st sn un) (8 * i))))]) d_O_ask_44 rfl rfl (by decide) rfl ?_
      refine J_goto (tgt := 6) d_O_ask_47 (by decide) ?_
      have e : smN (aM st sn un) (i + 1) = ((smN (aM st sn un) i) + 0) := by
        show smN (aM st sn un) i + aM st sn un i = _
        rw [aM, if_pos (by
          by_cases z : fwN sn un (st i) = 0
          · exact z
          · exact absurd ((fw_cnt st sn un i).mpr z) (by omega))]
      exact (ih (i + 1) l _ (by omega) hl).eq (by rw [e]; rfl) rfl rfl
    · refine J_iconst (v := nI 1) d_O_ask_37 rfl ?_
      refine J_goto (tgt := 42) d_O_ask_38 (by decide) ?_
      refine N_iadd d_O_ask_42 ?_
      refine J_istore_n (i := 1) (L1 := [some (.ref 8), some (.int (nI ((smN (aM st sn un) i) + 1))), some (.int (nI (smN (aT st sn un) (8 * i + 8)))), some (.int (nI i)), some (.int (nI (smN (aT st sn un) (8 * i))))]) d_O_ask_43 rfl (by decide) rfl ?_
      refine N_iinc (a := i) (c := 1) (L1 := [some (.ref 8), some (.int (nI ((smN (aM st sn un) i) + 1))), some (.int (nI (smN (aT st sn un) (8 * i + 8)))), some (.int (nI (i + 1))), some (.int (nI (smN (aT st sn un) (8 * i))))]) d_O_ask_44 rfl rfl (by decide) rfl ?_
      refine J_goto (tgt := 6) d_O_ask_47 (by decide) ?_
      have e : smN (aM st sn un) (i + 1) = ((smN (aM st sn un) i) + 1) := by
        show smN (aM st sn un) i + aM st sn un i = _
        rw [aM, if_neg ((fw_cnt st sn un i).mp (by omega))]
      exact (ih (i + 1) l _ (by omega) hl).eq (by rw [e]; rfl) rfl rfl
theorem S_O_ask {X0 : Mem} {m : Nat} {st rg : Nat → Nat} (hX : Ok X0) (hS : CSt X0 m st rg) {sn un : Nat} (hW : CSn X0 sn un) : CM 3 m_O_ask [.ref 8] X0 (fun r Y => r = some (.int (askI m st sn un)) ∧ ∃ l : List Int32, l.length = 64 ∧ Y = pA X0 221 l) := by
  refine CM_of (L := [some (.ref 8), none, none, none, none]) 4 ok_O_ask (fun _ => Nat.le_of_ble_eq_true rfl) rfl ?_
  refine J_iconst (v := nI 0) d_O_ask_0 rfl ?_
  refine J_istore_n (i := 1) (L1 := [some (.ref 8), some (.int (nI 0)), none, none, none]) d_O_ask_1 rfl (by decide) rfl ?_
  refine J_iconst (v := nI 0) d_O_ask_2 rfl ?_
  refine J_istore_n (i := 2) (L1 := [some (.ref 8), some (.int (nI 0)), some (.int (nI 0)), none, none]) d_O_ask_3 rfl (by decide) rfl ?_
  refine J_iconst (v := nI 0) d_O_ask_4 rfl ?_
  refine J_istore_n (i := 3) (L1 := [some (.ref 8), some (.int (nI 0)), some (.int (nI 0)), some (.int (nI 0)), none]) d_O_ask_5 rfl (by decide) rfl ?_
  have hq1 := aT_le st sn un (8 * m)
  have hq3 := aM_le st sn un m
  have hm8 := hS.1
  refine (lp_O_ask hX hS hW (fun l z4 hl => ?_) m 0 (X0.2.1 221) _ (by omega) ⟨by rw [hX.1 221 (by decide)]; rfl, fun q hq => absurd hq (Nat.not_lt_zero q), fun s _ => rfl⟩).eq rfl rfl (congrArg hm pA_eta.symm)
  refine J_iload_n (i := 1) d_O_ask_50 rfl rfl ?_
  refine J_iconst (v := nI 2) d_O_ask_51 rfl ?_
  refine N_icmp_ge (tgt := 59) d_O_ask_52 (by decide) (by omega) (by omega) (fun c52 => ?_) (fun c52 => ?_)
  · refine J_aload_n (i := 0) d_O_ask_59 rfl rfl ?_
    refine J_iload_n (i := 2) d_O_ask_60 rfl rfl ?_
    refine CV_I (av := [.int (nI (smN (aT st sn un) (8 * m)))]) d_O_ask_61 s_O_306 (M_rcv rfl (by decide) rfl) (S_O_best (rg := rg) hX hW hS.1 hl) (by decide) rfl rfl (Nat.le_of_ble_eq_true rfl) ?_
    refine M_ir d_O_ask_64 rfl rfl ?_
    exact ⟨by rw [askI, if_neg (by omega)], l, hl.1, rfl⟩
  · refine J_iconst (v := (-1)) d_O_ask_55 rfl ?_
    refine J_goto (tgt := 64) d_O_ask_56 (by decide) ?_
    refine M_ir d_O_ask_64 rfl rfl ?_
    exact ⟨by rw [askI, if_pos (by omega)], l, hl.1, rfl⟩

