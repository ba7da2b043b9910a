theorem pF_pF {X : Mem} {a k : Nat} {v w : Int32} : pF (pF X a k v) a k w = pF X a k w := by
  show ((fun b j => if j = k then (if b = a then w else (if j = k then (if b = a then v else X.1 b j) else X.1 b j)) else (if j = k then (if b = a then v else X.1 b j) else X.1 b j)), X.2) = _
  have e : (fun b j => if j = k then (if b = a then w else (if j = k then (if b = a then v else X.1 b j) else X.1 b j)) else (if j = k then (if b = a then v else X.1 b j) else X.1 b j)) = (fun b j => if j = k then (if b = a then w else X.1 b j) else X.1 b j) := by
    funext b j
    by_cases h : j = k
    · by_cases h2 : b = a
      · simp only [h, h2, if_true]
      · simp only [h, h2, if_true, if_false]
    · simp only [h, if_false]
  rw [e]
  rfl
theorem pF_eta {X : Mem} {a k : Nat} : pF X a k (X.1 a k) = X := by
  have e : (fun b j => if j = k then (if b = a then X.1 a k else X.1 b j) else X.1 b j) = X.1 := by
    funext b j
    by_cases h : j = k
    · subst h
      rw [if_pos rfl]
      by_cases h2 : b = a
      · rw [if_pos h2, h2]
      · rw [if_neg h2]
    · rw [if_neg h]
  show ((fun b j => if j = k then (if b = a then X.1 a k else X.1 b j) else X.1 b j), X.2) = X
  rw [e]
theorem or_gt {s k : Nat} (h : s.testBit k = false) : s < s ||| 1 <<< k := by
  have h1 : s ≤ s ||| 1 <<< k := Nat.left_le_or
  have h2 : s ≠ s ||| 1 <<< k := fun e => by
    rw [e, Nat.testBit_or, tb_1, decide_eq_true rfl, Bool.or_true] at h
    cases h
  omega
theorem okF {X : Mem} {a k : Nat} {v : Int32} (h : Ok X) : Ok (pF X a k v) := h
theorem lp_R_layFrees {X : Mem} {U : Nat} {Q : Option Value → Mem → Prop} (hX : Ok X) (hU : U < 1048576) (kq : ∀ c l, frL U 20 c l → Q none (pA (pF X 244 36 (nI c)) 262 l)) : ∀ (m b c : Nat) (l : List Int32), b + m = 20 → frL U b c l → JM 1 m_R_layFrees Q 7 [some (.ref 244), some (.int (nI U)), some (.int (nI b))] [] (pA (pF X 244 36 (nI c)) 262 l) := by
  intro m
  induction m with
  | zero =>
    intro b c l hb hl
    obtain rfl : b = 20 := by omega
    refine J_iload_n (i := 2) d_R_layFrees_7 rfl rfl ?_
    refine J_bipush (v := nI 20) d_R_layFrees_8 rfl ?_
    refine N_icmp_ge (tgt := 50) d_R_layFrees_10 (by decide) (by omega) (by omega) (fun c10 => ?_) (fun c10 => absurd c10 (by omega))
    refine M_vr d_R_layFrees_50 rfl ?_
    exact kq c l hl
  | succ m ih =>
    intro b c l hb hl
    have hc := frL_c hl
    have hXl : Ok (pA (pF X 244 36 (nI c)) 262 l) := okA (okF hX) rfl (by rw [hl.1]; exact (hX.1 262 (by decide)).symm)
    refine J_iload_n (i := 2) d_R_layFrees_7 rfl rfl ?_
    refine J_bipush (v := nI 20) d_R_layFrees_8 rfl ?_
    refine N_icmp_ge (tgt := 50) d_R_layFrees_10 (by decide) (by omega) (by omega) (fun c10 => absurd c10 (by omega)) (fun c10 => ?_)
    refine J_iload_n (i := 1) d_R_layFrees_13 rfl rfl ?_
    refine J_iload_n (i := 2) d_R_layFrees_14 rfl rfl ?_
    refine CS_B (av := [.int (nI U), .int (nI b)]) d_R_layFrees_15 s_R_94 (S_R_has (by first | omega | (simp only [*]; omega)) (by first | omega | exact Nat.lt_trans one_lt (by decide) | exact Nat.lt_trans oth_lt (by decide))) (by decide) rfl rfl (Nat.le_of_ble_eq_true rfl) ?_
    refine B_if_ne (tgt := 24) d_R_layFrees_18 (by decide) (fun c18 => ?_) (fun c18 => ?_)
    · refine J_aload_n (i := 0) d_R_layFrees_24 rfl rfl ?_
      refine M_getR (b := 262) d_R_layFrees_25 f_R_74 rfl rfl rfl ?_
      refine J_aload_n (i := 0) d_R_layFrees_28 rfl rfl ?_
      refine M_get (x := (nI c)) d_R_layFrees_29 f_R_496 rfl rfl rfl ?_
      refine J_iload_n (i := 2) d_R_layFrees_32 rfl rfl ?_
      refine N_iast d_R_layFrees_33 rfl (by decide) (by omega) (ltL hXl (a := 262) (n := 20) (by decide) rfl (by omega)) ?_
      refine J_aload_n (i := 0) d_R_layFrees_34 rfl rfl ?_
      refine J_dup d_R_layFrees_35 rfl ?_
      refine M_get (x := (nI c)) d_R_layFrees_36 f_R_496 rfl rfl rfl ?_
      refine J_iconst (v := nI 1) d_R_layFrees_39 rfl ?_
      refine N_iadd d_R_layFrees_40 ?_
      refine M_put d_R_layFrees_41 p_R_496 rfl rfl rfl rfl ?_
      refine N_iinc (a := b) (c := 1) (L1 := [some (.ref 244), some (.int (nI U)), some (.int (nI (b + 1)))]) d_R_layFrees_44 rfl rfl (by decide) rfl ?_
      refine J_goto (tgt := 7) d_R_layFrees_47 (by decide) ?_
      refine (ih (b + 1) (c + 1) (l.set c (nI b)) (by omega) (frL_put (by omega) c18 hl)).eq rfl rfl (congrArg hm ?_)
      rw [pA_pA, pA_at]
      exact congrArg (fun Z => pA Z 262 (l.set c (nI b))) pF_pF
    · refine J_goto (tgt := 44) d_R_layFrees_21 (by decide) ?_
      refine N_iinc (a := b) (c := 1) (L1 := [some (.ref 244), some (.int (nI U)), some (.int (nI (b + 1)))]) d_R_layFrees_44 rfl rfl (by decide) rfl ?_
      refine J_goto (tgt := 7) d_R_layFrees_47 (by decide) ?_
      exact ih (b + 1) c l (by omega) (frL_skip c18 hl)
theorem S_R_layFrees {X : Mem} {U : Nat} (hX : Ok X) (hU : U < 1048576) : CM 1 m_R_layFrees [.ref 244, .int (nI U)] X (fun r Y => r = none ∧ ∃ l, frL U 20 (bc U) l ∧ Y = pA (pF X 244 36 (nI (bc U))) 262 l) := by
  refine CM_of (L := [some (.ref 244), some (.int (nI U)), none]) 1 ok_R_layFrees (fun _ => Nat.le_of_ble_eq_true rfl) rfl ?_
  refine J_aload_n (i := 0) d_R_layFrees_0 rfl rfl ?_
  refine J_iconst (v := nI 0) d_R_layFrees_1 rfl ?_
  refine M_put d_R_layFrees_2 p_R_496 rfl rfl rfl rfl ?_
  refine J_iconst (v := nI 0) d_R_layFrees_5 rfl ?_
  refine J_istore_n (i := 2) (L1 := [some (.ref 244), some (.int (nI U)), some (.int (nI 0))]) d_R_layFrees_6 rfl (by decide) rfl ?_
  refine (lp_R_layFrees hX hU (fun c l hl => ?_) 20 0 0 (X.2.1 262) (by omega) ⟨by rw [hX.1 262 (by decide)]; rfl, rfl, fun j hj => by omega, fun i j h1 h2 => by omega, fun k hk => by omega⟩).eq rfl rfl (congrArg hm (pA_eta (X := pF X 244 36 (nI 0)) (a := 262)).symm)
  have e := frL_bc hU hl
  exact ⟨rfl, l, by rw [← e]; exact hl, by rw [e]⟩

theorem lp_R_withFrees {d : Nat} {Q : Option Value → Mem → Prop} {X : Mem} {fm S set : Nat} {fr : Nat → Nat} (hX : Ok X) (h36 : X.1 244 36 = nI fm) (hm10 : fm ≤ 10) (hf : ∀ j, j < fm → (X.2.1 262).getD j 0 = nI (fr j) ∧ fr j < 20) (hS : S < 1048576) (hs : set < 1024) (hd : 1 ≤ d) (kx : JM d m_R_withFrees Q 45 [some (.ref 244), some (.int (nI S)), some (.int (nI set)), some (.int (nI (wfN fm fr S set))), some (.int (nI fm))] [] X) : ∀ (n k : Nat), k + n = fm → JM d m_R_withFrees Q 5 [some (.ref 244), some (.int (nI S)), some (.int (nI set)), some (.int (nI (wfN k fr S set))), some (.int (nI k))] [] X := by
  intro n
  induction n with
  | zero =>
    intro k hi
    obtain rfl : fm = k := by omega
    refine J_iload d_R_withFrees_5 rfl ?_
    refine J_aload_n (i := 0) d_R_withFrees_7 rfl rfl ?_
    refine M_get (x := (nI fm)) d_R_withFrees_8 f_R_496 rfl rfl h36 ?_
    refine N_icmp_ge (tgt := 45) d_R_withFrees_11 (by decide) (by omega) (by omega) (fun c11 => ?_) (fun c11 => absurd c11 (by omega))
    exact kx
  | succ n ih =>
    intro k hi
    have hw := wf_lt (set := set) hS (fun j hj => (hf j hj).2) k (by omega)
    have hfk := (hf k (by omega)).2
    refine J_iload d_R_withFrees_5 rfl ?_
    refine J_aload_n (i := 0) d_R_withFrees_7 rfl rfl ?_
    refine M_get (x := (nI fm)) d_R_withFrees_8 f_R_496 rfl rfl h36 ?_
    refine N_icmp_ge (tgt := 45) d_R_withFrees_11 (by decide) (by omega) (by omega) (fun c11 => absurd c11 (by omega)) (fun c11 => ?_)
    refine J_iload_n (i := 3) d_R_withFrees_14 rfl rfl ?_
    refine J_iload_n (i := 2) d_R_withFrees_15 rfl rfl ?_
    refine J_iload d_R_withFrees_16 rfl ?_
    refine CS_B (av := [.int (nI set), .int (nI k)]) d_R_withFrees_18 s_R_94 (S_R_has (by first | omega | (simp only [*]; omega)) (by first | omega | exact Nat.lt_trans one_lt (by decide) | exact Nat.lt_trans oth_lt (by decide))) (by omega) rfl rfl (Nat.le_of_ble_eq_true rfl) ?_
    refine B_if_eq (tgt := 36) d_R_withFrees_21 (by decide) (fun c21 => ?_) (fun c21 => ?_)
    · refine J_iconst (v := nI 0) d_R_withFrees_36 rfl ?_
      refine N_ior d_R_withFrees_37 ?_
      refine J_istore_n (i := 3) (L1 := [some (.ref 244), some (.int (nI S)), some (.int (nI set)), some (.int (nI ((wfN k fr S set) ||| 0))), some (.int (nI k))]) d_R_withFrees_38 rfl (by decide) rfl ?_
      refine N_iinc (a := k) (c := 1) (L1 := [some (.ref 244), some (.int (nI S)), some (.int (nI set)), some (.int (nI ((wfN k fr S set) ||| 0))), some (.int (nI (k + 1)))]) d_R_withFrees_39 rfl rfl (by decide) rfl ?_
      refine J_goto (tgt := 5) d_R_withFrees_42 (by decide) ?_
      exact (ih (k + 1) (by omega)).eq (by rw [show wfN (k + 1) fr S set = ((wfN k fr S set) ||| 0) from by show _ ||| (if _ then _ else _) = _; rw [c21]; rfl]) rfl rfl
    · refine J_iconst (v := nI 1) d_R_withFrees_24 rfl ?_
      refine J_aload_n (i := 0) d_R_withFrees_25 rfl rfl ?_
      refine M_getR (b := 262) d_R_withFrees_26 f_R_74 rfl rfl rfl ?_
      refine J_iload d_R_withFrees_29 rfl ?_
      refine N_iald (x := (nI (fr k))) d_R_withFrees_31 rfl (by omega) (ltL hX (a := 262) (n := 20) (by decide) rfl (by omega)) (hf k (by omega)).1 ?_
      refine N_ishl d_R_withFrees_32 (by omega) ?_
      refine J_goto (tgt := 37) d_R_withFrees_33 (by decide) ?_
      refine N_ior d_R_withFrees_37 ?_
      refine J_istore_n (i := 3) (L1 := [some (.ref 244), some (.int (nI S)), some (.int (nI set)), some (.int (nI ((wfN k fr S set) ||| (1 <<< (fr k))))), some (.int (nI k))]) d_R_withFrees_38 rfl (by decide) rfl ?_
      refine N_iinc (a := k) (c := 1) (L1 := [some (.ref 244), some (.int (nI S)), some (.int (nI set)), some (.int (nI ((wfN k fr S set) ||| (1 <<< (fr k))))), some (.int (nI (k + 1)))]) d_R_withFrees_39 rfl rfl (by decide) rfl ?_
      refine J_goto (tgt := 5) d_R_withFrees_42 (by decide) ?_
      exact (ih (k + 1) (by omega)).eq (by rw [show wfN (k + 1) fr S set = ((wfN k fr S set) ||| (1 <<< (fr k))) from by show _ ||| (if _ then _ else _) = _; rw [c21]; rfl]) rfl rfl

theorem S_R_withFrees {X : Mem} {fm S set : Nat} {fr : Nat → Nat} (hX : Ok X) (h36 : X.1 244 36 = nI fm) (hm10 : fm ≤ 10) (hf : ∀ j, j < fm → (X.2.1 262).getD j 0 = nI (fr j) ∧ fr j < 20) (hS : S < 1048576) (hs : set < 1024) : CM 1 m_R_withFrees [.ref 244, .int (nI S), .int (nI set)] X (rN (wfN fm fr S set) X) := by
  refine CM_of (L := [some (.ref 244), some (.int (nI S)), some (.int (nI set)), none, none]) 2 ok_R_withFrees (fun _ => Nat.le_of_ble_eq_true rfl) rfl ?_
  refine J_iload_n (i := 1) d_R_withFrees_0 rfl rfl ?_
  refine J_istore_n (i := 3) (L1 := [some (.ref 244), some (.int (nI S)), some (.int (nI set)), some (.int (nI S)), none]) d_R_withFrees_1 rfl (by decide) rfl ?_
  refine J_iconst (v := nI 0) d_R_withFrees_2 rfl ?_
  refine J_istore (L1 := [some (.ref 244), some (.int (nI S)), some (.int (nI set)), some (.int (nI S)), some (.int (nI 0))]) d_R_withFrees_3 (by decide) rfl ?_
  refine lp_R_withFrees hX h36 hm10 hf hS hs (by decide) ?_ fm 0 (by omega)
  refine J_iload_n (i := 3) d_R_withFrees_45 rfl rfl ?_
  refine M_ir d_R_withFrees_46 rfl rfl ?_
  exact ⟨rfl, rfl⟩

theorem lp_R_playOf {X : Mem} {fm S set : Nat} {fr : Nat → Nat} (hX : Ok X) (h36 : X.1 244 36 = nI fm) (hm10 : fm ≤ 10) (hf : ∀ j, j < fm → (X.2.1 262).getD j 0 = nI (fr j) ∧ fr j < 20) (hS : S < 1048576) (hs : set < 2 ^ fm) (hw : ∀ j, set < j → j < 2 ^ fm → (X.2.1 261).getD j 0 = b2i (wnB fm fr S j)) {Q : Option Value → Mem → Prop} (kq : Q (some (.int (pfI fm fr S set))) X) : ∀ (m k : Nat), k + m = fm → fstN (wnP fm fr S set) k m = pfN fm fr S set → JM 4 m_R_playOf Q 10 [some (.ref 244), some (.int (nI S)), some (.int (nI set)), some (.int (nI (wfN fm fr S set))), some (.int (nI k))] [] X := by
  have hfm : 2 ^ fm ≤ 1024 := Nat.pow_le_pow_right (n := 2) (by decide) hm10
  have hs2 : set < 1024 := Nat.lt_of_lt_of_le hs hfm
  have hnow := wf_lt (set := set) hS (fun j hj => (hf j hj).2) fm (Nat.le_refl fm)
  intro m
  induction m with
  | zero =>
    intro k hk e
    obtain rfl : k = fm := by omega
    rw [pfI, if_pos (show pfN k fr S set = k from e.symm)] at kq
    refine J_iload d_R_playOf_10 rfl ?_
    refine J_aload_n (i := 0) d_R_playOf_12 rfl rfl ?_
    refine M_get (x := (nI k)) d_R_playOf_13 f_R_496 rfl rfl h36 ?_
    refine N_icmp_ge (tgt := 79) d_R_playOf_16 (by decide) (by omega) (by omega) (fun c16 => ?_) (fun c16 => absurd c16 (by omega))
    refine J_iconst (v := (-1)) d_R_playOf_79 rfl ?_
    refine M_ir d_R_playOf_80 rfl rfl ?_
    exact kq
  | succ m ih =>
    intro k hk e
    have hfk := (hf k (by omega)).2
    have hor : wfN fm fr S set ||| 1 <<< fr k < 1048576 := or_lt 20 hnow (sh_lt hfk (by decide))
    refine J_iload d_R_playOf_10 rfl ?_
    refine J_aload_n (i := 0) d_R_playOf_12 rfl rfl ?_
    refine M_get (x := (nI fm)) d_R_playOf_13 f_R_496 rfl rfl h36 ?_
    refine N_icmp_ge (tgt := 79) d_R_playOf_16 (by decide) (by omega) (by omega) (fun c16 => absurd c16 (by omega)) (fun c16 => ?_)
    refine J_iload_n (i := 2) d_R_playOf_19 rfl rfl ?_
    refine J_iload d_R_playOf_20 rfl ?_
    refine CS_B (av := [.int (nI set), .int (nI k)]) d_R_playOf_22 s_R_94 (S_R_has (by first | omega | (simp only [*]; omega)) (by first | omega | exact Nat.lt_trans one_lt (by decide) | exact Nat.lt_trans oth_lt (by decide))) (by decide) rfl rfl (Nat.le_of_ble_eq_true rfl) ?_
    refine B_if_ne (tgt := 73) d_R_playOf_25 (by decide) (fun c25 => ?_) (fun c25 => ?_)
    · refine N_iinc (a := k) (c := 1) (L1 := [some (.ref 244), some (.int (nI S)), some (.int (nI set)), some (.int (nI (wfN fm fr S set))), some (.int (nI (k + 1)))]) d_R_playOf_73 rfl rfl (by decide) rfl ?_
      refine J_goto (tgt := 10) d_R_playOf_76 (by decide) ?_
      have hj : wnP fm fr S set k = false := by rw [wnP, c25]; rfl
      rw [fstN, hj, if_neg (by decide)] at e
      exact ih (k + 1) (by omega) e
    · have hgt := or_gt c25
      have h2k : set ||| 1 <<< k < 2 ^ fm := or_lt fm hs (sh_lt (show k < fm by omega) (Nat.le_refl _))
      have h1k : set ||| 1 <<< k < 1024 := Nat.lt_of_lt_of_le h2k hfm
      refine J_aload_n (i := 0) d_R_playOf_28 rfl rfl ?_
      refine M_getR (b := 261) d_R_playOf_29 f_R_71 rfl rfl rfl ?_
      refine J_iload_n (i := 2) d_R_playOf_32 rfl rfl ?_
      refine J_iconst (v := nI 1) d_R_playOf_33 rfl ?_
      refine J_iload d_R_playOf_34 rfl ?_
      refine N_ishl d_R_playOf_36 (by omega) ?_
      refine N_ior d_R_playOf_37 ?_
      refine N_zald (x := (b2i (wnB fm fr S (set ||| 1 <<< k)))) d_R_playOf_38 rfl (by omega) (ltL hX (a := 261) (n := 1024) (by decide) rfl (by omega)) (hw _ hgt h2k) ?_
      refine B_if_ne (tgt := 73) d_R_playOf_39 (by decide) (fun c39 => ?_) (fun c39 => ?_)
      · refine N_iinc (a := k) (c := 1) (L1 := [some (.ref 244), some (.int (nI S)), some (.int (nI set)), some (.int (nI (wfN fm fr S set))), some (.int (nI (k + 1)))]) d_R_playOf_73 rfl rfl (by decide) rfl ?_
        refine J_goto (tgt := 10) d_R_playOf_76 (by decide) ?_
        have hj : wnP fm fr S set k = false := by rw [wnP, c39, c25]; rfl
        rw [fstN, hj, if_neg (by decide)] at e
        exact ih (k + 1) (by omega) e
      · refine J_aload_n (i := 0) d_R_playOf_42 rfl rfl ?_
        refine J_iload_n (i := 3) d_R_playOf_43 rfl rfl ?_
        refine J_iconst (v := nI 1) d_R_playOf_44 rfl ?_
        refine J_aload_n (i := 0) d_R_playOf_45 rfl rfl ?_
        refine M_getR (b := 262) d_R_playOf_46 f_R_74 rfl rfl rfl ?_
        refine J_iload d_R_playOf_49 rfl ?_
        refine N_iald (x := (nI (fr k))) d_R_playOf_51 rfl (by omega) (ltL hX (a := 262) (n := 20) (by decide) rfl (by omega)) (hf k (by omega)).1 ?_
        refine N_ishl d_R_playOf_52 (by omega) ?_
        refine N_ior d_R_playOf_53 ?_
        refine CV_I (av := [.int (nI ((wfN fm fr S set) ||| (1 <<< (fr k))))]) d_R_playOf_54 s_R_446 (M_rcv rfl (by decide) rfl) (S_R_holesOf hX (by omega)) (by decide) rfl rfl (Nat.le_of_ble_eq_true rfl) ?_
        refine J_aload_n (i := 0) d_R_playOf_57 rfl rfl ?_
        refine J_iload_n (i := 3) d_R_playOf_58 rfl rfl ?_
        refine CV_I (av := [.int (nI (wfN fm fr S set))]) d_R_playOf_59 s_R_446 (M_rcv rfl (by decide) rfl) (S_R_holesOf hX (by omega)) (by decide) rfl rfl (Nat.le_of_ble_eq_true rfl) ?_
        refine J_icmp_ne (tgt := 73) d_R_playOf_62 (by decide) (fun c62 => ?_) (fun c62 => ?_)
        · refine N_iinc (a := k) (c := 1) (L1 := [some (.ref 244), some (.int (nI S)), some (.int (nI set)), some (.int (nI (wfN fm fr S set))), some (.int (nI (k + 1)))]) d_R_playOf_73 rfl rfl (by decide) rfl ?_
          refine J_goto (tgt := 10) d_R_playOf_76 (by decide) ?_
          have hj : wnP fm fr S set k = false := by rw [wnP, c39, c25, decide_eq_false c62]; rfl
          rw [fstN, hj, if_neg (by decide)] at e
          exact ih (k + 1) (by omega) e
        · refine J_aload_n (i := 0) d_R_playOf_65 rfl rfl ?_
          refine M_getR (b := 262) d_R_playOf_66 f_R_74 rfl rfl rfl ?_
          refine J_iload d_R_playOf_69 rfl ?_
          refine N_iald (x := (nI (fr k))) d_R_playOf_71 rfl (by omega) (ltL hX (a := 262) (n := 20) (by decide) rfl (by omega)) (hf k (by omega)).1 ?_
          refine M_ir d_R_playOf_72 rfl rfl ?_
          have hj : wnP fm fr S set k = true := by rw [wnP, c39, c25, decide_eq_true c62]; rfl
          rw [fstN, if_pos hj] at e
          rw [pfI, ← e, if_neg (by omega)] at kq
          exact kq
theorem S_R_playOf {X : Mem} {fm S set : Nat} {fr : Nat → Nat} (hX : Ok X) (h36 : X.1 244 36 = nI fm) (hm10 : fm ≤ 10) (hf : ∀ j, j < fm → (X.2.1 262).getD j 0 = nI (fr j) ∧ fr j < 20) (hS : S < 1048576) (hs : set < 2 ^ fm) (hw : ∀ j, set < j → j < 2 ^ fm → (X.2.1 261).getD j 0 = b2i (wnB fm fr S j)) : CM 4 m_R_playOf [.ref 244, .int (nI S), .int (nI set)] X (rI (pfI fm fr S set) X) := by
  have hfm : 2 ^ fm ≤ 1024 := Nat.pow_le_pow_right (n := 2) (by decide) hm10
  refine CM_of (L := [some (.ref 244), some (.int (nI S)), some (.int (nI set)), none, none]) 2 ok_R_playOf (fun _ => Nat.le_of_ble_eq_true rfl) rfl ?_
  refine J_aload_n (i := 0) d_R_playOf_0 rfl rfl ?_
  refine J_iload_n (i := 1) d_R_playOf_1 rfl rfl ?_
  refine J_iload_n (i := 2) d_R_playOf_2 rfl rfl ?_
  refine CV_N (av := [.int (nI S), .int (nI set)]) d_R_playOf_3 s_R_499 (M_rcv rfl (by decide) rfl) (S_R_withFrees hX h36 hm10 hf (by omega) (by omega)) (by decide) rfl rfl (Nat.le_of_ble_eq_true rfl) ?_
  refine J_istore_n (i := 3) (L1 := [some (.ref 244), some (.int (nI S)), some (.int (nI set)), some (.int (nI (wfN fm fr S set))), none]) d_R_playOf_6 rfl (by decide) rfl ?_
  refine J_iconst (v := nI 0) d_R_playOf_7 rfl ?_
  refine J_istore (L1 := [some (.ref 244), some (.int (nI S)), some (.int (nI set)), some (.int (nI (wfN fm fr S set))), some (.int (nI 0))]) d_R_playOf_8 (by decide) rfl ?_
  exact lp_R_playOf hX h36 hm10 hf hS hs hw ⟨rfl, rfl⟩ fm 0 (by omega) rfl

/-- what a game of the reference leaves behind -/
def gmY (X Y : Mem) : Prop := ∃ c l w, l.length = 20 ∧ w.length = 1024 ∧ Y = pA (pA (pF X 244 36 c) 262 l) 261 w
theorem nI_dec {s : Nat} : nI (s + 1) + (-1) = nI s := by
  rw [← nI_add]
  show nI s + 1 + -1 = nI s
  rw [Int32.add_assoc]
  exact Int32.add_zero _
theorem lp_R_playFirst {X : Mem} {fm S U F : Nat} {fr : Nat → Nat} (hX : Ok X) (h36 : X.1 244 36 = nI fm) (hm10 : fm ≤ 10) (hf : ∀ j, j < fm → (X.2.1 262).getD j 0 = nI (fr j) ∧ fr j < 20) (hS : S < 1048576) (hE : frE U fm fr) (hUS : ∀ b, U.testBit b = true → S.testBit b = false) {Q : Option Value → Mem → Prop} (kq : ∀ w : List Int32, w.length = 1024 → Q (some (.int (pfI fm fr S 0))) (pA X 261 w)) : ∀ (s : Nat) (w : List Int32), w.length = 1024 → s < 2 ^ fm → (∀ j, s < j → j < 2 ^ fm → w.getD j 0 = b2i (wnB fm fr S j)) → JM 5 m_R_playFirst Q 18 [some (.ref 244), some (.int (nI S)), some (.int (nI F)), some (.int (nI s))] [] (pA X 261 w) := by
  have hfm : 2 ^ fm ≤ 1024 := Nat.pow_le_pow_right (n := 2) (by decide) hm10
  intro s
  induction s with
  | zero =>
    intro w hw1 hs hw2
    have hXw : Ok (pA X 261 w) := okA hX rfl (by rw [hw1]; exact (hX.1 261 (by decide)).symm)
    have hf3 : ∀ j, j < fm → ((pA X 261 w).2.1 262).getD j 0 = nI (fr j) ∧ fr j < 20 := hf
    refine J_iload_n (i := 3) d_R_playFirst_18 rfl rfl ?_
    refine N_if_le (tgt := 49) d_R_playFirst_19 (by decide) (by omega) (fun c19 => ?_) (fun c19 => absurd c19 (by omega))
    refine J_aload_n (i := 0) d_R_playFirst_49 rfl rfl ?_
    refine J_iload_n (i := 1) d_R_playFirst_50 rfl rfl ?_
    refine J_iconst (v := nI 0) d_R_playFirst_51 rfl ?_
    refine CV_I (av := [.int (nI S), .int (nI 0)]) d_R_playFirst_52 s_R_505 (M_rcv rfl (by decide) rfl) (S_R_playOf (fr := fr) (fm := fm) hXw h36 hm10 hf3 hS (by omega) (fun j a b => by rw [pA_at]; exact hw2 j (by omega) b)) (by decide) rfl rfl (Nat.le_of_ble_eq_true rfl) ?_
    refine M_ir d_R_playFirst_55 rfl rfl ?_
    exact kq w hw1
  | succ s ih =>
    intro w hw1 hs hw2
    have hXw : Ok (pA X 261 w) := okA hX rfl (by rw [hw1]; exact (hX.1 261 (by decide)).symm)
    have hf3 : ∀ j, j < fm → ((pA X 261 w).2.1 262).getD j 0 = nI (fr j) ∧ fr j < 20 := hf
    refine J_iload_n (i := 3) d_R_playFirst_18 rfl rfl ?_
    refine N_if_le (tgt := 49) d_R_playFirst_19 (by decide) (by omega) (fun c19 => absurd c19 (by omega)) (fun c19 => ?_)
    refine J_aload_n (i := 0) d_R_playFirst_22 rfl rfl ?_
    refine M_getR (b := 261) d_R_playFirst_23 f_R_71 rfl rfl rfl ?_
    refine J_iload_n (i := 3) d_R_playFirst_26 rfl rfl ?_
    refine J_aload_n (i := 0) d_R_playFirst_27 rfl rfl ?_
    refine J_iload_n (i := 1) d_R_playFirst_28 rfl rfl ?_
    refine J_iload_n (i := 3) d_R_playFirst_29 rfl rfl ?_
    refine CV_I (av := [.int (nI S), .int (nI (s + 1))]) d_R_playFirst_30 s_R_505 (M_rcv rfl (by decide) rfl) (S_R_playOf (fr := fr) (fm := fm) hXw h36 hm10 hf3 hS (by omega) (fun j a b => by rw [pA_at]; exact hw2 j (by omega) b)) (by decide) rfl rfl (Nat.le_of_ble_eq_true rfl) ?_
    refine J_iconst (v := (-1)) d_R_playFirst_33 rfl ?_
    refine J_icmp_eq (tgt := 41) d_R_playFirst_34 (by decide) (fun c34 => ?_) (fun c34 => ?_)
    · refine J_iconst (v := nI 0) d_R_playFirst_41 rfl ?_
      refine J.eq (st1 := [.int (b2i false), .int (nI (s + 1)), .ref 261]) ?_ rfl rfl rfl
      refine N_zast d_R_playFirst_42 rfl (by decide) (by omega) (ltL hXw (a := 261) (n := 1024) (by decide) rfl (by omega)) ?_
      refine J_iinc (v := ((nI (s + 1)) + (-1))) (L1 := [some (.ref 244), some (.int (nI S)), some (.int (nI F)), some (.int ((nI (s + 1)) + (-1)))]) d_R_playFirst_43 rfl rfl (by decide) rfl ?_
      refine J_goto (tgt := 18) d_R_playFirst_46 (by decide) ?_
      have hb : wnB fm fr S (s + 1) = false := (pf_m1 hE hUS).mp c34
      rw [pA_pA, pA_at]
      refine (ih (w.set (s + 1) (b2i false)) (by rw [List.length_set]; exact hw1) (by omega) (fun j a b => ?_)).eq (by rw [nI_dec]) rfl rfl
      by_cases e : s + 1 = j
      · rw [← e, set_eq (by omega), hb]
      · rw [set_ne e]; exact hw2 j (by omega) b
    · refine J_iconst (v := nI 1) d_R_playFirst_37 rfl ?_
      refine J_goto (tgt := 42) d_R_playFirst_38 (by decide) ?_
      refine J.eq (st1 := [.int (b2i true), .int (nI (s + 1)), .ref 261]) ?_ rfl rfl rfl
      refine N_zast d_R_playFirst_42 rfl (by decide) (by omega) (ltL hXw (a := 261) (n := 1024) (by decide) rfl (by omega)) ?_
      refine J_iinc (v := ((nI (s + 1)) + (-1))) (L1 := [some (.ref 244), some (.int (nI S)), some (.int (nI F)), some (.int ((nI (s + 1)) + (-1)))]) d_R_playFirst_43 rfl rfl (by decide) rfl ?_
      refine J_goto (tgt := 18) d_R_playFirst_46 (by decide) ?_
      have hb : wnB fm fr S (s + 1) = true := by
        cases z : wnB fm fr S (s + 1)
        · exact absurd ((pf_m1 hE hUS).mpr z) c34
        · rfl
      rw [pA_pA, pA_at]
      refine (ih (w.set (s + 1) (b2i true)) (by rw [List.length_set]; exact hw1) (by omega) (fun j a b => ?_)).eq (by rw [nI_dec]) rfl rfl
      by_cases e : s + 1 = j
      · rw [← e, set_eq (by omega), hb]
      · rw [set_ne e]; exact hw2 j (by omega) b
theorem S_R_playFirst {X : Mem} {S F : Nat} (hX : Ok X) (hS : S < 1048576) (hF : F < 1048576) (hb : bc F ≤ 10) : CM 5 m_R_playFirst [.ref 244, .int (nI S), .int (nI F)] X (fun r Y => r = some (.int (if jnN S F % 2 = 1 then (if plN S F = 20 then (-1) else nI (plN S F)) else (-1))) ∧ gmY X Y) := by
  refine CM_of (L := [some (.ref 244), some (.int (nI S)), some (.int (nI F)), none]) 1 ok_R_playFirst (fun _ => Nat.le_of_ble_eq_true rfl) rfl ?_
  refine J_aload_n (i := 0) d_R_playFirst_0 rfl rfl ?_
  refine J_iload_n (i := 2) d_R_playFirst_1 rfl rfl ?_
  refine J_iload_n (i := 1) d_R_playFirst_2 rfl rfl ?_
  refine J_iconst (v := (-1)) d_R_playFirst_3 rfl ?_
  refine J_ixor d_R_playFirst_4 ?_
  refine J_iand d_R_playFirst_5 ?_
  refine I_ton (n := andn F S) (nI_andn F S) ?_
  refine M_callV (av := [.int (nI (andn F S))]) d_R_playFirst_6 s_R_502 (M_rcv rfl (by decide) rfl) (S_R_layFrees hX (andn_lt hF)) (by decide) rfl rfl (Nat.le_of_ble_eq_true rfl) (fun r Y hq => ?_)
  obtain ⟨rfl, l, hl, rfl⟩ := hq
  have hX1 : Ok (pA (pF X 244 36 (nI (bc (andn F S)))) 262 l) := okA (okF hX) rfl (by rw [hl.1]; exact (hX.1 262 (by decide)).symm)
  have hE := frL_E hl
  have hm10 : bc (andn F S) ≤ 10 := Nat.le_trans (pcn_sub 32 _ _ (fun k hk => by rw [andn_tb, Bool.and_eq_true] at hk; exact hk.1)) hb
  generalize hfm : bc (andn F S) = fm at *
  refine J_iconst (v := nI 1) d_R_playFirst_9 rfl ?_
  refine J_aload_n (i := 0) d_R_playFirst_10 rfl rfl ?_
  refine M_get (x := (nI fm)) d_R_playFirst_11 f_R_496 rfl rfl rfl ?_
  refine N_ishl d_R_playFirst_14 (by first | omega | exact shl_pos _) ?_
  refine J_iconst (v := nI 1) d_R_playFirst_15 rfl ?_
  refine N_isub d_R_playFirst_16 (by first | omega | exact shl_pos _) ?_
  refine J_istore_n (i := 3) (L1 := [some (.ref 244), some (.int (nI S)), some (.int (nI F)), some (.int (nI ((1 <<< fm) - 1)))]) d_R_playFirst_17 rfl (by decide) rfl ?_
  have hp := Nat.two_pow_pos fm
  refine (lp_R_playFirst (fm := fm) (U := andn F S) (F := F) hX1 rfl hm10 (fun j hj => ?_) hS hE (fun b q => ?_) (fun w hw => ?_) (2 ^ fm - 1) (X.2.1 261) (by rw [hX.1 261 (by decide)]; rfl) (by omega) (fun j a b => by omega)).eq (by rw [shl1]) rfl (congrArg hm (pA_eta (X := pA (pF X 244 36 (nI fm)) 262 l) (a := 261)).symm)
  · have h1 := hE.1 j hj
    refine ⟨?_, h1.1⟩
    obtain ⟨k, q1, _, q3, _⟩ := hl.2.2.1 j (by omega)
    rw [pA_at]
    show l.getD j 0 = nI (tn (l.getD j 0))
    rw [q1, tn_nI (by omega)]
  · rw [andn_tb] at q
    cases z : S.testBit b
    · rfl
    · rw [z, Bool.not_true, Bool.and_false] at q; cases q
  · exact ⟨by rw [pf_play hF hE], _, l, w, hl.1, hw, rfl⟩

theorem gmY_0 {X : Mem} (hX : Ok X) : gmY X X := ⟨X.1 244 36, X.2.1 262, X.2.1 261, by rw [hX.1 262 (by decide)]; rfl, by rw [hX.1 261 (by decide)]; rfl, by rw [pF_eta, pA_eta, pA_eta]⟩
theorem jn_pl {S F : Nat} (hF : F < 1048576) (hS : S < 1048576) (h : jnN S F % 2 = 1) : ¬ plN S F = 20 := by
  intro e
  have h1 := jn_eq (S := S) hF
  have hno : ∀ k, k < 20 → jnP S F k = false := fun k hk => by
    have := fstN_f (jnP S F) 20 0 k (Nat.zero_le k) (by have : plN S F = fstN (jnP S F) 0 20 := rfl; omega)
    exact this
  have he : eqc (S ||| F) S := by
    intro C
    refine ⟨fun q => clo_sub (fun j hj => by rw [Nat.testBit_or, hj]; rfl) q, fun q k hk hb => ?_⟩
    cases z : S.testBit k
    · rw [Nat.testBit_or, z, Bool.false_or] at hb
      have h3 := hno k hk
      rw [jnP, z, hb] at h3
      have h4 : ¬ hol (S ||| 1 <<< k) = hol S := fun y => by rw [decide_eq_true y] at h3; cases h3
      refine pc_tr q ?_
      cases y : (pcs S (ONEL.getD k 0)).testBit (OTHL.getD k 0)
      · exact absurd ((hol_ad hk z).mpr y) h4
      · rfl
    · exact q k hk z
  rw [eqc_rk he] at h1
  omega
theorem S_R_game {X : Mem} {s f : Int32} (hX : Ok X) : CM 6 m_R_game [.ref 244, .int s, .int f] X (fun r Y => r = some (.int (gameF s f)) ∧ gmY X Y) := by
  refine CM_of (L := [some (.ref 244), some (.int s), some (.int f)]) 0 ok_R_game (fun _ => Nat.le_of_ble_eq_true rfl) rfl ?_
  refine J_iload_n (i := 1) d_R_game_0 rfl rfl ?_
  refine J_iload_n (i := 2) d_R_game_1 rfl rfl ?_
  refine CS_B (av := [.int s, .int f]) d_R_game_2 s_R_508 (S_R_isGame) (by decide) rfl rfl (Nat.le_of_ble_eq_true rfl) ?_
  refine B_if_ne (tgt := 12) d_R_game_5 (by decide) (fun c5 => ?_) (fun c5 => ?_)
  · obtain ⟨⟨S, hS, rfl⟩, F, hF, rfl, hb⟩ := gm_f c5
    have tS := tn_nI (show S < 2147483648 by omega)
    have tF := tn_nI (show F < 2147483648 by omega)
    refine J_aload_n (i := 0) d_R_game_12 rfl rfl ?_
    refine J_iload_n (i := 1) d_R_game_13 rfl rfl ?_
    refine J_iload_n (i := 2) d_R_game_14 rfl rfl ?_
    refine M_callV (av := [.int (nI S), .int (nI F)]) d_R_game_15 s_R_511 (M_rcv rfl (by decide) rfl) (S_R_playFirst hX hS hF hb) (by decide) rfl rfl (Nat.le_of_ble_eq_true rfl) (fun r Y hq => ?_)
    obtain ⟨rfl, hY⟩ := hq
    refine J_iconst (v := (-1)) d_R_game_18 rfl ?_
    refine J_icmp_ne (tgt := 26) d_R_game_19 (by decide) (fun c19 => ?_) (fun c19 => ?_)
    · refine J_iconst (v := nI 1) d_R_game_26 rfl ?_
      refine M_ir d_R_game_27 rfl rfl ?_
      have ho : jnN S F % 2 = 1 := by
        rcases Nat.mod_two_eq_zero_or_one (jnN S F) with z | z
        · exact absurd (if_neg (by omega)) c19
        · exact z
      exact ⟨by rw [gameF, c5, if_pos rfl, tS, tF, ho], hY⟩
    · refine J_iconst (v := nI 0) d_R_game_22 rfl ?_
      refine J_goto (tgt := 27) d_R_game_23 (by decide) ?_
      refine M_ir d_R_game_27 rfl rfl ?_
      have ho : ¬ jnN S F % 2 = 1 := fun q => by
        rw [if_pos q, if_neg (jn_pl hF hS q)] at c19
        have := fstN_le (jnP S F) 20 0
        exact nI_nm1 (by have : plN S F = fstN (jnP S F) 0 20 := rfl; omega) c19
      exact ⟨by rw [gameF, c5, if_pos rfl, tS, tF, show jnN S F % 2 = 0 by omega], hY⟩
  · refine J_iconst (v := (-1)) d_R_game_8 rfl ?_
    refine J_goto (tgt := 27) d_R_game_9 (by decide) ?_
    refine M_ir d_R_game_27 rfl rfl ?_
    exact ⟨by rw [gameF, c5] <;> rfl, gmY_0 hX⟩

theorem S_R_play {X : Mem} {s f : Int32} (hX : Ok X) : CM 6 m_R_play [.ref 244, .int s, .int f] X (fun r Y => r = some (.int (playF s f)) ∧ gmY X Y) := by
  refine CM_of (L := [some (.ref 244), some (.int s), some (.int f)]) 0 ok_R_play (fun _ => Nat.le_of_ble_eq_true rfl) rfl ?_
  refine J_iload_n (i := 1) d_R_play_0 rfl rfl ?_
  refine J_iload_n (i := 2) d_R_play_1 rfl rfl ?_
  refine CS_B (av := [.int s, .int f]) d_R_play_2 s_R_508 (S_R_isGame) (by decide) rfl rfl (Nat.le_of_ble_eq_true rfl) ?_
  refine B_if_eq (tgt := 17) d_R_play_5 (by decide) (fun c5 => ?_) (fun c5 => ?_)
  · refine J_iconst (v := (-1)) d_R_play_17 rfl ?_
    refine M_ir d_R_play_18 rfl rfl ?_
    exact ⟨by rw [playF, c5] <;> rfl, gmY_0 hX⟩
  · obtain ⟨⟨S, hS, rfl⟩, F, hF, rfl, hb⟩ := gm_f c5
    have tS := tn_nI (show S < 2147483648 by omega)
    have tF := tn_nI (show F < 2147483648 by omega)
    refine J_aload_n (i := 0) d_R_play_8 rfl rfl ?_
    refine J_iload_n (i := 1) d_R_play_9 rfl rfl ?_
    refine J_iload_n (i := 2) d_R_play_10 rfl rfl ?_
    refine M_callV (av := [.int (nI S), .int (nI F)]) d_R_play_11 s_R_511 (M_rcv rfl (by decide) rfl) (S_R_playFirst hX hS hF hb) (by decide) rfl rfl (Nat.le_of_ble_eq_true rfl) (fun r Y hq => ?_)
    obtain ⟨rfl, hY⟩ := hq
    refine J_goto (tgt := 18) d_R_play_14 (by decide) ?_
    refine M_ir d_R_play_18 rfl rfl ?_
    refine ⟨?_, hY⟩
    rw [playF, c5, tS, tF, Bool.true_and]
    by_cases ho : jnN S F % 2 = 1
    · rw [if_pos ho, decide_eq_true ho]; rfl
    · rw [if_neg ho, decide_eq_false ho]; rfl

