theorem mul20 (w k : Nat) : w * 20 + k = 20 * w + k := by omega
theorem lp_K_moved {d : Nat} {Q : Option Value → Mem → Prop} {X : Mem} {s w : Nat} (hX : Ok X) (hs : s < 1048576) (hw : w < 8) (kx : JM d m_K_moved Q 40 [some (.int (nI s)), some (.int (nI w)), some (.int (nI (itr (fun k r => if s.testBit k then r ||| 1 <<< MVL.getD (20 * w + k) 0 else r) 0 20))), some (.int (nI 20))] [] X) : ∀ (n i : Nat), i + n = 20 → JM d m_K_moved Q 4 [some (.int (nI s)), some (.int (nI w)), some (.int (nI (itr (fun k r => if s.testBit k then r ||| 1 <<< MVL.getD (20 * w + k) 0 else r) 0 i))), some (.int (nI i))] [] X := by
  intro n
  induction n with
  | zero =>
    intro i hi
    obtain rfl : i = 20 := by omega
    refine J_iload_n (i := 3) d_K_moved_4 rfl rfl ?_
    refine J_bipush (v := nI 20) d_K_moved_5 rfl ?_
    refine N_icmp_ge (tgt := 40) d_K_moved_7 (by decide) (by first | omega | exact Nat.lt_trans mv_lt (by decide)) (by first | omega | exact Nat.lt_trans mv_lt (by decide)) (fun c7 => ?_) (fun c7 => absurd c7 (by omega))
    exact kx
  | succ n ih =>
    intro i hi
    generalize hx : (itr (fun k r => if s.testBit k then r ||| 1 <<< MVL.getD (20 * w + k) 0 else r) 0 i) = x
    refine J_iload_n (i := 3) d_K_moved_4 rfl rfl ?_
    refine J_bipush (v := nI 20) d_K_moved_5 rfl ?_
    refine N_icmp_ge (tgt := 40) d_K_moved_7 (by decide) (by first | omega | exact Nat.lt_trans mv_lt (by decide)) (by first | omega | exact Nat.lt_trans mv_lt (by decide)) (fun c7 => absurd c7 (by omega)) (fun c7 => ?_)
    refine J_iload_n (i := 0) d_K_moved_10 rfl rfl ?_
    refine J_iload_n (i := 3) d_K_moved_11 rfl rfl ?_
    refine N_ishr d_K_moved_12 (by first | omega | exact Nat.lt_trans mv_lt (by decide)) (by first | omega | exact Nat.lt_trans mv_lt (by decide)) ?_
    refine J_iconst (v := nI 1) d_K_moved_13 rfl ?_
    refine N_iand d_K_moved_14 ?_
    refine J_iconst (v := nI 1) d_K_moved_15 rfl ?_
    refine T_ne (tgt := 34) d_K_moved_16 (by decide) (fun c16 => ?_) (fun c16 => ?_)
    · refine N_iinc (a := i) (c := 1) (L1 := [some (.int (nI s)), some (.int (nI w)), some (.int (nI x)), some (.int (nI (i + 1)))]) d_K_moved_34 rfl rfl (by decide) rfl ?_
      refine J_goto (tgt := 4) d_K_moved_37 (by decide) ?_
      exact (ih (i + 1) (by omega)).eq (by rw [show itr (fun k r => if s.testBit k then r ||| 1 <<< MVL.getD (20 * w + k) 0 else r) 0 (i + 1) = x from itr_g hx (by first | (simp [-List.getD_eq_getElem?_getD, c7, c16, mul20]; done) | (split <;> omega) | (dsimp only; split <;> omega))]) rfl rfl
    · refine J_iload_n (i := 2) d_K_moved_19 rfl rfl ?_
      refine J_iconst (v := nI 1) d_K_moved_20 rfl ?_
      refine J_gets (v := .ref 2) d_K_moved_21 Fx_z2 w_K_15 ?_
      refine J_iload_n (i := 1) d_K_moved_24 rfl rfl ?_
      refine J_bipush (v := nI 20) d_K_moved_25 rfl ?_
      refine N_imul d_K_moved_27 ?_
      refine J_iload_n (i := 3) d_K_moved_28 rfl rfl ?_
      refine N_iadd d_K_moved_29 ?_
      refine N_iald (x := (nI (MVL.getD ((w * 20) + i) 0))) d_K_moved_30 rfl (by first | omega | exact Nat.lt_trans mv_lt (by decide)) (ltL hX (a := 2) (n := 160) (by decide) rfl (by first | omega | exact Nat.lt_trans mv_lt (by decide))) (k_mv hX) ?_
      refine N_ishl d_K_moved_31 (by first | omega | exact Nat.lt_trans mv_lt (by decide)) ?_
      refine N_ior d_K_moved_32 ?_
      refine N_nm (fun v33 hv33 => ?_)
      refine J_istore_n (i := 2) (L1 := [some (.int (nI s)), some (.int (nI w)), some (.int (nI v33)), some (.int (nI i))]) d_K_moved_33 rfl (by decide) rfl ?_
      refine N_iinc (a := i) (c := 1) (L1 := [some (.int (nI s)), some (.int (nI w)), some (.int (nI v33)), some (.int (nI (i + 1)))]) d_K_moved_34 rfl rfl (by decide) rfl ?_
      refine J_goto (tgt := 4) d_K_moved_37 (by decide) ?_
      exact (ih (i + 1) (by omega)).eq (by rw [show itr (fun k r => if s.testBit k then r ||| 1 <<< MVL.getD (20 * w + k) 0 else r) 0 (i + 1) = v33 from itr_g hx (by first | (simp [-List.getD_eq_getElem?_getD, c7, c16, hv33, mul20]; done) | (split <;> omega) | (dsimp only; split <;> omega))]) rfl rfl

theorem S_K_moved {X : Mem} {s w : Nat} (hX : Ok X) (hs : s < 1048576) (hw : w < 8) : CM 0 m_K_moved [.int (nI s), .int (nI w)] X (rN (mvs w s) X) := by
  refine CM_of (L := [some (.int (nI s)), some (.int (nI w)), none, none]) 2 ok_K_moved (fun _ => Nat.le_of_ble_eq_true rfl) rfl ?_
  refine J_iconst (v := nI 0) d_K_moved_0 rfl ?_
  refine J_istore_n (i := 2) (L1 := [some (.int (nI s)), some (.int (nI w)), some (.int (nI 0)), none]) d_K_moved_1 rfl (by decide) rfl ?_
  refine J_iconst (v := nI 0) d_K_moved_2 rfl ?_
  refine J_istore_n (i := 3) (L1 := [some (.int (nI s)), some (.int (nI w)), some (.int (nI 0)), some (.int (nI 0))]) d_K_moved_3 rfl (by decide) rfl ?_
  refine lp_K_moved hX hs hw ?_ 20 0 (by omega)
  refine J_iload_n (i := 2) d_K_moved_40 rfl rfl ?_
  refine M_ir d_K_moved_41 rfl rfl ?_
  exact ⟨rfl, rfl⟩

theorem lp_K_touched {d : Nat} {Q : Option Value → Mem → Prop} {X : Mem} {s : Nat} (hX : Ok X) (hs : s < 1048576) (kx : JM d m_K_touched Q 33 [some (.int (nI s)), some (.int (nI (itr (fun k q => if s.testBit k then q ||| (1 <<< ONEL.getD k 0 ||| 1 <<< OTHL.getD k 0) else q) 0 20))), some (.int (nI 20))] [] X) : ∀ (n i : Nat), i + n = 20 → JM d m_K_touched Q 4 [some (.int (nI s)), some (.int (nI (itr (fun k q => if s.testBit k then q ||| (1 <<< ONEL.getD k 0 ||| 1 <<< OTHL.getD k 0) else q) 0 i))), some (.int (nI i))] [] X := by
  intro n
  induction n with
  | zero =>
    intro i hi
    obtain rfl : i = 20 := by omega
    refine J_iload_n (i := 2) d_K_touched_4 rfl rfl ?_
    refine J_bipush (v := nI 20) d_K_touched_5 rfl ?_
    refine N_icmp_ge (tgt := 33) d_K_touched_7 (by decide) (by omega) (by omega) (fun c7 => ?_) (fun c7 => absurd c7 (by omega))
    exact kx
  | succ n ih =>
    intro i hi
    generalize hx : (itr (fun k q => if s.testBit k then q ||| (1 <<< ONEL.getD k 0 ||| 1 <<< OTHL.getD k 0) else q) 0 i) = x
    refine J_iload_n (i := 2) d_K_touched_4 rfl rfl ?_
    refine J_bipush (v := nI 20) d_K_touched_5 rfl ?_
    refine N_icmp_ge (tgt := 33) d_K_touched_7 (by decide) (by omega) (by omega) (fun c7 => absurd c7 (by omega)) (fun c7 => ?_)
    refine J_iload_n (i := 0) d_K_touched_10 rfl rfl ?_
    refine J_iload_n (i := 2) d_K_touched_11 rfl rfl ?_
    refine N_ishr d_K_touched_12 (by omega) (by omega) ?_
    refine J_iconst (v := nI 1) d_K_touched_13 rfl ?_
    refine N_iand d_K_touched_14 ?_
    refine J_iconst (v := nI 1) d_K_touched_15 rfl ?_
    refine T_ne (tgt := 27) d_K_touched_16 (by decide) (fun c16 => ?_) (fun c16 => ?_)
    · refine N_iinc (a := i) (c := 1) (L1 := [some (.int (nI s)), some (.int (nI x)), some (.int (nI (i + 1)))]) d_K_touched_27 rfl rfl (by decide) rfl ?_
      refine J_goto (tgt := 4) d_K_touched_30 (by decide) ?_
      exact (ih (i + 1) (by omega)).eq (by rw [show itr (fun k q => if s.testBit k then q ||| (1 <<< ONEL.getD k 0 ||| 1 <<< OTHL.getD k 0) else q) 0 (i + 1) = x from itr_g hx (by first | (simp [-List.getD_eq_getElem?_getD, c7, c16, po_eq i (by omega)]; done) | (split <;> omega) | (dsimp only; split <;> omega))]) rfl rfl
    · refine J_iload_n (i := 1) d_K_touched_19 rfl rfl ?_
      refine J_gets (v := .ref 1) d_K_touched_20 Fx_z1 w_K_9 ?_
      refine J_iload_n (i := 2) d_K_touched_23 rfl rfl ?_
      refine N_iald (x := (nI (POL.getD i 0))) d_K_touched_24 rfl (by omega) (ltL hX (a := 1) (n := 20) (by decide) rfl (by omega)) (k_po hX) ?_
      refine N_ior d_K_touched_25 ?_
      refine N_nm (fun v26 hv26 => ?_)
      refine J_istore_n (i := 1) (L1 := [some (.int (nI s)), some (.int (nI v26)), some (.int (nI i))]) d_K_touched_26 rfl (by decide) rfl ?_
      refine N_iinc (a := i) (c := 1) (L1 := [some (.int (nI s)), some (.int (nI v26)), some (.int (nI (i + 1)))]) d_K_touched_27 rfl rfl (by decide) rfl ?_
      refine J_goto (tgt := 4) d_K_touched_30 (by decide) ?_
      exact (ih (i + 1) (by omega)).eq (by rw [show itr (fun k q => if s.testBit k then q ||| (1 <<< ONEL.getD k 0 ||| 1 <<< OTHL.getD k 0) else q) 0 (i + 1) = v26 from itr_g hx (by first | (simp [-List.getD_eq_getElem?_getD, c7, c16, hv26, po_eq i (by omega)]; done) | (split <;> omega) | (dsimp only; split <;> omega))]) rfl rfl

theorem S_K_touched {X : Mem} {s : Nat} (hX : Ok X) (hs : s < 1048576) : CM 0 m_K_touched [.int (nI s)] X (rN (pts s) X) := by
  refine CM_of (L := [some (.int (nI s)), none, none]) 2 ok_K_touched (fun _ => Nat.le_of_ble_eq_true rfl) rfl ?_
  refine J_iconst (v := nI 0) d_K_touched_0 rfl ?_
  refine J_istore_n (i := 1) (L1 := [some (.int (nI s)), some (.int (nI 0)), none]) d_K_touched_1 rfl (by decide) rfl ?_
  refine J_iconst (v := nI 0) d_K_touched_2 rfl ?_
  refine J_istore_n (i := 2) (L1 := [some (.int (nI s)), some (.int (nI 0)), some (.int (nI 0))]) d_K_touched_3 rfl (by decide) rfl ?_
  refine lp_K_touched hX hs ?_ 20 0 (by omega)
  refine J_iload_n (i := 1) d_K_touched_33 rfl rfl ?_
  refine M_ir d_K_touched_34 rfl rfl ?_
  exact ⟨rfl, rfl⟩

theorem po_tb : ∀ k, k < 20 → ∀ p, p < 9 → (POL.getD k 0).testBit p = (ONEL.getD k 0 == p || OTHL.getD k 0 == p) := by decide
theorem lt_tb {a f k : Nat} (h : a < 2 ^ f) (hk : f ≤ k) : a.testBit k = false := Nat.testBit_lt_two_pow (Nat.lt_of_lt_of_le h (Nat.pow_le_pow_right (show 0 < 2 by decide) hk))
theorem odd_tb (s p : Nat) (hp : p < 9) : (odd s).testBit p = decide (stA s p % 2 = 1) := by
  have g : ∀ n, n ≤ 9 → (itr (fun p q => q ||| (if stA s p % 2 = 1 then 1 <<< p else 0)) 0 n).testBit p = (decide (p < n) && decide (stA s p % 2 = 1)) := by
    intro n
    induction n with
    | zero => intro _; simp [itr]
    | succ n ih =>
      intro hn
      have e := ih (by omega)
      show (itr _ 0 n ||| _).testBit p = _
      rw [Nat.testBit_or, e]
      by_cases hpn : p = n
      · subst hpn
        by_cases h : stA s p % 2 = 1
        · simp [h, shl1]
        · simp [h]
      · have h2 : (if stA s n % 2 = 1 then 1 <<< n else 0).testBit p = false := by
          split
          · rw [shl1, Nat.testBit_two_pow]
            simp [Ne.symm hpn]
          · simp
        rw [h2, Bool.or_false]
        have : (p < n + 1) ↔ p < n := by omega
        simp [this]
  have := g 9 (Nat.le_refl 9)
  rw [show odd s = itr _ 0 9 from rfl, this]
  simp [hp]
theorem odx_eq (s : Nat) : itr (fun k q => if s.testBit k then q ^^^ POL.getD k 0 else q) 0 20 = odd s := by
  apply Nat.eq_of_testBit_eq
  intro p
  by_cases hp : p < 9
  · rw [odd_tb s p hp]
    have g : ∀ n, n ≤ 20 → (itr (fun k q => if s.testBit k then q ^^^ POL.getD k 0 else q) 0 n).testBit p = decide (itr (fun k c => c + if s.testBit k && (ONEL.getD k 0 == p || OTHL.getD k 0 == p) then 1 else 0) 0 n % 2 = 1) := by
      intro n
      induction n with
      | zero => intro _; simp [itr]
      | succ n ih =>
        intro hn
        have e := ih (by omega)
        have key : ∀ x c : Nat, x.testBit p = decide (c % 2 = 1) → (if s.testBit n then x ^^^ POL.getD n 0 else x).testBit p = decide ((c + if s.testBit n && (ONEL.getD n 0 == p || OTHL.getD n 0 == p) then 1 else 0) % 2 = 1) := by
          intro x c e
          cases hb : s.testBit n
          · simp only [Bool.false_and, Bool.false_eq_true, if_false]
            simpa using e
          · rw [if_pos rfl, Nat.testBit_xor, e, po_tb n (by omega) p hp, Bool.true_and]
            cases hq : (ONEL.getD n 0 == p || OTHL.getD n 0 == p)
            · simp
            · rcases Nat.mod_two_eq_zero_or_one c with z | z
              · have : (c + 1) % 2 = 1 := by omega
                simp [z, this]
              · have : (c + 1) % 2 = 0 := by omega
                simp [z, this]
        exact key _ _ e
    exact g 20 (Nat.le_refl 20)
  · rw [lt_tb (f := 9) (odd_lt s) (by omega)]
    apply lt_tb (f := 9) _ (by omega)
    exact itr_inv (fun _ (x : Nat) => x < 2 ^ 9) (by decide) (fun n x hx => by
      try dsimp only
      split
      · exact xor_lt 9 hx po_lt
      · exact hx) 20
theorem lp_K_oddPoints {d : Nat} {Q : Option Value → Mem → Prop} {X : Mem} {s : Nat} (hX : Ok X) (hs : s < 1048576) (kx : JM d m_K_oddPoints Q 33 [some (.int (nI s)), some (.int (nI (itr (fun k q => if s.testBit k then q ^^^ POL.getD k 0 else q) 0 20))), some (.int (nI 20))] [] X) : ∀ (n i : Nat), i + n = 20 → JM d m_K_oddPoints Q 4 [some (.int (nI s)), some (.int (nI (itr (fun k q => if s.testBit k then q ^^^ POL.getD k 0 else q) 0 i))), some (.int (nI i))] [] X := by
  intro n
  induction n with
  | zero =>
    intro i hi
    obtain rfl : i = 20 := by omega
    refine J_iload_n (i := 2) d_K_oddPoints_4 rfl rfl ?_
    refine J_bipush (v := nI 20) d_K_oddPoints_5 rfl ?_
    refine N_icmp_ge (tgt := 33) d_K_oddPoints_7 (by decide) (by omega) (by omega) (fun c7 => ?_) (fun c7 => absurd c7 (by omega))
    exact kx
  | succ n ih =>
    intro i hi
    generalize hx : (itr (fun k q => if s.testBit k then q ^^^ POL.getD k 0 else q) 0 i) = x
    refine J_iload_n (i := 2) d_K_oddPoints_4 rfl rfl ?_
    refine J_bipush (v := nI 20) d_K_oddPoints_5 rfl ?_
    refine N_icmp_ge (tgt := 33) d_K_oddPoints_7 (by decide) (by omega) (by omega) (fun c7 => absurd c7 (by omega)) (fun c7 => ?_)
    refine J_iload_n (i := 0) d_K_oddPoints_10 rfl rfl ?_
    refine J_iload_n (i := 2) d_K_oddPoints_11 rfl rfl ?_
    refine N_ishr d_K_oddPoints_12 (by omega) (by omega) ?_
    refine J_iconst (v := nI 1) d_K_oddPoints_13 rfl ?_
    refine N_iand d_K_oddPoints_14 ?_
    refine J_iconst (v := nI 1) d_K_oddPoints_15 rfl ?_
    refine T_ne (tgt := 27) d_K_oddPoints_16 (by decide) (fun c16 => ?_) (fun c16 => ?_)
    · refine N_iinc (a := i) (c := 1) (L1 := [some (.int (nI s)), some (.int (nI x)), some (.int (nI (i + 1)))]) d_K_oddPoints_27 rfl rfl (by decide) rfl ?_
      refine J_goto (tgt := 4) d_K_oddPoints_30 (by decide) ?_
      exact (ih (i + 1) (by omega)).eq (by rw [show itr (fun k q => if s.testBit k then q ^^^ POL.getD k 0 else q) 0 (i + 1) = x from itr_g hx (by first | (simp [-List.getD_eq_getElem?_getD, c7, c16]; done) | (split <;> omega) | (dsimp only; split <;> omega))]) rfl rfl
    · refine J_iload_n (i := 1) d_K_oddPoints_19 rfl rfl ?_
      refine J_gets (v := .ref 1) d_K_oddPoints_20 Fx_z1 w_K_9 ?_
      refine J_iload_n (i := 2) d_K_oddPoints_23 rfl rfl ?_
      refine N_iald (x := (nI (POL.getD i 0))) d_K_oddPoints_24 rfl (by omega) (ltL hX (a := 1) (n := 20) (by decide) rfl (by omega)) (k_po hX) ?_
      refine N_ixor d_K_oddPoints_25 ?_
      refine N_nm (fun v26 hv26 => ?_)
      refine J_istore_n (i := 1) (L1 := [some (.int (nI s)), some (.int (nI v26)), some (.int (nI i))]) d_K_oddPoints_26 rfl (by decide) rfl ?_
      refine N_iinc (a := i) (c := 1) (L1 := [some (.int (nI s)), some (.int (nI v26)), some (.int (nI (i + 1)))]) d_K_oddPoints_27 rfl rfl (by decide) rfl ?_
      refine J_goto (tgt := 4) d_K_oddPoints_30 (by decide) ?_
      exact (ih (i + 1) (by omega)).eq (by rw [show itr (fun k q => if s.testBit k then q ^^^ POL.getD k 0 else q) 0 (i + 1) = v26 from itr_g hx (by first | (simp [-List.getD_eq_getElem?_getD, c7, c16, hv26]; done) | (split <;> omega) | (dsimp only; split <;> omega))]) rfl rfl

theorem S_K_oddPoints {X : Mem} {s : Nat} (hX : Ok X) (hs : s < 1048576) : CM 0 m_K_oddPoints [.int (nI s)] X (rN (odd s) X) := by
  rw [← odx_eq s]
  refine CM_of (L := [some (.int (nI s)), none, none]) 2 ok_K_oddPoints (fun _ => Nat.le_of_ble_eq_true rfl) rfl ?_
  refine J_iconst (v := nI 0) d_K_oddPoints_0 rfl ?_
  refine J_istore_n (i := 1) (L1 := [some (.int (nI s)), some (.int (nI 0)), none]) d_K_oddPoints_1 rfl (by decide) rfl ?_
  refine J_iconst (v := nI 0) d_K_oddPoints_2 rfl ?_
  refine J_istore_n (i := 2) (L1 := [some (.int (nI s)), some (.int (nI 0)), some (.int (nI 0))]) d_K_oddPoints_3 rfl (by decide) rfl ?_
  refine lp_K_oddPoints hX hs ?_ 20 0 (by omega)
  refine J_iload_n (i := 1) d_K_oddPoints_33 rfl rfl ?_
  refine M_ir d_K_oddPoints_34 rfl rfl ?_
  exact ⟨rfl, rfl⟩

theorem po_and : ∀ k, k < 20 → ∀ q : Nat, (POL.getD k 0 &&& q = 0) ↔ (q.testBit (ONEL.getD k 0) || q.testBit (OTHL.getD k 0)) = false := by
  intro k hk q
  have g : ∀ k, k < 20 → POL.getD k 0 = 2 ^ ONEL.getD k 0 ||| 2 ^ OTHL.getD k 0 := by decide
  rw [g k hk]
  constructor
  · intro h
    have h1 : ((2 ^ ONEL.getD k 0 ||| 2 ^ OTHL.getD k 0) &&& q).testBit (ONEL.getD k 0) = false := by rw [h]; simp
    have h2 : ((2 ^ ONEL.getD k 0 ||| 2 ^ OTHL.getD k 0) &&& q).testBit (OTHL.getD k 0) = false := by rw [h]; simp
    rw [Nat.testBit_and, Nat.testBit_or, Nat.testBit_two_pow_self] at h1 h2
    simp only [Bool.true_or, Bool.or_true, Bool.true_and] at h1 h2
    rw [h1, h2]
    rfl
  · intro h
    apply Nat.eq_of_testBit_eq
    intro i
    rw [Nat.testBit_and, Nat.testBit_or, Nat.testBit_two_pow, Nat.testBit_two_pow, Nat.zero_testBit]
    simp only [Bool.or_eq_false_iff] at h
    by_cases e1 : ONEL.getD k 0 = i
    · rw [← e1, h.1, Bool.and_false]
    · by_cases e2 : OTHL.getD k 0 = i
      · rw [← e2, h.2, Bool.and_false]
      · simp [-List.getD_eq_getElem?_getD, e1, e2]
theorem po_and' {k q : Nat} (hk : k < 20) (h : ¬ POL.getD k 0 &&& q = 0) : (q.testBit (ONEL.getD k 0) || q.testBit (OTHL.getD k 0)) = true := by
  cases e : (q.testBit (ONEL.getD k 0) || q.testBit (OTHL.getD k 0))
  · exact absurd ((po_and k hk q).mpr e) h
  · rfl
theorem lp_K_joined_in {d : Nat} {Q : Option Value → Mem → Prop} {X : Mem} {s p q b r : Nat} (hX : Ok X) (hs : s < 1048576) (kx : JM d m_K_joinedWith Q 69 [some (.int (nI p)), some (.int (nI s)), some (.int (nI b)), some (.int (nI (itr (fun k x => if s.testBit k && (x.testBit (ONEL.getD k 0) || x.testBit (OTHL.getD k 0)) then x ||| (1 <<< ONEL.getD k 0 ||| 1 <<< OTHL.getD k 0) else x) q 20))), some (.int (nI r)), some (.int (nI 20))] [] X) : ∀ (n i : Nat), i + n = 20 → JM d m_K_joinedWith Q 26 [some (.int (nI p)), some (.int (nI s)), some (.int (nI b)), some (.int (nI (itr (fun k x => if s.testBit k && (x.testBit (ONEL.getD k 0) || x.testBit (OTHL.getD k 0)) then x ||| (1 <<< ONEL.getD k 0 ||| 1 <<< OTHL.getD k 0) else x) q i))), some (.int (nI r)), some (.int (nI i))] [] X := by
  intro n
  induction n with
  | zero =>
    intro i hi
    obtain rfl : i = 20 := by omega
    refine J_iload d_K_joinedWith_26 rfl ?_
    refine J_bipush (v := nI 20) d_K_joinedWith_28 rfl ?_
    refine N_icmp_ge (tgt := 69) d_K_joinedWith_30 (by decide) (by first | omega | exact and_lt (Nat.lt_trans po_lt (by decide))) (by first | omega | exact and_lt (Nat.lt_trans po_lt (by decide))) (fun c30 => ?_) (fun c30 => absurd c30 (by omega))
    exact kx
  | succ n ih =>
    intro i hi
    generalize hx : (itr (fun k x => if s.testBit k && (x.testBit (ONEL.getD k 0) || x.testBit (OTHL.getD k 0)) then x ||| (1 <<< ONEL.getD k 0 ||| 1 <<< OTHL.getD k 0) else x) q i) = x
    refine J_iload d_K_joinedWith_26 rfl ?_
    refine J_bipush (v := nI 20) d_K_joinedWith_28 rfl ?_
    refine N_icmp_ge (tgt := 69) d_K_joinedWith_30 (by decide) (by first | omega | exact and_lt (Nat.lt_trans po_lt (by decide))) (by first | omega | exact and_lt (Nat.lt_trans po_lt (by decide))) (fun c30 => absurd c30 (by omega)) (fun c30 => ?_)
    refine J_iload_n (i := 1) d_K_joinedWith_33 rfl rfl ?_
    refine J_iload d_K_joinedWith_34 rfl ?_
    refine N_ishr d_K_joinedWith_36 (by first | omega | exact and_lt (Nat.lt_trans po_lt (by decide))) (by first | omega | exact and_lt (Nat.lt_trans po_lt (by decide))) ?_
    refine J_iconst (v := nI 1) d_K_joinedWith_37 rfl ?_
    refine N_iand d_K_joinedWith_38 ?_
    refine J_iconst (v := nI 1) d_K_joinedWith_39 rfl ?_
    refine T_ne (tgt := 63) d_K_joinedWith_40 (by decide) (fun c40 => ?_) (fun c40 => ?_)
    · refine N_iinc (a := i) (c := 1) (L1 := [some (.int (nI p)), some (.int (nI s)), some (.int (nI b)), some (.int (nI x)), some (.int (nI r)), some (.int (nI (i + 1)))]) d_K_joinedWith_63 rfl rfl (by decide) rfl ?_
      refine J_goto (tgt := 26) d_K_joinedWith_66 (by decide) ?_
      exact (ih (i + 1) (by omega)).eq (by rw [show itr (fun k x => if s.testBit k && (x.testBit (ONEL.getD k 0) || x.testBit (OTHL.getD k 0)) then x ||| (1 <<< ONEL.getD k 0 ||| 1 <<< OTHL.getD k 0) else x) q (i + 1) = x from itr_g hx (by show (if _ then _ else _) = _; rw [c40]; rfl)]) rfl rfl
    · refine J_gets (v := .ref 1) d_K_joinedWith_43 Fx_z1 w_K_9 ?_
      refine J_iload d_K_joinedWith_46 rfl ?_
      refine N_iald (x := (nI (POL.getD i 0))) d_K_joinedWith_48 rfl (by first | omega | exact and_lt (Nat.lt_trans po_lt (by decide))) (ltL hX (a := 1) (n := 20) (by decide) rfl (by first | omega | exact and_lt (Nat.lt_trans po_lt (by decide)))) (k_po hX) ?_
      refine J_iload_n (i := 3) d_K_joinedWith_49 rfl rfl ?_
      refine N_iand d_K_joinedWith_50 ?_
      refine N_if_eq (tgt := 63) d_K_joinedWith_51 (by decide) (by first | omega | exact and_lt (Nat.lt_trans po_lt (by decide))) (fun c51 => ?_) (fun c51 => ?_)
      · refine N_iinc (a := i) (c := 1) (L1 := [some (.int (nI p)), some (.int (nI s)), some (.int (nI b)), some (.int (nI x)), some (.int (nI r)), some (.int (nI (i + 1)))]) d_K_joinedWith_63 rfl rfl (by decide) rfl ?_
        refine J_goto (tgt := 26) d_K_joinedWith_66 (by decide) ?_
        exact (ih (i + 1) (by omega)).eq (by rw [show itr (fun k x => if s.testBit k && (x.testBit (ONEL.getD k 0) || x.testBit (OTHL.getD k 0)) then x ||| (1 <<< ONEL.getD k 0 ||| 1 <<< OTHL.getD k 0) else x) q (i + 1) = x from itr_g hx (by show (if _ then _ else _) = _; rw [(po_and i (by omega) x).mp c51, Bool.and_false]; rfl)]) rfl rfl
      · refine J_iload_n (i := 3) d_K_joinedWith_54 rfl rfl ?_
        refine J_gets (v := .ref 1) d_K_joinedWith_55 Fx_z1 w_K_9 ?_
        refine J_iload d_K_joinedWith_58 rfl ?_
        refine N_iald (x := (nI (POL.getD i 0))) d_K_joinedWith_60 rfl (by first | omega | exact and_lt (Nat.lt_trans po_lt (by decide))) (ltL hX (a := 1) (n := 20) (by decide) rfl (by first | omega | exact and_lt (Nat.lt_trans po_lt (by decide)))) (k_po hX) ?_
        refine N_ior d_K_joinedWith_61 ?_
        refine N_nm (fun v62 hv62 => ?_)
        refine J_istore_n (i := 3) (L1 := [some (.int (nI p)), some (.int (nI s)), some (.int (nI b)), some (.int (nI v62)), some (.int (nI r)), some (.int (nI i))]) d_K_joinedWith_62 rfl (by decide) rfl ?_
        refine N_iinc (a := i) (c := 1) (L1 := [some (.int (nI p)), some (.int (nI s)), some (.int (nI b)), some (.int (nI v62)), some (.int (nI r)), some (.int (nI (i + 1)))]) d_K_joinedWith_63 rfl rfl (by decide) rfl ?_
        refine J_goto (tgt := 26) d_K_joinedWith_66 (by decide) ?_
        exact (ih (i + 1) (by omega)).eq (by rw [show itr (fun k x => if s.testBit k && (x.testBit (ONEL.getD k 0) || x.testBit (OTHL.getD k 0)) then x ||| (1 <<< ONEL.getD k 0 ||| 1 <<< OTHL.getD k 0) else x) q (i + 1) = v62 from itr_g hx (by show (if _ then _ else _) = _; rw [po_and' (by omega) c51, c40, hv62, po_eq i (by omega)]; rfl)]) rfl rfl

theorem lp_K_joined {d : Nat} {Q : Option Value → Mem → Prop} {X : Mem} {s p : Nat} (hX : Ok X) (hs : s < 1048576) (hp : p < 9) (kx : ∀ z2 z4 z5 : Option Value, JM d m_K_joinedWith Q 75 [some (.int (nI p)), some (.int (nI s)), z2, some (.int (nI (pcs s p))), z4, z5] [] X) : ∀ (m j b : Nat) (z5 : Option Value), j + m = 8 → b < 512 → (j = 0 → b = 0) → (∀ j', j = j' + 1 → b = rdn s p j') → JM d m_K_joinedWith Q 9 [some (.int (nI p)), some (.int (nI s)), some (.int (nI b)), some (.int (nI (rdn s p j))), some (.int (nI (j + 1))), z5] [] X := by
  intro m
  induction m with
  | zero =>
    intro j b z5 h1 h2 h3 h4
    obtain rfl : j = 8 := by omega
    refine J_iload d_K_joinedWith_9 rfl ?_
    refine J_bipush (v := nI 9) d_K_joinedWith_11 rfl ?_
    refine N_icmp_ge (tgt := 75) d_K_joinedWith_13 (by decide) (by omega) (by omega) (fun c13 => ?_) (fun c13 => absurd c13 (by omega))
    exact kx _ _ _
  | succ m ih =>
    intro j b z5 h1 h2 h3 h4
    have hl := rdn_lt (s := s) hp j
    refine J_iload d_K_joinedWith_9 rfl ?_
    refine J_bipush (v := nI 9) d_K_joinedWith_11 rfl ?_
    refine N_icmp_ge (tgt := 75) d_K_joinedWith_13 (by decide) (by omega) (by omega) (fun c13 => absurd c13 (by omega)) (fun c13 => ?_)
    refine J_iload_n (i := 3) d_K_joinedWith_16 rfl rfl ?_
    refine J_iload_n (i := 2) d_K_joinedWith_17 rfl rfl ?_
    refine N_icmp_eq (tgt := 75) d_K_joinedWith_18 (by decide) (by omega) (by omega) (fun c18 => ?_) (fun c18 => ?_)
    · have e : rdn s p j = pcs s p := by
        cases j with
        | zero =>
          have h5 := h3 rfl
          have h6 : 1 <<< p ≠ 0 := by rw [shl1]; exact Nat.ne_of_gt (Nat.two_pow_pos p)
          exact absurd (c18.trans h5) h6
        | succ j =>
          have h5 := h4 j rfl
          have h6 : rdn s p (j + 1) = rdn s p j := c18.trans h5
          rw [h6]
          exact pcs_of (by omega) h6
      rw [e]
      exact kx _ _ _
    · refine J_iload_n (i := 3) d_K_joinedWith_21 rfl rfl ?_
      refine J_istore_n (i := 2) (L1 := [some (.int (nI p)), some (.int (nI s)), some (.int (nI (rdn s p j))), some (.int (nI (rdn s p j))), some (.int (nI (j + 1))), z5]) d_K_joinedWith_22 rfl (by decide) rfl ?_
      refine J_iconst (v := nI 0) d_K_joinedWith_23 rfl ?_
      refine J_istore (L1 := [some (.int (nI p)), some (.int (nI s)), some (.int (nI (rdn s p j))), some (.int (nI (rdn s p j))), some (.int (nI (j + 1))), some (.int (nI 0))]) d_K_joinedWith_24 (by decide) rfl ?_
      refine lp_K_joined_in hX hs ?_ 20 0 (by omega)
      refine N_iinc (a := (j + 1)) (c := 1) (L1 := [some (.int (nI p)), some (.int (nI s)), some (.int (nI (rdn s p j))), some (.int (nI (rdn s p (j + 1)))), some (.int (nI ((j + 1) + 1))), some (.int (nI 20))]) d_K_joinedWith_69 rfl rfl (by decide) rfl ?_
      refine J_goto (tgt := 9) d_K_joinedWith_72 (by decide) ?_
      exact ih (j + 1) (rdn s p j) _ (by omega) hl (fun q => by omega) (fun j' q => by rw [show j' = j by omega])
theorem S_K_joinedWith {X : Mem} {s p : Nat} (hX : Ok X) (hs : s < 1048576) (hp : p < 9) : CM 0 m_K_joinedWith [.int (nI p), .int (nI s)] X (rN (pcs s p) X) := by
  refine CM_of (L := [some (.int (nI p)), some (.int (nI s)), none, none, none, none]) 4 ok_K_joinedWith (fun _ => Nat.le_of_ble_eq_true rfl) rfl ?_
  refine J_iconst (v := nI 0) d_K_joinedWith_0 rfl ?_
  refine J_istore_n (i := 2) (L1 := [some (.int (nI p)), some (.int (nI s)), some (.int (nI 0)), none, none, none]) d_K_joinedWith_1 rfl (by decide) rfl ?_
  refine J_iconst (v := nI 1) d_K_joinedWith_2 rfl ?_
  refine J_iload_n (i := 0) d_K_joinedWith_3 rfl rfl ?_
  refine N_ishl d_K_joinedWith_4 (by omega) ?_
  refine J_istore_n (i := 3) (L1 := [some (.int (nI p)), some (.int (nI s)), some (.int (nI 0)), some (.int (nI (1 <<< p))), none, none]) d_K_joinedWith_5 rfl (by decide) rfl ?_
  refine J_iconst (v := nI 1) d_K_joinedWith_6 rfl ?_
  refine J_istore (L1 := [some (.int (nI p)), some (.int (nI s)), some (.int (nI 0)), some (.int (nI (1 <<< p))), some (.int (nI 1)), none]) d_K_joinedWith_7 (by decide) rfl ?_
  refine lp_K_joined hX hs hp (fun z2 z4 z5 => ?_) 8 0 0 none (by omega) (by omega) (fun _ => rfl) (fun j' q => by omega)
  refine J_iload_n (i := 3) d_K_joinedWith_75 rfl rfl ?_
  refine M_ir d_K_joinedWith_76 rfl rfl ?_
  exact ⟨rfl, rfl⟩

theorem lp_K_countPieces {d : Nat} {Q : Option Value → Mem → Prop} {X : Mem} {s : Nat} (hX : Ok X) (hs : s < 1048576) (hd : 1 ≤ d) (kx : JM d m_K_countPieces Q 43 [some (.int (nI s)), some (.int (nI ((itr (fun p (x : Nat × Nat) => if x.1.testBit p then (andn x.1 (pcs s p), x.2 + 1) else x) (pts s, 0) 9).2))), some (.int (nI ((itr (fun p (x : Nat × Nat) => if x.1.testBit p then (andn x.1 (pcs s p), x.2 + 1) else x) (pts s, 0) 9).1))), some (.int (nI 9))] [] X) : ∀ (n i : Nat), i + n = 9 → JM d m_K_countPieces Q 9 [some (.int (nI s)), some (.int (nI ((itr (fun p (x : Nat × Nat) => if x.1.testBit p then (andn x.1 (pcs s p), x.2 + 1) else x) (pts s, 0) i).2))), some (.int (nI ((itr (fun p (x : Nat × Nat) => if x.1.testBit p then (andn x.1 (pcs s p), x.2 + 1) else x) (pts s, 0) i).1))), some (.int (nI i))] [] X := by
  intro n
  induction n with
  | zero =>
    intro i hi
    obtain rfl : i = 9 := by omega
    refine J_iload_n (i := 3) d_K_countPieces_9 rfl rfl ?_
    refine J_bipush (v := nI 9) d_K_countPieces_10 rfl ?_
    refine N_icmp_ge (tgt := 43) d_K_countPieces_12 (by decide) (by omega) (by omega) (fun c12 => ?_) (fun c12 => absurd c12 (by omega))
    exact kx
  | succ n ih =>
    intro i hi
    generalize hx : (itr (fun p (x : Nat × Nat) => if x.1.testBit p then (andn x.1 (pcs s p), x.2 + 1) else x) (pts s, 0) i) = x
    have hx5 : x.1 < 2147483648 := by rw [← hx]; exact Nat.lt_trans (pic_fst i) (by decide)
    refine J_iload_n (i := 3) d_K_countPieces_9 rfl rfl ?_
    refine J_bipush (v := nI 9) d_K_countPieces_10 rfl ?_
    refine N_icmp_ge (tgt := 43) d_K_countPieces_12 (by decide) (by omega) (by omega) (fun c12 => absurd c12 (by omega)) (fun c12 => ?_)
    refine J_iload_n (i := 2) d_K_countPieces_15 rfl rfl ?_
    refine J_iload_n (i := 3) d_K_countPieces_16 rfl rfl ?_
    refine N_ishr d_K_countPieces_17 (by omega) (by omega) ?_
    refine J_iconst (v := nI 1) d_K_countPieces_18 rfl ?_
    refine N_iand d_K_countPieces_19 ?_
    refine J_iconst (v := nI 1) d_K_countPieces_20 rfl ?_
    refine T_ne (tgt := 37) d_K_countPieces_21 (by decide) (fun c21 => ?_) (fun c21 => ?_)
    · refine N_iinc (a := i) (c := 1) (L1 := [some (.int (nI s)), some (.int (nI x.2)), some (.int (nI x.1)), some (.int (nI (i + 1)))]) d_K_countPieces_37 rfl rfl (by decide) rfl ?_
      refine J_goto (tgt := 9) d_K_countPieces_40 (by decide) ?_
      exact (ih (i + 1) (by omega)).eq (by rw [show itr (fun p (x : Nat × Nat) => if x.1.testBit p then (andn x.1 (pcs s p), x.2 + 1) else x) (pts s, 0) (i + 1) = (x.1, x.2) from itr_g hx (by first | (simp [-List.getD_eq_getElem?_getD, c12, c21]; done) | (split <;> omega) | (dsimp only; split <;> omega))]) rfl rfl
    · refine J_iload_n (i := 2) d_K_countPieces_24 rfl rfl ?_
      refine J_iload_n (i := 3) d_K_countPieces_25 rfl rfl ?_
      refine J_iload_n (i := 0) d_K_countPieces_26 rfl rfl ?_
      refine CS_N (av := [.int (nI i), .int (nI s)]) d_K_countPieces_27 s_K_22 (S_K_joinedWith hX (by omega) (by omega)) (by omega) rfl rfl (Nat.le_of_ble_eq_true rfl) ?_
      refine J_iconst (v := (-1)) d_K_countPieces_30 rfl ?_
      refine J_ixor d_K_countPieces_31 ?_
      refine J_iand d_K_countPieces_32 ?_
      refine I_ton (n := andn x.1 (pcs s i)) (nI_andn x.1 (pcs s i)) ?_
      refine N_nm (fun v33 hv33 => ?_)
      refine J_istore_n (i := 2) (L1 := [some (.int (nI s)), some (.int (nI x.2)), some (.int (nI v33)), some (.int (nI i))]) d_K_countPieces_33 rfl (by decide) rfl ?_
      refine N_iinc (a := x.2) (c := 1) (L1 := [some (.int (nI s)), some (.int (nI (x.2 + 1))), some (.int (nI v33)), some (.int (nI i))]) d_K_countPieces_34 rfl rfl (by decide) rfl ?_
      refine N_iinc (a := i) (c := 1) (L1 := [some (.int (nI s)), some (.int (nI (x.2 + 1))), some (.int (nI v33)), some (.int (nI (i + 1)))]) d_K_countPieces_37 rfl rfl (by decide) rfl ?_
      refine J_goto (tgt := 9) d_K_countPieces_40 (by decide) ?_
      exact (ih (i + 1) (by omega)).eq (by rw [show itr (fun p (x : Nat × Nat) => if x.1.testBit p then (andn x.1 (pcs s p), x.2 + 1) else x) (pts s, 0) (i + 1) = (v33, (x.2 + 1)) from itr_g hx (by first | (simp [-List.getD_eq_getElem?_getD, c12, c21, hv33]; done) | (split <;> omega) | (dsimp only; split <;> omega))]) rfl rfl

theorem S_K_countPieces {X : Mem} {s : Nat} (hX : Ok X) (hs : s < 1048576) : CM 1 m_K_countPieces [.int (nI s)] X (rN (pic s) X) := by
  refine CM_of (L := [some (.int (nI s)), none, none, none]) 3 ok_K_countPieces (fun _ => Nat.le_of_ble_eq_true rfl) rfl ?_
  refine J_iconst (v := nI 0) d_K_countPieces_0 rfl ?_
  refine J_istore_n (i := 1) (L1 := [some (.int (nI s)), some (.int (nI 0)), none, none]) d_K_countPieces_1 rfl (by decide) rfl ?_
  refine J_iload_n (i := 0) d_K_countPieces_2 rfl rfl ?_
  refine CS_N (av := [.int (nI s)]) d_K_countPieces_3 s_K_18 (S_K_touched hX (by omega)) (by decide) rfl rfl (Nat.le_of_ble_eq_true rfl) ?_
  refine J_istore_n (i := 2) (L1 := [some (.int (nI s)), some (.int (nI 0)), some (.int (nI (pts s))), none]) d_K_countPieces_6 rfl (by decide) rfl ?_
  refine J_iconst (v := nI 0) d_K_countPieces_7 rfl ?_
  refine J_istore_n (i := 3) (L1 := [some (.int (nI s)), some (.int (nI 0)), some (.int (nI (pts s))), some (.int (nI 0))]) d_K_countPieces_8 rfl (by decide) rfl ?_
  refine lp_K_countPieces hX hs (by decide) ?_ 9 0 (by omega)
  refine J_iload_n (i := 1) d_K_countPieces_43 rfl rfl ?_
  refine M_ir d_K_countPieces_44 rfl rfl ?_
  exact ⟨rfl, rfl⟩

