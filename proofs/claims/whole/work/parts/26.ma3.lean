theorem tb_z (s k : Nat) : (s >>> k &&& 1 = 0) ↔ s.testBit k = false := by
  rw [← tb_and0]
  have : s >>> k &&& 1 < 2 := Nat.lt_of_le_of_lt Nat.and_le_right (by decide)
  omega
theorem tb_nz {s k : Nat} (h : ¬ (s >>> k &&& 1 = 0)) : s.testBit k = true := by
  cases e : s.testBit k
  · exact absurd ((tb_z s k).mpr e) h
  · rfl
/-- what is forged from a set of marks, with it -/
def nxN (m : Nat) (st : Nat → Nat) (t set : Nat) : Nat := itr (fun i x => itr (fun j x => if set.testBit i && mdB (st i) (st j) t then x ||| 1 <<< j else x) x m) set m
def fgN (m : Nat) (st : Nat → Nat) (t set : Nat) : Nat := itr (fun i x => itr (fun j x => if set.testBit i && !set.testBit j && mdB (st i) (st j) t then x ||| 1 <<< j else x) x m) 0 m
theorem ins_lt {x j : Nat} (hx : x < 256) (hj : j < 8) (b : Bool) : (if b = true then x ||| 1 <<< j else x) < 256 := by
  split
  · exact or_lt 8 hx (sh_lt hj (by decide))
  · exact hx
theorem fi_lt {m : Nat} {st : Nat → Nat} {t set i x : Nat} (hm : m ≤ 8) (hx : x < 256) : ∀ k, k ≤ m → itr (fun j x => if set.testBit i && mdB (st i) (st j) t then x ||| 1 <<< j else x) x k < 256 :=
  itr_invN (fun _ (x : Nat) => x < 256) m hx (fun j x hj hx => ins_lt hx (by omega) _)
theorem ci_lt {m : Nat} {st : Nat → Nat} {t set i x : Nat} (hm : m ≤ 8) (hx : x < 256) : ∀ k, k ≤ m → itr (fun j x => if set.testBit i && !set.testBit j && mdB (st i) (st j) t then x ||| 1 <<< j else x) x k < 256 :=
  itr_invN (fun _ (x : Nat) => x < 256) m hx (fun j x hj hx => ins_lt hx (by omega) _)
theorem fo_lt {m : Nat} {st : Nat → Nat} {t set x : Nat} (hm : m ≤ 8) (hx : x < 256) : ∀ k, itr (fun i x => itr (fun j x => if set.testBit i && mdB (st i) (st j) t then x ||| 1 <<< j else x) x m) x k < 256 :=
  itr_inv (fun _ (x : Nat) => x < 256) hx (fun i x hx => fi_lt hm hx m (Nat.le_refl m))
theorem co_lt {m : Nat} {st : Nat → Nat} {t set x : Nat} (hm : m ≤ 8) (hx : x < 256) : ∀ k, itr (fun i x => itr (fun j x => if set.testBit i && !set.testBit j && mdB (st i) (st j) t then x ||| 1 <<< j else x) x m) x k < 256 :=
  itr_inv (fun _ (x : Nat) => x < 256) hx (fun i x hx => ci_lt hm hx m (Nat.le_refl m))
theorem or_self1 {x j : Nat} (h : x.testBit j = true) : x ||| 1 <<< j = x := by
  apply Nat.eq_of_testBit_eq
  intro k
  rw [Nat.testBit_or, shl1, Nat.testBit_two_pow]
  by_cases e : j = k
  · subst e; simp [h]
  · simp [e]
theorem fg_step {set x y j : Nat} {a b : Bool} (h : set ||| x = y) : set ||| (if (a && !set.testBit j && b) = true then x ||| 1 <<< j else x) = if (a && b) = true then y ||| 1 <<< j else y := by
  cases a
  · simpa using h
  · cases b
    · simpa using h
    · cases e : set.testBit j
      · simp only [Bool.not_false, Bool.and_self, if_true]
        rw [← h, Nat.or_assoc]
      · simp only [Bool.not_true, Bool.and_false, Bool.false_and, Bool.false_eq_true, if_false, Bool.and_self, if_true]
        rw [or_self1 (by rw [← h, Nat.testBit_or, e]; rfl), h]
theorem fg_in {m : Nat} {st : Nat → Nat} {t set i : Nat} : ∀ (k : Nat) {x y : Nat}, set ||| x = y → set ||| itr (fun j x => if set.testBit i && !set.testBit j && mdB (st i) (st j) t then x ||| 1 <<< j else x) x k = itr (fun j x => if set.testBit i && mdB (st i) (st j) t then x ||| 1 <<< j else x) y k
  | 0, _, _, h => h
  | k + 1, _, _, h => fg_step (fg_in (m := m) k h)
theorem fg_out {m : Nat} {st : Nat → Nat} {t set : Nat} : ∀ (k : Nat) {x y : Nat}, set ||| x = y → set ||| itr (fun i x => itr (fun j x => if set.testBit i && !set.testBit j && mdB (st i) (st j) t then x ||| 1 <<< j else x) x m) x k = itr (fun i x => itr (fun j x => if set.testBit i && mdB (st i) (st j) t then x ||| 1 <<< j else x) x m) y k
  | 0, _, _, h => h
  | k + 1, _, _, h => fg_in (m := m) m (fg_out k h)
theorem fg_nx {m : Nat} {st : Nat → Nat} {t set : Nat} : set ||| fgN m st t set = nxN m st t set := fg_out m (Nat.or_zero set)
def seN (m : Nat) (st : Nat → Nat) (n i k : Nat) : Nat := itr (fun _ s => nxN m st n s) (1 <<< i) k
theorem se_lt {m : Nat} {st : Nat → Nat} {n i : Nat} (hm : m ≤ 8) (hi : i < 8) : ∀ k, seN m st n i k < 256 :=
  itr_inv (fun _ (x : Nat) => x < 256) (sh_lt hi (by decide)) (fun k x hx => fo_lt hm hx m)
def chP (m : Nat) (st : Nat → Nat) (n i j k : Nat) : Bool := (seN m st n i k).testBit j
def chN (m : Nat) (st : Nat → Nat) (n i j : Nat) : Nat := fstN (chP m st n i j) 0 8
def chainF (m : Nat) (st : Nat → Nat) (i j v : Int32) : Int32 := if mkB m i && mkB m j && inR v 20 then o8 (chN m st (tn v) (tn i) (tn j)) else (-1)
theorem lp_O_forgedFrom_in {d : Nat} {Q : Option Value → Mem → Prop} {X : Mem} {m : Nat} {st rg : Nat → Nat} (hX : Ok X) (hS : CSt X m st rg) {t set i y : Nat} (hn : t ≤ 20) (hs : set < 256) (hy : y < 256) (hi : i < m) (hd : 3 ≤ d) (kx : ∀ z6 : Option Value, JM d m_O_forgedFrom Q 115 [some (.ref 8), some (.int (nI set)), some (.int (nI t)), some (.int (nI (itr (fun j x => if set.testBit i && !set.testBit j && mdB (st i) (st j) t then x ||| 1 <<< j else x) y m))), some (.int (nI i)), some (.int (nI m)), z6] [] X) : ∀ (n j : Nat) (z6 : Option Value), j + n = m → JM d m_O_forgedFrom Q 23 [some (.ref 8), some (.int (nI set)), some (.int (nI t)), some (.int (nI (itr (fun j x => if set.testBit i && !set.testBit j && mdB (st i) (st j) t then x ||| 1 <<< j else x) y j))), some (.int (nI i)), some (.int (nI j)), z6] [] X := by
  have hm8 := hS.1
  have hsti := (hS.2.2.1 i (by omega)).2
  intro n
  induction n with
  | zero =>
    intro j z6 hi
    obtain rfl : m = j := by omega
    refine J_iload d_O_forgedFrom_23 rfl ?_
    refine J_aload_n (i := 0) d_O_forgedFrom_25 rfl rfl ?_
    refine M_getR (b := 18) d_O_forgedFrom_26 f_O_48 rfl rfl rfl ?_
    refine M_getR (b := 19) d_O_forgedFrom_29 f_O_110 rfl rfl rfl ?_
    refine M_get (x := (nI m)) d_O_forgedFrom_32 f_O_258 rfl rfl hS.2.1 ?_
    refine N_icmp_ge (tgt := 115) d_O_forgedFrom_35 (by decide) (by omega) (by omega) (fun c35 => ?_) (fun c35 => absurd c35 (by omega))
    exact kx _
  | succ n ih =>
    intro j z6 hi
    generalize hx : (itr (fun j x => if set.testBit i && !set.testBit j && mdB (st i) (st j) t then x ||| 1 <<< j else x) y j) = x
    have hx5 : x < 256 := by rw [← hx]; exact ci_lt hm8 hy j (by omega)
    have hstj := (hS.2.2.1 j (by omega)).2
    refine J_iload d_O_forgedFrom_23 rfl ?_
    refine J_aload_n (i := 0) d_O_forgedFrom_25 rfl rfl ?_
    refine M_getR (b := 18) d_O_forgedFrom_26 f_O_48 rfl rfl rfl ?_
    refine M_getR (b := 19) d_O_forgedFrom_29 f_O_110 rfl rfl rfl ?_
    refine M_get (x := (nI m)) d_O_forgedFrom_32 f_O_258 rfl rfl hS.2.1 ?_
    refine N_icmp_ge (tgt := 115) d_O_forgedFrom_35 (by decide) (by omega) (by omega) (fun c35 => absurd c35 (by omega)) (fun c35 => ?_)
    refine J_iload_n (i := 1) d_O_forgedFrom_38 rfl rfl ?_
    refine J_iload d_O_forgedFrom_39 rfl ?_
    refine N_ishr d_O_forgedFrom_41 (by omega) (by omega) ?_
    refine J_iconst (v := nI 1) d_O_forgedFrom_42 rfl ?_
    refine N_iand d_O_forgedFrom_43 ?_
    refine J_iconst (v := nI 1) d_O_forgedFrom_44 rfl ?_
    refine T_ne (tgt := 61) d_O_forgedFrom_45 (by decide) (fun c45 => ?_) (fun c45 => ?_)
    · refine J_iconst (v := nI 0) d_O_forgedFrom_61 rfl ?_
      refine J_istore (L1 := [some (.ref 8), some (.int (nI set)), some (.int (nI t)), some (.int (nI x)), some (.int (nI i)), some (.int (nI j)), some (.int (nI 0))]) d_O_forgedFrom_62 (by decide) rfl ?_
      refine J_iload d_O_forgedFrom_64 rfl ?_
      refine N_if_eq (tgt := 109) d_O_forgedFrom_66 (by decide) (by omega) (fun c66 => ?_) (fun c66 => absurd c66 (by decide))
      refine N_iinc (a := j) (c := 1) (L1 := [some (.ref 8), some (.int (nI set)), some (.int (nI t)), some (.int (nI x)), some (.int (nI i)), some (.int (nI (j + 1))), some (.int (nI 0))]) d_O_forgedFrom_109 rfl rfl (by decide) rfl ?_
      refine J_goto (tgt := 23) d_O_forgedFrom_112 (by decide) ?_
      exact (ih (j + 1) _ (by omega)).eq (by rw [show itr (fun j x => if set.testBit i && !set.testBit j && mdB (st i) (st j) t then x ||| 1 <<< j else x) y (j + 1) = x from itr_g hx (by show (if _ then _ else _) = _; simp [-List.getD_eq_getElem?_getD, c45])]) rfl rfl
    · refine J_iload_n (i := 1) d_O_forgedFrom_48 rfl rfl ?_
      refine J_iload d_O_forgedFrom_49 rfl ?_
      refine N_ishr d_O_forgedFrom_51 (by omega) (by omega) ?_
      refine J_iconst (v := nI 1) d_O_forgedFrom_52 rfl ?_
      refine N_iand d_O_forgedFrom_53 ?_
      refine N_if_ne (tgt := 61) d_O_forgedFrom_54 (by decide) (Nat.lt_of_le_of_lt Nat.and_le_right (by decide)) (fun c54 => ?_) (fun c54 => ?_)
      · refine J_iconst (v := nI 0) d_O_forgedFrom_61 rfl ?_
        refine J_istore (L1 := [some (.ref 8), some (.int (nI set)), some (.int (nI t)), some (.int (nI x)), some (.int (nI i)), some (.int (nI j)), some (.int (nI 0))]) d_O_forgedFrom_62 (by decide) rfl ?_
        refine J_iload d_O_forgedFrom_64 rfl ?_
        refine N_if_eq (tgt := 109) d_O_forgedFrom_66 (by decide) (by omega) (fun c66 => ?_) (fun c66 => absurd c66 (by decide))
        refine N_iinc (a := j) (c := 1) (L1 := [some (.ref 8), some (.int (nI set)), some (.int (nI t)), some (.int (nI x)), some (.int (nI i)), some (.int (nI (j + 1))), some (.int (nI 0))]) d_O_forgedFrom_109 rfl rfl (by decide) rfl ?_
        refine J_goto (tgt := 23) d_O_forgedFrom_112 (by decide) ?_
        exact (ih (j + 1) _ (by omega)).eq (by rw [show itr (fun j x => if set.testBit i && !set.testBit j && mdB (st i) (st j) t then x ||| 1 <<< j else x) y (j + 1) = x from itr_g hx (by show (if _ then _ else _) = _; (first | rw [show set.testBit j = true from tb_nz c54] | rw [show set.testBit j = false from (tb_z _ _).mp c54]); simp [c45])]) rfl rfl
      · refine J_iconst (v := nI 1) d_O_forgedFrom_57 rfl ?_
        refine J_goto (tgt := 62) d_O_forgedFrom_58 (by decide) ?_
        refine J_istore (L1 := [some (.ref 8), some (.int (nI set)), some (.int (nI t)), some (.int (nI x)), some (.int (nI i)), some (.int (nI j)), some (.int (nI 1))]) d_O_forgedFrom_62 (by decide) rfl ?_
        refine J_iload d_O_forgedFrom_64 rfl ?_
        refine N_if_eq (tgt := 109) d_O_forgedFrom_66 (by decide) (by omega) (fun c66 => absurd c66 (by decide)) (fun c66 => ?_)
        refine J_aload_n (i := 0) d_O_forgedFrom_69 rfl rfl ?_
        refine M_getR (b := 18) d_O_forgedFrom_70 f_O_48 rfl rfl rfl ?_
        refine M_getR (b := 19) d_O_forgedFrom_73 f_O_110 rfl rfl rfl ?_
        refine M_getR (b := 20) d_O_forgedFrom_76 f_O_169 rfl rfl rfl ?_
        refine J_iload d_O_forgedFrom_79 rfl ?_
        refine N_iald (x := (nI (st i))) d_O_forgedFrom_81 rfl (by omega) (ltL hX (a := 20) (n := 8) (by decide) rfl (by omega)) (hS.2.2.1 i (by omega)).1 ?_
        refine J_aload_n (i := 0) d_O_forgedFrom_82 rfl rfl ?_
        refine M_getR (b := 18) d_O_forgedFrom_83 f_O_48 rfl rfl rfl ?_
        refine M_getR (b := 19) d_O_forgedFrom_86 f_O_110 rfl rfl rfl ?_
        refine M_getR (b := 20) d_O_forgedFrom_89 f_O_169 rfl rfl rfl ?_
        refine J_iload d_O_forgedFrom_92 rfl ?_
        refine N_iald (x := (nI (st j))) d_O_forgedFrom_94 rfl (by omega) (ltL hX (a := 20) (n := 8) (by decide) rfl (by omega)) (hS.2.2.1 j (by omega)).1 ?_
        refine J_iload_n (i := 2) d_O_forgedFrom_95 rfl rfl ?_
        refine CS_B (av := [.int (nI (st i)), .int (nI (st j)), .int (nI t)]) d_O_forgedFrom_96 s_O_356 (S_K_isMadeOf hX (by omega) (by omega) (by omega)) (by omega) rfl rfl (Nat.le_of_ble_eq_true rfl) ?_
        refine B_if_eq (tgt := 109) d_O_forgedFrom_99 (by decide) (fun c99 => ?_) (fun c99 => ?_)
        · refine N_iinc (a := j) (c := 1) (L1 := [some (.ref 8), some (.int (nI set)), some (.int (nI t)), some (.int (nI x)), some (.int (nI i)), some (.int (nI (j + 1))), some (.int (nI 1))]) d_O_forgedFrom_109 rfl rfl (by decide) rfl ?_
          refine J_goto (tgt := 23) d_O_forgedFrom_112 (by decide) ?_
          exact (ih (j + 1) _ (by omega)).eq (by rw [show itr (fun j x => if set.testBit i && !set.testBit j && mdB (st i) (st j) t then x ||| 1 <<< j else x) y (j + 1) = x from itr_g hx (by show (if _ then _ else _) = _; (first | rw [show set.testBit j = true from tb_nz c54] | rw [show set.testBit j = false from (tb_z _ _).mp c54]); simp [c45, c99])]) rfl rfl
        · refine J_iload_n (i := 3) d_O_forgedFrom_102 rfl rfl ?_
          refine J_iconst (v := nI 1) d_O_forgedFrom_103 rfl ?_
          refine J_iload d_O_forgedFrom_104 rfl ?_
          refine N_ishl d_O_forgedFrom_106 (by omega) ?_
          refine N_ior d_O_forgedFrom_107 ?_
          refine N_nm (fun v108 hv108 => ?_)
          refine J_istore_n (i := 3) (L1 := [some (.ref 8), some (.int (nI set)), some (.int (nI t)), some (.int (nI v108)), some (.int (nI i)), some (.int (nI j)), some (.int (nI 1))]) d_O_forgedFrom_108 rfl (by decide) rfl ?_
          refine N_iinc (a := j) (c := 1) (L1 := [some (.ref 8), some (.int (nI set)), some (.int (nI t)), some (.int (nI v108)), some (.int (nI i)), some (.int (nI (j + 1))), some (.int (nI 1))]) d_O_forgedFrom_109 rfl rfl (by decide) rfl ?_
          refine J_goto (tgt := 23) d_O_forgedFrom_112 (by decide) ?_
          exact (ih (j + 1) _ (by omega)).eq (by rw [show itr (fun j x => if set.testBit i && !set.testBit j && mdB (st i) (st j) t then x ||| 1 <<< j else x) y (j + 1) = v108 from itr_g hx (by show (if _ then _ else _) = _; (first | rw [show set.testBit j = true from tb_nz c54] | rw [show set.testBit j = false from (tb_z _ _).mp c54]); simp [c45, c99, hv108])]) rfl rfl

theorem lp_O_forgedFrom {d : Nat} {Q : Option Value → Mem → Prop} {X : Mem} {m : Nat} {st rg : Nat → Nat} (hX : Ok X) (hS : CSt X m st rg) {t set : Nat} (hn : t ≤ 20) (hs : set < 256) (hd : 3 ≤ d) (kx : ∀ z5 z6 : Option Value, JM d m_O_forgedFrom Q 121 [some (.ref 8), some (.int (nI set)), some (.int (nI t)), some (.int (nI (itr (fun i x => itr (fun j x => if set.testBit i && !set.testBit j && mdB (st i) (st j) t then x ||| 1 <<< j else x) x m) 0 m))), some (.int (nI m)), z5, z6] [] X) : ∀ (n i : Nat) (z5 z6 : Option Value), i + n = m → JM d m_O_forgedFrom Q 5 [some (.ref 8), some (.int (nI set)), some (.int (nI t)), some (.int (nI (itr (fun i x => itr (fun j x => if set.testBit i && !set.testBit j && mdB (st i) (st j) t then x ||| 1 <<< j else x) x m) 0 i))), some (.int (nI i)), z5, z6] [] X := by
  have hm8 := hS.1
  intro n
  induction n with
  | zero =>
    intro i z5 z6 hi
    obtain rfl : m = i := by omega
    refine J_iload d_O_forgedFrom_5 rfl ?_
    refine J_aload_n (i := 0) d_O_forgedFrom_7 rfl rfl ?_
    refine M_getR (b := 18) d_O_forgedFrom_8 f_O_48 rfl rfl rfl ?_
    refine M_getR (b := 19) d_O_forgedFrom_11 f_O_110 rfl rfl rfl ?_
    refine M_get (x := (nI m)) d_O_forgedFrom_14 f_O_258 rfl rfl hS.2.1 ?_
    refine N_icmp_ge (tgt := 121) d_O_forgedFrom_17 (by decide) (by omega) (by omega) (fun c17 => ?_) (fun c17 => absurd c17 (by omega))
    exact kx _ _
  | succ n ih =>
    intro i z5 z6 hi
    refine J_iload d_O_forgedFrom_5 rfl ?_
    refine J_aload_n (i := 0) d_O_forgedFrom_7 rfl rfl ?_
    refine M_getR (b := 18) d_O_forgedFrom_8 f_O_48 rfl rfl rfl ?_
    refine M_getR (b := 19) d_O_forgedFrom_11 f_O_110 rfl rfl rfl ?_
    refine M_get (x := (nI m)) d_O_forgedFrom_14 f_O_258 rfl rfl hS.2.1 ?_
    refine N_icmp_ge (tgt := 121) d_O_forgedFrom_17 (by decide) (by omega) (by omega) (fun c17 => absurd c17 (by omega)) (fun c17 => ?_)
    refine J_iconst (v := nI 0) d_O_forgedFrom_20 rfl ?_
    refine J_istore (L1 := [some (.ref 8), some (.int (nI set)), some (.int (nI t)), some (.int (nI (itr (fun i x => itr (fun j x => if set.testBit i && !set.testBit j && mdB (st i) (st j) t then x ||| 1 <<< j else x) x m) 0 i))), some (.int (nI i)), some (.int (nI 0)), z6]) d_O_forgedFrom_21 (by decide) rfl ?_
    refine lp_O_forgedFrom_in hX hS hn hs (co_lt (x := 0) hm8 (by decide) i) (by omega) hd (fun z6 => ?_) m 0 _ (by omega)
    refine N_iinc (a := i) (c := 1) (L1 := [some (.ref 8), some (.int (nI set)), some (.int (nI t)), some (.int (nI (itr (fun i x => itr (fun j x => if set.testBit i && !set.testBit j && mdB (st i) (st j) t then x ||| 1 <<< j else x) x m) 0 (i + 1)))), some (.int (nI (i + 1))), some (.int (nI m)), z6]) d_O_forgedFrom_115 rfl rfl (by decide) rfl ?_
    refine J_goto (tgt := 5) d_O_forgedFrom_118 (by decide) ?_
    exact ih (i + 1) _ _ (by omega)

theorem S_O_forgedFrom {X : Mem} {m : Nat} {st rg : Nat → Nat} (hX : Ok X) (hS : CSt X m st rg) {set t : Nat} (hs : set < 256) (hn : t ≤ 20) : CM 3 m_O_forgedFrom [.ref 8, .int (nI set), .int (nI t)] X (rN (fgN m st t set) X) := by
  refine CM_of (L := [some (.ref 8), some (.int (nI set)), some (.int (nI t)), none, none, none, none]) 4 ok_O_forgedFrom (fun _ => Nat.le_of_ble_eq_true rfl) rfl ?_
  refine J_iconst (v := nI 0) d_O_forgedFrom_0 rfl ?_
  refine J_istore_n (i := 3) (L1 := [some (.ref 8), some (.int (nI set)), some (.int (nI t)), some (.int (nI 0)), none, none, none]) d_O_forgedFrom_1 rfl (by decide) rfl ?_
  refine J_iconst (v := nI 0) d_O_forgedFrom_2 rfl ?_
  refine J_istore (L1 := [some (.ref 8), some (.int (nI set)), some (.int (nI t)), some (.int (nI 0)), some (.int (nI 0)), none, none]) d_O_forgedFrom_3 (by decide) rfl ?_
  refine lp_O_forgedFrom hX hS hn hs (by decide) (fun z5 z6 => ?_) m 0 _ _ (by omega)
  refine J_iload_n (i := 3) d_O_forgedFrom_121 rfl rfl ?_
  refine M_ir d_O_forgedFrom_122 rfl rfl ?_
  exact ⟨rfl, rfl⟩

theorem lp_O_chain {X : Mem} {m : Nat} {st rg : Nat → Nat} (hX : Ok X) (hS : CSt X m st rg) {i j t : Nat} {Q : Option Value → Mem → Prop} (ht : t ≤ 20) (hi : i < m) (hj : j < m) (kq : Q (some (.int (o8 (chN m st t i j)))) X) : ∀ (f k : Nat), k + f = 8 → fstN (chP m st t i j) k f = chN m st t i j → JM 4 m_O_chain Q 36 [some (.ref 8), some (.int (nI i)), some (.int (nI j)), some (.int (nI t)), some (.int (nI (seN m st t i k))), some (.int (nI k))] [] X := by
  have hm8 := hS.1
  intro f
  induction f with
  | zero =>
    intro k hk e
    obtain rfl : k = 8 := by omega
    rw [← show 8 = chN m st t i j from e] at kq
    refine J_iload d_O_chain_36 rfl ?_
    refine J_bipush (v := nI 8) d_O_chain_38 rfl ?_
    refine N_icmp_ge (tgt := 74) d_O_chain_40 (by decide) (by omega) (by omega) (fun c40 => ?_) (fun c40 => absurd c40 (by omega))
    refine J_iconst (v := (-1)) d_O_chain_74 rfl ?_
    refine M_ir d_O_chain_75 rfl rfl ?_
    exact kq
  | succ f ih =>
    intro k hk e
    have hse := se_lt (st := st) (n := t) hm8 (show i < 8 by omega) k
    refine J_iload d_O_chain_36 rfl ?_
    refine J_bipush (v := nI 8) d_O_chain_38 rfl ?_
    refine N_icmp_ge (tgt := 74) d_O_chain_40 (by decide) (by omega) (by omega) (fun c40 => absurd c40 (by omega)) (fun c40 => ?_)
    refine J_iload d_O_chain_43 rfl ?_
    refine J_iload_n (i := 2) d_O_chain_45 rfl rfl ?_
    refine N_ishr d_O_chain_46 (by omega) (by omega) ?_
    refine J_iconst (v := nI 1) d_O_chain_47 rfl ?_
    refine N_iand d_O_chain_48 ?_
    refine J_iconst (v := nI 1) d_O_chain_49 rfl ?_
    refine T_ne (tgt := 56) d_O_chain_50 (by decide) (fun c50 => ?_) (fun c50 => ?_)
    · refine J_iload d_O_chain_56 rfl ?_
      refine J_aload_n (i := 0) d_O_chain_58 rfl rfl ?_
      refine J_iload d_O_chain_59 rfl ?_
      refine J_iload_n (i := 3) d_O_chain_61 rfl rfl ?_
      refine CV_N (av := [.int (nI (seN m st t i k)), .int (nI t)]) d_O_chain_62 s_O_264 (M_rcv rfl (by decide) rfl) (S_O_forgedFrom hX hS (by omega) (by omega)) (by decide) rfl rfl (Nat.le_of_ble_eq_true rfl) ?_
      refine N_ior d_O_chain_65 ?_
      refine J_istore (L1 := [some (.ref 8), some (.int (nI i)), some (.int (nI j)), some (.int (nI t)), some (.int (nI ((seN m st t i k) ||| (fgN m st t (seN m st t i k))))), some (.int (nI k))]) d_O_chain_66 (by decide) rfl ?_
      refine N_iinc (a := k) (c := 1) (L1 := [some (.ref 8), some (.int (nI i)), some (.int (nI j)), some (.int (nI t)), some (.int (nI ((seN m st t i k) ||| (fgN m st t (seN m st t i k))))), some (.int (nI (k + 1)))]) d_O_chain_68 rfl rfl (by decide) rfl ?_
      refine J_goto (tgt := 36) d_O_chain_71 (by decide) ?_
      rw [fstN, if_neg (by rw [show chP m st t i j k = false from c50]; decide)] at e
      exact (ih (k + 1) (by omega) e).eq (by rw [show seN m st t i (k + 1) = nxN m st t (seN m st t i k) from rfl, ← fg_nx]) rfl rfl
    · refine J_iload d_O_chain_53 rfl ?_
      refine M_ir d_O_chain_55 rfl rfl ?_
      rw [fstN, if_pos (show chP m st t i j k = true from c50)] at e
      rw [← e, o8_lt (by omega)] at kq
      exact kq
theorem S_O_chain {X : Mem} {m : Nat} {st rg : Nat → Nat} (hX : Ok X) (hS : CSt X m st rg) {i j v : Int32} : CM 4 m_O_chain [.ref 8, .int i, .int j, .int v] X (rI (chainF m st i j v) X) := by
  refine CM_of (L := [some (.ref 8), some (.int i), some (.int j), some (.int v), none, none]) 2 ok_O_chain (fun _ => Nat.le_of_ble_eq_true rfl) rfl ?_
  refine J_aload_n (i := 0) d_O_chain_0 rfl rfl ?_
  refine J_iload_n (i := 1) d_O_chain_1 rfl rfl ?_
  refine CV_B (av := [.int i]) d_O_chain_2 s_O_166 (M_rcv rfl (by decide) rfl) (S_O_isMark hX hS) (by decide) rfl rfl (Nat.le_of_ble_eq_true rfl) ?_
  refine B_if_eq (tgt := 26) d_O_chain_5 (by decide) (fun c5 => ?_) (fun c5 => ?_)
  · refine J_iconst (v := (-1)) d_O_chain_26 rfl ?_
    refine M_ir d_O_chain_27 rfl rfl ?_
    exact ⟨by simp [chainF, c5], rfl⟩
  · refine J_aload_n (i := 0) d_O_chain_8 rfl rfl ?_
    refine J_iload_n (i := 2) d_O_chain_9 rfl rfl ?_
    refine CV_B (av := [.int j]) d_O_chain_10 s_O_166 (M_rcv rfl (by decide) rfl) (S_O_isMark hX hS) (by decide) rfl rfl (Nat.le_of_ble_eq_true rfl) ?_
    refine B_if_eq (tgt := 26) d_O_chain_13 (by decide) (fun c13 => ?_) (fun c13 => ?_)
    · refine J_iconst (v := (-1)) d_O_chain_26 rfl ?_
      refine M_ir d_O_chain_27 rfl rfl ?_
      exact ⟨by simp [chainF, c5, c13], rfl⟩
    · refine J_iload_n (i := 3) d_O_chain_16 rfl rfl ?_
      refine J_if_lt (tgt := 26) d_O_chain_17 (by decide) (fun c17 => ?_) (fun c17 => ?_)
      · refine J_iconst (v := (-1)) d_O_chain_26 rfl ?_
        refine M_ir d_O_chain_27 rfl rfl ?_
        exact ⟨by simp [chainF, c5, c13, inR_no1 c17], rfl⟩
      · refine J_iload_n (i := 3) d_O_chain_20 rfl rfl ?_
        refine J_bipush (v := nI 20) d_O_chain_21 rfl ?_
        refine J_icmp_le (tgt := 28) d_O_chain_23 (by decide) (fun c23 => ?_) (fun c23 => ?_)
        · obtain ⟨i_, hi_, rfl⟩ := mk_n hS.1 c5
          have hm8 := hS.1
          have hsti_ := (hS.2.2.1 i_ (by omega)).2
          obtain ⟨j_, hj_, rfl⟩ := mk_n hS.1 c13
          have hm8 := hS.1
          have hstj_ := (hS.2.2.1 j_ (by omega)).2
          have cR := inR_le (n := 20) (by decide) c17 c23
          obtain ⟨v_, hv_, rfl⟩ := inR_n (n := 20) cR (by decide)
          refine J_iconst (v := nI 1) d_O_chain_28 rfl ?_
          refine J_iload_n (i := 1) d_O_chain_29 rfl rfl ?_
          refine N_ishl d_O_chain_30 (by omega) ?_
          refine J_istore (L1 := [some (.ref 8), some (.int (nI i_)), some (.int (nI j_)), some (.int (nI v_)), some (.int (nI (1 <<< i_))), none]) d_O_chain_31 (by decide) rfl ?_
          refine J_iconst (v := nI 0) d_O_chain_33 rfl ?_
          refine J_istore (L1 := [some (.ref 8), some (.int (nI i_)), some (.int (nI j_)), some (.int (nI v_)), some (.int (nI (1 <<< i_))), some (.int (nI 0))]) d_O_chain_34 (by decide) rfl ?_
          exact lp_O_chain hX hS (by omega) hi_ hj_ ⟨by simp [chainF, c5, c13, cR, tn_nI (show i_ < 2147483648 by omega), tn_nI (show j_ < 2147483648 by omega), tn_nI (show v_ < 2147483648 by omega)], rfl⟩ 8 0 (by omega) rfl
        · refine J_iconst (v := (-1)) d_O_chain_26 rfl ?_
          refine M_ir d_O_chain_27 rfl rfl ?_
          exact ⟨by simp [chainF, c5, c13, inR_gt (n := 20) (by decide) c17 c23], rfl⟩

theorem lp_R_chain_in {d : Nat} {Q : Option Value → Mem → Prop} {X : Mem} {m : Nat} {st rg : Nat → Nat} (hX : Ok X) (hS : RSt X m st rg) {a b c t set y i : Nat} (ht : t ≤ 20) (hs : set < 256) (hy : y < 256) (hi : i < m) (hd : 4 ≤ d) (kx : JM d m_R_chain Q 140 [some (.ref 244), some (.int (nI a)), some (.int (nI b)), some (.int (nI t)), some (.int (nI set)), some (.int (nI c)), some (.int (nI (itr (fun j x => if set.testBit i && mdB (st i) (st j) t then x ||| 1 <<< j else x) y m))), some (.int (nI i)), some (.int (nI m))] [] X) : ∀ (n j : Nat), j + n = m → JM d m_R_chain Q 76 [some (.ref 244), some (.int (nI a)), some (.int (nI b)), some (.int (nI t)), some (.int (nI set)), some (.int (nI c)), some (.int (nI (itr (fun j x => if set.testBit i && mdB (st i) (st j) t then x ||| 1 <<< j else x) y j))), some (.int (nI i)), some (.int (nI j))] [] X := by
  have hm8 := hS.1
  have hsti := (hS.2.2.1 i (by omega)).2
  intro n
  induction n with
  | zero =>
    intro j hi
    obtain rfl : m = j := by omega
    refine J_iload d_R_chain_76 rfl ?_
    refine J_aload_n (i := 0) d_R_chain_78 rfl rfl ?_
    refine M_getR (b := 245) d_R_chain_79 f_R_7 rfl rfl rfl ?_
    refine J_iconst (v := nI 0) d_R_chain_82 rfl ?_
    refine N_iald (x := (nI m)) d_R_chain_83 rfl (by omega) (ltL hX (a := 245) (n := 1217) (by decide) rfl (by omega)) hS.2.1 ?_
    refine N_icmp_ge (tgt := 140) d_R_chain_84 (by decide) (by omega) (by omega) (fun c84 => ?_) (fun c84 => absurd c84 (by omega))
    exact kx
  | succ n ih =>
    intro j hi
    generalize hx : (itr (fun j x => if set.testBit i && mdB (st i) (st j) t then x ||| 1 <<< j else x) y j) = x
    have hx5 : x < 256 := by rw [← hx]; exact fi_lt hm8 hy j (by omega)
    have hstj := (hS.2.2.1 j (by omega)).2
    refine J_iload d_R_chain_76 rfl ?_
    refine J_aload_n (i := 0) d_R_chain_78 rfl rfl ?_
    refine M_getR (b := 245) d_R_chain_79 f_R_7 rfl rfl rfl ?_
    refine J_iconst (v := nI 0) d_R_chain_82 rfl ?_
    refine N_iald (x := (nI m)) d_R_chain_83 rfl (by omega) (ltL hX (a := 245) (n := 1217) (by decide) rfl (by omega)) hS.2.1 ?_
    refine N_icmp_ge (tgt := 140) d_R_chain_84 (by decide) (by omega) (by omega) (fun c84 => absurd c84 (by omega)) (fun c84 => ?_)
    refine J_iload d_R_chain_87 rfl ?_
    refine J_iload d_R_chain_89 rfl ?_
    refine CS_B (av := [.int (nI set), .int (nI i)]) d_R_chain_91 s_R_94 (S_R_has (by first | omega | (simp only [*]; omega)) (by first | omega | exact Nat.lt_trans one_lt (by decide) | exact Nat.lt_trans oth_lt (by decide))) (by omega) rfl rfl (Nat.le_of_ble_eq_true rfl) ?_
    refine B_if_eq (tgt := 134) d_R_chain_94 (by decide) (fun c94 => ?_) (fun c94 => ?_)
    · refine N_iinc (a := j) (c := 1) (L1 := [some (.ref 244), some (.int (nI a)), some (.int (nI b)), some (.int (nI t)), some (.int (nI set)), some (.int (nI c)), some (.int (nI x)), some (.int (nI i)), some (.int (nI (j + 1)))]) d_R_chain_134 rfl rfl (by decide) rfl ?_
      refine J_goto (tgt := 76) d_R_chain_137 (by decide) ?_
      exact (ih (j + 1) (by omega)).eq (by rw [show itr (fun j x => if set.testBit i && mdB (st i) (st j) t then x ||| 1 <<< j else x) y (j + 1) = x from itr_g hx (by show (if _ then _ else _) = _; simp [c94])]) rfl rfl
    · refine J_aload_n (i := 0) d_R_chain_97 rfl rfl ?_
      refine J_aload_n (i := 0) d_R_chain_98 rfl rfl ?_
      refine M_getR (b := 245) d_R_chain_99 f_R_7 rfl rfl rfl ?_
      refine J_bipush (v := nI 10) d_R_chain_102 rfl ?_
      refine J_iload d_R_chain_104 rfl ?_
      refine N_iadd d_R_chain_106 ?_
      refine N_iald (x := (nI (st i))) d_R_chain_107 rfl (by omega) (ltL hX (a := 245) (n := 1217) (by decide) rfl (by omega)) (hS.2.2.1 i (by omega)).1 ?_
      refine J_aload_n (i := 0) d_R_chain_108 rfl rfl ?_
      refine M_getR (b := 245) d_R_chain_109 f_R_7 rfl rfl rfl ?_
      refine J_bipush (v := nI 10) d_R_chain_112 rfl ?_
      refine J_iload d_R_chain_114 rfl ?_
      refine N_iadd d_R_chain_116 ?_
      refine N_iald (x := (nI (st j))) d_R_chain_117 rfl (by omega) (ltL hX (a := 245) (n := 1217) (by decide) rfl (by omega)) (hS.2.2.1 j (by omega)).1 ?_
      refine J_iload_n (i := 3) d_R_chain_118 rfl rfl ?_
      refine CV_B (av := [.int (nI (st i)), .int (nI (st j)), .int (nI t)]) d_R_chain_119 s_R_464 (M_rcv rfl (by decide) rfl) (S_R_isMade hX (by omega) (by omega) (by omega)) (by omega) rfl rfl (Nat.le_of_ble_eq_true rfl) ?_
      refine B_if_eq (tgt := 134) d_R_chain_122 (by decide) (fun c122 => ?_) (fun c122 => ?_)
      · refine N_iinc (a := j) (c := 1) (L1 := [some (.ref 244), some (.int (nI a)), some (.int (nI b)), some (.int (nI t)), some (.int (nI set)), some (.int (nI c)), some (.int (nI x)), some (.int (nI i)), some (.int (nI (j + 1)))]) d_R_chain_134 rfl rfl (by decide) rfl ?_
        refine J_goto (tgt := 76) d_R_chain_137 (by decide) ?_
        exact (ih (j + 1) (by omega)).eq (by rw [show itr (fun j x => if set.testBit i && mdB (st i) (st j) t then x ||| 1 <<< j else x) y (j + 1) = x from itr_g hx (by show (if _ then _ else _) = _; simp [c94, c122])]) rfl rfl
      · refine J_iload d_R_chain_125 rfl ?_
        refine J_iconst (v := nI 1) d_R_chain_127 rfl ?_
        refine J_iload d_R_chain_128 rfl ?_
        refine N_ishl d_R_chain_130 (by omega) ?_
        refine N_ior d_R_chain_131 ?_
        refine N_nm (fun v132 hv132 => ?_)
        refine J_istore (L1 := [some (.ref 244), some (.int (nI a)), some (.int (nI b)), some (.int (nI t)), some (.int (nI set)), some (.int (nI c)), some (.int (nI v132)), some (.int (nI i)), some (.int (nI j))]) d_R_chain_132 (by decide) rfl ?_
        refine N_iinc (a := j) (c := 1) (L1 := [some (.ref 244), some (.int (nI a)), some (.int (nI b)), some (.int (nI t)), some (.int (nI set)), some (.int (nI c)), some (.int (nI v132)), some (.int (nI i)), some (.int (nI (j + 1)))]) d_R_chain_134 rfl rfl (by decide) rfl ?_
        refine J_goto (tgt := 76) d_R_chain_137 (by decide) ?_
        exact (ih (j + 1) (by omega)).eq (by rw [show itr (fun j x => if set.testBit i && mdB (st i) (st j) t then x ||| 1 <<< j else x) y (j + 1) = v132 from itr_g hx (by show (if _ then _ else _) = _; simp [c94, c122, hv132])]) rfl rfl

theorem lp_R_chain_out {d : Nat} {Q : Option Value → Mem → Prop} {X : Mem} {m : Nat} {st rg : Nat → Nat} (hX : Ok X) (hS : RSt X m st rg) {a b c t set : Nat} (ht : t ≤ 20) (hs : set < 256) (hd : 4 ≤ d) (kx : ∀ z8 : Option Value, JM d m_R_chain Q 146 [some (.ref 244), some (.int (nI a)), some (.int (nI b)), some (.int (nI t)), some (.int (nI set)), some (.int (nI c)), some (.int (nI (itr (fun i x => itr (fun j x => if set.testBit i && mdB (st i) (st j) t then x ||| 1 <<< j else x) x m) set m))), some (.int (nI m)), z8] [] X) : ∀ (n i : Nat) (z8 : Option Value), i + n = m → JM d m_R_chain Q 62 [some (.ref 244), some (.int (nI a)), some (.int (nI b)), some (.int (nI t)), some (.int (nI set)), some (.int (nI c)), some (.int (nI (itr (fun i x => itr (fun j x => if set.testBit i && mdB (st i) (st j) t then x ||| 1 <<< j else x) x m) set i))), some (.int (nI i)), z8] [] X := by
  have hm8 := hS.1
  intro n
  induction n with
  | zero =>
    intro i z8 hi
    obtain rfl : m = i := by omega
    refine J_iload d_R_chain_62 rfl ?_
    refine J_aload_n (i := 0) d_R_chain_64 rfl rfl ?_
    refine M_getR (b := 245) d_R_chain_65 f_R_7 rfl rfl rfl ?_
    refine J_iconst (v := nI 0) d_R_chain_68 rfl ?_
    refine N_iald (x := (nI m)) d_R_chain_69 rfl (by omega) (ltL hX (a := 245) (n := 1217) (by decide) rfl (by omega)) hS.2.1 ?_
    refine N_icmp_ge (tgt := 146) d_R_chain_70 (by decide) (by omega) (by omega) (fun c70 => ?_) (fun c70 => absurd c70 (by omega))
    exact kx _
  | succ n ih =>
    intro i z8 hi
    refine J_iload d_R_chain_62 rfl ?_
    refine J_aload_n (i := 0) d_R_chain_64 rfl rfl ?_
    refine M_getR (b := 245) d_R_chain_65 f_R_7 rfl rfl rfl ?_
    refine J_iconst (v := nI 0) d_R_chain_68 rfl ?_
    refine N_iald (x := (nI m)) d_R_chain_69 rfl (by omega) (ltL hX (a := 245) (n := 1217) (by decide) rfl (by omega)) hS.2.1 ?_
    refine N_icmp_ge (tgt := 146) d_R_chain_70 (by decide) (by omega) (by omega) (fun c70 => absurd c70 (by omega)) (fun c70 => ?_)
    refine J_iconst (v := nI 0) d_R_chain_73 rfl ?_
    refine J_istore (L1 := [some (.ref 244), some (.int (nI a)), some (.int (nI b)), some (.int (nI t)), some (.int (nI set)), some (.int (nI c)), some (.int (nI (itr (fun i x => itr (fun j x => if set.testBit i && mdB (st i) (st j) t then x ||| 1 <<< j else x) x m) set i))), some (.int (nI i)), some (.int (nI 0))]) d_R_chain_74 (by decide) rfl ?_
    refine lp_R_chain_in hX hS ht hs (fo_lt hm8 hs i) (by omega) hd ?_ m 0 (by omega)
    refine N_iinc (a := i) (c := 1) (L1 := [some (.ref 244), some (.int (nI a)), some (.int (nI b)), some (.int (nI t)), some (.int (nI set)), some (.int (nI c)), some (.int (nI (itr (fun i x => itr (fun j x => if set.testBit i && mdB (st i) (st j) t then x ||| 1 <<< j else x) x m) set (i + 1)))), some (.int (nI (i + 1))), some (.int (nI m))]) d_R_chain_140 rfl rfl (by decide) rfl ?_
    refine J_goto (tgt := 62) d_R_chain_143 (by decide) ?_
    exact ih (i + 1) _ (by omega)

theorem lp_R_chain {X : Mem} {m : Nat} {st rg : Nat → Nat} (hX : Ok X) (hS : RSt X m st rg) {i j t : Nat} {Q : Option Value → Mem → Prop} (ht : t ≤ 20) (hi : i < m) (hj : j < m) (kq : Q (some (.int (o8 (chN m st t i j)))) X) : ∀ (f k : Nat) (z6 z7 z8 : Option Value), k + f = 8 → fstN (chP m st t i j) k f = chN m st t i j → JM 4 m_R_chain Q 36 [some (.ref 244), some (.int (nI i)), some (.int (nI j)), some (.int (nI t)), some (.int (nI (seN m st t i k))), some (.int (nI k)), z6, z7, z8] [] X := by
  have hm8 := hS.1
  intro f
  induction f with
  | zero =>
    intro k z6 z7 z8 hk e
    obtain rfl : k = 8 := by omega
    rw [← show 8 = chN m st t i j from e] at kq
    refine J_iload d_R_chain_36 rfl ?_
    refine J_bipush (v := nI 8) d_R_chain_38 rfl ?_
    refine N_icmp_ge (tgt := 156) d_R_chain_40 (by decide) (by omega) (by omega) (fun c40 => ?_) (fun c40 => absurd c40 (by omega))
    refine J_iconst (v := (-1)) d_R_chain_156 rfl ?_
    refine M_ir d_R_chain_157 rfl rfl ?_
    exact kq
  | succ f ih =>
    intro k z6 z7 z8 hk e
    have hse := se_lt (st := st) (n := t) hm8 (show i < 8 by omega) k
    refine J_iload d_R_chain_36 rfl ?_
    refine J_bipush (v := nI 8) d_R_chain_38 rfl ?_
    refine N_icmp_ge (tgt := 156) d_R_chain_40 (by decide) (by omega) (by omega) (fun c40 => absurd c40 (by omega)) (fun c40 => ?_)
    refine J_iload d_R_chain_43 rfl ?_
    refine J_iload_n (i := 2) d_R_chain_45 rfl rfl ?_
    refine CS_B (av := [.int (nI (seN m st t i k)), .int (nI j)]) d_R_chain_46 s_R_94 (S_R_has (by first | omega | (simp only [*]; omega)) (by first | omega | exact Nat.lt_trans one_lt (by decide) | exact Nat.lt_trans oth_lt (by decide))) (by decide) rfl rfl (Nat.le_of_ble_eq_true rfl) ?_
    refine B_if_eq (tgt := 55) d_R_chain_49 (by decide) (fun c49 => ?_) (fun c49 => ?_)
    · refine J_iload d_R_chain_55 rfl ?_
      refine J_istore (L1 := [some (.ref 244), some (.int (nI i)), some (.int (nI j)), some (.int (nI t)), some (.int (nI (seN m st t i k))), some (.int (nI k)), some (.int (nI (seN m st t i k))), z7, z8]) d_R_chain_57 (by decide) rfl ?_
      refine J_iconst (v := nI 0) d_R_chain_59 rfl ?_
      refine J_istore (L1 := [some (.ref 244), some (.int (nI i)), some (.int (nI j)), some (.int (nI t)), some (.int (nI (seN m st t i k))), some (.int (nI k)), some (.int (nI (seN m st t i k))), some (.int (nI 0)), z8]) d_R_chain_60 (by decide) rfl ?_
      rw [fstN, if_neg (by rw [show chP m st t i j k = false from c49]; decide)] at e
      refine lp_R_chain_out hX hS ht hse (by decide) (fun z8 => ?_) m 0 _ (by omega)
      refine J_iload d_R_chain_146 rfl ?_
      refine J_istore (L1 := [some (.ref 244), some (.int (nI i)), some (.int (nI j)), some (.int (nI t)), some (.int (nI (seN m st t i (k + 1)))), some (.int (nI k)), some (.int (nI (seN m st t i (k + 1)))), some (.int (nI m)), z8]) d_R_chain_148 (by decide) rfl ?_
      refine N_iinc (a := k) (c := 1) (L1 := [some (.ref 244), some (.int (nI i)), some (.int (nI j)), some (.int (nI t)), some (.int (nI (seN m st t i (k + 1)))), some (.int (nI (k + 1))), some (.int (nI (seN m st t i (k + 1)))), some (.int (nI m)), z8]) d_R_chain_150 rfl rfl (by decide) rfl ?_
      refine J_goto (tgt := 36) d_R_chain_153 (by decide) ?_
      exact ih (k + 1) _ _ _ (by omega) e
    · refine J_iload d_R_chain_52 rfl ?_
      refine M_ir d_R_chain_54 rfl rfl ?_
      rw [fstN, if_pos (show chP m st t i j k = true from c49)] at e
      rw [← e, o8_lt (by omega)] at kq
      exact kq
theorem S_R_chain {X : Mem} {m : Nat} {st rg : Nat → Nat} (hX : Ok X) (hS : RSt X m st rg) {i j v : Int32} : CM 4 m_R_chain [.ref 244, .int i, .int j, .int v] X (rI (chainF m st i j v) X) := by
  refine CM_of (L := [some (.ref 244), some (.int i), some (.int j), some (.int v), none, none, none, none, none]) 5 ok_R_chain (fun _ => Nat.le_of_ble_eq_true rfl) rfl ?_
  refine J_aload_n (i := 0) d_R_chain_0 rfl rfl ?_
  refine J_iload_n (i := 1) d_R_chain_1 rfl rfl ?_
  refine CV_B (av := [.int i]) d_R_chain_2 s_R_379 (M_rcv rfl (by decide) rfl) (S_R_isMark hX hS) (by decide) rfl rfl (Nat.le_of_ble_eq_true rfl) ?_
  refine B_if_eq (tgt := 26) d_R_chain_5 (by decide) (fun c5 => ?_) (fun c5 => ?_)
  · refine J_iconst (v := (-1)) d_R_chain_26 rfl ?_
    refine M_ir d_R_chain_27 rfl rfl ?_
    exact ⟨by simp [chainF, c5], rfl⟩
  · refine J_aload_n (i := 0) d_R_chain_8 rfl rfl ?_
    refine J_iload_n (i := 2) d_R_chain_9 rfl rfl ?_
    refine CV_B (av := [.int j]) d_R_chain_10 s_R_379 (M_rcv rfl (by decide) rfl) (S_R_isMark hX hS) (by decide) rfl rfl (Nat.le_of_ble_eq_true rfl) ?_
    refine B_if_eq (tgt := 26) d_R_chain_13 (by decide) (fun c13 => ?_) (fun c13 => ?_)
    · refine J_iconst (v := (-1)) d_R_chain_26 rfl ?_
      refine M_ir d_R_chain_27 rfl rfl ?_
      exact ⟨by simp [chainF, c5, c13], rfl⟩
    · refine J_iload_n (i := 3) d_R_chain_16 rfl rfl ?_
      refine J_iconst (v := nI 0) d_R_chain_17 rfl ?_
      refine J_bipush (v := nI 20) d_R_chain_18 rfl ?_
      refine CS_B (av := [.int v, .int (nI 0), .int (nI 20)]) d_R_chain_20 s_R_89 (S_R_isIn) (by decide) rfl rfl (Nat.le_of_ble_eq_true rfl) ?_
      refine B_if_ne (tgt := 28) d_R_chain_23 (by decide) (fun c23 => ?_) (fun c23 => ?_)
      · obtain ⟨i_, hi_, rfl⟩ := mk_n hS.1 c5
        have hm8 := hS.1
        have hsti_ := (hS.2.2.1 i_ (by omega)).2
        obtain ⟨j_, hj_, rfl⟩ := mk_n hS.1 c13
        have hm8 := hS.1
        have hstj_ := (hS.2.2.1 j_ (by omega)).2
        obtain ⟨v_, hv_, rfl⟩ := inR_n (n := 20) c23 (by decide)
        refine J_iconst (v := nI 1) d_R_chain_28 rfl ?_
        refine J_iload_n (i := 1) d_R_chain_29 rfl rfl ?_
        refine N_ishl d_R_chain_30 (by omega) ?_
        refine J_istore (L1 := [some (.ref 244), some (.int (nI i_)), some (.int (nI j_)), some (.int (nI v_)), some (.int (nI (1 <<< i_))), none, none, none, none]) d_R_chain_31 (by decide) rfl ?_
        refine J_iconst (v := nI 0) d_R_chain_33 rfl ?_
        refine J_istore (L1 := [some (.ref 244), some (.int (nI i_)), some (.int (nI j_)), some (.int (nI v_)), some (.int (nI (1 <<< i_))), some (.int (nI 0)), none, none, none]) d_R_chain_34 (by decide) rfl ?_
        exact lp_R_chain hX hS (by omega) hi_ hj_ ⟨by simp [chainF, c5, c13, show inR (nI v_) 20 = true from c23, tn_nI (show i_ < 2147483648 by omega), tn_nI (show j_ < 2147483648 by omega), tn_nI (show v_ < 2147483648 by omega)], rfl⟩ 8 0 _ _ _ (by omega) rfl
      · refine J_iconst (v := (-1)) d_R_chain_26 rfl ?_
        refine M_ir d_R_chain_27 rfl rfl ?_
        exact ⟨by simp [chainF, c5, c13, show inR v 20 = false from c23], rfl⟩

