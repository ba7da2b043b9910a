theorem rds {s k x i : Nat} (e : x.testBit i = true) : (((fun k x => if s.testBit k && (x.testBit (ONEL.getD k 0) || x.testBit (OTHL.getD k 0)) then x ||| (1 <<< ONEL.getD k 0 ||| 1 <<< OTHL.getD k 0) else x) : Nat → Nat → Nat) k x).testBit i = true := by
  dsimp only
  split
  · rw [Nat.testBit_or, e]; rfl
  · exact e
theorem rdi_mono {s q : Nat} {n i : Nat} : ∀ m, (itr (fun k x => if s.testBit k && (x.testBit (ONEL.getD k 0) || x.testBit (OTHL.getD k 0)) then x ||| (1 <<< ONEL.getD k 0 ||| 1 <<< OTHL.getD k 0) else x) q n).testBit i = true → (itr (fun k x => if s.testBit k && (x.testBit (ONEL.getD k 0) || x.testBit (OTHL.getD k 0)) then x ||| (1 <<< ONEL.getD k 0 ||| 1 <<< OTHL.getD k 0) else x) q (n + m)).testBit i = true
  | 0, h => h
  | m + 1, h => by
    exact rds (rdi_mono m h)
theorem rd_in {s q k : Nat} (hk : k < 20) (hb : s.testBit k = true) (ht : (q.testBit (ONEL.getD k 0) || q.testBit (OTHL.getD k 0)) = true) {i : Nat} (hi : (POL.getD k 0).testBit i = true) : (rd s q).testBit i = true := by
  have m1 : ∀ j, q.testBit j = true → (itr (fun k x => if s.testBit k && (x.testBit (ONEL.getD k 0) || x.testBit (OTHL.getD k 0)) then x ||| (1 <<< ONEL.getD k 0 ||| 1 <<< OTHL.getD k 0) else x) q k).testBit j = true := fun j hj => by
    have := rdi_mono (s := s) (q := q) (n := 0) k hj
    rwa [Nat.zero_add] at this
  have ht' : ((itr (fun k x => if s.testBit k && (x.testBit (ONEL.getD k 0) || x.testBit (OTHL.getD k 0)) then x ||| (1 <<< ONEL.getD k 0 ||| 1 <<< OTHL.getD k 0) else x) q k).testBit (ONEL.getD k 0) || (itr (fun k x => if s.testBit k && (x.testBit (ONEL.getD k 0) || x.testBit (OTHL.getD k 0)) then x ||| (1 <<< ONEL.getD k 0 ||| 1 <<< OTHL.getD k 0) else x) q k).testBit (OTHL.getD k 0)) = true := by
    rw [Bool.or_eq_true] at ht ⊢
    exact ht.imp (m1 _) (m1 _)
  have e : (itr (fun k x => if s.testBit k && (x.testBit (ONEL.getD k 0) || x.testBit (OTHL.getD k 0)) then x ||| (1 <<< ONEL.getD k 0 ||| 1 <<< OTHL.getD k 0) else x) q (k + 1)).testBit i = true := by
    show (if _ then _ else _ : Nat).testBit i = true
    rw [hb, ht', Bool.and_self, if_pos rfl, Nat.testBit_or, ← po_eq k hk, hi, Bool.or_true]
  have := rdi_mono (s := s) (q := q) (20 - (k + 1)) e
  rwa [show k + 1 + (20 - (k + 1)) = 20 by omega] at this
theorem and_all {a b : Nat} (h : ∀ i, a.testBit i = true → b.testBit i = true) : a &&& b = a := by
  apply Nat.eq_of_testBit_eq
  intro i
  rw [Nat.testBit_and]
  cases e : a.testBit i
  · rfl
  · rw [h i e]; rfl
theorem po_pcs {s p k : Nat} (hp : p < 9) (hk : k < 20) (hb : s.testBit k = true) : POL.getD k 0 &&& pcs s p = 0 ∨ POL.getD k 0 &&& pcs s p = POL.getD k 0 := by
  cases ht : ((pcs s p).testBit (ONEL.getD k 0) || (pcs s p).testBit (OTHL.getD k 0))
  · exact Or.inl ((po_and k hk _).mpr ht)
  · refine Or.inr (and_all fun i hi => ?_)
    have := rd_in hk hb ht hi
    rwa [pcs_fix hp] at this
theorem pcn_xor : ∀ f a b, pcn f (a ^^^ b) % 2 = (pcn f a + pcn f b) % 2
  | 0, _, _ => rfl
  | f + 1, a, b => by
    have ih := pcn_xor f (a / 2) (b / 2)
    rw [pcn, pcn, pcn, Nat.xor_div_two, mod2_tb (a ^^^ b), mod2_tb a, mod2_tb b, Nat.testBit_xor]
    cases a.testBit 0 <;> cases b.testBit 0 <;> simp <;> omega
theorem po_even : ∀ k, k < 20 → bc (POL.getD k 0) % 2 = 0 := by decide
theorem oe_step {b : Bool} {x k Q : Nat} (hk : k < 20) (h : pcn 32 (x &&& Q) % 2 = 0) (g : b = true → POL.getD k 0 &&& Q = 0 ∨ POL.getD k 0 &&& Q = POL.getD k 0) : pcn 32 ((if b = true then x ^^^ POL.getD k 0 else x) &&& Q) % 2 = 0 := by
  cases b
  · rw [if_neg Bool.false_ne_true]
    exact h
  · rw [if_pos rfl, Nat.and_xor_distrib_right, pcn_xor, Nat.add_mod, h]
    rcases g rfl with e | e
    · rw [e, pcn_0]
    · rw [e, show pcn 32 (POL.getD k 0) % 2 = 0 from po_even k hk]
theorem odd_even {s p : Nat} (hp : p < 9) : bc (odd s &&& pcs s p) % 2 = 0 := by
  rw [← odx_eq s]
  refine itr_invN (fun _ (x : Nat) => bc (x &&& pcs s p) % 2 = 0) 20 (by rw [Nat.zero_and]; rfl) (fun n x hn hx => ?_) 20 (Nat.le_refl 20)
  exact oe_step hn hx (fun hb => po_pcs hp hn hb)
theorem pcn_pos : ∀ f q, 0 < q → q < 2 ^ f → 0 < pcn f q
  | 0, q, h, hq => by omega
  | f + 1, q, h, hq => by
    rw [pcn]
    rcases Nat.mod_two_eq_zero_or_one q with e | e
    · have := pcn_pos f (q / 2) (by omega) (by rw [Nat.pow_succ] at hq; omega)
      omega
    · omega
theorem pens_one {s p : Nat} (hp : p < 9) : max 1 (bc (odd s &&& pcs s p) / 2) = if odd s &&& pcs s p = 0 then 1 else bc (odd s &&& pcs s p) / 2 := by
  refine pens_max s _ (fun h => ?_)
  have h1 := pcn_pos 32 (odd s &&& pcs s p) (by omega) (Nat.lt_trans (and_lt (odd_lt s)) (by decide))
  have g : ∀ b : Nat, 0 < b → b % 2 = 0 → 2 ≤ b := by omega
  exact g _ h1 (odd_even hp)
theorem lp_K_countPens {d : Nat} {Q : Option Value → Mem → Prop} {X : Mem} {s : Nat} (hX : Ok X) (hs : s < 1048576) (hd : 1 ≤ d) (kx : ∀ z5 : Option Value, JM d m_K_countPens Q 69 [some (.int (nI s)), some (.int (nI ((itr (fun p (x : Nat × Nat) => if x.1.testBit p then (andn x.1 (pcs s p), x.2 + if odd s &&& pcs s p = 0 then 1 else bc (odd s &&& pcs s p) / 2) else x) (pts s, 0) 9).2))), some (.int (nI (odd s))), some (.int (nI ((itr (fun p (x : Nat × Nat) => if x.1.testBit p then (andn x.1 (pcs s p), x.2 + if odd s &&& pcs s p = 0 then 1 else bc (odd s &&& pcs s p) / 2) else x) (pts s, 0) 9).1))), some (.int (nI 9)), z5] [] X) : ∀ (n i : Nat) (z5 : Option Value), i + n = 9 → JM d m_K_countPens Q 15 [some (.int (nI s)), some (.int (nI ((itr (fun p (x : Nat × Nat) => if x.1.testBit p then (andn x.1 (pcs s p), x.2 + if odd s &&& pcs s p = 0 then 1 else bc (odd s &&& pcs s p) / 2) else x) (pts s, 0) i).2))), some (.int (nI (odd s))), some (.int (nI ((itr (fun p (x : Nat × Nat) => if x.1.testBit p then (andn x.1 (pcs s p), x.2 + if odd s &&& pcs s p = 0 then 1 else bc (odd s &&& pcs s p) / 2) else x) (pts s, 0) i).1))), some (.int (nI i)), z5] [] X := by
  intro n
  induction n with
  | zero =>
    intro i z5 hi
    obtain rfl : i = 9 := by omega
    refine J_iload d_K_countPens_15 rfl ?_
    refine J_bipush (v := nI 9) d_K_countPens_17 rfl ?_
    refine N_icmp_ge (tgt := 69) d_K_countPens_19 (by decide) (by omega) (by omega) (fun c19 => ?_) (fun c19 => absurd c19 (by omega))
    exact kx _
  | succ n ih =>
    intro i z5 hi
    generalize hx : (itr (fun p (x : Nat × Nat) => if x.1.testBit p then (andn x.1 (pcs s p), x.2 + if odd s &&& pcs s p = 0 then 1 else bc (odd s &&& pcs s p) / 2) else x) (pts s, 0) i) = x
    have hx5 : x.1 < 2147483648 := by rw [← hx]; exact Nat.lt_trans (pens_fst i) (by decide)
    refine J_iload d_K_countPens_15 rfl ?_
    refine J_bipush (v := nI 9) d_K_countPens_17 rfl ?_
    refine N_icmp_ge (tgt := 69) d_K_countPens_19 (by decide) (by omega) (by omega) (fun c19 => absurd c19 (by omega)) (fun c19 => ?_)
    refine J_iload_n (i := 3) d_K_countPens_22 rfl rfl ?_
    refine J_iload d_K_countPens_23 rfl ?_
    refine N_ishr d_K_countPens_25 (by omega) (by omega) ?_
    refine J_iconst (v := nI 1) d_K_countPens_26 rfl ?_
    refine N_iand d_K_countPens_27 ?_
    refine J_iconst (v := nI 1) d_K_countPens_28 rfl ?_
    refine T_ne (tgt := 63) d_K_countPens_29 (by decide) (fun c29 => ?_) (fun c29 => ?_)
    · refine N_iinc (a := i) (c := 1) (L1 := [some (.int (nI s)), some (.int (nI x.2)), some (.int (nI (odd s))), some (.int (nI x.1)), some (.int (nI (i + 1))), z5]) d_K_countPens_63 rfl rfl (by decide) rfl ?_
      refine J_goto (tgt := 15) d_K_countPens_66 (by decide) ?_
      exact (ih (i + 1) _ (by omega)).eq (by rw [show itr (fun p (x : Nat × Nat) => if x.1.testBit p then (andn x.1 (pcs s p), x.2 + if odd s &&& pcs s p = 0 then 1 else bc (odd s &&& pcs s p) / 2) else x) (pts s, 0) (i + 1) = (x.1, x.2) from itr_g hx (by show (if _ then _ else _) = _; simp only [c29]; rfl)]) rfl rfl
    · refine J_iload d_K_countPens_32 rfl ?_
      refine J_iload_n (i := 0) d_K_countPens_34 rfl rfl ?_
      refine CS_N (av := [.int (nI i), .int (nI s)]) d_K_countPens_35 s_K_22 (S_K_joinedWith hX (by omega) (by omega)) (by omega) rfl rfl (Nat.le_of_ble_eq_true rfl) ?_
      refine J_istore (L1 := [some (.int (nI s)), some (.int (nI x.2)), some (.int (nI (odd s))), some (.int (nI x.1)), some (.int (nI i)), some (.int (nI (pcs s i)))]) d_K_countPens_38 (by decide) rfl ?_
      refine J_iload_n (i := 3) d_K_countPens_40 rfl rfl ?_
      refine J_iload d_K_countPens_41 rfl ?_
      refine J_iconst (v := (-1)) d_K_countPens_43 rfl ?_
      refine J_ixor d_K_countPens_44 ?_
      refine J_iand d_K_countPens_45 ?_
      refine I_ton (n := andn x.1 (pcs s i)) (nI_andn x.1 (pcs s i)) ?_
      refine N_nm (fun v46 hv46 => ?_)
      refine J_istore_n (i := 3) (L1 := [some (.int (nI s)), some (.int (nI x.2)), some (.int (nI (odd s))), some (.int (nI v46)), some (.int (nI i)), some (.int (nI (pcs s i)))]) d_K_countPens_46 rfl (by decide) rfl ?_
      refine J_iload_n (i := 1) d_K_countPens_47 rfl rfl ?_
      refine J_iconst (v := nI 1) d_K_countPens_48 rfl ?_
      refine J_iload_n (i := 2) d_K_countPens_49 rfl rfl ?_
      refine J_iload d_K_countPens_50 rfl ?_
      refine N_iand d_K_countPens_52 ?_
      refine CS_N (av := [.int (nI ((odd s) &&& (pcs s i)))]) d_K_countPens_53 s_K_26 (S_bitCount (and_lt (Nat.lt_trans (odd_lt s) (by decide)))) (by omega) rfl rfl (Nat.le_of_ble_eq_true rfl) ?_
      refine J_iconst (v := nI 2) d_K_countPens_56 rfl ?_
      refine N_idiv d_K_countPens_57 (by first | omega | exact Nat.lt_of_le_of_lt (bc_le _) (by decide)) (by first | omega | exact Nat.lt_of_le_of_lt (bc_le _) (by decide)) (by first | omega | exact Nat.lt_of_le_of_lt (bc_le _) (by decide)) ?_
      refine J_mmax d_K_countPens_58 w_K_37 w_math_max_s w_mathInit w_math_max_c (by omega) (Nat.le_of_ble_eq_true rfl) ?_
      refine I_ton (n := max 1 ((bc ((odd s) &&& (pcs s i))) / 2)) (nI_max (by first | omega | exact Nat.lt_of_le_of_lt (Nat.div_le_self _ _) (Nat.lt_of_le_of_lt (bc_le _) (by decide))) (by first | omega | exact Nat.lt_of_le_of_lt (Nat.div_le_self _ _) (Nat.lt_of_le_of_lt (bc_le _) (by decide)))) ?_
      refine N_iadd d_K_countPens_61 ?_
      refine N_nm (fun v62 hv62 => ?_)
      refine J_istore_n (i := 1) (L1 := [some (.int (nI s)), some (.int (nI v62)), some (.int (nI (odd s))), some (.int (nI v46)), some (.int (nI i)), some (.int (nI (pcs s i)))]) d_K_countPens_62 rfl (by decide) rfl ?_
      refine N_iinc (a := i) (c := 1) (L1 := [some (.int (nI s)), some (.int (nI v62)), some (.int (nI (odd s))), some (.int (nI v46)), some (.int (nI (i + 1))), some (.int (nI (pcs s i)))]) d_K_countPens_63 rfl rfl (by decide) rfl ?_
      refine J_goto (tgt := 15) d_K_countPens_66 (by decide) ?_
      exact (ih (i + 1) _ (by omega)).eq (by rw [show itr (fun p (x : Nat × Nat) => if x.1.testBit p then (andn x.1 (pcs s p), x.2 + if odd s &&& pcs s p = 0 then 1 else bc (odd s &&& pcs s p) / 2) else x) (pts s, 0) (i + 1) = (v46, v62) from itr_g hx (by show (if _ then _ else _) = _; rw [c29, if_pos rfl, hv46, hv62, pens_one (by omega)])]) rfl rfl

theorem S_K_countPens {X : Mem} {s : Nat} (hX : Ok X) (hs : s < 1048576) : CM 1 m_K_countPens [.int (nI s)] X (rN (pens s) X) := by
  refine CM_of (L := [some (.int (nI s)), none, none, none, none, none]) 5 ok_K_countPens (fun _ => Nat.le_of_ble_eq_true rfl) rfl ?_
  refine J_iconst (v := nI 0) d_K_countPens_0 rfl ?_
  refine J_istore_n (i := 1) (L1 := [some (.int (nI s)), some (.int (nI 0)), none, none, none, none]) d_K_countPens_1 rfl (by decide) rfl ?_
  refine J_iload_n (i := 0) d_K_countPens_2 rfl rfl ?_
  refine CS_N (av := [.int (nI s)]) d_K_countPens_3 s_K_34 (S_K_oddPoints hX (by omega)) (by decide) rfl rfl (Nat.le_of_ble_eq_true rfl) ?_
  refine J_istore_n (i := 2) (L1 := [some (.int (nI s)), some (.int (nI 0)), some (.int (nI (odd s))), none, none, none]) d_K_countPens_6 rfl (by decide) rfl ?_
  refine J_iload_n (i := 0) d_K_countPens_7 rfl rfl ?_
  refine CS_N (av := [.int (nI s)]) d_K_countPens_8 s_K_18 (S_K_touched hX (by omega)) (by decide) rfl rfl (Nat.le_of_ble_eq_true rfl) ?_
  refine J_istore_n (i := 3) (L1 := [some (.int (nI s)), some (.int (nI 0)), some (.int (nI (odd s))), some (.int (nI (pts s))), none, none]) d_K_countPens_11 rfl (by decide) rfl ?_
  refine J_iconst (v := nI 0) d_K_countPens_12 rfl ?_
  refine J_istore (L1 := [some (.int (nI s)), some (.int (nI 0)), some (.int (nI (odd s))), some (.int (nI (pts s))), some (.int (nI 0)), none]) d_K_countPens_13 (by decide) rfl ?_
  refine lp_K_countPens hX hs (by decide) (fun z5 => ?_) 9 0 _ (by omega)
  refine J_iload_n (i := 1) d_K_countPens_69 rfl rfl ?_
  refine M_ir d_K_countPens_70 rfl rfl ?_
  exact ⟨rfl, rfl⟩

theorem orf_tb (P : Nat → Prop) [DecidablePred P] (p : Nat) : ∀ N, (itr (fun p q => q ||| (if P p then 1 <<< p else 0)) 0 N).testBit p = (decide (p < N) && decide (P p))
  | 0 => by simp [itr]
  | n + 1 => by
    have e := orf_tb P p n
    show (itr _ 0 n ||| _).testBit p = _
    rw [Nat.testBit_or, e]
    by_cases hpn : p = n
    · subst hpn
      by_cases h : P p
      · simp [h, shl1]
      · simp [h]
    · have h2 : (if P n then 1 <<< n else 0).testBit p = false := by
        split
        · rw [shl1, Nat.testBit_two_pow]
          simp [Ne.symm hpn]
        · simp
      rw [h2, Bool.or_false]
      have : (p < n + 1) ↔ p < n := by omega
      simp [this]
theorem p1_step {s n p c : Nat} {x : Nat × Nat} (hn : n < 20) (hp : p < 9) (h1 : x.1.testBit p = decide (1 ≤ c)) (h2 : x.2.testBit p = decide (2 ≤ c)) : ((fun k (x : Nat × Nat) => if s.testBit k then (x.1 ||| POL.getD k 0, x.2 ||| (x.1 &&& POL.getD k 0)) else x) n x).1.testBit p = decide (1 ≤ (fun k c => c + if s.testBit k && (ONEL.getD k 0 == p || OTHL.getD k 0 == p) then 1 else 0) n c) ∧ ((fun k (x : Nat × Nat) => if s.testBit k then (x.1 ||| POL.getD k 0, x.2 ||| (x.1 &&& POL.getD k 0)) else x) n x).2.testBit p = decide (2 ≤ (fun k c => c + if s.testBit k && (ONEL.getD k 0 == p || OTHL.getD k 0 == p) then 1 else 0) n c) := by
  dsimp only
  rcases Bool.eq_false_or_eq_true (s.testBit n) with hb | hb
  · have q1 : ((x.1 ||| POL.getD n 0).testBit p) = (decide (1 ≤ c) || (ONEL.getD n 0 == p || OTHL.getD n 0 == p)) := by rw [Nat.testBit_or, h1, po_tb n hn p hp]
    have q2 : ((x.2 ||| (x.1 &&& POL.getD n 0)).testBit p) = (decide (2 ≤ c) || decide (1 ≤ c) && (ONEL.getD n 0 == p || OTHL.getD n 0 == p)) := by rw [Nat.testBit_or, Nat.testBit_and, h1, h2, po_tb n hn p hp]
    simp only [hb, if_true, Bool.true_and]
    rw [q1, q2]
    rcases Bool.eq_false_or_eq_true (ONEL.getD n 0 == p || OTHL.getD n 0 == p) with hq | hq
    · simp only [hq, if_true, Bool.or_true, Bool.and_true]
      refine ⟨by simp, ?_⟩
      by_cases z : 1 ≤ c
      · have : 2 ≤ c + 1 := by omega
        simp [z, this]
      · have z2 : ¬ 2 ≤ c := by omega
        have z3 : ¬ 2 ≤ c + 1 := by omega
        simp [z, z2, z3]
    · simp only [hq, Bool.or_false, Bool.and_false, Bool.false_eq_true, if_false, Nat.add_zero, and_self]
  · simp only [hb, Bool.false_and, Bool.false_eq_true, if_false]
    exact ⟨h1, h2⟩
theorem p1_eq (s : Nat) : andn (itr (fun k (x : Nat × Nat) => if s.testBit k then (x.1 ||| POL.getD k 0, x.2 ||| (x.1 &&& POL.getD k 0)) else x) (0, 0) 20).1 (itr (fun k (x : Nat × Nat) => if s.testBit k then (x.1 ||| POL.getD k 0, x.2 ||| (x.1 &&& POL.getD k 0)) else x) (0, 0) 20).2 = rimN s := by
  have hlt : (itr (fun k (x : Nat × Nat) => if s.testBit k then (x.1 ||| POL.getD k 0, x.2 ||| (x.1 &&& POL.getD k 0)) else x) (0, 0) 20).1 < 512 := itr_inv (fun _ (x : Nat × Nat) => x.1 < 512) (by decide) (fun n x hx => by
    try dsimp only
    split
    · exact or_lt 9 hx po_lt
    · exact hx) 20
  have hr : rimN s < 512 := itr_invN (fun _ (x : Nat) => x < 512) 9 (by decide) (fun n x hn hx => by
    try dsimp only
    exact or_lt 9 hx (by
      split
      · exact sh_lt hn (by decide)
      · decide)) 9 (Nat.le_refl 9)
  apply Nat.eq_of_testBit_eq
  intro p
  by_cases hp : p < 9
  · have g := itr_invN (f := fun (k : Nat) (y : (Nat × Nat) × Nat) => ((fun k (x : Nat × Nat) => if s.testBit k then (x.1 ||| POL.getD k 0, x.2 ||| (x.1 &&& POL.getD k 0)) else x) k y.1, (fun k c => c + if s.testBit k && (ONEL.getD k 0 == p || OTHL.getD k 0 == p) then 1 else 0) k y.2)) (a := ((0, 0), 0)) (fun _ (y : (Nat × Nat) × Nat) => y.1.1.testBit p = decide (1 ≤ y.2) ∧ y.1.2.testBit p = decide (2 ≤ y.2)) 20 (by simp) (fun n y hn hy => p1_step hn hp hy.1 hy.2) 20 (Nat.le_refl 20)
    have e : ∀ n, itr (fun (k : Nat) (y : (Nat × Nat) × Nat) => ((fun k (x : Nat × Nat) => if s.testBit k then (x.1 ||| POL.getD k 0, x.2 ||| (x.1 &&& POL.getD k 0)) else x) k y.1, (fun k c => c + if s.testBit k && (ONEL.getD k 0 == p || OTHL.getD k 0 == p) then 1 else 0) k y.2)) ((0, 0), 0) n = (itr (fun k (x : Nat × Nat) => if s.testBit k then (x.1 ||| POL.getD k 0, x.2 ||| (x.1 &&& POL.getD k 0)) else x) (0, 0) n, itr (fun k c => c + if s.testBit k && (ONEL.getD k 0 == p || OTHL.getD k 0 == p) then 1 else 0) 0 n) := by
      intro n
      induction n with
      | zero => rfl
      | succ n ih =>
        show (_, _) = _
        rw [ih]
        rfl
    rw [e] at g
    obtain ⟨g1, g2⟩ := g
    rw [show rimN s = itr (fun p q => q ||| (if stA s p = 1 then 1 <<< p else 0)) 0 9 from rfl, orf_tb (fun p => stA s p = 1) p 9]
    rw [andn_tb, g1, g2, show itr (fun k c => c + if s.testBit k && (ONEL.getD k 0 == p || OTHL.getD k 0 == p) then 1 else 0) 0 20 = stA s p from rfl]
    simp only [hp, decide_true, Bool.true_and]
    have : ∀ c : Nat, (decide (1 ≤ c) && !decide (2 ≤ c)) = decide (c = 1) := by
      intro c
      rcases Nat.lt_trichotomy c 1 with z | z | z
      · simp [show ¬ 1 ≤ c by omega, show ¬ c = 1 by omega]
      · subst z; rfl
      · simp [show 1 ≤ c by omega, show 2 ≤ c by omega, show ¬ c = 1 by omega]
    exact this _
  · rw [lt_tb (f := 9) hr (by omega), lt_tb (f := 9) (andn_lt hlt) (by omega)]
theorem lp_K_pointsOfOne {d : Nat} {Q : Option Value → Mem → Prop} {X : Mem} {s : Nat} (hX : Ok X) (hs : s < 1048576) (kx : JM d m_K_pointsOfOne Q 45 [some (.int (nI s)), some (.int (nI ((itr (fun k (x : Nat × Nat) => if s.testBit k then (x.1 ||| POL.getD k 0, x.2 ||| (x.1 &&& POL.getD k 0)) else x) (0, 0) 20).1))), some (.int (nI ((itr (fun k (x : Nat × Nat) => if s.testBit k then (x.1 ||| POL.getD k 0, x.2 ||| (x.1 &&& POL.getD k 0)) else x) (0, 0) 20).2))), some (.int (nI 20))] [] X) : ∀ (n i : Nat), i + n = 20 → JM d m_K_pointsOfOne Q 6 [some (.int (nI s)), some (.int (nI ((itr (fun k (x : Nat × Nat) => if s.testBit k then (x.1 ||| POL.getD k 0, x.2 ||| (x.1 &&& POL.getD k 0)) else x) (0, 0) i).1))), some (.int (nI ((itr (fun k (x : Nat × Nat) => if s.testBit k then (x.1 ||| POL.getD k 0, x.2 ||| (x.1 &&& POL.getD k 0)) else x) (0, 0) i).2))), some (.int (nI i))] [] X := by
  intro n
  induction n with
  | zero =>
    intro i hi
    obtain rfl : i = 20 := by omega
    refine J_iload_n (i := 3) d_K_pointsOfOne_6 rfl rfl ?_
    refine J_bipush (v := nI 20) d_K_pointsOfOne_7 rfl ?_
    refine N_icmp_ge (tgt := 45) d_K_pointsOfOne_9 (by decide) (by omega) (by omega) (fun c9 => ?_) (fun c9 => absurd c9 (by omega))
    exact kx
  | succ n ih =>
    intro i hi
    generalize hx : (itr (fun k (x : Nat × Nat) => if s.testBit k then (x.1 ||| POL.getD k 0, x.2 ||| (x.1 &&& POL.getD k 0)) else x) (0, 0) i) = x
    refine J_iload_n (i := 3) d_K_pointsOfOne_6 rfl rfl ?_
    refine J_bipush (v := nI 20) d_K_pointsOfOne_7 rfl ?_
    refine N_icmp_ge (tgt := 45) d_K_pointsOfOne_9 (by decide) (by omega) (by omega) (fun c9 => absurd c9 (by omega)) (fun c9 => ?_)
    refine J_iload_n (i := 0) d_K_pointsOfOne_12 rfl rfl ?_
    refine J_iload_n (i := 3) d_K_pointsOfOne_13 rfl rfl ?_
    refine N_ishr d_K_pointsOfOne_14 (by omega) (by omega) ?_
    refine J_iconst (v := nI 1) d_K_pointsOfOne_15 rfl ?_
    refine N_iand d_K_pointsOfOne_16 ?_
    refine J_iconst (v := nI 1) d_K_pointsOfOne_17 rfl ?_
    refine T_ne (tgt := 39) d_K_pointsOfOne_18 (by decide) (fun c18 => ?_) (fun c18 => ?_)
    · refine N_iinc (a := i) (c := 1) (L1 := [some (.int (nI s)), some (.int (nI x.1)), some (.int (nI x.2)), some (.int (nI (i + 1)))]) d_K_pointsOfOne_39 rfl rfl (by decide) rfl ?_
      refine J_goto (tgt := 6) d_K_pointsOfOne_42 (by decide) ?_
      exact (ih (i + 1) (by omega)).eq (by rw [show itr (fun k (x : Nat × Nat) => if s.testBit k then (x.1 ||| POL.getD k 0, x.2 ||| (x.1 &&& POL.getD k 0)) else x) (0, 0) (i + 1) = (x.1, x.2) from itr_g hx (by first | (simp [-List.getD_eq_getElem?_getD, c9, c18]; done) | (split <;> omega) | (dsimp only; split <;> omega))]) rfl rfl
    · refine J_iload_n (i := 2) d_K_pointsOfOne_21 rfl rfl ?_
      refine J_iload_n (i := 1) d_K_pointsOfOne_22 rfl rfl ?_
      refine J_gets (v := .ref 1) d_K_pointsOfOne_23 Fx_z1 w_K_9 ?_
      refine J_iload_n (i := 3) d_K_pointsOfOne_26 rfl rfl ?_
      refine N_iald (x := (nI (POL.getD i 0))) d_K_pointsOfOne_27 rfl (by omega) (ltL hX (a := 1) (n := 20) (by decide) rfl (by omega)) (k_po hX) ?_
      refine N_iand d_K_pointsOfOne_28 ?_
      refine N_ior d_K_pointsOfOne_29 ?_
      refine N_nm (fun v30 hv30 => ?_)
      refine J_istore_n (i := 2) (L1 := [some (.int (nI s)), some (.int (nI x.1)), some (.int (nI v30)), some (.int (nI i))]) d_K_pointsOfOne_30 rfl (by decide) rfl ?_
      refine J_iload_n (i := 1) d_K_pointsOfOne_31 rfl rfl ?_
      refine J_gets (v := .ref 1) d_K_pointsOfOne_32 Fx_z1 w_K_9 ?_
      refine J_iload_n (i := 3) d_K_pointsOfOne_35 rfl rfl ?_
      refine N_iald (x := (nI (POL.getD i 0))) d_K_pointsOfOne_36 rfl (by omega) (ltL hX (a := 1) (n := 20) (by decide) rfl (by omega)) (k_po hX) ?_
      refine N_ior d_K_pointsOfOne_37 ?_
      refine N_nm (fun v38 hv38 => ?_)
      refine J_istore_n (i := 1) (L1 := [some (.int (nI s)), some (.int (nI v38)), some (.int (nI v30)), some (.int (nI i))]) d_K_pointsOfOne_38 rfl (by decide) rfl ?_
      refine N_iinc (a := i) (c := 1) (L1 := [some (.int (nI s)), some (.int (nI v38)), some (.int (nI v30)), some (.int (nI (i + 1)))]) d_K_pointsOfOne_39 rfl rfl (by decide) rfl ?_
      refine J_goto (tgt := 6) d_K_pointsOfOne_42 (by decide) ?_
      exact (ih (i + 1) (by omega)).eq (by rw [show itr (fun k (x : Nat × Nat) => if s.testBit k then (x.1 ||| POL.getD k 0, x.2 ||| (x.1 &&& POL.getD k 0)) else x) (0, 0) (i + 1) = (v38, v30) from itr_g hx (by first | (simp [-List.getD_eq_getElem?_getD, c9, c18, hv30, hv38]; done) | (split <;> omega) | (dsimp only; split <;> omega))]) rfl rfl

theorem S_K_pointsOfOne {X : Mem} {s : Nat} (hX : Ok X) (hs : s < 1048576) : CM 0 m_K_pointsOfOne [.int (nI s)] X (rN (rimN s) X) := by
  refine CM_of (L := [some (.int (nI s)), none, none, none]) 3 ok_K_pointsOfOne (fun _ => Nat.le_of_ble_eq_true rfl) rfl ?_
  refine J_iconst (v := nI 0) d_K_pointsOfOne_0 rfl ?_
  refine J_istore_n (i := 1) (L1 := [some (.int (nI s)), some (.int (nI 0)), none, none]) d_K_pointsOfOne_1 rfl (by decide) rfl ?_
  refine J_iconst (v := nI 0) d_K_pointsOfOne_2 rfl ?_
  refine J_istore_n (i := 2) (L1 := [some (.int (nI s)), some (.int (nI 0)), some (.int (nI 0)), none]) d_K_pointsOfOne_3 rfl (by decide) rfl ?_
  refine J_iconst (v := nI 0) d_K_pointsOfOne_4 rfl ?_
  refine J_istore_n (i := 3) (L1 := [some (.int (nI s)), some (.int (nI 0)), some (.int (nI 0)), some (.int (nI 0))]) d_K_pointsOfOne_5 rfl (by decide) rfl ?_
  refine lp_K_pointsOfOne hX hs ?_ 20 0 (by omega)
  refine J_iload_n (i := 1) d_K_pointsOfOne_45 rfl rfl ?_
  refine J_iload_n (i := 2) d_K_pointsOfOne_46 rfl rfl ?_
  refine J_iconst (v := (-1)) d_K_pointsOfOne_47 rfl ?_
  refine J_ixor d_K_pointsOfOne_48 ?_
  refine J_iand d_K_pointsOfOne_49 ?_
  refine I_ton (n := andn ((itr (fun k (x : Nat × Nat) => if s.testBit k then (x.1 ||| POL.getD k 0, x.2 ||| (x.1 &&& POL.getD k 0)) else x) (0, 0) 20).1) ((itr (fun k (x : Nat × Nat) => if s.testBit k then (x.1 ||| POL.getD k 0, x.2 ||| (x.1 &&& POL.getD k 0)) else x) (0, 0) 20).2)) (nI_andn ((itr (fun k (x : Nat × Nat) => if s.testBit k then (x.1 ||| POL.getD k 0, x.2 ||| (x.1 &&& POL.getD k 0)) else x) (0, 0) 20).1) ((itr (fun k (x : Nat × Nat) => if s.testBit k then (x.1 ||| POL.getD k 0, x.2 ||| (x.1 &&& POL.getD k 0)) else x) (0, 0) 20).2)) ?_
  refine M_ir d_K_pointsOfOne_50 rfl rfl ?_
  exact ⟨by rw [p1_eq], rfl⟩

