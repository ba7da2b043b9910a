theorem mod2_tb (a : Nat) : a % 2 = if a.testBit 0 then 1 else 0 := by
  rw [Nat.testBit_zero]
  rcases Nat.mod_two_eq_zero_or_one a with e | e <;> simp [e]
theorem pcn_sub : ∀ (f a b : Nat), (∀ k, a.testBit k = true → b.testBit k = true) → pcn f a ≤ pcn f b
  | 0, _, _, _ => Nat.le_refl _
  | f + 1, a, b, h => by
    have h1 := pcn_sub f (a / 2) (b / 2) (fun k hk => by rw [Nat.testBit_div_two] at hk ⊢; exact h _ hk)
    have h0 := h 0
    rw [pcn, pcn, mod2_tb a, mod2_tb b]
    cases e1 : a.testBit 0 <;> cases e2 : b.testBit 0 <;> simp_all <;> omega
theorem pcn_ssub : ∀ (f a b : Nat), (∀ k, a.testBit k = true → b.testBit k = true) → a ≠ b → a < 2 ^ f → b < 2 ^ f → pcn f a < pcn f b
  | 0, a, b, _, hn, h1, h2 => absurd (by omega) hn
  | f + 1, a, b, h, hn, ha, hb => by
    have hd : ∀ k, (a / 2).testBit k = true → (b / 2).testBit k = true := fun k hk => by rw [Nat.testBit_div_two] at hk ⊢; exact h _ hk
    have h0 := h 0
    have h3 := pcn_sub f (a / 2) (b / 2) hd
    rw [pcn, pcn]
    have ea := mod2_tb a
    have eb := mod2_tb b
    by_cases e : a / 2 = b / 2
    · rw [e]
      have : a % 2 ≠ b % 2 := fun q => hn (by omega)
      cases e1 : a.testBit 0 <;> cases e2 : b.testBit 0 <;> simp_all
    · have := pcn_ssub f (a / 2) (b / 2) hd e (by rw [Nat.pow_succ] at ha; omega) (by rw [Nat.pow_succ] at hb; omega)
      cases e1 : a.testBit 0 <;> cases e2 : b.testBit 0 <;> simp_all <;> omega
/-- a round: what is joined to points by one stroke (and what is then) -/
def rd (s q : Nat) : Nat := itr (fun k x => if s.testBit k && (x.testBit (ONEL.getD k 0) || x.testBit (OTHL.getD k 0)) then x ||| (1 <<< ONEL.getD k 0 ||| 1 <<< OTHL.getD k 0) else x) q 20
def rdn (s p : Nat) : Nat → Nat
  | 0 => 1 <<< p
  | j + 1 => rd s (rdn s p j)
/-- the piece of a point -/
def pcs (s p : Nat) : Nat := rdn s p 8
theorem rd_ge (s q k : Nat) (h : q.testBit k = true) : (rd s q).testBit k = true :=
  itr_inv (fun _ (x : Nat) => x.testBit k = true) h (fun n x hx => by
    try dsimp only
    split
    · rw [Nat.testBit_or, hx]; rfl
    · exact hx) 20
theorem rd_lt {s q : Nat} (h : q < 512) : rd s q < 512 :=
  itr_inv (fun _ x => x < 512) h (fun n x hx => by
    try dsimp only
    split
    · exact or_lt 9 hx (por_lt n)
    · exact hx) 20
theorem rdn_lt {s p : Nat} (hp : p < 9) : ∀ j, rdn s p j < 512
  | 0 => sh_lt hp (by decide)
  | j + 1 => rd_lt (rdn_lt hp j)
theorem pcn_shl : ∀ p, p < 9 → pcn 9 (1 <<< p) = 1 := by decide
theorem rdn_grow {s p : Nat} (hp : p < 9) : ∀ j, (∃ i, i < j ∧ rdn s p (i + 1) = rdn s p i) ∨ j + 1 ≤ pcn 9 (rdn s p j)
  | 0 => Or.inr (by rw [show rdn s p 0 = 1 <<< p from rfl, pcn_shl p hp]; decide)
  | j + 1 => by
    rcases rdn_grow (s := s) hp j with ⟨i, h1, h2⟩ | h
    · exact Or.inl ⟨i, by omega, h2⟩
    · by_cases e : rdn s p (j + 1) = rdn s p j
      · exact Or.inl ⟨j, by omega, e⟩
      · exact Or.inr (by
          have := pcn_ssub 9 (rdn s p j) (rdn s p (j + 1)) (fun k hk => rd_ge s _ k hk) (fun q => e q.symm) (rdn_lt hp j) (rdn_lt hp (j + 1))
          omega)
theorem rdn_stay {s p i : Nat} (h : rdn s p (i + 1) = rdn s p i) : ∀ j, rdn s p (i + j) = rdn s p i
  | 0 => rfl
  | j + 1 => by
    show rd s (rdn s p (i + j)) = _
    rw [rdn_stay h j]
    exact h
theorem pcn_full (a : Nat) (h : a < 512) (h2 : 9 ≤ pcn 9 a) : a = 511 := by
  rcases Nat.lt_or_ge (pcn 9 a) (pcn 9 511) with q | q
  · have : pcn 9 511 = 9 := by decide
    omega
  · by_cases e : a = 511
    · exact e
    · have := pcn_ssub 9 a 511 (fun k hk => by
        have hk9 : k < 9 := by
          rcases Nat.lt_or_ge k 9 with z | z
          · exact z
          · rw [Nat.testBit_lt_two_pow (Nat.lt_of_lt_of_le h (Nat.pow_le_pow_right (show 0 < 2 by decide) z))] at hk
            cases hk
        have g : ∀ k, k < 9 → (511 : Nat).testBit k = true := by decide
        exact g k hk9) e h (by decide)
      omega
theorem pcs_fix {s p : Nat} (hp : p < 9) : rd s (pcs s p) = pcs s p := by
  rcases rdn_grow (s := s) hp 8 with ⟨i, h1, h2⟩ | h
  · have e1 := rdn_stay h2 (8 - i)
    have e2 := rdn_stay h2 (9 - i)
    rw [show i + (8 - i) = 8 by omega] at e1
    rw [show i + (9 - i) = 8 + 1 by omega] at e2
    show rdn s p (8 + 1) = rdn s p 8
    rw [e1, e2]
  · have e := pcn_full (rdn s p 8) (rdn_lt hp 8) h
    show rdn s p (8 + 1) = rdn s p 8
    have e2 : rdn s p (8 + 1) = 511 := by
      refine pcn_full (rdn s p (8 + 1)) (rdn_lt hp (8 + 1)) ?_
      have := pcn_sub 9 (rdn s p 8) (rdn s p (8 + 1)) (fun k hk => rd_ge s _ k hk)
      omega
    rw [e, e2]
theorem pcs_of {s p j : Nat} (hj : j ≤ 8) (h : rdn s p (j + 1) = rdn s p j) : rdn s p j = pcs s p := by
  have e1 := rdn_stay h (8 - j)
  rw [show j + (8 - j) = 8 by omega] at e1
  exact e1.symm
theorem pcs_lt {s p : Nat} (hp : p < 9) : pcs s p < 512 := rdn_lt hp 8
theorem pts_lt (s : Nat) : pts s < 512 :=
  itr_inv (fun _ x => x < 512) (by decide) (fun n x hx => by
    try dsimp only
    split
    · exact or_lt 9 hx (por_lt n)
    · exact hx) 20
theorem odd_lt (s : Nat) : odd s < 512 :=
  itr_invN (fun _ x => x < 512) 9 (by decide) (fun n x hn hx => by
    try dsimp only
    exact or_lt 9 hx (by
      split
      · exact sh_lt hn (by decide)
      · decide)) 9 (Nat.le_refl 9)
theorem bc_le (n : Nat) : bc n ≤ 32 := pcn_le 32 n
theorem lp_R_pieceOf_in {d : Nat} {Q : Option Value → Mem → Prop} {X : Mem} {s p q : Nat} (hX : Ok X) (hs : s < 1048576) (hq : q < 512) (hd : 1 ≤ d) (kx : JM d m_R_pieceOf Q 91 [some (.ref 244), some (.int (nI s)), some (.int (nI p)), some (.int (nI (itr (fun k x => if s.testBit k && (x.testBit (ONEL.getD k 0) || x.testBit (OTHL.getD k 0)) then x ||| (1 <<< ONEL.getD k 0 ||| 1 <<< OTHL.getD k 0) else x) q 20))), some (.int (nI q)), some (.int (nI 20))] [] X) : ∀ (n i : Nat), i + n = 20 → JM d m_R_pieceOf Q 19 [some (.ref 244), some (.int (nI s)), some (.int (nI p)), some (.int (nI (itr (fun k x => if s.testBit k && (x.testBit (ONEL.getD k 0) || x.testBit (OTHL.getD k 0)) then x ||| (1 <<< ONEL.getD k 0 ||| 1 <<< OTHL.getD k 0) else x) q i))), some (.int (nI q)), some (.int (nI i))] [] X := by
  intro n
  induction n with
  | zero =>
    intro i hi
    obtain rfl : i = 20 := by omega
    refine J_iload d_R_pieceOf_19 rfl ?_
    refine J_bipush (v := nI 20) d_R_pieceOf_21 rfl ?_
    refine N_icmp_ge (tgt := 91) d_R_pieceOf_23 (by decide) (by first | omega | exact Nat.lt_trans one_lt (by decide) | exact Nat.lt_trans oth_lt (by decide)) (by first | omega | exact Nat.lt_trans one_lt (by decide) | exact Nat.lt_trans oth_lt (by decide)) (fun c23 => ?_) (fun c23 => absurd c23 (by omega))
    exact kx
  | succ n ih =>
    intro i hi
    generalize hx : (itr (fun k x => if s.testBit k && (x.testBit (ONEL.getD k 0) || x.testBit (OTHL.getD k 0)) then x ||| (1 <<< ONEL.getD k 0 ||| 1 <<< OTHL.getD k 0) else x) q i) = x
    have hx5 : x < 2147483648 := by
      rw [← hx]
      exact Nat.lt_trans (itr_inv (fun _ (x : Nat) => x < 512) hq (fun k x hx => by
        try dsimp only
        split
        · exact or_lt 9 hx (por_lt k)
        · exact hx) i) (by decide)
    refine J_iload d_R_pieceOf_19 rfl ?_
    refine J_bipush (v := nI 20) d_R_pieceOf_21 rfl ?_
    refine N_icmp_ge (tgt := 91) d_R_pieceOf_23 (by decide) (by first | omega | exact Nat.lt_trans one_lt (by decide) | exact Nat.lt_trans oth_lt (by decide)) (by first | omega | exact Nat.lt_trans one_lt (by decide) | exact Nat.lt_trans oth_lt (by decide)) (fun c23 => absurd c23 (by omega)) (fun c23 => ?_)
    refine J_iload_n (i := 1) d_R_pieceOf_26 rfl rfl ?_
    refine J_iload d_R_pieceOf_27 rfl ?_
    refine CS_B (av := [.int (nI s), .int (nI i)]) d_R_pieceOf_29 s_R_94 (S_R_has (by omega) (by omega)) (by omega) rfl rfl (Nat.le_of_ble_eq_true rfl) ?_
    refine B_if_eq (tgt := 85) d_R_pieceOf_32 (by decide) (fun c32 => ?_) (fun c32 => ?_)
    · refine N_iinc (a := i) (c := 1) (L1 := [some (.ref 244), some (.int (nI s)), some (.int (nI p)), some (.int (nI x)), some (.int (nI q)), some (.int (nI (i + 1)))]) d_R_pieceOf_85 rfl rfl (by decide) rfl ?_
      refine J_goto (tgt := 19) d_R_pieceOf_88 (by decide) ?_
      exact (ih (i + 1) (by omega)).eq (by rw [show itr (fun k x => if s.testBit k && (x.testBit (ONEL.getD k 0) || x.testBit (OTHL.getD k 0)) then x ||| (1 <<< ONEL.getD k 0 ||| 1 <<< OTHL.getD k 0) else x) q (i + 1) = x from itr_g hx (by first | (simp [-List.getD_eq_getElem?_getD, c23, c32]; done) | (split <;> omega) | (dsimp only; split <;> omega))]) rfl rfl
    · refine J_iload_n (i := 3) d_R_pieceOf_35 rfl rfl ?_
      refine J_aload_n (i := 0) d_R_pieceOf_36 rfl rfl ?_
      refine M_getR (b := 247) d_R_pieceOf_37 f_R_16 rfl rfl rfl ?_
      refine J_iload d_R_pieceOf_40 rfl ?_
      refine N_iald (x := (nI (ONEL.getD i 0))) d_R_pieceOf_42 rfl (by first | omega | exact Nat.lt_trans one_lt (by decide) | exact Nat.lt_trans oth_lt (by decide)) (ltL hX (a := 247) (n := 20) (by decide) rfl (by first | omega | exact Nat.lt_trans one_lt (by decide) | exact Nat.lt_trans oth_lt (by decide))) (k_one hX) ?_
      refine CS_B (av := [.int (nI x), .int (nI (ONEL.getD i 0))]) d_R_pieceOf_43 s_R_94 (S_R_has hx5 (Nat.lt_trans one_lt (by decide))) (by omega) rfl rfl (Nat.le_of_ble_eq_true rfl) ?_
      refine B_if_ne (tgt := 63) d_R_pieceOf_46 (by decide) (fun c46 => ?_) (fun c46 => ?_)
      · refine J_iload_n (i := 3) d_R_pieceOf_63 rfl rfl ?_
        refine J_iconst (v := nI 1) d_R_pieceOf_64 rfl ?_
        refine J_aload_n (i := 0) d_R_pieceOf_65 rfl rfl ?_
        refine M_getR (b := 247) d_R_pieceOf_66 f_R_16 rfl rfl rfl ?_
        refine J_iload d_R_pieceOf_69 rfl ?_
        refine N_iald (x := (nI (ONEL.getD i 0))) d_R_pieceOf_71 rfl (by first | omega | exact Nat.lt_trans one_lt (by decide) | exact Nat.lt_trans oth_lt (by decide)) (ltL hX (a := 247) (n := 20) (by decide) rfl (by first | omega | exact Nat.lt_trans one_lt (by decide) | exact Nat.lt_trans oth_lt (by decide))) (k_one hX) ?_
        refine N_ishl d_R_pieceOf_72 (by first | omega | exact Nat.lt_trans one_lt (by decide) | exact Nat.lt_trans oth_lt (by decide)) ?_
        refine J_iconst (v := nI 1) d_R_pieceOf_73 rfl ?_
        refine J_aload_n (i := 0) d_R_pieceOf_74 rfl rfl ?_
        refine M_getR (b := 248) d_R_pieceOf_75 f_R_19 rfl rfl rfl ?_
        refine J_iload d_R_pieceOf_78 rfl ?_
        refine N_iald (x := (nI (OTHL.getD i 0))) d_R_pieceOf_80 rfl (by first | omega | exact Nat.lt_trans one_lt (by decide) | exact Nat.lt_trans oth_lt (by decide)) (ltL hX (a := 248) (n := 20) (by decide) rfl (by first | omega | exact Nat.lt_trans one_lt (by decide) | exact Nat.lt_trans oth_lt (by decide))) (k_oth hX) ?_
        refine N_ishl d_R_pieceOf_81 (by first | omega | exact Nat.lt_trans one_lt (by decide) | exact Nat.lt_trans oth_lt (by decide)) ?_
        refine N_ior d_R_pieceOf_82 ?_
        refine N_ior d_R_pieceOf_83 ?_
        refine N_nm (fun v84 hv84 => ?_)
        refine J_istore_n (i := 3) (L1 := [some (.ref 244), some (.int (nI s)), some (.int (nI p)), some (.int (nI v84)), some (.int (nI q)), some (.int (nI i))]) d_R_pieceOf_84 rfl (by decide) rfl ?_
        refine N_iinc (a := i) (c := 1) (L1 := [some (.ref 244), some (.int (nI s)), some (.int (nI p)), some (.int (nI v84)), some (.int (nI q)), some (.int (nI (i + 1)))]) d_R_pieceOf_85 rfl rfl (by decide) rfl ?_
        refine J_goto (tgt := 19) d_R_pieceOf_88 (by decide) ?_
        exact (ih (i + 1) (by omega)).eq (by rw [show itr (fun k x => if s.testBit k && (x.testBit (ONEL.getD k 0) || x.testBit (OTHL.getD k 0)) then x ||| (1 <<< ONEL.getD k 0 ||| 1 <<< OTHL.getD k 0) else x) q (i + 1) = v84 from itr_g hx (by first | (simp [-List.getD_eq_getElem?_getD, c23, c32, c46, hv84]; done) | (split <;> omega) | (dsimp only; split <;> omega))]) rfl rfl
      · refine J_iload_n (i := 3) d_R_pieceOf_49 rfl rfl ?_
        refine J_aload_n (i := 0) d_R_pieceOf_50 rfl rfl ?_
        refine M_getR (b := 248) d_R_pieceOf_51 f_R_19 rfl rfl rfl ?_
        refine J_iload d_R_pieceOf_54 rfl ?_
        refine N_iald (x := (nI (OTHL.getD i 0))) d_R_pieceOf_56 rfl (by first | omega | exact Nat.lt_trans one_lt (by decide) | exact Nat.lt_trans oth_lt (by decide)) (ltL hX (a := 248) (n := 20) (by decide) rfl (by first | omega | exact Nat.lt_trans one_lt (by decide) | exact Nat.lt_trans oth_lt (by decide))) (k_oth hX) ?_
        refine CS_B (av := [.int (nI x), .int (nI (OTHL.getD i 0))]) d_R_pieceOf_57 s_R_94 (S_R_has hx5 (Nat.lt_trans oth_lt (by decide))) (by omega) rfl rfl (Nat.le_of_ble_eq_true rfl) ?_
        refine B_if_eq (tgt := 85) d_R_pieceOf_60 (by decide) (fun c60 => ?_) (fun c60 => ?_)
        · refine N_iinc (a := i) (c := 1) (L1 := [some (.ref 244), some (.int (nI s)), some (.int (nI p)), some (.int (nI x)), some (.int (nI q)), some (.int (nI (i + 1)))]) d_R_pieceOf_85 rfl rfl (by decide) rfl ?_
          refine J_goto (tgt := 19) d_R_pieceOf_88 (by decide) ?_
          exact (ih (i + 1) (by omega)).eq (by rw [show itr (fun k x => if s.testBit k && (x.testBit (ONEL.getD k 0) || x.testBit (OTHL.getD k 0)) then x ||| (1 <<< ONEL.getD k 0 ||| 1 <<< OTHL.getD k 0) else x) q (i + 1) = x from itr_g hx (by first | (simp [-List.getD_eq_getElem?_getD, c23, c32, c46, c60]; done) | (split <;> omega) | (dsimp only; split <;> omega))]) rfl rfl
        · refine J_iload_n (i := 3) d_R_pieceOf_63 rfl rfl ?_
          refine J_iconst (v := nI 1) d_R_pieceOf_64 rfl ?_
          refine J_aload_n (i := 0) d_R_pieceOf_65 rfl rfl ?_
          refine M_getR (b := 247) d_R_pieceOf_66 f_R_16 rfl rfl rfl ?_
          refine J_iload d_R_pieceOf_69 rfl ?_
          refine N_iald (x := (nI (ONEL.getD i 0))) d_R_pieceOf_71 rfl (by first | omega | exact Nat.lt_trans one_lt (by decide) | exact Nat.lt_trans oth_lt (by decide)) (ltL hX (a := 247) (n := 20) (by decide) rfl (by first | omega | exact Nat.lt_trans one_lt (by decide) | exact Nat.lt_trans oth_lt (by decide))) (k_one hX) ?_
          refine N_ishl d_R_pieceOf_72 (by first | omega | exact Nat.lt_trans one_lt (by decide) | exact Nat.lt_trans oth_lt (by decide)) ?_
          refine J_iconst (v := nI 1) d_R_pieceOf_73 rfl ?_
          refine J_aload_n (i := 0) d_R_pieceOf_74 rfl rfl ?_
          refine M_getR (b := 248) d_R_pieceOf_75 f_R_19 rfl rfl rfl ?_
          refine J_iload d_R_pieceOf_78 rfl ?_
          refine N_iald (x := (nI (OTHL.getD i 0))) d_R_pieceOf_80 rfl (by first | omega | exact Nat.lt_trans one_lt (by decide) | exact Nat.lt_trans oth_lt (by decide)) (ltL hX (a := 248) (n := 20) (by decide) rfl (by first | omega | exact Nat.lt_trans one_lt (by decide) | exact Nat.lt_trans oth_lt (by decide))) (k_oth hX) ?_
          refine N_ishl d_R_pieceOf_81 (by first | omega | exact Nat.lt_trans one_lt (by decide) | exact Nat.lt_trans oth_lt (by decide)) ?_
          refine N_ior d_R_pieceOf_82 ?_
          refine N_ior d_R_pieceOf_83 ?_
          refine N_nm (fun v84 hv84 => ?_)
          refine J_istore_n (i := 3) (L1 := [some (.ref 244), some (.int (nI s)), some (.int (nI p)), some (.int (nI v84)), some (.int (nI q)), some (.int (nI i))]) d_R_pieceOf_84 rfl (by decide) rfl ?_
          refine N_iinc (a := i) (c := 1) (L1 := [some (.ref 244), some (.int (nI s)), some (.int (nI p)), some (.int (nI v84)), some (.int (nI q)), some (.int (nI (i + 1)))]) d_R_pieceOf_85 rfl rfl (by decide) rfl ?_
          refine J_goto (tgt := 19) d_R_pieceOf_88 (by decide) ?_
          exact (ih (i + 1) (by omega)).eq (by rw [show itr (fun k x => if s.testBit k && (x.testBit (ONEL.getD k 0) || x.testBit (OTHL.getD k 0)) then x ||| (1 <<< ONEL.getD k 0 ||| 1 <<< OTHL.getD k 0) else x) q (i + 1) = v84 from itr_g hx (by first | (simp [-List.getD_eq_getElem?_getD, c23, c32, c46, c60, hv84]; done) | (split <;> omega) | (dsimp only; split <;> omega))]) rfl rfl

theorem lp_R_pieceOf {d : Nat} {Q : Option Value → Mem → Prop} {X : Mem} {s p : Nat} (hX : Ok X) (hs : s < 1048576) (hp : p < 9) (hd : 1 ≤ d) (kx : ∀ z4 z5 : Option Value, JM d m_R_pieceOf Q 94 [some (.ref 244), some (.int (nI s)), some (.int (nI p)), some (.int (nI (pcs s p))), z4, z5] [] X) : ∀ (m j had : Nat) (z5 : Option Value), j + m = 9 → had < 512 → (j = 0 → had = 0) → (∀ j', j = j' + 1 → had = rdn s p j') → JM d m_R_pieceOf Q 7 [some (.ref 244), some (.int (nI s)), some (.int (nI p)), some (.int (nI (rdn s p j))), some (.int (nI had)), z5] [] X := by
  intro m
  induction m with
  | zero =>
    intro j had z5 h1 h2 h3 h4
    obtain rfl : j = 9 := by omega
    have e : had = rdn s p 9 := by rw [h4 8 rfl]; exact (pcs_fix hp).symm
    have hl := rdn_lt (s := s) hp 9
    refine J_iload d_R_pieceOf_7 rfl ?_
    refine J_iload_n (i := 3) d_R_pieceOf_9 rfl rfl ?_
    refine N_icmp_eq (tgt := 94) d_R_pieceOf_10 (by decide) (by omega) (by omega) (fun c10 => ?_) (fun c10 => absurd c10 (by omega))
    rw [show rdn s p 9 = pcs s p from pcs_fix hp]
    exact kx _ _
  | succ m ih =>
    intro j had z5 h1 h2 h3 h4
    have hl := rdn_lt (s := s) hp j
    refine J_iload d_R_pieceOf_7 rfl ?_
    refine J_iload_n (i := 3) d_R_pieceOf_9 rfl rfl ?_
    refine N_icmp_eq (tgt := 94) d_R_pieceOf_10 (by decide) (by omega) (by omega) (fun c10 => ?_) (fun c10 => ?_)
    · have e : rdn s p j = pcs s p := by
        cases j with
        | zero =>
          have h5 := h3 rfl
          have h6 : 1 <<< p ≠ 0 := by rw [shl1]; exact Nat.ne_of_gt (Nat.two_pow_pos p)
          exact absurd (c10.symm.trans h5) h6
        | succ j =>
          have h5 := h4 j rfl
          have h6 : rdn s p (j + 1) = rdn s p j := c10.symm.trans h5
          rw [h6]
          exact pcs_of (by omega) h6
      rw [e]
      exact kx _ _
    · refine J_iload_n (i := 3) d_R_pieceOf_13 rfl rfl ?_
      refine J_istore (L1 := [some (.ref 244), some (.int (nI s)), some (.int (nI p)), some (.int (nI (rdn s p j))), some (.int (nI (rdn s p j))), z5]) d_R_pieceOf_14 (by decide) rfl ?_
      refine J_iconst (v := nI 0) d_R_pieceOf_16 rfl ?_
      refine J_istore (L1 := [some (.ref 244), some (.int (nI s)), some (.int (nI p)), some (.int (nI (rdn s p j))), some (.int (nI (rdn s p j))), some (.int (nI 0))]) d_R_pieceOf_17 (by decide) rfl ?_
      refine lp_R_pieceOf_in hX hs hl hd ?_ 20 0 (by omega)
      refine J_goto (tgt := 7) d_R_pieceOf_91 (by decide) ?_
      exact ih (j + 1) (rdn s p j) _ (by omega) hl (fun q => by omega) (fun j' q => by rw [show j' = j by omega])
theorem S_R_pieceOf {X : Mem} {s p : Nat} (hX : Ok X) (hs : s < 1048576) (hp : p < 9) : CM 1 m_R_pieceOf [.ref 244, .int (nI s), .int (nI p)] X (rN (pcs s p) X) := by
  refine CM_of (L := [some (.ref 244), some (.int (nI s)), some (.int (nI p)), none, none, none]) 3 ok_R_pieceOf (fun _ => Nat.le_of_ble_eq_true rfl) rfl ?_
  refine J_iconst (v := nI 1) d_R_pieceOf_0 rfl ?_
  refine J_iload_n (i := 2) d_R_pieceOf_1 rfl rfl ?_
  refine N_ishl d_R_pieceOf_2 (by omega) ?_
  refine J_istore_n (i := 3) (L1 := [some (.ref 244), some (.int (nI s)), some (.int (nI p)), some (.int (nI (1 <<< p))), none, none]) d_R_pieceOf_3 rfl (by decide) rfl ?_
  refine J_iconst (v := nI 0) d_R_pieceOf_4 rfl ?_
  refine J_istore (L1 := [some (.ref 244), some (.int (nI s)), some (.int (nI p)), some (.int (nI (1 <<< p))), some (.int (nI 0)), none]) d_R_pieceOf_5 (by decide) rfl ?_
  refine lp_R_pieceOf hX hs hp (by decide) (fun z4 z5 => ?_) 9 0 0 none (by omega) (by omega) (fun _ => rfl) (fun j' q => by omega)
  refine J_iload_n (i := 3) d_R_pieceOf_94 rfl rfl ?_
  refine M_ir d_R_pieceOf_95 rfl rfl ?_
  exact ⟨rfl, rfl⟩

def pic (s : Nat) : Nat := (itr (fun p (x : Nat × Nat) => if x.1.testBit p then (andn x.1 (pcs s p), x.2 + 1) else x) (pts s, 0) 9).2
theorem pic_fst {s : Nat} : ∀ i, (itr (fun p (x : Nat × Nat) => if x.1.testBit p then (andn x.1 (pcs s p), x.2 + 1) else x) (pts s, 0) i).1 < 512 :=
  itr_inv (fun _ (x : Nat × Nat) => x.1 < 512) (pts_lt s) (fun n x hx => by
    try dsimp only
    split
    · exact andn_lt hx
    · exact hx)
theorem pic_le (s : Nat) : pic s ≤ 9 := by
  have := itr_inv (f := (fun p (x : Nat × Nat) => if x.1.testBit p then (andn x.1 (pcs s p), x.2 + 1) else x)) (a := (pts s, 0)) (fun n (x : Nat × Nat) => x.2 ≤ n) (Nat.le_refl 0) (fun n x hx => by
    try dsimp only
    split
    · exact Nat.succ_le_succ hx
    · exact Nat.le_succ_of_le hx) 9
  exact this
theorem lp_R_piecesOf {d : Nat} {Q : Option Value → Mem → Prop} {X : Mem} {s : Nat} (hX : Ok X) (hs : s < 1048576) (hd : 2 ≤ d) (kx : JM d m_R_piecesOf Q 51 [some (.ref 244), some (.int (nI s)), some (.int (nI ((itr (fun p (x : Nat × Nat) => if x.1.testBit p then (andn x.1 (pcs s p), x.2 + 1) else x) (pts s, 0) 9).2))), some (.int (nI ((itr (fun p (x : Nat × Nat) => if x.1.testBit p then (andn x.1 (pcs s p), x.2 + 1) else x) (pts s, 0) 9).1))), some (.int (nI 9))] [] X) : ∀ (n i : Nat), i + n = 9 → JM d m_R_piecesOf Q 11 [some (.ref 244), some (.int (nI s)), some (.int (nI ((itr (fun p (x : Nat × Nat) => if x.1.testBit p then (andn x.1 (pcs s p), x.2 + 1) else x) (pts s, 0) i).2))), some (.int (nI ((itr (fun p (x : Nat × Nat) => if x.1.testBit p then (andn x.1 (pcs s p), x.2 + 1) else x) (pts s, 0) i).1))), some (.int (nI i))] [] X := by
  intro n
  induction n with
  | zero =>
    intro i hi
    obtain rfl : i = 9 := by omega
    refine J_iload d_R_piecesOf_11 rfl ?_
    refine J_bipush (v := nI 9) d_R_piecesOf_13 rfl ?_
    refine N_icmp_ge (tgt := 51) d_R_piecesOf_15 (by decide) (by omega) (by omega) (fun c15 => ?_) (fun c15 => absurd c15 (by omega))
    exact kx
  | succ n ih =>
    intro i hi
    generalize hx : (itr (fun p (x : Nat × Nat) => if x.1.testBit p then (andn x.1 (pcs s p), x.2 + 1) else x) (pts s, 0) i) = x
    have hx5 : x.1 < 2147483648 := by rw [← hx]; exact Nat.lt_trans (pic_fst i) (by decide)
    refine J_iload d_R_piecesOf_11 rfl ?_
    refine J_bipush (v := nI 9) d_R_piecesOf_13 rfl ?_
    refine N_icmp_ge (tgt := 51) d_R_piecesOf_15 (by decide) (by omega) (by omega) (fun c15 => absurd c15 (by omega)) (fun c15 => ?_)
    refine J_iload_n (i := 3) d_R_piecesOf_18 rfl rfl ?_
    refine J_iload d_R_piecesOf_19 rfl ?_
    refine CS_B (av := [.int (nI x.1), .int (nI i)]) d_R_piecesOf_21 s_R_94 (S_R_has hx5 (by omega)) (by omega) rfl rfl (Nat.le_of_ble_eq_true rfl) ?_
    refine B_if_ne (tgt := 30) d_R_piecesOf_24 (by decide) (fun c24 => ?_) (fun c24 => ?_)
    · refine J_iload_n (i := 3) d_R_piecesOf_30 rfl rfl ?_
      refine J_aload_n (i := 0) d_R_piecesOf_31 rfl rfl ?_
      refine J_iload_n (i := 1) d_R_piecesOf_32 rfl rfl ?_
      refine J_iload d_R_piecesOf_33 rfl ?_
      refine CV_N (av := [.int (nI s), .int (nI i)]) d_R_piecesOf_35 s_R_118 (M_rcv rfl (by decide) rfl) (S_R_pieceOf hX (by omega) (by omega)) (by omega) rfl rfl (Nat.le_of_ble_eq_true rfl) ?_
      refine J_iconst (v := (-1)) d_R_piecesOf_38 rfl ?_
      refine J_ixor d_R_piecesOf_39 ?_
      refine J_iand d_R_piecesOf_40 ?_
      refine I_ton (n := andn x.1 (pcs s i)) (nI_andn x.1 (pcs s i)) ?_
      refine N_nm (fun v41 hv41 => ?_)
      refine J_istore_n (i := 3) (L1 := [some (.ref 244), some (.int (nI s)), some (.int (nI x.2)), some (.int (nI v41)), some (.int (nI i))]) d_R_piecesOf_41 rfl (by decide) rfl ?_
      refine N_iinc (a := x.2) (c := 1) (L1 := [some (.ref 244), some (.int (nI s)), some (.int (nI (x.2 + 1))), some (.int (nI v41)), some (.int (nI i))]) d_R_piecesOf_42 rfl rfl (by decide) rfl ?_
      refine N_iinc (a := i) (c := 1) (L1 := [some (.ref 244), some (.int (nI s)), some (.int (nI (x.2 + 1))), some (.int (nI v41)), some (.int (nI (i + 1)))]) d_R_piecesOf_45 rfl rfl (by decide) rfl ?_
      refine J_goto (tgt := 11) d_R_piecesOf_48 (by decide) ?_
      exact (ih (i + 1) (by omega)).eq (by rw [show itr (fun p (x : Nat × Nat) => if x.1.testBit p then (andn x.1 (pcs s p), x.2 + 1) else x) (pts s, 0) (i + 1) = (v41, (x.2 + 1)) from itr_g hx (by first | (simp [-List.getD_eq_getElem?_getD, c15, c24, hv41]; done) | (split <;> omega) | (dsimp only; split <;> omega))]) rfl rfl
    · refine J_goto (tgt := 45) d_R_piecesOf_27 (by decide) ?_
      refine N_iinc (a := i) (c := 1) (L1 := [some (.ref 244), some (.int (nI s)), some (.int (nI x.2)), some (.int (nI x.1)), some (.int (nI (i + 1)))]) d_R_piecesOf_45 rfl rfl (by decide) rfl ?_
      refine J_goto (tgt := 11) d_R_piecesOf_48 (by decide) ?_
      exact (ih (i + 1) (by omega)).eq (by rw [show itr (fun p (x : Nat × Nat) => if x.1.testBit p then (andn x.1 (pcs s p), x.2 + 1) else x) (pts s, 0) (i + 1) = (x.1, x.2) from itr_g hx (by first | (simp [-List.getD_eq_getElem?_getD, c15, c24]; done) | (split <;> omega) | (dsimp only; split <;> omega))]) rfl rfl

theorem S_R_piecesOf {X : Mem} {s : Nat} (hX : Ok X) (hs : s < 1048576) : CM 2 m_R_piecesOf [.ref 244, .int (nI s)] X (rN (pic s) X) := by
  refine CM_of (L := [some (.ref 244), some (.int (nI s)), none, none, none]) 3 ok_R_piecesOf (fun _ => Nat.le_of_ble_eq_true rfl) rfl ?_
  refine J_iconst (v := nI 0) d_R_piecesOf_0 rfl ?_
  refine J_istore_n (i := 2) (L1 := [some (.ref 244), some (.int (nI s)), some (.int (nI 0)), none, none]) d_R_piecesOf_1 rfl (by decide) rfl ?_
  refine J_aload_n (i := 0) d_R_piecesOf_2 rfl rfl ?_
  refine J_iload_n (i := 1) d_R_piecesOf_3 rfl rfl ?_
  refine CV_N (av := [.int (nI s)]) d_R_piecesOf_4 s_R_114 (M_rcv rfl (by decide) rfl) (S_R_pointsOf hX (by omega)) (by decide) rfl rfl (Nat.le_of_ble_eq_true rfl) ?_
  refine J_istore_n (i := 3) (L1 := [some (.ref 244), some (.int (nI s)), some (.int (nI 0)), some (.int (nI (pts s))), none]) d_R_piecesOf_7 rfl (by decide) rfl ?_
  refine J_iconst (v := nI 0) d_R_piecesOf_8 rfl ?_
  refine J_istore (L1 := [some (.ref 244), some (.int (nI s)), some (.int (nI 0)), some (.int (nI (pts s))), some (.int (nI 0))]) d_R_piecesOf_9 (by decide) rfl ?_
  refine lp_R_piecesOf hX hs (by decide) ?_ 9 0 (by omega)
  refine J_iload_n (i := 2) d_R_piecesOf_51 rfl rfl ?_
  refine M_ir d_R_piecesOf_52 rfl rfl ?_
  exact ⟨rfl, rfl⟩

def hol (s : Nat) : Int32 := nI (bc s + pic s) - nI (bc (pts s))
theorem S_R_holesOf {X : Mem} {s : Nat} (hX : Ok X) (hs : s < 1048576) : CM 3 m_R_holesOf [.ref 244, .int (nI s)] X (rI (hol s) X) := by
  refine CM_of (L := [some (.ref 244), some (.int (nI s))]) 0 ok_R_holesOf (fun _ => Nat.le_of_ble_eq_true rfl) rfl ?_
  refine J_iload_n (i := 1) d_R_holesOf_0 rfl rfl ?_
  refine CS_N (av := [.int (nI s)]) d_R_holesOf_1 s_R_121 (S_R_bits (by omega)) (by decide) rfl rfl (Nat.le_of_ble_eq_true rfl) ?_
  refine J_aload_n (i := 0) d_R_holesOf_4 rfl rfl ?_
  refine J_iload_n (i := 1) d_R_holesOf_5 rfl rfl ?_
  refine CV_N (av := [.int (nI s)]) d_R_holesOf_6 s_R_124 (M_rcv rfl (by decide) rfl) (S_R_piecesOf hX (by omega)) (by decide) rfl rfl (Nat.le_of_ble_eq_true rfl) ?_
  refine N_iadd d_R_holesOf_9 ?_
  refine J_aload_n (i := 0) d_R_holesOf_10 rfl rfl ?_
  refine J_iload_n (i := 1) d_R_holesOf_11 rfl rfl ?_
  refine CV_N (av := [.int (nI s)]) d_R_holesOf_12 s_R_114 (M_rcv rfl (by decide) rfl) (S_R_pointsOf hX (by omega)) (by decide) rfl rfl (Nat.le_of_ble_eq_true rfl) ?_
  refine CS_N (av := [.int (nI (pts s))]) d_R_holesOf_15 s_R_121 (S_R_bits (Nat.lt_trans (pts_lt s) (by decide))) (by decide) rfl rfl (Nat.le_of_ble_eq_true rfl) ?_
  refine J_isub d_R_holesOf_18 ?_
  refine M_ir d_R_holesOf_19 rfl rfl ?_
  exact ⟨rfl, rfl⟩

def crs (s : Nat) : Nat := bc ((s >>> 12 &&& s >>> 16) &&& 15)
theorem S_R_crossingsOf {X : Mem} {s : Nat} (hs : s < 1048576) : CM 1 m_R_crossingsOf [.int (nI s)] X (rN (crs s) X) := by
  refine CM_of (L := [some (.int (nI s))]) 0 ok_R_crossingsOf (fun _ => Nat.le_of_ble_eq_true rfl) rfl ?_
  refine J_iload_n (i := 0) d_R_crossingsOf_0 rfl rfl ?_
  refine J_bipush (v := nI 12) d_R_crossingsOf_1 rfl ?_
  refine N_ishr d_R_crossingsOf_3 (by omega) (by omega) ?_
  refine J_iload_n (i := 0) d_R_crossingsOf_4 rfl rfl ?_
  refine J_bipush (v := nI 16) d_R_crossingsOf_5 rfl ?_
  refine N_ishr d_R_crossingsOf_7 (by omega) (by omega) ?_
  refine N_iand d_R_crossingsOf_8 ?_
  refine J_bipush (v := nI 15) d_R_crossingsOf_9 rfl ?_
  refine N_iand d_R_crossingsOf_11 ?_
  refine CS_N (av := [.int (nI (((s >>> 12) &&& (s >>> 16)) &&& 15))]) d_R_crossingsOf_12 s_R_121 (S_R_bits (and_lt' (by decide))) (by decide) rfl rfl (Nat.le_of_ble_eq_true rfl) ?_
  refine M_ir d_R_crossingsOf_15 rfl rfl ?_
  exact ⟨rfl, rfl⟩

def pens (s : Nat) : Nat := (itr (fun p (x : Nat × Nat) => if x.1.testBit p then (andn x.1 (pcs s p), x.2 + if odd s &&& pcs s p = 0 then 1 else bc (odd s &&& pcs s p) / 2) else x) (pts s, 0) 9).2
theorem pens_fst {s : Nat} : ∀ i, (itr (fun p (x : Nat × Nat) => if x.1.testBit p then (andn x.1 (pcs s p), x.2 + if odd s &&& pcs s p = 0 then 1 else bc (odd s &&& pcs s p) / 2) else x) (pts s, 0) i).1 < 512 :=
  itr_inv (fun _ (x : Nat × Nat) => x.1 < 512) (pts_lt s) (fun n x hx => by
    try dsimp only
    split
    · exact andn_lt hx
    · exact hx)
theorem pens_le (s : Nat) : pens s ≤ 144 := by
  have := itr_inv (f := (fun p (x : Nat × Nat) => if x.1.testBit p then (andn x.1 (pcs s p), x.2 + if odd s &&& pcs s p = 0 then 1 else bc (odd s &&& pcs s p) / 2) else x)) (a := (pts s, 0)) (fun n (x : Nat × Nat) => x.2 ≤ 16 * n) (Nat.le_refl 0) (fun n x hx => by
    try dsimp only
    split
    · dsimp only
      have := bc_le (odd s &&& pcs s n)
      split <;> omega
    · omega) 9
  exact this
theorem lp_R_pensOf {d : Nat} {Q : Option Value → Mem → Prop} {X : Mem} {s : Nat} (hX : Ok X) (hs : s < 1048576) (hd : 2 ≤ d) (kx : ∀ z6 : Option Value, JM d m_R_pensOf Q 84 [some (.ref 244), some (.int (nI s)), some (.int (nI ((itr (fun p (x : Nat × Nat) => if x.1.testBit p then (andn x.1 (pcs s p), x.2 + if odd s &&& pcs s p = 0 then 1 else bc (odd s &&& pcs s p) / 2) else x) (pts s, 0) 9).2))), some (.int (nI ((itr (fun p (x : Nat × Nat) => if x.1.testBit p then (andn x.1 (pcs s p), x.2 + if odd s &&& pcs s p = 0 then 1 else bc (odd s &&& pcs s p) / 2) else x) (pts s, 0) 9).1))), some (.int (nI (odd s))), some (.int (nI 9)), z6] [] X) : ∀ (n i : Nat) (z6 : Option Value), i + n = 9 → JM d m_R_pensOf Q 18 [some (.ref 244), some (.int (nI s)), some (.int (nI ((itr (fun p (x : Nat × Nat) => if x.1.testBit p then (andn x.1 (pcs s p), x.2 + if odd s &&& pcs s p = 0 then 1 else bc (odd s &&& pcs s p) / 2) else x) (pts s, 0) i).2))), some (.int (nI ((itr (fun p (x : Nat × Nat) => if x.1.testBit p then (andn x.1 (pcs s p), x.2 + if odd s &&& pcs s p = 0 then 1 else bc (odd s &&& pcs s p) / 2) else x) (pts s, 0) i).1))), some (.int (nI (odd s))), some (.int (nI i)), z6] [] X := by
  intro n
  induction n with
  | zero =>
    intro i z6 hi
    obtain rfl : i = 9 := by omega
    refine J_iload d_R_pensOf_18 rfl ?_
    refine J_bipush (v := nI 9) d_R_pensOf_20 rfl ?_
    refine N_icmp_ge (tgt := 84) d_R_pensOf_22 (by decide) (by omega) (by omega) (fun c22 => ?_) (fun c22 => absurd c22 (by omega))
    exact kx _
  | succ n ih =>
    intro i z6 hi
    generalize hx : (itr (fun p (x : Nat × Nat) => if x.1.testBit p then (andn x.1 (pcs s p), x.2 + if odd s &&& pcs s p = 0 then 1 else bc (odd s &&& pcs s p) / 2) else x) (pts s, 0) i) = x
    have hx5 : x.1 < 2147483648 := by rw [← hx]; exact Nat.lt_trans (pens_fst i) (by decide)
    refine J_iload d_R_pensOf_18 rfl ?_
    refine J_bipush (v := nI 9) d_R_pensOf_20 rfl ?_
    refine N_icmp_ge (tgt := 84) d_R_pensOf_22 (by decide) (by omega) (by omega) (fun c22 => absurd c22 (by omega)) (fun c22 => ?_)
    refine J_iload_n (i := 3) d_R_pensOf_25 rfl rfl ?_
    refine J_iload d_R_pensOf_26 rfl ?_
    refine CS_B (av := [.int (nI x.1), .int (nI i)]) d_R_pensOf_28 s_R_94 (S_R_has hx5 (by omega)) (by omega) rfl rfl (Nat.le_of_ble_eq_true rfl) ?_
    refine B_if_ne (tgt := 37) d_R_pensOf_31 (by decide) (fun c31 => ?_) (fun c31 => ?_)
    · refine J_aload_n (i := 0) d_R_pensOf_37 rfl rfl ?_
      refine J_iload_n (i := 1) d_R_pensOf_38 rfl rfl ?_
      refine J_iload d_R_pensOf_39 rfl ?_
      refine CV_N (av := [.int (nI s), .int (nI i)]) d_R_pensOf_41 s_R_118 (M_rcv rfl (by decide) rfl) (S_R_pieceOf hX (by omega) (by omega)) (by omega) rfl rfl (Nat.le_of_ble_eq_true rfl) ?_
      refine J_istore (L1 := [some (.ref 244), some (.int (nI s)), some (.int (nI x.2)), some (.int (nI x.1)), some (.int (nI (odd s))), some (.int (nI i)), some (.int (nI (pcs s i)))]) d_R_pensOf_44 (by decide) rfl ?_
      refine J_iload_n (i := 3) d_R_pensOf_46 rfl rfl ?_
      refine J_iload d_R_pensOf_47 rfl ?_
      refine J_iconst (v := (-1)) d_R_pensOf_49 rfl ?_
      refine J_ixor d_R_pensOf_50 ?_
      refine J_iand d_R_pensOf_51 ?_
      refine I_ton (n := andn x.1 (pcs s i)) (nI_andn x.1 (pcs s i)) ?_
      refine N_nm (fun v52 hv52 => ?_)
      refine J_istore_n (i := 3) (L1 := [some (.ref 244), some (.int (nI s)), some (.int (nI x.2)), some (.int (nI v52)), some (.int (nI (odd s))), some (.int (nI i)), some (.int (nI (pcs s i)))]) d_R_pensOf_52 rfl (by decide) rfl ?_
      refine J_iload_n (i := 2) d_R_pensOf_53 rfl rfl ?_
      refine J_iload d_R_pensOf_54 rfl ?_
      refine J_iload d_R_pensOf_56 rfl ?_
      refine N_iand d_R_pensOf_58 ?_
      refine N_if_ne (tgt := 66) d_R_pensOf_59 (by decide) (and_lt (Nat.lt_trans (odd_lt s) (by decide))) (fun c59 => ?_) (fun c59 => ?_)
      · refine J_iload d_R_pensOf_66 rfl ?_
        refine J_iload d_R_pensOf_68 rfl ?_
        refine N_iand d_R_pensOf_70 ?_
        refine CS_N (av := [.int (nI ((odd s) &&& (pcs s i)))]) d_R_pensOf_71 s_R_121 (S_R_bits (and_lt (Nat.lt_trans (odd_lt s) (by decide)))) (by omega) rfl rfl (Nat.le_of_ble_eq_true rfl) ?_
        refine J_iconst (v := nI 2) d_R_pensOf_74 rfl ?_
        refine N_idiv d_R_pensOf_75 (by first | omega | exact Nat.lt_of_le_of_lt (bc_le _) (by decide)) (by first | omega | exact Nat.lt_of_le_of_lt (bc_le _) (by decide)) (by first | omega | exact Nat.lt_of_le_of_lt (bc_le _) (by decide)) ?_
        refine N_iadd d_R_pensOf_76 ?_
        refine N_nm (fun v77 hv77 => ?_)
        refine J_istore_n (i := 2) (L1 := [some (.ref 244), some (.int (nI s)), some (.int (nI v77)), some (.int (nI v52)), some (.int (nI (odd s))), some (.int (nI i)), some (.int (nI (pcs s i)))]) d_R_pensOf_77 rfl (by decide) rfl ?_
        refine N_iinc (a := i) (c := 1) (L1 := [some (.ref 244), some (.int (nI s)), some (.int (nI v77)), some (.int (nI v52)), some (.int (nI (odd s))), some (.int (nI (i + 1))), some (.int (nI (pcs s i)))]) d_R_pensOf_78 rfl rfl (by decide) rfl ?_
        refine J_goto (tgt := 18) d_R_pensOf_81 (by decide) ?_
        exact (ih (i + 1) _ (by omega)).eq (by rw [show itr (fun p (x : Nat × Nat) => if x.1.testBit p then (andn x.1 (pcs s p), x.2 + if odd s &&& pcs s p = 0 then 1 else bc (odd s &&& pcs s p) / 2) else x) (pts s, 0) (i + 1) = (v52, v77) from itr_g hx (by first | (simp [-List.getD_eq_getElem?_getD, c22, c31, hv52, c59, hv77]; done) | (split <;> omega) | (dsimp only; split <;> omega))]) rfl rfl
      · refine J_iconst (v := nI 1) d_R_pensOf_62 rfl ?_
        refine J_goto (tgt := 76) d_R_pensOf_63 (by decide) ?_
        refine N_iadd d_R_pensOf_76 ?_
        refine J_istore_n (i := 2) (L1 := [some (.ref 244), some (.int (nI s)), some (.int (nI (x.2 + 1))), some (.int (nI v52)), some (.int (nI (odd s))), some (.int (nI i)), some (.int (nI (pcs s i)))]) d_R_pensOf_77 rfl (by decide) rfl ?_
        refine N_iinc (a := i) (c := 1) (L1 := [some (.ref 244), some (.int (nI s)), some (.int (nI (x.2 + 1))), some (.int (nI v52)), some (.int (nI (odd s))), some (.int (nI (i + 1))), some (.int (nI (pcs s i)))]) d_R_pensOf_78 rfl rfl (by decide) rfl ?_
        refine J_goto (tgt := 18) d_R_pensOf_81 (by decide) ?_
        exact (ih (i + 1) _ (by omega)).eq (by rw [show itr (fun p (x : Nat × Nat) => if x.1.testBit p then (andn x.1 (pcs s p), x.2 + if odd s &&& pcs s p = 0 then 1 else bc (odd s &&& pcs s p) / 2) else x) (pts s, 0) (i + 1) = (v52, (x.2 + 1)) from itr_g hx (by first | (simp [-List.getD_eq_getElem?_getD, c22, c31, hv52, c59]; done) | (split <;> omega) | (dsimp only; split <;> omega))]) rfl rfl
    · refine J_goto (tgt := 78) d_R_pensOf_34 (by decide) ?_
      refine N_iinc (a := i) (c := 1) (L1 := [some (.ref 244), some (.int (nI s)), some (.int (nI x.2)), some (.int (nI x.1)), some (.int (nI (odd s))), some (.int (nI (i + 1))), z6]) d_R_pensOf_78 rfl rfl (by decide) rfl ?_
      refine J_goto (tgt := 18) d_R_pensOf_81 (by decide) ?_
      exact (ih (i + 1) _ (by omega)).eq (by rw [show itr (fun p (x : Nat × Nat) => if x.1.testBit p then (andn x.1 (pcs s p), x.2 + if odd s &&& pcs s p = 0 then 1 else bc (odd s &&& pcs s p) / 2) else x) (pts s, 0) (i + 1) = (x.1, x.2) from itr_g hx (by first | (simp [-List.getD_eq_getElem?_getD, c22, c31]; done) | (split <;> omega) | (dsimp only; split <;> omega))]) rfl rfl

theorem S_R_pensOf {X : Mem} {s : Nat} (hX : Ok X) (hs : s < 1048576) : CM 3 m_R_pensOf [.ref 244, .int (nI s)] X (rN (pens s) X) := by
  refine CM_of (L := [some (.ref 244), some (.int (nI s)), none, none, none, none, none]) 5 ok_R_pensOf (fun _ => Nat.le_of_ble_eq_true rfl) rfl ?_
  refine J_iconst (v := nI 0) d_R_pensOf_0 rfl ?_
  refine J_istore_n (i := 2) (L1 := [some (.ref 244), some (.int (nI s)), some (.int (nI 0)), none, none, none, none]) d_R_pensOf_1 rfl (by decide) rfl ?_
  refine J_aload_n (i := 0) d_R_pensOf_2 rfl rfl ?_
  refine J_iload_n (i := 1) d_R_pensOf_3 rfl rfl ?_
  refine CV_N (av := [.int (nI s)]) d_R_pensOf_4 s_R_114 (M_rcv rfl (by decide) rfl) (S_R_pointsOf hX (by omega)) (by decide) rfl rfl (Nat.le_of_ble_eq_true rfl) ?_
  refine J_istore_n (i := 3) (L1 := [some (.ref 244), some (.int (nI s)), some (.int (nI 0)), some (.int (nI (pts s))), none, none, none]) d_R_pensOf_7 rfl (by decide) rfl ?_
  refine J_aload_n (i := 0) d_R_pensOf_8 rfl rfl ?_
  refine J_iload_n (i := 1) d_R_pensOf_9 rfl rfl ?_
  refine CV_N (av := [.int (nI s)]) d_R_pensOf_10 s_R_127 (M_rcv rfl (by decide) rfl) (S_R_oddOf hX (by omega)) (by decide) rfl rfl (Nat.le_of_ble_eq_true rfl) ?_
  refine J_istore (L1 := [some (.ref 244), some (.int (nI s)), some (.int (nI 0)), some (.int (nI (pts s))), some (.int (nI (odd s))), none, none]) d_R_pensOf_13 (by decide) rfl ?_
  refine J_iconst (v := nI 0) d_R_pensOf_15 rfl ?_
  refine J_istore (L1 := [some (.ref 244), some (.int (nI s)), some (.int (nI 0)), some (.int (nI (pts s))), some (.int (nI (odd s))), some (.int (nI 0)), none]) d_R_pensOf_16 (by decide) rfl ?_
  refine lp_R_pensOf hX hs (by decide) (fun z6 => ?_) 9 0 _ (by omega)
  refine J_iload_n (i := 2) d_R_pensOf_84 rfl rfl ?_
  refine M_ir d_R_pensOf_85 rfl rfl ?_
  exact ⟨rfl, rfl⟩

def isLine (s p : Nat) : Bool := if s = 0 then true else (pts s).testBit p && (decide (pens s = 1) && (decide (odd s = 0) || (odd s).testBit p))
theorem S_R_isLineFrom {X : Mem} {s p : Nat} (hX : Ok X) (hs : s < 1048576) (hp : p < 9) : CM 4 m_R_isLineFrom [.ref 244, .int (nI s), .int (nI p)] X (rB (isLine s p) X) := by
  refine CM_of (L := [some (.ref 244), some (.int (nI s)), some (.int (nI p)), none]) 1 ok_R_isLineFrom (fun _ => Nat.le_of_ble_eq_true rfl) rfl ?_
  refine J_iload_n (i := 1) d_R_isLineFrom_0 rfl rfl ?_
  refine N_if_ne (tgt := 6) d_R_isLineFrom_1 (by decide) (by first | omega | exact Nat.lt_of_le_of_lt (pens_le s) (by decide) | exact Nat.lt_trans (odd_lt s) (by decide)) (fun c1 => ?_) (fun c1 => ?_)
  · refine J_aload_n (i := 0) d_R_isLineFrom_6 rfl rfl ?_
    refine J_iload_n (i := 1) d_R_isLineFrom_7 rfl rfl ?_
    refine CV_N (av := [.int (nI s)]) d_R_isLineFrom_8 s_R_127 (M_rcv rfl (by decide) rfl) (S_R_oddOf hX (by omega)) (by decide) rfl rfl (Nat.le_of_ble_eq_true rfl) ?_
    refine J_istore_n (i := 3) (L1 := [some (.ref 244), some (.int (nI s)), some (.int (nI p)), some (.int (nI (odd s)))]) d_R_isLineFrom_11 rfl (by decide) rfl ?_
    refine J_aload_n (i := 0) d_R_isLineFrom_12 rfl rfl ?_
    refine J_iload_n (i := 1) d_R_isLineFrom_13 rfl rfl ?_
    refine CV_N (av := [.int (nI s)]) d_R_isLineFrom_14 s_R_114 (M_rcv rfl (by decide) rfl) (S_R_pointsOf hX (by omega)) (by decide) rfl rfl (Nat.le_of_ble_eq_true rfl) ?_
    refine J_iload_n (i := 2) d_R_isLineFrom_17 rfl rfl ?_
    refine CS_B (av := [.int (nI (pts s)), .int (nI p)]) d_R_isLineFrom_18 s_R_94 (S_R_has (Nat.lt_trans (pts_lt s) (by decide)) (by omega)) (by decide) rfl rfl (Nat.le_of_ble_eq_true rfl) ?_
    refine B_if_eq (tgt := 49) d_R_isLineFrom_21 (by decide) (fun c21 => ?_) (fun c21 => ?_)
    · refine J_iconst (v := nI 0) d_R_isLineFrom_49 rfl ?_
      refine J.eq (st1 := [.int (b2i false)]) ?_ rfl rfl rfl
      refine M_ir d_R_isLineFrom_50 rfl b2i_nar ?_
      exact ⟨by simp [isLine, c1, c21], rfl⟩
    · refine J_aload_n (i := 0) d_R_isLineFrom_24 rfl rfl ?_
      refine J_iload_n (i := 1) d_R_isLineFrom_25 rfl rfl ?_
      refine CV_N (av := [.int (nI s)]) d_R_isLineFrom_26 s_R_130 (M_rcv rfl (by decide) rfl) (S_R_pensOf hX (by omega)) (by decide) rfl rfl (Nat.le_of_ble_eq_true rfl) ?_
      refine J_iconst (v := nI 1) d_R_isLineFrom_29 rfl ?_
      refine N_icmp_ne (tgt := 49) d_R_isLineFrom_30 (by decide) (by first | omega | exact Nat.lt_of_le_of_lt (pens_le s) (by decide) | exact Nat.lt_trans (odd_lt s) (by decide)) (by first | omega | exact Nat.lt_of_le_of_lt (pens_le s) (by decide) | exact Nat.lt_trans (odd_lt s) (by decide)) (fun c30 => ?_) (fun c30 => ?_)
      · refine J_iconst (v := nI 0) d_R_isLineFrom_49 rfl ?_
        refine J.eq (st1 := [.int (b2i false)]) ?_ rfl rfl rfl
        refine M_ir d_R_isLineFrom_50 rfl b2i_nar ?_
        exact ⟨by simp [isLine, c1, c21, c30], rfl⟩
      · refine J_iload_n (i := 3) d_R_isLineFrom_33 rfl rfl ?_
        refine N_if_eq (tgt := 45) d_R_isLineFrom_34 (by decide) (by first | omega | exact Nat.lt_of_le_of_lt (pens_le s) (by decide) | exact Nat.lt_trans (odd_lt s) (by decide)) (fun c34 => ?_) (fun c34 => ?_)
        · refine J_iconst (v := nI 1) d_R_isLineFrom_45 rfl ?_
          refine J_goto (tgt := 50) d_R_isLineFrom_46 (by decide) ?_
          refine J.eq (st1 := [.int (b2i true)]) ?_ rfl rfl rfl
          refine M_ir d_R_isLineFrom_50 rfl b2i_nar ?_
          exact ⟨by simp [isLine, c1, c21, c30, c34], rfl⟩
        · refine J_iload_n (i := 3) d_R_isLineFrom_37 rfl rfl ?_
          refine J_iload_n (i := 2) d_R_isLineFrom_38 rfl rfl ?_
          refine CS_B (av := [.int (nI (odd s)), .int (nI p)]) d_R_isLineFrom_39 s_R_94 (S_R_has (Nat.lt_trans (odd_lt s) (by decide)) (by omega)) (by decide) rfl rfl (Nat.le_of_ble_eq_true rfl) ?_
          refine B_if_eq (tgt := 49) d_R_isLineFrom_42 (by decide) (fun c42 => ?_) (fun c42 => ?_)
          · refine J_iconst (v := nI 0) d_R_isLineFrom_49 rfl ?_
            refine J.eq (st1 := [.int (b2i false)]) ?_ rfl rfl rfl
            refine M_ir d_R_isLineFrom_50 rfl b2i_nar ?_
            exact ⟨by simp [isLine, c1, c21, c30, c34, c42], rfl⟩
          · refine J_iconst (v := nI 1) d_R_isLineFrom_45 rfl ?_
            refine J_goto (tgt := 50) d_R_isLineFrom_46 (by decide) ?_
            refine J.eq (st1 := [.int (b2i true)]) ?_ rfl rfl rfl
            refine M_ir d_R_isLineFrom_50 rfl b2i_nar ?_
            exact ⟨by simp [isLine, c1, c21, c30, c34, c42], rfl⟩
  · refine J_iconst (v := nI 1) d_R_isLineFrom_4 rfl ?_
    refine J.eq (st1 := [.int (b2i true)]) ?_ rfl rfl rfl
    refine M_ir d_R_isLineFrom_5 rfl b2i_nar ?_
    exact ⟨by simp [isLine, c1], rfl⟩

