/-- the first of k sets from s on of which P is true -/
def fsS (P : Nat → Bool) : Nat → Nat → Int32
  | 0, _ => -1
  | k + 1, s => if P s then nI s else fsS P k (nxS s)
def ctS (P : Nat → Bool) : Nat → Nat → Nat
  | 0, _ => 0
  | k + 1, s => (if P s then 1 else 0) + ctS P k (nxS s)
theorem ctS_le (P : Nat → Bool) : ∀ k s, ctS P k s ≤ k
  | 0, _ => Nat.le_refl 0
  | k + 1, s => by
    have := ctS_le P k (nxS s)
    rw [ctS]
    split <;> omega
/-- k sets are left from s on -/
def lfS (k s : Nat) : Prop := (0 < k ∧ chS k s = true) ∨ (k = 1 ∧ s = 0)
theorem lfS_lt {k s : Nat} (h : lfS (k + 1) s) : s < 1048576 := by
  rcases h with ⟨_, h⟩ | ⟨_, h⟩
  · rw [chS, Bool.and_eq_true] at h
    exact (so_f h.1).2.1
  · omega
theorem lfS_s {k s : Nat} (h : lfS (k + 2) s) : lfS (k + 1) (nxS s) := by
  rcases h with ⟨_, h⟩ | ⟨h, _⟩
  · rw [chS, Bool.and_eq_true] at h
    exact Or.inl ⟨by omega, h.2⟩
  · omega
theorem lfS_nx {X : Mem} {k s : Nat} (h : lfS (k + 1) s) : CM 2 m_K_nextOf [.int (nI s)] X (rN (nxS s) X) := by
  rcases h with ⟨_, h⟩ | ⟨_, rfl⟩
  · rw [chS, Bool.and_eq_true] at h
    exact S_K_nextOf h.1
  · exact S_K_nextOf0
theorem lfS_ns {X : Mem} {k s : Nat} (h : lfS (k + 1) s) : CM 0 m_R_nextSet [.int (nI s)] X (rI (if k = 0 then (-1) else nI (nxS s)) X) := by
  rcases h with ⟨_, h⟩ | ⟨e, rfl⟩
  · rw [chS, Bool.and_eq_true] at h
    have h1 := S_R_nextSet (X := X) h.1
    have h2 := (so_f h.1).1
    rw [nsI, if_neg (by omega)] at h1
    cases k with
    | zero =>
      rw [if_pos (of_decide_eq_true h.2)] at h1
      exact h1
    | succ k =>
      rw [if_neg (by omega)]
      have h3 : nxS s < 1048576 := lfS_lt (Or.inl ⟨by omega, h.2⟩)
      rw [if_neg (by omega)] at h1
      exact h1
  · rw [if_pos (by omega)]
    exact S_R_nextSet0
theorem lfS_0 : ∀ k, k ≤ 4 → lfS (cN k) ((1 <<< k) - 1) := by
  intro k hk
  have g : k = 0 ∨ k = 1 ∨ k = 2 ∨ k = 3 ∨ k = 4 := by omega
  rcases g with rfl | rfl | rfl | rfl | rfl
  · exact Or.inr ⟨by decide, by decide⟩
  · exact Or.inl ⟨by decide, chS_1⟩
  · exact Or.inl ⟨by decide, chS_2⟩
  · exact Or.inl ⟨by decide, chS_3⟩
  · exact Or.inl ⟨by decide, chS_4⟩
theorem cN_pos : ∀ k, k ≤ 4 → 0 < cN k := by decide
def inB (a b : Nat) : Bool := a &&& b == a
theorem sub_tb {a b : Nat} : (a &&& b = a) ↔ ∀ k, a.testBit k = true → b.testBit k = true := by
  constructor
  · intro h k hk
    have := congrArg (fun x => x.testBit k) h
    simp only [Nat.testBit_and, hk, Bool.true_and] at this
    exact this
  · intro h
    apply Nat.eq_of_testBit_eq
    intro k
    rw [Nat.testBit_and]
    cases e : a.testBit k
    · rfl
    · rw [h k e]; rfl
theorem andn_sub {a b : Nat} : andn a b = 0 ↔ a &&& b = a := by
  rw [sub_tb]
  constructor
  · intro h k hk
    have := congrArg (fun x => x.testBit k) h
    simp only [andn_tb, Nat.zero_testBit, hk, Bool.true_and, Bool.not_eq_false'] at this
    exact this
  · intro h
    apply Nat.eq_of_testBit_eq
    intro k
    rw [andn_tb, Nat.zero_testBit]
    cases e : a.testBit k
    · rfl
    · rw [h k e]; rfl
theorem pcn_xsub : ∀ (f a b : Nat), a &&& b = a → pcn f (a ^^^ b) + pcn f a = pcn f b
  | 0, _, _, _ => rfl
  | f + 1, a, b, h => by
    have h2 : a / 2 &&& b / 2 = a / 2 := by rw [← Nat.and_div_two, h]
    have ih := pcn_xsub f (a / 2) (b / 2) h2
    have h3 : (a ^^^ b) / 2 = a / 2 ^^^ b / 2 := Nat.xor_div_two
    have h4 := sub_tb.mp h 0
    have h5 : (a ^^^ b) % 2 + a % 2 = b % 2 := by
      rw [mod2_tb, mod2_tb a, mod2_tb b, Nat.testBit_xor]
      cases e : a.testBit 0
      · cases b.testBit 0 <;> rfl
      · rw [h4 e]; rfl
    rw [pcn, pcn, pcn, h3]
    omega
theorem mvs_sub {a b w : Nat} (hw : w < 8) (h : a &&& b = a) : mvs w a &&& mvs w b = mvs w a := by
  rw [sub_tb] at h ⊢
  intro k hk
  rcases Nat.lt_or_ge k 20 with z | z
  · rw [mvs_tb hw z] at hk ⊢
    exact h _ hk
  · rw [lt_tb (f := 20) mvs_lt z] at hk
    cases hk
/-- of one shape: nearer than one may be -/
def nsB (s t k : Nat) : Bool := (s &&& t == s || s &&& t == t) && decide (bc (s ^^^ t) ≤ k)
theorem md_ex {a b k : Nat} : mdB a b k = true ↔ (∃ w, w < 8 ∧ a &&& mvs w b = a) ∧ bc b ≤ bc a + k := by
  have hl := wi_le a b
  rw [mdB, Bool.and_eq_true, decide_eq_true_eq, bne_iff_ne]
  constructor
  · intro h
    refine ⟨⟨wiN a b, by omega, ?_⟩, h.2⟩
    exact andn_sub.mp (beq_iff_eq.mp (fstN_t (insB a b) 8 0 (by have : wiN a b = fstN (insB a b) 0 8 := rfl; omega)))
  · intro h
    refine ⟨fun q => ?_, h.2⟩
    obtain ⟨⟨w, hw, e⟩, _⟩ := h
    have g : ∀ n i, fstN (insB a b) i n = i + n → ∀ w, i ≤ w → w < i + n → insB a b w = false := by
      intro n
      induction n with
      | zero => intro i _ w h1 h2; omega
      | succ n ih =>
        intro i e w h1 h2
        rw [fstN] at e
        by_cases z : insB a b i = true
        · rw [if_pos z] at e; omega
        · rw [if_neg z] at e
          rcases Nat.lt_or_ge i w with q | q
          · exact ih (i + 1) (by omega) w (by omega) (by omega)
          · rw [show w = i by omega]
            exact Bool.not_eq_true _ ▸ z
    have := g 8 0 q w (by omega) (by omega)
    rw [ins_t (andn_sub.mpr e)] at this
    cases this
theorem ns_nr {s r k : Nat} (hs : s < 1048576) (hr : r < 1048576) : (∃ w, w < 8 ∧ nsB s (mvs w r) k = true) ↔ nrB r s k = true := by
  rw [nrB, Bool.or_eq_true, md_ex, md_ex]
  constructor
  · rintro ⟨w, hw, h⟩
    rw [nsB, Bool.and_eq_true, Bool.or_eq_true, beq_iff_eq, beq_iff_eq, decide_eq_true_eq] at h
    have hb := mvs_bc hw hr
    rcases h with ⟨h1 | h1, h2⟩
    · right
      have := pcn_xsub 32 s (mvs w r) h1
      exact ⟨⟨w, hw, h1⟩, by unfold bc at *; omega⟩
    · left
      rw [Nat.and_comm] at h1
      have h3 := mvs_sub (mv_back w hw).1 h1
      rw [mvs_inv hw hr] at h3
      have := pcn_xsub 32 (mvs w r) s h1
      rw [Nat.xor_comm] at this
      exact ⟨⟨inW w, (mv_back w hw).1, h3⟩, by unfold bc at *; omega⟩
  · rintro (⟨⟨w, hw, h1⟩, h2⟩ | ⟨⟨w, hw, h1⟩, h2⟩)
    · have h3 := mvs_sub (mv_back w hw).1 h1
      have hb := mvs_bc (mv_back w hw).1 hr
      rw [mvs_inv hw hs] at h3
      have := pcn_xsub 32 (mvs (inW w) r) s h3
      rw [Nat.xor_comm] at this
      refine ⟨inW w, (mv_back w hw).1, ?_⟩
      rw [nsB, Bool.and_eq_true, Bool.or_eq_true, beq_iff_eq, beq_iff_eq, decide_eq_true_eq]
      exact ⟨Or.inr (by rw [Nat.and_comm]; exact h3), by unfold bc at *; omega⟩
    · have hb := mvs_bc hw hr
      have := pcn_xsub 32 s (mvs w r) h1
      refine ⟨w, hw, ?_⟩
      rw [nsB, Bool.and_eq_true, Bool.or_eq_true, beq_iff_eq, beq_iff_eq, decide_eq_true_eq]
      exact ⟨Or.inl h1, by unfold bc at *; omega⟩
def frP (m : Nat) (rg : Nat → Nat) (k s : Nat) : Bool := allN (fun i => !nrB (rg i) s k) m
def faP (m : Nat) (rg : Nat → Nat) (k s : Nat) : Bool := allN (fun i => decide (k ≤ apN s (rg i) (nwN s (rg i)))) m
theorem allN_iff {P : Nat → Bool} : ∀ {n : Nat}, allN P n = true ↔ ∀ i, i < n → P i = true
  | 0 => ⟨fun _ i h => by omega, fun _ => rfl⟩
  | n + 1 => by
    rw [allN, Bool.and_eq_true, allN_iff]
    constructor
    · rintro ⟨h1, h2⟩ i hi
      rcases Nat.lt_or_ge i n with z | z
      · exact h1 i z
      · rw [show i = n by omega]; exact h2
    · intro h
      exact ⟨fun i hi => h i (by omega), h n (by omega)⟩
theorem frC {m : Nat} {rg : Nat → Nat} {k s : Nat} (hs : s < 1048576) (hr : ∀ i, i < m → rg i < 1048576) : allN (fun j => !nsB s (mvs (j % 8) (rg (j / 8))) k) (8 * m) = frP m rg k s := by
  apply Bool.eq_iff_iff.mpr
  rw [frP, allN_iff, allN_iff]
  constructor
  · intro h i hi
    cases e : nrB (rg i) s k
    · rfl
    · obtain ⟨w, hw, h2⟩ := (ns_nr hs (hr i hi)).mpr e
      have := h (8 * i + w) (by omega)
      rw [show (8 * i + w) % 8 = w by omega, show (8 * i + w) / 8 = i by omega, h2] at this
      cases this
  · intro h j hj
    have h1 := h (j / 8) (by omega)
    cases e : nsB s (mvs (j % 8) (rg (j / 8))) k
    · rfl
    · rw [(ns_nr hs (hr (j / 8) (by omega))).mp ⟨j % 8, by omega, e⟩] at h1
      cases h1
theorem faC {m : Nat} {rg : Nat → Nat} {k s : Nat} : allN (fun j => decide (k ≤ apN s (rg (j / 8)) (j % 8))) (8 * m) = faP m rg k s := by
  apply Bool.eq_iff_iff.mpr
  rw [faP, allN_iff, allN_iff]
  constructor
  · intro h i hi
    refine decide_eq_true (nw_iff.mpr (fun w hw => ?_))
    have := h (8 * i + w) (by omega)
    rw [show (8 * i + w) % 8 = w by omega, show (8 * i + w) / 8 = i by omega] at this
    exact of_decide_eq_true this
  · intro h j hj
    exact decide_eq_true (nw_iff.mp (of_decide_eq_true (h (j / 8) (by omega))) (j % 8) (by omega))
def freeF (m : Nat) (rg : Nat → Nat) (a b : Int32) : Int32 := if inR a 4 && inR b 20 then fsS (frP m rg (tn b)) (cN (tn a)) ((1 <<< tn a) - 1) else (-1)
def apartF (m : Nat) (rg : Nat → Nat) (a b : Int32) : Int32 := if inR a 4 && inR b 20 then nI (ctS (faP m rg (tn b)) (cN (tn a)) ((1 <<< tn a) - 1)) else (-1)
theorem lp_O_isFreeOf {X : Mem} {rg : Nat → Nat} {c s k : Nat} {Q : Option Value → Mem → Prop} (hX : Ok X) (hl : shL rg c (X.2.1 221)) (hc : c ≤ 64) (hs : s < 1048576) (hk : k ≤ 20) (kq : Q (some (.int (b2i (allN (fun j => !nsB s (mvs (j % 8) (rg (j / 8))) k) c)))) X) : ∀ (f j : Nat) (z5 : Option Value) (z6 : Option Value), j + f = c → (∀ q, q < j → (fun j => !nsB s (mvs (j % 8) (rg (j / 8))) k) q = true) → JM 1 m_O_isFreeOf Q 3 [some (.ref 8), some (.int (nI c)), some (.int (nI s)), some (.int (nI k)), some (.int (nI j)), z5, z6] [] X := by
  intro f
  induction f with
  | zero =>
    intro j z5 z6 hj hj2
    obtain rfl : j = c := by omega
    have e : allN (fun j => !nsB s (mvs (j % 8) (rg (j / 8))) k) j = true := allN_yes hj2
    rw [e] at kq
    refine J_iload d_O_isFreeOf_3 rfl ?_
    refine J_iload_n (i := 1) d_O_isFreeOf_5 rfl rfl ?_
    refine N_icmp_ge (tgt := 66) d_O_isFreeOf_6 (by decide) (by omega) (by omega) (fun c6 => ?_) (fun c6 => absurd c6 (by omega))
    refine J_iconst (v := nI 1) d_O_isFreeOf_66 rfl ?_
    refine J.eq (st1 := [.int (b2i true)]) ?_ rfl rfl rfl
    refine M_ir d_O_isFreeOf_67 rfl b2i_nar ?_
    exact kq
  | succ f ih =>
    intro j z5 z6 hj hj2
    refine J_iload d_O_isFreeOf_3 rfl ?_
    refine J_iload_n (i := 1) d_O_isFreeOf_5 rfl rfl ?_
    refine N_icmp_ge (tgt := 66) d_O_isFreeOf_6 (by decide) (by first | omega | exact Nat.lt_trans (and_lt hs) (by decide) | exact Nat.lt_trans (and_lt' mvs_lt) (by decide) | exact Nat.lt_trans mvs_lt (by decide)) (by first | omega | exact Nat.lt_trans (and_lt hs) (by decide) | exact Nat.lt_trans (and_lt' mvs_lt) (by decide) | exact Nat.lt_trans mvs_lt (by decide)) (fun c6 => absurd c6 (by omega)) (fun c6 => ?_)
    refine J_aload_n (i := 0) d_O_isFreeOf_9 rfl rfl ?_
    refine M_getR (b := 221) d_O_isFreeOf_10 f_O_62 rfl rfl rfl ?_
    refine J_iload d_O_isFreeOf_13 rfl ?_
    refine N_iald (x := (nI (mvs (j % 8) (rg (j / 8))))) d_O_isFreeOf_15 rfl (by first | omega | exact Nat.lt_trans (and_lt hs) (by decide) | exact Nat.lt_trans (and_lt' mvs_lt) (by decide) | exact Nat.lt_trans mvs_lt (by decide)) (ltL hX (a := 221) (n := 64) (by decide) rfl (by first | omega | exact Nat.lt_trans (and_lt hs) (by decide) | exact Nat.lt_trans (and_lt' mvs_lt) (by decide) | exact Nat.lt_trans mvs_lt (by decide))) (hl.2 j (by omega)) ?_
    refine J_istore (L1 := [some (.ref 8), some (.int (nI c)), some (.int (nI s)), some (.int (nI k)), some (.int (nI j)), some (.int (nI (mvs (j % 8) (rg (j / 8))))), z6]) d_O_isFreeOf_16 (by decide) rfl ?_
    refine J_iload_n (i := 2) d_O_isFreeOf_18 rfl rfl ?_
    refine J_iload d_O_isFreeOf_19 rfl ?_
    refine N_iand d_O_isFreeOf_21 ?_
    refine J_iload_n (i := 2) d_O_isFreeOf_22 rfl rfl ?_
    refine N_icmp_eq (tgt := 35) d_O_isFreeOf_23 (by decide) (by first | omega | exact Nat.lt_trans (and_lt hs) (by decide) | exact Nat.lt_trans (and_lt' mvs_lt) (by decide) | exact Nat.lt_trans mvs_lt (by decide)) (by first | omega | exact Nat.lt_trans (and_lt hs) (by decide) | exact Nat.lt_trans (and_lt' mvs_lt) (by decide) | exact Nat.lt_trans mvs_lt (by decide)) (fun c23 => ?_) (fun c23 => ?_)
    · refine J_iconst (v := nI 1) d_O_isFreeOf_35 rfl ?_
      refine J_goto (tgt := 40) d_O_isFreeOf_36 (by decide) ?_
      refine J_istore (L1 := [some (.ref 8), some (.int (nI c)), some (.int (nI s)), some (.int (nI k)), some (.int (nI j)), some (.int (nI (mvs (j % 8) (rg (j / 8))))), some (.int (nI 1))]) d_O_isFreeOf_40 (by decide) rfl ?_
      refine J_iload d_O_isFreeOf_42 rfl ?_
      refine N_if_eq (tgt := 60) d_O_isFreeOf_44 (by decide) (by first | omega | exact Nat.lt_trans (and_lt hs) (by decide) | exact Nat.lt_trans (and_lt' mvs_lt) (by decide) | exact Nat.lt_trans mvs_lt (by decide)) (fun c44 => absurd c44 (by decide)) (fun c44 => ?_)
      refine J_iload_n (i := 2) d_O_isFreeOf_47 rfl rfl ?_
      refine J_iload d_O_isFreeOf_48 rfl ?_
      refine N_ixor d_O_isFreeOf_50 ?_
      refine CS_N (av := [.int (nI (s ^^^ (mvs (j % 8) (rg (j / 8)))))]) d_O_isFreeOf_51 s_O_175 (S_bitCount (xor_lt 20 hs mvs_lt)) (by decide) rfl rfl (Nat.le_of_ble_eq_true rfl) ?_
      refine N_nm (fun vB hvB => ?_)
      have hvB2 : vB ≤ 32 := by rw [hvB]; exact bc_le _
      refine J_iload_n (i := 3) d_O_isFreeOf_54 rfl rfl ?_
      refine N_icmp_gt (tgt := 60) d_O_isFreeOf_55 (by decide) (by first | omega | exact Nat.lt_trans (and_lt hs) (by decide) | exact Nat.lt_trans (and_lt' mvs_lt) (by decide) | exact Nat.lt_trans mvs_lt (by decide)) (by first | omega | exact Nat.lt_trans (and_lt hs) (by decide) | exact Nat.lt_trans (and_lt' mvs_lt) (by decide) | exact Nat.lt_trans mvs_lt (by decide)) (fun c55 => ?_) (fun c55 => ?_)
      · refine N_iinc (a := j) (c := 1) (L1 := [some (.ref 8), some (.int (nI c)), some (.int (nI s)), some (.int (nI k)), some (.int (nI (j + 1))), some (.int (nI (mvs (j % 8) (rg (j / 8))))), some (.int (nI 1))]) d_O_isFreeOf_60 rfl rfl (by decide) rfl ?_
        refine J_goto (tgt := 3) d_O_isFreeOf_63 (by decide) ?_
        exact ih (j + 1) _ _ (by omega) (fun q hq => by
          rcases Nat.lt_or_ge q j with z | z
          · exact hj2 q z
          · obtain rfl : j = q := by omega
            show (!nsB s (mvs (j % 8) (rg (j / 8))) k) = true
            unfold nsB
            rw [decide_eq_false (show ¬ bc (s ^^^ (mvs (j % 8) (rg (j / 8)))) ≤ k by rw [← show vB = bc (s ^^^ (mvs (j % 8) (rg (j / 8)))) from hvB]; omega), Bool.and_false]; rfl)
      · refine J_iconst (v := nI 0) d_O_isFreeOf_58 rfl ?_
        refine J.eq (st1 := [.int (b2i false)]) ?_ rfl rfl rfl
        refine M_ir d_O_isFreeOf_59 rfl b2i_nar ?_
        have e : allN (fun j => !nsB s (mvs (j % 8) (rg (j / 8))) k) c = false := allN_no (i := j) (by
          show (!nsB s (mvs (j % 8) (rg (j / 8))) k) = false
          unfold nsB
          rw [show (s &&& (mvs (j % 8) (rg (j / 8))) == s) = true from beq_iff_eq.mpr c23, Bool.true_or]
          rw [decide_eq_true (show bc (s ^^^ (mvs (j % 8) (rg (j / 8)))) ≤ k by rw [← show vB = bc (s ^^^ (mvs (j % 8) (rg (j / 8)))) from hvB]; omega)]
          rfl) (by omega)
        rw [e] at kq
        exact kq
    · refine J_iload_n (i := 2) d_O_isFreeOf_26 rfl rfl ?_
      refine J_iload d_O_isFreeOf_27 rfl ?_
      refine N_iand d_O_isFreeOf_29 ?_
      refine J_iload d_O_isFreeOf_30 rfl ?_
      refine N_icmp_ne (tgt := 39) d_O_isFreeOf_32 (by decide) (by first | omega | exact Nat.lt_trans (and_lt hs) (by decide) | exact Nat.lt_trans (and_lt' mvs_lt) (by decide) | exact Nat.lt_trans mvs_lt (by decide)) (by first | omega | exact Nat.lt_trans (and_lt hs) (by decide) | exact Nat.lt_trans (and_lt' mvs_lt) (by decide) | exact Nat.lt_trans mvs_lt (by decide)) (fun c32 => ?_) (fun c32 => ?_)
      · refine J_iconst (v := nI 0) d_O_isFreeOf_39 rfl ?_
        refine J_istore (L1 := [some (.ref 8), some (.int (nI c)), some (.int (nI s)), some (.int (nI k)), some (.int (nI j)), some (.int (nI (mvs (j % 8) (rg (j / 8))))), some (.int (nI 0))]) d_O_isFreeOf_40 (by decide) rfl ?_
        refine J_iload d_O_isFreeOf_42 rfl ?_
        refine N_if_eq (tgt := 60) d_O_isFreeOf_44 (by decide) (by first | omega | exact Nat.lt_trans (and_lt hs) (by decide) | exact Nat.lt_trans (and_lt' mvs_lt) (by decide) | exact Nat.lt_trans mvs_lt (by decide)) (fun c44 => ?_) (fun c44 => absurd c44 (by decide))
        refine N_iinc (a := j) (c := 1) (L1 := [some (.ref 8), some (.int (nI c)), some (.int (nI s)), some (.int (nI k)), some (.int (nI (j + 1))), some (.int (nI (mvs (j % 8) (rg (j / 8))))), some (.int (nI 0))]) d_O_isFreeOf_60 rfl rfl (by decide) rfl ?_
        refine J_goto (tgt := 3) d_O_isFreeOf_63 (by decide) ?_
        exact ih (j + 1) _ _ (by omega) (fun q hq => by
          rcases Nat.lt_or_ge q j with z | z
          · exact hj2 q z
          · obtain rfl : j = q := by omega
            show (!nsB s (mvs (j % 8) (rg (j / 8))) k) = true
            unfold nsB
            first | (rw [show (s &&& (mvs (j % 8) (rg (j / 8))) == s) = false from beq_eq_false_iff_ne.mpr c23, show (s &&& (mvs (j % 8) (rg (j / 8))) == (mvs (j % 8) (rg (j / 8)))) = false from beq_eq_false_iff_ne.mpr c32]; rfl))
      · refine J_iconst (v := nI 1) d_O_isFreeOf_35 rfl ?_
        refine J_goto (tgt := 40) d_O_isFreeOf_36 (by decide) ?_
        refine J_istore (L1 := [some (.ref 8), some (.int (nI c)), some (.int (nI s)), some (.int (nI k)), some (.int (nI j)), some (.int (nI (mvs (j % 8) (rg (j / 8))))), some (.int (nI 1))]) d_O_isFreeOf_40 (by decide) rfl ?_
        refine J_iload d_O_isFreeOf_42 rfl ?_
        refine N_if_eq (tgt := 60) d_O_isFreeOf_44 (by decide) (by first | omega | exact Nat.lt_trans (and_lt hs) (by decide) | exact Nat.lt_trans (and_lt' mvs_lt) (by decide) | exact Nat.lt_trans mvs_lt (by decide)) (fun c44 => absurd c44 (by decide)) (fun c44 => ?_)
        refine J_iload_n (i := 2) d_O_isFreeOf_47 rfl rfl ?_
        refine J_iload d_O_isFreeOf_48 rfl ?_
        refine N_ixor d_O_isFreeOf_50 ?_
        refine CS_N (av := [.int (nI (s ^^^ (mvs (j % 8) (rg (j / 8)))))]) d_O_isFreeOf_51 s_O_175 (S_bitCount (xor_lt 20 hs mvs_lt)) (by decide) rfl rfl (Nat.le_of_ble_eq_true rfl) ?_
        refine N_nm (fun vB hvB => ?_)
        have hvB2 : vB ≤ 32 := by rw [hvB]; exact bc_le _
        refine J_iload_n (i := 3) d_O_isFreeOf_54 rfl rfl ?_
        refine N_icmp_gt (tgt := 60) d_O_isFreeOf_55 (by decide) (by first | omega | exact Nat.lt_trans (and_lt hs) (by decide) | exact Nat.lt_trans (and_lt' mvs_lt) (by decide) | exact Nat.lt_trans mvs_lt (by decide)) (by first | omega | exact Nat.lt_trans (and_lt hs) (by decide) | exact Nat.lt_trans (and_lt' mvs_lt) (by decide) | exact Nat.lt_trans mvs_lt (by decide)) (fun c55 => ?_) (fun c55 => ?_)
        · refine N_iinc (a := j) (c := 1) (L1 := [some (.ref 8), some (.int (nI c)), some (.int (nI s)), some (.int (nI k)), some (.int (nI (j + 1))), some (.int (nI (mvs (j % 8) (rg (j / 8))))), some (.int (nI 1))]) d_O_isFreeOf_60 rfl rfl (by decide) rfl ?_
          refine J_goto (tgt := 3) d_O_isFreeOf_63 (by decide) ?_
          exact ih (j + 1) _ _ (by omega) (fun q hq => by
            rcases Nat.lt_or_ge q j with z | z
            · exact hj2 q z
            · obtain rfl : j = q := by omega
              show (!nsB s (mvs (j % 8) (rg (j / 8))) k) = true
              unfold nsB
              rw [decide_eq_false (show ¬ bc (s ^^^ (mvs (j % 8) (rg (j / 8)))) ≤ k by rw [← show vB = bc (s ^^^ (mvs (j % 8) (rg (j / 8)))) from hvB]; omega), Bool.and_false]; rfl)
        · refine J_iconst (v := nI 0) d_O_isFreeOf_58 rfl ?_
          refine J.eq (st1 := [.int (b2i false)]) ?_ rfl rfl rfl
          refine M_ir d_O_isFreeOf_59 rfl b2i_nar ?_
          have e : allN (fun j => !nsB s (mvs (j % 8) (rg (j / 8))) k) c = false := allN_no (i := j) (by
            show (!nsB s (mvs (j % 8) (rg (j / 8))) k) = false
            unfold nsB
            rw [show (s &&& (mvs (j % 8) (rg (j / 8))) == (mvs (j % 8) (rg (j / 8)))) = true from beq_iff_eq.mpr c32, Bool.or_true]
            rw [decide_eq_true (show bc (s ^^^ (mvs (j % 8) (rg (j / 8)))) ≤ k by rw [← show vB = bc (s ^^^ (mvs (j % 8) (rg (j / 8)))) from hvB]; omega)]
            rfl) (by omega)
          rw [e] at kq
          exact kq
theorem S_O_isFreeOf {X : Mem} {m : Nat} {st rg : Nat → Nat} {s k : Nat} (hX : Ok X) (hS : CSt X m st rg) (hl : shL rg (8 * m) (X.2.1 221)) (hs : s < 1048576) (hk : k ≤ 20) : CM 1 m_O_isFreeOf [.ref 8, .int (nI (8 * m)), .int (nI s), .int (nI k)] X (rB (frP m rg k s) X) := by
  refine CM_of (L := [some (.ref 8), some (.int (nI (8 * m))), some (.int (nI s)), some (.int (nI k)), none, none, none]) 3 ok_O_isFreeOf (fun _ => Nat.le_of_ble_eq_true rfl) rfl ?_
  refine J_iconst (v := nI 0) d_O_isFreeOf_0 rfl ?_
  refine J_istore (L1 := [some (.ref 8), some (.int (nI (8 * m))), some (.int (nI s)), some (.int (nI k)), some (.int (nI 0)), none, none]) d_O_isFreeOf_1 (by decide) rfl ?_
  exact lp_O_isFreeOf hX hl (by have := hS.1; omega) hs hk ⟨by rw [frC hs (fun i hi => (hS.2.2.2 i (by have := hS.1; omega)).2)], rfl⟩ (8 * m) 0 _ _ (by omega) (fun q hq => by omega)

theorem lp_O_isApartFrom {X : Mem} {rg : Nat → Nat} {c s k : Nat} {Q : Option Value → Mem → Prop} (hX : Ok X) (hl : shL rg c (X.2.1 221)) (hc : c ≤ 64) (hs : s < 1048576) (hk : k ≤ 20) (kq : Q (some (.int (b2i (allN (fun j => decide (k ≤ apN s (rg (j / 8)) (j % 8))) c)))) X) : ∀ (f j : Nat), j + f = c → (∀ q, q < j → (fun j => decide (k ≤ apN s (rg (j / 8)) (j % 8))) q = true) → JM 1 m_O_isApartFrom Q 3 [some (.ref 8), some (.int (nI c)), some (.int (nI s)), some (.int (nI k)), some (.int (nI j))] [] X := by
  intro f
  induction f with
  | zero =>
    intro j hj hj2
    obtain rfl : j = c := by omega
    have e : allN (fun j => decide (k ≤ apN s (rg (j / 8)) (j % 8))) j = true := allN_yes hj2
    rw [e] at kq
    refine J_iload d_O_isApartFrom_3 rfl ?_
    refine J_iload_n (i := 1) d_O_isApartFrom_5 rfl rfl ?_
    refine N_icmp_ge (tgt := 33) d_O_isApartFrom_6 (by decide) (by omega) (by omega) (fun c6 => ?_) (fun c6 => absurd c6 (by omega))
    refine J_iconst (v := nI 1) d_O_isApartFrom_33 rfl ?_
    refine J.eq (st1 := [.int (b2i true)]) ?_ rfl rfl rfl
    refine M_ir d_O_isApartFrom_34 rfl b2i_nar ?_
    exact kq
  | succ f ih =>
    intro j hj hj2
    refine J_iload d_O_isApartFrom_3 rfl ?_
    refine J_iload_n (i := 1) d_O_isApartFrom_5 rfl rfl ?_
    refine N_icmp_ge (tgt := 33) d_O_isApartFrom_6 (by decide) (by first | omega | exact Nat.lt_trans (and_lt hs) (by decide) | exact Nat.lt_trans (and_lt' mvs_lt) (by decide) | exact Nat.lt_trans mvs_lt (by decide)) (by first | omega | exact Nat.lt_trans (and_lt hs) (by decide) | exact Nat.lt_trans (and_lt' mvs_lt) (by decide) | exact Nat.lt_trans mvs_lt (by decide)) (fun c6 => absurd c6 (by omega)) (fun c6 => ?_)
    refine J_iload_n (i := 2) d_O_isApartFrom_9 rfl rfl ?_
    refine J_aload_n (i := 0) d_O_isApartFrom_10 rfl rfl ?_
    refine M_getR (b := 221) d_O_isApartFrom_11 f_O_62 rfl rfl rfl ?_
    refine J_iload d_O_isApartFrom_14 rfl ?_
    refine N_iald (x := (nI (mvs (j % 8) (rg (j / 8))))) d_O_isApartFrom_16 rfl (by first | omega | exact Nat.lt_trans (and_lt hs) (by decide) | exact Nat.lt_trans (and_lt' mvs_lt) (by decide) | exact Nat.lt_trans mvs_lt (by decide)) (ltL hX (a := 221) (n := 64) (by decide) rfl (by first | omega | exact Nat.lt_trans (and_lt hs) (by decide) | exact Nat.lt_trans (and_lt' mvs_lt) (by decide) | exact Nat.lt_trans mvs_lt (by decide))) (hl.2 j (by omega)) ?_
    refine N_ixor d_O_isApartFrom_17 ?_
    refine CS_N (av := [.int (nI (s ^^^ (mvs (j % 8) (rg (j / 8)))))]) d_O_isApartFrom_18 s_O_175 (S_bitCount (xor_lt 20 hs mvs_lt)) (by decide) rfl rfl (Nat.le_of_ble_eq_true rfl) ?_
    refine N_nm (fun vB hvB => ?_)
    have hvB2 : vB ≤ 32 := by rw [hvB]; exact bc_le _
    refine J_iload_n (i := 3) d_O_isApartFrom_21 rfl rfl ?_
    refine N_icmp_ge (tgt := 27) d_O_isApartFrom_22 (by decide) (by first | omega | exact Nat.lt_trans (and_lt hs) (by decide) | exact Nat.lt_trans (and_lt' mvs_lt) (by decide) | exact Nat.lt_trans mvs_lt (by decide)) (by first | omega | exact Nat.lt_trans (and_lt hs) (by decide) | exact Nat.lt_trans (and_lt' mvs_lt) (by decide) | exact Nat.lt_trans mvs_lt (by decide)) (fun c22 => ?_) (fun c22 => ?_)
    · refine N_iinc (a := j) (c := 1) (L1 := [some (.ref 8), some (.int (nI c)), some (.int (nI s)), some (.int (nI k)), some (.int (nI (j + 1)))]) d_O_isApartFrom_27 rfl rfl (by decide) rfl ?_
      refine J_goto (tgt := 3) d_O_isApartFrom_30 (by decide) ?_
      exact ih (j + 1) (by omega) (fun q hq => by
        rcases Nat.lt_or_ge q j with z | z
        · exact hj2 q z
        · obtain rfl : j = q := by omega
          exact decide_eq_true (show k ≤ apN s (rg (j / 8)) (j % 8) by rw [show apN s (rg (j / 8)) (j % 8) = vB from hvB.symm]; exact c22))
    · refine J_iconst (v := nI 0) d_O_isApartFrom_25 rfl ?_
      refine J.eq (st1 := [.int (b2i false)]) ?_ rfl rfl rfl
      refine M_ir d_O_isApartFrom_26 rfl b2i_nar ?_
      have e : allN (fun j => decide (k ≤ apN s (rg (j / 8)) (j % 8))) c = false := allN_no (i := j) (decide_eq_false (show ¬ k ≤ apN s (rg (j / 8)) (j % 8) by rw [show apN s (rg (j / 8)) (j % 8) = vB from hvB.symm]; exact c22)) (by omega)
      rw [e] at kq
      exact kq
theorem S_O_isApartFrom {X : Mem} {m : Nat} {st rg : Nat → Nat} {s k : Nat} (hX : Ok X) (hS : CSt X m st rg) (hl : shL rg (8 * m) (X.2.1 221)) (hs : s < 1048576) (hk : k ≤ 20) : CM 1 m_O_isApartFrom [.ref 8, .int (nI (8 * m)), .int (nI s), .int (nI k)] X (rB (faP m rg k s) X) := by
  refine CM_of (L := [some (.ref 8), some (.int (nI (8 * m))), some (.int (nI s)), some (.int (nI k)), none]) 1 ok_O_isApartFrom (fun _ => Nat.le_of_ble_eq_true rfl) rfl ?_
  refine J_iconst (v := nI 0) d_O_isApartFrom_0 rfl ?_
  refine J_istore (L1 := [some (.ref 8), some (.int (nI (8 * m))), some (.int (nI s)), some (.int (nI k)), some (.int (nI 0))]) d_O_isApartFrom_1 (by decide) rfl ?_
  exact lp_O_isApartFrom hX hl (by have := hS.1; omega) hs hk ⟨by rw [← faC], rfl⟩ (8 * m) 0 (by omega) (fun q hq => by omega)

