/-- the first from i on, of n, of which P is true -/
def fstN (P : Nat → Bool) (i : Nat) : Nat → Nat
  | 0 => i
  | n + 1 => if P i then i else fstN P (i + 1) n
theorem fstN_le (P : Nat → Bool) : ∀ (n i : Nat), i ≤ fstN P i n ∧ fstN P i n ≤ i + n
  | 0, i => ⟨Nat.le_refl i, Nat.le_refl i⟩
  | n + 1, i => by
    have ih := fstN_le P n (i + 1)
    rw [fstN]
    split <;> omega
theorem fstN_t (P : Nat → Bool) : ∀ (n i : Nat), fstN P i n < i + n → P (fstN P i n) = true
  | 0, i, h => absurd h (Nat.lt_irrefl i)
  | n + 1, i, h => by
    rw [fstN] at h ⊢
    split
    · assumption
    · rename_i q
      rw [if_neg q] at h
      exact fstN_t P n (i + 1) (by omega)
def insB (a b w : Nat) : Bool := andn a (mvs w b) == 0
/-- the first way by which a lies in b, 8 for none -/
def wiN (a b : Nat) : Nat := fstN (insB a b) 0 8
def o8 (w : Nat) : Int32 := if w = 8 then (-1) else nI w
theorem wi_le (a b : Nat) : wiN a b ≤ 8 := by have := fstN_le (insB a b) 8 0; unfold wiN; omega
theorem o8_lt {i : Nat} (h : i < 8) : o8 i = nI i := if_neg (by omega)
theorem ins_t {a b w : Nat} (h : andn a (mvs w b) = 0) : insB a b w = true := beq_iff_eq.mpr h
theorem ins_f {a b w : Nat} (h : ¬ andn a (mvs w b) = 0) : insB a b w = false := beq_eq_false_iff_ne.mpr h
theorem ad_lt {a b w : Nat} (ha : a < 1048576) : andn a (mvs w b) < 2147483648 := Nat.lt_trans (andn_lt ha) (by decide)
theorem o8_m1 {w : Nat} (h : w ≤ 8) : o8 w = -1 ↔ w = 8 := by
  constructor
  · intro e
    by_cases q : w = 8
    · exact q
    · rw [o8_lt (by omega)] at e
      have g : ∀ w, w < 8 → nI w ≠ -1 := by decide
      exact absurd e (g w (by omega))
  · intro e; rw [e]; rfl
theorem lp_K_wayInto {X : Mem} {a b : Nat} {Q : Option Value → Mem → Prop} (hX : Ok X) (ha : a < 1048576) (hb : b < 1048576) (kq : Q (some (.int (o8 (wiN a b)))) X) : ∀ (n i : Nat), i + n = 8 → fstN (insB a b) i n = wiN a b → JM 1 m_K_wayInto Q 2 [some (.int (nI a)), some (.int (nI b)), some (.int (nI i))] [] X := by
  intro n
  induction n with
  | zero =>
    intro i hi e
    obtain rfl : i = 8 := by omega
    rw [← show 8 = wiN a b from e] at kq
    refine J_iload_n (i := 2) d_K_wayInto_2 rfl rfl ?_
    refine J_bipush (v := nI 8) d_K_wayInto_3 rfl ?_
    refine N_icmp_ge (tgt := 28) d_K_wayInto_5 (by decide) (by omega) (by omega) (fun c5 => ?_) (fun c5 => absurd c5 (by omega))
    refine J_iconst (v := (-1)) d_K_wayInto_28 rfl ?_
    refine M_ir d_K_wayInto_29 rfl rfl ?_
    exact kq
  | succ n ih =>
    intro i hi e
    refine J_iload_n (i := 2) d_K_wayInto_2 rfl rfl ?_
    refine J_bipush (v := nI 8) d_K_wayInto_3 rfl ?_
    refine N_icmp_ge (tgt := 28) d_K_wayInto_5 (by decide) (by omega) (by omega) (fun c5 => absurd c5 (by omega)) (fun c5 => ?_)
    refine J_iload_n (i := 0) d_K_wayInto_8 rfl rfl ?_
    refine J_iload_n (i := 1) d_K_wayInto_9 rfl rfl ?_
    refine J_iload_n (i := 2) d_K_wayInto_10 rfl rfl ?_
    refine CS_N (av := [.int (nI b), .int (nI i)]) d_K_wayInto_11 s_K_54 (S_K_moved hX (by omega) (by omega)) (by decide) rfl rfl (Nat.le_of_ble_eq_true rfl) ?_
    refine J_iconst (v := (-1)) d_K_wayInto_14 rfl ?_
    refine J_ixor d_K_wayInto_15 ?_
    refine J_iand d_K_wayInto_16 ?_
    refine I_ton (n := andn a (mvs i b)) (nI_andn a (mvs i b)) ?_
    refine N_if_ne (tgt := 22) d_K_wayInto_17 (by decide) (ad_lt ha) (fun c17 => ?_) (fun c17 => ?_)
    · refine N_iinc (a := i) (c := 1) (L1 := [some (.int (nI a)), some (.int (nI b)), some (.int (nI (i + 1)))]) d_K_wayInto_22 rfl rfl (by decide) rfl ?_
      refine J_goto (tgt := 2) d_K_wayInto_25 (by decide) ?_
      rw [fstN, if_neg (by rw [ins_f c17]; decide)] at e
      exact ih (i + 1) (by omega) e
    · refine J_iload_n (i := 2) d_K_wayInto_20 rfl rfl ?_
      refine M_ir d_K_wayInto_21 rfl rfl ?_
      rw [fstN, if_pos (ins_t c17)] at e
      rw [← e, o8_lt (by omega)] at kq
      exact kq
theorem S_K_wayInto {X : Mem} {a b : Nat} (hX : Ok X) (ha : a < 1048576) (hb : b < 1048576) : CM 1 m_K_wayInto [.int (nI a), .int (nI b)] X (rI (o8 (wiN a b)) X) := by
  refine CM_of (L := [some (.int (nI a)), some (.int (nI b)), none]) 1 ok_K_wayInto (fun _ => Nat.le_of_ble_eq_true rfl) rfl ?_
  refine J_iconst (v := nI 0) d_K_wayInto_0 rfl ?_
  refine J_istore_n (i := 2) (L1 := [some (.int (nI a)), some (.int (nI b)), some (.int (nI 0))]) d_K_wayInto_1 rfl (by decide) rfl ?_
  exact lp_K_wayInto hX ha hb ⟨rfl, rfl⟩ 8 0 (by omega) rfl

theorem lp_R_partWay {X : Mem} {a b : Nat} {Q : Option Value → Mem → Prop} (hX : Ok X) (ha : a < 1048576) (hb : b < 1048576) (kq : Q (some (.int (o8 (wiN a b)))) X) : ∀ (n i : Nat), i + n = 8 → fstN (insB a b) i n = wiN a b → JM 2 m_R_partWay Q 2 [some (.ref 244), some (.int (nI a)), some (.int (nI b)), some (.int (nI i))] [] X := by
  intro n
  induction n with
  | zero =>
    intro i hi e
    obtain rfl : i = 8 := by omega
    rw [← show 8 = wiN a b from e] at kq
    refine J_iload_n (i := 3) d_R_partWay_2 rfl rfl ?_
    refine J_bipush (v := nI 8) d_R_partWay_3 rfl ?_
    refine N_icmp_ge (tgt := 29) d_R_partWay_5 (by decide) (by omega) (by omega) (fun c5 => ?_) (fun c5 => absurd c5 (by omega))
    refine J_iconst (v := (-1)) d_R_partWay_29 rfl ?_
    refine M_ir d_R_partWay_30 rfl rfl ?_
    exact kq
  | succ n ih =>
    intro i hi e
    refine J_iload_n (i := 3) d_R_partWay_2 rfl rfl ?_
    refine J_bipush (v := nI 8) d_R_partWay_3 rfl ?_
    refine N_icmp_ge (tgt := 29) d_R_partWay_5 (by decide) (by omega) (by omega) (fun c5 => absurd c5 (by omega)) (fun c5 => ?_)
    refine J_iload_n (i := 1) d_R_partWay_8 rfl rfl ?_
    refine J_aload_n (i := 0) d_R_partWay_9 rfl rfl ?_
    refine J_iload_n (i := 2) d_R_partWay_10 rfl rfl ?_
    refine J_iload_n (i := 3) d_R_partWay_11 rfl rfl ?_
    refine CV_N (av := [.int (nI b), .int (nI i)]) d_R_partWay_12 s_R_105 (M_rcv rfl (by decide) rfl) (S_R_byWay hX (by omega) (by omega)) (by decide) rfl rfl (Nat.le_of_ble_eq_true rfl) ?_
    refine J_iconst (v := (-1)) d_R_partWay_15 rfl ?_
    refine J_ixor d_R_partWay_16 ?_
    refine J_iand d_R_partWay_17 ?_
    refine I_ton (n := andn a (mvs i b)) (nI_andn a (mvs i b)) ?_
    refine N_if_ne (tgt := 23) d_R_partWay_18 (by decide) (ad_lt ha) (fun c18 => ?_) (fun c18 => ?_)
    · refine N_iinc (a := i) (c := 1) (L1 := [some (.ref 244), some (.int (nI a)), some (.int (nI b)), some (.int (nI (i + 1)))]) d_R_partWay_23 rfl rfl (by decide) rfl ?_
      refine J_goto (tgt := 2) d_R_partWay_26 (by decide) ?_
      rw [fstN, if_neg (by rw [ins_f c18]; decide)] at e
      exact ih (i + 1) (by omega) e
    · refine J_iload_n (i := 3) d_R_partWay_21 rfl rfl ?_
      refine M_ir d_R_partWay_22 rfl rfl ?_
      rw [fstN, if_pos (ins_t c18)] at e
      rw [← e, o8_lt (by omega)] at kq
      exact kq
theorem S_R_partWay {X : Mem} {a b : Nat} (hX : Ok X) (ha : a < 1048576) (hb : b < 1048576) : CM 2 m_R_partWay [.ref 244, .int (nI a), .int (nI b)] X (rI (o8 (wiN a b)) X) := by
  refine CM_of (L := [some (.ref 244), some (.int (nI a)), some (.int (nI b)), none]) 1 ok_R_partWay (fun _ => Nat.le_of_ble_eq_true rfl) rfl ?_
  refine J_iconst (v := nI 0) d_R_partWay_0 rfl ?_
  refine J_istore_n (i := 3) (L1 := [some (.ref 244), some (.int (nI a)), some (.int (nI b)), some (.int (nI 0))]) d_R_partWay_1 rfl (by decide) rfl ?_
  exact lp_R_partWay hX ha hb ⟨rfl, rfl⟩ 8 0 (by omega) rfl

theorem pcn_last : ∀ f n : Nat, pcn (f + 1) n = pcn f n + if n.testBit f then 1 else 0
  | 0, n => by
    show n % 2 + 0 = 0 + _
    rw [mod2_tb]
    omega
  | f + 1, n => by
    have ih := pcn_last f (n / 2)
    rw [Nat.testBit_div_two] at ih
    rw [show pcn (f + 1 + 1) n = n % 2 + pcn (f + 1) (n / 2) from rfl, ih, show pcn (f + 1) n = n % 2 + pcn f (n / 2) from rfl]
    omega
theorem pcn_mono {n f : Nat} : ∀ g, pcn f n ≤ pcn (f + g) n
  | 0 => Nat.le_refl _
  | g + 1 => by
    have := pcn_mono (n := n) (f := f) g
    rw [← Nat.add_assoc, pcn_last]
    omega
theorem pcn_or1 : ∀ f k x : Nat, pcn f (x ||| 1 <<< k) ≤ pcn f x + 1
  | 0, _, _ => Nat.zero_le _
  | f + 1, 0, x => by
    have e : (x ||| 1 <<< 0) / 2 = x / 2 := by rw [Nat.or_div_two, show (1 <<< 0) / 2 = 0 by decide, Nat.or_zero]
    rw [pcn, pcn, e]
    omega
  | f + 1, k + 1, x => by
    have ih := pcn_or1 f k (x / 2)
    have e : (x ||| 1 <<< (k + 1)) / 2 = x / 2 ||| 1 <<< k := by
      rw [Nat.or_div_two, shl1, shl1, Nat.pow_succ, Nat.mul_div_cancel _ (by decide)]
    have e2 : (x ||| 1 <<< (k + 1)) % 2 = x % 2 := by
      rw [mod2_tb, mod2_tb x, Nat.testBit_or, shl1, Nat.testBit_two_pow, show decide (k + 1 = 0) = false from decide_eq_false (by omega), Bool.or_false]
    rw [pcn, pcn, e, e2]
    omega
theorem bc_mvs {w b : Nat} : bc (mvs w b) ≤ bc b := by
  refine Nat.le_trans ?_ (pcn_mono (n := b) (f := 20) 12)
  refine itr_inv (fun n (x : Nat) => pcn 32 x ≤ pcn n b) (Nat.le_of_eq (pcn_0 32)) (fun n x hx => ?_) 20
  show pcn 32 (if b.testBit n then _ else _) ≤ _
  rw [pcn_last n b]
  split
  · rename_i h
    exact Nat.le_trans (pcn_or1 32 _ _) (Nat.succ_le_succ hx)
  · rename_i h
    exact hx
theorem wi_bc {a b : Nat} (h : wiN a b ≠ 8) : bc a ≤ bc b := by
  have hl := wi_le a b
  have ht := fstN_t (insB a b) 8 0 (by have : wiN a b = fstN (insB a b) 0 8 := rfl; omega)
  have e : andn a (mvs (wiN a b) b) = 0 := beq_iff_eq.mp ht
  refine Nat.le_trans (pcn_sub 32 a (mvs (wiN a b) b) (fun k hk => ?_)) bc_mvs
  have g := congrArg (fun x => x.testBit k) e
  simp only [andn_tb, Nat.zero_testBit, hk, Bool.true_and, Bool.not_eq_false'] at g
  exact g
theorem sub_lt0 : ∀ p, p < 33 → ∀ q, q < 33 → (nI p - nI q < 0 ↔ p < q) := by decide +kernel
theorem sub_gt {p q n : Nat} (hp : p < 33) (hq : q < 33) (hn : n < 2147483648) : nI n < nI p - nI q ↔ q + n < p := by
  by_cases h : q ≤ p
  · rw [pk_sub h, nI_ltI hn (by omega)]
    omega
  · have h1 := (sub_lt0 p hp q hq).mpr (by omega)
    constructor
    · intro e
      have h2 := nI_pos hn
      rw [Int32.lt_iff_toInt_lt] at e h1 h2
      omega
    · intro e; omega
/-- b is made of a by n strokes at most -/
def mdB (a b n : Nat) : Bool := wiN a b != 8 && decide (bc b ≤ bc a + n)
theorem md_f1 {a b n : Nat} (h : bc a + n < bc b) : mdB a b n = false := by
  rw [mdB, show decide (bc b ≤ bc a + n) = false from decide_eq_false (by omega), Bool.and_false]
theorem md_f2 {a b n : Nat} (h : wiN a b = 8) : mdB a b n = false := by rw [mdB, h]; rfl
theorem md_f3 {a b n : Nat} (h : bc b < bc a) : mdB a b n = false := by
  by_cases e : wiN a b = 8
  · exact md_f2 e
  · have := wi_bc e
    omega
theorem md_t {a b n : Nat} (h : ¬ bc a + n < bc b) (h2 : ¬ wiN a b = 8) : mdB a b n = true := by
  rw [mdB, show decide (bc b ≤ bc a + n) = true from decide_eq_true (by omega), Bool.and_true]
  exact bne_iff_ne.mpr h2
theorem bc33 (n : Nat) : bc n < 33 := Nat.lt_succ_of_le (bc_le n)
theorem S_K_isMadeOf {X : Mem} {a b n : Nat} (hX : Ok X) (ha : a < 1048576) (hb : b < 1048576) (hn : n ≤ 20) : CM 2 m_K_isMadeOf [.int (nI a), .int (nI b), .int (nI n)] X (rB (mdB a b n) X) := by
  refine CM_of (L := [some (.int (nI a)), some (.int (nI b)), some (.int (nI n)), none]) 1 ok_K_isMadeOf (fun _ => Nat.le_of_ble_eq_true rfl) rfl ?_
  refine J_iload_n (i := 1) d_K_isMadeOf_0 rfl rfl ?_
  refine CS_N (av := [.int (nI b)]) d_K_isMadeOf_1 s_K_26 (S_bitCount (by omega)) (by decide) rfl rfl (Nat.le_of_ble_eq_true rfl) ?_
  refine J_iload_n (i := 0) d_K_isMadeOf_4 rfl rfl ?_
  refine CS_N (av := [.int (nI a)]) d_K_isMadeOf_5 s_K_26 (S_bitCount (by omega)) (by decide) rfl rfl (Nat.le_of_ble_eq_true rfl) ?_
  refine J_isub d_K_isMadeOf_8 ?_
  refine J_istore_n (i := 3) (L1 := [some (.int (nI a)), some (.int (nI b)), some (.int (nI n)), some (.int ((nI (bc b)) - (nI (bc a))))]) d_K_isMadeOf_9 rfl (by decide) rfl ?_
  refine J_iload_n (i := 3) d_K_isMadeOf_10 rfl rfl ?_
  refine J_if_lt (tgt := 32) d_K_isMadeOf_11 (by decide) (fun c11 => ?_) (fun c11 => ?_)
  · refine J_iconst (v := nI 0) d_K_isMadeOf_32 rfl ?_
    refine J.eq (st1 := [.int (b2i false)]) ?_ rfl rfl rfl
    refine M_ir d_K_isMadeOf_33 rfl b2i_nar ?_
    exact ⟨by rw [show mdB a b n = false from md_f3 ((sub_lt0 _ (bc33 b) _ (bc33 a)).mp c11)] <;> rfl, rfl⟩
  · refine J_iload_n (i := 3) d_K_isMadeOf_14 rfl rfl ?_
    refine J_iload_n (i := 2) d_K_isMadeOf_15 rfl rfl ?_
    refine J_icmp_gt (tgt := 32) d_K_isMadeOf_16 (by decide) (fun c16 => ?_) (fun c16 => ?_)
    · refine J_iconst (v := nI 0) d_K_isMadeOf_32 rfl ?_
      refine J.eq (st1 := [.int (b2i false)]) ?_ rfl rfl rfl
      refine M_ir d_K_isMadeOf_33 rfl b2i_nar ?_
      exact ⟨by rw [show mdB a b n = false from md_f1 ((sub_gt (bc33 b) (bc33 a) (by omega)).mp c16)] <;> rfl, rfl⟩
    · refine J_iload_n (i := 0) d_K_isMadeOf_19 rfl rfl ?_
      refine J_iload_n (i := 1) d_K_isMadeOf_20 rfl rfl ?_
      refine CS_I (av := [.int (nI a), .int (nI b)]) d_K_isMadeOf_21 s_K_61 (S_K_wayInto hX (by omega) (by omega)) (by decide) rfl rfl (Nat.le_of_ble_eq_true rfl) ?_
      refine J_iconst (v := (-1)) d_K_isMadeOf_24 rfl ?_
      refine J_icmp_eq (tgt := 32) d_K_isMadeOf_25 (by decide) (fun c25 => ?_) (fun c25 => ?_)
      · refine J_iconst (v := nI 0) d_K_isMadeOf_32 rfl ?_
        refine J.eq (st1 := [.int (b2i false)]) ?_ rfl rfl rfl
        refine M_ir d_K_isMadeOf_33 rfl b2i_nar ?_
        first | exact ⟨by rw [show mdB a b n = false from md_f2 ((o8_m1 (wi_le a b)).mp c25)] <;> rfl, rfl⟩ | exact ⟨by rw [show mdB a b n = true from md_t (fun q => c16 ((sub_gt (bc33 b) (bc33 a) (by omega)).mpr q)) (fun q => c25 ((o8_m1 (wi_le a b)).mpr q))] <;> rfl, rfl⟩
      · refine J_iconst (v := nI 1) d_K_isMadeOf_28 rfl ?_
        refine J_goto (tgt := 33) d_K_isMadeOf_29 (by decide) ?_
        refine J.eq (st1 := [.int (b2i true)]) ?_ rfl rfl rfl
        refine M_ir d_K_isMadeOf_33 rfl b2i_nar ?_
        first | exact ⟨by rw [show mdB a b n = false from md_f2 ((o8_m1 (wi_le a b)).mp c25)] <;> rfl, rfl⟩ | exact ⟨by rw [show mdB a b n = true from md_t (fun q => c16 ((sub_gt (bc33 b) (bc33 a) (by omega)).mpr q)) (fun q => c25 ((o8_m1 (wi_le a b)).mpr q))] <;> rfl, rfl⟩

theorem S_R_isMade {X : Mem} {a b n : Nat} (hX : Ok X) (ha : a < 1048576) (hb : b < 1048576) (hn : n ≤ 20) : CM 3 m_R_isMade [.ref 244, .int (nI a), .int (nI b), .int (nI n)] X (rB (mdB a b n) X) := by
  refine CM_of (L := [some (.ref 244), some (.int (nI a)), some (.int (nI b)), some (.int (nI n))]) 0 ok_R_isMade (fun _ => Nat.le_of_ble_eq_true rfl) rfl ?_
  refine J_iload_n (i := 2) d_R_isMade_0 rfl rfl ?_
  refine CS_N (av := [.int (nI b)]) d_R_isMade_1 s_R_121 (S_R_bits (by omega)) (by decide) rfl rfl (Nat.le_of_ble_eq_true rfl) ?_
  refine J_iload_n (i := 1) d_R_isMade_4 rfl rfl ?_
  refine CS_N (av := [.int (nI a)]) d_R_isMade_5 s_R_121 (S_R_bits (by omega)) (by decide) rfl rfl (Nat.le_of_ble_eq_true rfl) ?_
  refine J_isub d_R_isMade_8 ?_
  refine J_iload_n (i := 3) d_R_isMade_9 rfl rfl ?_
  refine J_icmp_gt (tgt := 27) d_R_isMade_10 (by decide) (fun c10 => ?_) (fun c10 => ?_)
  · refine J_iconst (v := nI 0) d_R_isMade_27 rfl ?_
    refine J.eq (st1 := [.int (b2i false)]) ?_ rfl rfl rfl
    refine M_ir d_R_isMade_28 rfl b2i_nar ?_
    exact ⟨by rw [show mdB a b n = false from md_f1 ((sub_gt (bc33 b) (bc33 a) (by omega)).mp c10)] <;> rfl, rfl⟩
  · refine J_aload_n (i := 0) d_R_isMade_13 rfl rfl ?_
    refine J_iload_n (i := 1) d_R_isMade_14 rfl rfl ?_
    refine J_iload_n (i := 2) d_R_isMade_15 rfl rfl ?_
    refine CV_I (av := [.int (nI a), .int (nI b)]) d_R_isMade_16 s_R_461 (M_rcv rfl (by decide) rfl) (S_R_partWay hX (by omega) (by omega)) (by decide) rfl rfl (Nat.le_of_ble_eq_true rfl) ?_
    refine J_iconst (v := (-1)) d_R_isMade_19 rfl ?_
    refine J_icmp_eq (tgt := 27) d_R_isMade_20 (by decide) (fun c20 => ?_) (fun c20 => ?_)
    · refine J_iconst (v := nI 0) d_R_isMade_27 rfl ?_
      refine J.eq (st1 := [.int (b2i false)]) ?_ rfl rfl rfl
      refine M_ir d_R_isMade_28 rfl b2i_nar ?_
      first | exact ⟨by rw [show mdB a b n = false from md_f2 ((o8_m1 (wi_le a b)).mp c20)] <;> rfl, rfl⟩ | exact ⟨by rw [show mdB a b n = true from md_t (fun q => c10 ((sub_gt (bc33 b) (bc33 a) (by omega)).mpr q)) (fun q => c20 ((o8_m1 (wi_le a b)).mpr q))] <;> rfl, rfl⟩
    · refine J_iconst (v := nI 1) d_R_isMade_23 rfl ?_
      refine J_goto (tgt := 28) d_R_isMade_24 (by decide) ?_
      refine J.eq (st1 := [.int (b2i true)]) ?_ rfl rfl rfl
      refine M_ir d_R_isMade_28 rfl b2i_nar ?_
      first | exact ⟨by rw [show mdB a b n = false from md_f2 ((o8_m1 (wi_le a b)).mp c20)] <;> rfl, rfl⟩ | exact ⟨by rw [show mdB a b n = true from md_t (fun q => c10 ((sub_gt (bc33 b) (bc33 a) (by omega)).mpr q)) (fun q => c20 ((o8_m1 (wi_le a b)).mpr q))] <;> rfl, rfl⟩

def nrB (a b n : Nat) : Bool := mdB a b n || mdB b a n
theorem S_K_isNear {X : Mem} {a b n : Nat} (hX : Ok X) (ha : a < 1048576) (hb : b < 1048576) (hn : n ≤ 20) : CM 3 m_K_isNear [.int (nI a), .int (nI b), .int (nI n)] X (rB (nrB a b n) X) := by
  refine CM_of (L := [some (.int (nI a)), some (.int (nI b)), some (.int (nI n))]) 0 ok_K_isNear (fun _ => Nat.le_of_ble_eq_true rfl) rfl ?_
  refine J_iload_n (i := 0) d_K_isNear_0 rfl rfl ?_
  refine J_iload_n (i := 1) d_K_isNear_1 rfl rfl ?_
  refine J_iload_n (i := 2) d_K_isNear_2 rfl rfl ?_
  refine CS_B (av := [.int (nI a), .int (nI b), .int (nI n)]) d_K_isNear_3 s_K_64 (S_K_isMadeOf hX (by omega) (by omega) (by omega)) (by decide) rfl rfl (Nat.le_of_ble_eq_true rfl) ?_
  refine B_if_ne (tgt := 18) d_K_isNear_6 (by decide) (fun c6 => ?_) (fun c6 => ?_)
  · refine J_iconst (v := nI 1) d_K_isNear_18 rfl ?_
    refine J_goto (tgt := 23) d_K_isNear_19 (by decide) ?_
    refine J.eq (st1 := [.int (b2i true)]) ?_ rfl rfl rfl
    refine M_ir d_K_isNear_23 rfl b2i_nar ?_
    exact ⟨by simp [nrB, b2i, c6], rfl⟩
  · refine J_iload_n (i := 1) d_K_isNear_9 rfl rfl ?_
    refine J_iload_n (i := 0) d_K_isNear_10 rfl rfl ?_
    refine J_iload_n (i := 2) d_K_isNear_11 rfl rfl ?_
    refine CS_B (av := [.int (nI b), .int (nI a), .int (nI n)]) d_K_isNear_12 s_K_64 (S_K_isMadeOf hX (by omega) (by omega) (by omega)) (by decide) rfl rfl (Nat.le_of_ble_eq_true rfl) ?_
    refine B_if_eq (tgt := 22) d_K_isNear_15 (by decide) (fun c15 => ?_) (fun c15 => ?_)
    · refine J_iconst (v := nI 0) d_K_isNear_22 rfl ?_
      refine J.eq (st1 := [.int (b2i false)]) ?_ rfl rfl rfl
      refine M_ir d_K_isNear_23 rfl b2i_nar ?_
      exact ⟨by simp [nrB, b2i, c6, c15], rfl⟩
    · refine J_iconst (v := nI 1) d_K_isNear_18 rfl ?_
      refine J_goto (tgt := 23) d_K_isNear_19 (by decide) ?_
      refine J.eq (st1 := [.int (b2i true)]) ?_ rfl rfl rfl
      refine M_ir d_K_isNear_23 rfl b2i_nar ?_
      exact ⟨by simp [nrB, b2i, c6, c15], rfl⟩

