theorem inR_le {v : Int32} {n : Nat} (hn : n + 1 < 2147483648) (h0 : ¬ v < 0) (h1 : v ≤ nI n) : inR v n = true := by
  obtain ⟨j, hj, rfl⟩ := nI_of h0
  rw [inR_nI hj (by omega)]
  exact decide_eq_true ((nI_leI hj (by omega)).mp h1)
theorem inR_gt {v : Int32} {n : Nat} (hn : n + 1 < 2147483648) (h0 : ¬ v < 0) (h1 : ¬ v ≤ nI n) : inR v n = false := by
  obtain ⟨j, hj, rfl⟩ := nI_of h0
  rw [inR_nI hj (by omega)]
  exact decide_eq_false (fun q => h1 ((nI_leI hj (by omega)).mpr q))
def nrP (rg : Nat → Nat) (n i j : Nat) : Bool := nrB (rg i) (rg j) n
/-- the first mark behind i that is near it, m for none -/
def cjN (m : Nat) (rg : Nat → Nat) (n i : Nat) : Nat := fstN (nrP rg n i) (i + 1) (m - (i + 1))
def ciP (m : Nat) (rg : Nat → Nat) (n i : Nat) : Bool := cjN m rg n i != m
def ciN (m : Nat) (rg : Nat → Nat) (n : Nat) : Nat := fstN (ciP m rg n) 0 m
def clN (m : Nat) (rg : Nat → Nat) (n : Nat) (w : Bool) : Int32 := if ciN m rg n = m then (-1) else nI (if w then cjN m rg n (ciN m rg n) else ciN m rg n)
def clashF (m : Nat) (rg : Nat → Nat) (v : Int32) (w : Bool) : Int32 := if inR v 20 then clN m rg (tn v) w else (-1)
theorem S_R_doClash {X : Mem} {m : Nat} {st rg : Nat → Nat} (hX : Ok X) (hS : RSt X m st rg) {i b n : Nat} (hi : i < 8) (hb : b < 1048576) (hn : n ≤ 20) : CM 4 m_R_doClash [.ref 244, .int (nI i), .int (nI b), .int (nI n)] X (rB (nrB (rg i) b n) X) := by
  have hrg := (hS.2.2.2 i hi).2
  refine CM_of (L := [some (.ref 244), some (.int (nI i)), some (.int (nI b)), some (.int (nI n))]) 0 ok_R_doClash (fun _ => Nat.le_of_ble_eq_true rfl) rfl ?_
  refine J_aload_n (i := 0) d_R_doClash_0 rfl rfl ?_
  refine J_aload_n (i := 0) d_R_doClash_1 rfl rfl ?_
  refine M_getR (b := 245) d_R_doClash_2 f_R_7 rfl rfl rfl ?_
  refine J_bipush (v := nI 18) d_R_doClash_5 rfl ?_
  refine J_iload_n (i := 1) d_R_doClash_7 rfl rfl ?_
  refine N_iadd d_R_doClash_8 ?_
  refine N_iald (x := (nI (rg i))) d_R_doClash_9 rfl (by omega) (ltL hX (a := 245) (n := 1217) (by decide) rfl (by omega)) (hS.2.2.2 i (by omega)).1 ?_
  refine J_iload_n (i := 2) d_R_doClash_10 rfl rfl ?_
  refine J_iload_n (i := 3) d_R_doClash_11 rfl rfl ?_
  refine CV_B (av := [.int (nI (rg i)), .int (nI b), .int (nI n)]) d_R_doClash_12 s_R_464 (M_rcv rfl (by decide) rfl) (S_R_isMade hX (by omega) (by omega) (by omega)) (by decide) rfl rfl (Nat.le_of_ble_eq_true rfl) ?_
  refine B_if_ne (tgt := 36) d_R_doClash_15 (by decide) (fun c15 => ?_) (fun c15 => ?_)
  · refine J_iconst (v := nI 1) d_R_doClash_36 rfl ?_
    refine J_goto (tgt := 41) d_R_doClash_37 (by decide) ?_
    refine J.eq (st1 := [.int (b2i true)]) ?_ rfl rfl rfl
    refine M_ir d_R_doClash_41 rfl b2i_nar ?_
    exact ⟨by simp [nrB, b2i, c15], rfl⟩
  · refine J_aload_n (i := 0) d_R_doClash_18 rfl rfl ?_
    refine J_iload_n (i := 2) d_R_doClash_19 rfl rfl ?_
    refine J_aload_n (i := 0) d_R_doClash_20 rfl rfl ?_
    refine M_getR (b := 245) d_R_doClash_21 f_R_7 rfl rfl rfl ?_
    refine J_bipush (v := nI 18) d_R_doClash_24 rfl ?_
    refine J_iload_n (i := 1) d_R_doClash_26 rfl rfl ?_
    refine N_iadd d_R_doClash_27 ?_
    refine N_iald (x := (nI (rg i))) d_R_doClash_28 rfl (by omega) (ltL hX (a := 245) (n := 1217) (by decide) rfl (by omega)) (hS.2.2.2 i (by omega)).1 ?_
    refine J_iload_n (i := 3) d_R_doClash_29 rfl rfl ?_
    refine CV_B (av := [.int (nI b), .int (nI (rg i)), .int (nI n)]) d_R_doClash_30 s_R_464 (M_rcv rfl (by decide) rfl) (S_R_isMade hX (by omega) (by omega) (by omega)) (by decide) rfl rfl (Nat.le_of_ble_eq_true rfl) ?_
    refine B_if_eq (tgt := 40) d_R_doClash_33 (by decide) (fun c33 => ?_) (fun c33 => ?_)
    · refine J_iconst (v := nI 0) d_R_doClash_40 rfl ?_
      refine J.eq (st1 := [.int (b2i false)]) ?_ rfl rfl rfl
      refine M_ir d_R_doClash_41 rfl b2i_nar ?_
      exact ⟨by simp [nrB, b2i, c15, c33], rfl⟩
    · refine J_iconst (v := nI 1) d_R_doClash_36 rfl ?_
      refine J_goto (tgt := 41) d_R_doClash_37 (by decide) ?_
      refine J.eq (st1 := [.int (b2i true)]) ?_ rfl rfl rfl
      refine M_ir d_R_doClash_41 rfl b2i_nar ?_
      exact ⟨by simp [nrB, b2i, c15, c33], rfl⟩

theorem lp_O_clash_in {X : Mem} {m : Nat} {st rg : Nat → Nat} (hX : Ok X) (hS : CSt X m st rg) {n : Nat} {w : Bool} {Q : Option Value → Mem → Prop} (hn : n ≤ 20) {i : Nat} (him : i < m) (kq : cjN m rg n i ≠ m → Q (some (.int (nI (if w then cjN m rg n i else i)))) X) (kx : cjN m rg n i = m → JM 4 m_O_clash Q 91 [some (.ref 8), some (.int (nI n)), some (.int (b2i w)), some (.int (nI i)), some (.int (nI m))] [] X) : ∀ (k j : Nat), j + k = m → fstN (nrP rg n i) j k = cjN m rg n i → JM 4 m_O_clash Q 33 [some (.ref 8), some (.int (nI n)), some (.int (b2i w)), some (.int (nI i)), some (.int (nI j))] [] X := by
  have hm8 := hS.1
  have hrgi := (hS.2.2.2 i (by omega)).2
  intro k
  induction k with
  | zero =>
    intro j hj e
    obtain rfl : j = m := by omega
    refine J_iload d_O_clash_33 rfl ?_
    refine J_aload_n (i := 0) d_O_clash_35 rfl rfl ?_
    refine M_getR (b := 18) d_O_clash_36 f_O_48 rfl rfl rfl ?_
    refine M_getR (b := 19) d_O_clash_39 f_O_110 rfl rfl rfl ?_
    refine M_get (x := (nI j)) d_O_clash_42 f_O_258 rfl rfl hS.2.1 ?_
    refine N_icmp_ge (tgt := 91) d_O_clash_45 (by decide) (by omega) (by omega) (fun c45 => ?_) (fun c45 => absurd c45 (by omega))
    exact kx e.symm
  | succ k ih =>
    intro j hj e
    have hrgj := (hS.2.2.2 j (by omega)).2
    refine J_iload d_O_clash_33 rfl ?_
    refine J_aload_n (i := 0) d_O_clash_35 rfl rfl ?_
    refine M_getR (b := 18) d_O_clash_36 f_O_48 rfl rfl rfl ?_
    refine M_getR (b := 19) d_O_clash_39 f_O_110 rfl rfl rfl ?_
    refine M_get (x := (nI m)) d_O_clash_42 f_O_258 rfl rfl hS.2.1 ?_
    refine N_icmp_ge (tgt := 91) d_O_clash_45 (by decide) (by omega) (by omega) (fun c45 => absurd c45 (by omega)) (fun c45 => ?_)
    refine J_aload_n (i := 0) d_O_clash_48 rfl rfl ?_
    refine M_getR (b := 18) d_O_clash_49 f_O_48 rfl rfl rfl ?_
    refine M_getR (b := 114) d_O_clash_52 f_O_172 rfl rfl rfl ?_
    refine J_iload_n (i := 3) d_O_clash_55 rfl rfl ?_
    refine N_iald (x := (nI (rg i))) d_O_clash_56 rfl (by omega) (ltL hX (a := 114) (n := 8) (by decide) rfl (by omega)) (hS.2.2.2 i (by omega)).1 ?_
    refine J_aload_n (i := 0) d_O_clash_57 rfl rfl ?_
    refine M_getR (b := 18) d_O_clash_58 f_O_48 rfl rfl rfl ?_
    refine M_getR (b := 114) d_O_clash_61 f_O_172 rfl rfl rfl ?_
    refine J_iload d_O_clash_64 rfl ?_
    refine N_iald (x := (nI (rg j))) d_O_clash_66 rfl (by omega) (ltL hX (a := 114) (n := 8) (by decide) rfl (by omega)) (hS.2.2.2 j (by omega)).1 ?_
    refine J_iload_n (i := 1) d_O_clash_67 rfl rfl ?_
    refine CS_B (av := [.int (nI (rg i)), .int (nI (rg j)), .int (nI n)]) d_O_clash_68 s_O_261 (S_K_isNear hX (by omega) (by omega) (by omega)) (by decide) rfl rfl (Nat.le_of_ble_eq_true rfl) ?_
    refine B_if_eq (tgt := 85) d_O_clash_71 (by decide) (fun c71 => ?_) (fun c71 => ?_)
    · refine N_iinc (a := j) (c := 1) (L1 := [some (.ref 8), some (.int (nI n)), some (.int (b2i w)), some (.int (nI i)), some (.int (nI (j + 1)))]) d_O_clash_85 rfl rfl (by decide) rfl ?_
      refine J_goto (tgt := 33) d_O_clash_88 (by decide) ?_
      exact ih (j + 1) (by omega) (by rw [fstN, if_neg (by rw [show nrP rg n i j = false from c71]; decide)] at e; exact e)
    · refine J_iload_n (i := 2) d_O_clash_74 rfl rfl ?_
      refine B_if_eq (tgt := 83) d_O_clash_75 (by decide) (fun c75 => ?_) (fun c75 => ?_)
      · refine J_iload_n (i := 3) d_O_clash_83 rfl rfl ?_
        refine M_ir d_O_clash_84 rfl rfl ?_
        have e2 : j = cjN m rg n i := by rw [fstN, if_pos (show nrP rg n i j = true from c71)] at e; exact e
        rw [← e2] at kq
        exact (show ((nI i) : Int32) = nI (if w then j else i) by rw [c75]; rfl) ▸ kq (by omega)
      · refine J_iload d_O_clash_78 rfl ?_
        refine J_goto (tgt := 84) d_O_clash_80 (by decide) ?_
        refine M_ir d_O_clash_84 rfl rfl ?_
        have e2 : j = cjN m rg n i := by rw [fstN, if_pos (show nrP rg n i j = true from c71)] at e; exact e
        rw [← e2] at kq
        exact (show ((nI j) : Int32) = nI (if w then j else i) by rw [c75]; rfl) ▸ kq (by omega)
theorem lp_O_clash {X : Mem} {m : Nat} {st rg : Nat → Nat} (hX : Ok X) (hS : CSt X m st rg) {n : Nat} {w : Bool} {Q : Option Value → Mem → Prop} (hn : n ≤ 20) (kq : Q (some (.int (clN m rg n w))) X) : ∀ (k i : Nat) (z4 : Option Value), i + k = m → fstN (ciP m rg n) i k = ciN m rg n → JM 4 m_O_clash Q 14 [some (.ref 8), some (.int (nI n)), some (.int (b2i w)), some (.int (nI i)), z4] [] X := by
  have hm8 := hS.1
  intro k
  induction k with
  | zero =>
    intro i z4 hi e
    obtain rfl : i = m := by omega
    refine J_iload_n (i := 3) d_O_clash_14 rfl rfl ?_
    refine J_aload_n (i := 0) d_O_clash_15 rfl rfl ?_
    refine M_getR (b := 18) d_O_clash_16 f_O_48 rfl rfl rfl ?_
    refine M_getR (b := 19) d_O_clash_19 f_O_110 rfl rfl rfl ?_
    refine M_get (x := (nI i)) d_O_clash_22 f_O_258 rfl rfl hS.2.1 ?_
    refine N_icmp_ge (tgt := 97) d_O_clash_25 (by decide) (by omega) (by omega) (fun c25 => ?_) (fun c25 => absurd c25 (by omega))
    refine J_iconst (v := (-1)) d_O_clash_97 rfl ?_
    refine M_ir d_O_clash_98 rfl rfl ?_
    rw [show clN i rg n w = -1 from if_pos e.symm] at kq
    exact kq
  | succ k ih =>
    intro i z4 hi e
    refine J_iload_n (i := 3) d_O_clash_14 rfl rfl ?_
    refine J_aload_n (i := 0) d_O_clash_15 rfl rfl ?_
    refine M_getR (b := 18) d_O_clash_16 f_O_48 rfl rfl rfl ?_
    refine M_getR (b := 19) d_O_clash_19 f_O_110 rfl rfl rfl ?_
    refine M_get (x := (nI m)) d_O_clash_22 f_O_258 rfl rfl hS.2.1 ?_
    refine N_icmp_ge (tgt := 97) d_O_clash_25 (by decide) (by omega) (by omega) (fun c25 => absurd c25 (by omega)) (fun c25 => ?_)
    refine J_iload_n (i := 3) d_O_clash_28 rfl rfl ?_
    refine J_iconst (v := nI 1) d_O_clash_29 rfl ?_
    refine N_iadd d_O_clash_30 ?_
    refine J_istore (L1 := [some (.ref 8), some (.int (nI n)), some (.int (b2i w)), some (.int (nI i)), some (.int (nI (i + 1)))]) d_O_clash_31 (by decide) rfl ?_
    refine lp_O_clash_in hX hS hn (by omega) (fun q => ?_) (fun q => ?_) (m - (i + 1)) (i + 1) (by omega) rfl
    · have e2 : i = ciN m rg n := by rw [fstN, if_pos (show ciP m rg n i = true from bne_iff_ne.mpr q)] at e; exact e
      rw [show clN m rg n w = nI (if w then cjN m rg n i else i) by rw [clN, ← e2, if_neg (by omega)]] at kq
      exact kq
    · refine N_iinc (a := i) (c := 1) (L1 := [some (.ref 8), some (.int (nI n)), some (.int (b2i w)), some (.int (nI (i + 1))), some (.int (nI m))]) d_O_clash_91 rfl rfl (by decide) rfl ?_
      refine J_goto (tgt := 14) d_O_clash_94 (by decide) ?_
      exact ih (i + 1) _ (by omega) (by rw [fstN, if_neg (by rw [show ciP m rg n i = false from bne_eq_false_iff_eq.mpr q]; decide)] at e; exact e)
theorem S_O_clash {X : Mem} {m : Nat} {st rg : Nat → Nat} (hX : Ok X) (hS : CSt X m st rg) {v : Int32} {w : Bool} : CM 4 m_O_clash [.ref 8, .int v, .int (b2i w)] X (rI (clashF m rg v w) X) := by
  refine CM_of (L := [some (.ref 8), some (.int v), some (.int (b2i w)), none, none]) 2 ok_O_clash (fun _ => Nat.le_of_ble_eq_true rfl) rfl ?_
  refine J_iload_n (i := 1) d_O_clash_0 rfl rfl ?_
  refine J_if_lt (tgt := 10) d_O_clash_1 (by decide) (fun c1 => ?_) (fun c1 => ?_)
  · refine J_iconst (v := (-1)) d_O_clash_10 rfl ?_
    refine M_ir d_O_clash_11 rfl rfl ?_
    exact ⟨by rw [clashF, inR_no1 c1] <;> rfl, rfl⟩
  · refine J_iload_n (i := 1) d_O_clash_4 rfl rfl ?_
    refine J_bipush (v := nI 20) d_O_clash_5 rfl ?_
    refine J_icmp_le (tgt := 12) d_O_clash_7 (by decide) (fun c7 => ?_) (fun c7 => ?_)
    · have cR := inR_le (n := 20) (by decide) c1 c7
      obtain ⟨v_, hv_, rfl⟩ := inR_n (n := 20) cR (by decide)
      refine J_iconst (v := nI 0) d_O_clash_12 rfl ?_
      refine J_istore_n (i := 3) (L1 := [some (.ref 8), some (.int (nI v_)), some (.int (b2i w)), some (.int (nI 0)), none]) d_O_clash_13 rfl (by decide) rfl ?_
      refine lp_O_clash hX hS (by omega) ⟨?_, rfl⟩ m 0 _ (by omega) rfl
      rw [clashF, cR, if_pos rfl, tn_nI (by omega)]
    · refine J_iconst (v := (-1)) d_O_clash_10 rfl ?_
      refine M_ir d_O_clash_11 rfl rfl ?_
      exact ⟨by rw [clashF, inR_gt (by decide) c1 c7] <;> rfl, rfl⟩

theorem lp_R_clash_in {X : Mem} {m : Nat} {st rg : Nat → Nat} (hX : Ok X) (hS : RSt X m st rg) {n : Nat} {w : Bool} {Q : Option Value → Mem → Prop} (hn : n ≤ 20) {i : Nat} (him : i < m) (kq : cjN m rg n i ≠ m → Q (some (.int (nI (if w then cjN m rg n i else i)))) X) (kx : cjN m rg n i = m → JM 5 m_R_clash Q 76 [some (.ref 244), some (.int (nI n)), some (.int (b2i w)), some (.int (nI i)), some (.int (nI m))] [] X) : ∀ (k j : Nat), j + k = m → fstN (nrP rg n i) j k = cjN m rg n i → JM 5 m_R_clash Q 29 [some (.ref 244), some (.int (nI n)), some (.int (b2i w)), some (.int (nI i)), some (.int (nI j))] [] X := by
  have hm8 := hS.1
  have hrgi := (hS.2.2.2 i (by omega)).2
  intro k
  induction k with
  | zero =>
    intro j hj e
    obtain rfl : j = m := by omega
    refine J_iload d_R_clash_29 rfl ?_
    refine J_aload_n (i := 0) d_R_clash_31 rfl rfl ?_
    refine M_getR (b := 245) d_R_clash_32 f_R_7 rfl rfl rfl ?_
    refine J_iconst (v := nI 0) d_R_clash_35 rfl ?_
    refine N_iald (x := (nI j)) d_R_clash_36 rfl (by omega) (ltL hX (a := 245) (n := 1217) (by decide) rfl (by omega)) hS.2.1 ?_
    refine N_icmp_ge (tgt := 76) d_R_clash_37 (by decide) (by omega) (by omega) (fun c37 => ?_) (fun c37 => absurd c37 (by omega))
    exact kx e.symm
  | succ k ih =>
    intro j hj e
    have hrgj := (hS.2.2.2 j (by omega)).2
    refine J_iload d_R_clash_29 rfl ?_
    refine J_aload_n (i := 0) d_R_clash_31 rfl rfl ?_
    refine M_getR (b := 245) d_R_clash_32 f_R_7 rfl rfl rfl ?_
    refine J_iconst (v := nI 0) d_R_clash_35 rfl ?_
    refine N_iald (x := (nI m)) d_R_clash_36 rfl (by omega) (ltL hX (a := 245) (n := 1217) (by decide) rfl (by omega)) hS.2.1 ?_
    refine N_icmp_ge (tgt := 76) d_R_clash_37 (by decide) (by omega) (by omega) (fun c37 => absurd c37 (by omega)) (fun c37 => ?_)
    refine J_aload_n (i := 0) d_R_clash_40 rfl rfl ?_
    refine J_iload_n (i := 3) d_R_clash_41 rfl rfl ?_
    refine J_aload_n (i := 0) d_R_clash_42 rfl rfl ?_
    refine M_getR (b := 245) d_R_clash_43 f_R_7 rfl rfl rfl ?_
    refine J_bipush (v := nI 18) d_R_clash_46 rfl ?_
    refine J_iload d_R_clash_48 rfl ?_
    refine N_iadd d_R_clash_50 ?_
    refine N_iald (x := (nI (rg j))) d_R_clash_51 rfl (by omega) (ltL hX (a := 245) (n := 1217) (by decide) rfl (by omega)) (hS.2.2.2 j (by omega)).1 ?_
    refine J_iload_n (i := 1) d_R_clash_52 rfl rfl ?_
    refine CV_B (av := [.int (nI i), .int (nI (rg j)), .int (nI n)]) d_R_clash_53 s_R_467 (M_rcv rfl (by decide) rfl) (S_R_doClash hX hS (by omega) (by omega) (by omega)) (by decide) rfl rfl (Nat.le_of_ble_eq_true rfl) ?_
    refine B_if_eq (tgt := 70) d_R_clash_56 (by decide) (fun c56 => ?_) (fun c56 => ?_)
    · refine N_iinc (a := j) (c := 1) (L1 := [some (.ref 244), some (.int (nI n)), some (.int (b2i w)), some (.int (nI i)), some (.int (nI (j + 1)))]) d_R_clash_70 rfl rfl (by decide) rfl ?_
      refine J_goto (tgt := 29) d_R_clash_73 (by decide) ?_
      exact ih (j + 1) (by omega) (by rw [fstN, if_neg (by rw [show nrP rg n i j = false from c56]; decide)] at e; exact e)
    · refine J_iload_n (i := 2) d_R_clash_59 rfl rfl ?_
      refine B_if_eq (tgt := 68) d_R_clash_60 (by decide) (fun c60 => ?_) (fun c60 => ?_)
      · refine J_iload_n (i := 3) d_R_clash_68 rfl rfl ?_
        refine M_ir d_R_clash_69 rfl rfl ?_
        have e2 : j = cjN m rg n i := by rw [fstN, if_pos (show nrP rg n i j = true from c56)] at e; exact e
        rw [← e2] at kq
        exact (show ((nI i) : Int32) = nI (if w then j else i) by rw [c60]; rfl) ▸ kq (by omega)
      · refine J_iload d_R_clash_63 rfl ?_
        refine J_goto (tgt := 69) d_R_clash_65 (by decide) ?_
        refine M_ir d_R_clash_69 rfl rfl ?_
        have e2 : j = cjN m rg n i := by rw [fstN, if_pos (show nrP rg n i j = true from c56)] at e; exact e
        rw [← e2] at kq
        exact (show ((nI j) : Int32) = nI (if w then j else i) by rw [c60]; rfl) ▸ kq (by omega)
theorem lp_R_clash {X : Mem} {m : Nat} {st rg : Nat → Nat} (hX : Ok X) (hS : RSt X m st rg) {n : Nat} {w : Bool} {Q : Option Value → Mem → Prop} (hn : n ≤ 20) (kq : Q (some (.int (clN m rg n w))) X) : ∀ (k i : Nat) (z4 : Option Value), i + k = m → fstN (ciP m rg n) i k = ciN m rg n → JM 5 m_R_clash Q 14 [some (.ref 244), some (.int (nI n)), some (.int (b2i w)), some (.int (nI i)), z4] [] X := by
  have hm8 := hS.1
  intro k
  induction k with
  | zero =>
    intro i z4 hi e
    obtain rfl : i = m := by omega
    refine J_iload_n (i := 3) d_R_clash_14 rfl rfl ?_
    refine J_aload_n (i := 0) d_R_clash_15 rfl rfl ?_
    refine M_getR (b := 245) d_R_clash_16 f_R_7 rfl rfl rfl ?_
    refine J_iconst (v := nI 0) d_R_clash_19 rfl ?_
    refine N_iald (x := (nI i)) d_R_clash_20 rfl (by omega) (ltL hX (a := 245) (n := 1217) (by decide) rfl (by omega)) hS.2.1 ?_
    refine N_icmp_ge (tgt := 82) d_R_clash_21 (by decide) (by omega) (by omega) (fun c21 => ?_) (fun c21 => absurd c21 (by omega))
    refine J_iconst (v := (-1)) d_R_clash_82 rfl ?_
    refine M_ir d_R_clash_83 rfl rfl ?_
    rw [show clN i rg n w = -1 from if_pos e.symm] at kq
    exact kq
  | succ k ih =>
    intro i z4 hi e
    refine J_iload_n (i := 3) d_R_clash_14 rfl rfl ?_
    refine J_aload_n (i := 0) d_R_clash_15 rfl rfl ?_
    refine M_getR (b := 245) d_R_clash_16 f_R_7 rfl rfl rfl ?_
    refine J_iconst (v := nI 0) d_R_clash_19 rfl ?_
    refine N_iald (x := (nI m)) d_R_clash_20 rfl (by omega) (ltL hX (a := 245) (n := 1217) (by decide) rfl (by omega)) hS.2.1 ?_
    refine N_icmp_ge (tgt := 82) d_R_clash_21 (by decide) (by omega) (by omega) (fun c21 => absurd c21 (by omega)) (fun c21 => ?_)
    refine J_iload_n (i := 3) d_R_clash_24 rfl rfl ?_
    refine J_iconst (v := nI 1) d_R_clash_25 rfl ?_
    refine N_iadd d_R_clash_26 ?_
    refine J_istore (L1 := [some (.ref 244), some (.int (nI n)), some (.int (b2i w)), some (.int (nI i)), some (.int (nI (i + 1)))]) d_R_clash_27 (by decide) rfl ?_
    refine lp_R_clash_in hX hS hn (by omega) (fun q => ?_) (fun q => ?_) (m - (i + 1)) (i + 1) (by omega) rfl
    · have e2 : i = ciN m rg n := by rw [fstN, if_pos (show ciP m rg n i = true from bne_iff_ne.mpr q)] at e; exact e
      rw [show clN m rg n w = nI (if w then cjN m rg n i else i) by rw [clN, ← e2, if_neg (by omega)]] at kq
      exact kq
    · refine N_iinc (a := i) (c := 1) (L1 := [some (.ref 244), some (.int (nI n)), some (.int (b2i w)), some (.int (nI (i + 1))), some (.int (nI m))]) d_R_clash_76 rfl rfl (by decide) rfl ?_
      refine J_goto (tgt := 14) d_R_clash_79 (by decide) ?_
      exact ih (i + 1) _ (by omega) (by rw [fstN, if_neg (by rw [show ciP m rg n i = false from bne_eq_false_iff_eq.mpr q]; decide)] at e; exact e)
theorem S_R_clash {X : Mem} {m : Nat} {st rg : Nat → Nat} (hX : Ok X) (hS : RSt X m st rg) {v : Int32} {w : Bool} : CM 5 m_R_clash [.ref 244, .int v, .int (b2i w)] X (rI (clashF m rg v w) X) := by
  refine CM_of (L := [some (.ref 244), some (.int v), some (.int (b2i w)), none, none]) 2 ok_R_clash (fun _ => Nat.le_of_ble_eq_true rfl) rfl ?_
  refine J_iload_n (i := 1) d_R_clash_0 rfl rfl ?_
  refine J_iconst (v := nI 0) d_R_clash_1 rfl ?_
  refine J_bipush (v := nI 20) d_R_clash_2 rfl ?_
  refine CS_B (av := [.int v, .int (nI 0), .int (nI 20)]) d_R_clash_4 s_R_89 (S_R_isIn) (by decide) rfl rfl (Nat.le_of_ble_eq_true rfl) ?_
  refine B_if_ne (tgt := 12) d_R_clash_7 (by decide) (fun c7 => ?_) (fun c7 => ?_)
  · obtain ⟨v_, hv_, rfl⟩ := inR_n (n := 20) c7 (by decide)
    refine J_iconst (v := nI 0) d_R_clash_12 rfl ?_
    refine J_istore_n (i := 3) (L1 := [some (.ref 244), some (.int (nI v_)), some (.int (b2i w)), some (.int (nI 0)), none]) d_R_clash_13 rfl (by decide) rfl ?_
    refine lp_R_clash hX hS (by omega) ⟨?_, rfl⟩ m 0 _ (by omega) rfl
    rw [clashF, show inR (nI v_) 20 = true from c7, if_pos rfl, tn_nI (by omega)]
  · refine J_iconst (v := (-1)) d_R_clash_10 rfl ?_
    refine M_ir d_R_clash_11 rfl rfl ?_
    exact ⟨by rw [clashF, show inR v 20 = false from c7] <;> rfl, rfl⟩

