theorem S_O_book {X : Mem} {s : Sg} {i k : Int32} (hX : Ok X) (hC : CI X s) (hw : WFs s) : CM 1 m_O_book [.ref 8, .int i, .int k] X (rI (bookF s.1 i k) X) := by
  have w9 := wf_1 hw.1 (j := 9) (n := 25) (by decide) (by decide) (by decide)
  have hl : X.1 19 5 = nI (tn (s.1 9)) := by rw [show X.1 19 5 = s.1 9 from hC.1.1.2.2.2.2.2.1]; exact w9.1
  have hbk : ∀ i, i < 25 → (X.2.1 21).getD i 0 = nI (bkv s.1 i / 21 * 32 + bkv s.1 i % 21) := fun i hi => by
    have h := hC.1.1.2.2.2.2.2.2.2 i hi
    have e : nowG s.1 (13 + i) = s.1 (1192 + i) := by unfold nowG; rw [if_neg (by omega), if_neg (by omega), ← Nat.add_assoc]
    rw [e] at h
    exact h
  refine CM_of (L := [some (.ref 8), some (.int i), some (.int k), none]) 1 ok_O_book (fun _ => Nat.le_of_ble_eq_true rfl) rfl ?_
  refine J_aload_n (i := 0) d_O_book_0 rfl rfl ?_
  refine M_getR (b := 18) d_O_book_1 f_O_48 rfl rfl rfl ?_
  refine M_getR (b := 19) d_O_book_4 f_O_110 rfl rfl rfl ?_
  refine J_astore_n (i := 3) (L1 := [some (.ref 8), some (.int i), some (.int k), some (.ref 19)]) d_O_book_7 rfl (by decide) rfl ?_
  refine J_iload_n (i := 1) d_O_book_8 rfl rfl ?_
  refine J_iconst (v := (-1)) d_O_book_9 rfl ?_
  refine J_icmp_ne (tgt := 18) d_O_book_10 (by decide) (fun c10 => ?_) (fun c10 => ?_)
  · refine J_iload_n (i := 1) d_O_book_18 rfl rfl ?_
    refine J_if_lt (tgt := 39) d_O_book_19 (by decide) (fun c19 => ?_) (fun c19 => ?_)
    · refine J_bipush (v := (-2)) d_O_book_39 rfl ?_
      refine M_ir d_O_book_41 rfl rfl ?_
      exact ⟨by rw [bookF, if_neg c10, show (mkB (tn (s.1 9)) i && inR k 3) = false from by rw [show mkB (tn (s.1 9)) i = false from by simp [mkB, c19]]; rfl] <;> rfl, rfl⟩
    · refine J_iload_n (i := 1) d_O_book_22 rfl rfl ?_
      refine J_aload_n (i := 3) d_O_book_23 rfl rfl ?_
      refine M_get (x := (nI (tn (s.1 9)))) d_O_book_24 f_O_211 rfl rfl hl ?_
      refine J_icmp_ge (tgt := 39) d_O_book_27 (by decide) (fun c27 => ?_) (fun c27 => ?_)
      · refine J_bipush (v := (-2)) d_O_book_39 rfl ?_
        refine M_ir d_O_book_41 rfl rfl ?_
        exact ⟨by rw [bookF, if_neg c10, show (mkB (tn (s.1 9)) i && inR k 3) = false from by rw [show mkB (tn (s.1 9)) i = false from by simp [mkB, c27]]; rfl] <;> rfl, rfl⟩
      · refine J_iload_n (i := 2) d_O_book_30 rfl rfl ?_
        refine J_if_lt (tgt := 39) d_O_book_31 (by decide) (fun c31 => ?_) (fun c31 => ?_)
        · refine J_bipush (v := (-2)) d_O_book_39 rfl ?_
          refine M_ir d_O_book_41 rfl rfl ?_
          exact ⟨by rw [bookF, if_neg c10, show (mkB (tn (s.1 9)) i && inR k 3) = false from by rw [inR_no1 (v := k) c31, Bool.and_false]] <;> rfl, rfl⟩
        · refine J_iload_n (i := 2) d_O_book_34 rfl rfl ?_
          refine J_iconst (v := nI 3) d_O_book_35 rfl ?_
          refine J_icmp_le (tgt := 42) d_O_book_36 (by decide) (fun c36 => ?_) (fun c36 => ?_)
          · have cm : mkB (tn (s.1 9)) i = true := by simp [mkB, c19, c27]
            have ck : inR k 3 = true := inR_le (by decide) c31 c36
            obtain ⟨i_, hi_, rfl⟩ := mk_nB w9.2 cm
            obtain ⟨k_, hk_, rfl⟩ := inR_n (n := 3) ck (by decide)
            refine J_aload_n (i := 3) d_O_book_42 rfl rfl ?_
            refine J_iload_n (i := 1) d_O_book_43 rfl rfl ?_
            refine J_iload_n (i := 2) d_O_book_44 rfl rfl ?_
            refine CV_I (av := [.int (nI i_), .int (nI k_)]) d_O_book_45 s_O_214 (M_rcv rfl (by decide) rfl) (S_N_lineTells hX (by omega) (by omega) (hbk i_ (by omega)) (bk_f hw.1 (show i_ < 25 by omega)).2) (by decide) rfl rfl (Nat.le_of_ble_eq_true rfl) ?_
            refine M_ir d_O_book_48 rfl rfl ?_
            exact ⟨by rw [bookF, if_neg c10, cm, ck, if_pos (show (true && true) = true from rfl), tn_nI (by omega), tn_nI (by omega)], rfl⟩
          · refine J_bipush (v := (-2)) d_O_book_39 rfl ?_
            refine M_ir d_O_book_41 rfl rfl ?_
            exact ⟨by rw [bookF, if_neg c10, show (mkB (tn (s.1 9)) i && inR k 3) = false from by rw [inR_gt (n := 3) (by decide) c31 c36, Bool.and_false]] <;> rfl, rfl⟩
  · refine J_aload_n (i := 3) d_O_book_13 rfl rfl ?_
    refine M_get (x := (nI (tn (s.1 9)))) d_O_book_14 f_O_211 rfl rfl hl ?_
    refine M_ir d_O_book_17 rfl rfl ?_
    exact ⟨by rw [bookF, if_pos c10, ← w9.1], rfl⟩

theorem S_R_book {X : Mem} {s : Sg} {i k : Int32} (hX : Ok X) (hC : RI X s) (hw : WFs s) : CM 1 m_R_book [.ref 244, .int i, .int k] X (rI (bookF s.1 i k) X) := by
  have w9 := wf_1 hw.1 (j := 9) (n := 25) (by decide) (by decide) (by decide)
  have hbk : ∀ i, i < 25 → (X.2.1 245).getD (1192 + i) 0 = nI (bkv s.1 i) := fun i hi => by
    rw [ri_at hC (by omega)]
    exact (bk_f hw.1 hi).1
  refine CM_of (L := [some (.ref 244), some (.int i), some (.int k)]) 0 ok_R_book (fun _ => Nat.le_of_ble_eq_true rfl) rfl ?_
  refine J_iload_n (i := 1) d_R_book_0 rfl rfl ?_
  refine J_iconst (v := (-1)) d_R_book_1 rfl ?_
  refine J_icmp_ne (tgt := 13) d_R_book_2 (by decide) (fun c2 => ?_) (fun c2 => ?_)
  · refine J_iload_n (i := 1) d_R_book_13 rfl rfl ?_
    refine J_iconst (v := nI 0) d_R_book_14 rfl ?_
    refine J_aload_n (i := 0) d_R_book_15 rfl rfl ?_
    refine M_getR (b := 245) d_R_book_16 f_R_7 rfl rfl rfl ?_
    refine J_bipush (v := nI 9) d_R_book_19 rfl ?_
    refine N_iald (x := (nI (tn (s.1 9)))) d_R_book_21 rfl (by omega) (ltL hX (a := 245) (n := 1217) (by decide) rfl (by omega)) (by rw [ri_at hC (by decide)]; exact w9.1) ?_
    refine J_iconst (v := nI 1) d_R_book_22 rfl ?_
    refine J_isub d_R_book_23 ?_
    refine CS_B (av := [.int i, .int (nI 0), .int ((nI (tn (s.1 9))) - (nI 1))]) d_R_book_24 s_R_89 (S_R_isIn) (by decide) rfl rfl (Nat.le_of_ble_eq_true rfl) ?_
    refine B_if_eq (tgt := 48) d_R_book_27 (by decide) (fun c27 => ?_) (fun c27 => ?_)
    · refine J_bipush (v := (-2)) d_R_book_48 rfl ?_
      refine M_ir d_R_book_50 rfl rfl ?_
      exact ⟨by rw [bookF, if_neg c2, show (mkB (tn (s.1 9)) i && inR k 3) = false from by rw [show mkB (tn (s.1 9)) i = false from by rw [← mk_isInB w9.2]; exact c27]; rfl] <;> rfl, rfl⟩
    · refine J_iload_n (i := 2) d_R_book_30 rfl rfl ?_
      refine J_iconst (v := nI 0) d_R_book_31 rfl ?_
      refine J_iconst (v := nI 3) d_R_book_32 rfl ?_
      refine CS_B (av := [.int k, .int (nI 0), .int (nI 3)]) d_R_book_33 s_R_89 (S_R_isIn) (by decide) rfl rfl (Nat.le_of_ble_eq_true rfl) ?_
      refine B_if_eq (tgt := 48) d_R_book_36 (by decide) (fun c36 => ?_) (fun c36 => ?_)
      · refine J_bipush (v := (-2)) d_R_book_48 rfl ?_
        refine M_ir d_R_book_50 rfl rfl ?_
        exact ⟨by rw [bookF, if_neg c2, show (mkB (tn (s.1 9)) i && inR k 3) = false from by rw [show inR k 3 = false from c36, Bool.and_false]] <;> rfl, rfl⟩
      · have cm : mkB (tn (s.1 9)) i = true := by rw [← mk_isInB w9.2]; exact c27
        have ck : inR k 3 = true := c36
        obtain ⟨i_, hi_, rfl⟩ := mk_nB w9.2 cm
        obtain ⟨k_, hk_, rfl⟩ := inR_n (n := 3) ck (by decide)
        refine J_aload_n (i := 0) d_R_book_39 rfl rfl ?_
        refine J_iload_n (i := 1) d_R_book_40 rfl rfl ?_
        refine J_iload_n (i := 2) d_R_book_41 rfl rfl ?_
        refine CV_I (av := [.int (nI i_), .int (nI k_)]) d_R_book_42 s_R_452 (M_rcv rfl (by decide) rfl) (S_R_lineOf hX (by omega) (by omega) (hbk i_ (by omega)) (bk_f hw.1 (show i_ < 25 by omega)).2) (by decide) rfl rfl (Nat.le_of_ble_eq_true rfl) ?_
        refine J_goto (tgt := 50) d_R_book_45 (by decide) ?_
        refine M_ir d_R_book_50 rfl rfl ?_
        exact ⟨by rw [bookF, if_neg c2, cm, ck, if_pos (show (true && true) = true from rfl), tn_nI (by omega), tn_nI (by omega)], rfl⟩
  · refine J_aload_n (i := 0) d_R_book_5 rfl rfl ?_
    refine M_getR (b := 245) d_R_book_6 f_R_7 rfl rfl rfl ?_
    refine J_bipush (v := nI 9) d_R_book_9 rfl ?_
    refine N_iald (x := (nI (tn (s.1 9)))) d_R_book_11 rfl (by omega) (ltL hX (a := 245) (n := 1217) (by decide) rfl (by omega)) (by rw [ri_at hC (by decide)]; exact w9.1) ?_
    refine M_ir d_R_book_12 rfl rfl ?_
    exact ⟨by rw [bookF, if_pos c2, ← w9.1], rfl⟩

def ldN (r : Nat → Int32) (k m : Nat) : Nat := smN (fun i => if lnF (bkv r i) 2 = nI k then 1 else 0) m
theorem ldN_le (r : Nat → Int32) (k m : Nat) : ldN r k m ≤ m := smN_le1 (fun i => by split <;> omega) m
def ledgF (r : Nat → Int32) (v : Int32) : Int32 := if inR v 3 then nI (ldN r (tn v) (tn (r 9))) else (-2)
theorem lp_O_ledger {d : Nat} {Q : Option Value → Mem → Prop} {X : Mem} {s : Sg} {k : Nat} (hX : Ok X) (hC : CI X s) (hw : WFs s) (hk3 : k ≤ 3) (hd : 1 ≤ d) (kx : JM d m_O_ledger Q 60 [some (.ref 8), some (.int (nI k)), some (.int (nI (ldN s.1 k (tn (s.1 9))))), some (.int (nI (tn (s.1 9))))] [] X) : ∀ (n j : Nat), j + n = (tn (s.1 9)) → JM d m_O_ledger Q 16 [some (.ref 8), some (.int (nI k)), some (.int (nI (ldN s.1 k j))), some (.int (nI j))] [] X := by
  have w9 := wf_1 hw.1 (j := 9) (n := 25) (by decide) (by decide) (by decide)
  have hl : X.1 19 5 = nI (tn (s.1 9)) := by rw [show X.1 19 5 = s.1 9 from hC.1.1.2.2.2.2.2.1]; exact w9.1
  have hbk : ∀ i, i < 25 → (X.2.1 21).getD i 0 = nI (bkv s.1 i / 21 * 32 + bkv s.1 i % 21) := fun i hi => by
    have h := hC.1.1.2.2.2.2.2.2.2 i hi
    have e : nowG s.1 (13 + i) = s.1 (1192 + i) := by unfold nowG; rw [if_neg (by omega), if_neg (by omega), ← Nat.add_assoc]
    rw [e] at h
    exact h
  intro n
  induction n with
  | zero =>
    intro j hi
    obtain rfl : j = (tn (s.1 9)) := by omega
    refine J_iload_n (i := 3) d_O_ledger_16 rfl rfl ?_
    refine J_aload_n (i := 0) d_O_ledger_17 rfl rfl ?_
    refine M_getR (b := 18) d_O_ledger_18 f_O_48 rfl rfl rfl ?_
    refine M_getR (b := 19) d_O_ledger_21 f_O_110 rfl rfl rfl ?_
    refine M_get (x := (nI (tn (s.1 9)))) d_O_ledger_24 f_O_211 rfl rfl hl ?_
    refine N_icmp_ge (tgt := 60) d_O_ledger_27 (by decide) (by omega) (by omega) (fun c27 => ?_) (fun c27 => absurd c27 (by omega))
    exact kx
  | succ n ih =>
    intro j hi
    have hld := ldN_le s.1 k j
    refine J_iload_n (i := 3) d_O_ledger_16 rfl rfl ?_
    refine J_aload_n (i := 0) d_O_ledger_17 rfl rfl ?_
    refine M_getR (b := 18) d_O_ledger_18 f_O_48 rfl rfl rfl ?_
    refine M_getR (b := 19) d_O_ledger_21 f_O_110 rfl rfl rfl ?_
    refine M_get (x := (nI (tn (s.1 9)))) d_O_ledger_24 f_O_211 rfl rfl hl ?_
    refine N_icmp_ge (tgt := 60) d_O_ledger_27 (by decide) (by omega) (by omega) (fun c27 => absurd c27 (by omega)) (fun c27 => ?_)
    refine J_iload_n (i := 2) d_O_ledger_30 rfl rfl ?_
    refine J_aload_n (i := 0) d_O_ledger_31 rfl rfl ?_
    refine M_getR (b := 18) d_O_ledger_32 f_O_48 rfl rfl rfl ?_
    refine M_getR (b := 19) d_O_ledger_35 f_O_110 rfl rfl rfl ?_
    refine J_iload_n (i := 3) d_O_ledger_38 rfl rfl ?_
    refine J_iconst (v := nI 2) d_O_ledger_39 rfl ?_
    refine CV_I (av := [.int (nI j), .int (nI 2)]) d_O_ledger_40 s_O_214 (M_rcv rfl (by decide) rfl) (S_N_lineTells hX (by omega) (by omega) (hbk j (by omega)) (bk_f hw.1 (show j < 25 by omega)).2) (by omega) rfl rfl (Nat.le_of_ble_eq_true rfl) ?_
    refine J_iload_n (i := 1) d_O_ledger_43 rfl rfl ?_
    refine J_icmp_ne (tgt := 51) d_O_ledger_44 (by decide) (fun c44 => ?_) (fun c44 => ?_)
    · refine J_iconst (v := nI 0) d_O_ledger_51 rfl ?_
      refine N_iadd d_O_ledger_52 ?_
      refine J_istore_n (i := 2) (L1 := [some (.ref 8), some (.int (nI k)), some (.int (nI ((ldN s.1 k j) + 0))), some (.int (nI j))]) d_O_ledger_53 rfl (by decide) rfl ?_
      refine N_iinc (a := j) (c := 1) (L1 := [some (.ref 8), some (.int (nI k)), some (.int (nI ((ldN s.1 k j) + 0))), some (.int (nI (j + 1)))]) d_O_ledger_54 rfl rfl (by decide) rfl ?_
      refine J_goto (tgt := 16) d_O_ledger_57 (by decide) ?_
      exact (ih (j + 1) (by omega)).eq (by rw [show ldN s.1 k (j + 1) = ((ldN s.1 k j) + 0) from by show ldN s.1 k j + (if _ then 1 else 0) = _; rw [if_neg c44]]) rfl rfl
    · refine J_iconst (v := nI 1) d_O_ledger_47 rfl ?_
      refine J_goto (tgt := 52) d_O_ledger_48 (by decide) ?_
      refine N_iadd d_O_ledger_52 ?_
      refine J_istore_n (i := 2) (L1 := [some (.ref 8), some (.int (nI k)), some (.int (nI ((ldN s.1 k j) + 1))), some (.int (nI j))]) d_O_ledger_53 rfl (by decide) rfl ?_
      refine N_iinc (a := j) (c := 1) (L1 := [some (.ref 8), some (.int (nI k)), some (.int (nI ((ldN s.1 k j) + 1))), some (.int (nI (j + 1)))]) d_O_ledger_54 rfl rfl (by decide) rfl ?_
      refine J_goto (tgt := 16) d_O_ledger_57 (by decide) ?_
      exact (ih (j + 1) (by omega)).eq (by rw [show ldN s.1 k (j + 1) = ((ldN s.1 k j) + 1) from by show ldN s.1 k j + (if _ then 1 else 0) = _; rw [if_pos c44]]) rfl rfl

theorem S_O_ledger {X : Mem} {s : Sg} {v : Int32} (hX : Ok X) (hC : CI X s) (hw : WFs s) : CM 1 m_O_ledger [.ref 8, .int v] X (rI (ledgF s.1 v) X) := by
  refine CM_of (L := [some (.ref 8), some (.int v), none, none]) 2 ok_O_ledger (fun _ => Nat.le_of_ble_eq_true rfl) rfl ?_
  refine J_iload_n (i := 1) d_O_ledger_0 rfl rfl ?_
  refine J_if_lt (tgt := 9) d_O_ledger_1 (by decide) (fun c1 => ?_) (fun c1 => ?_)
  · refine J_bipush (v := (-2)) d_O_ledger_9 rfl ?_
    refine M_ir d_O_ledger_11 rfl rfl ?_
    exact ⟨by rw [ledgF, show inR v 3 = false from inR_no1 c1] <;> rfl, rfl⟩
  · refine J_iload_n (i := 1) d_O_ledger_4 rfl rfl ?_
    refine J_iconst (v := nI 3) d_O_ledger_5 rfl ?_
    refine J_icmp_le (tgt := 12) d_O_ledger_6 (by decide) (fun c6 => ?_) (fun c6 => ?_)
    · have cR := inR_le (n := 3) (by decide) c1 c6
      obtain ⟨v_, hv_, rfl⟩ := inR_n (n := 3) cR (by decide)
      refine J_iconst (v := nI 0) d_O_ledger_12 rfl ?_
      refine J_istore_n (i := 2) (L1 := [some (.ref 8), some (.int (nI v_)), some (.int (nI 0)), none]) d_O_ledger_13 rfl (by decide) rfl ?_
      refine J_iconst (v := nI 0) d_O_ledger_14 rfl ?_
      refine J_istore_n (i := 3) (L1 := [some (.ref 8), some (.int (nI v_)), some (.int (nI 0)), some (.int (nI 0))]) d_O_ledger_15 rfl (by decide) rfl ?_
      refine lp_O_ledger hX hC hw (show v_ ≤ 3 by omega) (by decide) ?_ (tn (s.1 9)) 0 (by omega)
      refine J_iload_n (i := 2) d_O_ledger_60 rfl rfl ?_
      refine M_ir d_O_ledger_61 rfl rfl ?_
      exact ⟨by rw [ledgF, show inR (nI v_) 3 = true from cR, if_pos rfl, tn_nI (by omega)], rfl⟩
    · refine J_bipush (v := (-2)) d_O_ledger_9 rfl ?_
      refine M_ir d_O_ledger_11 rfl rfl ?_
      exact ⟨by rw [ledgF, show inR v 3 = false from inR_gt (by decide) c1 c6] <;> rfl, rfl⟩

theorem lp_R_ledger {d : Nat} {Q : Option Value → Mem → Prop} {X : Mem} {s : Sg} {k : Nat} (hX : Ok X) (hC : RI X s) (hw : WFs s) (hk3 : k ≤ 3) (hd : 1 ≤ d) (kx : JM d m_R_ledger Q 51 [some (.ref 244), some (.int (nI k)), some (.int (nI (ldN s.1 k (tn (s.1 9))))), some (.int (nI (tn (s.1 9))))] [] X) : ∀ (n j : Nat), j + n = (tn (s.1 9)) → JM d m_R_ledger Q 16 [some (.ref 244), some (.int (nI k)), some (.int (nI (ldN s.1 k j))), some (.int (nI j))] [] X := by
  have w9 := wf_1 hw.1 (j := 9) (n := 25) (by decide) (by decide) (by decide)
  have hbk : ∀ i, i < 25 → (X.2.1 245).getD (1192 + i) 0 = nI (bkv s.1 i) := fun i hi => by
    rw [ri_at hC (by omega)]
    exact (bk_f hw.1 hi).1
  intro n
  induction n with
  | zero =>
    intro j hi
    obtain rfl : j = (tn (s.1 9)) := by omega
    refine J_iload_n (i := 3) d_R_ledger_16 rfl rfl ?_
    refine J_aload_n (i := 0) d_R_ledger_17 rfl rfl ?_
    refine M_getR (b := 245) d_R_ledger_18 f_R_7 rfl rfl rfl ?_
    refine J_bipush (v := nI 9) d_R_ledger_21 rfl ?_
    refine N_iald (x := (nI (tn (s.1 9)))) d_R_ledger_23 rfl (by omega) (ltL hX (a := 245) (n := 1217) (by decide) rfl (by omega)) (by rw [ri_at hC (by decide)]; exact w9.1) ?_
    refine N_icmp_ge (tgt := 51) d_R_ledger_24 (by decide) (by omega) (by omega) (fun c24 => ?_) (fun c24 => absurd c24 (by omega))
    exact kx
  | succ n ih =>
    intro j hi
    have hld := ldN_le s.1 k j
    refine J_iload_n (i := 3) d_R_ledger_16 rfl rfl ?_
    refine J_aload_n (i := 0) d_R_ledger_17 rfl rfl ?_
    refine M_getR (b := 245) d_R_ledger_18 f_R_7 rfl rfl rfl ?_
    refine J_bipush (v := nI 9) d_R_ledger_21 rfl ?_
    refine N_iald (x := (nI (tn (s.1 9)))) d_R_ledger_23 rfl (by omega) (ltL hX (a := 245) (n := 1217) (by decide) rfl (by omega)) (by rw [ri_at hC (by decide)]; exact w9.1) ?_
    refine N_icmp_ge (tgt := 51) d_R_ledger_24 (by decide) (by omega) (by omega) (fun c24 => absurd c24 (by omega)) (fun c24 => ?_)
    refine J_iload_n (i := 2) d_R_ledger_27 rfl rfl ?_
    refine J_aload_n (i := 0) d_R_ledger_28 rfl rfl ?_
    refine J_iload_n (i := 3) d_R_ledger_29 rfl rfl ?_
    refine J_iconst (v := nI 2) d_R_ledger_30 rfl ?_
    refine CV_I (av := [.int (nI j), .int (nI 2)]) d_R_ledger_31 s_R_452 (M_rcv rfl (by decide) rfl) (S_R_lineOf hX (by omega) (by omega) (hbk j (by omega)) (bk_f hw.1 (show j < 25 by omega)).2) (by omega) rfl rfl (Nat.le_of_ble_eq_true rfl) ?_
    refine J_iload_n (i := 1) d_R_ledger_34 rfl rfl ?_
    refine J_icmp_ne (tgt := 42) d_R_ledger_35 (by decide) (fun c35 => ?_) (fun c35 => ?_)
    · refine J_iconst (v := nI 0) d_R_ledger_42 rfl ?_
      refine N_iadd d_R_ledger_43 ?_
      refine J_istore_n (i := 2) (L1 := [some (.ref 244), some (.int (nI k)), some (.int (nI ((ldN s.1 k j) + 0))), some (.int (nI j))]) d_R_ledger_44 rfl (by decide) rfl ?_
      refine N_iinc (a := j) (c := 1) (L1 := [some (.ref 244), some (.int (nI k)), some (.int (nI ((ldN s.1 k j) + 0))), some (.int (nI (j + 1)))]) d_R_ledger_45 rfl rfl (by decide) rfl ?_
      refine J_goto (tgt := 16) d_R_ledger_48 (by decide) ?_
      exact (ih (j + 1) (by omega)).eq (by rw [show ldN s.1 k (j + 1) = ((ldN s.1 k j) + 0) from by show ldN s.1 k j + (if _ then 1 else 0) = _; rw [if_neg c35]]) rfl rfl
    · refine J_iconst (v := nI 1) d_R_ledger_38 rfl ?_
      refine J_goto (tgt := 43) d_R_ledger_39 (by decide) ?_
      refine N_iadd d_R_ledger_43 ?_
      refine J_istore_n (i := 2) (L1 := [some (.ref 244), some (.int (nI k)), some (.int (nI ((ldN s.1 k j) + 1))), some (.int (nI j))]) d_R_ledger_44 rfl (by decide) rfl ?_
      refine N_iinc (a := j) (c := 1) (L1 := [some (.ref 244), some (.int (nI k)), some (.int (nI ((ldN s.1 k j) + 1))), some (.int (nI (j + 1)))]) d_R_ledger_45 rfl rfl (by decide) rfl ?_
      refine J_goto (tgt := 16) d_R_ledger_48 (by decide) ?_
      exact (ih (j + 1) (by omega)).eq (by rw [show ldN s.1 k (j + 1) = ((ldN s.1 k j) + 1) from by show ldN s.1 k j + (if _ then 1 else 0) = _; rw [if_pos c35]]) rfl rfl

theorem S_R_ledger {X : Mem} {s : Sg} {v : Int32} (hX : Ok X) (hC : RI X s) (hw : WFs s) : CM 1 m_R_ledger [.ref 244, .int v] X (rI (ledgF s.1 v) X) := by
  refine CM_of (L := [some (.ref 244), some (.int v), none, none]) 2 ok_R_ledger (fun _ => Nat.le_of_ble_eq_true rfl) rfl ?_
  refine J_iload_n (i := 1) d_R_ledger_0 rfl rfl ?_
  refine J_iconst (v := nI 0) d_R_ledger_1 rfl ?_
  refine J_iconst (v := nI 3) d_R_ledger_2 rfl ?_
  refine CS_B (av := [.int v, .int (nI 0), .int (nI 3)]) d_R_ledger_3 s_R_89 (S_R_isIn) (by decide) rfl rfl (Nat.le_of_ble_eq_true rfl) ?_
  refine B_if_ne (tgt := 12) d_R_ledger_6 (by decide) (fun c6 => ?_) (fun c6 => ?_)
  · obtain ⟨v_, hv_, rfl⟩ := inR_n (n := 3) c6 (by decide)
    refine J_iconst (v := nI 0) d_R_ledger_12 rfl ?_
    refine J_istore_n (i := 2) (L1 := [some (.ref 244), some (.int (nI v_)), some (.int (nI 0)), none]) d_R_ledger_13 rfl (by decide) rfl ?_
    refine J_iconst (v := nI 0) d_R_ledger_14 rfl ?_
    refine J_istore_n (i := 3) (L1 := [some (.ref 244), some (.int (nI v_)), some (.int (nI 0)), some (.int (nI 0))]) d_R_ledger_15 rfl (by decide) rfl ?_
    refine lp_R_ledger hX hC hw (show v_ ≤ 3 by omega) (by decide) ?_ (tn (s.1 9)) 0 (by omega)
    refine J_iload_n (i := 2) d_R_ledger_51 rfl rfl ?_
    refine M_ir d_R_ledger_52 rfl rfl ?_
    exact ⟨by rw [ledgF, show inR (nI v_) 3 = true from c6, if_pos rfl, tn_nI (by omega)], rfl⟩
  · refine J_bipush (v := (-2)) d_R_ledger_9 rfl ?_
    refine M_ir d_R_ledger_11 rfl rfl ?_
    exact ⟨by rw [ledgF, show inR v 3 = false from c6] <;> rfl, rfl⟩

