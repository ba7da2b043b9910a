theorem isLt_t {c : Nat} : isLt c = true ↔ (97 ≤ c ∧ c ≤ 122) ∨ (65 ≤ c ∧ c ≤ 90) := by
  unfold isLt
  simp only [Bool.or_eq_true, Bool.and_eq_true, decide_eq_true_eq]
theorem isDg_t {c : Nat} : isDg c = true ↔ 48 ≤ c ∧ c ≤ 57 := by
  unfold isDg
  simp only [Bool.and_eq_true, decide_eq_true_eq]
theorem isBl_t {c : Nat} : isBl c = true ↔ c = 32 ∨ c = 10 := by
  unfold isBl
  simp only [Bool.or_eq_true, decide_eq_true_eq]
theorem fls {b : Bool} (h : ¬ b = true) : b = false := by cases b <;> simp_all
theorem i2c_n : ∀ x, x < 256 → ((nI x).toUInt32 % 65536).toInt32 = nI x := by decide +kernel
theorem wb_lt : ∀ i, i < 156 → WBL.getD i 0 < 128 := by decide +kernel
theorem and255 {x : Nat} (h : x < 256) : x &&& 255 = x := by
  have : x &&& 255 = x % 256 := Nat.and_two_pow_sub_one_eq_mod x 8
  omega
theorem S_G_isLetter {X : Mem} {c : Nat} (hc : c < 2147483648) : CM 0 m_G_isLetter [.int (nI c)] X (rB (isLt c) X) := by
  refine CM_of (L := [some (.int (nI c))]) 0 ok_G_isLetter (fun _ => Nat.le_of_ble_eq_true rfl) rfl ?_
  refine J_iload_n (i := 0) d_G_isLetter_0 rfl rfl ?_
  refine J_bipush (v := nI 97) d_G_isLetter_1 rfl ?_
  refine N_icmp_lt (tgt := 12) d_G_isLetter_3 (by decide) (by omega) (by omega) (fun c3 => ?_) (fun c3 => ?_)
  · refine J_iload_n (i := 0) d_G_isLetter_12 rfl rfl ?_
    refine J_bipush (v := nI 65) d_G_isLetter_13 rfl ?_
    refine N_icmp_lt (tgt := 28) d_G_isLetter_15 (by decide) (by omega) (by omega) (fun c15 => ?_) (fun c15 => ?_)
    · refine J_iconst (v := nI 0) d_G_isLetter_28 rfl ?_
      refine J.eq (st1 := [.int (b2i false)]) ?_ rfl rfl rfl
      refine M_ir d_G_isLetter_29 rfl b2i_nar ?_
      exact ⟨by rw [show isLt c = false from fls (fun q => by have := isLt_t.mp q; omega)], rfl⟩
    · refine J_iload_n (i := 0) d_G_isLetter_18 rfl rfl ?_
      refine J_bipush (v := nI 90) d_G_isLetter_19 rfl ?_
      refine N_icmp_gt (tgt := 28) d_G_isLetter_21 (by decide) (by omega) (by omega) (fun c21 => ?_) (fun c21 => ?_)
      · refine J_iconst (v := nI 0) d_G_isLetter_28 rfl ?_
        refine J.eq (st1 := [.int (b2i false)]) ?_ rfl rfl rfl
        refine M_ir d_G_isLetter_29 rfl b2i_nar ?_
        exact ⟨by rw [show isLt c = false from fls (fun q => by have := isLt_t.mp q; omega)], rfl⟩
      · refine J_iconst (v := nI 1) d_G_isLetter_24 rfl ?_
        refine J_goto (tgt := 29) d_G_isLetter_25 (by decide) ?_
        refine J.eq (st1 := [.int (b2i true)]) ?_ rfl rfl rfl
        refine M_ir d_G_isLetter_29 rfl b2i_nar ?_
        exact ⟨by rw [show isLt c = true from isLt_t.mpr (by omega)], rfl⟩
  · refine J_iload_n (i := 0) d_G_isLetter_6 rfl rfl ?_
    refine J_bipush (v := nI 122) d_G_isLetter_7 rfl ?_
    refine N_icmp_le (tgt := 24) d_G_isLetter_9 (by decide) (by omega) (by omega) (fun c9 => ?_) (fun c9 => ?_)
    · refine J_iconst (v := nI 1) d_G_isLetter_24 rfl ?_
      refine J_goto (tgt := 29) d_G_isLetter_25 (by decide) ?_
      refine J.eq (st1 := [.int (b2i true)]) ?_ rfl rfl rfl
      refine M_ir d_G_isLetter_29 rfl b2i_nar ?_
      exact ⟨by rw [show isLt c = true from isLt_t.mpr (by omega)], rfl⟩
    · refine J_iload_n (i := 0) d_G_isLetter_12 rfl rfl ?_
      refine J_bipush (v := nI 65) d_G_isLetter_13 rfl ?_
      refine N_icmp_lt (tgt := 28) d_G_isLetter_15 (by decide) (by omega) (by omega) (fun c15 => ?_) (fun c15 => ?_)
      · refine J_iconst (v := nI 0) d_G_isLetter_28 rfl ?_
        refine J.eq (st1 := [.int (b2i false)]) ?_ rfl rfl rfl
        refine M_ir d_G_isLetter_29 rfl b2i_nar ?_
        exact ⟨by rw [show isLt c = false from fls (fun q => by have := isLt_t.mp q; omega)], rfl⟩
      · refine J_iload_n (i := 0) d_G_isLetter_18 rfl rfl ?_
        refine J_bipush (v := nI 90) d_G_isLetter_19 rfl ?_
        refine N_icmp_gt (tgt := 28) d_G_isLetter_21 (by decide) (by omega) (by omega) (fun c21 => ?_) (fun c21 => ?_)
        · refine J_iconst (v := nI 0) d_G_isLetter_28 rfl ?_
          refine J.eq (st1 := [.int (b2i false)]) ?_ rfl rfl rfl
          refine M_ir d_G_isLetter_29 rfl b2i_nar ?_
          exact ⟨by rw [show isLt c = false from fls (fun q => by have := isLt_t.mp q; omega)], rfl⟩
        · refine J_iconst (v := nI 1) d_G_isLetter_24 rfl ?_
          refine J_goto (tgt := 29) d_G_isLetter_25 (by decide) ?_
          refine J.eq (st1 := [.int (b2i true)]) ?_ rfl rfl rfl
          refine M_ir d_G_isLetter_29 rfl b2i_nar ?_
          exact ⟨by rw [show isLt c = true from isLt_t.mpr (by omega)], rfl⟩

theorem S_G_isDigit {X : Mem} {c : Nat} (hc : c < 2147483648) : CM 0 m_G_isDigit [.int (nI c)] X (rB (isDg c) X) := by
  refine CM_of (L := [some (.int (nI c))]) 0 ok_G_isDigit (fun _ => Nat.le_of_ble_eq_true rfl) rfl ?_
  refine J_iload_n (i := 0) d_G_isDigit_0 rfl rfl ?_
  refine J_bipush (v := nI 48) d_G_isDigit_1 rfl ?_
  refine N_icmp_lt (tgt := 16) d_G_isDigit_3 (by decide) (by omega) (by omega) (fun c3 => ?_) (fun c3 => ?_)
  · refine J_iconst (v := nI 0) d_G_isDigit_16 rfl ?_
    refine J.eq (st1 := [.int (b2i false)]) ?_ rfl rfl rfl
    refine M_ir d_G_isDigit_17 rfl b2i_nar ?_
    exact ⟨by rw [show isDg c = false from fls (fun q => by have := isDg_t.mp q; omega)], rfl⟩
  · refine J_iload_n (i := 0) d_G_isDigit_6 rfl rfl ?_
    refine J_bipush (v := nI 57) d_G_isDigit_7 rfl ?_
    refine N_icmp_gt (tgt := 16) d_G_isDigit_9 (by decide) (by omega) (by omega) (fun c9 => ?_) (fun c9 => ?_)
    · refine J_iconst (v := nI 0) d_G_isDigit_16 rfl ?_
      refine J.eq (st1 := [.int (b2i false)]) ?_ rfl rfl rfl
      refine M_ir d_G_isDigit_17 rfl b2i_nar ?_
      exact ⟨by rw [show isDg c = false from fls (fun q => by have := isDg_t.mp q; omega)], rfl⟩
    · refine J_iconst (v := nI 1) d_G_isDigit_12 rfl ?_
      refine J_goto (tgt := 17) d_G_isDigit_13 (by decide) ?_
      refine J.eq (st1 := [.int (b2i true)]) ?_ rfl rfl rfl
      refine M_ir d_G_isDigit_17 rfl b2i_nar ?_
      exact ⟨by rw [show isDg c = true from isDg_t.mpr (by omega)], rfl⟩

theorem up_F (G : GC) : up G (.retAddr 0) = .null ∨ ∃ t, up G (.retAddr 0) = .ref t := by
  by_cases h : G.2.1 8 = 0
  · exact Or.inl (if_pos h)
  · exact Or.inr ⟨_, if_neg h⟩
theorem S_JP_checkIndex {X : Mem} {a b : Nat} (h : a < b) (hb : b < 2147483648) : CM 0 m_JP_checkIndex [.int (nI a), .int (nI b), .retAddr 0] X (rN a X) := by
  refine CM_of (L := [some (.int (nI a)), some (.int (nI b)), some (.retAddr 0)]) 0 ok_JP_checkIndex (fun G => by rcases up_F G with e | ⟨t, e⟩ <;> simp only [List.map, e] <;> exact Nat.le_of_ble_eq_true rfl) rfl ?_
  refine J_iload_n (i := 0) d_JP_checkIndex_0 rfl rfl ?_
  refine N_if_lt (tgt := 9) d_JP_checkIndex_1 (by decide) (by omega) ?_
  refine J_iload_n (i := 0) d_JP_checkIndex_4 rfl rfl ?_
  refine J_iload_n (i := 1) d_JP_checkIndex_5 rfl rfl ?_
  refine N_icmp_lt (tgt := 16) d_JP_checkIndex_6 (by decide) (by omega) (by omega) (fun c6 => ?_) (fun c6 => absurd c6 (by omega))
  refine J_iload_n (i := 0) d_JP_checkIndex_16 rfl rfl ?_
  refine M_ir d_JP_checkIndex_17 rfl rfl ?_
  exact ⟨rfl, rfl⟩

theorem S_JS_checkIndex {X : Mem} {a b : Nat} (h : a < b) (hb : b < 2147483648) : CM 1 m_JS_checkIndex [.int (nI a), .int (nI b)] X (rV X) := by
  refine CM_of (L := [some (.int (nI a)), some (.int (nI b))]) 0 ok_JS_checkIndex (fun _ => Nat.le_of_ble_eq_true rfl) rfl ?_
  refine J_iload_n (i := 0) d_JS_checkIndex_0 rfl rfl ?_
  refine J_iload_n (i := 1) d_JS_checkIndex_1 rfl rfl ?_
  refine J_gets (v := .retAddr 0) d_JS_checkIndex_2 Fx_z4 w_JS_1053 ?_
  refine CS_N (av := [.int (nI a), .int (nI b), .retAddr 0]) d_JS_checkIndex_5 s_JS_1059 (S_JP_checkIndex h hb) (by decide) rfl rfl (Nat.le_of_ble_eq_true rfl) ?_
  refine J_pop d_JS_checkIndex_8 rfl ?_
  refine M_vr d_JS_checkIndex_9 rfl ?_
  exact ⟨rfl, rfl⟩

theorem S_JL_charAt {X : Mem} {i : Nat} (hX : Ok X) (hi : i < 156) : CM 2 m_JL_charAt [.ref 4, .int (nI i)] X (rN (WBL.getD i 0) X) := by
  have hw := wb_lt i hi
  refine CM_of (L := [some (.ref 4), some (.int (nI i))]) 0 ok_JL_charAt (fun _ => Nat.le_of_ble_eq_true rfl) rfl ?_
  refine J_iload_n (i := 1) d_JL_charAt_0 rfl rfl ?_
  refine J_aload_n (i := 0) d_JL_charAt_1 rfl rfl ?_
  refine M_ilen (n := 156) d_JL_charAt_2 (by decide) (hX.1 4 (by decide)) ?_
  refine CS_V (av := [.int (nI i), .int (nI 156)]) d_JL_charAt_3 s_JL_9 (S_JS_checkIndex hi (by decide)) (by decide) rfl rfl (Nat.le_of_ble_eq_true rfl) ?_
  refine J_aload_n (i := 0) d_JL_charAt_6 rfl rfl ?_
  refine J_iload_n (i := 1) d_JL_charAt_7 rfl rfl ?_
  refine N_bald (x := (nI (WBL.getD i 0))) d_JL_charAt_8 rfl (by omega) (ltL hX (a := 4) (n := 156) (by decide) rfl (by omega)) (k_wb hX) ?_
  refine J_sipush (v := nI 255) d_JL_charAt_9 rfl ?_
  refine N_iand d_JL_charAt_12 ?_
  refine J_i2c d_JL_charAt_13 ?_
  rw [and255 (by omega), i2c_n _ (by omega)]
  refine M_ir d_JL_charAt_14 rfl (pk_charN (by omega)).1 ?_
  exact ⟨rfl, rfl⟩

theorem S_JS_isLatin1_3 {X : Mem} : CM 0 m_JS_isLatin1 [.ref 3] X (rB true X) := by
  refine CM_of (L := [some (.ref 3)]) 0 ok_JS_isLatin1 (fun _ => Nat.le_of_ble_eq_true rfl) rfl ?_
  refine J_gets (v := .int (nI 1)) d_JS_isLatin1_0 Fx_z3 w_JS_38 ?_
  refine N_if_eq (tgt := 17) d_JS_isLatin1_3 (by decide) (by omega) (fun c3 => absurd c3 (by decide)) (fun c3 => ?_)
  refine J_aload_n (i := 0) d_JS_isLatin1_6 rfl rfl ?_
  refine J_strC (a := 3) (by decide) d_JS_isLatin1_7 w_JS_15 ?_
  refine N_if_ne (tgt := 17) d_JS_isLatin1_10 (by decide) (show (0 : Nat) < 2147483648 by decide) (fun c10 => absurd c10 (by decide)) (fun c10 => ?_)
  refine J_iconst (v := nI 1) d_JS_isLatin1_13 rfl ?_
  refine J_goto (tgt := 18) d_JS_isLatin1_14 (by decide) ?_
  refine J.eq (st1 := [.int (b2i true)]) ?_ rfl rfl rfl
  refine M_ir d_JS_isLatin1_18 rfl b2i_nar ?_
  exact ⟨rfl, rfl⟩

theorem S_JS_coder_3 {X : Mem} : CM 0 m_JS_coder [.ref 3] X (rN 0 X) := by
  refine CM_of (L := [some (.ref 3)]) 0 ok_JS_coder (fun _ => Nat.le_of_ble_eq_true rfl) rfl ?_
  refine J_gets (v := .int (nI 1)) d_JS_coder_0 Fx_z3 w_JS_38 ?_
  refine N_if_eq (tgt := 13) d_JS_coder_3 (by decide) (by omega) (fun c3 => absurd c3 (by decide)) (fun c3 => ?_)
  refine J_aload_n (i := 0) d_JS_coder_6 rfl rfl ?_
  refine J_strC (a := 3) (by decide) d_JS_coder_7 w_JS_15 ?_
  refine J_goto (tgt := 14) d_JS_coder_10 (by decide) ?_
  refine M_ir d_JS_coder_14 rfl rfl ?_
  exact ⟨rfl, rfl⟩

theorem S_JS_length_3 {X : Mem} (hX : Ok X) : CM 1 m_JS_length [.ref 3] X (rN 156 X) := by
  refine CM_of (L := [some (.ref 3)]) 0 ok_JS_length (fun _ => Nat.le_of_ble_eq_true rfl) rfl ?_
  refine J_aload_n (i := 0) d_JS_length_0 rfl rfl ?_
  refine J_strV (a := 3) (by decide) d_JS_length_1 w_JS_9 ?_
  refine M_ilen (n := 156) d_JS_length_4 (by decide) (hX.1 4 (by decide)) ?_
  refine J_aload_n (i := 0) d_JS_length_5 rfl rfl ?_
  refine CV_N (av := []) d_JS_length_6 s_JS_335 (Or.inr ⟨rfl, by decide⟩) S_JS_coder_3 (by decide) rfl rfl (Nat.le_of_ble_eq_true rfl) ?_
  refine N_ishr d_JS_length_9 (by omega) (by omega) ?_
  refine M_ir d_JS_length_10 rfl rfl ?_
  exact ⟨rfl, rfl⟩

theorem S_JS_isLatin1_5 {X : Mem} : CM 0 m_JS_isLatin1 [.ref 5] X (rB true X) := by
  refine CM_of (L := [some (.ref 5)]) 0 ok_JS_isLatin1 (fun _ => Nat.le_of_ble_eq_true rfl) rfl ?_
  refine J_gets (v := .int (nI 1)) d_JS_isLatin1_0 Fx_z3 w_JS_38 ?_
  refine N_if_eq (tgt := 17) d_JS_isLatin1_3 (by decide) (by omega) (fun c3 => absurd c3 (by decide)) (fun c3 => ?_)
  refine J_aload_n (i := 0) d_JS_isLatin1_6 rfl rfl ?_
  refine J_strC (a := 5) (by decide) d_JS_isLatin1_7 w_JS_15 ?_
  refine N_if_ne (tgt := 17) d_JS_isLatin1_10 (by decide) (show (0 : Nat) < 2147483648 by decide) (fun c10 => absurd c10 (by decide)) (fun c10 => ?_)
  refine J_iconst (v := nI 1) d_JS_isLatin1_13 rfl ?_
  refine J_goto (tgt := 18) d_JS_isLatin1_14 (by decide) ?_
  refine J.eq (st1 := [.int (b2i true)]) ?_ rfl rfl rfl
  refine M_ir d_JS_isLatin1_18 rfl b2i_nar ?_
  exact ⟨rfl, rfl⟩

theorem S_JS_coder_5 {X : Mem} : CM 0 m_JS_coder [.ref 5] X (rN 0 X) := by
  refine CM_of (L := [some (.ref 5)]) 0 ok_JS_coder (fun _ => Nat.le_of_ble_eq_true rfl) rfl ?_
  refine J_gets (v := .int (nI 1)) d_JS_coder_0 Fx_z3 w_JS_38 ?_
  refine N_if_eq (tgt := 13) d_JS_coder_3 (by decide) (by omega) (fun c3 => absurd c3 (by decide)) (fun c3 => ?_)
  refine J_aload_n (i := 0) d_JS_coder_6 rfl rfl ?_
  refine J_strC (a := 5) (by decide) d_JS_coder_7 w_JS_15 ?_
  refine J_goto (tgt := 14) d_JS_coder_10 (by decide) ?_
  refine M_ir d_JS_coder_14 rfl rfl ?_
  exact ⟨rfl, rfl⟩

theorem S_JS_length_5 {X : Mem} (hX : Ok X) : CM 1 m_JS_length [.ref 5] X (rN 11 X) := by
  refine CM_of (L := [some (.ref 5)]) 0 ok_JS_length (fun _ => Nat.le_of_ble_eq_true rfl) rfl ?_
  refine J_aload_n (i := 0) d_JS_length_0 rfl rfl ?_
  refine J_strV (a := 5) (by decide) d_JS_length_1 w_JS_9 ?_
  refine M_ilen (n := 11) d_JS_length_4 (by decide) (hX.1 6 (by decide)) ?_
  refine J_aload_n (i := 0) d_JS_length_5 rfl rfl ?_
  refine CV_N (av := []) d_JS_length_6 s_JS_335 (Or.inr ⟨rfl, by decide⟩) S_JS_coder_5 (by decide) rfl rfl (Nat.le_of_ble_eq_true rfl) ?_
  refine N_ishr d_JS_length_9 (by omega) (by omega) ?_
  refine M_ir d_JS_length_10 rfl rfl ?_
  exact ⟨rfl, rfl⟩

theorem S_JS_charAt {X : Mem} {i : Nat} (hX : Ok X) (hi : i < 156) : CM 3 m_JS_charAt [.ref 3, .int (nI i)] X (rN (WBL.getD i 0) X) := by
  have hw := wb_lt i hi
  refine CM_of (L := [some (.ref 3), some (.int (nI i))]) 0 ok_JS_charAt (fun _ => Nat.le_of_ble_eq_true rfl) rfl ?_
  refine J_aload_n (i := 0) d_JS_charAt_0 rfl rfl ?_
  refine CV_B (av := []) d_JS_charAt_1 s_JS_492 (Or.inr ⟨rfl, by decide⟩) S_JS_isLatin1_3 (by decide) rfl rfl (Nat.le_of_ble_eq_true rfl) ?_
  refine B_if_eq (tgt := 16) d_JS_charAt_4 (by decide) (fun c4 => absurd c4 (by decide)) (fun c4 => ?_)
  refine J_aload_n (i := 0) d_JS_charAt_7 rfl rfl ?_
  refine J_strV (a := 3) (by decide) d_JS_charAt_8 w_JS_9 ?_
  refine J_iload_n (i := 1) d_JS_charAt_11 rfl rfl ?_
  refine CS_N (av := [.ref 4, .int (nI i)]) d_JS_charAt_12 s_JS_495 (S_JL_charAt hX hi) (by decide) rfl rfl (Nat.le_of_ble_eq_true rfl) ?_
  refine M_ir d_JS_charAt_15 rfl (pk_charN (by omega)).1 ?_
  exact ⟨rfl, rfl⟩

def sgB (c i : Nat) : Bool := decide (SBL.getD i 0 = c)
def sgN (c : Nat) : Nat := fstN (sgB c) 0 11
def sgO (c : Nat) : Int32 := if sgN c < 11 then nI (sgN c) else (-1)
theorem sb_eq : ∀ c, c < 256 → ∀ i, i < 11 → (nI (SBL.getD i 0) = ((nI c).toInt8).toInt32 ↔ SBL.getD i 0 = c) := by decide +kernel
theorem sg_k : ∀ c, c < 256 → sgK c 0 = if sgN c < 11 then 32 + sgN c else 47 := by decide +kernel
theorem sgN_le (c : Nat) : sgN c ≤ 11 := by have := fstN_le (sgB c) 11 0; unfold sgN; omega
theorem lp_JL_indexOfChar {X : Mem} {c : Nat} {Q : Option Value → Mem → Prop} (hX : Ok X) (hc : c < 256) (kq : Q (some (.int (sgO c))) X) : ∀ (k i : Nat), i + k = 11 → fstN (sgB c) i k = sgN c → JM 0 m_JL_indexOfChar Q 7 [some (.ref 6), some (.int (nI c)), some (.int (nI 0)), some (.int (nI 11)), some (.int ((nI c).toInt8.toInt32)), some (.int (nI i))] [] X := by
  intro k
  induction k with
  | zero =>
    intro i hi e
    obtain rfl : i = 11 := by omega
    refine J_iload d_JL_indexOfChar_7 rfl ?_
    refine J_iload_n (i := 3) d_JL_indexOfChar_9 rfl rfl ?_
    refine N_icmp_ge (tgt := 31) d_JL_indexOfChar_10 (by decide) (by omega) (by omega) (fun c10 => ?_) (fun c10 => absurd c10 (by decide))
    refine J_iconst (v := (-1)) d_JL_indexOfChar_31 rfl ?_
    refine M_ir d_JL_indexOfChar_32 rfl rfl ?_
    have e2 : sgN c = 11 := e.symm
    rw [sgO, if_neg (by omega)] at kq
    exact kq
  | succ k ih =>
    intro i hi e
    refine J_iload d_JL_indexOfChar_7 rfl ?_
    refine J_iload_n (i := 3) d_JL_indexOfChar_9 rfl rfl ?_
    refine N_icmp_ge (tgt := 31) d_JL_indexOfChar_10 (by decide) (by omega) (by omega) (fun c10 => absurd c10 (by omega)) (fun c10 => ?_)
    refine J_aload_n (i := 0) d_JL_indexOfChar_13 rfl rfl ?_
    refine J_iload d_JL_indexOfChar_14 rfl ?_
    refine N_bald (x := (nI (SBL.getD i 0))) d_JL_indexOfChar_16 rfl (by omega) (ltL hX (a := 6) (n := 11) (by decide) rfl (by omega)) (k_sb hX) ?_
    refine J_iload d_JL_indexOfChar_17 rfl ?_
    refine J_icmp_ne (tgt := 25) d_JL_indexOfChar_19 (by decide) (fun c19 => ?_) (fun c19 => ?_)
    · refine N_iinc (a := i) (c := 1) (L1 := [some (.ref 6), some (.int (nI c)), some (.int (nI 0)), some (.int (nI 11)), some (.int ((nI c).toInt8.toInt32)), some (.int (nI (i + 1)))]) d_JL_indexOfChar_25 rfl rfl (by decide) rfl ?_
      refine J_goto (tgt := 7) d_JL_indexOfChar_28 (by decide) ?_
      have hb : sgB c i = false := decide_eq_false (fun q => c19 ((sb_eq c hc i (by omega)).mpr q))
      rw [fstN, hb, if_neg Bool.false_ne_true] at e
      exact ih (i + 1) (by omega) e
    · refine J_iload d_JL_indexOfChar_22 rfl ?_
      refine M_ir d_JL_indexOfChar_24 rfl rfl ?_
      have hb : sgB c i = true := decide_eq_true ((sb_eq c hc i (by omega)).mp c19)
      rw [fstN, hb, if_pos rfl] at e
      rw [sgO, ← e, if_pos (by omega)] at kq
      exact kq
theorem S_JL_indexOfChar {X : Mem} {c : Nat} (hX : Ok X) (hc : c < 256) : CM 0 m_JL_indexOfChar [.ref 6, .int (nI c), .int (nI 0), .int (nI 11)] X (rI (sgO c) X) := by
  refine CM_of (L := [some (.ref 6), some (.int (nI c)), some (.int (nI 0)), some (.int (nI 11)), none, none]) 2 ok_JL_indexOfChar (fun _ => Nat.le_of_ble_eq_true rfl) rfl ?_
  refine J_iload_n (i := 1) d_JL_indexOfChar_0 rfl rfl ?_
  refine J_i2b d_JL_indexOfChar_1 rfl ?_
  refine J_istore (L1 := [some (.ref 6), some (.int (nI c)), some (.int (nI 0)), some (.int (nI 11)), some (.int (((nI c)).toInt8.toInt32)), none]) d_JL_indexOfChar_2 (by decide) rfl ?_
  refine J_iload_n (i := 2) d_JL_indexOfChar_4 rfl rfl ?_
  refine J_istore (L1 := [some (.ref 6), some (.int (nI c)), some (.int (nI 0)), some (.int (nI 11)), some (.int (((nI c)).toInt8.toInt32)), some (.int (nI 0))]) d_JL_indexOfChar_5 (by decide) rfl ?_
  exact lp_JL_indexOfChar hX hc ⟨rfl, rfl⟩ 11 0 rfl rfl

theorem S_JL_canEncode {X : Mem} {c : Nat} (hc : c < 256) : CM 0 m_JL_canEncode [.int (nI c)] X (rB true X) := by
  refine CM_of (L := [some (.int (nI c))]) 0 ok_JL_canEncode (fun _ => Nat.le_of_ble_eq_true rfl) rfl ?_
  refine J_iload_n (i := 0) d_JL_canEncode_0 rfl rfl ?_
  refine N_if_lt (tgt := 15) d_JL_canEncode_1 (by decide) (by omega) ?_
  refine J_iload_n (i := 0) d_JL_canEncode_4 rfl rfl ?_
  refine J_sipush (v := nI 255) d_JL_canEncode_5 rfl ?_
  refine N_icmp_gt (tgt := 15) d_JL_canEncode_8 (by decide) (by omega) (by omega) (fun c8 => absurd c8 (by omega)) (fun c8 => ?_)
  refine J_iconst (v := nI 1) d_JL_canEncode_11 rfl ?_
  refine J_goto (tgt := 16) d_JL_canEncode_12 (by decide) ?_
  refine J.eq (st1 := [.int (b2i true)]) ?_ rfl rfl rfl
  refine M_ir d_JL_canEncode_16 rfl b2i_nar ?_
  exact ⟨rfl, rfl⟩

theorem S_JL_indexOf {X : Mem} {c : Nat} (hX : Ok X) (hc : c < 256) : CM 1 m_JL_indexOf [.ref 6, .int (nI c), .int (nI 0), .int (nI 11)] X (rI (sgO c) X) := by
  refine CM_of (L := [some (.ref 6), some (.int (nI c)), some (.int (nI 0)), some (.int (nI 11))]) 0 ok_JL_indexOf (fun _ => Nat.le_of_ble_eq_true rfl) rfl ?_
  refine J_iload_n (i := 1) d_JL_indexOf_0 rfl rfl ?_
  refine CS_B (av := [.int (nI c)]) d_JL_indexOf_1 s_JL_88 (S_JL_canEncode hc) (by decide) rfl rfl (Nat.le_of_ble_eq_true rfl) ?_
  refine B_if_ne (tgt := 9) d_JL_indexOf_4 (by decide) (fun c4 => ?_) (fun c4 => absurd c4 (by decide))
  refine J_iload_n (i := 2) d_JL_indexOf_9 rfl rfl ?_
  refine J_iconst (v := nI 0) d_JL_indexOf_10 rfl ?_
  refine J_mmax d_JL_indexOf_11 w_JL_92 w_math_max_s w_mathInit w_math_max_c (by omega) (Nat.le_of_ble_eq_true rfl) ?_
  refine I_ton (n := max 0 0) (nI_max (by omega) (by omega)) ?_
  rw [show max 0 0 = 0 from rfl]
  refine J_istore_n (i := 2) (L1 := [some (.ref 6), some (.int (nI c)), some (.int (nI 0)), some (.int (nI 11))]) d_JL_indexOf_14 rfl (by decide) rfl ?_
  refine J_iload_n (i := 3) d_JL_indexOf_15 rfl rfl ?_
  refine J_aload_n (i := 0) d_JL_indexOf_16 rfl rfl ?_
  refine M_ilen (n := 11) d_JL_indexOf_17 (by decide) (hX.1 6 (by decide)) ?_
  refine J_mmin d_JL_indexOf_18 w_JL_38 w_math_min_s w_mathInit w_math_min_c (by omega) (Nat.le_of_ble_eq_true rfl) ?_
  refine I_ton (n := min 11 11) (nI_min (by omega) (by omega)) ?_
  rw [show min 11 11 = 11 from rfl]
  refine J_istore_n (i := 3) (L1 := [some (.ref 6), some (.int (nI c)), some (.int (nI 0)), some (.int (nI 11))]) d_JL_indexOf_21 rfl (by decide) rfl ?_
  refine J_iload_n (i := 2) d_JL_indexOf_22 rfl rfl ?_
  refine J_iload_n (i := 3) d_JL_indexOf_23 rfl rfl ?_
  refine N_icmp_lt (tgt := 29) d_JL_indexOf_24 (by decide) (by omega) (by omega) (fun c24 => ?_) (fun c24 => absurd c24 (by decide))
  refine J_aload_n (i := 0) d_JL_indexOf_29 rfl rfl ?_
  refine J_iload_n (i := 1) d_JL_indexOf_30 rfl rfl ?_
  refine J_iload_n (i := 2) d_JL_indexOf_31 rfl rfl ?_
  refine J_iload_n (i := 3) d_JL_indexOf_32 rfl rfl ?_
  refine CS_I (av := [.ref 6, .int (nI c), .int (nI 0), .int (nI 11)]) d_JL_indexOf_33 s_JL_95 (S_JL_indexOfChar hX hc) (by decide) rfl rfl (Nat.le_of_ble_eq_true rfl) ?_
  refine M_ir d_JL_indexOf_36 rfl rfl ?_
  exact ⟨rfl, rfl⟩

theorem S_JS_indexOf_III {X : Mem} {c : Nat} (hX : Ok X) (hc : c < 256) : CM 2 m_JS_indexOf_III [.ref 5, .int (nI c), .int (nI 0)] X (rI (sgO c) X) := by
  refine CM_of (L := [some (.ref 5), some (.int (nI c)), some (.int (nI 0))]) 0 ok_JS_indexOf_III (fun _ => Nat.le_of_ble_eq_true rfl) rfl ?_
  refine J_aload_n (i := 0) d_JS_indexOf_III_0 rfl rfl ?_
  refine CV_B (av := []) d_JS_indexOf_III_1 s_JS_492 (Or.inr ⟨rfl, by decide⟩) S_JS_isLatin1_5 (by decide) rfl rfl (Nat.le_of_ble_eq_true rfl) ?_
  refine B_if_eq (tgt := 23) d_JS_indexOf_III_4 (by decide) (fun c4 => absurd c4 (by decide)) (fun c4 => ?_)
  refine J_aload_n (i := 0) d_JS_indexOf_III_7 rfl rfl ?_
  refine J_strV (a := 5) (by decide) d_JS_indexOf_III_8 w_JS_9 ?_
  refine J_iload_n (i := 1) d_JS_indexOf_III_11 rfl rfl ?_
  refine J_iload_n (i := 2) d_JS_indexOf_III_12 rfl rfl ?_
  refine J_aload_n (i := 0) d_JS_indexOf_III_13 rfl rfl ?_
  refine CV_N (av := []) d_JS_indexOf_III_14 s_JS_505 (Or.inr ⟨rfl, by decide⟩) (S_JS_length_5 hX) (by decide) rfl rfl (Nat.le_of_ble_eq_true rfl) ?_
  refine CS_I (av := [.ref 6, .int (nI c), .int (nI 0), .int (nI 11)]) d_JS_indexOf_III_17 s_JS_637 (S_JL_indexOf hX hc) (by decide) rfl rfl (Nat.le_of_ble_eq_true rfl) ?_
  refine J_goto (tgt := 36) d_JS_indexOf_III_20 (by decide) ?_
  refine M_ir d_JS_indexOf_III_36 rfl rfl ?_
  exact ⟨rfl, rfl⟩

theorem S_JS_indexOf_II {X : Mem} {c : Nat} (hX : Ok X) (hc : c < 256) : CM 3 m_JS_indexOf_II [.ref 5, .int (nI c)] X (rI (sgO c) X) := by
  refine CM_of (L := [some (.ref 5), some (.int (nI c))]) 0 ok_JS_indexOf_II (fun _ => Nat.le_of_ble_eq_true rfl) rfl ?_
  refine J_aload_n (i := 0) d_JS_indexOf_II_0 rfl rfl ?_
  refine J_iload_n (i := 1) d_JS_indexOf_II_1 rfl rfl ?_
  refine J_iconst (v := nI 0) d_JS_indexOf_II_2 rfl ?_
  refine CV_I (av := [.int (nI c), .int (nI 0)]) d_JS_indexOf_II_3 s_JS_633 (Or.inr ⟨rfl, by decide⟩) (S_JS_indexOf_III hX hc) (by decide) rfl rfl (Nat.le_of_ble_eq_true rfl) ?_
  refine M_ir d_JS_indexOf_II_6 rfl rfl ?_
  exact ⟨rfl, rfl⟩

