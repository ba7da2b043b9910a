/-- a's bits but b's -/
def andn (a b : Nat) : Nat := a ^^^ (a &&& b)
theorem nI_andn (a b : Nat) : nI a &&& (nI b ^^^ (-1)) = nI (andn a b) := by
  apply Int32.toBitVec_inj.1
  show BitVec.ofNat 32 a &&& (BitVec.ofNat 32 b ^^^ BitVec.allOnes 32) = BitVec.ofNat 32 (andn a b)
  apply BitVec.eq_of_getLsbD_eq
  intro i hi
  simp only [BitVec.getLsbD_and, BitVec.getLsbD_xor, BitVec.getLsbD_ofNat, BitVec.getLsbD_allOnes, hi, decide_true, Bool.true_and, andn, Nat.testBit_xor, Nat.testBit_and]
  cases a.testBit i <;> cases b.testBit i <;> rfl
theorem nI_andn' (a b : Nat) : (nI b ^^^ (-1)) &&& nI a = nI (andn a b) := by rw [Int32.and_comm, nI_andn]
theorem andn_tb (a b k : Nat) : (andn a b).testBit k = (a.testBit k && !b.testBit k) := by
  simp only [andn, Nat.testBit_xor, Nat.testBit_and]
  cases a.testBit k <;> cases b.testBit k <;> rfl
theorem andn_le (a b : Nat) : andn a b ≤ a := by
  apply Nat.le_of_testBit
  intro i h
  rw [andn_tb] at h
  simp at h
  exact h.1
theorem andn_lt {a b n : Nat} (h : a < n) : andn a b < n := Nat.lt_of_le_of_lt (andn_le a b) h
theorem sh_lt {j n k : Nat} (h : j < k) (e : 2 ^ k ≤ n) : 1 <<< j < n := by
  rw [shl1]
  exact Nat.lt_of_lt_of_le (Nat.pow_lt_pow_right (by decide) h) e
theorem por_lt (k : Nat) : (1 <<< ONEL.getD k 0 ||| 1 <<< OTHL.getD k 0) < 512 := or_lt 9 (sh_lt one_lt (by decide)) (sh_lt oth_lt (by decide))
theorem S_R_has {X : Mem} {s k : Nat} (hs : s < 2147483648) (hk : k < 32) : CM 0 m_R_has [.int (nI s), .int (nI k)] X (rB (s.testBit k) X) := by
  refine CM_of (L := [some (.int (nI s)), some (.int (nI k))]) 0 ok_R_has (fun _ => Nat.le_of_ble_eq_true rfl) rfl ?_
  refine J_iload_n (i := 0) d_R_has_0 rfl rfl ?_
  refine J_iload_n (i := 1) d_R_has_1 rfl rfl ?_
  refine N_ishr d_R_has_2 (by first | omega | exact and_lt' (by decide)) (by first | omega | exact and_lt' (by decide)) ?_
  refine J_iconst (v := nI 1) d_R_has_3 rfl ?_
  refine N_iand d_R_has_4 ?_
  refine J_iconst (v := nI 1) d_R_has_5 rfl ?_
  refine N_icmp_ne (tgt := 13) d_R_has_6 (by decide) (by first | omega | exact and_lt' (by decide)) (by first | omega | exact and_lt' (by decide)) (fun c6 => ?_) (fun c6 => ?_)
  · refine J_iconst (v := nI 0) d_R_has_13 rfl ?_
    refine J.eq (st1 := [.int (b2i false)]) ?_ rfl rfl rfl
    refine M_ir d_R_has_14 rfl b2i_nar ?_
    exact ⟨by rw [Bool.eq_false_iff.mpr (fun q => c6 ((tb_and1 s k).mpr q))], rfl⟩
  · refine J_iconst (v := nI 1) d_R_has_9 rfl ?_
    refine J_goto (tgt := 14) d_R_has_10 (by decide) ?_
    refine J.eq (st1 := [.int (b2i true)]) ?_ rfl rfl rfl
    refine M_ir d_R_has_14 rfl b2i_nar ?_
    exact ⟨by rw [(tb_and1 s k).mp c6], rfl⟩

theorem lp_R_bits {d : Nat} {Q : Option Value → Mem → Prop} {X : Mem} {s : Nat} (kx : JM d m_R_bits Q 20 [some (.int (nI s)), some (.int (nI (bc s))), some (.int (nI 0))] [] X) : ∀ (n left c : Nat), left < n → left < 2147483648 → c + bc left = bc s → JM d m_R_bits Q 4 [some (.int (nI s)), some (.int (nI c)), some (.int (nI left))] [] X := by
  intro n
  induction n with
  | zero => intro left c h1 h2 h3; omega
  | succ n ih =>
    intro left c h1 h2 h3
    refine J_iload_n (i := 2) d_R_bits_4 rfl rfl ?_
    refine N_if_eq (tgt := 20) d_R_bits_5 (by decide) (by omega) (fun c5 => ?_) (fun c5 => ?_)
    · obtain rfl : left = 0 := by omega
      rw [show c = bc s by rw [← h3]; rfl]
      exact kx
    · refine N_iinc (a := c) (c := 1) (L1 := [some (.int (nI s)), some (.int (nI (c + 1))), some (.int (nI left))]) d_R_bits_8 rfl rfl (by decide) rfl ?_
      refine J_iload_n (i := 2) d_R_bits_11 rfl rfl ?_
      refine J_iload_n (i := 2) d_R_bits_12 rfl rfl ?_
      refine J_iconst (v := nI 1) d_R_bits_13 rfl ?_
      refine N_isub d_R_bits_14 (by omega) ?_
      refine N_iand d_R_bits_15 ?_
      refine N_nm (fun v16 hv16 => ?_)
      refine J_istore_n (i := 2) (L1 := [some (.int (nI s)), some (.int (nI (c + 1))), some (.int (nI v16))]) d_R_bits_16 rfl (by decide) rfl ?_
      refine J_goto (tgt := 4) d_R_bits_17 (by decide) ?_
      have hp := pred_and left (by omega)
      have hb := pcn_pred 32 left (by omega) (by omega)
      exact ih _ _ (by omega) (by omega) (by subst hv16; have h4 : c + pcn 32 left = pcn 32 s := h3; show c + 1 + pcn 32 _ = pcn 32 s; omega)
theorem S_R_bits {X : Mem} {s : Nat} (hs : s < 2147483648) : CM 0 m_R_bits [.int (nI s)] X (rN (bc s) X) := by
  refine CM_of (L := [some (.int (nI s)), none, none]) 2 ok_R_bits (fun _ => Nat.le_of_ble_eq_true rfl) rfl ?_
  refine J_iconst (v := nI 0) d_R_bits_0 rfl ?_
  refine J_istore_n (i := 1) (L1 := [some (.int (nI s)), some (.int (nI 0)), none]) d_R_bits_1 rfl (by decide) rfl ?_
  refine J_iload_n (i := 0) d_R_bits_2 rfl rfl ?_
  refine J_istore_n (i := 2) (L1 := [some (.int (nI s)), some (.int (nI 0)), some (.int (nI s))]) d_R_bits_3 rfl (by decide) rfl ?_
  refine lp_R_bits ?_ (s + 1) s 0 (by omega) hs (by omega)
  refine J_iload_n (i := 1) d_R_bits_20 rfl rfl ?_
  refine M_ir d_R_bits_21 rfl rfl ?_
  exact ⟨rfl, rfl⟩

def mvs (w s : Nat) : Nat := itr (fun k r => if s.testBit k then r ||| 1 <<< MVL.getD (20 * w + k) 0 else r) 0 20
theorem lp_R_byWay {d : Nat} {Q : Option Value → Mem → Prop} {X : Mem} {s w : Nat} (hX : Ok X) (hs : s < 1048576) (hw : w < 8) (hd : 1 ≤ d) (kx : JM d m_R_byWay Q 44 [some (.ref 244), some (.int (nI s)), some (.int (nI w)), some (.int (nI (itr (fun k r => if s.testBit k then r ||| 1 <<< MVL.getD (20 * w + k) 0 else r) 0 20))), some (.int (nI 20))] [] X) : ∀ (n i : Nat), i + n = 20 → JM d m_R_byWay Q 5 [some (.ref 244), some (.int (nI s)), some (.int (nI w)), some (.int (nI (itr (fun k r => if s.testBit k then r ||| 1 <<< MVL.getD (20 * w + k) 0 else r) 0 i))), some (.int (nI i))] [] X := by
  intro n
  induction n with
  | zero =>
    intro i hi
    obtain rfl : i = 20 := by omega
    refine J_iload d_R_byWay_5 rfl ?_
    refine J_bipush (v := nI 20) d_R_byWay_7 rfl ?_
    refine N_icmp_ge (tgt := 44) d_R_byWay_9 (by decide) (by first | omega | exact Nat.lt_trans bec_lt (by decide)) (by first | omega | exact Nat.lt_trans bec_lt (by decide)) (fun c9 => ?_) (fun c9 => absurd c9 (by omega))
    exact kx
  | succ n ih =>
    intro i hi
    generalize hx : (itr (fun k r => if s.testBit k then r ||| 1 <<< MVL.getD (20 * w + k) 0 else r) 0 i) = x
    refine J_iload d_R_byWay_5 rfl ?_
    refine J_bipush (v := nI 20) d_R_byWay_7 rfl ?_
    refine N_icmp_ge (tgt := 44) d_R_byWay_9 (by decide) (by first | omega | exact Nat.lt_trans bec_lt (by decide)) (by first | omega | exact Nat.lt_trans bec_lt (by decide)) (fun c9 => absurd c9 (by omega)) (fun c9 => ?_)
    refine J_iload_n (i := 1) d_R_byWay_12 rfl rfl ?_
    refine J_iload d_R_byWay_13 rfl ?_
    refine CS_B (av := [.int (nI s), .int (nI i)]) d_R_byWay_15 s_R_94 (S_R_has (by first | omega | (simp only [*]; omega)) (by first | omega | exact Nat.lt_trans one_lt (by decide) | exact Nat.lt_trans oth_lt (by decide))) (by omega) rfl rfl (Nat.le_of_ble_eq_true rfl) ?_
    refine B_if_eq (tgt := 38) d_R_byWay_18 (by decide) (fun c18 => ?_) (fun c18 => ?_)
    · refine N_iinc (a := i) (c := 1) (L1 := [some (.ref 244), some (.int (nI s)), some (.int (nI w)), some (.int (nI x)), some (.int (nI (i + 1)))]) d_R_byWay_38 rfl rfl (by decide) rfl ?_
      refine J_goto (tgt := 5) d_R_byWay_41 (by decide) ?_
      exact (ih (i + 1) (by omega)).eq (by rw [show itr (fun k r => if s.testBit k then r ||| 1 <<< MVL.getD (20 * w + k) 0 else r) 0 (i + 1) = x from itr_g hx (by first | (simp [-List.getD_eq_getElem?_getD, c9, c18, BECL]; done) | (split <;> omega) | (dsimp only; split <;> omega))]) rfl rfl
    · refine J_iload_n (i := 3) d_R_byWay_21 rfl rfl ?_
      refine J_iconst (v := nI 1) d_R_byWay_22 rfl ?_
      refine J_aload_n (i := 0) d_R_byWay_23 rfl rfl ?_
      refine M_getR (b := 249) d_R_byWay_24 f_R_22 rfl rfl rfl ?_
      refine J_bipush (v := nI 20) d_R_byWay_27 rfl ?_
      refine J_iload_n (i := 2) d_R_byWay_29 rfl rfl ?_
      refine N_imul d_R_byWay_30 ?_
      refine J_iload d_R_byWay_31 rfl ?_
      refine N_iadd d_R_byWay_33 ?_
      refine N_iald (x := (nI (BECL.getD ((20 * w) + i) 0))) d_R_byWay_34 rfl (by first | omega | exact Nat.lt_trans bec_lt (by decide)) (ltL hX (a := 249) (n := 160) (by decide) rfl (by first | omega | exact Nat.lt_trans bec_lt (by decide))) (k_bec hX) ?_
      refine N_ishl d_R_byWay_35 (by first | omega | exact Nat.lt_trans bec_lt (by decide)) ?_
      refine N_ior d_R_byWay_36 ?_
      refine N_nm (fun v37 hv37 => ?_)
      refine J_istore_n (i := 3) (L1 := [some (.ref 244), some (.int (nI s)), some (.int (nI w)), some (.int (nI v37)), some (.int (nI i))]) d_R_byWay_37 rfl (by decide) rfl ?_
      refine N_iinc (a := i) (c := 1) (L1 := [some (.ref 244), some (.int (nI s)), some (.int (nI w)), some (.int (nI v37)), some (.int (nI (i + 1)))]) d_R_byWay_38 rfl rfl (by decide) rfl ?_
      refine J_goto (tgt := 5) d_R_byWay_41 (by decide) ?_
      exact (ih (i + 1) (by omega)).eq (by rw [show itr (fun k r => if s.testBit k then r ||| 1 <<< MVL.getD (20 * w + k) 0 else r) 0 (i + 1) = v37 from itr_g hx (by first | (simp [-List.getD_eq_getElem?_getD, c9, c18, hv37, BECL]; done) | (split <;> omega) | (dsimp only; split <;> omega))]) rfl rfl

theorem S_R_byWay {X : Mem} {s w : Nat} (hX : Ok X) (hs : s < 1048576) (hw : w < 8) : CM 1 m_R_byWay [.ref 244, .int (nI s), .int (nI w)] X (rN (mvs w s) X) := by
  refine CM_of (L := [some (.ref 244), some (.int (nI s)), some (.int (nI w)), none, none]) 2 ok_R_byWay (fun _ => Nat.le_of_ble_eq_true rfl) rfl ?_
  refine J_iconst (v := nI 0) d_R_byWay_0 rfl ?_
  refine J_istore_n (i := 3) (L1 := [some (.ref 244), some (.int (nI s)), some (.int (nI w)), some (.int (nI 0)), none]) d_R_byWay_1 rfl (by decide) rfl ?_
  refine J_iconst (v := nI 0) d_R_byWay_2 rfl ?_
  refine J_istore (L1 := [some (.ref 244), some (.int (nI s)), some (.int (nI w)), some (.int (nI 0)), some (.int (nI 0))]) d_R_byWay_3 (by decide) rfl ?_
  refine lp_R_byWay hX hs hw (by decide) ?_ 20 0 (by omega)
  refine J_iload_n (i := 3) d_R_byWay_44 rfl rfl ?_
  refine M_ir d_R_byWay_45 rfl rfl ?_
  exact ⟨rfl, rfl⟩

def stA (s p : Nat) : Nat := itr (fun k c => c + if s.testBit k && (ONEL.getD k 0 == p || OTHL.getD k 0 == p) then 1 else 0) 0 20
theorem lp_R_strokesAt {d : Nat} {Q : Option Value → Mem → Prop} {X : Mem} {s p : Nat} (hX : Ok X) (hs : s < 1048576) (hp : p < 9) (hd : 1 ≤ d) (kx : JM d m_R_strokesAt Q 57 [some (.ref 244), some (.int (nI s)), some (.int (nI p)), some (.int (nI (itr (fun k c => c + if s.testBit k && (ONEL.getD k 0 == p || OTHL.getD k 0 == p) then 1 else 0) 0 20))), some (.int (nI 20))] [] X) : ∀ (n i : Nat), i + n = 20 → JM d m_R_strokesAt Q 5 [some (.ref 244), some (.int (nI s)), some (.int (nI p)), some (.int (nI (itr (fun k c => c + if s.testBit k && (ONEL.getD k 0 == p || OTHL.getD k 0 == p) then 1 else 0) 0 i))), some (.int (nI i))] [] X := by
  intro n
  induction n with
  | zero =>
    intro i hi
    obtain rfl : i = 20 := by omega
    refine J_iload d_R_strokesAt_5 rfl ?_
    refine J_bipush (v := nI 20) d_R_strokesAt_7 rfl ?_
    refine N_icmp_ge (tgt := 57) d_R_strokesAt_9 (by decide) (by first | omega | exact Nat.lt_trans one_lt (by decide) | exact Nat.lt_trans oth_lt (by decide)) (by first | omega | exact Nat.lt_trans one_lt (by decide) | exact Nat.lt_trans oth_lt (by decide)) (fun c9 => ?_) (fun c9 => absurd c9 (by omega))
    exact kx
  | succ n ih =>
    intro i hi
    generalize hx : (itr (fun k c => c + if s.testBit k && (ONEL.getD k 0 == p || OTHL.getD k 0 == p) then 1 else 0) 0 i) = x
    refine J_iload d_R_strokesAt_5 rfl ?_
    refine J_bipush (v := nI 20) d_R_strokesAt_7 rfl ?_
    refine N_icmp_ge (tgt := 57) d_R_strokesAt_9 (by decide) (by first | omega | exact Nat.lt_trans one_lt (by decide) | exact Nat.lt_trans oth_lt (by decide)) (by first | omega | exact Nat.lt_trans one_lt (by decide) | exact Nat.lt_trans oth_lt (by decide)) (fun c9 => absurd c9 (by omega)) (fun c9 => ?_)
    refine J_iload_n (i := 3) d_R_strokesAt_12 rfl rfl ?_
    refine J_iload_n (i := 1) d_R_strokesAt_13 rfl rfl ?_
    refine J_iload d_R_strokesAt_14 rfl ?_
    refine CS_B (av := [.int (nI s), .int (nI i)]) d_R_strokesAt_16 s_R_94 (S_R_has (by first | omega | (simp only [*]; omega)) (by first | omega | exact Nat.lt_trans one_lt (by decide) | exact Nat.lt_trans oth_lt (by decide))) (by omega) rfl rfl (Nat.le_of_ble_eq_true rfl) ?_
    refine B_if_eq (tgt := 48) d_R_strokesAt_19 (by decide) (fun c19 => ?_) (fun c19 => ?_)
    · refine J_iconst (v := nI 0) d_R_strokesAt_48 rfl ?_
      refine N_iadd d_R_strokesAt_49 ?_
      refine J_istore_n (i := 3) (L1 := [some (.ref 244), some (.int (nI s)), some (.int (nI p)), some (.int (nI (x + 0))), some (.int (nI i))]) d_R_strokesAt_50 rfl (by decide) rfl ?_
      refine N_iinc (a := i) (c := 1) (L1 := [some (.ref 244), some (.int (nI s)), some (.int (nI p)), some (.int (nI (x + 0))), some (.int (nI (i + 1)))]) d_R_strokesAt_51 rfl rfl (by decide) rfl ?_
      refine J_goto (tgt := 5) d_R_strokesAt_54 (by decide) ?_
      exact (ih (i + 1) (by omega)).eq (by rw [show itr (fun k c => c + if s.testBit k && (ONEL.getD k 0 == p || OTHL.getD k 0 == p) then 1 else 0) 0 (i + 1) = (x + 0) from itr_g hx (by first | (simp [-List.getD_eq_getElem?_getD, c9, c19]; done) | (split <;> omega) | (dsimp only; split <;> omega))]) rfl rfl
    · refine J_aload_n (i := 0) d_R_strokesAt_22 rfl rfl ?_
      refine M_getR (b := 247) d_R_strokesAt_23 f_R_16 rfl rfl rfl ?_
      refine J_iload d_R_strokesAt_26 rfl ?_
      refine N_iald (x := (nI (ONEL.getD i 0))) d_R_strokesAt_28 rfl (by first | omega | exact Nat.lt_trans one_lt (by decide) | exact Nat.lt_trans oth_lt (by decide)) (ltL hX (a := 247) (n := 20) (by decide) rfl (by first | omega | exact Nat.lt_trans one_lt (by decide) | exact Nat.lt_trans oth_lt (by decide))) (k_one hX) ?_
      refine J_iload_n (i := 2) d_R_strokesAt_29 rfl rfl ?_
      refine N_icmp_eq (tgt := 44) d_R_strokesAt_30 (by decide) (by first | omega | exact Nat.lt_trans one_lt (by decide) | exact Nat.lt_trans oth_lt (by decide)) (by first | omega | exact Nat.lt_trans one_lt (by decide) | exact Nat.lt_trans oth_lt (by decide)) (fun c30 => ?_) (fun c30 => ?_)
      · refine J_iconst (v := nI 1) d_R_strokesAt_44 rfl ?_
        refine J_goto (tgt := 49) d_R_strokesAt_45 (by decide) ?_
        refine N_iadd d_R_strokesAt_49 ?_
        refine J_istore_n (i := 3) (L1 := [some (.ref 244), some (.int (nI s)), some (.int (nI p)), some (.int (nI (x + 1))), some (.int (nI i))]) d_R_strokesAt_50 rfl (by decide) rfl ?_
        refine N_iinc (a := i) (c := 1) (L1 := [some (.ref 244), some (.int (nI s)), some (.int (nI p)), some (.int (nI (x + 1))), some (.int (nI (i + 1)))]) d_R_strokesAt_51 rfl rfl (by decide) rfl ?_
        refine J_goto (tgt := 5) d_R_strokesAt_54 (by decide) ?_
        exact (ih (i + 1) (by omega)).eq (by rw [show itr (fun k c => c + if s.testBit k && (ONEL.getD k 0 == p || OTHL.getD k 0 == p) then 1 else 0) 0 (i + 1) = (x + 1) from itr_g hx (by first | (simp [-List.getD_eq_getElem?_getD, c9, c19, c30]; done) | (split <;> omega) | (dsimp only; split <;> omega))]) rfl rfl
      · refine J_aload_n (i := 0) d_R_strokesAt_33 rfl rfl ?_
        refine M_getR (b := 248) d_R_strokesAt_34 f_R_19 rfl rfl rfl ?_
        refine J_iload d_R_strokesAt_37 rfl ?_
        refine N_iald (x := (nI (OTHL.getD i 0))) d_R_strokesAt_39 rfl (by first | omega | exact Nat.lt_trans one_lt (by decide) | exact Nat.lt_trans oth_lt (by decide)) (ltL hX (a := 248) (n := 20) (by decide) rfl (by first | omega | exact Nat.lt_trans one_lt (by decide) | exact Nat.lt_trans oth_lt (by decide))) (k_oth hX) ?_
        refine J_iload_n (i := 2) d_R_strokesAt_40 rfl rfl ?_
        refine N_icmp_ne (tgt := 48) d_R_strokesAt_41 (by decide) (by first | omega | exact Nat.lt_trans one_lt (by decide) | exact Nat.lt_trans oth_lt (by decide)) (by first | omega | exact Nat.lt_trans one_lt (by decide) | exact Nat.lt_trans oth_lt (by decide)) (fun c41 => ?_) (fun c41 => ?_)
        · refine J_iconst (v := nI 0) d_R_strokesAt_48 rfl ?_
          refine N_iadd d_R_strokesAt_49 ?_
          refine J_istore_n (i := 3) (L1 := [some (.ref 244), some (.int (nI s)), some (.int (nI p)), some (.int (nI (x + 0))), some (.int (nI i))]) d_R_strokesAt_50 rfl (by decide) rfl ?_
          refine N_iinc (a := i) (c := 1) (L1 := [some (.ref 244), some (.int (nI s)), some (.int (nI p)), some (.int (nI (x + 0))), some (.int (nI (i + 1)))]) d_R_strokesAt_51 rfl rfl (by decide) rfl ?_
          refine J_goto (tgt := 5) d_R_strokesAt_54 (by decide) ?_
          exact (ih (i + 1) (by omega)).eq (by rw [show itr (fun k c => c + if s.testBit k && (ONEL.getD k 0 == p || OTHL.getD k 0 == p) then 1 else 0) 0 (i + 1) = (x + 0) from itr_g hx (by first | (simp [-List.getD_eq_getElem?_getD, c9, c19, c30, c41]; done) | (split <;> omega) | (dsimp only; split <;> omega))]) rfl rfl
        · refine J_iconst (v := nI 1) d_R_strokesAt_44 rfl ?_
          refine J_goto (tgt := 49) d_R_strokesAt_45 (by decide) ?_
          refine N_iadd d_R_strokesAt_49 ?_
          refine J_istore_n (i := 3) (L1 := [some (.ref 244), some (.int (nI s)), some (.int (nI p)), some (.int (nI (x + 1))), some (.int (nI i))]) d_R_strokesAt_50 rfl (by decide) rfl ?_
          refine N_iinc (a := i) (c := 1) (L1 := [some (.ref 244), some (.int (nI s)), some (.int (nI p)), some (.int (nI (x + 1))), some (.int (nI (i + 1)))]) d_R_strokesAt_51 rfl rfl (by decide) rfl ?_
          refine J_goto (tgt := 5) d_R_strokesAt_54 (by decide) ?_
          exact (ih (i + 1) (by omega)).eq (by rw [show itr (fun k c => c + if s.testBit k && (ONEL.getD k 0 == p || OTHL.getD k 0 == p) then 1 else 0) 0 (i + 1) = (x + 1) from itr_g hx (by first | (simp [-List.getD_eq_getElem?_getD, c9, c19, c30, c41]; done) | (split <;> omega) | (dsimp only; split <;> omega))]) rfl rfl

theorem S_R_strokesAt {X : Mem} {s p : Nat} (hX : Ok X) (hs : s < 1048576) (hp : p < 9) : CM 1 m_R_strokesAt [.ref 244, .int (nI s), .int (nI p)] X (rN (stA s p) X) := by
  refine CM_of (L := [some (.ref 244), some (.int (nI s)), some (.int (nI p)), none, none]) 2 ok_R_strokesAt (fun _ => Nat.le_of_ble_eq_true rfl) rfl ?_
  refine J_iconst (v := nI 0) d_R_strokesAt_0 rfl ?_
  refine J_istore_n (i := 3) (L1 := [some (.ref 244), some (.int (nI s)), some (.int (nI p)), some (.int (nI 0)), none]) d_R_strokesAt_1 rfl (by decide) rfl ?_
  refine J_iconst (v := nI 0) d_R_strokesAt_2 rfl ?_
  refine J_istore (L1 := [some (.ref 244), some (.int (nI s)), some (.int (nI p)), some (.int (nI 0)), some (.int (nI 0))]) d_R_strokesAt_3 (by decide) rfl ?_
  refine lp_R_strokesAt hX hs hp (by decide) ?_ 20 0 (by omega)
  refine J_iload_n (i := 3) d_R_strokesAt_57 rfl rfl ?_
  refine M_ir d_R_strokesAt_58 rfl rfl ?_
  exact ⟨rfl, rfl⟩

def pts (s : Nat) : Nat := itr (fun k q => if s.testBit k then q ||| (1 <<< ONEL.getD k 0 ||| 1 <<< OTHL.getD k 0) else q) 0 20
theorem lp_R_pointsOf {d : Nat} {Q : Option Value → Mem → Prop} {X : Mem} {s : Nat} (hX : Ok X) (hs : s < 1048576) (hd : 1 ≤ d) (kx : JM d m_R_pointsOf Q 44 [some (.ref 244), some (.int (nI s)), some (.int (nI (itr (fun k q => if s.testBit k then q ||| (1 <<< ONEL.getD k 0 ||| 1 <<< OTHL.getD k 0) else q) 0 20))), some (.int (nI 20))] [] X) : ∀ (n i : Nat), i + n = 20 → JM d m_R_pointsOf Q 4 [some (.ref 244), some (.int (nI s)), some (.int (nI (itr (fun k q => if s.testBit k then q ||| (1 <<< ONEL.getD k 0 ||| 1 <<< OTHL.getD k 0) else q) 0 i))), some (.int (nI i))] [] X := by
  intro n
  induction n with
  | zero =>
    intro i hi
    obtain rfl : i = 20 := by omega
    refine J_iload_n (i := 3) d_R_pointsOf_4 rfl rfl ?_
    refine J_bipush (v := nI 20) d_R_pointsOf_5 rfl ?_
    refine N_icmp_ge (tgt := 44) d_R_pointsOf_7 (by decide) (by first | omega | exact Nat.lt_trans one_lt (by decide) | exact Nat.lt_trans oth_lt (by decide)) (by first | omega | exact Nat.lt_trans one_lt (by decide) | exact Nat.lt_trans oth_lt (by decide)) (fun c7 => ?_) (fun c7 => absurd c7 (by omega))
    exact kx
  | succ n ih =>
    intro i hi
    generalize hx : (itr (fun k q => if s.testBit k then q ||| (1 <<< ONEL.getD k 0 ||| 1 <<< OTHL.getD k 0) else q) 0 i) = x
    refine J_iload_n (i := 3) d_R_pointsOf_4 rfl rfl ?_
    refine J_bipush (v := nI 20) d_R_pointsOf_5 rfl ?_
    refine N_icmp_ge (tgt := 44) d_R_pointsOf_7 (by decide) (by first | omega | exact Nat.lt_trans one_lt (by decide) | exact Nat.lt_trans oth_lt (by decide)) (by first | omega | exact Nat.lt_trans one_lt (by decide) | exact Nat.lt_trans oth_lt (by decide)) (fun c7 => absurd c7 (by omega)) (fun c7 => ?_)
    refine J_iload_n (i := 1) d_R_pointsOf_10 rfl rfl ?_
    refine J_iload_n (i := 3) d_R_pointsOf_11 rfl rfl ?_
    refine CS_B (av := [.int (nI s), .int (nI i)]) d_R_pointsOf_12 s_R_94 (S_R_has (by first | omega | (simp only [*]; omega)) (by first | omega | exact Nat.lt_trans one_lt (by decide) | exact Nat.lt_trans oth_lt (by decide))) (by omega) rfl rfl (Nat.le_of_ble_eq_true rfl) ?_
    refine B_if_eq (tgt := 38) d_R_pointsOf_15 (by decide) (fun c15 => ?_) (fun c15 => ?_)
    · refine N_iinc (a := i) (c := 1) (L1 := [some (.ref 244), some (.int (nI s)), some (.int (nI x)), some (.int (nI (i + 1)))]) d_R_pointsOf_38 rfl rfl (by decide) rfl ?_
      refine J_goto (tgt := 4) d_R_pointsOf_41 (by decide) ?_
      exact (ih (i + 1) (by omega)).eq (by rw [show itr (fun k q => if s.testBit k then q ||| (1 <<< ONEL.getD k 0 ||| 1 <<< OTHL.getD k 0) else q) 0 (i + 1) = x from itr_g hx (by first | (simp [-List.getD_eq_getElem?_getD, c7, c15]; done) | (split <;> omega) | (dsimp only; split <;> omega))]) rfl rfl
    · refine J_iload_n (i := 2) d_R_pointsOf_18 rfl rfl ?_
      refine J_iconst (v := nI 1) d_R_pointsOf_19 rfl ?_
      refine J_aload_n (i := 0) d_R_pointsOf_20 rfl rfl ?_
      refine M_getR (b := 247) d_R_pointsOf_21 f_R_16 rfl rfl rfl ?_
      refine J_iload_n (i := 3) d_R_pointsOf_24 rfl rfl ?_
      refine N_iald (x := (nI (ONEL.getD i 0))) d_R_pointsOf_25 rfl (by first | omega | exact Nat.lt_trans one_lt (by decide) | exact Nat.lt_trans oth_lt (by decide)) (ltL hX (a := 247) (n := 20) (by decide) rfl (by first | omega | exact Nat.lt_trans one_lt (by decide) | exact Nat.lt_trans oth_lt (by decide))) (k_one hX) ?_
      refine N_ishl d_R_pointsOf_26 (by first | omega | exact Nat.lt_trans one_lt (by decide) | exact Nat.lt_trans oth_lt (by decide)) ?_
      refine J_iconst (v := nI 1) d_R_pointsOf_27 rfl ?_
      refine J_aload_n (i := 0) d_R_pointsOf_28 rfl rfl ?_
      refine M_getR (b := 248) d_R_pointsOf_29 f_R_19 rfl rfl rfl ?_
      refine J_iload_n (i := 3) d_R_pointsOf_32 rfl rfl ?_
      refine N_iald (x := (nI (OTHL.getD i 0))) d_R_pointsOf_33 rfl (by first | omega | exact Nat.lt_trans one_lt (by decide) | exact Nat.lt_trans oth_lt (by decide)) (ltL hX (a := 248) (n := 20) (by decide) rfl (by first | omega | exact Nat.lt_trans one_lt (by decide) | exact Nat.lt_trans oth_lt (by decide))) (k_oth hX) ?_
      refine N_ishl d_R_pointsOf_34 (by first | omega | exact Nat.lt_trans one_lt (by decide) | exact Nat.lt_trans oth_lt (by decide)) ?_
      refine N_ior d_R_pointsOf_35 ?_
      refine N_ior d_R_pointsOf_36 ?_
      refine N_nm (fun v37 hv37 => ?_)
      refine J_istore_n (i := 2) (L1 := [some (.ref 244), some (.int (nI s)), some (.int (nI v37)), some (.int (nI i))]) d_R_pointsOf_37 rfl (by decide) rfl ?_
      refine N_iinc (a := i) (c := 1) (L1 := [some (.ref 244), some (.int (nI s)), some (.int (nI v37)), some (.int (nI (i + 1)))]) d_R_pointsOf_38 rfl rfl (by decide) rfl ?_
      refine J_goto (tgt := 4) d_R_pointsOf_41 (by decide) ?_
      exact (ih (i + 1) (by omega)).eq (by rw [show itr (fun k q => if s.testBit k then q ||| (1 <<< ONEL.getD k 0 ||| 1 <<< OTHL.getD k 0) else q) 0 (i + 1) = v37 from itr_g hx (by first | (simp [-List.getD_eq_getElem?_getD, c7, c15, hv37]; done) | (split <;> omega) | (dsimp only; split <;> omega))]) rfl rfl

theorem S_R_pointsOf {X : Mem} {s : Nat} (hX : Ok X) (hs : s < 1048576) : CM 1 m_R_pointsOf [.ref 244, .int (nI s)] X (rN (pts s) X) := by
  refine CM_of (L := [some (.ref 244), some (.int (nI s)), none, none]) 2 ok_R_pointsOf (fun _ => Nat.le_of_ble_eq_true rfl) rfl ?_
  refine J_iconst (v := nI 0) d_R_pointsOf_0 rfl ?_
  refine J_istore_n (i := 2) (L1 := [some (.ref 244), some (.int (nI s)), some (.int (nI 0)), none]) d_R_pointsOf_1 rfl (by decide) rfl ?_
  refine J_iconst (v := nI 0) d_R_pointsOf_2 rfl ?_
  refine J_istore_n (i := 3) (L1 := [some (.ref 244), some (.int (nI s)), some (.int (nI 0)), some (.int (nI 0))]) d_R_pointsOf_3 rfl (by decide) rfl ?_
  refine lp_R_pointsOf hX hs (by decide) ?_ 20 0 (by omega)
  refine J_iload_n (i := 2) d_R_pointsOf_44 rfl rfl ?_
  refine M_ir d_R_pointsOf_45 rfl rfl ?_
  exact ⟨rfl, rfl⟩

theorem itr_le {f : Nat → Nat → Nat} {a : Nat} (h : ∀ k x, f k x ≤ x + 1) : ∀ n, itr f a n ≤ a + n
  | 0 => Nat.le_refl _
  | n + 1 => by have := itr_le h (a := a) n; have := h n (itr f a n); show f n _ ≤ _; omega
theorem stA_le (s p : Nat) : stA s p ≤ 20 := by
  have := itr_le (f := (fun k c => c + if s.testBit k && (ONEL.getD k 0 == p || OTHL.getD k 0 == p) then 1 else 0)) (a := 0) (fun k x => by show x + _ ≤ x + 1; split <;> omega) 20
  simpa [stA] using this
def odd (s : Nat) : Nat := itr (fun p q => q ||| (if stA s p % 2 = 1 then 1 <<< p else 0)) 0 9
theorem lp_R_oddOf {d : Nat} {Q : Option Value → Mem → Prop} {X : Mem} {s : Nat} (hX : Ok X) (hs : s < 1048576) (hd : 2 ≤ d) (kx : JM d m_R_oddOf Q 38 [some (.ref 244), some (.int (nI s)), some (.int (nI (itr (fun p q => q ||| (if stA s p % 2 = 1 then 1 <<< p else 0)) 0 9))), some (.int (nI 9))] [] X) : ∀ (n i : Nat), i + n = 9 → JM d m_R_oddOf Q 4 [some (.ref 244), some (.int (nI s)), some (.int (nI (itr (fun p q => q ||| (if stA s p % 2 = 1 then 1 <<< p else 0)) 0 i))), some (.int (nI i))] [] X := by
  intro n
  induction n with
  | zero =>
    intro i hi
    obtain rfl : i = 9 := by omega
    refine J_iload_n (i := 3) d_R_oddOf_4 rfl rfl ?_
    refine J_bipush (v := nI 9) d_R_oddOf_5 rfl ?_
    refine N_icmp_ge (tgt := 38) d_R_oddOf_7 (by decide) (by first | omega | exact Nat.lt_of_le_of_lt (stA_le _ _) (by decide) | exact Nat.lt_trans (Nat.mod_lt _ (by decide)) (by decide)) (by first | omega | exact Nat.lt_of_le_of_lt (stA_le _ _) (by decide) | exact Nat.lt_trans (Nat.mod_lt _ (by decide)) (by decide)) (fun c7 => ?_) (fun c7 => absurd c7 (by omega))
    exact kx
  | succ n ih =>
    intro i hi
    generalize hx : (itr (fun p q => q ||| (if stA s p % 2 = 1 then 1 <<< p else 0)) 0 i) = x
    refine J_iload_n (i := 3) d_R_oddOf_4 rfl rfl ?_
    refine J_bipush (v := nI 9) d_R_oddOf_5 rfl ?_
    refine N_icmp_ge (tgt := 38) d_R_oddOf_7 (by decide) (by first | omega | exact Nat.lt_of_le_of_lt (stA_le _ _) (by decide) | exact Nat.lt_trans (Nat.mod_lt _ (by decide)) (by decide)) (by first | omega | exact Nat.lt_of_le_of_lt (stA_le _ _) (by decide) | exact Nat.lt_trans (Nat.mod_lt _ (by decide)) (by decide)) (fun c7 => absurd c7 (by omega)) (fun c7 => ?_)
    refine J_iload_n (i := 2) d_R_oddOf_10 rfl rfl ?_
    refine J_aload_n (i := 0) d_R_oddOf_11 rfl rfl ?_
    refine J_iload_n (i := 1) d_R_oddOf_12 rfl rfl ?_
    refine J_iload_n (i := 3) d_R_oddOf_13 rfl rfl ?_
    refine CV_N (av := [.int (nI s), .int (nI i)]) d_R_oddOf_14 s_R_111 (M_rcv rfl (by decide) rfl) (S_R_strokesAt hX (by omega) (by omega)) (by omega) rfl rfl (Nat.le_of_ble_eq_true rfl) ?_
    refine J_iconst (v := nI 2) d_R_oddOf_17 rfl ?_
    refine N_irem d_R_oddOf_18 (by first | omega | exact Nat.lt_of_le_of_lt (stA_le _ _) (by decide) | exact Nat.lt_trans (Nat.mod_lt _ (by decide)) (by decide)) (by first | omega | exact Nat.lt_of_le_of_lt (stA_le _ _) (by decide) | exact Nat.lt_trans (Nat.mod_lt _ (by decide)) (by decide)) (by first | omega | exact Nat.lt_of_le_of_lt (stA_le _ _) (by decide) | exact Nat.lt_trans (Nat.mod_lt _ (by decide)) (by decide)) ?_
    refine J_iconst (v := nI 1) d_R_oddOf_19 rfl ?_
    refine N_icmp_ne (tgt := 29) d_R_oddOf_20 (by decide) (by first | omega | exact Nat.lt_of_le_of_lt (stA_le _ _) (by decide) | exact Nat.lt_trans (Nat.mod_lt _ (by decide)) (by decide)) (by first | omega | exact Nat.lt_of_le_of_lt (stA_le _ _) (by decide) | exact Nat.lt_trans (Nat.mod_lt _ (by decide)) (by decide)) (fun c20 => ?_) (fun c20 => ?_)
    · refine J_iconst (v := nI 0) d_R_oddOf_29 rfl ?_
      refine N_ior d_R_oddOf_30 ?_
      refine J_istore_n (i := 2) (L1 := [some (.ref 244), some (.int (nI s)), some (.int (nI (x ||| 0))), some (.int (nI i))]) d_R_oddOf_31 rfl (by decide) rfl ?_
      refine N_iinc (a := i) (c := 1) (L1 := [some (.ref 244), some (.int (nI s)), some (.int (nI (x ||| 0))), some (.int (nI (i + 1)))]) d_R_oddOf_32 rfl rfl (by decide) rfl ?_
      refine J_goto (tgt := 4) d_R_oddOf_35 (by decide) ?_
      exact (ih (i + 1) (by omega)).eq (by rw [show itr (fun p q => q ||| (if stA s p % 2 = 1 then 1 <<< p else 0)) 0 (i + 1) = (x ||| 0) from itr_g hx (by first | (simp [-List.getD_eq_getElem?_getD, c7, c20]; done) | (split <;> omega) | (dsimp only; split <;> omega))]) rfl rfl
    · refine J_iconst (v := nI 1) d_R_oddOf_23 rfl ?_
      refine J_iload_n (i := 3) d_R_oddOf_24 rfl rfl ?_
      refine N_ishl d_R_oddOf_25 (by first | omega | exact Nat.lt_of_le_of_lt (stA_le _ _) (by decide) | exact Nat.lt_trans (Nat.mod_lt _ (by decide)) (by decide)) ?_
      refine J_goto (tgt := 30) d_R_oddOf_26 (by decide) ?_
      refine N_ior d_R_oddOf_30 ?_
      refine N_nm (fun v31 hv31 => ?_)
      refine J_istore_n (i := 2) (L1 := [some (.ref 244), some (.int (nI s)), some (.int (nI v31)), some (.int (nI i))]) d_R_oddOf_31 rfl (by decide) rfl ?_
      refine N_iinc (a := i) (c := 1) (L1 := [some (.ref 244), some (.int (nI s)), some (.int (nI v31)), some (.int (nI (i + 1)))]) d_R_oddOf_32 rfl rfl (by decide) rfl ?_
      refine J_goto (tgt := 4) d_R_oddOf_35 (by decide) ?_
      exact (ih (i + 1) (by omega)).eq (by rw [show itr (fun p q => q ||| (if stA s p % 2 = 1 then 1 <<< p else 0)) 0 (i + 1) = v31 from itr_g hx (by first | (simp [-List.getD_eq_getElem?_getD, c7, c20, hv31]; done) | (split <;> omega) | (dsimp only; split <;> omega))]) rfl rfl

theorem S_R_oddOf {X : Mem} {s : Nat} (hX : Ok X) (hs : s < 1048576) : CM 2 m_R_oddOf [.ref 244, .int (nI s)] X (rN (odd s) X) := by
  refine CM_of (L := [some (.ref 244), some (.int (nI s)), none, none]) 2 ok_R_oddOf (fun _ => Nat.le_of_ble_eq_true rfl) rfl ?_
  refine J_iconst (v := nI 0) d_R_oddOf_0 rfl ?_
  refine J_istore_n (i := 2) (L1 := [some (.ref 244), some (.int (nI s)), some (.int (nI 0)), none]) d_R_oddOf_1 rfl (by decide) rfl ?_
  refine J_iconst (v := nI 0) d_R_oddOf_2 rfl ?_
  refine J_istore_n (i := 3) (L1 := [some (.ref 244), some (.int (nI s)), some (.int (nI 0)), some (.int (nI 0))]) d_R_oddOf_3 rfl (by decide) rfl ?_
  refine lp_R_oddOf hX hs (by decide) ?_ 9 0 (by omega)
  refine J_iload_n (i := 2) d_R_oddOf_38 rfl rfl ?_
  refine M_ir d_R_oddOf_39 rfl rfl ?_
  exact ⟨rfl, rfl⟩

