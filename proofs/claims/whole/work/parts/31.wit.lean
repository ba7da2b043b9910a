theorem pA_pA {X : Mem} {a : Nat} {l l' : List Int32} : pA (pA X a l) a l' = pA X a l' := by
  show (X.1, ((fun b => if b = a then l' else if b = a then l else X.2.1 b), X.2.2)) = _
  rw [show (fun b => if b = a then l' else if b = a then l else X.2.1 b) = (fun b => if b = a then l' else X.2.1 b) from funext fun b => by split <;> rfl]
  rfl
theorem set_eq {l : List Int32} {j : Nat} {v : Int32} (h : j < l.length) : (l.set j v).getD j 0 = v := by
  rw [List.getD_eq_getElem?_getD, List.getElem?_set_self h]
  rfl
theorem set_ne {l : List Int32} {j k : Nat} {v : Int32} (h : j ≠ k) : (l.set j v).getD k 0 = l.getD k 0 := by
  rw [List.getD_eq_getElem?_getD, List.getElem?_set_ne h, ← List.getD_eq_getElem?_getD]
theorem pcn_or2 : ∀ f k x : Nat, k < f → x.testBit k = false → pcn f (x ||| 1 <<< k) = pcn f x + 1
  | 0, _, _, h, _ => by omega
  | f + 1, 0, x, _, ht => by
    have e : (x ||| 1 <<< 0) / 2 = x / 2 := by rw [Nat.or_div_two, show (1 <<< 0) / 2 = 0 by decide, Nat.or_zero]
    have e2 : (x ||| 1 <<< 0) % 2 = 1 := by rw [mod2_tb, Nat.testBit_or, show (1 <<< 0 : Nat).testBit 0 = true by decide, Bool.or_true]; rfl
    have e3 : x % 2 = 0 := by rw [mod2_tb, ht]; rfl
    rw [pcn, pcn, e, e2, e3]
    omega
  | f + 1, k + 1, x, h, ht => by
    have ih := pcn_or2 f k (x / 2) (by omega) (by rw [Nat.testBit_div_two]; exact ht)
    have e : (x ||| 1 <<< (k + 1)) / 2 = x / 2 ||| 1 <<< k := by
      rw [Nat.or_div_two, shl1, shl1, Nat.pow_succ, Nat.mul_div_cancel _ (by decide)]
    have e2 : (x ||| 1 <<< (k + 1)) % 2 = x % 2 := by
      rw [mod2_tb, mod2_tb x, Nat.testBit_or, shl1, Nat.testBit_two_pow, show decide (k + 1 = 0) = false from decide_eq_false (by omega), Bool.or_false]
    rw [pcn, pcn, e, e2, ih]
    omega
/-- the reference's row after a witness -/
def witR (v : Int32) (w : Bool) (sn un : Nat) (l : List Int32) : List Int32 := if v = -1 then ((l.set 4 (nI 0)).set 26 (nI 0)).set 27 (nI 0) else if witB sn un v then ((if w then l.set 26 (nI (sn ||| 1 <<< tn v)) else l.set 27 (nI (un ||| 1 <<< tn v))).set 4 (nI (bc ((sn ||| un) ||| 1 <<< tn v)))) else l
theorem pA_eta {X : Mem} {a : Nat} : pA X a (X.2.1 a) = X := by
  show (X.1, ((fun b => if b = a then X.2.1 a else X.2.1 b), X.2.2)) = X
  have e : (fun b => if b = a then X.2.1 a else X.2.1 b) = X.2.1 := funext fun b => by
    split
    · rename_i e
      rw [e]
    · rfl
  rw [e]
theorem S_R_witness {X : Mem} (hX : Ok X) {sn un : Nat} (hW : RSn X sn un) (h4 : (X.2.1 245).getD 4 0 = nI (bc (sn ||| un))) {v : Int32} {w : Bool} : CM 2 m_R_witness [.ref 244, .int v, .int (b2i w)] X (rI (witF v sn un) (pA X 245 (witR v w sn un (X.2.1 245)))) := by
  have hsu := or_lt 20 hW.2.2.1 hW.2.2.2
  have hl4 := ltL hX (a := 245) (n := 1217) (j := 4) (by decide) rfl (by decide)
  refine CM_of (L := [some (.ref 244), some (.int v), some (.int (b2i w))]) 0 ok_R_witness (fun _ => Nat.le_of_ble_eq_true rfl) rfl ?_
  refine J_iload_n (i := 1) d_R_witness_0 rfl rfl ?_
  refine J_iconst (v := (-1)) d_R_witness_1 rfl ?_
  refine J_icmp_ne (tgt := 30) d_R_witness_2 (by decide) (fun c2 => ?_) (fun c2 => ?_)
  · refine J_iload_n (i := 1) d_R_witness_30 rfl rfl ?_
    refine CS_B (av := [.int v]) d_R_witness_31 s_R_382 (S_R_isStroke) (by decide) rfl rfl (Nat.le_of_ble_eq_true rfl) ?_
    refine B_if_eq (tgt := 59) d_R_witness_34 (by decide) (fun c34 => ?_) (fun c34 => ?_)
    · refine J_bipush (v := (-2)) d_R_witness_59 rfl ?_
      refine M_ir d_R_witness_61 rfl rfl ?_
      have hB : witB sn un v = false := by rw [witB, c34]; rfl
      exact ⟨by rw [witF, if_neg c2, hB] <;> rfl, by rw [witR, if_neg c2, hB]; exact pA_eta.symm⟩
    · obtain ⟨v_, hv_, rfl⟩ := inR_n (n := 19) c34 (by decide)
      have hv_ : v_ < 20 := by omega
      refine J_aload_n (i := 0) d_R_witness_37 rfl rfl ?_
      refine M_getR (b := 245) d_R_witness_38 f_R_7 rfl rfl rfl ?_
      refine J_bipush (v := nI 26) d_R_witness_41 rfl ?_
      refine N_iald (x := (nI sn)) d_R_witness_43 rfl (by omega) (ltL hX (a := 245) (n := 1217) (by decide) rfl (by omega)) hW.1 ?_
      refine J_aload_n (i := 0) d_R_witness_44 rfl rfl ?_
      refine M_getR (b := 245) d_R_witness_45 f_R_7 rfl rfl rfl ?_
      refine J_bipush (v := nI 27) d_R_witness_48 rfl ?_
      refine N_iald (x := (nI un)) d_R_witness_50 rfl (by omega) (ltL hX (a := 245) (n := 1217) (by decide) rfl (by omega)) hW.2.1 ?_
      refine N_ior d_R_witness_51 ?_
      refine J_iload_n (i := 1) d_R_witness_52 rfl rfl ?_
      refine CS_B (av := [.int (nI (sn ||| un)), .int (nI v_)]) d_R_witness_53 s_R_94 (S_R_has (by first | omega | (simp only [*]; omega)) (by first | omega | exact Nat.lt_trans one_lt (by decide) | exact Nat.lt_trans oth_lt (by decide))) (by decide) rfl rfl (Nat.le_of_ble_eq_true rfl) ?_
      refine B_if_eq (tgt := 62) d_R_witness_56 (by decide) (fun c56 => ?_) (fun c56 => ?_)
      · refine J_aload_n (i := 0) d_R_witness_62 rfl rfl ?_
        refine M_getR (b := 245) d_R_witness_63 f_R_7 rfl rfl rfl ?_
        refine J_iload_n (i := 2) d_R_witness_66 rfl rfl ?_
        refine B_if_eq (tgt := 75) d_R_witness_67 (by decide) (fun c67 => ?_) (fun c67 => ?_)
        · refine J_bipush (v := nI 27) d_R_witness_75 rfl ?_
          refine J_dup2 d_R_witness_77 rfl rfl ?_
          refine N_iald (x := (nI un)) d_R_witness_78 rfl (by omega) (ltL hX (a := 245) (n := 1217) (by decide) rfl (by omega)) hW.2.1 ?_
          refine J_iconst (v := nI 1) d_R_witness_79 rfl ?_
          refine J_iload_n (i := 1) d_R_witness_80 rfl rfl ?_
          refine N_ishl d_R_witness_81 (by omega) ?_
          refine N_ior d_R_witness_82 ?_
          refine N_iast d_R_witness_83 rfl (by decide) (by omega) (ltL hX (a := 245) (n := 1217) (by decide) rfl (by omega)) ?_
          refine J_aload_n (i := 0) d_R_witness_84 rfl rfl ?_
          refine M_getR (b := 245) d_R_witness_85 f_R_7 rfl rfl rfl ?_
          refine J_iconst (v := nI 4) d_R_witness_88 rfl ?_
          refine J_dup2 d_R_witness_89 rfl rfl ?_
          refine N_iald (x := (nI (bc (sn ||| un)))) d_R_witness_90 rfl (by omega) (ltL (okS hX rfl) (a := 245) (n := 1217) (by decide) rfl (by omega)) (by rw [pA_at, set_ne (by decide)]; exact h4) ?_
          refine J_iconst (v := nI 1) d_R_witness_91 rfl ?_
          refine N_iadd d_R_witness_92 ?_
          refine N_iast d_R_witness_93 rfl (by decide) (by omega) (ltL (okS hX rfl) (a := 245) (n := 1217) (by decide) rfl (by omega)) ?_
          refine J_aload_n (i := 0) d_R_witness_94 rfl rfl ?_
          refine M_getR (b := 245) d_R_witness_95 f_R_7 rfl rfl rfl ?_
          refine J_iconst (v := nI 4) d_R_witness_98 rfl ?_
          refine N_iald (x := (nI (bc (sn ||| un) + 1))) d_R_witness_99 rfl (by omega) (ltL (okS (okS hX rfl) rfl) (a := 245) (n := 1217) (by decide) rfl (by omega)) (by rw [pA_at, set_eq (by rw [pA_at, List.length_set]; exact hl4)]) ?_
          refine M_ir d_R_witness_100 rfl rfl ?_
          have hB : witB sn un (nI v_) = true := by rw [witB, c34, tn_nI (show v_ < 2147483648 by omega), c56]; rfl
          have h5 := pcn_or2 32 v_ (sn ||| un) (by omega) c56
          exact ⟨by rw [witF, if_neg c2, hB, if_pos rfl, tn_nI (show v_ < 2147483648 by omega), show bc (sn ||| un ||| 1 <<< v_) = bc (sn ||| un) + 1 from h5], by rw [witR, if_neg c2, hB, if_pos rfl, c67, tn_nI (show v_ < 2147483648 by omega), pA_pA, pA_at, show bc (sn ||| un ||| 1 <<< v_) = bc (sn ||| un) + 1 from h5] <;> rfl⟩
        · refine J_bipush (v := nI 26) d_R_witness_70 rfl ?_
          refine J_goto (tgt := 77) d_R_witness_72 (by decide) ?_
          refine J_dup2 d_R_witness_77 rfl rfl ?_
          refine N_iald (x := (nI sn)) d_R_witness_78 rfl (by omega) (ltL hX (a := 245) (n := 1217) (by decide) rfl (by omega)) hW.1 ?_
          refine J_iconst (v := nI 1) d_R_witness_79 rfl ?_
          refine J_iload_n (i := 1) d_R_witness_80 rfl rfl ?_
          refine N_ishl d_R_witness_81 (by omega) ?_
          refine N_ior d_R_witness_82 ?_
          refine N_iast d_R_witness_83 rfl (by decide) (by omega) (ltL hX (a := 245) (n := 1217) (by decide) rfl (by omega)) ?_
          refine J_aload_n (i := 0) d_R_witness_84 rfl rfl ?_
          refine M_getR (b := 245) d_R_witness_85 f_R_7 rfl rfl rfl ?_
          refine J_iconst (v := nI 4) d_R_witness_88 rfl ?_
          refine J_dup2 d_R_witness_89 rfl rfl ?_
          refine N_iald (x := (nI (bc (sn ||| un)))) d_R_witness_90 rfl (by omega) (ltL (okS hX rfl) (a := 245) (n := 1217) (by decide) rfl (by omega)) (by rw [pA_at, set_ne (by decide)]; exact h4) ?_
          refine J_iconst (v := nI 1) d_R_witness_91 rfl ?_
          refine N_iadd d_R_witness_92 ?_
          refine N_iast d_R_witness_93 rfl (by decide) (by omega) (ltL (okS hX rfl) (a := 245) (n := 1217) (by decide) rfl (by omega)) ?_
          refine J_aload_n (i := 0) d_R_witness_94 rfl rfl ?_
          refine M_getR (b := 245) d_R_witness_95 f_R_7 rfl rfl rfl ?_
          refine J_iconst (v := nI 4) d_R_witness_98 rfl ?_
          refine N_iald (x := (nI (bc (sn ||| un) + 1))) d_R_witness_99 rfl (by omega) (ltL (okS (okS hX rfl) rfl) (a := 245) (n := 1217) (by decide) rfl (by omega)) (by rw [pA_at, set_eq (by rw [pA_at, List.length_set]; exact hl4)]) ?_
          refine M_ir d_R_witness_100 rfl rfl ?_
          have hB : witB sn un (nI v_) = true := by rw [witB, c34, tn_nI (show v_ < 2147483648 by omega), c56]; rfl
          have h5 := pcn_or2 32 v_ (sn ||| un) (by omega) c56
          exact ⟨by rw [witF, if_neg c2, hB, if_pos rfl, tn_nI (show v_ < 2147483648 by omega), show bc (sn ||| un ||| 1 <<< v_) = bc (sn ||| un) + 1 from h5], by rw [witR, if_neg c2, hB, if_pos rfl, c67, tn_nI (show v_ < 2147483648 by omega), pA_pA, pA_at, show bc (sn ||| un ||| 1 <<< v_) = bc (sn ||| un) + 1 from h5] <;> rfl⟩
      · refine J_bipush (v := (-2)) d_R_witness_59 rfl ?_
        refine M_ir d_R_witness_61 rfl rfl ?_
        have hB : witB sn un (nI v_) = false := by rw [witB, c34, tn_nI (show v_ < 2147483648 by omega), c56]; rfl
        exact ⟨by rw [witF, if_neg c2, hB] <;> rfl, by rw [witR, if_neg c2, hB]; exact pA_eta.symm⟩
  · refine J_aload_n (i := 0) d_R_witness_5 rfl rfl ?_
    refine M_getR (b := 245) d_R_witness_6 f_R_7 rfl rfl rfl ?_
    refine J_iconst (v := nI 4) d_R_witness_9 rfl ?_
    refine J_iconst (v := nI 0) d_R_witness_10 rfl ?_
    refine N_iast d_R_witness_11 rfl (by decide) (by omega) (ltL hX (a := 245) (n := 1217) (by decide) rfl (by omega)) ?_
    refine J_aload_n (i := 0) d_R_witness_12 rfl rfl ?_
    refine M_getR (b := 245) d_R_witness_13 f_R_7 rfl rfl rfl ?_
    refine J_bipush (v := nI 26) d_R_witness_16 rfl ?_
    refine J_iconst (v := nI 0) d_R_witness_18 rfl ?_
    refine N_iast d_R_witness_19 rfl (by decide) (by omega) (ltL (okS hX rfl) (a := 245) (n := 1217) (by decide) rfl (by omega)) ?_
    refine J_aload_n (i := 0) d_R_witness_20 rfl rfl ?_
    refine M_getR (b := 245) d_R_witness_21 f_R_7 rfl rfl rfl ?_
    refine J_bipush (v := nI 27) d_R_witness_24 rfl ?_
    refine J_iconst (v := nI 0) d_R_witness_26 rfl ?_
    refine N_iast d_R_witness_27 rfl (by decide) (by omega) (ltL (okS (okS hX rfl) rfl) (a := 245) (n := 1217) (by decide) rfl (by omega)) ?_
    refine J_iconst (v := nI 0) d_R_witness_28 rfl ?_
    refine M_ir d_R_witness_29 rfl rfl ?_
    exact ⟨by rw [witF, if_pos c2] <;> rfl, by rw [witR, if_pos c2, pA_pA, pA_pA, pA_at, pA_at]⟩

