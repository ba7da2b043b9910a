def witB (sn un : Nat) (v : Int32) : Bool := inR v 19 && !(sn ||| un).testBit (tn v)
def witF (v : Int32) (sn un : Nat) : Int32 := if v = -1 then 0 else if witB sn un v then nI (bc ((sn ||| un) ||| 1 <<< tn v)) else (-2)
def witX (v : Int32) (w : Bool) (sn un : Nat) (X : Mem) : Mem := if v = -1 then pF (pF X 18 5 (nI 0)) 18 6 (nI 0) else if witB sn un v then (if w then pF X 18 5 (nI (sn ||| 1 <<< tn v)) else pF X 18 6 (nI (un ||| 1 <<< tn v))) else X
theorem S_H_countTold {X : Mem} {sn un : Nat} (hW : CSn X sn un) : CM 1 m_H_countTold [.ref 18] X (rN (bc (sn ||| un)) X) := by
  refine CM_of (L := [some (.ref 18)]) 0 ok_H_countTold (fun _ => Nat.le_of_ble_eq_true rfl) rfl ?_
  refine J_aload_n (i := 0) d_H_countTold_0 rfl rfl ?_
  refine M_get (x := (nI sn)) d_H_countTold_1 f_H_52 rfl rfl hW.1 ?_
  refine J_aload_n (i := 0) d_H_countTold_4 rfl rfl ?_
  refine M_get (x := (nI un)) d_H_countTold_5 f_H_55 rfl rfl hW.2.1 ?_
  refine N_ior d_H_countTold_8 ?_
  refine CS_N (av := [.int (nI (sn ||| un))]) d_H_countTold_9 s_H_73 (S_bitCount (or_lt 20 hW.2.2.1 hW.2.2.2)) (by decide) rfl rfl (Nat.le_of_ble_eq_true rfl) ?_
  refine M_ir d_H_countTold_12 rfl rfl ?_
  exact ⟨rfl, rfl⟩

theorem S_O_witness {X : Mem} {sn un : Nat} (hW : CSn X sn un) {v : Int32} {w : Bool} : CM 2 m_O_witness [.ref 8, .int v, .int (b2i w)] X (rI (witF v sn un) (witX v w sn un X)) := by
  have hsu := or_lt 20 hW.2.2.1 hW.2.2.2
  refine CM_of (L := [some (.ref 8), some (.int v), some (.int (b2i w))]) 0 ok_O_witness (fun _ => Nat.le_of_ble_eq_true rfl) rfl ?_
  refine J_iload_n (i := 1) d_O_witness_0 rfl rfl ?_
  refine J_iconst (v := (-1)) d_O_witness_1 rfl ?_
  refine J_icmp_ne (tgt := 23) d_O_witness_2 (by decide) (fun c2 => ?_) (fun c2 => ?_)
  · refine J_iload_n (i := 1) d_O_witness_23 rfl rfl ?_
    refine CS_B (av := [.int v]) d_O_witness_24 s_O_198 (S_O_isStroke) (by decide) rfl rfl (Nat.le_of_ble_eq_true rfl) ?_
    refine B_if_eq (tgt := 53) d_O_witness_27 (by decide) (fun c27 => ?_) (fun c27 => ?_)
    · refine J_bipush (v := (-2)) d_O_witness_53 rfl ?_
      refine M_ir d_O_witness_55 rfl rfl ?_
      have hB : witB sn un v = false := by rw [witB, c27]; rfl
      exact ⟨by rw [witF, if_neg c2, hB] <;> rfl, by rw [witX, if_neg c2, hB] <;> rfl⟩
    · obtain ⟨v_, hv_, rfl⟩ := inR_n (n := 19) c27 (by decide)
      have hv_ : v_ < 20 := by omega
      refine J_aload_n (i := 0) d_O_witness_30 rfl rfl ?_
      refine M_getR (b := 18) d_O_witness_31 f_O_48 rfl rfl rfl ?_
      refine M_get (x := (nI sn)) d_O_witness_34 f_O_291 rfl rfl hW.1 ?_
      refine J_aload_n (i := 0) d_O_witness_37 rfl rfl ?_
      refine M_getR (b := 18) d_O_witness_38 f_O_48 rfl rfl rfl ?_
      refine M_get (x := (nI un)) d_O_witness_41 f_O_294 rfl rfl hW.2.1 ?_
      refine N_ior d_O_witness_44 ?_
      refine J_iload_n (i := 1) d_O_witness_45 rfl rfl ?_
      refine N_ishr d_O_witness_46 (by omega) (by omega) ?_
      refine J_iconst (v := nI 1) d_O_witness_47 rfl ?_
      refine N_iand d_O_witness_48 ?_
      refine J_iconst (v := nI 1) d_O_witness_49 rfl ?_
      refine T_ne (tgt := 56) d_O_witness_50 (by decide) (fun c50 => ?_) (fun c50 => ?_)
      · refine J_iload_n (i := 2) d_O_witness_56 rfl rfl ?_
        refine B_if_eq (tgt := 78) d_O_witness_57 (by decide) (fun c57 => ?_) (fun c57 => ?_)
        · refine J_aload_n (i := 0) d_O_witness_78 rfl rfl ?_
          refine M_getR (b := 18) d_O_witness_79 f_O_48 rfl rfl rfl ?_
          refine J_dup d_O_witness_82 rfl ?_
          refine M_get (x := (nI un)) d_O_witness_83 f_O_294 rfl rfl hW.2.1 ?_
          refine J_iconst (v := nI 1) d_O_witness_86 rfl ?_
          refine J_iload_n (i := 1) d_O_witness_87 rfl rfl ?_
          refine N_ishl d_O_witness_88 (by omega) ?_
          refine N_ior d_O_witness_89 ?_
          refine M_put d_O_witness_90 p_O_294 rfl rfl rfl rfl ?_
          refine J_aload_n (i := 0) d_O_witness_93 rfl rfl ?_
          refine M_getR (b := 18) d_O_witness_94 f_O_48 rfl rfl rfl ?_
          refine CV_N (av := []) d_O_witness_97 s_O_297 (M_rcv rfl (by decide) rfl) (S_H_countTold (sn := sn) (un := (un ||| (1 <<< v_))) ⟨hW.1, rfl, hW.2.2.1, (or_lt 20 hW.2.2.2 (sh_lt hv_ (by decide)))⟩) (by decide) rfl rfl (Nat.le_of_ble_eq_true rfl) ?_
          refine M_ir d_O_witness_100 rfl rfl ?_
          have hB : witB sn un (nI v_) = true := by rw [witB, c27, tn_nI (show v_ < 2147483648 by omega), c50]; rfl
          exact ⟨by rw [witF, if_neg c2, hB, if_pos rfl, tn_nI (show v_ < 2147483648 by omega)]; rw [← Nat.or_assoc], by rw [witX, if_neg c2, hB, c57, tn_nI (show v_ < 2147483648 by omega)] <;> rfl⟩
        · refine J_aload_n (i := 0) d_O_witness_60 rfl rfl ?_
          refine M_getR (b := 18) d_O_witness_61 f_O_48 rfl rfl rfl ?_
          refine J_dup d_O_witness_64 rfl ?_
          refine M_get (x := (nI sn)) d_O_witness_65 f_O_291 rfl rfl hW.1 ?_
          refine J_iconst (v := nI 1) d_O_witness_68 rfl ?_
          refine J_iload_n (i := 1) d_O_witness_69 rfl rfl ?_
          refine N_ishl d_O_witness_70 (by omega) ?_
          refine N_ior d_O_witness_71 ?_
          refine M_put d_O_witness_72 p_O_291 rfl rfl rfl rfl ?_
          refine J_goto (tgt := 93) d_O_witness_75 (by decide) ?_
          refine J_aload_n (i := 0) d_O_witness_93 rfl rfl ?_
          refine M_getR (b := 18) d_O_witness_94 f_O_48 rfl rfl rfl ?_
          refine CV_N (av := []) d_O_witness_97 s_O_297 (M_rcv rfl (by decide) rfl) (S_H_countTold (sn := (sn ||| (1 <<< v_))) (un := un) ⟨rfl, hW.2.1, (or_lt 20 hW.2.2.1 (sh_lt hv_ (by decide))), hW.2.2.2⟩) (by decide) rfl rfl (Nat.le_of_ble_eq_true rfl) ?_
          refine M_ir d_O_witness_100 rfl rfl ?_
          have hB : witB sn un (nI v_) = true := by rw [witB, c27, tn_nI (show v_ < 2147483648 by omega), c50]; rfl
          exact ⟨by rw [witF, if_neg c2, hB, if_pos rfl, tn_nI (show v_ < 2147483648 by omega)]; rw [Nat.or_assoc, Nat.or_comm (1 <<< v_) un, ← Nat.or_assoc], by rw [witX, if_neg c2, hB, c57, tn_nI (show v_ < 2147483648 by omega)] <;> rfl⟩
      · refine J_bipush (v := (-2)) d_O_witness_53 rfl ?_
        refine M_ir d_O_witness_55 rfl rfl ?_
        have hB : witB sn un (nI v_) = false := by rw [witB, c27, tn_nI (show v_ < 2147483648 by omega), c50]; rfl
        exact ⟨by rw [witF, if_neg c2, hB] <;> rfl, by rw [witX, if_neg c2, hB] <;> rfl⟩
  · refine J_aload_n (i := 0) d_O_witness_5 rfl rfl ?_
    refine M_getR (b := 18) d_O_witness_6 f_O_48 rfl rfl rfl ?_
    refine J_iconst (v := nI 0) d_O_witness_9 rfl ?_
    refine M_put d_O_witness_10 p_O_291 rfl rfl rfl rfl ?_
    refine J_aload_n (i := 0) d_O_witness_13 rfl rfl ?_
    refine M_getR (b := 18) d_O_witness_14 f_O_48 rfl rfl rfl ?_
    refine J_iconst (v := nI 0) d_O_witness_17 rfl ?_
    refine M_put d_O_witness_18 p_O_294 rfl rfl rfl rfl ?_
    refine J_iconst (v := nI 0) d_O_witness_21 rfl ?_
    refine M_ir d_O_witness_22 rfl rfl ?_
    exact ⟨by rw [witF, if_pos c2] <;> rfl, by rw [witX, if_pos c2]⟩

