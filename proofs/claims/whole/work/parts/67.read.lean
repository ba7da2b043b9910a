def otN (m : Nat) (st rg : Nat → Nat) : Nat := itr (fun i q => if st i = rg i then q else q ||| 1 <<< i) 0 m
theorem ot_lt {st rg : Nat → Nat} : ∀ i, i ≤ 8 → itr (fun i q => if st i = rg i then q else q ||| 1 <<< i) 0 i < 256 :=
  itr_invN (fun _ (x : Nat) => x < 256) 8 (by decide) (fun w x hw hx => by
    try dsimp only
    split
    · exact hx
    · exact or_lt 8 hx (sh_lt hw (by decide)))
theorem wo_0 {st rg : Nat → Nat} {i : Nat} (h1 : st i < 1048576) (h2 : rg i < 1048576) : woN st rg i = 0 ↔ st i = rg i := by
  constructor
  · intro h
    have h3 := bc_0 (xor_lt 20 h1 h2) h
    apply Nat.eq_of_testBit_eq
    intro b
    have h4 := congrArg (fun x => x.testBit b) h3
    simp only [Nat.testBit_xor, Nat.zero_testBit] at h4
    cases e1 : (st i).testBit b <;> cases e2 : (rg i).testBit b <;> rw [e1, e2] at h4 <;> first | rfl | cases h4
  · intro h
    show bc (st i ^^^ rg i) = 0
    rw [h, Nat.xor_self]
    exact pcn_0 32
theorem lp_H_other {d : Nat} {Q : Option Value → Mem → Prop} {X : Mem} {m : Nat} {st rg : Nat → Nat} (hX : Ok X) (hS : CSt X m st rg) (kx : JM d m_H_otherThanRegistered Q 45 [some (.ref 18), some (.int (nI (itr (fun i q => if st i = rg i then q else q ||| 1 <<< i) 0 m))), some (.int (nI m))] [] X) : ∀ (n i : Nat), i + n = m → JM d m_H_otherThanRegistered Q 4 [some (.ref 18), some (.int (nI (itr (fun i q => if st i = rg i then q else q ||| 1 <<< i) 0 i))), some (.int (nI i))] [] X := by
  have hm8 := hS.1
  intro n
  induction n with
  | zero =>
    intro i hi
    obtain rfl : m = i := by omega
    refine J_iload_n (i := 2) d_H_otherThanRegistered_4 rfl rfl ?_
    refine J_aload_n (i := 0) d_H_otherThanRegistered_5 rfl rfl ?_
    refine M_getR (b := 19) d_H_otherThanRegistered_6 f_H_12 rfl rfl rfl ?_
    refine M_get (x := (nI m)) d_H_otherThanRegistered_9 f_H_67 rfl rfl hS.2.1 ?_
    refine N_icmp_ge (tgt := 45) d_H_otherThanRegistered_12 (by decide) (by omega) (by omega) (fun c12 => ?_) (fun c12 => absurd c12 (by omega))
    exact kx
  | succ n ih =>
    intro i hi
    generalize hx : (itr (fun i q => if st i = rg i then q else q ||| 1 <<< i) 0 i) = x
    have h1 := (hS.2.2.1 i (by omega)).2
    have h2 := (hS.2.2.2 i (by omega)).2
    have hx5 : x < 256 := by rw [← hx]; exact ot_lt i (by omega)
    refine J_iload_n (i := 2) d_H_otherThanRegistered_4 rfl rfl ?_
    refine J_aload_n (i := 0) d_H_otherThanRegistered_5 rfl rfl ?_
    refine M_getR (b := 19) d_H_otherThanRegistered_6 f_H_12 rfl rfl rfl ?_
    refine M_get (x := (nI m)) d_H_otherThanRegistered_9 f_H_67 rfl rfl hS.2.1 ?_
    refine N_icmp_ge (tgt := 45) d_H_otherThanRegistered_12 (by decide) (by omega) (by omega) (fun c12 => absurd c12 (by omega)) (fun c12 => ?_)
    refine J_aload_n (i := 0) d_H_otherThanRegistered_15 rfl rfl ?_
    refine M_getR (b := 19) d_H_otherThanRegistered_16 f_H_12 rfl rfl rfl ?_
    refine M_getR (b := 20) d_H_otherThanRegistered_19 f_H_70 rfl rfl rfl ?_
    refine J_iload_n (i := 2) d_H_otherThanRegistered_22 rfl rfl ?_
    refine N_iald (x := (nI (st i))) d_H_otherThanRegistered_23 rfl (by omega) (ltL hX (a := 20) (n := 8) (by decide) rfl (by omega)) (hS.2.2.1 i (by omega)).1 ?_
    refine J_aload_n (i := 0) d_H_otherThanRegistered_24 rfl rfl ?_
    refine M_getR (b := 114) d_H_otherThanRegistered_25 f_H_25 rfl rfl rfl ?_
    refine J_iload_n (i := 2) d_H_otherThanRegistered_28 rfl rfl ?_
    refine N_iald (x := (nI (rg i))) d_H_otherThanRegistered_29 rfl (by omega) (ltL hX (a := 114) (n := 8) (by decide) rfl (by omega)) (hS.2.2.2 i (by omega)).1 ?_
    refine N_icmp_eq (tgt := 39) d_H_otherThanRegistered_30 (by decide) (by omega) (by omega) (fun c30 => ?_) (fun c30 => ?_)
    · refine N_iinc (a := i) (c := 1) (L1 := [some (.ref 18), some (.int (nI x)), some (.int (nI (i + 1)))]) d_H_otherThanRegistered_39 rfl rfl (by decide) rfl ?_
      refine J_goto (tgt := 4) d_H_otherThanRegistered_42 (by decide) ?_
      exact (ih (i + 1) (by omega)).eq (by rw [show itr (fun i q => if st i = rg i then q else q ||| 1 <<< i) 0 (i + 1) = x from itr_g hx (if_pos c30)]) rfl rfl
    · refine J_iload_n (i := 1) d_H_otherThanRegistered_33 rfl rfl ?_
      refine J_iconst (v := nI 1) d_H_otherThanRegistered_34 rfl ?_
      refine J_iload_n (i := 2) d_H_otherThanRegistered_35 rfl rfl ?_
      refine N_ishl d_H_otherThanRegistered_36 (by omega) ?_
      refine N_ior d_H_otherThanRegistered_37 ?_
      refine J_istore_n (i := 1) (L1 := [some (.ref 18), some (.int (nI (x ||| (1 <<< i)))), some (.int (nI i))]) d_H_otherThanRegistered_38 rfl (by decide) rfl ?_
      refine N_iinc (a := i) (c := 1) (L1 := [some (.ref 18), some (.int (nI (x ||| (1 <<< i)))), some (.int (nI (i + 1)))]) d_H_otherThanRegistered_39 rfl rfl (by decide) rfl ?_
      refine J_goto (tgt := 4) d_H_otherThanRegistered_42 (by decide) ?_
      exact (ih (i + 1) (by omega)).eq (by rw [show itr (fun i q => if st i = rg i then q else q ||| 1 <<< i) 0 (i + 1) = (x ||| (1 <<< i)) from itr_g hx (if_neg c30)]) rfl rfl

theorem S_H_other {X : Mem} {m : Nat} {st rg : Nat → Nat} (hX : Ok X) (hS : CSt X m st rg) : CM 0 m_H_otherThanRegistered [.ref 18] X (rN (otN m st rg) X) := by
  refine CM_of (L := [some (.ref 18), none, none]) 2 ok_H_otherThanRegistered (fun _ => Nat.le_of_ble_eq_true rfl) rfl ?_
  refine J_iconst (v := nI 0) d_H_otherThanRegistered_0 rfl ?_
  refine J_istore_n (i := 1) (L1 := [some (.ref 18), some (.int (nI 0)), none]) d_H_otherThanRegistered_1 rfl (by decide) rfl ?_
  refine J_iconst (v := nI 0) d_H_otherThanRegistered_2 rfl ?_
  refine J_istore_n (i := 2) (L1 := [some (.ref 18), some (.int (nI 0)), some (.int (nI 0))]) d_H_otherThanRegistered_3 rfl (by decide) rfl ?_
  refine lp_H_other hX hS ?_ m 0 (by omega)
  refine J_iload_n (i := 1) d_H_otherThanRegistered_45 rfl rfl ?_
  refine M_ir d_H_otherThanRegistered_46 rfl rfl ?_
  exact ⟨rfl, rfl⟩

def isF (s : Sg) (v : Int32) : Int32 := if inR v 2 then s.1 (6 + tn v) else if v = nI 3 then nI (otN (mOf s.1) (stOf s.1) (rgOf s.1)) else (-2)
theorem S_O_is {X : Mem} {s : Sg} {v : Int32} (hX : Ok X) (hC : CI X s) (hw : WFs s) : CM 1 m_O_is [.ref 8, .int v] X (rI (isF s v) X) := by
  refine CM_of (L := [some (.ref 8), some (.int v)]) 0 ok_O_is (fun _ => Nat.le_of_ble_eq_true rfl) rfl ?_
  refine J_iload_n (i := 1) d_O_is_0 rfl rfl ?_
  rcases Bool.eq_false_or_eq_true (inR v 3) with hsw | hsw
  · obtain ⟨jj, hjj, rfl⟩ := inR_n hsw (by decide)
    have hcase : jj = 0 ∨ jj = 1 ∨ jj = 2 ∨ jj = 3 := by omega
    rcases hcase with rfl | rfl | rfl | rfl
    · refine J_tableIn (off := 31) (tgt := 32) d_O_is_1 (by decide) (by decide) (by decide) (by decide) ?_
      refine J_aload_n (i := 0) d_O_is_32 rfl rfl ?_
      refine M_getR (b := 18) d_O_is_33 f_O_48 rfl rfl rfl ?_
      refine M_getR (b := 19) d_O_is_36 f_O_110 rfl rfl rfl ?_
      refine M_get (x := (s.1 6)) d_O_is_39 f_O_113 rfl rfl hC.1.1.2.2.1 ?_
      refine M_ir d_O_is_42 rfl rfl ?_
      exact ⟨rfl, rfl⟩
    · refine J_tableIn (off := 42) (tgt := 43) d_O_is_1 (by decide) (by decide) (by decide) (by decide) ?_
      refine J_aload_n (i := 0) d_O_is_43 rfl rfl ?_
      refine M_getR (b := 18) d_O_is_44 f_O_48 rfl rfl rfl ?_
      refine M_getR (b := 19) d_O_is_47 f_O_110 rfl rfl rfl ?_
      refine M_get (x := (s.1 7)) d_O_is_50 f_O_145 rfl rfl hC.1.1.2.2.2.1 ?_
      refine M_ir d_O_is_53 rfl rfl ?_
      exact ⟨rfl, rfl⟩
    · refine J_tableIn (off := 53) (tgt := 54) d_O_is_1 (by decide) (by decide) (by decide) (by decide) ?_
      refine J_aload_n (i := 0) d_O_is_54 rfl rfl ?_
      refine M_getR (b := 18) d_O_is_55 f_O_48 rfl rfl rfl ?_
      refine M_getR (b := 19) d_O_is_58 f_O_110 rfl rfl rfl ?_
      refine M_get (x := (s.1 8)) d_O_is_61 f_O_205 rfl rfl hC.1.1.2.2.2.2.1 ?_
      refine M_ir d_O_is_64 rfl rfl ?_
      exact ⟨rfl, rfl⟩
    · refine J_tableIn (off := 64) (tgt := 65) d_O_is_1 (by decide) (by decide) (by decide) (by decide) ?_
      refine J_aload_n (i := 0) d_O_is_65 rfl rfl ?_
      refine M_getR (b := 18) d_O_is_66 f_O_48 rfl rfl rfl ?_
      refine CV_N (av := []) d_O_is_69 s_O_208 (M_rcv rfl (by decide) rfl) (S_H_other hX (v_CSt hC hw)) (by decide) rfl rfl (Nat.le_of_ble_eq_true rfl) ?_
      refine M_ir d_O_is_72 rfl rfl ?_
      exact ⟨rfl, rfl⟩
  · refine J_tableOut (tgt := 73) d_O_is_1 (sw_out (n := 3) (by decide) hsw) (by decide) ?_
    refine J_bipush (v := (-2)) d_O_is_73 rfl ?_
    refine M_ir d_O_is_75 rfl rfl ?_
    exact ⟨by rw [isF, if_neg (fun q => by
      obtain ⟨j, hj, rfl⟩ := inR_n q (by decide)
      rw [inR_nI (by omega) (by decide), decide_eq_false_iff_not] at hsw
      omega), if_neg (fun q => by rw [q] at hsw; cases hsw)], rfl⟩

theorem lp_R_is {d : Nat} {Q : Option Value → Mem → Prop} {X : Mem} {m : Nat} {st rg : Nat → Nat} (hX : Ok X) (hS : RSt X m st rg) {v : Int32} (hd : 2 ≤ d) (kx : JM d m_R_is Q 57 [some (.ref 244), some (.int v), some (.int (nI (itr (fun i q => if st i = rg i then q else q ||| 1 <<< i) 0 m))), some (.int (nI m))] [] X) : ∀ (n i : Nat), i + n = m → JM d m_R_is Q 23 [some (.ref 244), some (.int v), some (.int (nI (itr (fun i q => if st i = rg i then q else q ||| 1 <<< i) 0 i))), some (.int (nI i))] [] X := by
  have hm8 := hS.1
  intro n
  induction n with
  | zero =>
    intro i hi
    obtain rfl : m = i := by omega
    refine J_iload_n (i := 3) d_R_is_23 rfl rfl ?_
    refine J_aload_n (i := 0) d_R_is_24 rfl rfl ?_
    refine M_getR (b := 245) d_R_is_25 f_R_7 rfl rfl rfl ?_
    refine J_iconst (v := nI 0) d_R_is_28 rfl ?_
    refine N_iald (x := (nI m)) d_R_is_29 rfl (by omega) (ltL hX (a := 245) (n := 1217) (by decide) rfl (by omega)) hS.2.1 ?_
    refine N_icmp_ge (tgt := 57) d_R_is_30 (by decide) (by omega) (by omega) (fun c30 => ?_) (fun c30 => absurd c30 (by omega))
    exact kx
  | succ n ih =>
    intro i hi
    generalize hx : (itr (fun i q => if st i = rg i then q else q ||| 1 <<< i) 0 i) = x
    have h1 := (hS.2.2.1 i (by omega)).2
    have h2 := (hS.2.2.2 i (by omega)).2
    have hwo := wo_le (st := st) (rg := rg) (b := i)
    have hx5 : x < 256 := by rw [← hx]; exact ot_lt i (by omega)
    refine J_iload_n (i := 3) d_R_is_23 rfl rfl ?_
    refine J_aload_n (i := 0) d_R_is_24 rfl rfl ?_
    refine M_getR (b := 245) d_R_is_25 f_R_7 rfl rfl rfl ?_
    refine J_iconst (v := nI 0) d_R_is_28 rfl ?_
    refine N_iald (x := (nI m)) d_R_is_29 rfl (by omega) (ltL hX (a := 245) (n := 1217) (by decide) rfl (by omega)) hS.2.1 ?_
    refine N_icmp_ge (tgt := 57) d_R_is_30 (by decide) (by omega) (by omega) (fun c30 => absurd c30 (by omega)) (fun c30 => ?_)
    refine J_iload_n (i := 2) d_R_is_33 rfl rfl ?_
    refine J_aload_n (i := 0) d_R_is_34 rfl rfl ?_
    refine J_iload_n (i := 3) d_R_is_35 rfl rfl ?_
    refine CV_N (av := [.int (nI i)]) d_R_is_36 s_R_416 (M_rcv rfl (by decide) rfl) (S_R_otherThan hX hS (by omega)) (by omega) rfl rfl (Nat.le_of_ble_eq_true rfl) ?_
    refine N_if_le (tgt := 48) d_R_is_39 (by decide) (by omega) (fun c39 => ?_) (fun c39 => ?_)
    · refine J_iconst (v := nI 0) d_R_is_48 rfl ?_
      refine N_ior d_R_is_49 ?_
      refine J_istore_n (i := 2) (L1 := [some (.ref 244), some (.int v), some (.int (nI (x ||| 0))), some (.int (nI i))]) d_R_is_50 rfl (by decide) rfl ?_
      refine N_iinc (a := i) (c := 1) (L1 := [some (.ref 244), some (.int v), some (.int (nI (x ||| 0))), some (.int (nI (i + 1)))]) d_R_is_51 rfl rfl (by decide) rfl ?_
      refine J_goto (tgt := 23) d_R_is_54 (by decide) ?_
      exact (ih (i + 1) (by omega)).eq (by rw [show itr (fun i q => if st i = rg i then q else q ||| 1 <<< i) 0 (i + 1) = (x ||| 0) from itr_g hx (by show (if _ then _ else _) = _; rw [if_pos ((wo_0 h1 h2).mp c39), Nat.or_zero])]) rfl rfl
    · refine J_iconst (v := nI 1) d_R_is_42 rfl ?_
      refine J_iload_n (i := 3) d_R_is_43 rfl rfl ?_
      refine N_ishl d_R_is_44 (by omega) ?_
      refine J_goto (tgt := 49) d_R_is_45 (by decide) ?_
      refine N_ior d_R_is_49 ?_
      refine J_istore_n (i := 2) (L1 := [some (.ref 244), some (.int v), some (.int (nI (x ||| (1 <<< i)))), some (.int (nI i))]) d_R_is_50 rfl (by decide) rfl ?_
      refine N_iinc (a := i) (c := 1) (L1 := [some (.ref 244), some (.int v), some (.int (nI (x ||| (1 <<< i)))), some (.int (nI (i + 1)))]) d_R_is_51 rfl rfl (by decide) rfl ?_
      refine J_goto (tgt := 23) d_R_is_54 (by decide) ?_
      exact (ih (i + 1) (by omega)).eq (by rw [show itr (fun i q => if st i = rg i then q else q ||| 1 <<< i) 0 (i + 1) = (x ||| (1 <<< i)) from itr_g hx (by show (if _ then _ else _) = _; rw [if_neg (fun q => c39 ((wo_0 h1 h2).mpr q))])]) rfl rfl

theorem S_R_is {X : Mem} {s : Sg} {v : Int32} (hX : Ok X) (hC : RI X s) (hw : WFs s) : CM 2 m_R_is [.ref 244, .int v] X (rI (isF s v) X) := by
  refine CM_of (L := [some (.ref 244), some (.int v), none, none]) 2 ok_R_is (fun _ => Nat.le_of_ble_eq_true rfl) rfl ?_
  refine J_iload_n (i := 1) d_R_is_0 rfl rfl ?_
  refine J_iconst (v := nI 0) d_R_is_1 rfl ?_
  refine J_iconst (v := nI 2) d_R_is_2 rfl ?_
  refine CS_B (av := [.int v, .int (nI 0), .int (nI 2)]) d_R_is_3 s_R_89 (S_R_isIn) (by decide) rfl rfl (Nat.le_of_ble_eq_true rfl) ?_
  refine B_if_eq (tgt := 19) d_R_is_6 (by decide) (fun c6 => ?_) (fun c6 => ?_)
  · refine J_iconst (v := nI 0) d_R_is_19 rfl ?_
    refine J_istore_n (i := 2) (L1 := [some (.ref 244), some (.int v), some (.int (nI 0)), none]) d_R_is_20 rfl (by decide) rfl ?_
    refine J_iconst (v := nI 0) d_R_is_21 rfl ?_
    refine J_istore_n (i := 3) (L1 := [some (.ref 244), some (.int v), some (.int (nI 0)), some (.int (nI 0))]) d_R_is_22 rfl (by decide) rfl ?_
    refine lp_R_is hX (v_RSt hC hw) (by decide) ?_ (mOf s.1) 0 (by omega)
    refine J_iload_n (i := 1) d_R_is_57 rfl rfl ?_
    refine J_iconst (v := nI 3) d_R_is_58 rfl ?_
    refine J_icmp_ne (tgt := 66) d_R_is_59 (by decide) (fun c59 => ?_) (fun c59 => ?_)
    · refine J_bipush (v := (-2)) d_R_is_66 rfl ?_
      refine M_ir d_R_is_68 rfl rfl ?_
      exact ⟨by rw [isF, show inR v 2 = false from c6, if_neg (show ¬ false = true by decide), if_neg c59] <;> rfl, rfl⟩
    · refine J_iload_n (i := 2) d_R_is_62 rfl rfl ?_
      refine J_goto (tgt := 68) d_R_is_63 (by decide) ?_
      refine M_ir d_R_is_68 rfl rfl ?_
      exact ⟨by rw [isF, show inR v 2 = false from c6, if_neg (show ¬ false = true by decide), if_pos c59] <;> rfl, rfl⟩
  · obtain ⟨v_, hv_, rfl⟩ := inR_n (n := 2) c6 (by decide)
    refine J_aload_n (i := 0) d_R_is_9 rfl rfl ?_
    refine M_getR (b := 245) d_R_is_10 f_R_7 rfl rfl rfl ?_
    refine J_bipush (v := nI 6) d_R_is_13 rfl ?_
    refine J_iload_n (i := 1) d_R_is_15 rfl rfl ?_
    refine N_iadd d_R_is_16 ?_
    refine N_iald (x := (s.1 (6 + v_))) d_R_is_17 rfl (by omega) (ltL hX (a := 245) (n := 1217) (by decide) rfl (by omega)) (ri_at hC (by omega)) ?_
    refine M_ir d_R_is_18 rfl rfl ?_
    exact ⟨by rw [isF, show inR (nI v_) 2 = true from c6, if_pos rfl, tn_nI (by omega)], rfl⟩

def lnF (v k : Nat) : Int32 := if k = 0 then nI (v / 672) else if k = 1 then nI (v / 84 % 8) else if k = 2 then nI (v / 21 % 4) else nI (v % 21) - nI 1
def bkv (r : Nat → Int32) (i : Nat) : Nat := tn (r (1192 + i))
theorem bd_bk : ∀ i, i < 25 → bd (1192 + i) = 6719999 := by decide
theorem bk_f {r : Nat → Int32} (h : WFr r) {i : Nat} (hi : i < 25) : r (1192 + i) = nI (bkv r i) ∧ bkv r i ≤ 6719999 := wf_1 h (by omega) (by omega) (by rw [bd_bk i hi]; exact Nat.le_refl _)
theorem ln_eq {v : Nat} : (v / 21 * 32 + v % 21) / 32 = v / 21 ∧ (v / 21 * 32 + v % 21) % 32 = v % 21 := by omega
def bookF (r : Nat → Int32) (i k : Int32) : Int32 := if i = -1 then r 9 else if mkB (tn (r 9)) i && inR k 3 then lnF (bkv r (tn i)) (tn k) else (-2)
theorem mk_nB {m : Nat} {i : Int32} (hm : m ≤ 25) (h : mkB m i = true) : ∃ j, j < m ∧ i = nI j := by
  simp only [mkB, Bool.and_eq_true, Bool.not_eq_true', decide_eq_false_iff_not] at h
  obtain ⟨j, h1, rfl⟩ := nI_of h.1
  refine ⟨j, ?_, rfl⟩
  rcases Nat.lt_or_ge j m with q | q
  · exact q
  · exact absurd ((nI_leI (by omega) h1).mpr q) h.2
theorem mk_isInB {m : Nat} {i : Int32} (hm : m ≤ 25) : isInB i (nI 0) (nI m - nI 1) = mkB m i := by
  by_cases h0 : i < 0
  · have h0' : i < nI 0 := h0
    simp [isInB, mkB, h0, h0']
  · obtain ⟨j, hj, rfl⟩ := nI_of h0
    have h0' : ¬ nI j < nI 0 := h0
    cases m with
    | zero =>
      have e1 : nI 0 ≤ nI j := (nI_leI (by decide) hj).mpr (Nat.zero_le j)
      have e2 : nI 0 - nI 1 < nI j := by
        have e3 : nI 0 - nI 1 < 0 := by decide
        rw [Int32.lt_iff_toInt_lt] at e3 h0 ⊢
        omega
      simp [isInB, mkB, e1, e2]
    | succ k =>
      rw [pk_sub (by omega), Nat.add_sub_cancel]
      have e : (nI (k + 1) ≤ nI j) ↔ nI k < nI j := by rw [nI_leI (by omega) hj, nI_ltI (by omega) hj]; omega
      simp only [isInB, mkB, h0, h0']
      by_cases q : nI k < nI j
      · simp [q, e.mpr q]
      · have := fun z => q (e.mp z)
        rw [show decide (nI (k + 1) ≤ nI j) = false from decide_eq_false this, show decide (nI k < nI j) = false from decide_eq_false q]
theorem S_N_lineTells {X : Mem} {i k v : Nat} (hX : Ok X) (hi : i < 25) (hk : k ≤ 3) (hv : (X.2.1 21).getD i 0 = nI (v / 21 * 32 + v % 21)) (hv2 : v ≤ 6719999) : CM 0 m_N_lineTells [.ref 19, .int (nI i), .int (nI k)] X (rI (lnF v k) X) := by
  refine CM_of (L := [some (.ref 19), some (.int (nI i)), some (.int (nI k)), none]) 1 ok_N_lineTells (fun _ => Nat.le_of_ble_eq_true rfl) rfl ?_
  refine J_aload_n (i := 0) d_N_lineTells_0 rfl rfl ?_
  refine M_getR (b := 21) d_N_lineTells_1 f_N_19 rfl rfl rfl ?_
  refine J_iload_n (i := 1) d_N_lineTells_4 rfl rfl ?_
  refine N_iald (x := (nI (v / 21 * 32 + v % 21))) d_N_lineTells_5 rfl (by omega) (ltL hX (a := 21) (n := 25) (by decide) rfl (by omega)) hv ?_
  refine J_istore_n (i := 3) (L1 := [some (.ref 19), some (.int (nI i)), some (.int (nI k)), some (.int (nI (v / 21 * 32 + v % 21)))]) d_N_lineTells_6 rfl (by decide) rfl ?_
  refine J_iload_n (i := 2) d_N_lineTells_7 rfl rfl ?_
  have hcase : k = 0 ∨ k = 1 ∨ k = 2 ∨ k = 3 := by omega
  rcases hcase with rfl | rfl | rfl | rfl
  · refine J_tableIn (off := 28) (tgt := 36) d_N_lineTells_8 (by decide) (by decide) (by decide) (by decide) ?_
    refine J_iload_n (i := 3) d_N_lineTells_36 rfl rfl ?_
    refine J_bipush (v := nI 32) d_N_lineTells_37 rfl ?_
    refine N_idiv d_N_lineTells_39 (by omega) (by omega) (by omega) ?_
    refine J_iconst (v := nI 4) d_N_lineTells_40 rfl ?_
    refine N_idiv d_N_lineTells_41 (by omega) (by omega) (by omega) ?_
    refine J_bipush (v := nI 8) d_N_lineTells_42 rfl ?_
    refine N_idiv d_N_lineTells_44 (by omega) (by omega) (by omega) ?_
    refine M_ir d_N_lineTells_45 rfl rfl ?_
    exact ⟨by rw [show lnF v 0 = nI (v / 672) from rfl, ln_eq.1, Nat.div_div_eq_div_mul, Nat.div_div_eq_div_mul], rfl⟩
  · refine J_tableIn (off := 38) (tgt := 46) d_N_lineTells_8 (by decide) (by decide) (by decide) (by decide) ?_
    refine J_iload_n (i := 3) d_N_lineTells_46 rfl rfl ?_
    refine J_bipush (v := nI 32) d_N_lineTells_47 rfl ?_
    refine N_idiv d_N_lineTells_49 (by omega) (by omega) (by omega) ?_
    refine J_iconst (v := nI 4) d_N_lineTells_50 rfl ?_
    refine N_idiv d_N_lineTells_51 (by omega) (by omega) (by omega) ?_
    refine J_bipush (v := nI 8) d_N_lineTells_52 rfl ?_
    refine N_irem d_N_lineTells_54 (by omega) (by omega) (by omega) ?_
    refine M_ir d_N_lineTells_55 rfl rfl ?_
    exact ⟨by rw [show lnF v 1 = nI (v / 84 % 8) from rfl, ln_eq.1, Nat.div_div_eq_div_mul], rfl⟩
  · refine J_tableIn (off := 48) (tgt := 56) d_N_lineTells_8 (by decide) (by decide) (by decide) (by decide) ?_
    refine J_iload_n (i := 3) d_N_lineTells_56 rfl rfl ?_
    refine J_bipush (v := nI 32) d_N_lineTells_57 rfl ?_
    refine N_idiv d_N_lineTells_59 (by omega) (by omega) (by omega) ?_
    refine J_iconst (v := nI 4) d_N_lineTells_60 rfl ?_
    refine N_irem d_N_lineTells_61 (by omega) (by omega) (by omega) ?_
    refine M_ir d_N_lineTells_62 rfl rfl ?_
    exact ⟨by rw [show lnF v 2 = nI (v / 21 % 4) from rfl, ln_eq.1], rfl⟩
  · refine J_tableOut (tgt := 63) d_N_lineTells_8 (by decide) (by decide) ?_
    refine J_iload_n (i := 3) d_N_lineTells_63 rfl rfl ?_
    refine J_bipush (v := nI 32) d_N_lineTells_64 rfl ?_
    refine N_irem d_N_lineTells_66 (by omega) (by omega) (by omega) ?_
    refine J_iconst (v := nI 1) d_N_lineTells_67 rfl ?_
    refine J_isub d_N_lineTells_68 ?_
    refine M_ir d_N_lineTells_69 rfl rfl ?_
    exact ⟨by rw [show lnF v 3 = nI (v % 21) - nI 1 from rfl, ln_eq.2], rfl⟩

theorem S_R_lineOf {X : Mem} {i k v : Nat} (hX : Ok X) (hi : i < 25) (hk : k ≤ 3) (hv : (X.2.1 245).getD (1192 + i) 0 = nI v) (hv2 : v ≤ 6719999) : CM 0 m_R_lineOf [.ref 244, .int (nI i), .int (nI k)] X (rI (lnF v k) X) := by
  refine CM_of (L := [some (.ref 244), some (.int (nI i)), some (.int (nI k)), none]) 1 ok_R_lineOf (fun _ => Nat.le_of_ble_eq_true rfl) rfl ?_
  refine J_aload_n (i := 0) d_R_lineOf_0 rfl rfl ?_
  refine M_getR (b := 245) d_R_lineOf_1 f_R_7 rfl rfl rfl ?_
  refine J_sipush (v := nI 1192) d_R_lineOf_4 rfl ?_
  refine J_iload_n (i := 1) d_R_lineOf_7 rfl rfl ?_
  refine N_iadd d_R_lineOf_8 ?_
  refine N_iald (x := (nI v)) d_R_lineOf_9 rfl (by omega) (ltL hX (a := 245) (n := 1217) (by decide) rfl (by omega)) hv ?_
  refine J_istore_n (i := 3) (L1 := [some (.ref 244), some (.int (nI i)), some (.int (nI k)), some (.int (nI v))]) d_R_lineOf_10 rfl (by decide) rfl ?_
  refine J_iload_n (i := 2) d_R_lineOf_11 rfl rfl ?_
  refine N_if_ne (tgt := 23) d_R_lineOf_12 (by decide) (by omega) (fun c12 => ?_) (fun c12 => ?_)
  · refine J_iload_n (i := 2) d_R_lineOf_23 rfl rfl ?_
    refine J_iconst (v := nI 1) d_R_lineOf_24 rfl ?_
    refine N_icmp_ne (tgt := 38) d_R_lineOf_25 (by decide) (by omega) (by omega) (fun c25 => ?_) (fun c25 => ?_)
    · refine J_iload_n (i := 2) d_R_lineOf_38 rfl rfl ?_
      refine J_iconst (v := nI 2) d_R_lineOf_39 rfl ?_
      refine N_icmp_ne (tgt := 52) d_R_lineOf_40 (by decide) (by omega) (by omega) (fun c40 => ?_) (fun c40 => ?_)
      · refine J_iload_n (i := 3) d_R_lineOf_52 rfl rfl ?_
        refine J_bipush (v := nI 21) d_R_lineOf_53 rfl ?_
        refine N_irem d_R_lineOf_55 (by omega) (by omega) (by omega) ?_
        refine J_iconst (v := nI 1) d_R_lineOf_56 rfl ?_
        refine J_isub d_R_lineOf_57 ?_
        refine M_ir d_R_lineOf_58 rfl rfl ?_
        exact ⟨by unfold lnF; first | (rw [if_pos c12]; done) | (rw [if_neg c12, if_pos c25]; done) | (rw [if_neg c12, if_neg c25, if_pos c40]; done) | (rw [if_neg c12, if_neg c25, if_neg c40]; done), rfl⟩
      · refine J_iload_n (i := 3) d_R_lineOf_43 rfl rfl ?_
        refine J_bipush (v := nI 21) d_R_lineOf_44 rfl ?_
        refine N_idiv d_R_lineOf_46 (by omega) (by omega) (by omega) ?_
        refine J_iconst (v := nI 4) d_R_lineOf_47 rfl ?_
        refine N_irem d_R_lineOf_48 (by omega) (by omega) (by omega) ?_
        refine J_goto (tgt := 58) d_R_lineOf_49 (by decide) ?_
        refine M_ir d_R_lineOf_58 rfl rfl ?_
        exact ⟨by unfold lnF; first | (rw [if_pos c12]; done) | (rw [if_neg c12, if_pos c25]; done) | (rw [if_neg c12, if_neg c25, if_pos c40]; done) | (rw [if_neg c12, if_neg c25, if_neg c40]; done), rfl⟩
    · refine J_iload_n (i := 3) d_R_lineOf_28 rfl rfl ?_
      refine J_bipush (v := nI 84) d_R_lineOf_29 rfl ?_
      refine N_idiv d_R_lineOf_31 (by omega) (by omega) (by omega) ?_
      refine J_bipush (v := nI 8) d_R_lineOf_32 rfl ?_
      refine N_irem d_R_lineOf_34 (by omega) (by omega) (by omega) ?_
      refine J_goto (tgt := 58) d_R_lineOf_35 (by decide) ?_
      refine M_ir d_R_lineOf_58 rfl rfl ?_
      exact ⟨by unfold lnF; first | (rw [if_pos c12]; done) | (rw [if_neg c12, if_pos c25]; done) | (rw [if_neg c12, if_neg c25, if_pos c40]; done) | (rw [if_neg c12, if_neg c25, if_neg c40]; done), rfl⟩
  · refine J_iload_n (i := 3) d_R_lineOf_15 rfl rfl ?_
    refine J_sipush (v := nI 672) d_R_lineOf_16 rfl ?_
    refine N_idiv d_R_lineOf_19 (by omega) (by omega) (by omega) ?_
    refine J_goto (tgt := 58) d_R_lineOf_20 (by decide) ?_
    refine M_ir d_R_lineOf_58 rfl rfl ?_
    exact ⟨by unfold lnF; first | (rw [if_pos c12]; done) | (rw [if_neg c12, if_pos c25]; done) | (rw [if_neg c12, if_neg c25, if_pos c40]; done) | (rw [if_neg c12, if_neg c25, if_neg c40]; done), rfl⟩

