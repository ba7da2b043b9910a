/-- what was told: seen sn, unseen un -/
def CSn (X : Mem) (sn un : Nat) : Prop := X.1 18 5 = nI sn ∧ X.1 18 6 = nI un ∧ sn < 1048576 ∧ un < 1048576
def RSn (X : Mem) (sn un : Nat) : Prop := (X.2.1 245).getD 26 0 = nI sn ∧ (X.2.1 245).getD 27 0 = nI un ∧ sn < 1048576 ∧ un < 1048576
def fitB (sn un s : Nat) : Bool := andn sn s == 0 && (un &&& s) == 0
def fwN (sn un s : Nat) : Nat := itr (fun w q => if fitB sn un (mvs w s) then q ||| 1 <<< w else q) 0 8
def waysF (m : Nat) (st : Nat → Nat) (sn un : Nat) (i : Int32) : Int32 := if mkB m i then nI (fwN sn un (st (tn i))) else (-1)
def whN (m : Nat) (st : Nat → Nat) (sn un : Nat) : Nat := itr (fun i q => if fwN sn un (st i) = 0 then q else q ||| 1 <<< i) 0 m
theorem or_if {b : Prop} [Decidable b] {q v : Nat} : (q ||| if b then v else 0) = if b then q ||| v else q := by
  split
  · rfl
  · exact Nat.or_zero q
theorem S_H_fits {X : Mem} {sn un : Nat} (hW : CSn X sn un) {s : Nat} (hs : s < 1048576) : CM 0 m_H_fits [.ref 18, .int (nI s)] X (rB (fitB sn un s) X) := by
  have h1 := hW.2.2.1
  have h2 := hW.2.2.2
  refine CM_of (L := [some (.ref 18), some (.int (nI s))]) 0 ok_H_fits (fun _ => Nat.le_of_ble_eq_true rfl) rfl ?_
  refine J_aload_n (i := 0) d_H_fits_0 rfl rfl ?_
  refine M_get (x := (nI sn)) d_H_fits_1 f_H_52 rfl rfl hW.1 ?_
  refine J_iload_n (i := 1) d_H_fits_4 rfl rfl ?_
  refine J_iconst (v := (-1)) d_H_fits_5 rfl ?_
  refine J_ixor d_H_fits_6 ?_
  refine J_iand d_H_fits_7 ?_
  refine I_ton (n := andn sn s) (nI_andn sn s) ?_
  refine N_if_ne (tgt := 24) d_H_fits_8 (by decide) (by first | omega | exact Nat.lt_trans (andn_lt h1) (by decide) | exact Nat.lt_trans (and_lt h2) (by decide)) (fun c8 => ?_) (fun c8 => ?_)
  · refine J_iconst (v := nI 0) d_H_fits_24 rfl ?_
    refine J.eq (st1 := [.int (b2i false)]) ?_ rfl rfl rfl
    refine M_ir d_H_fits_25 rfl b2i_nar ?_
    exact ⟨by rw [show fitB sn un s = false from by rw [fitB, show (andn sn s == 0) = false from beq_eq_false_iff_ne.mpr c8]; rfl] <;> rfl, rfl⟩
  · refine J_aload_n (i := 0) d_H_fits_11 rfl rfl ?_
    refine M_get (x := (nI un)) d_H_fits_12 f_H_55 rfl rfl hW.2.1 ?_
    refine J_iload_n (i := 1) d_H_fits_15 rfl rfl ?_
    refine N_iand d_H_fits_16 ?_
    refine N_if_ne (tgt := 24) d_H_fits_17 (by decide) (by first | omega | exact Nat.lt_trans (andn_lt h1) (by decide) | exact Nat.lt_trans (and_lt h2) (by decide)) (fun c17 => ?_) (fun c17 => ?_)
    · refine J_iconst (v := nI 0) d_H_fits_24 rfl ?_
      refine J.eq (st1 := [.int (b2i false)]) ?_ rfl rfl rfl
      refine M_ir d_H_fits_25 rfl b2i_nar ?_
      first | exact ⟨by rw [show fitB sn un s = true from by rw [fitB, c8, c17]; rfl] <;> rfl, rfl⟩ | exact ⟨by rw [show fitB sn un s = false from by rw [fitB, show ((un &&& s) == 0) = false from beq_eq_false_iff_ne.mpr c17, Bool.and_false]] <;> rfl, rfl⟩
    · refine J_iconst (v := nI 1) d_H_fits_20 rfl ?_
      refine J_goto (tgt := 25) d_H_fits_21 (by decide) ?_
      refine J.eq (st1 := [.int (b2i true)]) ?_ rfl rfl rfl
      refine M_ir d_H_fits_25 rfl b2i_nar ?_
      first | exact ⟨by rw [show fitB sn un s = true from by rw [fitB, c8, c17]; rfl] <;> rfl, rfl⟩ | exact ⟨by rw [show fitB sn un s = false from by rw [fitB, show ((un &&& s) == 0) = false from beq_eq_false_iff_ne.mpr c17, Bool.and_false]] <;> rfl, rfl⟩

theorem S_R_isSeen {X : Mem} (hX : Ok X) {sn un : Nat} (hW : RSn X sn un) {s : Nat} (hs : s < 1048576) : CM 0 m_R_isSeen [.ref 244, .int (nI s)] X (rB (fitB sn un s) X) := by
  have h1 := hW.2.2.1
  have h2 := hW.2.2.2
  refine CM_of (L := [some (.ref 244), some (.int (nI s))]) 0 ok_R_isSeen (fun _ => Nat.le_of_ble_eq_true rfl) rfl ?_
  refine J_aload_n (i := 0) d_R_isSeen_0 rfl rfl ?_
  refine M_getR (b := 245) d_R_isSeen_1 f_R_7 rfl rfl rfl ?_
  refine J_bipush (v := nI 26) d_R_isSeen_4 rfl ?_
  refine N_iald (x := (nI sn)) d_R_isSeen_6 rfl (by first | omega | exact Nat.lt_trans (andn_lt h1) (by decide) | exact Nat.lt_trans (and_lt h2) (by decide)) (ltL hX (a := 245) (n := 1217) (by decide) rfl (by first | omega | exact Nat.lt_trans (andn_lt h1) (by decide) | exact Nat.lt_trans (and_lt h2) (by decide))) hW.1 ?_
  refine J_iload_n (i := 1) d_R_isSeen_7 rfl rfl ?_
  refine J_iconst (v := (-1)) d_R_isSeen_8 rfl ?_
  refine J_ixor d_R_isSeen_9 ?_
  refine J_iand d_R_isSeen_10 ?_
  refine I_ton (n := andn sn s) (nI_andn sn s) ?_
  refine N_if_ne (tgt := 30) d_R_isSeen_11 (by decide) (by first | omega | exact Nat.lt_trans (andn_lt h1) (by decide) | exact Nat.lt_trans (and_lt h2) (by decide)) (fun c11 => ?_) (fun c11 => ?_)
  · refine J_iconst (v := nI 0) d_R_isSeen_30 rfl ?_
    refine J.eq (st1 := [.int (b2i false)]) ?_ rfl rfl rfl
    refine M_ir d_R_isSeen_31 rfl b2i_nar ?_
    exact ⟨by rw [show fitB sn un s = false from by rw [fitB, show (andn sn s == 0) = false from beq_eq_false_iff_ne.mpr c11]; rfl] <;> rfl, rfl⟩
  · refine J_aload_n (i := 0) d_R_isSeen_14 rfl rfl ?_
    refine M_getR (b := 245) d_R_isSeen_15 f_R_7 rfl rfl rfl ?_
    refine J_bipush (v := nI 27) d_R_isSeen_18 rfl ?_
    refine N_iald (x := (nI un)) d_R_isSeen_20 rfl (by first | omega | exact Nat.lt_trans (andn_lt h1) (by decide) | exact Nat.lt_trans (and_lt h2) (by decide)) (ltL hX (a := 245) (n := 1217) (by decide) rfl (by first | omega | exact Nat.lt_trans (andn_lt h1) (by decide) | exact Nat.lt_trans (and_lt h2) (by decide))) hW.2.1 ?_
    refine J_iload_n (i := 1) d_R_isSeen_21 rfl rfl ?_
    refine N_iand d_R_isSeen_22 ?_
    refine N_if_ne (tgt := 30) d_R_isSeen_23 (by decide) (by first | omega | exact Nat.lt_trans (andn_lt h1) (by decide) | exact Nat.lt_trans (and_lt h2) (by decide)) (fun c23 => ?_) (fun c23 => ?_)
    · refine J_iconst (v := nI 0) d_R_isSeen_30 rfl ?_
      refine J.eq (st1 := [.int (b2i false)]) ?_ rfl rfl rfl
      refine M_ir d_R_isSeen_31 rfl b2i_nar ?_
      first | exact ⟨by rw [show fitB sn un s = true from by rw [fitB, c11, c23]; rfl] <;> rfl, rfl⟩ | exact ⟨by rw [show fitB sn un s = false from by rw [fitB, show ((un &&& s) == 0) = false from beq_eq_false_iff_ne.mpr c23, Bool.and_false]] <;> rfl, rfl⟩
    · refine J_iconst (v := nI 1) d_R_isSeen_26 rfl ?_
      refine J_goto (tgt := 31) d_R_isSeen_27 (by decide) ?_
      refine J.eq (st1 := [.int (b2i true)]) ?_ rfl rfl rfl
      refine M_ir d_R_isSeen_31 rfl b2i_nar ?_
      first | exact ⟨by rw [show fitB sn un s = true from by rw [fitB, c11, c23]; rfl] <;> rfl, rfl⟩ | exact ⟨by rw [show fitB sn un s = false from by rw [fitB, show ((un &&& s) == 0) = false from beq_eq_false_iff_ne.mpr c23, Bool.and_false]] <;> rfl, rfl⟩

theorem lp_O_fittingWays {d : Nat} {Q : Option Value → Mem → Prop} {X : Mem} {m : Nat} {st rg : Nat → Nat} (hX : Ok X) (hS : CSt X m st rg) {sn un : Nat} (hW : CSn X sn un) {i : Nat} (hi : i < m) (hd : 1 ≤ d) (kx : JM d m_O_fittingWays Q 48 [some (.ref 8), some (.int (nI i)), some (.int (nI (itr (fun w q => if fitB sn un (mvs w (st i)) then q ||| 1 <<< w else q) 0 8))), some (.int (nI 8))] [] X) : ∀ (n w : Nat), w + n = 8 → JM d m_O_fittingWays Q 4 [some (.ref 8), some (.int (nI i)), some (.int (nI (itr (fun w q => if fitB sn un (mvs w (st i)) then q ||| 1 <<< w else q) 0 w))), some (.int (nI w))] [] X := by
  have hm8 := hS.1
  have hsti := (hS.2.2.1 i (by omega)).2
  intro n
  induction n with
  | zero =>
    intro w hi
    obtain rfl : w = 8 := by omega
    refine J_iload_n (i := 3) d_O_fittingWays_4 rfl rfl ?_
    refine J_bipush (v := nI 8) d_O_fittingWays_5 rfl ?_
    refine N_icmp_ge (tgt := 48) d_O_fittingWays_7 (by decide) (by omega) (by omega) (fun c7 => ?_) (fun c7 => absurd c7 (by omega))
    exact kx
  | succ n ih =>
    intro w hi
    generalize hx : (itr (fun w q => if fitB sn un (mvs w (st i)) then q ||| 1 <<< w else q) 0 w) = x
    refine J_iload_n (i := 3) d_O_fittingWays_4 rfl rfl ?_
    refine J_bipush (v := nI 8) d_O_fittingWays_5 rfl ?_
    refine N_icmp_ge (tgt := 48) d_O_fittingWays_7 (by decide) (by omega) (by omega) (fun c7 => absurd c7 (by omega)) (fun c7 => ?_)
    refine J_aload_n (i := 0) d_O_fittingWays_10 rfl rfl ?_
    refine M_getR (b := 18) d_O_fittingWays_11 f_O_48 rfl rfl rfl ?_
    refine J_aload_n (i := 0) d_O_fittingWays_14 rfl rfl ?_
    refine M_getR (b := 18) d_O_fittingWays_15 f_O_48 rfl rfl rfl ?_
    refine M_getR (b := 19) d_O_fittingWays_18 f_O_110 rfl rfl rfl ?_
    refine M_getR (b := 20) d_O_fittingWays_21 f_O_169 rfl rfl rfl ?_
    refine J_iload_n (i := 1) d_O_fittingWays_24 rfl rfl ?_
    refine N_iald (x := (nI (st i))) d_O_fittingWays_25 rfl (by omega) (ltL hX (a := 20) (n := 8) (by decide) rfl (by omega)) (hS.2.2.1 i (by omega)).1 ?_
    refine J_iload_n (i := 3) d_O_fittingWays_26 rfl rfl ?_
    refine CS_N (av := [.int (nI (st i)), .int (nI w)]) d_O_fittingWays_27 s_O_230 (S_K_moved hX (by omega) (by omega)) (by omega) rfl rfl (Nat.le_of_ble_eq_true rfl) ?_
    refine CV_B (av := [.int (nI (mvs w (st i)))]) d_O_fittingWays_30 s_O_359 (M_rcv rfl (by decide) rfl) (S_H_fits hW mvs_lt) (by omega) rfl rfl (Nat.le_of_ble_eq_true rfl) ?_
    refine B_if_eq (tgt := 42) d_O_fittingWays_33 (by decide) (fun c33 => ?_) (fun c33 => ?_)
    · refine N_iinc (a := w) (c := 1) (L1 := [some (.ref 8), some (.int (nI i)), some (.int (nI x)), some (.int (nI (w + 1)))]) d_O_fittingWays_42 rfl rfl (by decide) rfl ?_
      refine J_goto (tgt := 4) d_O_fittingWays_45 (by decide) ?_
      exact (ih (w + 1) (by omega)).eq (by rw [show itr (fun w q => if fitB sn un (mvs w (st i)) then q ||| 1 <<< w else q) 0 (w + 1) = x from itr_g hx (by show (if _ then _ else _) = _; simp [c7, c33])]) rfl rfl
    · refine J_iload_n (i := 2) d_O_fittingWays_36 rfl rfl ?_
      refine J_iconst (v := nI 1) d_O_fittingWays_37 rfl ?_
      refine J_iload_n (i := 3) d_O_fittingWays_38 rfl rfl ?_
      refine N_ishl d_O_fittingWays_39 (by omega) ?_
      refine N_ior d_O_fittingWays_40 ?_
      refine N_nm (fun v41 hv41 => ?_)
      refine J_istore_n (i := 2) (L1 := [some (.ref 8), some (.int (nI i)), some (.int (nI v41)), some (.int (nI w))]) d_O_fittingWays_41 rfl (by decide) rfl ?_
      refine N_iinc (a := w) (c := 1) (L1 := [some (.ref 8), some (.int (nI i)), some (.int (nI v41)), some (.int (nI (w + 1)))]) d_O_fittingWays_42 rfl rfl (by decide) rfl ?_
      refine J_goto (tgt := 4) d_O_fittingWays_45 (by decide) ?_
      exact (ih (w + 1) (by omega)).eq (by rw [show itr (fun w q => if fitB sn un (mvs w (st i)) then q ||| 1 <<< w else q) 0 (w + 1) = v41 from itr_g hx (by show (if _ then _ else _) = _; simp [c7, c33, hv41])]) rfl rfl

theorem S_O_fittingWays {X : Mem} {m : Nat} {st rg : Nat → Nat} (hX : Ok X) (hS : CSt X m st rg) {sn un : Nat} (hW : CSn X sn un) {i : Nat} (hi : i < m) : CM 1 m_O_fittingWays [.ref 8, .int (nI i)] X (rN (fwN sn un (st i)) X) := by
  refine CM_of (L := [some (.ref 8), some (.int (nI i)), none, none]) 2 ok_O_fittingWays (fun _ => Nat.le_of_ble_eq_true rfl) rfl ?_
  refine J_iconst (v := nI 0) d_O_fittingWays_0 rfl ?_
  refine J_istore_n (i := 2) (L1 := [some (.ref 8), some (.int (nI i)), some (.int (nI 0)), none]) d_O_fittingWays_1 rfl (by decide) rfl ?_
  refine J_iconst (v := nI 0) d_O_fittingWays_2 rfl ?_
  refine J_istore_n (i := 3) (L1 := [some (.ref 8), some (.int (nI i)), some (.int (nI 0)), some (.int (nI 0))]) d_O_fittingWays_3 rfl (by decide) rfl ?_
  refine lp_O_fittingWays hX hS hW hi (by decide) ?_ 8 0 (by omega)
  refine J_iload_n (i := 2) d_O_fittingWays_48 rfl rfl ?_
  refine M_ir d_O_fittingWays_49 rfl rfl ?_
  exact ⟨rfl, rfl⟩

theorem lp_R_waysOf {d : Nat} {Q : Option Value → Mem → Prop} {X : Mem} {m : Nat} {st rg : Nat → Nat} (hX : Ok X) (hS : RSt X m st rg) {sn un : Nat} (hW : RSn X sn un) {i : Nat} (hi : i < m) (hd : 2 ≤ d) (kx : JM d m_R_waysOf Q 47 [some (.ref 244), some (.int (nI i)), some (.int (nI (itr (fun w q => if fitB sn un (mvs w (st i)) then q ||| 1 <<< w else q) 0 8))), some (.int (nI 8))] [] X) : ∀ (n w : Nat), w + n = 8 → JM d m_R_waysOf Q 4 [some (.ref 244), some (.int (nI i)), some (.int (nI (itr (fun w q => if fitB sn un (mvs w (st i)) then q ||| 1 <<< w else q) 0 w))), some (.int (nI w))] [] X := by
  have hm8 := hS.1
  have hsti := (hS.2.2.1 i (by omega)).2
  intro n
  induction n with
  | zero =>
    intro w hi
    obtain rfl : w = 8 := by omega
    refine J_iload_n (i := 3) d_R_waysOf_4 rfl rfl ?_
    refine J_bipush (v := nI 8) d_R_waysOf_5 rfl ?_
    refine N_icmp_ge (tgt := 47) d_R_waysOf_7 (by decide) (by omega) (by omega) (fun c7 => ?_) (fun c7 => absurd c7 (by omega))
    exact kx
  | succ n ih =>
    intro w hi
    generalize hx : (itr (fun w q => if fitB sn un (mvs w (st i)) then q ||| 1 <<< w else q) 0 w) = x
    refine J_iload_n (i := 3) d_R_waysOf_4 rfl rfl ?_
    refine J_bipush (v := nI 8) d_R_waysOf_5 rfl ?_
    refine N_icmp_ge (tgt := 47) d_R_waysOf_7 (by decide) (by omega) (by omega) (fun c7 => absurd c7 (by omega)) (fun c7 => ?_)
    refine J_iload_n (i := 2) d_R_waysOf_10 rfl rfl ?_
    refine J_aload_n (i := 0) d_R_waysOf_11 rfl rfl ?_
    refine J_aload_n (i := 0) d_R_waysOf_12 rfl rfl ?_
    refine J_aload_n (i := 0) d_R_waysOf_13 rfl rfl ?_
    refine M_getR (b := 245) d_R_waysOf_14 f_R_7 rfl rfl rfl ?_
    refine J_bipush (v := nI 10) d_R_waysOf_17 rfl ?_
    refine J_iload_n (i := 1) d_R_waysOf_19 rfl rfl ?_
    refine N_iadd d_R_waysOf_20 ?_
    refine N_iald (x := (nI (st i))) d_R_waysOf_21 rfl (by omega) (ltL hX (a := 245) (n := 1217) (by decide) rfl (by omega)) (hS.2.2.1 i (by omega)).1 ?_
    refine J_iload_n (i := 3) d_R_waysOf_22 rfl rfl ?_
    refine CV_N (av := [.int (nI (st i)), .int (nI w)]) d_R_waysOf_23 s_R_105 (M_rcv rfl (by decide) rfl) (S_R_byWay hX (by omega) (by omega)) (by omega) rfl rfl (Nat.le_of_ble_eq_true rfl) ?_
    refine CV_B (av := [.int (nI (mvs w (st i)))]) d_R_waysOf_26 s_R_483 (M_rcv rfl (by decide) rfl) (S_R_isSeen hX hW mvs_lt) (by omega) rfl rfl (Nat.le_of_ble_eq_true rfl) ?_
    refine B_if_eq (tgt := 38) d_R_waysOf_29 (by decide) (fun c29 => ?_) (fun c29 => ?_)
    · refine J_iconst (v := nI 0) d_R_waysOf_38 rfl ?_
      refine N_ior d_R_waysOf_39 ?_
      refine J_istore_n (i := 2) (L1 := [some (.ref 244), some (.int (nI i)), some (.int (nI (x ||| 0))), some (.int (nI w))]) d_R_waysOf_40 rfl (by decide) rfl ?_
      refine N_iinc (a := w) (c := 1) (L1 := [some (.ref 244), some (.int (nI i)), some (.int (nI (x ||| 0))), some (.int (nI (w + 1)))]) d_R_waysOf_41 rfl rfl (by decide) rfl ?_
      refine J_goto (tgt := 4) d_R_waysOf_44 (by decide) ?_
      exact (ih (w + 1) (by omega)).eq (by rw [show itr (fun w q => if fitB sn un (mvs w (st i)) then q ||| 1 <<< w else q) 0 (w + 1) = (x ||| 0) from itr_g hx (by show (if _ then _ else _) = _; simp [c7, c29])]) rfl rfl
    · refine J_iconst (v := nI 1) d_R_waysOf_32 rfl ?_
      refine J_iload_n (i := 3) d_R_waysOf_33 rfl rfl ?_
      refine N_ishl d_R_waysOf_34 (by omega) ?_
      refine J_goto (tgt := 39) d_R_waysOf_35 (by decide) ?_
      refine N_ior d_R_waysOf_39 ?_
      refine N_nm (fun v40 hv40 => ?_)
      refine J_istore_n (i := 2) (L1 := [some (.ref 244), some (.int (nI i)), some (.int (nI v40)), some (.int (nI w))]) d_R_waysOf_40 rfl (by decide) rfl ?_
      refine N_iinc (a := w) (c := 1) (L1 := [some (.ref 244), some (.int (nI i)), some (.int (nI v40)), some (.int (nI (w + 1)))]) d_R_waysOf_41 rfl rfl (by decide) rfl ?_
      refine J_goto (tgt := 4) d_R_waysOf_44 (by decide) ?_
      exact (ih (w + 1) (by omega)).eq (by rw [show itr (fun w q => if fitB sn un (mvs w (st i)) then q ||| 1 <<< w else q) 0 (w + 1) = v40 from itr_g hx (by show (if _ then _ else _) = _; simp [c7, c29, hv40])]) rfl rfl

theorem S_R_waysOf {X : Mem} {m : Nat} {st rg : Nat → Nat} (hX : Ok X) (hS : RSt X m st rg) {sn un : Nat} (hW : RSn X sn un) {i : Nat} (hi : i < m) : CM 2 m_R_waysOf [.ref 244, .int (nI i)] X (rN (fwN sn un (st i)) X) := by
  refine CM_of (L := [some (.ref 244), some (.int (nI i)), none, none]) 2 ok_R_waysOf (fun _ => Nat.le_of_ble_eq_true rfl) rfl ?_
  refine J_iconst (v := nI 0) d_R_waysOf_0 rfl ?_
  refine J_istore_n (i := 2) (L1 := [some (.ref 244), some (.int (nI i)), some (.int (nI 0)), none]) d_R_waysOf_1 rfl (by decide) rfl ?_
  refine J_iconst (v := nI 0) d_R_waysOf_2 rfl ?_
  refine J_istore_n (i := 3) (L1 := [some (.ref 244), some (.int (nI i)), some (.int (nI 0)), some (.int (nI 0))]) d_R_waysOf_3 rfl (by decide) rfl ?_
  refine lp_R_waysOf hX hS hW hi (by decide) ?_ 8 0 (by omega)
  refine J_iload_n (i := 2) d_R_waysOf_47 rfl rfl ?_
  refine M_ir d_R_waysOf_48 rfl rfl ?_
  exact ⟨rfl, rfl⟩

theorem fw_lt {sn un s : Nat} : fwN sn un s < 256 :=
  itr_invN (fun _ (x : Nat) => x < 256) 8 (by decide) (fun w x hw hx => by
    try dsimp only
    split
    · exact or_lt 8 hx (sh_lt hw (by decide))
    · exact hx) 8 (Nat.le_refl 8)
theorem S_O_ways {X : Mem} {m : Nat} {st rg : Nat → Nat} (hX : Ok X) (hS : CSt X m st rg) {sn un : Nat} (hW : CSn X sn un) {i : Int32} : CM 2 m_O_ways [.ref 8, .int i] X (rI (waysF m st sn un i) X) := by
  refine CM_of (L := [some (.ref 8), some (.int i)]) 0 ok_O_ways (fun _ => Nat.le_of_ble_eq_true rfl) rfl ?_
  refine J_aload_n (i := 0) d_O_ways_0 rfl rfl ?_
  refine J_iload_n (i := 1) d_O_ways_1 rfl rfl ?_
  refine CV_B (av := [.int i]) d_O_ways_2 s_O_166 (M_rcv rfl (by decide) rfl) (S_O_isMark hX hS) (by decide) rfl rfl (Nat.le_of_ble_eq_true rfl) ?_
  refine B_if_eq (tgt := 16) d_O_ways_5 (by decide) (fun c5 => ?_) (fun c5 => ?_)
  · refine J_iconst (v := (-1)) d_O_ways_16 rfl ?_
    refine M_ir d_O_ways_17 rfl rfl ?_
    exact ⟨by simp [waysF, c5], rfl⟩
  · obtain ⟨i_, hi_, rfl⟩ := mk_n hS.1 c5
    have hm8 := hS.1
    have hsti_ := (hS.2.2.1 i_ (by omega)).2
    refine J_aload_n (i := 0) d_O_ways_8 rfl rfl ?_
    refine J_iload_n (i := 1) d_O_ways_9 rfl rfl ?_
    refine CV_N (av := [.int (nI i_)]) d_O_ways_10 s_O_300 (M_rcv rfl (by decide) rfl) (S_O_fittingWays hX hS hW (by omega)) (by decide) rfl rfl (Nat.le_of_ble_eq_true rfl) ?_
    refine J_goto (tgt := 17) d_O_ways_13 (by decide) ?_
    refine M_ir d_O_ways_17 rfl rfl ?_
    exact ⟨by simp [waysF, c5, tn_nI (show i_ < 2147483648 by omega)], rfl⟩

theorem S_R_ways {X : Mem} {m : Nat} {st rg : Nat → Nat} (hX : Ok X) (hS : RSt X m st rg) {sn un : Nat} (hW : RSn X sn un) {i : Int32} : CM 3 m_R_ways [.ref 244, .int i] X (rI (waysF m st sn un i) X) := by
  refine CM_of (L := [some (.ref 244), some (.int i)]) 0 ok_R_ways (fun _ => Nat.le_of_ble_eq_true rfl) rfl ?_
  refine J_aload_n (i := 0) d_R_ways_0 rfl rfl ?_
  refine J_iload_n (i := 1) d_R_ways_1 rfl rfl ?_
  refine CV_B (av := [.int i]) d_R_ways_2 s_R_379 (M_rcv rfl (by decide) rfl) (S_R_isMark hX hS) (by decide) rfl rfl (Nat.le_of_ble_eq_true rfl) ?_
  refine B_if_eq (tgt := 16) d_R_ways_5 (by decide) (fun c5 => ?_) (fun c5 => ?_)
  · refine J_iconst (v := (-1)) d_R_ways_16 rfl ?_
    refine M_ir d_R_ways_17 rfl rfl ?_
    exact ⟨by simp [waysF, c5], rfl⟩
  · obtain ⟨i_, hi_, rfl⟩ := mk_n hS.1 c5
    have hm8 := hS.1
    have hsti_ := (hS.2.2.1 i_ (by omega)).2
    refine J_aload_n (i := 0) d_R_ways_8 rfl rfl ?_
    refine J_iload_n (i := 1) d_R_ways_9 rfl rfl ?_
    refine CV_N (av := [.int (nI i_)]) d_R_ways_10 s_R_486 (M_rcv rfl (by decide) rfl) (S_R_waysOf hX hS hW (by omega)) (by decide) rfl rfl (Nat.le_of_ble_eq_true rfl) ?_
    refine J_goto (tgt := 17) d_R_ways_13 (by decide) ?_
    refine M_ir d_R_ways_17 rfl rfl ?_
    exact ⟨by simp [waysF, c5, tn_nI (show i_ < 2147483648 by omega)], rfl⟩

theorem lp_O_which {d : Nat} {Q : Option Value → Mem → Prop} {X : Mem} {m : Nat} {st rg : Nat → Nat} (hX : Ok X) (hS : CSt X m st rg) {sn un : Nat} (hW : CSn X sn un) (hd : 2 ≤ d) (kx : JM d m_O_which Q 38 [some (.ref 8), some (.int (nI (itr (fun i q => if fwN sn un (st i) = 0 then q else q ||| 1 <<< i) 0 m))), some (.int (nI m))] [] X) : ∀ (n i : Nat), i + n = m → JM d m_O_which Q 4 [some (.ref 8), some (.int (nI (itr (fun i q => if fwN sn un (st i) = 0 then q else q ||| 1 <<< i) 0 i))), some (.int (nI i))] [] X := by
  have hm8 := hS.1
  intro n
  induction n with
  | zero =>
    intro i hi
    obtain rfl : m = i := by omega
    refine J_iload_n (i := 2) d_O_which_4 rfl rfl ?_
    refine J_aload_n (i := 0) d_O_which_5 rfl rfl ?_
    refine M_getR (b := 18) d_O_which_6 f_O_48 rfl rfl rfl ?_
    refine M_getR (b := 19) d_O_which_9 f_O_110 rfl rfl rfl ?_
    refine M_get (x := (nI m)) d_O_which_12 f_O_258 rfl rfl hS.2.1 ?_
    refine N_icmp_ge (tgt := 38) d_O_which_15 (by decide) (by omega) (by omega) (fun c15 => ?_) (fun c15 => absurd c15 (by omega))
    exact kx
  | succ n ih =>
    intro i hi
    generalize hx : (itr (fun i q => if fwN sn un (st i) = 0 then q else q ||| 1 <<< i) 0 i) = x
    have hfw := fw_lt (sn := sn) (un := un) (s := st i)
    refine J_iload_n (i := 2) d_O_which_4 rfl rfl ?_
    refine J_aload_n (i := 0) d_O_which_5 rfl rfl ?_
    refine M_getR (b := 18) d_O_which_6 f_O_48 rfl rfl rfl ?_
    refine M_getR (b := 19) d_O_which_9 f_O_110 rfl rfl rfl ?_
    refine M_get (x := (nI m)) d_O_which_12 f_O_258 rfl rfl hS.2.1 ?_
    refine N_icmp_ge (tgt := 38) d_O_which_15 (by decide) (by omega) (by omega) (fun c15 => absurd c15 (by omega)) (fun c15 => ?_)
    refine J_aload_n (i := 0) d_O_which_18 rfl rfl ?_
    refine J_iload_n (i := 2) d_O_which_19 rfl rfl ?_
    refine CV_N (av := [.int (nI i)]) d_O_which_20 s_O_300 (M_rcv rfl (by decide) rfl) (S_O_fittingWays hX hS hW (by omega)) (by omega) rfl rfl (Nat.le_of_ble_eq_true rfl) ?_
    refine N_if_eq (tgt := 32) d_O_which_23 (by decide) (by omega) (fun c23 => ?_) (fun c23 => ?_)
    · refine N_iinc (a := i) (c := 1) (L1 := [some (.ref 8), some (.int (nI x)), some (.int (nI (i + 1)))]) d_O_which_32 rfl rfl (by decide) rfl ?_
      refine J_goto (tgt := 4) d_O_which_35 (by decide) ?_
      exact (ih (i + 1) (by omega)).eq (by rw [show itr (fun i q => if fwN sn un (st i) = 0 then q else q ||| 1 <<< i) 0 (i + 1) = x from itr_g hx (by show (if _ then _ else _) = _; simp [c15, c23])]) rfl rfl
    · refine J_iload_n (i := 1) d_O_which_26 rfl rfl ?_
      refine J_iconst (v := nI 1) d_O_which_27 rfl ?_
      refine J_iload_n (i := 2) d_O_which_28 rfl rfl ?_
      refine N_ishl d_O_which_29 (by omega) ?_
      refine N_ior d_O_which_30 ?_
      refine N_nm (fun v31 hv31 => ?_)
      refine J_istore_n (i := 1) (L1 := [some (.ref 8), some (.int (nI v31)), some (.int (nI i))]) d_O_which_31 rfl (by decide) rfl ?_
      refine N_iinc (a := i) (c := 1) (L1 := [some (.ref 8), some (.int (nI v31)), some (.int (nI (i + 1)))]) d_O_which_32 rfl rfl (by decide) rfl ?_
      refine J_goto (tgt := 4) d_O_which_35 (by decide) ?_
      exact (ih (i + 1) (by omega)).eq (by rw [show itr (fun i q => if fwN sn un (st i) = 0 then q else q ||| 1 <<< i) 0 (i + 1) = v31 from itr_g hx (by show (if _ then _ else _) = _; simp [c15, c23, hv31])]) rfl rfl

theorem S_O_which {X : Mem} {m : Nat} {st rg : Nat → Nat} (hX : Ok X) (hS : CSt X m st rg) {sn un : Nat} (hW : CSn X sn un) : CM 2 m_O_which [.ref 8] X (rN (whN m st sn un) X) := by
  refine CM_of (L := [some (.ref 8), none, none]) 2 ok_O_which (fun _ => Nat.le_of_ble_eq_true rfl) rfl ?_
  refine J_iconst (v := nI 0) d_O_which_0 rfl ?_
  refine J_istore_n (i := 1) (L1 := [some (.ref 8), some (.int (nI 0)), none]) d_O_which_1 rfl (by decide) rfl ?_
  refine J_iconst (v := nI 0) d_O_which_2 rfl ?_
  refine J_istore_n (i := 2) (L1 := [some (.ref 8), some (.int (nI 0)), some (.int (nI 0))]) d_O_which_3 rfl (by decide) rfl ?_
  refine lp_O_which hX hS hW (by decide) ?_ m 0 (by omega)
  refine J_iload_n (i := 1) d_O_which_38 rfl rfl ?_
  refine M_ir d_O_which_39 rfl rfl ?_
  exact ⟨rfl, rfl⟩

theorem lp_R_which {d : Nat} {Q : Option Value → Mem → Prop} {X : Mem} {m : Nat} {st rg : Nat → Nat} (hX : Ok X) (hS : RSt X m st rg) {sn un : Nat} (hW : RSn X sn un) (hd : 3 ≤ d) (kx : JM d m_R_which Q 38 [some (.ref 244), some (.int (nI (itr (fun i q => if fwN sn un (st i) = 0 then q else q ||| 1 <<< i) 0 m))), some (.int (nI m))] [] X) : ∀ (n i : Nat), i + n = m → JM d m_R_which Q 4 [some (.ref 244), some (.int (nI (itr (fun i q => if fwN sn un (st i) = 0 then q else q ||| 1 <<< i) 0 i))), some (.int (nI i))] [] X := by
  have hm8 := hS.1
  intro n
  induction n with
  | zero =>
    intro i hi
    obtain rfl : m = i := by omega
    refine J_iload_n (i := 2) d_R_which_4 rfl rfl ?_
    refine J_aload_n (i := 0) d_R_which_5 rfl rfl ?_
    refine M_getR (b := 245) d_R_which_6 f_R_7 rfl rfl rfl ?_
    refine J_iconst (v := nI 0) d_R_which_9 rfl ?_
    refine N_iald (x := (nI m)) d_R_which_10 rfl (by omega) (ltL hX (a := 245) (n := 1217) (by decide) rfl (by omega)) hS.2.1 ?_
    refine N_icmp_ge (tgt := 38) d_R_which_11 (by decide) (by omega) (by omega) (fun c11 => ?_) (fun c11 => absurd c11 (by omega))
    exact kx
  | succ n ih =>
    intro i hi
    generalize hx : (itr (fun i q => if fwN sn un (st i) = 0 then q else q ||| 1 <<< i) 0 i) = x
    have hfw := fw_lt (sn := sn) (un := un) (s := st i)
    refine J_iload_n (i := 2) d_R_which_4 rfl rfl ?_
    refine J_aload_n (i := 0) d_R_which_5 rfl rfl ?_
    refine M_getR (b := 245) d_R_which_6 f_R_7 rfl rfl rfl ?_
    refine J_iconst (v := nI 0) d_R_which_9 rfl ?_
    refine N_iald (x := (nI m)) d_R_which_10 rfl (by omega) (ltL hX (a := 245) (n := 1217) (by decide) rfl (by omega)) hS.2.1 ?_
    refine N_icmp_ge (tgt := 38) d_R_which_11 (by decide) (by omega) (by omega) (fun c11 => absurd c11 (by omega)) (fun c11 => ?_)
    refine J_iload_n (i := 1) d_R_which_14 rfl rfl ?_
    refine J_aload_n (i := 0) d_R_which_15 rfl rfl ?_
    refine J_iload_n (i := 2) d_R_which_16 rfl rfl ?_
    refine CV_N (av := [.int (nI i)]) d_R_which_17 s_R_486 (M_rcv rfl (by decide) rfl) (S_R_waysOf hX hS hW (by omega)) (by omega) rfl rfl (Nat.le_of_ble_eq_true rfl) ?_
    refine N_if_eq (tgt := 29) d_R_which_20 (by decide) (by omega) (fun c20 => ?_) (fun c20 => ?_)
    · refine J_iconst (v := nI 0) d_R_which_29 rfl ?_
      refine N_ior d_R_which_30 ?_
      refine J_istore_n (i := 1) (L1 := [some (.ref 244), some (.int (nI (x ||| 0))), some (.int (nI i))]) d_R_which_31 rfl (by decide) rfl ?_
      refine N_iinc (a := i) (c := 1) (L1 := [some (.ref 244), some (.int (nI (x ||| 0))), some (.int (nI (i + 1)))]) d_R_which_32 rfl rfl (by decide) rfl ?_
      refine J_goto (tgt := 4) d_R_which_35 (by decide) ?_
      exact (ih (i + 1) (by omega)).eq (by rw [show itr (fun i q => if fwN sn un (st i) = 0 then q else q ||| 1 <<< i) 0 (i + 1) = (x ||| 0) from itr_g hx (by show (if _ then _ else _) = _; simp [c11, c20])]) rfl rfl
    · refine J_iconst (v := nI 1) d_R_which_23 rfl ?_
      refine J_iload_n (i := 2) d_R_which_24 rfl rfl ?_
      refine N_ishl d_R_which_25 (by omega) ?_
      refine J_goto (tgt := 30) d_R_which_26 (by decide) ?_
      refine N_ior d_R_which_30 ?_
      refine N_nm (fun v31 hv31 => ?_)
      refine J_istore_n (i := 1) (L1 := [some (.ref 244), some (.int (nI v31)), some (.int (nI i))]) d_R_which_31 rfl (by decide) rfl ?_
      refine N_iinc (a := i) (c := 1) (L1 := [some (.ref 244), some (.int (nI v31)), some (.int (nI (i + 1)))]) d_R_which_32 rfl rfl (by decide) rfl ?_
      refine J_goto (tgt := 4) d_R_which_35 (by decide) ?_
      exact (ih (i + 1) (by omega)).eq (by rw [show itr (fun i q => if fwN sn un (st i) = 0 then q else q ||| 1 <<< i) 0 (i + 1) = v31 from itr_g hx (by show (if _ then _ else _) = _; simp [c11, c20, hv31])]) rfl rfl

theorem S_R_which {X : Mem} {m : Nat} {st rg : Nat → Nat} (hX : Ok X) (hS : RSt X m st rg) {sn un : Nat} (hW : RSn X sn un) : CM 3 m_R_which [.ref 244] X (rN (whN m st sn un) X) := by
  refine CM_of (L := [some (.ref 244), none, none]) 2 ok_R_which (fun _ => Nat.le_of_ble_eq_true rfl) rfl ?_
  refine J_iconst (v := nI 0) d_R_which_0 rfl ?_
  refine J_istore_n (i := 1) (L1 := [some (.ref 244), some (.int (nI 0)), none]) d_R_which_1 rfl (by decide) rfl ?_
  refine J_iconst (v := nI 0) d_R_which_2 rfl ?_
  refine J_istore_n (i := 2) (L1 := [some (.ref 244), some (.int (nI 0)), some (.int (nI 0))]) d_R_which_3 rfl (by decide) rfl ?_
  refine lp_R_which hX hS hW (by decide) ?_ m 0 (by omega)
  refine J_iload_n (i := 1) d_R_which_38 rfl rfl ?_
  refine M_ir d_R_which_39 rfl rfl ?_
  exact ⟨rfl, rfl⟩

