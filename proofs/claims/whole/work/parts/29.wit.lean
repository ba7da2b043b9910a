/-- what was told: seen sn, unseen un -/
def CSn (X : Mem) (sn un : Nat) : Prop := X.1 18 5 = nI sn ∧ X.1 18 6 = nI un ∧ sn < 1048576 ∧ un < 1048576
def RSn (X : Mem) (sn un : Nat) : Prop := (X.2.1 245).getD 26 0 = nI sn ∧ (X.2.1 245).getD 27 0 = nI un ∧ sn < 1048576 ∧ un < 1048576
def fitB (sn un s : Nat) : Bool := andn sn s == 0 && (un &&& s) == 0
def fwN (sn un s : Nat) : Nat := itr (fun w q => if fitB sn un (mvs w s) then q ||| 1 <<< w else q) 0 8
def waysF (m : Nat) (st : Nat → Nat) (sn un : Nat) (i : Int32) : Int32 := if mkB m i then nI (fwN sn un (st (tn i))) else (-1)
def whN (m : Nat) (st : Nat → Nat) (sn un : Nat) : Nat := itr (fun i q => if fwN sn un (st i) = 0 then q else q ||| 1 <<< i) 0 m
theorem or_if {b : Prop} [Decidable b] {q v : Nat} : (q ||| if b then v else 0) = if b then q ||| v else q := by
  split
  · rfl
  · exact Nat.or_zero q
theorem S_H_fits {X : Mem} {sn un : Nat} (hW : CSn X sn un) {s : Nat} (hs : s < 1048576) : CM 0 m_H_fits [.ref 18, .int (nI s)] X (rB (fitB sn un s) X) := by
  have h1 := hW.2.2.1
  have h2 := hW.2.2.2
  refine CM_of (L := [some (.ref 18), some (.int (nI s))]) 0 ok_H_fits (fun _ => Nat.le_of_ble_eq_true rfl) rfl ?_
  refine J_aload_n (i := 0) d_H_fits_0 rfl rfl ?_
  refine M_get (x := (nI sn)) d_H_fits_1 f_H_52 rfl rfl hW.1 ?_
  refine J_iload_n (i := 1) d_H_fits_4 rfl rfl ?_
  refine J_iconst (v := (-1)) d_H_fits_5 rfl ?_
  refine J_ixor d_H_fits_6 ?_
  refine J_iand d_H_fits_7 ?_
  refine I_ton (n := andn sn s) (nI_andn sn s) ?_
  refine N_if_ne (tgt := 24) d_H_fits_8 (by decide) (by first | omega | exact Nat.lt_trans (andn_lt h1) (by decide) | exact Nat.lt_trans (and_lt h2) (by decide)) (fun c8 => ?_) (fun c8 => ?_)
  · refine J_iconst (v := nI 0) d_H_fits_24 rfl ?_
    refine J.eq (st1 := [.int (b2i false)]) ?_ rfl rfl rfl
    refine M_ir d_H_fits_25 rfl b2i_nar ?_
    exact ⟨by rw [show fitB sn un s = false from by rw [fitB, show (andn sn s == 0) = false from beq_eq_false_iff_ne.mpr c8]; rfl] <;> rfl, rfl⟩
  · refine J_aload_n (i := 0) d_H_fits_11 rfl rfl ?_
    refine M_get (x := (nI un)) d_H_fits_12 f_H_55 rfl rfl hW.2.1 ?_
    refine J_iload_n (i := 1) d_H_fits_15 rfl rfl ?_
    refine N_iand d_H_fits_16 ?_
    refine N_if_ne (tgt := 24) d_H_fits_17 (by decide) (by first | omega | exact Nat.lt_trans (andn_lt h1) (by decide) | exact Nat.lt_trans (and_lt h2) (by decide)) (fun c17 => ?_) (fun c17 => ?_)
    · refine J_iconst (v := nI 0) d_H_fits_24 rfl ?_
      refine J.eq (st1 := [.int (b2i false)]) ?_ rfl rfl rfl
      refine M_ir d_H_fits_25 rfl b2i_nar ?_
      first | exact ⟨by rw [show fitB sn un s = true from by rw [fitB, c8, c17]; rfl] <;> rfl, rfl⟩ | exact ⟨by rw [show fitB sn un s = false from by rw [fitB, show ((un &&& s) == 0) = false from beq_eq_false_iff_ne.mpr c17, Bool.and_false]] <;> rfl, rfl⟩
    · refine J_iconst (v := nI 1) d_H_fits_20 rfl ?_
      refine J_goto (tgt := 25) d_H_fits_21 (by decide) ?_
      refine J.eq (st1 := [.int (b2i true)]) ?_ rfl rfl rfl
      refine M_ir d_H_fits_25 rfl b2i_nar ?_
      first | exact ⟨by rw [show fitB sn un s = true from by rw [fitB, c8, c17]; rfl] <;> rfl, rfl⟩ | exact ⟨by rw [show fitB sn un s = false from by rw [fitB, show ((un &&& s) == 0) = false from beq_eq_false_iff_ne.mpr c17, Bool.and_false]] <;> rfl, rfl⟩

theorem S_R_isSeen {X : Mem} (hX : Ok X) {sn un : Nat} (hW : RSn X sn un) {s : Nat} (hs : s < 1048576) : CM 0 m_R_isSeen [.ref 244, .int (nI s)] X (rB (fitB sn un s) X) := by
  have h1 := hW.2.2.1
  have h2 := hW.2.2.2
  refine CM_of (L := [some (.ref 244), some (.int (nI s))]) 0 ok_R_isSeen (fun _ => Nat.le_of_ble_eq_true rfl) rfl ?_
  refine J_aload_n (i := 0) d_R_isSeen_0 rfl rfl ?_
  refine M_getR (b := 245) d_R_isSeen_1 f_R_7 rfl rfl rfl ?_
  refine J_bipush (v := nI 26) d_R_isSeen_4 rfl ?_
  refine N_iald (x := (nI sn)) d_R_isSeen_6 rfl (by first | omega | exact Nat.lt_trans (andn_lt h1) (by decide) | exact Nat.lt_trans (and_lt h2) (by decide)) (ltL hX (a := 245) (n := 1217) (by decide) rfl (by first | omega | exact Nat.lt_trans (andn_lt h1) (by decide) | exact Nat.lt_trans (and_lt h2) (by decide))) hW.1 ?_
  refine J_iload_n (i := 1) d_R_isSeen_7 rfl rfl ?_
  refine J_iconst (v := (-1)) d_R_isSeen_8 rfl ?_
  refine J_ixor d_R_isSeen_9 ?_
  refine J_iand d_R_isSeen_10 ?_
  refine I_ton (n := andn sn s) (nI_andn sn s) ?_
  refine N_if_ne (tgt := 30) d_R_isSeen_11 (by decide) (by first | omega | exact Nat.lt_trans (andn_lt h1) (by decide) | exact Nat.lt_trans (and_lt h2) (by decide)) (fun c11 => ?_) (fun c11 => ?_)
  · refine J_iconst (v := nI 0) d_R_isSeen_30 rfl ?_
    refine J.eq (st1 := [.int (b2i false)]) ?_ rfl rfl rfl
    refine M_ir d_R_isSeen_31 rfl b2i_nar ?_
    exact ⟨by rw [show fitB sn un s = false from by rw [fitB, show (andn sn s == 0) = false from beq_eq_false_iff_ne.mpr c11]; rfl] <;> rfl, rfl⟩
  · refine J_aload_n (i := 0) d_R_isSeen_14 rfl rfl ?_
    refine M_getR (b := 245) d_R_isSeen_15 f_R_7 rfl rfl rfl ?_
    refine J_bipush (v := nI 27) d_R_isSeen_18 rfl ?_
    refine N_iald (x := (nI un)) d_R_isSeen_20 rfl (by first | omega | exact Nat.lt_trans (andn_lt h1) (by decide) | exact Nat.lt_trans (and_lt h2) (by decide)) (ltL hX (a := 245) (n := 1217) (by decide) rfl (by first | omega | exact Nat.lt_trans (andn_lt h1) (by decide) | exact Nat.lt_trans (and_lt h2) (by decide))) hW.2.1 ?_
    refine J_iload_n (i := 1) d_R_isSeen_21 rfl rfl ?_
    refine N_iand d_R_isSeen_22 ?_
    refine N_if_ne (tgt := 30) d_R_isSeen_23 (by decide) (by first | omega | exact Nat.lt_trans (andn_lt h1) (by decide) | exact Nat.lt_trans (and_lt h2) (by decide)) (fun c23 => ?_) (fun c23 => ?_)
    · refine J_iconst (v := nI 0) d_R_isSeen_30 rfl ?_
      refine J.eq (st1 := [.int (b2i false)]) ?_ rfl rfl rfl
      refine M_ir d_R_isSeen_31 rfl b2i_nar ?_
      first | exact ⟨by rw [show fitB sn un s = true from by rw [fitB, c11, c23]; rfl] <;> rfl, rfl⟩ | exact ⟨by rw [show fitB sn un s = false from by rw [fitB, show ((un &&& s) == 0) = false from beq_eq_false_iff_ne.mpr c23, Bool.and_false]] <;> rfl, rfl⟩
    · refine J_iconst (v := nI 1) d_R_isSeen_26 rfl ?_
      refine J_goto (tgt := 31) d_R_isSeen_27 (by decide) ?_
      refine J.eq (st1 := [.int (b2i true)]) ?_ rfl rfl rfl
      refine M_ir d_R_isSeen_31 rfl b2i_nar ?_
      first | exact ⟨by rw [show fitB sn un s = true from by rw [fitB, c11, c23]; rfl] <;> rfl, rfl⟩ | exact ⟨by rw [show fitB sn un s = false from by rw [fitB, show ((un &&& s) == 0) = false from beq_eq_false_iff_ne.mpr c23, Bool.and_false]] <;> rfl, rfl⟩

theorem lp_O_fittingWays {d : Nat} {Q : Option Value → Mem → Prop} {X : Mem} {m : Nat} {st rg : Nat → Nat} (hX : Ok X) (hS : CSt X m st rg) {sn un : Nat} (hW : CSn X sn un) {i : Nat} (hi : i < m) (hd : 1 ≤ d) (kx : JM d m_O_fittingWays Q 48 [some (.ref 8), some (.int (nI i)), some (.int (nI (itr (fun w q => if fitB sn un (mvs w (st i)) then q ||| 1 <<< w else q) 0 8))), some (.int (nI 8))] [] X) : ∀ (n w : Nat), w + n = 8 → JM d m_O_fittingWays Q 4 [some (.ref 8), some (.int (nI i)), some (.int (nI (itr (fun w q => if fitB sn un (mvs w (st i)) then q ||| 1 <<< w else q) 0 w))), some (.int (nI w))] [] X := by
  have hm8 := hS.1
  have hsti := (hS.2.2.1 i (by omega)).2
  intro n
  induction n with
  | zero =>
    intro w hi
    obtain rfl : w = 8 := by omega
    refine J_iload_n (i := 3) d_O_fittingWays_4 rfl rfl ?_
    refine J_bipush (v := nI 8) d_O_fittingWays_5 rfl ?_
    refine N_icmp_ge (tgt := 48) d_O_fittingWays_7 (by decide) (by omega) (by omega) (fun c7 => ?_) (fun c7 => absurd c7 (by omega))
    exact kx
  | succ n ih =>
    intro w hi
    generalize hx : (itr (fun w q => if fitB sn un (mvs w (st i)) then q ||| 1 <<< w else q) 0 w) = x
    refine J_iload_n (i := 3) d_O_fittingWays_4 rfl rfl ?_
    refine J_bipush (v := nI 8) d_O_fittingWays_5 rfl ?_
    refine N_icmp_ge (tgt := 48) d_O_fittingWays_7 (by decide) (by omega) (by omega) (fun c7 => absurd c7 (by omega)) (fun c7 => ?_)
    refine J_aload_n (i := 0) d_O_fittingWays_10 rfl rfl ?_
    refine M_getR (b := 18) d_O_fittingWays_11 f_O_48 rfl rfl rfl ?_
    refine J_aload_n (i := 0) d_O_fittingWays_14 rfl rfl ?_
    refine M_getR (b := 18) d_O_fittingWays_15 f_O_48 rfl rfl rfl ?_
    refine M_getR (b := 19) d_O_fittingWays_18 f_O_110 rfl rfl rfl ?_
    refine M_getR (b := 20) d_O_fittingWays_21 f_O_169 rfl rfl rfl ?_
    refine J_iload_n (i := 1) d_O_fittingWays_24 rfl rfl ?_
    refine N_iald (x := (nI (st i))) d_O_fittingWays_25 rfl (by omega) (ltL hX (a := 20) (n := 8) (by decide) rfl (by omega)) (hS.2.2.1 i (by omega)).1 ?_
    refine J_iload_n (i := 3) d_O_fittingWays_26 rfl rfl ?_
    refine CS_N (av := [.int (nI (st i)), .int (nI w)]) d_O_fittingWays_27 s_O_230 (S_K_moved hX (by omega) (by omega)) (by omega) rfl rfl (Nat.le_of_ble_eq_true rfl) ?_
    refine CV_B (av := [.int (nI (mvs w (st i)))]) d_O_fittingWays_30 s_O_359 (M_rcv rfl (by decide) rfl) (S_H_fits hW mvs_lt) (by omega) rfl rfl (Nat.le_of_ble_eq_true rfl) ?_
    refine B_if_eq (tgt := 42) d_O_fittingWays_33 (by decide) (fun c33 => ?_) (fun c33 => ?_)
    · refine N_iinc (a := w) (c := 1) (L1 := [some (.ref 8), some (.int (nI i)), some (.int (nI x)), some (.int (nI (w + 1)))]) d_O_fittingWays_42 rfl rfl (by decide) rfl ?_
      refine J_goto (tgt := 4) d_O_fittingWays_45 (by decide) ?_
      exact (ih (w + 1) (by omega)).eq (by rw [show itr (fun w q => if fitB sn un (mvs w (st i)) then q ||| 1 <<< w else q) 0 (w + 1) = x from itr_g hx (by show (if _ then _ else _) = _; simp [c7, c33])]) rfl rfl
    · refine J_iload_n (i := 2) d_O_fittingWays_36 rfl rfl ?_
      refine J_iconst (v := nI 1) d_O_fittingWays_37 rfl ?_
      refine J_iload_n (i := 3) d_O_fittingWays_38 rfl rfl ?_
      refine N_ishl d_O_fittingWays_39 (by omega) ?_
      refine N_ior d_O_fittingWays_40 ?_
      refine N_nm (fun v41 hv41 => ?_)
      refine J_istore_n (i := 2) (L1 := [some (.ref 8), some (.int (nI i)), some (.int (nI v41)), some (.int (nI w))]) d_O_fittingWays_41 rfl (by decide) rfl ?_
      refine N_iinc (a := w) (c := 1) (L1 := [some (.ref 8), some (.int (nI i)), some (.int (nI v41)), some (.int (nI (w + 1)))]) d_O_fittingWays_42 rfl rfl (by decide) rfl ?_
      refine J_goto (tgt := 4) d_O_fittingWays_45 (by decide) ?_
      exact (ih (w + 1) (by omega)).eq (by rw [show itr (fun w q => if fitB sn un (mvs w (st i)) then q ||| 1 <<< w else q) 0 (w + 1) = v41 from itr_g hx (by show (if _ then _ else _) = _; simp [c7, c33, hv41])]) rfl rfl

theorem S_O_fittingWays {X : Mem} {m : Nat} {st rg : Nat → Nat} (hX : Ok X) (hS : CSt X m st rg) {sn un : Nat} (hW : CSn X sn un) {i : Nat} (hi : i < m) : CM 1 m_O_fittingWays [.ref 8, .int (nI i)] X (rN (fwN sn un (st i)) X) := by
  refine CM_of (L := [some (.ref 8), some (.int (nI i)), none, none]) 2 ok_O_fittingWays (fun _ => Nat.le_of_ble_eq_true rfl) rfl ?_
  refine J_iconst (v := nI 0) d_O_fittingWays_0 rfl ?_
  refine J_istore_n (i := 2) (L1 := [some (.ref 8), some (.int (nI i)), some (.int (nI 0)), none]) d_O_fittingWays_1 rfl (by decide) rfl ?_
  refine J_iconst (v := nI 0) d_O_fittingWays_2 rfl ?_
  refine J_istore_n (i := 3) (L1 := [some (.ref 8), some (.int (nI i)), some (.int (nI 0)), some (.int (nI 0))]) d_O_fittingWays_3 rfl (by decide) rfl ?_
  refine lp_O_fittingWays hX hS hW hi (by decide) ?_ 8 0 (by omega)
  refine J_iload_n (i := 2) d_O_fittingWays_48 rfl rfl ?_
  refine M_ir d_O_fittingWays_49 rfl rfl ?_
  exact ⟨rfl, rfl⟩

theorem lp_R_waysOf {d : Nat} {Q : Option Value → Mem → Prop} {X : Mem} {m : Nat} {st rg : Nat → Nat} (hX : Ok X) (hS : RSt X m st rg) {sn un : Nat} (hW : RSn X sn un) {i : Nat} (hi : i < m) (hd : 2 ≤ d) (kx : JM d m_R_waysOf Q 47 [some (.ref 244), some (.int (nI i)), some (.int (nI (itr (fun w q => if fitB sn un (mvs w (st i)) then q ||| 1 <<< w else q) 0 8))), some (.int (nI 8))] [] X) : ∀ (n w : Nat), w + n = 8 → JM d m_R_waysOf Q 4 [some (.ref 244), some (.int (nI i)), some (.int (nI (itr (fun w q => if fitB sn un (mvs w (st i)) then q ||| 1 <<< w else q) 0 w))), some (.int (nI w))] [] X := by
  have hm8 := hS.1
  have hsti := (hS.2.2.1 i (by omega)).2
  intro n
  induction n with
  | zero =>
    intro w hi
    obtain rfl : w = 8 := by omega
    refine J_iload_n (i := 3) d_R_waysOf_4 rfl rfl ?_
    refine J_bipush (v := nI 8) d_R_waysOf_5 rfl ?_
    refine N_icmp_ge (tgt := 47) d_R_waysOf_7 (by decide) (by omega) (by omega) (fun c7 => ?_) (fun c7 => absurd c7 (by omega))
    exact kx
  | succ n ih =>
    intro w hi
    generalize hx : (itr (fun w q => if fitB sn un (mvs w (st i)) then q ||| 1 <<< w else q) 0 w) = x
    refine J_iload_n (i := 3) d_R_waysOf_4 rfl rfl ?_
    refine J_bipush (v := nI 8) d_R_waysOf_5 rfl ?_
    refine N_icmp_ge (tgt := 47) d_R_waysOf_7 (by decide) (by omega) (by omega) (fun c7 => absurd c7 (by omega)) (fun c7 => ?_)
    refine J_iload_n (i := 2) d_R_waysOf_10 rfl rfl ?_
    refine J_aload_n (i := 0) d_R_waysOf_11 rfl rfl ?_
    refine J_aload_n (i := 0) d_R_waysOf_12 rfl rfl ?_
    refine J_aload_n (i := 0) d_R_waysOf_13 rfl rfl ?_
    refine M_getR (b := 245) d_R_waysOf_14 f_R_7 rfl rfl rfl ?_
    refine J_bipush (v := nI 10) d_R_waysOf_17 rfl ?_
    refine J_iload_n (i := 1) d_R_waysOf_19 rfl rfl ?_
    refine N_iadd d_R_waysOf_20 ?_
    refine N_iald (x := (nI (st i))) d_R_waysOf_21 rfl (by omega) (ltL hX (a := 245) (n := 1217) (by decide) rfl (by omega)) (hS.2.2.1 i (by omega)).1 ?_
    refine J_iload_n (i := 3) d_R_waysOf_22 rfl rfl ?_
    refine CV_N (av := [.int (nI (st i)), .int (nI w)]) d_R_waysOf_23 s_R_105 (M_rcv rfl (by decide) rfl) (S_R_byWay hX (by omega) (by omega)) (by omega) rfl rfl (Nat.le_of_ble_eq_true rfl) ?_
    refine CV_B (av := [.int (nI (mvs w (st i)))]) d_R_waysOf_26 s_R_483 (M_rcv rfl (by decide) rfl) (S_R_isSeen hX hW mvs_lt) (by omega) rfl rfl (Nat.le_of_ble_eq_true rfl) ?_
    refine B_if_eq (tgt := 38) d_R_waysOf_29 (by decide) (fun c29 => ?_) (fun c29 => ?_)
    · refine J_iconst (v := nI 0) d_R_waysOf_38 rfl ?_
      refine N_ior d_R_waysOf_39 ?_
      refine J_istore_n (i := 2) (L1 := [some (.ref 244), some (.int (nI i)), some (.int (nI (x ||| 0))), some (.int (nI w))]) d_R_waysOf_40 rfl (by decide) rfl ?_
      refine N_iinc (a := w) (c := 1) (L1 := [some (.ref 244), some (.int (nI i)), some (.int (nI (x ||| 0))), some (.int (nI (w + 1)))]) d_R_waysOf_41 rfl rfl (by decide) rfl ?_
      refine J_goto (tgt := 4) d_R_waysOf_44 (by decide) ?_
      exact (ih (w + 1) (by omega)).eq (by rw [show itr (fun w q => if fitB sn un (mvs w (st i)) then q ||| 1 <<< w else q) 0 (w + 1) = (x ||| 0) from itr_g hx (by show (if _ then _ else _) = _; simp [c7, c29])]) rfl rfl
    · refine J_iconst (v := nI 1) d_R_waysOf_32 rfl ?_
      refine J_iload_n (i := 3) d_R_waysOf_33 rfl rfl ?_
      refine N_ishl d_R_waysOf_34 (by omega) ?_
      refine J_goto (tgt := 39) d_R_waysOf_35 (by decide) ?_
      refine N_ior d_R_waysOf_39 ?_
      refine N_nm (fun v40 hv40 => ?_)
      refine J_istore_n (i := 2) (L1 := [some (.ref 244), some (.int (nI i)), some (.int (nI v40)), some (.int (nI w))]) d_R_waysOf_40 rfl (by decide) rfl ?_
      refine N_iinc (a := w) (c := 1) (L1 := [some (.ref 244), some (.int (nI i)), some (.int (nI v40)), some (.int (nI (w + 1)))]) d_R_waysOf_41 rfl rfl (by decide) rfl ?_
      refine J_goto (tgt := 4) d_R_waysOf_44 (by decide) ?_
      exact (ih (w + 1) (by omega)).eq (by rw [show itr (fun w q => if fitB sn un (mvs w (st i)) then q ||| 1 <<< w else q) 0 (w + 1) = v40 from itr_g hx (by show (if _ then _ else _) = _; simp [c7, c29, hv40])]) rfl rfl

theorem S_R_waysOf {X : Mem} {m : Nat} {st rg : Nat → Nat} (hX : Ok X) (hS : RSt X m st rg) {sn un : Nat} (hW : RSn X sn un) {i : Nat} (hi : i < m) : CM 2 m_R_waysOf [.ref 244, .int (nI i)] X (rN (fwN sn un (st i)) X) := by
  refine CM_of (L := [some (.ref 244), some (.int (nI i)), none, none]) 2 ok_R_waysOf (fun _ => Nat.le_of_ble_eq_true rfl) rfl ?_
  refine J_iconst (v := nI 0) d_R_waysOf_0 rfl ?_
  refine J_istore_n (i := 2) (L1 := [some (.ref 244), some (.int (nI i)), some (.int (nI 0)), none]) d_R_waysOf_1 rfl (by decide) rfl ?_
  refine J_iconst (v := nI 0) d_R_waysOf_2 rfl ?_
  refine J_istore_n (i := 3) (L1 := [some (.ref 244), some (.int (nI i)), some (.int (nI 0)), some (.int (nI 0))]) d_R_waysOf_3 rfl (by decide) rfl ?_
  refine lp_R_waysOf hX hS hW hi (by decide) ?_ 8 0 (by omega)
  refine J_iload_n (i := 2) d_R_waysOf_47 rfl rfl ?_
  refine M_ir d_R_waysOf_48 rfl rfl ?_
  exact ⟨rfl, rfl⟩

