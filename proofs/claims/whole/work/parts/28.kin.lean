def kdN (v : Nat) : Int64 := (itr (fun w s => s + keF w 20 v) 0 8) / 8
def kindsF (v : Int32) : Int64 := if inR v 20 then kdN (tn v) else (-1)
def kdX (a : Nat) (v : Int32) (X : Mem) : Mem := if inR v 20 then pL X a (ofF 21 (keF 7 20)) else X
theorem lp_O_kinds {X : Mem} {v : Nat} (hX : Ok X) (hv : v ≤ 20) {Q : Option Value → Mem → Prop} (kq : Q (some (.long (kdN v))) (pL X 223 (ofF 21 (keF 7 20)))) : ∀ (f k : Nat) (l : List Int64), k + f = 8 → l.length = 21 → (k = 8 → l = ofF 21 (keF 7 20)) → JM 1 m_O_kinds Q 19 [some (.ref 8), some (.int (nI v)), some (.long (itr (fun w s => s + keF w 20 v) 0 k)), none, some (.int (nI k))] [] (pL X 223 l) := by
  intro f
  induction f with
  | zero =>
    intro k l hk hl e
    obtain rfl : 8 = k := by omega
    have e := e rfl
    subst e
    refine J_iload d_O_kinds_19 rfl ?_
    refine J_bipush (v := nI 8) d_O_kinds_21 rfl ?_
    refine N_icmp_ge (tgt := 45) d_O_kinds_23 (by decide) (by omega) (by omega) (fun c23 => ?_) (fun c23 => absurd c23 (by omega))
    refine J_lload_n (i := 2) d_O_kinds_45 rfl rfl ?_
    refine J_ldc2 d_O_kinds_46 w_O_289 ?_
    refine J_ldiv d_O_kinds_49 (by decide) ?_
    refine M_lr d_O_kinds_50 rfl ?_
    exact kq
  | succ f ih =>
    intro k l hk hl e
    have hk8 : k < 8 := by omega
    refine J_iload d_O_kinds_19 rfl ?_
    refine J_bipush (v := nI 8) d_O_kinds_21 rfl ?_
    refine N_icmp_ge (tgt := 45) d_O_kinds_23 (by decide) (by omega) (by omega) (fun c23 => absurd c23 (by omega)) (fun c23 => ?_)
    refine J_lload_n (i := 2) d_O_kinds_26 rfl rfl ?_
    refine J_iload d_O_kinds_27 rfl ?_
    refine J_iload_n (i := 1) d_O_kinds_29 rfl rfl ?_
    refine J_aload_n (i := 0) d_O_kinds_30 rfl rfl ?_
    refine M_getR (b := 223) d_O_kinds_31 f_O_68 rfl rfl rfl ?_
    refine CS_L (av := [.int (nI k), .int (nI v), .ref 223]) d_O_kinds_34 s_O_285 (S_K_countKeptBy (okL hX hl) hk8 (by omega)) (by decide) rfl rfl (Nat.le_of_ble_eq_true rfl) ?_
    refine J_ladd d_O_kinds_37 ?_
    refine J_lstore_n (i := 2) (L1 := [some (.ref 8), some (.int (nI v)), some (.long ((itr (fun w s => s + keF w 20 v) 0 k) + (keF k 20 v))), none, some (.int (nI k))]) d_O_kinds_38 rfl (by decide) rfl ?_
    refine N_iinc (a := k) (c := 1) (L1 := [some (.ref 8), some (.int (nI v)), some (.long ((itr (fun w s => s + keF w 20 v) 0 k) + (keF k 20 v))), none, some (.int (nI (k + 1)))]) d_O_kinds_39 rfl rfl (by decide) rfl ?_
    refine J_goto (tgt := 19) d_O_kinds_42 (by decide) ?_
    exact (ih (k + 1) (ofF 21 (keF k 20)) (by omega) ofF_len (fun q => by rw [show k = 7 by omega])).eq rfl rfl (by rw [pL_pL])
theorem S_O_kinds {X : Mem} {v : Int32} (hX : Ok X) : CM 1 m_O_kinds [.ref 8, .int v] X (rL (kindsF v) (kdX 223 v X)) := by
  refine CM_of (L := [some (.ref 8), some (.int v), none, none, none]) 3 ok_O_kinds (fun _ => Nat.le_of_ble_eq_true rfl) rfl ?_
  refine J_iload_n (i := 1) d_O_kinds_0 rfl rfl ?_
  refine J_if_lt (tgt := 10) d_O_kinds_1 (by decide) (fun c1 => ?_) (fun c1 => ?_)
  · refine J_ldc2 d_O_kinds_10 w_O_283 ?_
    refine M_lr d_O_kinds_13 rfl ?_
    have hF : inR v 20 = false := inR_no1 c1
    exact ⟨by rw [kindsF, hF] <;> rfl, by rw [kdX, hF] <;> rfl⟩
  · refine J_iload_n (i := 1) d_O_kinds_4 rfl rfl ?_
    refine J_bipush (v := nI 20) d_O_kinds_5 rfl ?_
    refine J_icmp_le (tgt := 14) d_O_kinds_7 (by decide) (fun c7 => ?_) (fun c7 => ?_)
    · have cR := inR_le (n := 20) (by decide) c1 c7
      obtain ⟨v_, hv_, rfl⟩ := inR_n (n := 20) cR (by decide)
      refine J_lconst (v := 0) d_O_kinds_14 rfl ?_
      refine J_lstore_n (i := 2) (L1 := [some (.ref 8), some (.int (nI v_)), some (.long 0), none, none]) d_O_kinds_15 rfl (by decide) rfl ?_
      refine J_iconst (v := nI 0) d_O_kinds_16 rfl ?_
      refine J_istore (L1 := [some (.ref 8), some (.int (nI v_)), some (.long 0), none, some (.int (nI 0))]) d_O_kinds_17 (by decide) rfl ?_
      have hF : inR (nI v_) 20 = true := cR
      exact (lp_O_kinds hX (by omega) ⟨by rw [kindsF, hF, if_pos rfl, tn_nI (by omega)], by rw [kdX, hF, if_pos rfl]⟩ 8 0 _ (by omega) (by rw [hX.2.1 223]; rfl) (fun q => by omega)).eq rfl rfl (congrArg hm pL_eta.symm)
    · refine J_ldc2 d_O_kinds_10 w_O_283 ?_
      refine M_lr d_O_kinds_13 rfl ?_
      have hF : inR v 20 = false := inR_gt (by decide) c1 c7
      exact ⟨by rw [kindsF, hF] <;> rfl, by rw [kdX, hF] <;> rfl⟩

theorem lp_R_kinds {X : Mem} {v : Nat} (hX : Ok X) (hv : v ≤ 20) {Q : Option Value → Mem → Prop} (kq : Q (some (.long (kdN v))) (pL X 260 (ofF 21 (keF 7 20)))) : ∀ (f k : Nat) (l : List Int64), k + f = 8 → l.length = 21 → (k = 8 → l = ofF 21 (keF 7 20)) → JM 2 m_R_kinds Q 19 [some (.ref 244), some (.int (nI v)), some (.long (itr (fun w s => s + keF w 20 v) 0 k)), none, some (.int (nI k))] [] (pL X 260 l) := by
  intro f
  induction f with
  | zero =>
    intro k l hk hl e
    obtain rfl : 8 = k := by omega
    have e := e rfl
    subst e
    refine J_iload d_R_kinds_19 rfl ?_
    refine J_bipush (v := nI 8) d_R_kinds_21 rfl ?_
    refine N_icmp_ge (tgt := 47) d_R_kinds_23 (by decide) (by omega) (by omega) (fun c23 => ?_) (fun c23 => absurd c23 (by omega))
    refine J_lload_n (i := 2) d_R_kinds_47 rfl rfl ?_
    refine J_ldc2 d_R_kinds_48 w_R_481 ?_
    refine J_ldiv d_R_kinds_51 (by decide) ?_
    refine M_lr d_R_kinds_52 rfl ?_
    exact kq
  | succ f ih =>
    intro k l hk hl e
    have hk8 : k < 8 := by omega
    refine J_iload d_R_kinds_19 rfl ?_
    refine J_bipush (v := nI 8) d_R_kinds_21 rfl ?_
    refine N_icmp_ge (tgt := 47) d_R_kinds_23 (by decide) (by omega) (by omega) (fun c23 => absurd c23 (by omega)) (fun c23 => ?_)
    refine J_aload_n (i := 0) d_R_kinds_26 rfl rfl ?_
    refine J_iload d_R_kinds_27 rfl ?_
    refine CV_V (av := [.int (nI k)]) d_R_kinds_29 s_R_478 (M_rcv rfl (by decide) rfl) (S_R_laySets (okL hX hl) hk8) (by decide) rfl rfl (Nat.le_of_ble_eq_true rfl) ?_
    refine J_lload_n (i := 2) d_R_kinds_32 rfl rfl ?_
    refine J_aload_n (i := 0) d_R_kinds_33 rfl rfl ?_
    refine M_getR (b := 260) d_R_kinds_34 f_R_68 rfl rfl rfl ?_
    refine J_iload_n (i := 1) d_R_kinds_37 rfl rfl ?_
    refine N_lald (x := (keF k 20 v)) d_R_kinds_38 rfl (by omega) (by rw [pL_at, ofF_len]; omega) (by rw [pL_at, ofF_get (by omega)]) ?_
    refine J_ladd d_R_kinds_39 ?_
    refine J_lstore_n (i := 2) (L1 := [some (.ref 244), some (.int (nI v)), some (.long ((itr (fun w s => s + keF w 20 v) 0 k) + (keF k 20 v))), none, some (.int (nI k))]) d_R_kinds_40 rfl (by decide) rfl ?_
    refine N_iinc (a := k) (c := 1) (L1 := [some (.ref 244), some (.int (nI v)), some (.long ((itr (fun w s => s + keF w 20 v) 0 k) + (keF k 20 v))), none, some (.int (nI (k + 1)))]) d_R_kinds_41 rfl rfl (by decide) rfl ?_
    refine J_goto (tgt := 19) d_R_kinds_44 (by decide) ?_
    exact (ih (k + 1) (ofF 21 (keF k 20)) (by omega) ofF_len (fun q => by rw [show k = 7 by omega])).eq rfl rfl (by rw [pL_pL])
theorem S_R_kinds {X : Mem} {v : Int32} (hX : Ok X) : CM 2 m_R_kinds [.ref 244, .int v] X (rL (kindsF v) (kdX 260 v X)) := by
  refine CM_of (L := [some (.ref 244), some (.int v), none, none, none]) 3 ok_R_kinds (fun _ => Nat.le_of_ble_eq_true rfl) rfl ?_
  refine J_iload_n (i := 1) d_R_kinds_0 rfl rfl ?_
  refine J_iconst (v := nI 0) d_R_kinds_1 rfl ?_
  refine J_bipush (v := nI 20) d_R_kinds_2 rfl ?_
  refine CS_B (av := [.int v, .int (nI 0), .int (nI 20)]) d_R_kinds_4 s_R_89 (S_R_isIn) (by decide) rfl rfl (Nat.le_of_ble_eq_true rfl) ?_
  refine B_if_ne (tgt := 14) d_R_kinds_7 (by decide) (fun c7 => ?_) (fun c7 => ?_)
  · obtain ⟨v_, hv_, rfl⟩ := inR_n (n := 20) c7 (by decide)
    refine J_lconst (v := 0) d_R_kinds_14 rfl ?_
    refine J_lstore_n (i := 2) (L1 := [some (.ref 244), some (.int (nI v_)), some (.long 0), none, none]) d_R_kinds_15 rfl (by decide) rfl ?_
    refine J_iconst (v := nI 0) d_R_kinds_16 rfl ?_
    refine J_istore (L1 := [some (.ref 244), some (.int (nI v_)), some (.long 0), none, some (.int (nI 0))]) d_R_kinds_17 (by decide) rfl ?_
    have hF : inR (nI v_) 20 = true := c7
    exact (lp_R_kinds hX (by omega) ⟨by rw [kindsF, hF, if_pos rfl, tn_nI (by omega)], by rw [kdX, hF, if_pos rfl]⟩ 8 0 _ (by omega) (by rw [hX.2.1 260]; rfl) (fun q => by omega)).eq rfl rfl (congrArg hm pL_eta.symm)
  · refine J_ldc2 d_R_kinds_10 w_R_476 ?_
    refine M_lr d_R_kinds_13 rfl ?_
    have hF : inR v 20 = false := c7
    exact ⟨by rw [kindsF, hF] <;> rfl, by rw [kdX, hF] <;> rfl⟩

