def dnB (vb : Nat) (F W : Int32) (s : Sg) : Bool := if vb = 2 then decide (mOf s.1 < 8) else if vb = 3 then ccB s W F true else if vb = 4 then ccB s W F false else if vb = 5 then !decide (rnF s F = -1) else true
def dnS (vb : Nat) (F W : Int32) (s : Sg) : Sg := if vb = 2 then markS s F else if vb = 3 then chO s W F true else if vb = 4 then chO s W F false else if vb = 5 then rnO s F else s
theorem WF_dn {vb : Nat} {F W : Int32} {s : Sg} (hw : WFs s) : WFs (dnS vb F W s) := by
  unfold dnS
  split
  · exact WF_markS hw
  · split
    · exact WF_chO hw
    · split
      · exact WF_chO hw
      · split
        · exact WF_rnO hw
        · exact hw
theorem rn_lt {s : Sg} {m : Int32} : rnF s m < 0 ↔ rnF s m = -1 := by
  have hb : ∀ k, k ≤ 32 → ¬ nI k < 0 ∧ nI k ≠ -1 := by decide
  have hwo : woN (stOf s.1) (rgOf s.1) (tn m) ≤ 32 := bc_le _
  unfold rnF
  split
  · split
    · exact ⟨fun _ => rfl, fun _ => by decide⟩
    · exact ⟨fun q => absurd q (hb _ hwo).1, fun q => absurd q (hb _ hwo).2⟩
  · exact ⟨fun _ => rfl, fun _ => by decide⟩
theorem mk_lt {s : Sg} {v : Int32} (hw : WFs s) (hv : inR v 1048575 = true) : markF s.1 v < 0 ↔ ¬ mOf s.1 < 8 := by
  have hb : ∀ k, k < 8 → ¬ nI k < 0 := by decide
  unfold markF
  by_cases h : mOf s.1 < 8
  · rw [show mkOk s.1 v = true by rw [mkOk, hv, decide_eq_true h]; rfl, if_pos rfl]
    exact ⟨fun q => absurd q (hb _ h), fun q => absurd h q⟩
  · rw [show mkOk s.1 v = false by rw [mkOk, decide_eq_false h, Bool.and_false], if_neg Bool.false_ne_true]
    exact ⟨fun _ => h, fun _ => by decide⟩
theorem S_O_isDone_0 {X : Mem} {s : Sg} {F W : Int32} (hX : Ok X) (hC : CI X s) (hw : WFs s) : CM 4 m_O_isDone [.ref 8, .int (nI 0), .int F, .int W] X (fun q Y => q = some (.int (b2i (dnB 0 F W s))) ∧ pC X (dnS 0 F W s) Y) := by
  refine CM_of (L := [some (.ref 8), some (.int (nI 0)), some (.int F), some (.int W)]) 0 ok_O_isDone (fun _ => Nat.le_of_ble_eq_true rfl) rfl ?_
  refine J_iload_n (i := 1) d_O_isDone_0 rfl rfl ?_
  refine J_tableOut (tgt := 81) d_O_isDone_1 (by decide) (by decide) ?_
  refine J_iconst (v := nI 1) d_O_isDone_81 rfl ?_
  refine J.eq (st1 := [.int (b2i true)]) ?_ rfl rfl rfl
  refine M_ir d_O_isDone_82 rfl b2i_nar ?_
  exact ⟨rfl, pC_0 hX hC⟩

theorem S_O_isDone_1 {X : Mem} {s : Sg} {F W : Int32} (hX : Ok X) (hC : CI X s) (hw : WFs s) : CM 4 m_O_isDone [.ref 8, .int (nI 1), .int F, .int W] X (fun q Y => q = some (.int (b2i (dnB 1 F W s))) ∧ pC X (dnS 1 F W s) Y) := by
  refine CM_of (L := [some (.ref 8), some (.int (nI 1)), some (.int F), some (.int W)]) 0 ok_O_isDone (fun _ => Nat.le_of_ble_eq_true rfl) rfl ?_
  refine J_iload_n (i := 1) d_O_isDone_0 rfl rfl ?_
  refine J_tableOut (tgt := 81) d_O_isDone_1 (by decide) (by decide) ?_
  refine J_iconst (v := nI 1) d_O_isDone_81 rfl ?_
  refine J.eq (st1 := [.int (b2i true)]) ?_ rfl rfl rfl
  refine M_ir d_O_isDone_82 rfl b2i_nar ?_
  exact ⟨rfl, pC_0 hX hC⟩

theorem S_O_isDone_2 {X : Mem} {s : Sg} {F W : Int32} (hX : Ok X) (hC : CI X s) (hw : WFs s) (hF : inR F 1048575 = true) : CM 4 m_O_isDone [.ref 8, .int (nI 2), .int F, .int W] X (fun q Y => q = some (.int (b2i (dnB 2 F W s))) ∧ pC X (dnS 2 F W s) Y) := by
  have hb8 : ∀ k, k < 8 → nI k ≠ -1 := by decide
  refine CM_of (L := [some (.ref 8), some (.int (nI 2)), some (.int F), some (.int W)]) 0 ok_O_isDone (fun _ => Nat.le_of_ble_eq_true rfl) rfl ?_
  refine J_iload_n (i := 1) d_O_isDone_0 rfl rfl ?_
  refine J_tableIn (off := 31) (tgt := 32) d_O_isDone_1 (by decide) (by decide) (by decide) (by decide) ?_
  refine J_aload_n (i := 0) d_O_isDone_32 rfl rfl ?_
  refine M_getR (b := 18) d_O_isDone_33 f_O_48 rfl rfl rfl ?_
  refine J_iload_n (i := 2) d_O_isDone_36 rfl rfl ?_
  refine CV_I (av := [.int F]) d_O_isDone_37 s_O_77 (M_rcv rfl (by decide) rfl) (S_H_register hX hC hw) (by decide) rfl rfl (Nat.le_of_ble_eq_true rfl) ?_
  refine J_iconst (v := (-1)) d_O_isDone_40 rfl ?_
  refine J_icmp_eq (tgt := 48) d_O_isDone_41 (by decide) (fun c41 => ?_) (fun c41 => ?_)
  · refine J_iconst (v := nI 0) d_O_isDone_48 rfl ?_
    refine J.eq (st1 := [.int (b2i false)]) ?_ rfl rfl rfl
    refine M_ir d_O_isDone_49 rfl b2i_nar ?_
    have h8 : ¬ mOf s.1 < 8 := fun q => by rw [if_pos q] at c41; exact absurd c41 (hb8 _ q)
    have h : mkOk s.1 F = false := by rw [mkOk, decide_eq_false h8, Bool.and_false]
    rw [if_neg h8]
    exact ⟨by rw [dnB, if_pos rfl, decide_eq_false h8], by rw [dnS, if_pos rfl, markS, h, if_neg Bool.false_ne_true]; exact pC_0 hX hC⟩
  · refine J_iconst (v := nI 1) d_O_isDone_44 rfl ?_
    refine J_goto (tgt := 49) d_O_isDone_45 (by decide) ?_
    refine J.eq (st1 := [.int (b2i true)]) ?_ rfl rfl rfl
    refine M_ir d_O_isDone_49 rfl b2i_nar ?_
    have h8 : mOf s.1 < 8 := Decidable.byContradiction (fun q => c41 (if_neg q))
    have h : mkOk s.1 F = true := by rw [mkOk, hF, decide_eq_true h8]; rfl
    rw [if_pos h8]
    exact ⟨by rw [dnB, if_pos rfl, decide_eq_true h8], okF (okA (okS hX rfl) rfl (by rw [List.length_set]; rfl)), by rw [dnS, if_pos rfl, markS, h, if_pos rfl]; exact CI_mark hX hC h8, sR_t (sR_A (by decide)) (sR_t (sR_A (by decide)) (sR_F (by decide)))⟩

theorem S_O_isDone_3 {X : Mem} {s : Sg} {F W : Int32} (hX : Ok X) (hC : CI X s) (hw : WFs s) : CM 4 m_O_isDone [.ref 8, .int (nI 3), .int F, .int W] X (fun q Y => q = some (.int (b2i (dnB 3 F W s))) ∧ pC X (dnS 3 F W s) Y) := by
  refine CM_of (L := [some (.ref 8), some (.int (nI 3)), some (.int F), some (.int W)]) 0 ok_O_isDone (fun _ => Nat.le_of_ble_eq_true rfl) rfl ?_
  refine J_iload_n (i := 1) d_O_isDone_0 rfl rfl ?_
  refine J_tableIn (off := 49) (tgt := 50) d_O_isDone_1 (by decide) (by decide) (by decide) (by decide) ?_
  refine J_aload_n (i := 0) d_O_isDone_50 rfl rfl ?_
  refine J_iload_n (i := 3) d_O_isDone_51 rfl rfl ?_
  refine J_iload_n (i := 2) d_O_isDone_52 rfl rfl ?_
  refine J_iconst (v := nI 1) d_O_isDone_53 rfl ?_
  refine M_callV (av := [.int W, .int F, .int (b2i true)]) d_O_isDone_54 s_O_103 (M_rcv rfl (by decide) rfl) (S_O_changeByHand_t hX hC hw) (by decide) rfl rfl (Nat.le_of_ble_eq_true rfl) (fun q Y hq => ?_)
  obtain ⟨rfl, hp⟩ := hq
  refine M_ir d_O_isDone_57 rfl b2i_nar ?_
  exact ⟨rfl, hp⟩

theorem S_O_isDone_4 {X : Mem} {s : Sg} {F W : Int32} (hX : Ok X) (hC : CI X s) (hw : WFs s) : CM 4 m_O_isDone [.ref 8, .int (nI 4), .int F, .int W] X (fun q Y => q = some (.int (b2i (dnB 4 F W s))) ∧ pC X (dnS 4 F W s) Y) := by
  refine CM_of (L := [some (.ref 8), some (.int (nI 4)), some (.int F), some (.int W)]) 0 ok_O_isDone (fun _ => Nat.le_of_ble_eq_true rfl) rfl ?_
  refine J_iload_n (i := 1) d_O_isDone_0 rfl rfl ?_
  refine J_tableIn (off := 57) (tgt := 58) d_O_isDone_1 (by decide) (by decide) (by decide) (by decide) ?_
  refine J_aload_n (i := 0) d_O_isDone_58 rfl rfl ?_
  refine J_iload_n (i := 3) d_O_isDone_59 rfl rfl ?_
  refine J_iload_n (i := 2) d_O_isDone_60 rfl rfl ?_
  refine J_iconst (v := nI 0) d_O_isDone_61 rfl ?_
  refine M_callV (av := [.int W, .int F, .int (b2i false)]) d_O_isDone_62 s_O_103 (M_rcv rfl (by decide) rfl) (S_O_changeByHand_f hX hC hw) (by decide) rfl rfl (Nat.le_of_ble_eq_true rfl) (fun q Y hq => ?_)
  obtain ⟨rfl, hp⟩ := hq
  refine M_ir d_O_isDone_65 rfl b2i_nar ?_
  exact ⟨rfl, hp⟩

theorem S_O_isDone_5 {X : Mem} {s : Sg} {F W : Int32} (hX : Ok X) (hC : CI X s) (hw : WFs s) : CM 4 m_O_isDone [.ref 8, .int (nI 5), .int F, .int W] X (fun q Y => q = some (.int (b2i (dnB 5 F W s))) ∧ pC X (dnS 5 F W s) Y) := by
  refine CM_of (L := [some (.ref 8), some (.int (nI 5)), some (.int F), some (.int W)]) 0 ok_O_isDone (fun _ => Nat.le_of_ble_eq_true rfl) rfl ?_
  refine J_iload_n (i := 1) d_O_isDone_0 rfl rfl ?_
  refine J_tableIn (off := 65) (tgt := 66) d_O_isDone_1 (by decide) (by decide) (by decide) (by decide) ?_
  refine J_aload_n (i := 0) d_O_isDone_66 rfl rfl ?_
  refine J_iload_n (i := 2) d_O_isDone_67 rfl rfl ?_
  refine M_callV (av := [.int F]) d_O_isDone_68 s_O_107 (M_rcv rfl (by decide) rfl) (S_O_renewByHand hX hC hw) (by decide) rfl rfl (Nat.le_of_ble_eq_true rfl) (fun q Y hq => ?_)
  obtain ⟨rfl, hp⟩ := hq
  refine J_iconst (v := (-1)) d_O_isDone_71 rfl ?_
  refine J_icmp_eq (tgt := 79) d_O_isDone_72 (by decide) (fun c72 => ?_) (fun c72 => ?_)
  · refine J_iconst (v := nI 0) d_O_isDone_79 rfl ?_
    refine J.eq (st1 := [.int (b2i false)]) ?_ rfl rfl rfl
    refine M_ir d_O_isDone_80 rfl b2i_nar ?_
    exact ⟨by rw [show dnB 5 F W s = !decide (rnF s F = -1) from rfl, decide_eq_true c72]; rfl, hp⟩
  · refine J_iconst (v := nI 1) d_O_isDone_75 rfl ?_
    refine J_goto (tgt := 80) d_O_isDone_76 (by decide) ?_
    refine J.eq (st1 := [.int (b2i true)]) ?_ rfl rfl rfl
    refine M_ir d_O_isDone_80 rfl b2i_nar ?_
    exact ⟨by rw [show dnB 5 F W s = !decide (rnF s F = -1) from rfl, decide_eq_false c72]; rfl, hp⟩

theorem S_O_isDone {X : Mem} {s : Sg} {vb : Nat} {F W : Int32} (hX : Ok X) (hC : CI X s) (hw : WFs s) (hv : vb < 6) (hF : vb = 2 → inR F 1048575 = true) : CM 4 m_O_isDone [.ref 8, .int (nI vb), .int F, .int W] X (fun q Y => q = some (.int (b2i (dnB vb F W s))) ∧ pC X (dnS vb F W s) Y) := by
  have hcase : vb = 0 ∨ vb = 1 ∨ vb = 2 ∨ vb = 3 ∨ vb = 4 ∨ vb = 5 := by omega
  rcases hcase with rfl | rfl | rfl | rfl | rfl | rfl
  · exact S_O_isDone_0 hX hC hw
  · exact S_O_isDone_1 hX hC hw
  · exact S_O_isDone_2 hX hC hw (hF rfl)
  · exact S_O_isDone_3 hX hC hw
  · exact S_O_isDone_4 hX hC hw
  · exact S_O_isDone_5 hX hC hw
def plB (vb : Nat) (F W : Int32) (s : Sg) : Bool := if vb = 6 then decide (tn (s.1 6) + tn F ≤ 9999) else dnB vb F W s
def plS (vb : Nat) (F W : Int32) (s : Sg) : Sg := if vb = 6 then (yrs s (tn F)).1 else dnS vb F W s
theorem S_R_isPlayed_0 {x : Nat} {X : Mem} {s : Sg} {F W : Int32} (hX : Ok X) (hC : RI X s) (hw : WFs s) (hx : x + 2 < 2724) (h0 : (X.2.1 251).getD x 0 = nI 0) (h1 : (X.2.1 251).getD (x + 1) 0 = F) (h2 : (X.2.1 251).getD (x + 2) 0 = W) : CM 8 m_R_isPlayed [.ref 244, .int (nI x)] X (fun q Y => q = some (.int (b2i (plB 0 F W s))) ∧ pR X (plS 0 F W s) Y) := by
  refine CM_of (L := [some (.ref 244), some (.int (nI x)), none, none]) 2 ok_R_isPlayed (fun _ => Nat.le_of_ble_eq_true rfl) rfl ?_
  refine J_aload_n (i := 0) d_R_isPlayed_0 rfl rfl ?_
  refine M_getR (b := 251) d_R_isPlayed_1 f_R_28 rfl rfl rfl ?_
  refine J_iload_n (i := 1) d_R_isPlayed_4 rfl rfl ?_
  refine J_iconst (v := nI 1) d_R_isPlayed_5 rfl ?_
  refine N_iadd d_R_isPlayed_6 ?_
  refine N_iald (x := F) d_R_isPlayed_7 rfl (by omega) (ltL hX (a := 251) (n := 2724) (by decide) rfl (by omega)) h1 ?_
  refine J_istore_n (i := 2) (L1 := [some (.ref 244), some (.int (nI x)), some (.int F), none]) d_R_isPlayed_8 rfl (by decide) rfl ?_
  refine J_aload_n (i := 0) d_R_isPlayed_9 rfl rfl ?_
  refine M_getR (b := 251) d_R_isPlayed_10 f_R_28 rfl rfl rfl ?_
  refine J_iload_n (i := 1) d_R_isPlayed_13 rfl rfl ?_
  refine J_iconst (v := nI 2) d_R_isPlayed_14 rfl ?_
  refine N_iadd d_R_isPlayed_15 ?_
  refine N_iald (x := W) d_R_isPlayed_16 rfl (by omega) (ltL hX (a := 251) (n := 2724) (by decide) rfl (by omega)) h2 ?_
  refine J_istore_n (i := 3) (L1 := [some (.ref 244), some (.int (nI x)), some (.int F), some (.int W)]) d_R_isPlayed_17 rfl (by decide) rfl ?_
  refine J_aload_n (i := 0) d_R_isPlayed_18 rfl rfl ?_
  refine M_getR (b := 251) d_R_isPlayed_19 f_R_28 rfl rfl rfl ?_
  refine J_iload_n (i := 1) d_R_isPlayed_22 rfl rfl ?_
  refine N_iald (x := (nI 0)) d_R_isPlayed_23 rfl (by omega) (ltL hX (a := 251) (n := 2724) (by decide) rfl (by omega)) h0 ?_
  refine J_tableOut (tgt := 108) d_R_isPlayed_24 (by decide) (by decide) ?_
  refine J_iconst (v := nI 1) d_R_isPlayed_108 rfl ?_
  refine J.eq (st1 := [.int (b2i true)]) ?_ rfl rfl rfl
  refine M_ir d_R_isPlayed_109 rfl b2i_nar ?_
  exact ⟨rfl, pR_0 hX hC⟩

theorem S_R_isPlayed_1 {x : Nat} {X : Mem} {s : Sg} {F W : Int32} (hX : Ok X) (hC : RI X s) (hw : WFs s) (hx : x + 2 < 2724) (h0 : (X.2.1 251).getD x 0 = nI 1) (h1 : (X.2.1 251).getD (x + 1) 0 = F) (h2 : (X.2.1 251).getD (x + 2) 0 = W) : CM 8 m_R_isPlayed [.ref 244, .int (nI x)] X (fun q Y => q = some (.int (b2i (plB 1 F W s))) ∧ pR X (plS 1 F W s) Y) := by
  refine CM_of (L := [some (.ref 244), some (.int (nI x)), none, none]) 2 ok_R_isPlayed (fun _ => Nat.le_of_ble_eq_true rfl) rfl ?_
  refine J_aload_n (i := 0) d_R_isPlayed_0 rfl rfl ?_
  refine M_getR (b := 251) d_R_isPlayed_1 f_R_28 rfl rfl rfl ?_
  refine J_iload_n (i := 1) d_R_isPlayed_4 rfl rfl ?_
  refine J_iconst (v := nI 1) d_R_isPlayed_5 rfl ?_
  refine N_iadd d_R_isPlayed_6 ?_
  refine N_iald (x := F) d_R_isPlayed_7 rfl (by omega) (ltL hX (a := 251) (n := 2724) (by decide) rfl (by omega)) h1 ?_
  refine J_istore_n (i := 2) (L1 := [some (.ref 244), some (.int (nI x)), some (.int F), none]) d_R_isPlayed_8 rfl (by decide) rfl ?_
  refine J_aload_n (i := 0) d_R_isPlayed_9 rfl rfl ?_
  refine M_getR (b := 251) d_R_isPlayed_10 f_R_28 rfl rfl rfl ?_
  refine J_iload_n (i := 1) d_R_isPlayed_13 rfl rfl ?_
  refine J_iconst (v := nI 2) d_R_isPlayed_14 rfl ?_
  refine N_iadd d_R_isPlayed_15 ?_
  refine N_iald (x := W) d_R_isPlayed_16 rfl (by omega) (ltL hX (a := 251) (n := 2724) (by decide) rfl (by omega)) h2 ?_
  refine J_istore_n (i := 3) (L1 := [some (.ref 244), some (.int (nI x)), some (.int F), some (.int W)]) d_R_isPlayed_17 rfl (by decide) rfl ?_
  refine J_aload_n (i := 0) d_R_isPlayed_18 rfl rfl ?_
  refine M_getR (b := 251) d_R_isPlayed_19 f_R_28 rfl rfl rfl ?_
  refine J_iload_n (i := 1) d_R_isPlayed_22 rfl rfl ?_
  refine N_iald (x := (nI 1)) d_R_isPlayed_23 rfl (by omega) (ltL hX (a := 251) (n := 2724) (by decide) rfl (by omega)) h0 ?_
  refine J_tableOut (tgt := 108) d_R_isPlayed_24 (by decide) (by decide) ?_
  refine J_iconst (v := nI 1) d_R_isPlayed_108 rfl ?_
  refine J.eq (st1 := [.int (b2i true)]) ?_ rfl rfl rfl
  refine M_ir d_R_isPlayed_109 rfl b2i_nar ?_
  exact ⟨rfl, pR_0 hX hC⟩

theorem S_R_isPlayed_2 {x : Nat} {X : Mem} {s : Sg} {F W : Int32} (hX : Ok X) (hC : RI X s) (hw : WFs s) (hF : inR F 1048575 = true) (hx : x + 2 < 2724) (h0 : (X.2.1 251).getD x 0 = nI 2) (h1 : (X.2.1 251).getD (x + 1) 0 = F) (h2 : (X.2.1 251).getD (x + 2) 0 = W) : CM 8 m_R_isPlayed [.ref 244, .int (nI x)] X (fun q Y => q = some (.int (b2i (plB 2 F W s))) ∧ pR X (plS 2 F W s) Y) := by
  refine CM_of (L := [some (.ref 244), some (.int (nI x)), none, none]) 2 ok_R_isPlayed (fun _ => Nat.le_of_ble_eq_true rfl) rfl ?_
  refine J_aload_n (i := 0) d_R_isPlayed_0 rfl rfl ?_
  refine M_getR (b := 251) d_R_isPlayed_1 f_R_28 rfl rfl rfl ?_
  refine J_iload_n (i := 1) d_R_isPlayed_4 rfl rfl ?_
  refine J_iconst (v := nI 1) d_R_isPlayed_5 rfl ?_
  refine N_iadd d_R_isPlayed_6 ?_
  refine N_iald (x := F) d_R_isPlayed_7 rfl (by omega) (ltL hX (a := 251) (n := 2724) (by decide) rfl (by omega)) h1 ?_
  refine J_istore_n (i := 2) (L1 := [some (.ref 244), some (.int (nI x)), some (.int F), none]) d_R_isPlayed_8 rfl (by decide) rfl ?_
  refine J_aload_n (i := 0) d_R_isPlayed_9 rfl rfl ?_
  refine M_getR (b := 251) d_R_isPlayed_10 f_R_28 rfl rfl rfl ?_
  refine J_iload_n (i := 1) d_R_isPlayed_13 rfl rfl ?_
  refine J_iconst (v := nI 2) d_R_isPlayed_14 rfl ?_
  refine N_iadd d_R_isPlayed_15 ?_
  refine N_iald (x := W) d_R_isPlayed_16 rfl (by omega) (ltL hX (a := 251) (n := 2724) (by decide) rfl (by omega)) h2 ?_
  refine J_istore_n (i := 3) (L1 := [some (.ref 244), some (.int (nI x)), some (.int F), some (.int W)]) d_R_isPlayed_17 rfl (by decide) rfl ?_
  refine J_aload_n (i := 0) d_R_isPlayed_18 rfl rfl ?_
  refine M_getR (b := 251) d_R_isPlayed_19 f_R_28 rfl rfl rfl ?_
  refine J_iload_n (i := 1) d_R_isPlayed_22 rfl rfl ?_
  refine N_iald (x := (nI 2)) d_R_isPlayed_23 rfl (by omega) (ltL hX (a := 251) (n := 2724) (by decide) rfl (by omega)) h0 ?_
  refine J_tableIn (off := 36) (tgt := 60) d_R_isPlayed_24 (by decide) (by decide) (by decide) (by decide) ?_
  refine J_aload_n (i := 0) d_R_isPlayed_60 rfl rfl ?_
  refine J_iload_n (i := 2) d_R_isPlayed_61 rfl rfl ?_
  refine M_callV (av := [.int F]) d_R_isPlayed_62 s_R_428 (M_rcv rfl (by decide) rfl) (S_R_mark hX hC hw) (by decide) rfl rfl (Nat.le_of_ble_eq_true rfl) (fun q Y hq => ?_)
  obtain ⟨rfl, hp⟩ := hq
  refine J_if_lt (tgt := 72) d_R_isPlayed_65 (by decide) (fun c65 => ?_) (fun c65 => ?_)
  · refine J_iconst (v := nI 0) d_R_isPlayed_72 rfl ?_
    refine J.eq (st1 := [.int (b2i false)]) ?_ rfl rfl rfl
    refine M_ir d_R_isPlayed_73 rfl b2i_nar ?_
    exact ⟨by rw [show plB 2 F W s = decide (mOf s.1 < 8) from rfl, decide_eq_false ((mk_lt hw hF).mp c65)], hp⟩
  · refine J_iconst (v := nI 1) d_R_isPlayed_68 rfl ?_
    refine J_goto (tgt := 73) d_R_isPlayed_69 (by decide) ?_
    refine J.eq (st1 := [.int (b2i true)]) ?_ rfl rfl rfl
    refine M_ir d_R_isPlayed_73 rfl b2i_nar ?_
    exact ⟨by rw [show plB 2 F W s = decide (mOf s.1 < 8) from rfl, decide_eq_true (Decidable.byContradiction (fun q => c65 ((mk_lt hw hF).mpr q)))], hp⟩

theorem S_R_isPlayed_3 {x : Nat} {X : Mem} {s : Sg} {F W : Int32} (hX : Ok X) (hC : RI X s) (hw : WFs s) (hx : x + 2 < 2724) (h0 : (X.2.1 251).getD x 0 = nI 3) (h1 : (X.2.1 251).getD (x + 1) 0 = F) (h2 : (X.2.1 251).getD (x + 2) 0 = W) : CM 8 m_R_isPlayed [.ref 244, .int (nI x)] X (fun q Y => q = some (.int (b2i (plB 3 F W s))) ∧ pR X (plS 3 F W s) Y) := by
  refine CM_of (L := [some (.ref 244), some (.int (nI x)), none, none]) 2 ok_R_isPlayed (fun _ => Nat.le_of_ble_eq_true rfl) rfl ?_
  refine J_aload_n (i := 0) d_R_isPlayed_0 rfl rfl ?_
  refine M_getR (b := 251) d_R_isPlayed_1 f_R_28 rfl rfl rfl ?_
  refine J_iload_n (i := 1) d_R_isPlayed_4 rfl rfl ?_
  refine J_iconst (v := nI 1) d_R_isPlayed_5 rfl ?_
  refine N_iadd d_R_isPlayed_6 ?_
  refine N_iald (x := F) d_R_isPlayed_7 rfl (by omega) (ltL hX (a := 251) (n := 2724) (by decide) rfl (by omega)) h1 ?_
  refine J_istore_n (i := 2) (L1 := [some (.ref 244), some (.int (nI x)), some (.int F), none]) d_R_isPlayed_8 rfl (by decide) rfl ?_
  refine J_aload_n (i := 0) d_R_isPlayed_9 rfl rfl ?_
  refine M_getR (b := 251) d_R_isPlayed_10 f_R_28 rfl rfl rfl ?_
  refine J_iload_n (i := 1) d_R_isPlayed_13 rfl rfl ?_
  refine J_iconst (v := nI 2) d_R_isPlayed_14 rfl ?_
  refine N_iadd d_R_isPlayed_15 ?_
  refine N_iald (x := W) d_R_isPlayed_16 rfl (by omega) (ltL hX (a := 251) (n := 2724) (by decide) rfl (by omega)) h2 ?_
  refine J_istore_n (i := 3) (L1 := [some (.ref 244), some (.int (nI x)), some (.int F), some (.int W)]) d_R_isPlayed_17 rfl (by decide) rfl ?_
  refine J_aload_n (i := 0) d_R_isPlayed_18 rfl rfl ?_
  refine M_getR (b := 251) d_R_isPlayed_19 f_R_28 rfl rfl rfl ?_
  refine J_iload_n (i := 1) d_R_isPlayed_22 rfl rfl ?_
  refine N_iald (x := (nI 3)) d_R_isPlayed_23 rfl (by omega) (ltL hX (a := 251) (n := 2724) (by decide) rfl (by omega)) h0 ?_
  refine J_tableIn (off := 50) (tgt := 74) d_R_isPlayed_24 (by decide) (by decide) (by decide) (by decide) ?_
  refine J_aload_n (i := 0) d_R_isPlayed_74 rfl rfl ?_
  refine J_iload_n (i := 3) d_R_isPlayed_75 rfl rfl ?_
  refine J_iload_n (i := 2) d_R_isPlayed_76 rfl rfl ?_
  refine M_callV (av := [.int W, .int F]) d_R_isPlayed_77 s_R_431 (M_rcv rfl (by decide) rfl) (S_R_add hX hC hw) (by decide) rfl rfl (Nat.le_of_ble_eq_true rfl) (fun q Y hq => ?_)
  obtain ⟨rfl, hp⟩ := hq
  refine M_ir d_R_isPlayed_80 rfl b2i_nar ?_
  exact ⟨rfl, hp⟩

theorem S_R_isPlayed_4 {x : Nat} {X : Mem} {s : Sg} {F W : Int32} (hX : Ok X) (hC : RI X s) (hw : WFs s) (hx : x + 2 < 2724) (h0 : (X.2.1 251).getD x 0 = nI 4) (h1 : (X.2.1 251).getD (x + 1) 0 = F) (h2 : (X.2.1 251).getD (x + 2) 0 = W) : CM 8 m_R_isPlayed [.ref 244, .int (nI x)] X (fun q Y => q = some (.int (b2i (plB 4 F W s))) ∧ pR X (plS 4 F W s) Y) := by
  refine CM_of (L := [some (.ref 244), some (.int (nI x)), none, none]) 2 ok_R_isPlayed (fun _ => Nat.le_of_ble_eq_true rfl) rfl ?_
  refine J_aload_n (i := 0) d_R_isPlayed_0 rfl rfl ?_
  refine M_getR (b := 251) d_R_isPlayed_1 f_R_28 rfl rfl rfl ?_
  refine J_iload_n (i := 1) d_R_isPlayed_4 rfl rfl ?_
  refine J_iconst (v := nI 1) d_R_isPlayed_5 rfl ?_
  refine N_iadd d_R_isPlayed_6 ?_
  refine N_iald (x := F) d_R_isPlayed_7 rfl (by omega) (ltL hX (a := 251) (n := 2724) (by decide) rfl (by omega)) h1 ?_
  refine J_istore_n (i := 2) (L1 := [some (.ref 244), some (.int (nI x)), some (.int F), none]) d_R_isPlayed_8 rfl (by decide) rfl ?_
  refine J_aload_n (i := 0) d_R_isPlayed_9 rfl rfl ?_
  refine M_getR (b := 251) d_R_isPlayed_10 f_R_28 rfl rfl rfl ?_
  refine J_iload_n (i := 1) d_R_isPlayed_13 rfl rfl ?_
  refine J_iconst (v := nI 2) d_R_isPlayed_14 rfl ?_
  refine N_iadd d_R_isPlayed_15 ?_
  refine N_iald (x := W) d_R_isPlayed_16 rfl (by omega) (ltL hX (a := 251) (n := 2724) (by decide) rfl (by omega)) h2 ?_
  refine J_istore_n (i := 3) (L1 := [some (.ref 244), some (.int (nI x)), some (.int F), some (.int W)]) d_R_isPlayed_17 rfl (by decide) rfl ?_
  refine J_aload_n (i := 0) d_R_isPlayed_18 rfl rfl ?_
  refine M_getR (b := 251) d_R_isPlayed_19 f_R_28 rfl rfl rfl ?_
  refine J_iload_n (i := 1) d_R_isPlayed_22 rfl rfl ?_
  refine N_iald (x := (nI 4)) d_R_isPlayed_23 rfl (by omega) (ltL hX (a := 251) (n := 2724) (by decide) rfl (by omega)) h0 ?_
  refine J_tableIn (off := 57) (tgt := 81) d_R_isPlayed_24 (by decide) (by decide) (by decide) (by decide) ?_
  refine J_aload_n (i := 0) d_R_isPlayed_81 rfl rfl ?_
  refine J_iload_n (i := 3) d_R_isPlayed_82 rfl rfl ?_
  refine J_iload_n (i := 2) d_R_isPlayed_83 rfl rfl ?_
  refine M_callV (av := [.int W, .int F]) d_R_isPlayed_84 s_R_434 (M_rcv rfl (by decide) rfl) (S_R_rub hX hC hw) (by decide) rfl rfl (Nat.le_of_ble_eq_true rfl) (fun q Y hq => ?_)
  obtain ⟨rfl, hp⟩ := hq
  refine M_ir d_R_isPlayed_87 rfl b2i_nar ?_
  exact ⟨rfl, hp⟩

theorem S_R_isPlayed_5 {x : Nat} {X : Mem} {s : Sg} {F W : Int32} (hX : Ok X) (hC : RI X s) (hw : WFs s) (hx : x + 2 < 2724) (h0 : (X.2.1 251).getD x 0 = nI 5) (h1 : (X.2.1 251).getD (x + 1) 0 = F) (h2 : (X.2.1 251).getD (x + 2) 0 = W) : CM 8 m_R_isPlayed [.ref 244, .int (nI x)] X (fun q Y => q = some (.int (b2i (plB 5 F W s))) ∧ pR X (plS 5 F W s) Y) := by
  refine CM_of (L := [some (.ref 244), some (.int (nI x)), none, none]) 2 ok_R_isPlayed (fun _ => Nat.le_of_ble_eq_true rfl) rfl ?_
  refine J_aload_n (i := 0) d_R_isPlayed_0 rfl rfl ?_
  refine M_getR (b := 251) d_R_isPlayed_1 f_R_28 rfl rfl rfl ?_
  refine J_iload_n (i := 1) d_R_isPlayed_4 rfl rfl ?_
  refine J_iconst (v := nI 1) d_R_isPlayed_5 rfl ?_
  refine N_iadd d_R_isPlayed_6 ?_
  refine N_iald (x := F) d_R_isPlayed_7 rfl (by omega) (ltL hX (a := 251) (n := 2724) (by decide) rfl (by omega)) h1 ?_
  refine J_istore_n (i := 2) (L1 := [some (.ref 244), some (.int (nI x)), some (.int F), none]) d_R_isPlayed_8 rfl (by decide) rfl ?_
  refine J_aload_n (i := 0) d_R_isPlayed_9 rfl rfl ?_
  refine M_getR (b := 251) d_R_isPlayed_10 f_R_28 rfl rfl rfl ?_
  refine J_iload_n (i := 1) d_R_isPlayed_13 rfl rfl ?_
  refine J_iconst (v := nI 2) d_R_isPlayed_14 rfl ?_
  refine N_iadd d_R_isPlayed_15 ?_
  refine N_iald (x := W) d_R_isPlayed_16 rfl (by omega) (ltL hX (a := 251) (n := 2724) (by decide) rfl (by omega)) h2 ?_
  refine J_istore_n (i := 3) (L1 := [some (.ref 244), some (.int (nI x)), some (.int F), some (.int W)]) d_R_isPlayed_17 rfl (by decide) rfl ?_
  refine J_aload_n (i := 0) d_R_isPlayed_18 rfl rfl ?_
  refine M_getR (b := 251) d_R_isPlayed_19 f_R_28 rfl rfl rfl ?_
  refine J_iload_n (i := 1) d_R_isPlayed_22 rfl rfl ?_
  refine N_iald (x := (nI 5)) d_R_isPlayed_23 rfl (by omega) (ltL hX (a := 251) (n := 2724) (by decide) rfl (by omega)) h0 ?_
  refine J_tableIn (off := 64) (tgt := 88) d_R_isPlayed_24 (by decide) (by decide) (by decide) (by decide) ?_
  refine J_aload_n (i := 0) d_R_isPlayed_88 rfl rfl ?_
  refine J_iload_n (i := 2) d_R_isPlayed_89 rfl rfl ?_
  refine M_callV (av := [.int F]) d_R_isPlayed_90 s_R_437 (M_rcv rfl (by decide) rfl) (S_R_renew hX hC hw) (by decide) rfl rfl (Nat.le_of_ble_eq_true rfl) (fun q Y hq => ?_)
  obtain ⟨rfl, hp⟩ := hq
  refine J_if_lt (tgt := 100) d_R_isPlayed_93 (by decide) (fun c93 => ?_) (fun c93 => ?_)
  · refine J_iconst (v := nI 0) d_R_isPlayed_100 rfl ?_
    refine J.eq (st1 := [.int (b2i false)]) ?_ rfl rfl rfl
    refine M_ir d_R_isPlayed_101 rfl b2i_nar ?_
    exact ⟨by rw [show plB 5 F W s = !decide (rnF s F = -1) from rfl, decide_eq_true (rn_lt.mp c93)]; rfl, hp⟩
  · refine J_iconst (v := nI 1) d_R_isPlayed_96 rfl ?_
    refine J_goto (tgt := 101) d_R_isPlayed_97 (by decide) ?_
    refine J.eq (st1 := [.int (b2i true)]) ?_ rfl rfl rfl
    refine M_ir d_R_isPlayed_101 rfl b2i_nar ?_
    exact ⟨by rw [show plB 5 F W s = !decide (rnF s F = -1) from rfl, decide_eq_false (fun q => c93 (rn_lt.mpr q))]; rfl, hp⟩

theorem S_R_isPlayed_6 {x : Nat} {X : Mem} {s : Sg} {F W : Int32} (hX : Ok X) (hC : RI X s) (hw : WFs s) (hY6 : ∃ f, f ≤ 60 ∧ F = nI f) (hx : x + 2 < 2724) (h0 : (X.2.1 251).getD x 0 = nI 6) (h1 : (X.2.1 251).getD (x + 1) 0 = F) (h2 : (X.2.1 251).getD (x + 2) 0 = W) : CM 8 m_R_isPlayed [.ref 244, .int (nI x)] X (fun q Y => q = some (.int (b2i (plB 6 F W s))) ∧ pR X (plS 6 F W s) Y) := by
  refine CM_of (L := [some (.ref 244), some (.int (nI x)), none, none]) 2 ok_R_isPlayed (fun _ => Nat.le_of_ble_eq_true rfl) rfl ?_
  refine J_aload_n (i := 0) d_R_isPlayed_0 rfl rfl ?_
  refine M_getR (b := 251) d_R_isPlayed_1 f_R_28 rfl rfl rfl ?_
  refine J_iload_n (i := 1) d_R_isPlayed_4 rfl rfl ?_
  refine J_iconst (v := nI 1) d_R_isPlayed_5 rfl ?_
  refine N_iadd d_R_isPlayed_6 ?_
  refine N_iald (x := F) d_R_isPlayed_7 rfl (by omega) (ltL hX (a := 251) (n := 2724) (by decide) rfl (by omega)) h1 ?_
  refine J_istore_n (i := 2) (L1 := [some (.ref 244), some (.int (nI x)), some (.int F), none]) d_R_isPlayed_8 rfl (by decide) rfl ?_
  refine J_aload_n (i := 0) d_R_isPlayed_9 rfl rfl ?_
  refine M_getR (b := 251) d_R_isPlayed_10 f_R_28 rfl rfl rfl ?_
  refine J_iload_n (i := 1) d_R_isPlayed_13 rfl rfl ?_
  refine J_iconst (v := nI 2) d_R_isPlayed_14 rfl ?_
  refine N_iadd d_R_isPlayed_15 ?_
  refine N_iald (x := W) d_R_isPlayed_16 rfl (by omega) (ltL hX (a := 251) (n := 2724) (by decide) rfl (by omega)) h2 ?_
  refine J_istore_n (i := 3) (L1 := [some (.ref 244), some (.int (nI x)), some (.int F), some (.int W)]) d_R_isPlayed_17 rfl (by decide) rfl ?_
  refine J_aload_n (i := 0) d_R_isPlayed_18 rfl rfl ?_
  refine M_getR (b := 251) d_R_isPlayed_19 f_R_28 rfl rfl rfl ?_
  refine J_iload_n (i := 1) d_R_isPlayed_22 rfl rfl ?_
  refine N_iald (x := (nI 6)) d_R_isPlayed_23 rfl (by omega) (ltL hX (a := 251) (n := 2724) (by decide) rfl (by omega)) h0 ?_
  refine J_tableIn (off := 78) (tgt := 102) d_R_isPlayed_24 (by decide) (by decide) (by decide) (by decide) ?_
  refine J_aload_n (i := 0) d_R_isPlayed_102 rfl rfl ?_
  refine J_iload_n (i := 2) d_R_isPlayed_103 rfl rfl ?_
  obtain ⟨f_, hf_, rfl⟩ := hY6
  have tf := tn_nI (show f_ < 2147483648 by omega)
  refine M_callV (av := [.int (nI f_)]) d_R_isPlayed_104 s_R_425 (M_rcv rfl (by decide) rfl) (S_R_arePassed hX hC hw (show f_ < 1000 by omega)) (by decide) rfl rfl (Nat.le_of_ble_eq_true rfl) (fun q Y hq => ?_)
  obtain ⟨rfl, hp, _⟩ := hq
  refine M_ir d_R_isPlayed_107 rfl b2i_nar ?_
  exact ⟨by rw [show plB 6 (nI f_) W s = decide (tn (s.1 6) + tn (nI f_) ≤ 9999) from rfl, tf], by rw [show plS 6 (nI f_) W s = (yrs s (tn (nI f_))).1 from rfl, tf]; exact hp⟩

theorem S_R_isPlayed {X : Mem} {s : Sg} {vb x : Nat} {F W : Int32} (hX : Ok X) (hC : RI X s) (hw : WFs s) (hv : vb < 7) (hF : vb = 2 → inR F 1048575 = true) (hY6 : vb = 6 → ∃ f, f ≤ 60 ∧ F = nI f) (hx : x + 2 < 2724) (h0 : (X.2.1 251).getD x 0 = nI vb) (h1 : (X.2.1 251).getD (x + 1) 0 = F) (h2 : (X.2.1 251).getD (x + 2) 0 = W) : CM 8 m_R_isPlayed [.ref 244, .int (nI x)] X (fun q Y => q = some (.int (b2i (plB vb F W s))) ∧ pR X (plS vb F W s) Y) := by
  have hcase : vb = 0 ∨ vb = 1 ∨ vb = 2 ∨ vb = 3 ∨ vb = 4 ∨ vb = 5 ∨ vb = 6 := by omega
  rcases hcase with rfl | rfl | rfl | rfl | rfl | rfl | rfl
  · exact S_R_isPlayed_0 hX hC hw hx h0 h1 h2
  · exact S_R_isPlayed_1 hX hC hw hx h0 h1 h2
  · exact S_R_isPlayed_2 hX hC hw (hF rfl) hx h0 h1 h2
  · exact S_R_isPlayed_3 hX hC hw hx h0 h1 h2
  · exact S_R_isPlayed_4 hX hC hw hx h0 h1 h2
  · exact S_R_isPlayed_5 hX hC hw hx h0 h1 h2
  · exact S_R_isPlayed_6 hX hC hw (hY6 rfl) hx h0 h1 h2
