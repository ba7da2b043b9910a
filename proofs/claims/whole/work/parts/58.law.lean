theorem clip_eq {v : Int} (h : bL v) : (if 0 < lg_cmp (lI v) 1000000 then (1000000 : Int64) else if lg_cmp (lI v) (-1000000) < 0 then (-1000000 : Int64) else lI v) = lI (c6 v) := by
  rw [show (-1000000 : Int64) = lI (-1000000) from rfl, show (1000000 : Int64) = lI 1000000 from rfl]
  have b1 : bL 1000000 := ⟨by decide, by decide⟩
  have b2 : bL (-1000000) := ⟨by decide, by decide⟩
  unfold c6
  by_cases h1 : 1000000 < v
  · rw [if_pos ((lc_gt h b1).mpr h1), if_pos h1]
  · rw [if_neg (fun q => h1 ((lc_gt h b1).mp q)), if_neg h1]
    by_cases h2 : v < -1000000
    · rw [if_pos ((lc_lt h b2).mpr h2), if_pos h2]
    · rw [if_neg (fun q => h2 ((lc_lt h b2).mp q)), if_neg h2]
theorem S_R_clip {X : Mem} {v : Int} (h : bL v) : CM 0 m_R_clip [.long (lI v)] X (rL (lI (c6 v)) X) := by
  refine CM_of (L := [some (.long (lI v)), none]) 0 ok_R_clip (fun _ => Nat.le_of_ble_eq_true rfl) rfl ?_
  refine J_lload_n (i := 0) d_R_clip_0 rfl rfl ?_
  refine J_ldc2 d_R_clip_1 w_R_330 ?_
  refine J_lcmp d_R_clip_4 ?_
  refine J_if_le (tgt := 14) d_R_clip_5 (by decide) (fun c5 => ?_) (fun c5 => ?_)
  · refine J_lload_n (i := 0) d_R_clip_14 rfl rfl ?_
    refine J_ldc2 d_R_clip_15 w_R_332 ?_
    refine J_lcmp d_R_clip_18 ?_
    refine J_if_ge (tgt := 28) d_R_clip_19 (by decide) (fun c19 => ?_) (fun c19 => ?_)
    · refine J_lload_n (i := 0) d_R_clip_28 rfl rfl ?_
      refine M_lr d_R_clip_29 rfl ?_
      first | exact ⟨by rw [← clip_eq h, if_neg (fun q => absurd c5 (Int32.not_le.mpr q)), if_neg (fun q => absurd q (Int32.not_lt.mpr c19))] <;> rfl, rfl⟩ | exact ⟨by rw [← clip_eq h, if_neg (fun q => absurd c5 (Int32.not_le.mpr q)), if_pos (Int32.not_le.mp c19)] <;> rfl, rfl⟩
    · refine J_ldc2 d_R_clip_22 w_R_332 ?_
      refine J_goto (tgt := 29) d_R_clip_25 (by decide) ?_
      refine M_lr d_R_clip_29 rfl ?_
      first | exact ⟨by rw [← clip_eq h, if_neg (fun q => absurd c5 (Int32.not_le.mpr q)), if_neg (fun q => absurd q (Int32.not_lt.mpr c19))] <;> rfl, rfl⟩ | exact ⟨by rw [← clip_eq h, if_neg (fun q => absurd c5 (Int32.not_le.mpr q)), if_pos (Int32.not_le.mp c19)] <;> rfl, rfl⟩
  · refine J_ldc2 d_R_clip_8 w_R_330 ?_
    refine J_goto (tgt := 29) d_R_clip_11 (by decide) ?_
    refine M_lr d_R_clip_29 rfl ?_
    exact ⟨by rw [← clip_eq h, if_pos (Int32.not_le.mp c5)] <;> rfl, rfl⟩

theorem S_R_two_6 {X : Mem} {x y : Int} (hx : sm x) (hy : sm y) : CM 1 m_R_two [.int (nI 6), .long (lI x), .long (lI y)] X (rL (lI (ar2 6 x y)) X) := by
  have hbl : bL (x + y) := by
    unfold sm at hx hy
    unfold bL
    omega
  refine CM_of (L := [some (.int (nI 6)), some (.long (lI x)), none, some (.long (lI y)), none]) 0 ok_R_two (fun _ => Nat.le_of_ble_eq_true rfl) rfl ?_
  refine J_iload_n (i := 0) d_R_two_0 rfl rfl ?_
  refine J_tableIn (off := 27) (tgt := 28) d_R_two_1 (by decide) (by decide) (by decide) (by decide) ?_
  refine J_lload_n (i := 1) d_R_two_28 rfl rfl ?_
  refine J_lload_n (i := 3) d_R_two_29 rfl rfl ?_
  refine J_ladd d_R_two_30 ?_
  rw [lI_add]
  refine CS_L (av := [.long (lI (x + y))]) d_R_two_31 s_R_334 (S_R_clip hbl) (by decide) rfl rfl (Nat.le_of_ble_eq_true rfl) ?_
  refine M_lr d_R_two_34 rfl ?_
  exact ⟨by rw [ar2_6], rfl⟩

theorem S_R_two_7 {X : Mem} {x y : Int} (hx : sm x) (hy : sm y) : CM 1 m_R_two [.int (nI 7), .long (lI x), .long (lI y)] X (rL (lI (ar2 7 x y)) X) := by
  have hbl : bL (x - y) := by
    unfold sm at hx hy
    unfold bL
    omega
  refine CM_of (L := [some (.int (nI 7)), some (.long (lI x)), none, some (.long (lI y)), none]) 0 ok_R_two (fun _ => Nat.le_of_ble_eq_true rfl) rfl ?_
  refine J_iload_n (i := 0) d_R_two_0 rfl rfl ?_
  refine J_tableIn (off := 34) (tgt := 35) d_R_two_1 (by decide) (by decide) (by decide) (by decide) ?_
  refine J_lload_n (i := 1) d_R_two_35 rfl rfl ?_
  refine J_lload_n (i := 3) d_R_two_36 rfl rfl ?_
  refine J_lsub d_R_two_37 ?_
  rw [lI_sub]
  refine CS_L (av := [.long (lI (x - y))]) d_R_two_38 s_R_334 (S_R_clip hbl) (by decide) rfl rfl (Nat.le_of_ble_eq_true rfl) ?_
  refine M_lr d_R_two_41 rfl ?_
  exact ⟨by rw [ar2_7], rfl⟩

theorem S_R_two_8 {X : Mem} {x y : Int} (hx : sm x) (hy : sm y) : CM 1 m_R_two [.int (nI 8), .long (lI x), .long (lI y)] X (rL (lI (ar2 8 x y)) X) := by
  have hbl : bL (x * y) := mul_sm hx hy
  refine CM_of (L := [some (.int (nI 8)), some (.long (lI x)), none, some (.long (lI y)), none]) 0 ok_R_two (fun _ => Nat.le_of_ble_eq_true rfl) rfl ?_
  refine J_iload_n (i := 0) d_R_two_0 rfl rfl ?_
  refine J_tableIn (off := 41) (tgt := 42) d_R_two_1 (by decide) (by decide) (by decide) (by decide) ?_
  refine J_lload_n (i := 1) d_R_two_42 rfl rfl ?_
  refine J_lload_n (i := 3) d_R_two_43 rfl rfl ?_
  refine J_lmul d_R_two_44 ?_
  rw [lI_mul]
  refine CS_L (av := [.long (lI (x * y))]) d_R_two_45 s_R_334 (S_R_clip hbl) (by decide) rfl rfl (Nat.le_of_ble_eq_true rfl) ?_
  refine M_lr d_R_two_48 rfl ?_
  exact ⟨by rw [ar2_8], rfl⟩

theorem S_R_two_9 {X : Mem} {x y : Int} (hx : sm x) (hy : sm y) : CM 1 m_R_two [.int (nI 9), .long (lI x), .long (lI y)] X (rL (lI (ar2 9 x y)) X) := by
  refine CM_of (L := [some (.int (nI 9)), some (.long (lI x)), none, some (.long (lI y)), none]) 0 ok_R_two (fun _ => Nat.le_of_ble_eq_true rfl) rfl ?_
  refine J_iload_n (i := 0) d_R_two_0 rfl rfl ?_
  refine J_tableOut (tgt := 49) d_R_two_1 (by decide) (by decide) ?_
  refine J_lload_n (i := 3) d_R_two_49 rfl rfl ?_
  refine J_lconst (v := 0) d_R_two_50 rfl ?_
  refine J_lcmp d_R_two_51 ?_
  refine J_if_ne (tgt := 59) d_R_two_52 (by decide) (fun c52 => ?_) (fun c52 => ?_)
  · have hy0 : ¬ y = 0 := fun q => c52 ((lc_eq (b := 0) (sm_L hy) ⟨by decide, by decide⟩).mpr q)
    refine J_lload_n (i := 1) d_R_two_59 rfl rfl ?_
    refine J_lload_n (i := 3) d_R_two_60 rfl rfl ?_
    refine J_ldiv d_R_two_61 (fun q => hy0 ((lI_eq (b := 0) (sm_L hy) ⟨by decide, by decide⟩).mp q)) ?_
    rw [lI_div (sm_L hx) (sm_L hy)]
    have hbl : bL (x.tdiv y) := div_sm hx
    refine CS_L (av := [.long (lI (x.tdiv y))]) d_R_two_62 s_R_334 (S_R_clip hbl) (by decide) rfl rfl (Nat.le_of_ble_eq_true rfl) ?_
    refine M_lr d_R_two_65 rfl ?_
    exact ⟨by rw [show ar2 9 x y = c6 (x.tdiv y) from if_neg hy0], rfl⟩
  · refine J_lconst (v := 0) d_R_two_55 rfl ?_
    refine J_goto (tgt := 65) d_R_two_56 (by decide) ?_
    refine M_lr d_R_two_65 rfl ?_
    have hy0 : y = 0 := (lc_eq (b := 0) (sm_L hy) ⟨by decide, by decide⟩).mp c52
    exact ⟨by rw [show ar2 9 x y = 0 from if_pos hy0]; rfl, rfl⟩

theorem lc3 {x y : Int} (hx : sm x) (hy : sm y) : (0 ≤ lg_cmp (lI x) (lI y) ↔ y ≤ x) ∧ (0 < lg_cmp (lI x) (lI y) ↔ y < x) ∧ (lg_cmp (lI x) (lI y) ≤ 0 ↔ x ≤ y) ∧ (lg_cmp (lI x) (lI y) < 0 ↔ x < y) ∧ (lg_cmp (lI x) (lI y) = 0 ↔ x = y) := by
  have h1 := lc_lt (sm_L hx) (sm_L hy)
  have h2 := lc_gt (sm_L hx) (sm_L hy)
  refine ⟨?_, h2, ?_, h1, lc_eq (sm_L hx) (sm_L hy)⟩
  · rw [← Int32.not_lt, h1]; omega
  · rw [← Int32.not_lt, h2]; omega
theorem S_R_isAsked_10 {X : Mem} {x y : Int} (hx : sm x) (hy : sm y) : CM 0 m_R_isAsked [.int (nI 10), .long (lI x), .long (lI y)] X (rB (cp2 10 x y) X) := by
  obtain ⟨l1, l2, l3, l4, l5⟩ := lc3 hx hy
  refine CM_of (L := [some (.int (nI 10)), some (.long (lI x)), none, some (.long (lI y)), none]) 0 ok_R_isAsked (fun _ => Nat.le_of_ble_eq_true rfl) rfl ?_
  refine J_iload_n (i := 0) d_R_isAsked_0 rfl rfl ?_
  refine J_bipush (v := nI 10) d_R_isAsked_1 rfl ?_
  refine N_icmp_ne (tgt := 20) d_R_isAsked_3 (by decide) (by omega) (by omega) (fun c3 => absurd c3 (by decide)) (fun c3 => ?_)
  refine J_lload_n (i := 1) d_R_isAsked_6 rfl rfl ?_
  refine J_lload_n (i := 3) d_R_isAsked_7 rfl rfl ?_
  refine J_lcmp d_R_isAsked_8 ?_
  refine J_if_ge (tgt := 16) d_R_isAsked_9 (by decide) (fun c9 => ?_) (fun c9 => ?_)
  · refine J_iconst (v := nI 0) d_R_isAsked_16 rfl ?_
    refine J_goto (tgt := 111) d_R_isAsked_17 (by decide) ?_
    refine J.eq (st1 := [.int (b2i false)]) ?_ rfl rfl rfl
    refine M_ir d_R_isAsked_111 rfl b2i_nar ?_
    have hc := c9
    have e : cp2 10 x y = false := by
      show (decide (x < y)) = false
      first | rw [l1] at hc | rw [l2] at hc | rw [l3] at hc | rw [l4] at hc | rw [l5] at hc
      exact decide_eq_false (by omega)
    exact ⟨by rw [e], rfl⟩
  · refine J_iconst (v := nI 1) d_R_isAsked_12 rfl ?_
    refine J_goto (tgt := 111) d_R_isAsked_13 (by decide) ?_
    refine J.eq (st1 := [.int (b2i true)]) ?_ rfl rfl rfl
    refine M_ir d_R_isAsked_111 rfl b2i_nar ?_
    have hc := c9
    have e : cp2 10 x y = true := by
      show (decide (x < y)) = true
      first | rw [l1] at hc | rw [l2] at hc | rw [l3] at hc | rw [l4] at hc | rw [l5] at hc
      exact decide_eq_true (by omega)
    exact ⟨by rw [e], rfl⟩

theorem S_R_isAsked_11 {X : Mem} {x y : Int} (hx : sm x) (hy : sm y) : CM 0 m_R_isAsked [.int (nI 11), .long (lI x), .long (lI y)] X (rB (cp2 11 x y) X) := by
  obtain ⟨l1, l2, l3, l4, l5⟩ := lc3 hx hy
  refine CM_of (L := [some (.int (nI 11)), some (.long (lI x)), none, some (.long (lI y)), none]) 0 ok_R_isAsked (fun _ => Nat.le_of_ble_eq_true rfl) rfl ?_
  refine J_iload_n (i := 0) d_R_isAsked_0 rfl rfl ?_
  refine J_bipush (v := nI 10) d_R_isAsked_1 rfl ?_
  refine N_icmp_ne (tgt := 20) d_R_isAsked_3 (by decide) (by omega) (by omega) (fun c3 => ?_) (fun c3 => absurd c3 (by decide))
  refine J_iload_n (i := 0) d_R_isAsked_20 rfl rfl ?_
  refine J_bipush (v := nI 11) d_R_isAsked_21 rfl ?_
  refine N_icmp_ne (tgt := 40) d_R_isAsked_23 (by decide) (by omega) (by omega) (fun c23 => absurd c23 (by decide)) (fun c23 => ?_)
  refine J_lload_n (i := 1) d_R_isAsked_26 rfl rfl ?_
  refine J_lload_n (i := 3) d_R_isAsked_27 rfl rfl ?_
  refine J_lcmp d_R_isAsked_28 ?_
  refine J_if_gt (tgt := 36) d_R_isAsked_29 (by decide) (fun c29 => ?_) (fun c29 => ?_)
  · refine J_iconst (v := nI 0) d_R_isAsked_36 rfl ?_
    refine J_goto (tgt := 111) d_R_isAsked_37 (by decide) ?_
    refine J.eq (st1 := [.int (b2i false)]) ?_ rfl rfl rfl
    refine M_ir d_R_isAsked_111 rfl b2i_nar ?_
    have hc := c29
    have e : cp2 11 x y = false := by
      show (decide (x ≤ y)) = false
      first | rw [l1] at hc | rw [l2] at hc | rw [l3] at hc | rw [l4] at hc | rw [l5] at hc
      exact decide_eq_false (by omega)
    exact ⟨by rw [e], rfl⟩
  · refine J_iconst (v := nI 1) d_R_isAsked_32 rfl ?_
    refine J_goto (tgt := 111) d_R_isAsked_33 (by decide) ?_
    refine J.eq (st1 := [.int (b2i true)]) ?_ rfl rfl rfl
    refine M_ir d_R_isAsked_111 rfl b2i_nar ?_
    have hc := c29
    have e : cp2 11 x y = true := by
      show (decide (x ≤ y)) = true
      first | rw [l1] at hc | rw [l2] at hc | rw [l3] at hc | rw [l4] at hc | rw [l5] at hc
      exact decide_eq_true (by omega)
    exact ⟨by rw [e], rfl⟩

theorem S_R_isAsked_12 {X : Mem} {x y : Int} (hx : sm x) (hy : sm y) : CM 0 m_R_isAsked [.int (nI 12), .long (lI x), .long (lI y)] X (rB (cp2 12 x y) X) := by
  obtain ⟨l1, l2, l3, l4, l5⟩ := lc3 hx hy
  refine CM_of (L := [some (.int (nI 12)), some (.long (lI x)), none, some (.long (lI y)), none]) 0 ok_R_isAsked (fun _ => Nat.le_of_ble_eq_true rfl) rfl ?_
  refine J_iload_n (i := 0) d_R_isAsked_0 rfl rfl ?_
  refine J_bipush (v := nI 10) d_R_isAsked_1 rfl ?_
  refine N_icmp_ne (tgt := 20) d_R_isAsked_3 (by decide) (by omega) (by omega) (fun c3 => ?_) (fun c3 => absurd c3 (by decide))
  refine J_iload_n (i := 0) d_R_isAsked_20 rfl rfl ?_
  refine J_bipush (v := nI 11) d_R_isAsked_21 rfl ?_
  refine N_icmp_ne (tgt := 40) d_R_isAsked_23 (by decide) (by omega) (by omega) (fun c23 => ?_) (fun c23 => absurd c23 (by decide))
  refine J_iload_n (i := 0) d_R_isAsked_40 rfl rfl ?_
  refine J_bipush (v := nI 12) d_R_isAsked_41 rfl ?_
  refine N_icmp_ne (tgt := 60) d_R_isAsked_43 (by decide) (by omega) (by omega) (fun c43 => absurd c43 (by decide)) (fun c43 => ?_)
  refine J_lload_n (i := 1) d_R_isAsked_46 rfl rfl ?_
  refine J_lload_n (i := 3) d_R_isAsked_47 rfl rfl ?_
  refine J_lcmp d_R_isAsked_48 ?_
  refine J_if_le (tgt := 56) d_R_isAsked_49 (by decide) (fun c49 => ?_) (fun c49 => ?_)
  · refine J_iconst (v := nI 0) d_R_isAsked_56 rfl ?_
    refine J_goto (tgt := 111) d_R_isAsked_57 (by decide) ?_
    refine J.eq (st1 := [.int (b2i false)]) ?_ rfl rfl rfl
    refine M_ir d_R_isAsked_111 rfl b2i_nar ?_
    have hc := c49
    have e : cp2 12 x y = false := by
      show (decide (y < x)) = false
      first | rw [l1] at hc | rw [l2] at hc | rw [l3] at hc | rw [l4] at hc | rw [l5] at hc
      exact decide_eq_false (by omega)
    exact ⟨by rw [e], rfl⟩
  · refine J_iconst (v := nI 1) d_R_isAsked_52 rfl ?_
    refine J_goto (tgt := 111) d_R_isAsked_53 (by decide) ?_
    refine J.eq (st1 := [.int (b2i true)]) ?_ rfl rfl rfl
    refine M_ir d_R_isAsked_111 rfl b2i_nar ?_
    have hc := c49
    have e : cp2 12 x y = true := by
      show (decide (y < x)) = true
      first | rw [l1] at hc | rw [l2] at hc | rw [l3] at hc | rw [l4] at hc | rw [l5] at hc
      exact decide_eq_true (by omega)
    exact ⟨by rw [e], rfl⟩

theorem S_R_isAsked_13 {X : Mem} {x y : Int} (hx : sm x) (hy : sm y) : CM 0 m_R_isAsked [.int (nI 13), .long (lI x), .long (lI y)] X (rB (cp2 13 x y) X) := by
  obtain ⟨l1, l2, l3, l4, l5⟩ := lc3 hx hy
  refine CM_of (L := [some (.int (nI 13)), some (.long (lI x)), none, some (.long (lI y)), none]) 0 ok_R_isAsked (fun _ => Nat.le_of_ble_eq_true rfl) rfl ?_
  refine J_iload_n (i := 0) d_R_isAsked_0 rfl rfl ?_
  refine J_bipush (v := nI 10) d_R_isAsked_1 rfl ?_
  refine N_icmp_ne (tgt := 20) d_R_isAsked_3 (by decide) (by omega) (by omega) (fun c3 => ?_) (fun c3 => absurd c3 (by decide))
  refine J_iload_n (i := 0) d_R_isAsked_20 rfl rfl ?_
  refine J_bipush (v := nI 11) d_R_isAsked_21 rfl ?_
  refine N_icmp_ne (tgt := 40) d_R_isAsked_23 (by decide) (by omega) (by omega) (fun c23 => ?_) (fun c23 => absurd c23 (by decide))
  refine J_iload_n (i := 0) d_R_isAsked_40 rfl rfl ?_
  refine J_bipush (v := nI 12) d_R_isAsked_41 rfl ?_
  refine N_icmp_ne (tgt := 60) d_R_isAsked_43 (by decide) (by omega) (by omega) (fun c43 => ?_) (fun c43 => absurd c43 (by decide))
  refine J_iload_n (i := 0) d_R_isAsked_60 rfl rfl ?_
  refine J_bipush (v := nI 13) d_R_isAsked_61 rfl ?_
  refine N_icmp_ne (tgt := 80) d_R_isAsked_63 (by decide) (by omega) (by omega) (fun c63 => absurd c63 (by decide)) (fun c63 => ?_)
  refine J_lload_n (i := 1) d_R_isAsked_66 rfl rfl ?_
  refine J_lload_n (i := 3) d_R_isAsked_67 rfl rfl ?_
  refine J_lcmp d_R_isAsked_68 ?_
  refine J_if_lt (tgt := 76) d_R_isAsked_69 (by decide) (fun c69 => ?_) (fun c69 => ?_)
  · refine J_iconst (v := nI 0) d_R_isAsked_76 rfl ?_
    refine J_goto (tgt := 111) d_R_isAsked_77 (by decide) ?_
    refine J.eq (st1 := [.int (b2i false)]) ?_ rfl rfl rfl
    refine M_ir d_R_isAsked_111 rfl b2i_nar ?_
    have hc := c69
    have e : cp2 13 x y = false := by
      show (decide (y ≤ x)) = false
      first | rw [l1] at hc | rw [l2] at hc | rw [l3] at hc | rw [l4] at hc | rw [l5] at hc
      exact decide_eq_false (by omega)
    exact ⟨by rw [e], rfl⟩
  · refine J_iconst (v := nI 1) d_R_isAsked_72 rfl ?_
    refine J_goto (tgt := 111) d_R_isAsked_73 (by decide) ?_
    refine J.eq (st1 := [.int (b2i true)]) ?_ rfl rfl rfl
    refine M_ir d_R_isAsked_111 rfl b2i_nar ?_
    have hc := c69
    have e : cp2 13 x y = true := by
      show (decide (y ≤ x)) = true
      first | rw [l1] at hc | rw [l2] at hc | rw [l3] at hc | rw [l4] at hc | rw [l5] at hc
      exact decide_eq_true (by omega)
    exact ⟨by rw [e], rfl⟩

theorem S_R_isAsked_14 {X : Mem} {x y : Int} (hx : sm x) (hy : sm y) : CM 0 m_R_isAsked [.int (nI 14), .long (lI x), .long (lI y)] X (rB (cp2 14 x y) X) := by
  obtain ⟨l1, l2, l3, l4, l5⟩ := lc3 hx hy
  refine CM_of (L := [some (.int (nI 14)), some (.long (lI x)), none, some (.long (lI y)), none]) 0 ok_R_isAsked (fun _ => Nat.le_of_ble_eq_true rfl) rfl ?_
  refine J_iload_n (i := 0) d_R_isAsked_0 rfl rfl ?_
  refine J_bipush (v := nI 10) d_R_isAsked_1 rfl ?_
  refine N_icmp_ne (tgt := 20) d_R_isAsked_3 (by decide) (by omega) (by omega) (fun c3 => ?_) (fun c3 => absurd c3 (by decide))
  refine J_iload_n (i := 0) d_R_isAsked_20 rfl rfl ?_
  refine J_bipush (v := nI 11) d_R_isAsked_21 rfl ?_
  refine N_icmp_ne (tgt := 40) d_R_isAsked_23 (by decide) (by omega) (by omega) (fun c23 => ?_) (fun c23 => absurd c23 (by decide))
  refine J_iload_n (i := 0) d_R_isAsked_40 rfl rfl ?_
  refine J_bipush (v := nI 12) d_R_isAsked_41 rfl ?_
  refine N_icmp_ne (tgt := 60) d_R_isAsked_43 (by decide) (by omega) (by omega) (fun c43 => ?_) (fun c43 => absurd c43 (by decide))
  refine J_iload_n (i := 0) d_R_isAsked_60 rfl rfl ?_
  refine J_bipush (v := nI 13) d_R_isAsked_61 rfl ?_
  refine N_icmp_ne (tgt := 80) d_R_isAsked_63 (by decide) (by omega) (by omega) (fun c63 => ?_) (fun c63 => absurd c63 (by decide))
  refine J_iload_n (i := 0) d_R_isAsked_80 rfl rfl ?_
  refine J_bipush (v := nI 14) d_R_isAsked_81 rfl ?_
  refine N_icmp_ne (tgt := 100) d_R_isAsked_83 (by decide) (by omega) (by omega) (fun c83 => absurd c83 (by decide)) (fun c83 => ?_)
  refine J_lload_n (i := 1) d_R_isAsked_86 rfl rfl ?_
  refine J_lload_n (i := 3) d_R_isAsked_87 rfl rfl ?_
  refine J_lcmp d_R_isAsked_88 ?_
  refine J_if_ne (tgt := 96) d_R_isAsked_89 (by decide) (fun c89 => ?_) (fun c89 => ?_)
  · refine J_iconst (v := nI 0) d_R_isAsked_96 rfl ?_
    refine J_goto (tgt := 111) d_R_isAsked_97 (by decide) ?_
    refine J.eq (st1 := [.int (b2i false)]) ?_ rfl rfl rfl
    refine M_ir d_R_isAsked_111 rfl b2i_nar ?_
    have hc := c89
    have e : cp2 14 x y = false := by
      show (decide (x = y)) = false
      first | rw [l1] at hc | rw [l2] at hc | rw [l3] at hc | rw [l4] at hc | rw [l5] at hc
      exact decide_eq_false (by omega)
    exact ⟨by rw [e], rfl⟩
  · refine J_iconst (v := nI 1) d_R_isAsked_92 rfl ?_
    refine J_goto (tgt := 111) d_R_isAsked_93 (by decide) ?_
    refine J.eq (st1 := [.int (b2i true)]) ?_ rfl rfl rfl
    refine M_ir d_R_isAsked_111 rfl b2i_nar ?_
    have hc := c89
    have e : cp2 14 x y = true := by
      show (decide (x = y)) = true
      first | rw [l1] at hc | rw [l2] at hc | rw [l3] at hc | rw [l4] at hc | rw [l5] at hc
      exact decide_eq_true (by omega)
    exact ⟨by rw [e], rfl⟩

theorem S_R_isAsked_15 {X : Mem} {x y : Int} (hx : sm x) (hy : sm y) : CM 0 m_R_isAsked [.int (nI 15), .long (lI x), .long (lI y)] X (rB (cp2 15 x y) X) := by
  obtain ⟨l1, l2, l3, l4, l5⟩ := lc3 hx hy
  refine CM_of (L := [some (.int (nI 15)), some (.long (lI x)), none, some (.long (lI y)), none]) 0 ok_R_isAsked (fun _ => Nat.le_of_ble_eq_true rfl) rfl ?_
  refine J_iload_n (i := 0) d_R_isAsked_0 rfl rfl ?_
  refine J_bipush (v := nI 10) d_R_isAsked_1 rfl ?_
  refine N_icmp_ne (tgt := 20) d_R_isAsked_3 (by decide) (by omega) (by omega) (fun c3 => ?_) (fun c3 => absurd c3 (by decide))
  refine J_iload_n (i := 0) d_R_isAsked_20 rfl rfl ?_
  refine J_bipush (v := nI 11) d_R_isAsked_21 rfl ?_
  refine N_icmp_ne (tgt := 40) d_R_isAsked_23 (by decide) (by omega) (by omega) (fun c23 => ?_) (fun c23 => absurd c23 (by decide))
  refine J_iload_n (i := 0) d_R_isAsked_40 rfl rfl ?_
  refine J_bipush (v := nI 12) d_R_isAsked_41 rfl ?_
  refine N_icmp_ne (tgt := 60) d_R_isAsked_43 (by decide) (by omega) (by omega) (fun c43 => ?_) (fun c43 => absurd c43 (by decide))
  refine J_iload_n (i := 0) d_R_isAsked_60 rfl rfl ?_
  refine J_bipush (v := nI 13) d_R_isAsked_61 rfl ?_
  refine N_icmp_ne (tgt := 80) d_R_isAsked_63 (by decide) (by omega) (by omega) (fun c63 => ?_) (fun c63 => absurd c63 (by decide))
  refine J_iload_n (i := 0) d_R_isAsked_80 rfl rfl ?_
  refine J_bipush (v := nI 14) d_R_isAsked_81 rfl ?_
  refine N_icmp_ne (tgt := 100) d_R_isAsked_83 (by decide) (by omega) (by omega) (fun c83 => ?_) (fun c83 => absurd c83 (by decide))
  refine J_lload_n (i := 1) d_R_isAsked_100 rfl rfl ?_
  refine J_lload_n (i := 3) d_R_isAsked_101 rfl rfl ?_
  refine J_lcmp d_R_isAsked_102 ?_
  refine J_if_eq (tgt := 110) d_R_isAsked_103 (by decide) (fun c103 => ?_) (fun c103 => ?_)
  · refine J_iconst (v := nI 0) d_R_isAsked_110 rfl ?_
    refine J.eq (st1 := [.int (b2i false)]) ?_ rfl rfl rfl
    refine M_ir d_R_isAsked_111 rfl b2i_nar ?_
    have hc := c103
    have e : cp2 15 x y = false := by
      show (!decide (x = y)) = false
      first | rw [l1] at hc | rw [l2] at hc | rw [l3] at hc | rw [l4] at hc | rw [l5] at hc
      exact by rw [decide_eq_true (by omega)]; rfl
    exact ⟨by rw [e], rfl⟩
  · refine J_iconst (v := nI 1) d_R_isAsked_106 rfl ?_
    refine J_goto (tgt := 111) d_R_isAsked_107 (by decide) ?_
    refine J.eq (st1 := [.int (b2i true)]) ?_ rfl rfl rfl
    refine M_ir d_R_isAsked_111 rfl b2i_nar ?_
    have hc := c103
    have e : cp2 15 x y = true := by
      show (!decide (x = y)) = true
      first | rw [l1] at hc | rw [l2] at hc | rw [l3] at hc | rw [l4] at hc | rw [l5] at hc
      exact by rw [decide_eq_false (by omega)]; rfl
    exact ⟨by rw [e], rfl⟩

theorem S_R_joinedTruth_21 {X : Mem} {x y : Bool} : CM 0 m_R_joinedTruth [.int (nI 21), .int (b2i x), .int (b2i y)] X (rB (x && y) X) := by
  refine CM_of (L := [some (.int (nI 21)), some (.int (b2i x)), some (.int (b2i y))]) 0 ok_R_joinedTruth (fun _ => Nat.le_of_ble_eq_true rfl) rfl ?_
  refine J_iload_n (i := 0) d_R_joinedTruth_0 rfl rfl ?_
  refine J_bipush (v := nI 21) d_R_joinedTruth_1 rfl ?_
  refine N_icmp_ne (tgt := 22) d_R_joinedTruth_3 (by decide) (by omega) (by omega) (fun c3 => absurd c3 (by decide)) (fun c3 => ?_)
  refine J_iload_n (i := 1) d_R_joinedTruth_6 rfl rfl ?_
  refine B_if_eq (tgt := 18) d_R_joinedTruth_7 (by decide) (fun c7 => ?_) (fun c7 => ?_)
  · refine J_iconst (v := nI 0) d_R_joinedTruth_18 rfl ?_
    refine J_goto (tgt := 35) d_R_joinedTruth_19 (by decide) ?_
    refine J.eq (st1 := [.int (b2i false)]) ?_ rfl rfl rfl
    refine M_ir d_R_joinedTruth_35 rfl b2i_nar ?_
    exact ⟨by rw [c7] <;> rfl, rfl⟩
  · refine J_iload_n (i := 2) d_R_joinedTruth_10 rfl rfl ?_
    refine B_if_eq (tgt := 18) d_R_joinedTruth_11 (by decide) (fun c11 => ?_) (fun c11 => ?_)
    · refine J_iconst (v := nI 0) d_R_joinedTruth_18 rfl ?_
      refine J_goto (tgt := 35) d_R_joinedTruth_19 (by decide) ?_
      refine J.eq (st1 := [.int (b2i false)]) ?_ rfl rfl rfl
      refine M_ir d_R_joinedTruth_35 rfl b2i_nar ?_
      exact ⟨by rw [c7, c11] <;> rfl, rfl⟩
    · refine J_iconst (v := nI 1) d_R_joinedTruth_14 rfl ?_
      refine J_goto (tgt := 35) d_R_joinedTruth_15 (by decide) ?_
      refine J.eq (st1 := [.int (b2i true)]) ?_ rfl rfl rfl
      refine M_ir d_R_joinedTruth_35 rfl b2i_nar ?_
      exact ⟨by rw [c7, c11] <;> rfl, rfl⟩

theorem S_R_joinedTruth_22 {X : Mem} {x y : Bool} : CM 0 m_R_joinedTruth [.int (nI 22), .int (b2i x), .int (b2i y)] X (rB (x || y) X) := by
  refine CM_of (L := [some (.int (nI 22)), some (.int (b2i x)), some (.int (b2i y))]) 0 ok_R_joinedTruth (fun _ => Nat.le_of_ble_eq_true rfl) rfl ?_
  refine J_iload_n (i := 0) d_R_joinedTruth_0 rfl rfl ?_
  refine J_bipush (v := nI 21) d_R_joinedTruth_1 rfl ?_
  refine N_icmp_ne (tgt := 22) d_R_joinedTruth_3 (by decide) (by omega) (by omega) (fun c3 => ?_) (fun c3 => absurd c3 (by decide))
  refine J_iload_n (i := 1) d_R_joinedTruth_22 rfl rfl ?_
  refine B_if_ne (tgt := 30) d_R_joinedTruth_23 (by decide) (fun c23 => ?_) (fun c23 => ?_)
  · refine J_iconst (v := nI 1) d_R_joinedTruth_30 rfl ?_
    refine J_goto (tgt := 35) d_R_joinedTruth_31 (by decide) ?_
    refine J.eq (st1 := [.int (b2i true)]) ?_ rfl rfl rfl
    refine M_ir d_R_joinedTruth_35 rfl b2i_nar ?_
    exact ⟨by rw [c23] <;> rfl, rfl⟩
  · refine J_iload_n (i := 2) d_R_joinedTruth_26 rfl rfl ?_
    refine B_if_eq (tgt := 34) d_R_joinedTruth_27 (by decide) (fun c27 => ?_) (fun c27 => ?_)
    · refine J_iconst (v := nI 0) d_R_joinedTruth_34 rfl ?_
      refine J.eq (st1 := [.int (b2i false)]) ?_ rfl rfl rfl
      refine M_ir d_R_joinedTruth_35 rfl b2i_nar ?_
      exact ⟨by rw [c23, c27] <;> rfl, rfl⟩
    · refine J_iconst (v := nI 1) d_R_joinedTruth_30 rfl ?_
      refine J_goto (tgt := 35) d_R_joinedTruth_31 (by decide) ?_
      refine J.eq (st1 := [.int (b2i true)]) ?_ rfl rfl rfl
      refine M_ir d_R_joinedTruth_35 rfl b2i_nar ?_
      exact ⟨by rw [c23, c27] <;> rfl, rfl⟩

theorem hld_n {v : Int} {t : Nat} (hv : sm v) (ht : t ≤ 99) : (if lg_cmp (lI v) ((nI 0).toInt64) < 0 then nI 0 else if 0 < lg_cmp (lI v) ((nI t).toInt64) then nI t else (lI v).toInt32) = nI (cgN v t) := by
  have b0 : bI (0 : Int) := ⟨by decide, by decide⟩
  have bt : bI (t : Int) := ⟨by omega, by omega⟩
  have bt2 : bL (t : Int) := ⟨by omega, by omega⟩
  have bz2 : bL (0 : Int) := ⟨by decide, by decide⟩
  rw [show nI 0 = jI 0 from rfl, jI_64 b0, ← jI_n t, jI_64 bt, lI_32]
  unfold cgN
  by_cases h1 : v < 0
  · rw [if_pos ((lc_lt (sm_L hv) bz2).mpr h1), if_pos h1]; rfl
  · rw [if_neg (fun q => h1 ((lc_lt (sm_L hv) bz2).mp q)), if_neg h1]
    by_cases h2 : (t : Int) < v
    · rw [if_pos ((lc_gt (sm_L hv) bt2).mpr h2), if_pos h2, jI_n]
    · rw [if_neg (fun q => h2 ((lc_gt (sm_L hv) bt2).mp q)), if_neg h2, ← jI_n, Int.toNat_of_nonneg (by omega)]
theorem S_R_held0 {X : Mem} {v : Int64} {t : Nat} : CM 0 m_R_held [.long v, .int (nI 0), .int (nI t)] X (rI (if lg_cmp v ((nI 0).toInt64) < 0 then nI 0 else if 0 < lg_cmp v ((nI t).toInt64) then nI t else v.toInt32) X) := by
  refine CM_of (L := [some (.long v), none, some (.int (nI 0)), some (.int (nI t))]) 0 ok_R_held (fun _ => Nat.le_of_ble_eq_true rfl) rfl ?_
  refine J_lload_n (i := 0) d_R_held_0 rfl rfl ?_
  refine J_iload_n (i := 2) d_R_held_1 rfl rfl ?_
  refine J_i2l d_R_held_2 ?_
  refine J_lcmp d_R_held_3 ?_
  refine J_if_ge (tgt := 11) d_R_held_4 (by decide) (fun c4 => ?_) (fun c4 => ?_)
  · refine J_lload_n (i := 0) d_R_held_11 rfl rfl ?_
    refine J_iload_n (i := 3) d_R_held_12 rfl rfl ?_
    refine J_i2l d_R_held_13 ?_
    refine J_lcmp d_R_held_14 ?_
    refine J_if_le (tgt := 22) d_R_held_15 (by decide) (fun c15 => ?_) (fun c15 => ?_)
    · refine J_lload_n (i := 0) d_R_held_22 rfl rfl ?_
      refine J_l2i d_R_held_23 ?_
      refine M_ir d_R_held_24 rfl rfl ?_
      first | exact ⟨by rw [if_neg (fun q => absurd c4 (Int32.not_le.mpr q)), if_neg (fun q => absurd c15 (Int32.not_le.mpr q))], rfl⟩ | exact ⟨by rw [if_neg (fun q => absurd q (Int32.not_lt.mpr c4)), if_neg (fun q => absurd q (Int32.not_lt.mpr c15))], rfl⟩ | exact ⟨by rw [if_neg (fun q => absurd q (Int32.not_lt.mpr c4)), if_pos (Int32.not_le.mp c15)], rfl⟩
    · refine J_iload_n (i := 3) d_R_held_18 rfl rfl ?_
      refine J_goto (tgt := 24) d_R_held_19 (by decide) ?_
      refine M_ir d_R_held_24 rfl rfl ?_
      first | exact ⟨by rw [if_neg (fun q => absurd c4 (Int32.not_le.mpr q)), if_neg (fun q => absurd c15 (Int32.not_le.mpr q))], rfl⟩ | exact ⟨by rw [if_neg (fun q => absurd q (Int32.not_lt.mpr c4)), if_neg (fun q => absurd q (Int32.not_lt.mpr c15))], rfl⟩ | exact ⟨by rw [if_neg (fun q => absurd q (Int32.not_lt.mpr c4)), if_pos (Int32.not_le.mp c15)], rfl⟩
  · refine J_iload_n (i := 2) d_R_held_7 rfl rfl ?_
    refine J_goto (tgt := 24) d_R_held_8 (by decide) ?_
    refine M_ir d_R_held_24 rfl rfl ?_
    exact ⟨by rw [if_pos (Int32.not_le.mp c4)], rfl⟩

