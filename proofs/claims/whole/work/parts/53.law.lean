theorem hold_eq {v : Int} (h : bL v) : (if (if lI v < 1000000 then lI v else 1000000) < -1000000 then (-1000000 : Int64) else (if lI v < 1000000 then lI v else 1000000)).toInt32 = jI (c6 v) := by
  have e1 : (1000000 : Int64) = lI 1000000 := rfl
  have e2 : (-1000000 : Int64) = lI (-1000000) := rfl
  have b1 : bL 1000000 := ⟨by decide, by decide⟩
  have b2 : bL (-1000000) := ⟨by decide, by decide⟩
  rw [e2, e1, c6]
  by_cases h1 : v < 1000000
  · rw [if_pos ((lI_lt h b1).mpr h1), if_neg (show ¬ 1000000 < v by omega)]
    by_cases h3 : v < -1000000
    · rw [if_pos ((lI_lt h b2).mpr h3), if_pos h3]; exact lI_32 _
    · rw [if_neg (fun q => h3 ((lI_lt h b2).mp q)), if_neg h3]; exact lI_32 _
  · rw [if_neg (fun q => h1 ((lI_lt h b1).mp q)), if_neg (fun q => by have := (lI_lt b1 b2).mp q; omega)]
    by_cases h3 : 1000000 < v
    · rw [if_pos h3]; exact lI_32 _
    · rw [if_neg h3, if_neg (by omega), show v = 1000000 by omega]; exact lI_32 _
theorem S_L_hold {X : Mem} {v : Int} (h : bL v) : CM 1 m_L_hold [.long (lI v)] X (rI (jI (c6 v)) X) := by
  refine CM_of (L := [some (.long (lI v)), none]) 0 ok_L_hold (fun _ => Nat.le_of_ble_eq_true rfl) rfl ?_
  refine J_ldc2 d_L_hold_0 w_L_117 ?_
  refine J_ldc2 d_L_hold_3 w_L_119 ?_
  refine J_lload_n (i := 0) d_L_hold_6 rfl rfl ?_
  refine J_mminL d_L_hold_7 w_L_121 w_math_minL_s w_mathInit w_math_minL_c (by omega) (Nat.le_of_ble_eq_true rfl) ?_
  refine J_mmaxL d_L_hold_10 w_L_124 w_math_maxL_s w_mathInit w_math_maxL_c (by omega) (Nat.le_of_ble_eq_true rfl) ?_
  refine J_l2i d_L_hold_13 ?_
  refine M_ir d_L_hold_14 rfl rfl ?_
  exact ⟨by rw [← hold_eq h], rfl⟩

theorem S_L_compares_32 {X : Mem} {x y : Int} (hx : sm x) (hy : sm y) : CM 0 m_L_compares [.int (nI 32), .int (jI x), .int (jI y)] X (rB (cp2 10 x y) X) := by
  have ix := sm_I hx
  have iy := sm_I hy
  have l1 := jI_le ix iy
  have l2 := jI_le iy ix
  have l3 := jI_lt ix iy
  have l4 := jI_lt iy ix
  have l5 := jI_eq ix iy
  refine CM_of (L := [some (.int (nI 32)), some (.int (jI x)), some (.int (jI y))]) 0 ok_L_compares (fun _ => Nat.le_of_ble_eq_true rfl) rfl ?_
  refine J_iload_n (i := 0) d_L_compares_0 rfl rfl ?_
  refine J_tableIn (off := 67) (tgt := 68) d_L_compares_1 (by decide) (by decide) (by decide) (by decide) ?_
  refine J_iload_n (i := 1) d_L_compares_68 rfl rfl ?_
  refine J_iload_n (i := 2) d_L_compares_69 rfl rfl ?_
  refine J_icmp_ge (tgt := 77) d_L_compares_70 (by decide) (fun c70 => ?_) (fun c70 => ?_)
  · refine J_iconst (v := nI 0) d_L_compares_77 rfl ?_
    refine J.eq (st1 := [.int (b2i false)]) ?_ rfl rfl rfl
    refine M_ir d_L_compares_78 rfl b2i_nar ?_
    have hc := c70
    have e : cp2 10 x y = false := by
      show (decide (x < y)) = false
      first | rw [l1] at hc | rw [l2] at hc | rw [l3] at hc | rw [l4] at hc | rw [l5] at hc
      exact decide_eq_false (by omega)
    exact ⟨by rw [e], rfl⟩
  · refine J_iconst (v := nI 1) d_L_compares_73 rfl ?_
    refine J_goto (tgt := 78) d_L_compares_74 (by decide) ?_
    refine J.eq (st1 := [.int (b2i true)]) ?_ rfl rfl rfl
    refine M_ir d_L_compares_78 rfl b2i_nar ?_
    have hc := c70
    have e : cp2 10 x y = true := by
      show (decide (x < y)) = true
      first | rw [l1] at hc | rw [l2] at hc | rw [l3] at hc | rw [l4] at hc | rw [l5] at hc
      exact decide_eq_true (by omega)
    exact ⟨by rw [e], rfl⟩

theorem S_L_compares_43 {X : Mem} {x y : Int} (hx : sm x) (hy : sm y) : CM 0 m_L_compares [.int (nI 43), .int (jI x), .int (jI y)] X (rB (cp2 11 x y) X) := by
  have ix := sm_I hx
  have iy := sm_I hy
  have l1 := jI_le ix iy
  have l2 := jI_le iy ix
  have l3 := jI_lt ix iy
  have l4 := jI_lt iy ix
  have l5 := jI_eq ix iy
  refine CM_of (L := [some (.int (nI 43)), some (.int (jI x)), some (.int (jI y))]) 0 ok_L_compares (fun _ => Nat.le_of_ble_eq_true rfl) rfl ?_
  refine J_iload_n (i := 0) d_L_compares_0 rfl rfl ?_
  refine J_tableIn (off := 78) (tgt := 79) d_L_compares_1 (by decide) (by decide) (by decide) (by decide) ?_
  refine J_iload_n (i := 1) d_L_compares_79 rfl rfl ?_
  refine J_iload_n (i := 2) d_L_compares_80 rfl rfl ?_
  refine J_icmp_gt (tgt := 88) d_L_compares_81 (by decide) (fun c81 => ?_) (fun c81 => ?_)
  · refine J_iconst (v := nI 0) d_L_compares_88 rfl ?_
    refine J.eq (st1 := [.int (b2i false)]) ?_ rfl rfl rfl
    refine M_ir d_L_compares_89 rfl b2i_nar ?_
    have hc := c81
    have e : cp2 11 x y = false := by
      show (decide (x ≤ y)) = false
      first | rw [l1] at hc | rw [l2] at hc | rw [l3] at hc | rw [l4] at hc | rw [l5] at hc
      exact decide_eq_false (by omega)
    exact ⟨by rw [e], rfl⟩
  · refine J_iconst (v := nI 1) d_L_compares_84 rfl ?_
    refine J_goto (tgt := 89) d_L_compares_85 (by decide) ?_
    refine J.eq (st1 := [.int (b2i true)]) ?_ rfl rfl rfl
    refine M_ir d_L_compares_89 rfl b2i_nar ?_
    have hc := c81
    have e : cp2 11 x y = true := by
      show (decide (x ≤ y)) = true
      first | rw [l1] at hc | rw [l2] at hc | rw [l3] at hc | rw [l4] at hc | rw [l5] at hc
      exact decide_eq_true (by omega)
    exact ⟨by rw [e], rfl⟩

theorem S_L_compares_33 {X : Mem} {x y : Int} (hx : sm x) (hy : sm y) : CM 0 m_L_compares [.int (nI 33), .int (jI x), .int (jI y)] X (rB (cp2 12 x y) X) := by
  have ix := sm_I hx
  have iy := sm_I hy
  have l1 := jI_le ix iy
  have l2 := jI_le iy ix
  have l3 := jI_lt ix iy
  have l4 := jI_lt iy ix
  have l5 := jI_eq ix iy
  refine CM_of (L := [some (.int (nI 33)), some (.int (jI x)), some (.int (jI y))]) 0 ok_L_compares (fun _ => Nat.le_of_ble_eq_true rfl) rfl ?_
  refine J_iload_n (i := 0) d_L_compares_0 rfl rfl ?_
  refine J_tableIn (off := 89) (tgt := 90) d_L_compares_1 (by decide) (by decide) (by decide) (by decide) ?_
  refine J_iload_n (i := 1) d_L_compares_90 rfl rfl ?_
  refine J_iload_n (i := 2) d_L_compares_91 rfl rfl ?_
  refine J_icmp_le (tgt := 99) d_L_compares_92 (by decide) (fun c92 => ?_) (fun c92 => ?_)
  · refine J_iconst (v := nI 0) d_L_compares_99 rfl ?_
    refine J.eq (st1 := [.int (b2i false)]) ?_ rfl rfl rfl
    refine M_ir d_L_compares_100 rfl b2i_nar ?_
    have hc := c92
    have e : cp2 12 x y = false := by
      show (decide (y < x)) = false
      first | rw [l1] at hc | rw [l2] at hc | rw [l3] at hc | rw [l4] at hc | rw [l5] at hc
      exact decide_eq_false (by omega)
    exact ⟨by rw [e], rfl⟩
  · refine J_iconst (v := nI 1) d_L_compares_95 rfl ?_
    refine J_goto (tgt := 100) d_L_compares_96 (by decide) ?_
    refine J.eq (st1 := [.int (b2i true)]) ?_ rfl rfl rfl
    refine M_ir d_L_compares_100 rfl b2i_nar ?_
    have hc := c92
    have e : cp2 12 x y = true := by
      show (decide (y < x)) = true
      first | rw [l1] at hc | rw [l2] at hc | rw [l3] at hc | rw [l4] at hc | rw [l5] at hc
      exact decide_eq_true (by omega)
    exact ⟨by rw [e], rfl⟩

theorem S_L_compares_44 {X : Mem} {x y : Int} (hx : sm x) (hy : sm y) : CM 0 m_L_compares [.int (nI 44), .int (jI x), .int (jI y)] X (rB (cp2 13 x y) X) := by
  have ix := sm_I hx
  have iy := sm_I hy
  have l1 := jI_le ix iy
  have l2 := jI_le iy ix
  have l3 := jI_lt ix iy
  have l4 := jI_lt iy ix
  have l5 := jI_eq ix iy
  refine CM_of (L := [some (.int (nI 44)), some (.int (jI x)), some (.int (jI y))]) 0 ok_L_compares (fun _ => Nat.le_of_ble_eq_true rfl) rfl ?_
  refine J_iload_n (i := 0) d_L_compares_0 rfl rfl ?_
  refine J_tableIn (off := 100) (tgt := 101) d_L_compares_1 (by decide) (by decide) (by decide) (by decide) ?_
  refine J_iload_n (i := 1) d_L_compares_101 rfl rfl ?_
  refine J_iload_n (i := 2) d_L_compares_102 rfl rfl ?_
  refine J_icmp_lt (tgt := 110) d_L_compares_103 (by decide) (fun c103 => ?_) (fun c103 => ?_)
  · refine J_iconst (v := nI 0) d_L_compares_110 rfl ?_
    refine J.eq (st1 := [.int (b2i false)]) ?_ rfl rfl rfl
    refine M_ir d_L_compares_111 rfl b2i_nar ?_
    have hc := c103
    have e : cp2 13 x y = false := by
      show (decide (y ≤ x)) = false
      first | rw [l1] at hc | rw [l2] at hc | rw [l3] at hc | rw [l4] at hc | rw [l5] at hc
      exact decide_eq_false (by omega)
    exact ⟨by rw [e], rfl⟩
  · refine J_iconst (v := nI 1) d_L_compares_106 rfl ?_
    refine J_goto (tgt := 111) d_L_compares_107 (by decide) ?_
    refine J.eq (st1 := [.int (b2i true)]) ?_ rfl rfl rfl
    refine M_ir d_L_compares_111 rfl b2i_nar ?_
    have hc := c103
    have e : cp2 13 x y = true := by
      show (decide (y ≤ x)) = true
      first | rw [l1] at hc | rw [l2] at hc | rw [l3] at hc | rw [l4] at hc | rw [l5] at hc
      exact decide_eq_true (by omega)
    exact ⟨by rw [e], rfl⟩

theorem S_L_compares_34 {X : Mem} {x y : Int} (hx : sm x) (hy : sm y) : CM 0 m_L_compares [.int (nI 34), .int (jI x), .int (jI y)] X (rB (cp2 14 x y) X) := by
  have ix := sm_I hx
  have iy := sm_I hy
  have l1 := jI_le ix iy
  have l2 := jI_le iy ix
  have l3 := jI_lt ix iy
  have l4 := jI_lt iy ix
  have l5 := jI_eq ix iy
  refine CM_of (L := [some (.int (nI 34)), some (.int (jI x)), some (.int (jI y))]) 0 ok_L_compares (fun _ => Nat.le_of_ble_eq_true rfl) rfl ?_
  refine J_iload_n (i := 0) d_L_compares_0 rfl rfl ?_
  refine J_tableIn (off := 111) (tgt := 112) d_L_compares_1 (by decide) (by decide) (by decide) (by decide) ?_
  refine J_iload_n (i := 1) d_L_compares_112 rfl rfl ?_
  refine J_iload_n (i := 2) d_L_compares_113 rfl rfl ?_
  refine J_icmp_ne (tgt := 121) d_L_compares_114 (by decide) (fun c114 => ?_) (fun c114 => ?_)
  · refine J_iconst (v := nI 0) d_L_compares_121 rfl ?_
    refine J.eq (st1 := [.int (b2i false)]) ?_ rfl rfl rfl
    refine M_ir d_L_compares_122 rfl b2i_nar ?_
    have hc := c114
    have e : cp2 14 x y = false := by
      show (decide (x = y)) = false
      first | rw [l1] at hc | rw [l2] at hc | rw [l3] at hc | rw [l4] at hc | rw [l5] at hc
      exact decide_eq_false (by omega)
    exact ⟨by rw [e], rfl⟩
  · refine J_iconst (v := nI 1) d_L_compares_117 rfl ?_
    refine J_goto (tgt := 122) d_L_compares_118 (by decide) ?_
    refine J.eq (st1 := [.int (b2i true)]) ?_ rfl rfl rfl
    refine M_ir d_L_compares_122 rfl b2i_nar ?_
    have hc := c114
    have e : cp2 14 x y = true := by
      show (decide (x = y)) = true
      first | rw [l1] at hc | rw [l2] at hc | rw [l3] at hc | rw [l4] at hc | rw [l5] at hc
      exact decide_eq_true (by omega)
    exact ⟨by rw [e], rfl⟩

theorem S_L_compares_35 {X : Mem} {x y : Int} (hx : sm x) (hy : sm y) : CM 0 m_L_compares [.int (nI 35), .int (jI x), .int (jI y)] X (rB (cp2 15 x y) X) := by
  have ix := sm_I hx
  have iy := sm_I hy
  have l1 := jI_le ix iy
  have l2 := jI_le iy ix
  have l3 := jI_lt ix iy
  have l4 := jI_lt iy ix
  have l5 := jI_eq ix iy
  refine CM_of (L := [some (.int (nI 35)), some (.int (jI x)), some (.int (jI y))]) 0 ok_L_compares (fun _ => Nat.le_of_ble_eq_true rfl) rfl ?_
  refine J_iload_n (i := 0) d_L_compares_0 rfl rfl ?_
  refine J_tableIn (off := 122) (tgt := 123) d_L_compares_1 (by decide) (by decide) (by decide) (by decide) ?_
  refine J_iload_n (i := 1) d_L_compares_123 rfl rfl ?_
  refine J_iload_n (i := 2) d_L_compares_124 rfl rfl ?_
  refine J_icmp_eq (tgt := 132) d_L_compares_125 (by decide) (fun c125 => ?_) (fun c125 => ?_)
  · refine J_iconst (v := nI 0) d_L_compares_132 rfl ?_
    refine J.eq (st1 := [.int (b2i false)]) ?_ rfl rfl rfl
    refine M_ir d_L_compares_133 rfl b2i_nar ?_
    have hc := c125
    have e : cp2 15 x y = false := by
      show (!decide (x = y)) = false
      first | rw [l1] at hc | rw [l2] at hc | rw [l3] at hc | rw [l4] at hc | rw [l5] at hc
      exact by rw [decide_eq_true (by omega)]; rfl
    exact ⟨by rw [e], rfl⟩
  · refine J_iconst (v := nI 1) d_L_compares_128 rfl ?_
    refine J_goto (tgt := 133) d_L_compares_129 (by decide) ?_
    refine J.eq (st1 := [.int (b2i true)]) ?_ rfl rfl rfl
    refine M_ir d_L_compares_133 rfl b2i_nar ?_
    have hc := c125
    have e : cp2 15 x y = true := by
      show (!decide (x = y)) = true
      first | rw [l1] at hc | rw [l2] at hc | rw [l3] at hc | rw [l4] at hc | rw [l5] at hc
      exact by rw [decide_eq_false (by omega)]; rfl
    exact ⟨by rw [e], rfl⟩

theorem ar2_7 (x y : Int) : ar2 7 x y = c6 (x - y) := by unfold ar2; rw [if_neg (by decide), if_pos rfl]
theorem ar2_8 (x y : Int) : ar2 8 x y = c6 (x * y) := by unfold ar2; rw [if_neg (by decide), if_neg (by decide), if_pos rfl]
theorem ar2_6 (x y : Int) : ar2 6 x y = c6 (x + y) := by unfold ar2; rw [if_pos rfl]
theorem mul_sm {x y : Int} (hx : sm x) (hy : sm y) : bL (x * y) := by
  unfold sm at hx hy
  unfold bL
  have h1 : x.natAbs ≤ 1000000 := by omega
  have h2 : y.natAbs ≤ 1000000 := by omega
  have h3 : (x * y).natAbs ≤ 1000000000000 := by
    rw [Int.natAbs_mul]
    exact Nat.le_trans (Nat.mul_le_mul h1 h2) (by decide)
  omega
theorem div_sm {x y : Int} (hx : sm x) : bL (x.tdiv y) := by
  unfold sm at hx
  unfold bL
  have h1 : (x.tdiv y).natAbs ≤ x.natAbs := by
    rw [Int.natAbs_tdiv]
    exact Nat.div_le_self _ _
  omega
theorem S_L_ofTwo_36 {X : Mem} {x y : Int} (hx : sm x) (hy : sm y) : CM 2 m_L_ofTwo [.int (nI 36), .int (jI x), .int (jI y)] X (rI (jI (ar2 6 x y)) X) := by
  have hbl : bL (x + y) := by
    unfold sm at hx hy
    unfold bL
    omega
  refine CM_of (L := [some (.int (nI 36)), some (.int (jI x)), some (.int (jI y))]) 0 ok_L_ofTwo (fun _ => Nat.le_of_ble_eq_true rfl) rfl ?_
  refine J_iload_n (i := 0) d_L_ofTwo_0 rfl rfl ?_
  refine J_tableIn (off := 83) (tgt := 84) d_L_ofTwo_1 (by decide) (by decide) (by decide) (by decide) ?_
  refine J_iload_n (i := 1) d_L_ofTwo_84 rfl rfl ?_
  refine J_i2l d_L_ofTwo_85 ?_
  refine J_iload_n (i := 2) d_L_ofTwo_86 rfl rfl ?_
  refine J_i2l d_L_ofTwo_87 ?_
  refine J_ladd d_L_ofTwo_88 ?_
  rw [jI_64 (sm_I hx), jI_64 (sm_I hy), lI_add]
  refine CS_I (av := [.long (lI (x + y))]) d_L_ofTwo_89 s_L_109 (S_L_hold hbl) (by decide) rfl rfl (Nat.le_of_ble_eq_true rfl) ?_
  refine M_ir d_L_ofTwo_92 rfl rfl ?_
  exact ⟨by rw [ar2_6], rfl⟩

theorem S_L_ofTwo_37 {X : Mem} {x y : Int} (hx : sm x) (hy : sm y) : CM 2 m_L_ofTwo [.int (nI 37), .int (jI x), .int (jI y)] X (rI (jI (ar2 7 x y)) X) := by
  have hbl : bL (x - y) := by
    unfold sm at hx hy
    unfold bL
    omega
  refine CM_of (L := [some (.int (nI 37)), some (.int (jI x)), some (.int (jI y))]) 0 ok_L_ofTwo (fun _ => Nat.le_of_ble_eq_true rfl) rfl ?_
  refine J_iload_n (i := 0) d_L_ofTwo_0 rfl rfl ?_
  refine J_tableIn (off := 92) (tgt := 93) d_L_ofTwo_1 (by decide) (by decide) (by decide) (by decide) ?_
  refine J_iload_n (i := 1) d_L_ofTwo_93 rfl rfl ?_
  refine J_i2l d_L_ofTwo_94 ?_
  refine J_iload_n (i := 2) d_L_ofTwo_95 rfl rfl ?_
  refine J_i2l d_L_ofTwo_96 ?_
  refine J_lsub d_L_ofTwo_97 ?_
  rw [jI_64 (sm_I hx), jI_64 (sm_I hy), lI_sub]
  refine CS_I (av := [.long (lI (x - y))]) d_L_ofTwo_98 s_L_109 (S_L_hold hbl) (by decide) rfl rfl (Nat.le_of_ble_eq_true rfl) ?_
  refine M_ir d_L_ofTwo_101 rfl rfl ?_
  exact ⟨by rw [ar2_7], rfl⟩

theorem S_L_ofTwo_38 {X : Mem} {x y : Int} (hx : sm x) (hy : sm y) : CM 2 m_L_ofTwo [.int (nI 38), .int (jI x), .int (jI y)] X (rI (jI (ar2 8 x y)) X) := by
  have hbl : bL (x * y) := mul_sm hx hy
  refine CM_of (L := [some (.int (nI 38)), some (.int (jI x)), some (.int (jI y))]) 0 ok_L_ofTwo (fun _ => Nat.le_of_ble_eq_true rfl) rfl ?_
  refine J_iload_n (i := 0) d_L_ofTwo_0 rfl rfl ?_
  refine J_tableIn (off := 101) (tgt := 102) d_L_ofTwo_1 (by decide) (by decide) (by decide) (by decide) ?_
  refine J_iload_n (i := 1) d_L_ofTwo_102 rfl rfl ?_
  refine J_i2l d_L_ofTwo_103 ?_
  refine J_iload_n (i := 2) d_L_ofTwo_104 rfl rfl ?_
  refine J_i2l d_L_ofTwo_105 ?_
  refine J_lmul d_L_ofTwo_106 ?_
  rw [jI_64 (sm_I hx), jI_64 (sm_I hy), lI_mul]
  refine CS_I (av := [.long (lI (x * y))]) d_L_ofTwo_107 s_L_109 (S_L_hold hbl) (by decide) rfl rfl (Nat.le_of_ble_eq_true rfl) ?_
  refine M_ir d_L_ofTwo_110 rfl rfl ?_
  exact ⟨by rw [ar2_8], rfl⟩

theorem S_L_ofTwo_39 {X : Mem} {x y : Int} (hx : sm x) (hy : sm y) : CM 2 m_L_ofTwo [.int (nI 39), .int (jI x), .int (jI y)] X (rI (jI (ar2 9 x y)) X) := by
  refine CM_of (L := [some (.int (nI 39)), some (.int (jI x)), some (.int (jI y))]) 0 ok_L_ofTwo (fun _ => Nat.le_of_ble_eq_true rfl) rfl ?_
  refine J_iload_n (i := 0) d_L_ofTwo_0 rfl rfl ?_
  refine J_tableIn (off := 110) (tgt := 111) d_L_ofTwo_1 (by decide) (by decide) (by decide) (by decide) ?_
  refine J_iload_n (i := 2) d_L_ofTwo_111 rfl rfl ?_
  refine J_if_ne (tgt := 119) d_L_ofTwo_112 (by decide) (fun c112 => ?_) (fun c112 => ?_)
  · refine J_iload_n (i := 1) d_L_ofTwo_119 rfl rfl ?_
    refine J_i2l d_L_ofTwo_120 ?_
    refine J_iload_n (i := 2) d_L_ofTwo_121 rfl rfl ?_
    refine J_i2l d_L_ofTwo_122 ?_
    have hy0 : ¬ y = 0 := fun q => c112 (by rw [q]; rfl)
    rw [jI_64 (sm_I hx), jI_64 (sm_I hy)]
    refine J_ldiv d_L_ofTwo_123 (fun q => hy0 ((lI_eq (b := 0) (sm_L hy) ⟨by decide, by decide⟩).mp q)) ?_
    rw [lI_div (sm_L hx) (sm_L hy)]
    have hbl : bL (x.tdiv y) := div_sm hx
    refine CS_I (av := [.long (lI (x.tdiv y))]) d_L_ofTwo_124 s_L_109 (S_L_hold hbl) (by decide) rfl rfl (Nat.le_of_ble_eq_true rfl) ?_
    refine M_ir d_L_ofTwo_127 rfl rfl ?_
    exact ⟨by rw [show ar2 9 x y = c6 (x.tdiv y) from if_neg hy0], rfl⟩
  · refine J_iconst (v := nI 0) d_L_ofTwo_115 rfl ?_
    refine J_goto (tgt := 127) d_L_ofTwo_116 (by decide) ?_
    refine M_ir d_L_ofTwo_127 rfl rfl ?_
    have hy0 : y = 0 := (jI_eq (b := 0) (sm_I hy) ⟨by decide, by decide⟩).mp c112
    exact ⟨by rw [show ar2 9 x y = 0 from if_pos hy0]; rfl, rfl⟩

theorem S_L_ofTwo_32 {X : Mem} {x y : Int} (hx : sm x) (hy : sm y) : CM 2 m_L_ofTwo [.int (nI 32), .int (jI x), .int (jI y)] X (rI (b2i (cp2 10 x y)) X) := by
  refine CM_of (L := [some (.int (nI 32)), some (.int (jI x)), some (.int (jI y))]) 0 ok_L_ofTwo (fun _ => Nat.le_of_ble_eq_true rfl) rfl ?_
  refine J_iload_n (i := 0) d_L_ofTwo_0 rfl rfl ?_
  refine J_tableIn (off := 135) (tgt := 136) d_L_ofTwo_1 (by decide) (by decide) (by decide) (by decide) ?_
  refine J_iload_n (i := 0) d_L_ofTwo_136 rfl rfl ?_
  refine J_iload_n (i := 1) d_L_ofTwo_137 rfl rfl ?_
  refine J_iload_n (i := 2) d_L_ofTwo_138 rfl rfl ?_
  refine CS_B (av := [.int (nI 32), .int (jI x), .int (jI y)]) d_L_ofTwo_139 s_L_113 (S_L_compares_32 hx hy) (by decide) rfl rfl (Nat.le_of_ble_eq_true rfl) ?_
  refine B_if_eq (tgt := 149) d_L_ofTwo_142 (by decide) (fun c142 => ?_) (fun c142 => ?_)
  · refine J_iconst (v := nI 0) d_L_ofTwo_149 rfl ?_
    refine M_ir d_L_ofTwo_150 rfl rfl ?_
    exact ⟨by rw [c142] <;> rfl, rfl⟩
  · refine J_iconst (v := nI 1) d_L_ofTwo_145 rfl ?_
    refine J_goto (tgt := 150) d_L_ofTwo_146 (by decide) ?_
    refine M_ir d_L_ofTwo_150 rfl rfl ?_
    exact ⟨by rw [c142] <;> rfl, rfl⟩

theorem S_L_ofTwo_43 {X : Mem} {x y : Int} (hx : sm x) (hy : sm y) : CM 2 m_L_ofTwo [.int (nI 43), .int (jI x), .int (jI y)] X (rI (b2i (cp2 11 x y)) X) := by
  refine CM_of (L := [some (.int (nI 43)), some (.int (jI x)), some (.int (jI y))]) 0 ok_L_ofTwo (fun _ => Nat.le_of_ble_eq_true rfl) rfl ?_
  refine J_iload_n (i := 0) d_L_ofTwo_0 rfl rfl ?_
  refine J_tableOut (tgt := 136) d_L_ofTwo_1 (by decide) (by decide) ?_
  refine J_iload_n (i := 0) d_L_ofTwo_136 rfl rfl ?_
  refine J_iload_n (i := 1) d_L_ofTwo_137 rfl rfl ?_
  refine J_iload_n (i := 2) d_L_ofTwo_138 rfl rfl ?_
  refine CS_B (av := [.int (nI 43), .int (jI x), .int (jI y)]) d_L_ofTwo_139 s_L_113 (S_L_compares_43 hx hy) (by decide) rfl rfl (Nat.le_of_ble_eq_true rfl) ?_
  refine B_if_eq (tgt := 149) d_L_ofTwo_142 (by decide) (fun c142 => ?_) (fun c142 => ?_)
  · refine J_iconst (v := nI 0) d_L_ofTwo_149 rfl ?_
    refine M_ir d_L_ofTwo_150 rfl rfl ?_
    exact ⟨by rw [c142] <;> rfl, rfl⟩
  · refine J_iconst (v := nI 1) d_L_ofTwo_145 rfl ?_
    refine J_goto (tgt := 150) d_L_ofTwo_146 (by decide) ?_
    refine M_ir d_L_ofTwo_150 rfl rfl ?_
    exact ⟨by rw [c142] <;> rfl, rfl⟩

theorem S_L_ofTwo_33 {X : Mem} {x y : Int} (hx : sm x) (hy : sm y) : CM 2 m_L_ofTwo [.int (nI 33), .int (jI x), .int (jI y)] X (rI (b2i (cp2 12 x y)) X) := by
  refine CM_of (L := [some (.int (nI 33)), some (.int (jI x)), some (.int (jI y))]) 0 ok_L_ofTwo (fun _ => Nat.le_of_ble_eq_true rfl) rfl ?_
  refine J_iload_n (i := 0) d_L_ofTwo_0 rfl rfl ?_
  refine J_tableIn (off := 135) (tgt := 136) d_L_ofTwo_1 (by decide) (by decide) (by decide) (by decide) ?_
  refine J_iload_n (i := 0) d_L_ofTwo_136 rfl rfl ?_
  refine J_iload_n (i := 1) d_L_ofTwo_137 rfl rfl ?_
  refine J_iload_n (i := 2) d_L_ofTwo_138 rfl rfl ?_
  refine CS_B (av := [.int (nI 33), .int (jI x), .int (jI y)]) d_L_ofTwo_139 s_L_113 (S_L_compares_33 hx hy) (by decide) rfl rfl (Nat.le_of_ble_eq_true rfl) ?_
  refine B_if_eq (tgt := 149) d_L_ofTwo_142 (by decide) (fun c142 => ?_) (fun c142 => ?_)
  · refine J_iconst (v := nI 0) d_L_ofTwo_149 rfl ?_
    refine M_ir d_L_ofTwo_150 rfl rfl ?_
    exact ⟨by rw [c142] <;> rfl, rfl⟩
  · refine J_iconst (v := nI 1) d_L_ofTwo_145 rfl ?_
    refine J_goto (tgt := 150) d_L_ofTwo_146 (by decide) ?_
    refine M_ir d_L_ofTwo_150 rfl rfl ?_
    exact ⟨by rw [c142] <;> rfl, rfl⟩

theorem S_L_ofTwo_44 {X : Mem} {x y : Int} (hx : sm x) (hy : sm y) : CM 2 m_L_ofTwo [.int (nI 44), .int (jI x), .int (jI y)] X (rI (b2i (cp2 13 x y)) X) := by
  refine CM_of (L := [some (.int (nI 44)), some (.int (jI x)), some (.int (jI y))]) 0 ok_L_ofTwo (fun _ => Nat.le_of_ble_eq_true rfl) rfl ?_
  refine J_iload_n (i := 0) d_L_ofTwo_0 rfl rfl ?_
  refine J_tableOut (tgt := 136) d_L_ofTwo_1 (by decide) (by decide) ?_
  refine J_iload_n (i := 0) d_L_ofTwo_136 rfl rfl ?_
  refine J_iload_n (i := 1) d_L_ofTwo_137 rfl rfl ?_
  refine J_iload_n (i := 2) d_L_ofTwo_138 rfl rfl ?_
  refine CS_B (av := [.int (nI 44), .int (jI x), .int (jI y)]) d_L_ofTwo_139 s_L_113 (S_L_compares_44 hx hy) (by decide) rfl rfl (Nat.le_of_ble_eq_true rfl) ?_
  refine B_if_eq (tgt := 149) d_L_ofTwo_142 (by decide) (fun c142 => ?_) (fun c142 => ?_)
  · refine J_iconst (v := nI 0) d_L_ofTwo_149 rfl ?_
    refine M_ir d_L_ofTwo_150 rfl rfl ?_
    exact ⟨by rw [c142] <;> rfl, rfl⟩
  · refine J_iconst (v := nI 1) d_L_ofTwo_145 rfl ?_
    refine J_goto (tgt := 150) d_L_ofTwo_146 (by decide) ?_
    refine M_ir d_L_ofTwo_150 rfl rfl ?_
    exact ⟨by rw [c142] <;> rfl, rfl⟩

theorem S_L_ofTwo_34 {X : Mem} {x y : Int} (hx : sm x) (hy : sm y) : CM 2 m_L_ofTwo [.int (nI 34), .int (jI x), .int (jI y)] X (rI (b2i (cp2 14 x y)) X) := by
  refine CM_of (L := [some (.int (nI 34)), some (.int (jI x)), some (.int (jI y))]) 0 ok_L_ofTwo (fun _ => Nat.le_of_ble_eq_true rfl) rfl ?_
  refine J_iload_n (i := 0) d_L_ofTwo_0 rfl rfl ?_
  refine J_tableIn (off := 135) (tgt := 136) d_L_ofTwo_1 (by decide) (by decide) (by decide) (by decide) ?_
  refine J_iload_n (i := 0) d_L_ofTwo_136 rfl rfl ?_
  refine J_iload_n (i := 1) d_L_ofTwo_137 rfl rfl ?_
  refine J_iload_n (i := 2) d_L_ofTwo_138 rfl rfl ?_
  refine CS_B (av := [.int (nI 34), .int (jI x), .int (jI y)]) d_L_ofTwo_139 s_L_113 (S_L_compares_34 hx hy) (by decide) rfl rfl (Nat.le_of_ble_eq_true rfl) ?_
  refine B_if_eq (tgt := 149) d_L_ofTwo_142 (by decide) (fun c142 => ?_) (fun c142 => ?_)
  · refine J_iconst (v := nI 0) d_L_ofTwo_149 rfl ?_
    refine M_ir d_L_ofTwo_150 rfl rfl ?_
    exact ⟨by rw [c142] <;> rfl, rfl⟩
  · refine J_iconst (v := nI 1) d_L_ofTwo_145 rfl ?_
    refine J_goto (tgt := 150) d_L_ofTwo_146 (by decide) ?_
    refine M_ir d_L_ofTwo_150 rfl rfl ?_
    exact ⟨by rw [c142] <;> rfl, rfl⟩

theorem S_L_ofTwo_35 {X : Mem} {x y : Int} (hx : sm x) (hy : sm y) : CM 2 m_L_ofTwo [.int (nI 35), .int (jI x), .int (jI y)] X (rI (b2i (cp2 15 x y)) X) := by
  refine CM_of (L := [some (.int (nI 35)), some (.int (jI x)), some (.int (jI y))]) 0 ok_L_ofTwo (fun _ => Nat.le_of_ble_eq_true rfl) rfl ?_
  refine J_iload_n (i := 0) d_L_ofTwo_0 rfl rfl ?_
  refine J_tableIn (off := 135) (tgt := 136) d_L_ofTwo_1 (by decide) (by decide) (by decide) (by decide) ?_
  refine J_iload_n (i := 0) d_L_ofTwo_136 rfl rfl ?_
  refine J_iload_n (i := 1) d_L_ofTwo_137 rfl rfl ?_
  refine J_iload_n (i := 2) d_L_ofTwo_138 rfl rfl ?_
  refine CS_B (av := [.int (nI 35), .int (jI x), .int (jI y)]) d_L_ofTwo_139 s_L_113 (S_L_compares_35 hx hy) (by decide) rfl rfl (Nat.le_of_ble_eq_true rfl) ?_
  refine B_if_eq (tgt := 149) d_L_ofTwo_142 (by decide) (fun c142 => ?_) (fun c142 => ?_)
  · refine J_iconst (v := nI 0) d_L_ofTwo_149 rfl ?_
    refine M_ir d_L_ofTwo_150 rfl rfl ?_
    exact ⟨by rw [c142] <;> rfl, rfl⟩
  · refine J_iconst (v := nI 1) d_L_ofTwo_145 rfl ?_
    refine J_goto (tgt := 150) d_L_ofTwo_146 (by decide) ?_
    refine M_ir d_L_ofTwo_150 rfl rfl ?_
    exact ⟨by rw [c142] <;> rfl, rfl⟩

theorem S_L_ofTwo_23 {X : Mem} {x y : Bool} : CM 2 m_L_ofTwo [.int (nI 23), .int (b2i x), .int (b2i y)] X (rI (b2i (x || y)) X) := by
  refine CM_of (L := [some (.int (nI 23)), some (.int (b2i x)), some (.int (b2i y))]) 0 ok_L_ofTwo (fun _ => Nat.le_of_ble_eq_true rfl) rfl ?_
  refine J_iload_n (i := 0) d_L_ofTwo_0 rfl rfl ?_
  refine J_tableIn (off := 127) (tgt := 128) d_L_ofTwo_1 (by decide) (by decide) (by decide) (by decide) ?_
  refine J_iload_n (i := 1) d_L_ofTwo_128 rfl rfl ?_
  refine J_iload_n (i := 2) d_L_ofTwo_129 rfl rfl ?_
  refine J_ior d_L_ofTwo_130 ?_
  refine M_ir d_L_ofTwo_131 rfl rfl ?_
  exact ⟨by cases x <;> cases y <;> rfl, rfl⟩

theorem S_L_ofTwo_24 {X : Mem} {x y : Bool} : CM 2 m_L_ofTwo [.int (nI 24), .int (b2i x), .int (b2i y)] X (rI (b2i (x && y)) X) := by
  refine CM_of (L := [some (.int (nI 24)), some (.int (b2i x)), some (.int (b2i y))]) 0 ok_L_ofTwo (fun _ => Nat.le_of_ble_eq_true rfl) rfl ?_
  refine J_iload_n (i := 0) d_L_ofTwo_0 rfl rfl ?_
  refine J_tableIn (off := 131) (tgt := 132) d_L_ofTwo_1 (by decide) (by decide) (by decide) (by decide) ?_
  refine J_iload_n (i := 1) d_L_ofTwo_132 rfl rfl ?_
  refine J_iload_n (i := 2) d_L_ofTwo_133 rfl rfl ?_
  refine J_iand d_L_ofTwo_134 ?_
  refine M_ir d_L_ofTwo_135 rfl rfl ?_
  exact ⟨by cases x <;> cases y <;> rfl, rfl⟩

theorem S_N_isMarkE {X : Mem} {a : Nat} {e : Env} (hX : Ok X) (hE : CE X a e) (hO : okE e) {v : Int} (hv : sm v) : CM 0 m_N_isMark [.ref a, .int (jI v)] X (rB (decide (0 ≤ v ∧ v < e.1)) X) := by
  have iv := sm_I hv
  have hm8 := hO.1
  have l1 : jI v < 0 ↔ v < 0 := jI_lt (b := 0) iv ⟨by decide, by decide⟩
  have l2 : nI e.1 ≤ jI v ↔ (e.1 : Int) ≤ v := by rw [← jI_n]; exact jI_le ⟨by omega, by omega⟩ iv
  refine CM_of (L := [some (.ref a), some (.int (jI v))]) 0 ok_N_isMark (fun _ => Nat.le_of_ble_eq_true rfl) rfl ?_
  refine J_iload_n (i := 1) d_N_isMark_0 rfl rfl ?_
  refine J_if_lt (tgt := 16) d_N_isMark_1 (by decide) (fun c1 => ?_) (fun c1 => ?_)
  · refine J_iconst (v := nI 0) d_N_isMark_16 rfl ?_
    refine J.eq (st1 := [.int (b2i false)]) ?_ rfl rfl rfl
    refine M_ir d_N_isMark_17 rfl b2i_nar ?_
    have c1' := c1
    rw [l1] at c1'
    exact ⟨by rw [show decide (0 ≤ v ∧ v < e.1) = false from decide_eq_false (by omega)], rfl⟩
  · refine J_iload_n (i := 1) d_N_isMark_4 rfl rfl ?_
    refine J_aload_n (i := 0) d_N_isMark_5 rfl rfl ?_
    refine M_get (x := (nI e.1)) d_N_isMark_6 f_N_22 hE.1 rfl hE.2.1 ?_
    refine J_icmp_ge (tgt := 16) d_N_isMark_9 (by decide) (fun c9 => ?_) (fun c9 => ?_)
    · refine J_iconst (v := nI 0) d_N_isMark_16 rfl ?_
      refine J.eq (st1 := [.int (b2i false)]) ?_ rfl rfl rfl
      refine M_ir d_N_isMark_17 rfl b2i_nar ?_
      have c1' := c1
      rw [l1] at c1'
      have c9' := c9
      rw [l2] at c9'
      exact ⟨by rw [show decide (0 ≤ v ∧ v < e.1) = false from decide_eq_false (by omega)], rfl⟩
    · refine J_iconst (v := nI 1) d_N_isMark_12 rfl ?_
      refine J_goto (tgt := 17) d_N_isMark_13 (by decide) ?_
      refine J.eq (st1 := [.int (b2i true)]) ?_ rfl rfl rfl
      refine M_ir d_N_isMark_17 rfl b2i_nar ?_
      have c1' := c1
      rw [l1] at c1'
      have c9' := c9
      rw [l2] at c9'
      exact ⟨by rw [show decide (0 ≤ v ∧ v < e.1) = true from decide_eq_true (by omega)], rfl⟩

theorem S_N_hasE {X : Mem} {a : Nat} {e : Env} (hX : Ok X) (hE : CE X a e) (hO : okE e) {v : Int} (hv : sm v) : CM 0 m_N_has [.ref a, .int (nI e.2.2.2.2.1), .int (jI v)] X (rB (decide (hsV e v = 1)) X) := by
  have iv := sm_I hv
  have hm8 := hO.1
  have hmk := hO.2.1
  have hst := hO.2.2.1 e.2.2.2.2.1 (by omega)
  have hm8 := hO.1
  have l1 : jI v < 0 ↔ v < 0 := jI_lt (b := 0) iv ⟨by decide, by decide⟩
  have l2 : nI e.1 ≤ jI v ↔ (e.1 : Int) ≤ v := by rw [← jI_n]; exact jI_le ⟨by omega, by omega⟩ iv
  have l3 : nI 20 ≤ jI v ↔ (20 : Int) ≤ v := jI_le (a := 20) ⟨by decide, by decide⟩ iv
  refine CM_of (L := [some (.ref a), some (.int (nI e.2.2.2.2.1)), some (.int (jI v)), none]) 1 ok_N_has (fun _ => Nat.le_of_ble_eq_true rfl) rfl ?_
  refine J_iload_n (i := 1) d_N_has_0 rfl rfl ?_
  refine N_if_lt (tgt := 26) d_N_has_1 (by decide) (by omega) ?_
  refine J_iload_n (i := 1) d_N_has_4 rfl rfl ?_
  refine J_aload_n (i := 0) d_N_has_5 rfl rfl ?_
  refine M_get (x := (nI e.1)) d_N_has_6 f_N_22 hE.1 rfl hE.2.1 ?_
  refine N_icmp_ge (tgt := 26) d_N_has_9 (by decide) (by omega) (by omega) (fun c9 => absurd c9 (by omega)) (fun c9 => ?_)
  refine J_iload_n (i := 2) d_N_has_12 rfl rfl ?_
  refine J_if_lt (tgt := 26) d_N_has_13 (by decide) (fun c13 => ?_) (fun c13 => ?_)
  · refine J_iconst (v := nI 0) d_N_has_26 rfl ?_
    refine J_istore_n (i := 3) (L1 := [some (.ref a), some (.int (nI e.2.2.2.2.1)), some (.int (jI v)), some (.int (nI 0))]) d_N_has_27 rfl (by decide) rfl ?_
    refine J_iload_n (i := 3) d_N_has_28 rfl rfl ?_
    refine N_if_eq (tgt := 50) d_N_has_29 (by decide) (by omega) (fun c29 => ?_) (fun c29 => absurd c29 (by decide))
    refine J_iconst (v := nI 0) d_N_has_50 rfl ?_
    refine J.eq (st1 := [.int (b2i false)]) ?_ rfl rfl rfl
    refine M_ir d_N_has_51 rfl b2i_nar ?_
    have c13' := c13
    rw [l1] at c13'
    have e0 : hsV e v = 0 := if_neg (by omega)
    exact ⟨by rw [show decide (hsV e v = 1) = false from by rw [e0]; rfl], rfl⟩
  · refine J_iload_n (i := 2) d_N_has_16 rfl rfl ?_
    refine J_bipush (v := nI 20) d_N_has_17 rfl ?_
    refine J_icmp_ge (tgt := 26) d_N_has_19 (by decide) (fun c19 => ?_) (fun c19 => ?_)
    · refine J_iconst (v := nI 0) d_N_has_26 rfl ?_
      refine J_istore_n (i := 3) (L1 := [some (.ref a), some (.int (nI e.2.2.2.2.1)), some (.int (jI v)), some (.int (nI 0))]) d_N_has_27 rfl (by decide) rfl ?_
      refine J_iload_n (i := 3) d_N_has_28 rfl rfl ?_
      refine N_if_eq (tgt := 50) d_N_has_29 (by decide) (by omega) (fun c29 => ?_) (fun c29 => absurd c29 (by decide))
      refine J_iconst (v := nI 0) d_N_has_50 rfl ?_
      refine J.eq (st1 := [.int (b2i false)]) ?_ rfl rfl rfl
      refine M_ir d_N_has_51 rfl b2i_nar ?_
      have c13' := c13
      rw [l1] at c13'
      have c19' := c19
      rw [l3] at c19'
      have e0 : hsV e v = 0 := if_neg (by omega)
      exact ⟨by rw [show decide (hsV e v = 1) = false from by rw [e0]; rfl], rfl⟩
    · refine J_iconst (v := nI 1) d_N_has_22 rfl ?_
      refine J_goto (tgt := 27) d_N_has_23 (by decide) ?_
      refine J_istore_n (i := 3) (L1 := [some (.ref a), some (.int (nI e.2.2.2.2.1)), some (.int (jI v)), some (.int (nI 1))]) d_N_has_27 rfl (by decide) rfl ?_
      refine J_iload_n (i := 3) d_N_has_28 rfl rfl ?_
      refine N_if_eq (tgt := 50) d_N_has_29 (by decide) (by omega) (fun c29 => absurd c29 (by decide)) (fun c29 => ?_)
      have c13' := c13
      rw [l1] at c13'
      have c19' := c19
      rw [l3] at c19'
      obtain ⟨j, rfl⟩ : ∃ j : Nat, v = (j : Int) := ⟨v.toNat, by omega⟩
      rw [jI_n]
      refine J_aload_n (i := 0) d_N_has_32 rfl rfl ?_
      refine M_getR (b := (a + 1)) d_N_has_33 f_N_9 hE.1 rfl (now_f hE.1).1 ?_
      refine J_iload_n (i := 1) d_N_has_36 rfl rfl ?_
      refine N_iald (x := (nI (e.2.1 e.2.2.2.2.1))) d_N_has_37 (now_f hE.1).2.2.1 (by omega) (ltL hX (a := a + 1) (n := 8) (by omega) (now_f hE.1).2.2.2.2.1 (by omega)) (hE.2.2.1 e.2.2.2.2.1 (by omega)) ?_
      refine J_iload_n (i := 2) d_N_has_38 rfl rfl ?_
      refine N_ishr d_N_has_39 (by omega) (by omega) ?_
      refine J_iconst (v := nI 1) d_N_has_40 rfl ?_
      refine N_iand d_N_has_41 ?_
      refine J_iconst (v := nI 1) d_N_has_42 rfl ?_
      refine T_ne (tgt := 50) d_N_has_43 (by decide) (fun c43 => ?_) (fun c43 => ?_)
      · refine J_iconst (v := nI 0) d_N_has_50 rfl ?_
        refine J.eq (st1 := [.int (b2i false)]) ?_ rfl rfl rfl
        refine M_ir d_N_has_51 rfl b2i_nar ?_
        have e0 : hsV e (j : Int) = 0 := if_neg (fun q => by rw [show ((j : Int)).toNat = j from rfl, show (eST e).testBit j = false from c43] at q; cases q.2.2)
        exact ⟨by rw [show decide (hsV e (j : Int) = 1) = false from by rw [e0]; rfl], rfl⟩
      · refine J_iconst (v := nI 1) d_N_has_46 rfl ?_
        refine J_goto (tgt := 51) d_N_has_47 (by decide) ?_
        refine J.eq (st1 := [.int (b2i true)]) ?_ rfl rfl rfl
        refine M_ir d_N_has_51 rfl b2i_nar ?_
        have e0 : hsV e (j : Int) = 1 := if_pos ⟨by omega, by omega, c43⟩
        exact ⟨by rw [show decide (hsV e (j : Int) = 1) = true from by rw [e0]; rfl], rfl⟩

