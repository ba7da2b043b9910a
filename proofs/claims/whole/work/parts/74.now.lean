def gX (g : Nat → Int32) (m s : Nat) : Nat → Int32 := upF g (5 + m) (nI (tn (g (5 + m)) ^^^ 1 <<< s))
def gN (g : Nat → Int32) : Nat → Int32 := upF g 2 (nI ((tn (g 2) * 677 + 557) % 30983))
theorem upF_at {g : Nat → Int32} {j : Nat} {v : Int32} : upF g j v j = v := if_pos rfl
theorem upF_o {g : Nat → Int32} {j k : Nat} {v : Int32} (h : k ≠ j) : upF g j v k = g k := if_neg h
theorem WFg_up {g : Nat → Int32} {j q : Nat} (h : WFg g) (hq : q ≤ bdN j) (hb : bdN j < 2147483648) : WFg (upF g j (nI q)) := by
  intro k hk
  by_cases e : k = j
  · subst e
    rw [upF_at, inR_nI (by omega) hb]
    exact decide_eq_true hq
  · rw [upF_o e]; exact h k hk
theorem bdN_s : ∀ m, m < 8 → bdN (5 + m) = 1048575 := by decide
theorem WFg_X {g : Nat → Int32} {m s : Nat} (h : WFg g) (hm : m < 8) (hs : s < 20) : WFg (gX g m s) := by
  have w := wg_n h (k := 5 + m) (n := 1048575) (by omega) (by rw [bdN_s m hm]; exact Nat.le_refl _)
  refine WFg_up h ?_ (by rw [bdN_s m hm]; decide)
  rw [bdN_s m hm]
  exact Nat.le_of_lt_succ (xor_lt 20 (show tn (g (5 + m)) < 2 ^ 20 by omega) (sh_lt hs (by decide)))
theorem WFg_N {g : Nat → Int32} (h : WFg g) : WFg (gN g) := WFg_up h (show _ ≤ 30982 by have := Nat.mod_lt (tn (g 2) * 677 + 557) (show 0 < 30983 by decide); omega) (by decide)
theorem WFg_W {g : Nat → Int32} {m wt s1 : Nat} (h : WFg g) (hm : m < 8) (hw : wt < 4) (hs : s1 < 21) : WFg (gWrite g m wt s1) := by
  have wY := wg_n h (k := 1) (n := 9999) (by decide) (by decide)
  have hcd : inR (nI (((tn (g 1) * 8 + m) * 4 + wt) * 21 + s1)) 6719999 = true := by
    rw [inR_nI (by omega) (by decide)]
    exact decide_eq_true (by omega)
  have hb : ∀ k, 13 ≤ k → bdN k = 6719999 := fun k hk => by
    unfold bdN
    rw [if_neg (by omega), if_neg (by omega), if_neg (by omega), if_neg (by omega), if_neg (by omega), if_neg (by omega)]
  intro k hk
  unfold gWrite
  by_cases e4 : k = 4
  · rw [if_pos e4, e4, inR_nI (by omega) (by decide)]
    exact decide_eq_true (show min (tn (g 4)) 24 + 1 ≤ 25 by omega)
  · rw [if_neg e4]
    by_cases e13 : k < 13
    · rw [if_pos e13]; exact h k hk
    · rw [if_neg e13, hb k (by omega)]
      split
      · split
        · exact hcd
        · rw [← hb k (by omega)]; exact h k hk
      · split
        · exact hcd
        · rw [← hb (k + 1) (by omega)]; exact h (k + 1) (by omega)
theorem CNow_st {X : Mem} {a m : Nat} {g : Nat → Int32} {v : Int32} (hX : Ok X) (hN : CNow X a g) (hm : m < 8) : CNow (pA X (a + 1) ((X.2.1 (a + 1)).set m v)) a (upF g (5 + m) v) := by
  have nf := now_f hN.1
  have hl : (X.2.1 (a + 1)).length = 8 := by rw [hX.1 (a + 1) (by omega)]; exact nf.2.2.2.2.1
  obtain ⟨h1, h2, h3, h4, h5, h6, h7, h8⟩ := hN
  refine ⟨h1, by rw [upF_o (by omega)]; exact h2, by rw [upF_o (by omega)]; exact h3, by rw [upF_o (by omega)]; exact h4, by rw [upF_o (by omega)]; exact h5, by rw [upF_o (by omega)]; exact h6, fun i hi => ?_, fun i hi => ?_⟩
  · rw [pA_at]
    by_cases e : i = m
    · rw [e, upF_at, set_eq (by omega)]
    · rw [upF_o (by omega), set_ne (Ne.symm e)]; exact h7 i hi
  · rw [show (pA X (a + 1) ((X.2.1 (a + 1)).set m v)).2.1 (a + 2) = X.2.1 (a + 2) from if_neg (by omega), upF_o (by omega)]
    exact h8 i hi
theorem CNow_f {X : Mem} {a : Nat} {g : Nat → Int32} {v : Int32} (hN : CNow X a g) : CNow (pF X a 4 v) a (upF g 2 v) := by
  obtain ⟨h1, h2, h3, h4, h5, h6, h7, h8⟩ := hN
  exact ⟨h1, (pF_k (by decide)).trans h2, (pF_k (by decide)).trans h3, pF_at.trans upF_at.symm, (pF_k (by decide)).trans h5, (pF_k (by decide)).trans h6, fun i hi => (h7 i hi).trans (upF_o (by omega)).symm, fun i hi => (h8 i hi).trans (congrArg c32 (upF_o (by omega)).symm)⟩
theorem S_N_change {X : Mem} {a m s wt : Nat} {g : Nat → Int32} (hX : Ok X) (hN : CNow X a g) (hW : WFg g) (hm : m < 8) (hs : s < 20) (hw : wt < 4) : CM 2 m_N_change [.ref a, .int (nI m), .int (nI s), .int (nI wt)] X (fun r Y => r = none ∧ Ok Y ∧ CNow Y a (gWrite (gX g m s) m wt (s + 1)) ∧ offN a X Y) := by
  have nf := now_f hN.1
  have wS := wg_n hW (k := 5 + m) (n := 1048575) (by omega) (by rw [bdN_s m hm]; exact Nat.le_refl _)
  have hl8 : (X.2.1 (a + 1)).length = 8 := by rw [hX.1 (a + 1) (by omega)]; exact nf.2.2.2.2.1
  refine CM_of (L := [some (.ref a), some (.int (nI m)), some (.int (nI s)), some (.int (nI wt))]) 0 ok_N_change (fun _ => Nat.le_of_ble_eq_true rfl) rfl ?_
  refine J_aload_n (i := 0) d_N_change_0 rfl rfl ?_
  refine M_getR (b := (a + 1)) d_N_change_1 f_N_9 hN.1 rfl nf.1 ?_
  refine J_iload_n (i := 1) d_N_change_4 rfl rfl ?_
  refine J_dup2 d_N_change_5 rfl rfl ?_
  refine N_iald (x := (nI (tn (g (5 + m))))) d_N_change_6 nf.2.2.1 (by omega) (show m < (X.2.1 (a + 1)).length by rw [hl8]; omega) ((hN.2.2.2.2.2.2.1 m hm).trans wS.1) ?_
  refine J_iconst (v := nI 1) d_N_change_7 rfl ?_
  refine J_iload_n (i := 2) d_N_change_8 rfl rfl ?_
  refine N_ishl d_N_change_9 (by omega) ?_
  refine N_ixor d_N_change_10 ?_
  refine N_iast d_N_change_11 nf.2.2.1 (by omega) (by omega) (show m < (X.2.1 (a + 1)).length by rw [hl8]; omega) ?_
  refine J_aload_n (i := 0) d_N_change_12 rfl rfl ?_
  refine J_iload_n (i := 1) d_N_change_13 rfl rfl ?_
  refine J_iload_n (i := 3) d_N_change_14 rfl rfl ?_
  refine J_iload_n (i := 2) d_N_change_15 rfl rfl ?_
  refine M_callV (av := [.int (nI m), .int (nI wt), .int (nI s)]) d_N_change_16 s_N_51 (M_rcv hN.1 (by decide) rfl) (S_N_writeDown (s1 := s + 1) (okS hX nf.2.2.2.2.2.2.1) (CNow_st hX hN hm) (WFg_X hW hm hs) hm hw (by omega) (nI_add s 1)) (by decide) rfl rfl (Nat.le_of_ble_eq_true rfl) (fun r Y hq => ?_)
  obtain ⟨rfl, hY, hNY, hof⟩ := hq
  refine M_vr d_N_change_19 rfl ?_
  exact ⟨rfl, hY, hNY, offN_t (Y := pA X (a + 1) ((X.2.1 (a + 1)).set m (nI (tn (g (5 + m)) ^^^ 1 <<< s)))) ⟨fun _ _ _ => rfl, fun b q1 q2 => if_neg q1, rfl⟩ hof⟩

theorem S_N_nextX {X : Mem} {a : Nat} {g : Nat → Int32} (hX : Ok X) (hN : CNow X a g) (hW : WFg g) : CM 0 m_N_nextX [.ref a] X (fun r Y => r = some (.int (nI (tn (g 2)))) ∧ Ok Y ∧ CNow Y a (gN g) ∧ offN a X Y) := by
  have nf := now_f hN.1
  have w2 := wg_n hW (k := 2) (n := 30982) (by decide) (by decide)
  have hx4 : X.1 a 4 = nI (tn (g 2)) := hN.2.2.2.1.trans w2.1
  generalize hxx : tn (g 2) = x at *
  refine CM_of (L := [some (.ref a), none]) 1 ok_N_nextX (fun _ => Nat.le_of_ble_eq_true rfl) rfl ?_
  refine J_aload_n (i := 0) d_N_nextX_0 rfl rfl ?_
  refine M_get (x := (nI x)) d_N_nextX_1 f_N_15 hN.1 rfl hx4 ?_
  refine J_istore_n (i := 1) (L1 := [some (.ref a), some (.int (nI x))]) d_N_nextX_4 rfl (by decide) rfl ?_
  refine J_aload_n (i := 0) d_N_nextX_5 rfl rfl ?_
  refine J_aload_n (i := 0) d_N_nextX_6 rfl rfl ?_
  refine M_get (x := (nI x)) d_N_nextX_7 f_N_15 hN.1 rfl hx4 ?_
  refine J_sipush (v := nI 677) d_N_nextX_10 rfl ?_
  refine N_imul d_N_nextX_13 ?_
  refine J_sipush (v := nI 557) d_N_nextX_14 rfl ?_
  refine N_iadd d_N_nextX_17 ?_
  refine J_sipush (v := nI 30983) d_N_nextX_18 rfl ?_
  refine N_irem d_N_nextX_21 (by omega) (by omega) (by omega) ?_
  refine M_put d_N_nextX_22 p_N_15 hN.1 rfl rfl rfl ?_
  refine J_iload_n (i := 1) d_N_nextX_25 rfl rfl ?_
  refine M_ir d_N_nextX_26 rfl rfl ?_
  refine ⟨rfl, okF hX, ?_, ⟨fun b hb k => pF_o hb, fun _ _ _ => rfl, rfl⟩⟩
  unfold gN
  rw [hxx]
  exact CNow_f hN

