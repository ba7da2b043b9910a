/-- a line is written down -/
def gWrite (g : Nat → Int32) (m what s1 : Nat) : Nat → Int32 := fun k => if k = 4 then nI (min (tn (g 4)) 24 + 1) else if k < 13 then g k else if tn (g 4) < 25 then (if k = 13 + tn (g 4) then nI (((tn (g 1) * 8 + m) * 4 + what) * 21 + s1) else g k) else (if k = 37 then nI (((tn (g 1) * 8 + m) * 4 + what) * 21 + s1) else g (k + 1))
/-- what is now can be so -/
def WFg (g : Nat → Int32) : Prop := ∀ k, k < 38 → inR (g k) (bdN k) = true
def offN (a : Nat) (X Y : Mem) : Prop := (∀ b, b ≠ a → ∀ k, Y.1 b k = X.1 b k) ∧ (∀ b, b ≠ a + 1 → b ≠ a + 2 → Y.2.1 b = X.2.1 b) ∧ Y.2.2 = X.2.2
theorem offN_0 (a : Nat) (X : Mem) : offN a X X := ⟨fun _ _ _ => rfl, fun _ _ _ => rfl, rfl⟩
theorem offN_t {a : Nat} {X Y Z : Mem} (h1 : offN a X Y) (h2 : offN a Y Z) : offN a X Z := ⟨fun b hb k => (h2.1 b hb k).trans (h1.1 b hb k), fun b q1 q2 => (h2.2.1 b q1 q2).trans (h1.2.1 b q1 q2), h2.2.2.trans h1.2.2⟩
theorem wg_n {g : Nat → Int32} (h : WFg g) {k n : Nat} (hk : k < 38) (hb : bdN k ≤ n) : g k = nI (tn (g k)) ∧ tn (g k) ≤ n := by
  have hlt : bdN k < 2147483648 := by
    have c : allN (fun k => decide (bdN k < 2147483648)) 38 = true := by decide +kernel
    exact of_decide_eq_true (allN_iff.mp c k hk)
  obtain ⟨q, hq, e⟩ := inR_n (h k hk) hlt
  rw [e, tn_nI (by omega)]
  exact ⟨rfl, by omega⟩
theorem c32_cd {y m w s : Nat} (hy : y ≤ 9999) (hm : m < 8) (hw : w < 4) (hs : s < 21) : c32 (nI (((y * 8 + m) * 4 + w) * 21 + s)) = nI (((y * 8 + m) * 4 + w) * 32 + s) := by
  unfold c32
  rw [tn_nI (by omega), show (((y * 8 + m) * 4 + w) * 21 + s) / 21 = (y * 8 + m) * 4 + w by omega, show (((y * 8 + m) * 4 + w) * 21 + s) % 21 = s by omega]
theorem cpy_at {l : List Int32} (hl : l.length = 25) {i : Nat} (hi : i < 24) : (cpyL l l 1 0 24).getD i 0 = l.getD (i + 1) 0 := by
  unfold cpyL
  rw [List.getD_eq_getElem?_getD, List.getElem?_map, List.getElem?_range (by omega)]
  show (if 0 ≤ i ∧ i < 0 + 24 then l.getD (1 + (i - 0)) 0 else l.getD i 0) = _
  rw [if_pos ⟨by omega, by omega⟩, show 1 + (i - 0) = i + 1 by omega]
theorem pA_1 {X : Mem} {a : Nat} {l : List Int32} : (pA X a l).1 = X.1 := rfl
theorem cpy_len {l : List Int32} : (cpyL l l 1 0 24).length = l.length := by simp [cpyL]
theorem S_N_writeDown {X : Mem} {a m wt s1 : Nat} {g : Nat → Int32} {k : Int32} (hX : Ok X) (hN : CNow X a g) (hW : WFg g) (hm : m < 8) (hw : wt < 4) (hs : s1 < 21) (hk : k + nI 1 = nI s1) : CM 1 m_N_writeDown [.ref a, .int (nI m), .int (nI wt), .int k] X (fun r Y => r = none ∧ Ok Y ∧ CNow Y a (gWrite g m wt s1) ∧ offN a X Y) := by
  have nf := now_f hN.1
  have wL := wg_n hW (k := 4) (n := 25) (by decide) (by decide)
  have wY := wg_n hW (k := 1) (n := 9999) (by decide) (by decide)
  have hl25 : (X.2.1 (a + 2)).length = 25 := by rw [hX.1 (a + 2) (by omega)]; exact nf.2.2.2.2.2.1
  have hL : X.1 a 5 = nI (tn (g 4)) := hN.2.2.2.2.2.1.trans wL.1
  have hYr : X.1 a 3 = nI (tn (g 1)) := hN.2.2.1.trans wY.1
  generalize hLL : tn (g 4) = L at *
  generalize hYY : tn (g 1) = y at *
  refine CM_of (L := [some (.ref a), some (.int (nI m)), some (.int (nI wt)), some (.int k)]) 0 ok_N_writeDown (fun _ => Nat.le_of_ble_eq_true rfl) rfl ?_
  refine J_aload_n (i := 0) d_N_writeDown_0 rfl rfl ?_
  refine M_get (x := (nI L)) d_N_writeDown_1 f_N_31 hN.1 rfl hL ?_
  refine J_bipush (v := nI 25) d_N_writeDown_4 rfl ?_
  refine N_icmp_lt (tgt := 30) d_N_writeDown_6 (by decide) (by omega) (by omega) (fun c6 => ?_) (fun c6 => ?_)
  · refine J_aload_n (i := 0) d_N_writeDown_30 rfl rfl ?_
    refine M_getR (b := (a + 2)) d_N_writeDown_31 f_N_19 hN.1 rfl nf.2.1 ?_
    refine J_aload_n (i := 0) d_N_writeDown_34 rfl rfl ?_
    refine M_get (x := (nI L)) d_N_writeDown_35 f_N_31 hN.1 rfl hL ?_
    refine J_aload_n (i := 0) d_N_writeDown_38 rfl rfl ?_
    refine M_get (x := (nI y)) d_N_writeDown_39 f_N_28 hN.1 rfl hYr ?_
    refine J_bipush (v := nI 8) d_N_writeDown_42 rfl ?_
    refine N_imul d_N_writeDown_44 ?_
    refine J_iload_n (i := 1) d_N_writeDown_45 rfl rfl ?_
    refine N_iadd d_N_writeDown_46 ?_
    refine J_iconst (v := nI 4) d_N_writeDown_47 rfl ?_
    refine N_imul d_N_writeDown_48 ?_
    refine J_iload_n (i := 2) d_N_writeDown_49 rfl rfl ?_
    refine N_iadd d_N_writeDown_50 ?_
    refine J_bipush (v := nI 32) d_N_writeDown_51 rfl ?_
    refine N_imul d_N_writeDown_53 ?_
    refine J_iload_n (i := 3) d_N_writeDown_54 rfl rfl ?_
    refine J_iadd d_N_writeDown_55 ?_
    refine J_iconst (v := nI 1) d_N_writeDown_56 rfl ?_
    refine J_iadd d_N_writeDown_57 ?_
    refine I_ton (n := ((y * 8 + m) * 4 + wt) * 32 + s1) (by rw [Int32.add_assoc, hk, nI_add]) ?_
    refine N_iast d_N_writeDown_58 nf.2.2.2.1 (by omega) (by omega) (show L < (X.2.1 (a + 2)).length by rw [hl25]; omega) ?_
    refine J_aload_n (i := 0) d_N_writeDown_59 rfl rfl ?_
    refine J_dup d_N_writeDown_60 rfl ?_
    refine M_get (x := (nI L)) d_N_writeDown_61 f_N_31 hN.1 rfl hL ?_
    refine J_iconst (v := nI 1) d_N_writeDown_64 rfl ?_
    refine N_iadd d_N_writeDown_65 ?_
    refine M_put d_N_writeDown_66 p_N_31 hN.1 rfl rfl rfl ?_
    refine M_vr d_N_writeDown_69 rfl ?_
    refine ⟨rfl, ?_, ?_, ?_⟩
    · exact okF (okA hX nf.2.2.2.2.2.2.2.1 (by rw [List.length_set]))
    · have hv : gWrite g m wt s1 = fun k => if k = 4 then nI (L + 1) else if k < 13 then g k else if k = 13 + L then nI (((y * 8 + m) * 4 + wt) * 21 + s1) else g k := by
        funext k
        unfold gWrite
        rw [hLL, hYY, if_pos (show L < 25 by omega), Nat.min_eq_left (by omega)]
      rw [hv]
      refine ⟨hN.1, hN.2.1, hN.2.2.1, hN.2.2.2.1, hN.2.2.2.2.1, pF_at, fun i hi => ?_, fun i hi => ?_⟩
      · show (if a + 1 = a + 2 then _ else X.2.1 (a + 1)).getD i 0 = if 5 + i = 4 then _ else if 5 + i < 13 then g (5 + i) else _
        rw [if_neg (by omega), if_neg (by omega), if_pos (by omega)]
        exact hN.2.2.2.2.2.2.1 i hi
      · show (if a + 2 = a + 2 then (X.2.1 (a + 2)).set L _ else X.2.1 (a + 2)).getD i 0 = c32 (if 13 + i = 4 then _ else if 13 + i < 13 then _ else if 13 + i = 13 + L then _ else g (13 + i))
        rw [if_pos rfl, if_neg (by omega), if_neg (by omega)]
        by_cases e : i = L
        · rw [if_pos (by omega), e, set_eq (by rw [hl25]; omega), c32_cd wY.2 hm hw hs]
        · rw [if_neg (by omega), set_ne (Ne.symm e)]
          exact hN.2.2.2.2.2.2.2 i hi
    · exact ⟨fun b hb k => pF_o hb, fun b q1 q2 => if_neg q2, rfl⟩
  · refine J_aload_n (i := 0) d_N_writeDown_9 rfl rfl ?_
    refine M_getR (b := (a + 2)) d_N_writeDown_10 f_N_19 hN.1 rfl nf.2.1 ?_
    refine J_iconst (v := nI 1) d_N_writeDown_13 rfl ?_
    refine J_aload_n (i := 0) d_N_writeDown_14 rfl rfl ?_
    refine M_getR (b := (a + 2)) d_N_writeDown_15 f_N_19 hN.1 rfl nf.2.1 ?_
    refine J_iconst (v := nI 0) d_N_writeDown_18 rfl ?_
    refine J_bipush (v := nI 24) d_N_writeDown_19 rfl ?_
    refine M_acopy (sp := 1) (dp := 0) (n := 24) d_N_writeDown_21 w_N_34 nf.2.2.2.1 nf.2.2.2.1 (by omega) (nI_pos (by omega)) (nI_pos (by omega)) (nI_pos (by omega)) (nI_clamp (by omega)) (nI_clamp (by omega)) (nI_clamp (by omega)) (by rw [hl25]; decide) (by rw [hl25]; decide) (by decide) (Nat.le_of_ble_eq_true rfl) ?_
    refine J_aload_n (i := 0) d_N_writeDown_24 rfl rfl ?_
    refine J_bipush (v := nI 24) d_N_writeDown_25 rfl ?_
    refine M_put d_N_writeDown_27 p_N_31 hN.1 rfl rfl rfl ?_
    refine J_aload_n (i := 0) d_N_writeDown_30 rfl rfl ?_
    refine M_getR (b := (a + 2)) d_N_writeDown_31 f_N_19 hN.1 rfl nf.2.1 ?_
    refine J_aload_n (i := 0) d_N_writeDown_34 rfl rfl ?_
    refine M_get (x := (nI 24)) d_N_writeDown_35 f_N_31 hN.1 rfl (by first | exact pF_at | (rw [pA_1]; exact pF_at)) ?_
    refine J_aload_n (i := 0) d_N_writeDown_38 rfl rfl ?_
    refine M_get (x := (nI y)) d_N_writeDown_39 f_N_28 hN.1 rfl hYr ?_
    refine J_bipush (v := nI 8) d_N_writeDown_42 rfl ?_
    refine N_imul d_N_writeDown_44 ?_
    refine J_iload_n (i := 1) d_N_writeDown_45 rfl rfl ?_
    refine N_iadd d_N_writeDown_46 ?_
    refine J_iconst (v := nI 4) d_N_writeDown_47 rfl ?_
    refine N_imul d_N_writeDown_48 ?_
    refine J_iload_n (i := 2) d_N_writeDown_49 rfl rfl ?_
    refine N_iadd d_N_writeDown_50 ?_
    refine J_bipush (v := nI 32) d_N_writeDown_51 rfl ?_
    refine N_imul d_N_writeDown_53 ?_
    refine J_iload_n (i := 3) d_N_writeDown_54 rfl rfl ?_
    refine J_iadd d_N_writeDown_55 ?_
    refine J_iconst (v := nI 1) d_N_writeDown_56 rfl ?_
    refine J_iadd d_N_writeDown_57 ?_
    refine I_ton (n := ((y * 8 + m) * 4 + wt) * 32 + s1) (by rw [Int32.add_assoc, hk, nI_add]) ?_
    refine N_iast d_N_writeDown_58 nf.2.2.2.1 (by omega) (by omega) (show 24 < _ by rw [pF_arr, pA_at, cpy_len, hl25]; decide) ?_
    refine J_aload_n (i := 0) d_N_writeDown_59 rfl rfl ?_
    refine J_dup d_N_writeDown_60 rfl ?_
    refine M_get (x := (nI 24)) d_N_writeDown_61 f_N_31 hN.1 rfl (by first | exact pF_at | (rw [pA_1]; exact pF_at)) ?_
    refine J_iconst (v := nI 1) d_N_writeDown_64 rfl ?_
    refine N_iadd d_N_writeDown_65 ?_
    refine M_put d_N_writeDown_66 p_N_31 hN.1 rfl rfl rfl ?_
    refine M_vr d_N_writeDown_69 rfl ?_
    have h25 : L = 25 := by omega
    refine ⟨rfl, ?_, ?_, ?_⟩
    · exact okF (okA (okF (okA hX nf.2.2.2.2.2.2.2.1 cpy_len)) nf.2.2.2.2.2.2.2.1 (by rw [List.length_set]))
    · have hv : gWrite g m wt s1 = fun k => if k = 4 then nI 25 else if k < 13 then g k else if k = 37 then nI (((y * 8 + m) * 4 + wt) * 21 + s1) else g (k + 1) := by
        funext k
        unfold gWrite
        rw [hLL, hYY, h25]
        rfl
      rw [hv]
      refine ⟨hN.1, hN.2.1, hN.2.2.1, hN.2.2.2.1, hN.2.2.2.2.1, pF_at, fun i hi => ?_, fun i hi => ?_⟩
      · show (if a + 1 = a + 2 then _ else if a + 1 = a + 2 then _ else X.2.1 (a + 1)).getD i 0 = if 5 + i = 4 then _ else if 5 + i < 13 then g (5 + i) else _
        rw [if_neg (by omega), if_neg (by omega), if_neg (by omega), if_pos (by omega)]
        exact hN.2.2.2.2.2.2.1 i hi
      · show (if a + 2 = a + 2 then (if a + 2 = a + 2 then cpyL (X.2.1 (a + 2)) (X.2.1 (a + 2)) 1 0 24 else X.2.1 (a + 2)).set 24 _ else _).getD i 0 = c32 (if 13 + i = 4 then _ else if 13 + i < 13 then _ else if 13 + i = 37 then _ else g (13 + i + 1))
        rw [if_pos rfl, if_pos rfl, if_neg (by omega), if_neg (by omega)]
        by_cases e : i = 24
        · rw [if_pos (by omega), e, set_eq (by rw [cpy_len, hl25]; decide), c32_cd wY.2 hm hw hs]
        · rw [if_neg (by omega), set_ne (Ne.symm e), cpy_at hl25 (by omega)]
          exact hN.2.2.2.2.2.2.2 (i + 1) (by omega)
    · exact ⟨fun b hb k => (pF_o hb).trans (pF_o hb), fun b q1 q2 => (if_neg q2).trans (if_neg q2), rfl⟩

