theorem cpyL_len {s d : List Int32} {sp dp n : Nat} : (cpyL s d sp dp n).length = d.length := by simp [cpyL]
theorem cpyL_0 {s d : List Int32} {n i : Nat} (hn : n ≤ d.length) (hi : i < n) : (cpyL s d 0 0 n).getD i 0 = s.getD i 0 := by
  unfold cpyL
  rw [List.getD_eq_getElem?_getD, List.getElem?_map, List.getElem?_range (by omega)]
  show (if 0 ≤ i ∧ i < 0 + n then s.getD (0 + (i - 0)) 0 else d.getD i 0) = _
  rw [if_pos ⟨by omega, by omega⟩, show 0 + (i - 0) = i by omega]
theorem CNow_g {X : Mem} {a : Nat} {g g' : Nat → Int32} (e : ∀ k, k < 38 → g k = g' k) (hN : CNow X a g) : CNow X a g' := by
  obtain ⟨h1, h2, h3, h4, h5, h6, h7, h8⟩ := hN
  exact ⟨h1, h2.trans (e 0 (by decide)), h3.trans (e 1 (by decide)), h4.trans (e 2 (by decide)), h5.trans (e 3 (by decide)), h6.trans (e 4 (by decide)), fun i hi => (h7 i hi).trans (e _ (by omega)), fun i hi => (h8 i hi).trans (congrArg c32 (e _ (by omega)))⟩
def pF5 (X : Mem) (a : Nat) (g : Nat → Int32) : Mem := pF (pF (pF (pF (pF X a 0 (g 0)) a 2 (g 3)) a 3 (g 1)) a 4 (g 2)) a 5 (g 4)
theorem pF5_a (X : Mem) (a : Nat) (g : Nat → Int32) : (pF5 X a g).1 a 0 = g 0 ∧ (pF5 X a g).1 a 2 = g 3 ∧ (pF5 X a g).1 a 3 = g 1 ∧ (pF5 X a g).1 a 4 = g 2 ∧ (pF5 X a g).1 a 5 = g 4 := by
  unfold pF5
  refine ⟨?_, ?_, ?_, ?_, ?_⟩
  · rw [pF_k (by decide), pF_k (by decide), pF_k (by decide), pF_k (by decide), pF_at]
  · rw [pF_k (by decide), pF_k (by decide), pF_k (by decide), pF_at]
  · rw [pF_k (by decide), pF_k (by decide), pF_at]
  · rw [pF_k (by decide), pF_at]
  · rw [pF_at]
theorem pF5_o {X : Mem} {a b k : Nat} {g : Nat → Int32} (h : b ≠ a) : (pF5 X a g).1 b k = X.1 b k := by
  unfold pF5
  rw [pF_o h, pF_o h, pF_o h, pF_o h, pF_o h]
/-- what is now at b copied to a -/
def cpN (X : Mem) (a b : Nat) (g : Nat → Int32) : Mem := pA (pA (pF5 X a g) (a + 1) (cpyL (X.2.1 (b + 1)) (X.2.1 (a + 1)) 0 0 8)) (a + 2) (cpyL (X.2.1 (b + 2)) (X.2.1 (a + 2)) 0 0 25)
theorem now_ne {a b : Nat} (ha : kd a = 2) (hb : kd b = 2) : b ≠ a + 1 ∧ b ≠ a + 2 ∧ a ≠ b + 1 ∧ a ≠ b + 2 := by
  have fa := now_f ha
  have fb := now_f hb
  refine ⟨fun e => ?_, fun e => ?_, fun e => ?_, fun e => ?_⟩
  · rw [e, fa.2.2.1] at hb; cases hb
  · rw [e, fa.2.2.2.1] at hb; cases hb
  · rw [e, fb.2.2.1] at ha; cases ha
  · rw [e, fb.2.2.2.1] at ha; cases ha
theorem cpN_o {X : Mem} {a b : Nat} {g : Nat → Int32} (hX : Ok X) (ha : kd a = 2) : Ok (cpN X a b g) ∧ offN a X (cpN X a b g) := by
  have fa := now_f ha
  refine ⟨okA (okA (okF (okF (okF (okF (okF hX))))) fa.2.2.2.2.2.2.1 cpyL_len) fa.2.2.2.2.2.2.2.1 (by rw [cpyL_len]; show _ = (if a + 2 = a + 1 then _ else X.2.1 (a + 2)).length; rw [if_neg (by omega)]), fun c hc k => pF5_o hc, fun c c1 c2 => ?_, rfl⟩
  show (if c = a + 2 then _ else if c = a + 1 then _ else X.2.1 c) = X.2.1 c
  rw [if_neg c2, if_neg c1]
theorem cpN_ok {X : Mem} {a b : Nat} {g : Nat → Int32} (hX : Ok X) (hN : CNow X b g) (ha : kd a = 2) (hab : b ≠ a) : Ok (cpN X a b g) ∧ CNow (cpN X a b g) a g ∧ offN a X (cpN X a b g) := by
  have fa := now_f ha
  have ne := now_ne ha hN.1
  have l1 : (X.2.1 (a + 1)).length = 8 := by rw [hX.1 (a + 1) (by omega)]; exact fa.2.2.2.2.1
  have l2 : (X.2.1 (a + 2)).length = 25 := by rw [hX.1 (a + 2) (by omega)]; exact fa.2.2.2.2.2.1
  obtain ⟨g0, g2, g3, g4, g5⟩ := pF5_a X a g
  obtain ⟨h1, h2, h3, h4, h5, h6, h7, h8⟩ := hN
  have ho := cpN_o (b := b) (g := g) hX ha
  refine ⟨ho.1, ⟨ha, g0, g3, g4, g2, g5, fun i hi => ?_, fun i hi => ?_⟩, ho.2⟩
  · show (if a + 1 = a + 2 then _ else if a + 1 = a + 1 then cpyL (X.2.1 (b + 1)) (X.2.1 (a + 1)) 0 0 8 else _).getD i 0 = _
    rw [if_neg (by omega), if_pos rfl, cpyL_0 (by omega) hi]; exact h7 i hi
  · show (if a + 2 = a + 2 then cpyL (X.2.1 (b + 2)) (X.2.1 (a + 2)) 0 0 25 else _).getD i 0 = _
    rw [if_pos rfl, cpyL_0 (by omega) hi]; exact h8 i hi
theorem S_N_copyFromL {X : Mem} {a b : Nat} {g : Nat → Int32} (hX : Ok X) (ha : kd a = 2) (hb : kd b = 2) (hab : b ≠ a) (h0 : X.1 b 0 = g 0) (h1 : X.1 b 3 = g 1) (h2 : X.1 b 4 = g 2) (h3 : X.1 b 2 = g 3) (h4 : X.1 b 5 = g 4) : CM 1 m_N_copyFrom [.ref a, .ref b] X (fun r Y => r = none ∧ Y = cpN X a b g) := by
  have fa := now_f ha
  have fb := now_f hb
  have ne := now_ne ha hb
  have la1 : (X.2.1 (a + 1)).length = 8 := by rw [hX.1 (a + 1) (by omega)]; exact fa.2.2.2.2.1
  have la2 : (X.2.1 (a + 2)).length = 25 := by rw [hX.1 (a + 2) (by omega)]; exact fa.2.2.2.2.2.1
  have lb1 : (X.2.1 (b + 1)).length = 8 := by rw [hX.1 (b + 1) (by omega)]; exact fb.2.2.2.2.1
  have lb2 : (X.2.1 (b + 2)).length = 25 := by rw [hX.1 (b + 2) (by omega)]; exact fb.2.2.2.2.2.1
  have e1 : (pA (pF5 X a g) (a + 1) (cpyL (X.2.1 (b + 1)) (X.2.1 (a + 1)) 0 0 8)).2.1 (b + 2) = X.2.1 (b + 2) := if_neg (by omega)
  have e2 : (pA (pF5 X a g) (a + 1) (cpyL (X.2.1 (b + 1)) (X.2.1 (a + 1)) 0 0 8)).2.1 (a + 2) = X.2.1 (a + 2) := if_neg (by omega)
  refine CM_of (L := [some (.ref a), some (.ref b)]) 0 ok_N_copyFrom (fun _ => Nat.le_of_ble_eq_true rfl) rfl ?_
  refine J_aload_n (i := 0) d_N_copyFrom_0 rfl rfl ?_
  refine J_aload_n (i := 1) d_N_copyFrom_1 rfl rfl ?_
  refine M_get (x := (g 0)) d_N_copyFrom_2 f_N_22 hb rfl (by first | exact h0 | (simp only [pF_o hab]; exact h0)) ?_
  refine M_put d_N_copyFrom_5 p_N_22 ha rfl rfl rfl ?_
  refine J_aload_n (i := 0) d_N_copyFrom_8 rfl rfl ?_
  refine J_aload_n (i := 1) d_N_copyFrom_9 rfl rfl ?_
  refine M_get (x := (g 3)) d_N_copyFrom_10 f_N_25 hb rfl (by first | exact h3 | (simp only [pF_o hab]; exact h3)) ?_
  refine M_put d_N_copyFrom_13 p_N_25 ha rfl rfl rfl ?_
  refine J_aload_n (i := 0) d_N_copyFrom_16 rfl rfl ?_
  refine J_aload_n (i := 1) d_N_copyFrom_17 rfl rfl ?_
  refine M_get (x := (g 1)) d_N_copyFrom_18 f_N_28 hb rfl (by first | exact h1 | (simp only [pF_o hab]; exact h1)) ?_
  refine M_put d_N_copyFrom_21 p_N_28 ha rfl rfl rfl ?_
  refine J_aload_n (i := 0) d_N_copyFrom_24 rfl rfl ?_
  refine J_aload_n (i := 1) d_N_copyFrom_25 rfl rfl ?_
  refine M_get (x := (g 2)) d_N_copyFrom_26 f_N_15 hb rfl (by first | exact h2 | (simp only [pF_o hab]; exact h2)) ?_
  refine M_put d_N_copyFrom_29 p_N_15 ha rfl rfl rfl ?_
  refine J_aload_n (i := 0) d_N_copyFrom_32 rfl rfl ?_
  refine J_aload_n (i := 1) d_N_copyFrom_33 rfl rfl ?_
  refine M_get (x := (g 4)) d_N_copyFrom_34 f_N_31 hb rfl (by first | exact h4 | (simp only [pF_o hab]; exact h4)) ?_
  refine M_put d_N_copyFrom_37 p_N_31 ha rfl rfl rfl ?_
  refine J_aload_n (i := 1) d_N_copyFrom_40 rfl rfl ?_
  refine M_getR (b := (b + 1)) d_N_copyFrom_41 f_N_9 hb rfl fb.1 ?_
  refine J_iconst (v := nI 0) d_N_copyFrom_44 rfl ?_
  refine J_aload_n (i := 0) d_N_copyFrom_45 rfl rfl ?_
  refine M_getR (b := (a + 1)) d_N_copyFrom_46 f_N_9 ha rfl fa.1 ?_
  refine J_iconst (v := nI 0) d_N_copyFrom_49 rfl ?_
  refine J_bipush (v := nI 8) d_N_copyFrom_50 rfl ?_
  refine M_acopy (sp := 0) (dp := 0) (n := 8) d_N_copyFrom_52 w_N_34 fb.2.2.1 fa.2.2.1 (by omega) (nI_pos (by omega)) (nI_pos (by omega)) (nI_pos (by omega)) (nI_clamp (by omega)) (nI_clamp (by omega)) (nI_clamp (by omega)) (show 0 + 8 ≤ (X.2.1 (b + 1)).length by omega) (show 0 + 8 ≤ (X.2.1 (a + 1)).length by omega) (by decide) (Nat.le_of_ble_eq_true rfl) ?_
  refine J_aload_n (i := 1) d_N_copyFrom_55 rfl rfl ?_
  refine M_getR (b := (b + 2)) d_N_copyFrom_56 f_N_19 hb rfl fb.2.1 ?_
  refine J_iconst (v := nI 0) d_N_copyFrom_59 rfl ?_
  refine J_aload_n (i := 0) d_N_copyFrom_60 rfl rfl ?_
  refine M_getR (b := (a + 2)) d_N_copyFrom_61 f_N_19 ha rfl fa.2.1 ?_
  refine J_iconst (v := nI 0) d_N_copyFrom_64 rfl ?_
  refine J_bipush (v := nI 25) d_N_copyFrom_65 rfl ?_
  refine M_acopy (sp := 0) (dp := 0) (n := 25) d_N_copyFrom_67 w_N_34 fb.2.2.2.1 fa.2.2.2.1 (by omega) (nI_pos (by omega)) (nI_pos (by omega)) (nI_pos (by omega)) (nI_clamp (by omega)) (nI_clamp (by omega)) (nI_clamp (by omega)) (show 0 + 25 ≤ (if b + 2 = a + 1 then _ else X.2.1 (b + 2)).length by rw [if_neg (by omega)]; omega) (show 0 + 25 ≤ (if a + 2 = a + 1 then _ else X.2.1 (a + 2)).length by rw [if_neg (by omega)]; omega) (by decide) (Nat.le_of_ble_eq_true rfl) ?_
  refine M_vr d_N_copyFrom_70 rfl ?_
  exact ⟨rfl, by show pA _ (a + 2) (cpyL ((pA (pF5 X a g) (a + 1) (cpyL (X.2.1 (b + 1)) (X.2.1 (a + 1)) 0 0 8)).2.1 (b + 2)) ((pA (pF5 X a g) (a + 1) (cpyL (X.2.1 (b + 1)) (X.2.1 (a + 1)) 0 0 8)).2.1 (a + 2)) 0 0 25) = _; rw [e1, e2]; rfl⟩

theorem S_N_copyFrom {X : Mem} {a b : Nat} {g : Nat → Int32} (hX : Ok X) (hN : CNow X b g) (ha : kd a = 2) (hab : b ≠ a) : CM 1 m_N_copyFrom [.ref a, .ref b] X (fun r Y => r = none ∧ Ok Y ∧ CNow Y a g ∧ offN a X Y) := CM.imp (S_N_copyFromL hX ha hN.1 hab hN.2.1 hN.2.2.1 hN.2.2.2.1 hN.2.2.2.2.1 hN.2.2.2.2.2.1) (fun r Y h => by
  obtain ⟨h1, rfl⟩ := h
  exact ⟨h1, cpN_ok hX hN ha hab⟩)
theorem st_rf : ∀ j, j < 30 → rf 23 j = 24 + 3 * j ∧ kd (24 + 3 * j) = 2 := by decide +kernel
theorem st_rf2 : ∀ j, j < 30 → rf 123 j = 124 + 3 * j ∧ kd (124 + 3 * j) = 2 := by decide +kernel
theorem tl_S_push {X : Mem} {g : Nat → Int32} {e c : Nat} {Q : Option Value → Mem → Prop} (hX : Ok X) (hN : CNow X 19 g) (he : X.1 22 1 = nI e) (hc : X.1 22 2 = nI c) (e30 : e < 30) (c1 : 1 ≤ c) (c30 : c ≤ 30) (kx : ∀ Y, Ok Y → CNow Y (24 + 3 * ((e + c - 1) % 30)) g → offN (24 + 3 * ((e + c - 1) % 30)) X Y → Q none Y) : JM 2 m_S_push Q 35 [some (.ref 22), some (.ref 19)] [] X := by
  have hsl : ((e + c - 1) % 30) < 30 := Nat.mod_lt _ (by decide)
  refine J_aload_n (i := 0) d_S_push_35 rfl rfl ?_
  refine M_getR (b := 23) d_S_push_36 f_S_11 rfl rfl rfl ?_
  refine J_aload_n (i := 0) d_S_push_39 rfl rfl ?_
  refine M_get (x := (nI e)) d_S_push_40 f_S_22 rfl rfl he ?_
  refine J_aload_n (i := 0) d_S_push_43 rfl rfl ?_
  refine M_get (x := (nI c)) d_S_push_44 f_S_18 rfl rfl hc ?_
  refine N_iadd d_S_push_47 ?_
  refine J_iconst (v := nI 1) d_S_push_48 rfl ?_
  refine N_isub d_S_push_49 (by omega) ?_
  refine J_bipush (v := nI 30) d_S_push_50 rfl ?_
  refine N_irem d_S_push_52 (by omega) (by omega) (by omega) ?_
  refine N_aald (b := (24 + 3 * ((e + c - 1) % 30))) (t := 32) d_S_push_53 rfl (by decide) (by omega) (show _ < 30 from hsl) (st_rf _ hsl).1 ?_
  refine J_aload_n (i := 1) d_S_push_54 rfl rfl ?_
  refine M_callV (av := [.ref 19]) d_S_push_55 s_S_25 (M_rcv (st_rf _ hsl).2 (by decide) rfl) (S_N_copyFrom hX hN (st_rf _ hsl).2 (show 19 ≠ 24 + 3 * ((e + c - 1) % 30) by omega)) (by decide) rfl rfl (Nat.le_of_ble_eq_true rfl) (fun r Y hq => ?_)
  obtain ⟨rfl, hY, hNY, hof⟩ := hq
  refine M_vr d_S_push_58 rfl ?_
  exact kx Y hY hNY hof
theorem kp_3 (r : Nat → Int32) : kpR r 3 = nI (min (tn (r 3)) 29 + 1) := if_pos rfl
theorem kp_o (r : Nat → Int32) {j : Nat} (h3 : j ≠ 3) (hj : j < 52 ∨ 1192 ≤ j) : kpR r j = r j := by
  unfold kpR
  rw [if_neg h3, if_neg (by omega), if_neg (by omega)]
theorem kp_now (r : Nat → Int32) {k : Nat} (hk : k < 38) : nowG (kpR r) k = nowG r k := by
  unfold nowG
  by_cases h0 : k = 0
  · rw [if_pos h0, if_pos h0]; exact kp_o r (by decide) (by decide)
  · rw [if_neg h0, if_neg h0]
    by_cases h1 : k < 13
    · rw [if_pos h1, if_pos h1]; exact kp_o r (by omega) (by omega)
    · rw [if_neg h1, if_neg h1]; exact kp_o r (by omega) (by omega)
theorem kp_top (r : Nat → Int32) {k : Nat} (hk : k < 38) : stG (kpR r) (min (tn (r 3)) 29) k = nowG r k := by
  unfold stG kpR
  rw [if_neg (by omega), if_pos (by omega), show 52 + 38 * min (tn (r 3)) 29 + k - (52 + 38 * min (tn (r 3)) 29) = k by omega]
theorem kp_st (r : Nat → Int32) {i k : Nat} (hk : k < 38) (hi : i < min (tn (r 3)) 29) (h30 : tn (r 3) ≤ 30) : stG (kpR r) i k = stG r (if tn (r 3) < 30 then i else i + 1) k := by
  unfold stG kpR
  rw [if_neg (by omega), if_neg (by omega)]
  by_cases h : tn (r 3) < 30
  · rw [if_pos h, if_neg (by omega)]
  · rw [if_neg h, if_pos (by omega), show 52 + 38 * i + k + 38 = 52 + 38 * (i + 1) + k by omega]
theorem CI_push {X Y : Mem} {s : Sg} {e e' c : Nat} (hC : CI X s) (hw : WFs s) (hcc : tn (s.1 3) = c) (he : e < 30) (hst : ∀ i, i < c → CNow X (24 + 3 * ((e + i) % 30)) (stG s.1 i)) (he' : e' = if c < 30 then e else (e + 1) % 30) (h2 : Y.1 22 2 = nI (min c 29 + 1)) (h1 : Y.1 22 1 = nI e') (hN : CNow Y (24 + 3 * ((e' + min c 29) % 30)) (nowG s.1)) (ho : ∀ b, b ≠ 22 → b ≠ 24 + 3 * ((e' + min c 29) % 30) → ∀ k, Y.1 b k = X.1 b k) (ho2 : ∀ b, b ≠ 24 + 3 * ((e' + min c 29) % 30) + 1 → b ≠ 24 + 3 * ((e' + min c 29) % 30) + 2 → Y.2.1 b = X.2.1 b) : CI Y (setr s (kpR s.1)) := by
  have w3 := wf_1 hw.1 (j := 3) (n := 30) (by decide) (by decide) (by decide)
  have c30 : c ≤ 30 := by omega
  have he2 : e' < 30 := by rw [he']; split <;> omega
  have hsl : (e' + min c 29) % 30 < 30 := Nat.mod_lt _ (by decide)
  generalize hs : (e' + min c 29) % 30 = sl at *
  obtain ⟨⟨k1, ⟨_, e0, _, _, _⟩, k5, ⟨g1, g2, g3, g4, g5⟩, k7⟩, hk, h8, ⟨h9, h10, h11⟩, h12⟩ := hC
  refine ⟨⟨?_, ⟨?_, e', he2, h1, fun i hi => ?_⟩, fun i hi => ?_, ⟨?_, ?_, ?_, ?_, ?_⟩, fun i hi => ?_⟩, ?_, fun i hi => ?_, ⟨?_, ?_, ?_⟩, fun t ht ht4 => ?_⟩
  · exact CNow_g (fun k hk => (kp_now s.1 hk).symm) (CNow_on (fun k => ho _ (by omega) (by omega) k) (ho2 _ (by omega) (by omega)) (ho2 _ (by omega) (by omega)) k1)
  · rw [show (setr s (kpR s.1)).1 = kpR s.1 from rfl, kp_3, hcc]; exact h2
  · have hi : i < tn (kpR s.1 3) := hi
    rw [kp_3, tn_nI (by omega), hcc] at hi
    show CNow Y (24 + 3 * ((e' + i) % 30)) (stG (kpR s.1) i)
    by_cases q : i = min c 29
    · rw [q, hs]
      refine CNow_g (fun k hk => ?_) hN
      have := kp_top s.1 hk
      rw [hcc] at this
      exact this.symm
    · have hlt : (e' + i) % 30 < 30 := Nat.mod_lt _ (by decide)
      have hne : (e' + i) % 30 ≠ sl := by omega
      have hidx : (e' + i) % 30 = (e + (if c < 30 then i else i + 1)) % 30 := by
        rw [he']
        split <;> omega
      have hb : (if c < 30 then i else i + 1) < c := by split <;> omega
      have hX := hst _ hb
      rw [← hidx] at hX
      refine CNow_g (fun k hk => ?_) (CNow_on (fun k => ho _ (by omega) (by omega) k) (ho2 _ (by omega) (by omega)) (ho2 _ (by omega) (by omega)) hX)
      have := kp_st s.1 hk (i := i) (by omega) w3.2
      rw [hcc] at this
      exact this.symm
  · rw [ho2 _ (by omega) (by omega)]; exact (k5 i hi).trans (kp_o s.1 (by omega) (by omega)).symm
  · rw [ho _ (by omega) (by omega)]; exact g1.trans (kp_o s.1 (by decide) (by decide)).symm
  · rw [ho _ (by omega) (by omega)]; exact g2.trans (kp_o s.1 (by decide) (by decide)).symm
  · rw [ho _ (by omega) (by omega)]; exact g3.trans (kp_o s.1 (by decide) (by decide)).symm
  · rw [ho _ (by omega) (by omega)]; exact g4.trans (kp_o s.1 (by decide) (by decide)).symm
  · rw [ho _ (by omega) (by omega)]; exact g5.trans (kp_o s.1 (by decide) (by decide)).symm
  · rw [ho2 _ (by omega) (by omega), ho2 _ (by omega) (by omega), ho2 _ (by omega) (by omega)]
    have h := k7 i hi
    exact ⟨h.1.trans (kp_o s.1 (by omega) (by omega)).symm, h.2.1.trans (kp_o s.1 (by omega) (by omega)).symm, h.2.2.trans (kp_o s.1 (by omega) (by omega)).symm⟩
  · exact CHeld_on (fun b q1 q2 => ⟨fun k => ho _ (by omega) (by omega) k, ho2 _ (by omega) (by omega)⟩) hk
  · rw [ho2 _ (by omega) (by omega)]; exact h8 i hi
  · rw [ho _ (by omega) (by omega)]; exact h9
  · rw [ho _ (by omega) (by omega)]; exact h10
  · rw [ho _ (by omega) (by omega)]; exact h11
  · have ht : t < tn (kpR s.1 1) := ht
    rw [kp_o s.1 (by decide) (by decide)] at ht
    exact CTxt_on (fun b q1 q2 => ⟨fun k => ho _ (by omega) (by omega) k, ho2 _ (by omega) (by omega)⟩) (h12 t ht ht4)
theorem sR_N {X Y : Mem} {a : Nat} (h : offN a X Y) (ha : a < 222) : sR X Y := ⟨fun b hb => ⟨fun k => h.1 b (by omega) k, h.2.1 b (by omega) (by omega), by rw [h.2.2]⟩, by rw [h.2.2]⟩
theorem S_S_push {X : Mem} {s : Sg} (hX : Ok X) (hC : CI X s) (hw : WFs s) : CM 2 m_S_push [.ref 22, .ref 19] X (fun r Y => r = none ∧ pC X (setr s (kpR s.1)) Y) := by
  have w3 := wf_1 hw.1 (j := 3) (n := 30) (by decide) (by decide) (by decide)
  obtain ⟨h2, e, he, h3, hst⟩ := hC.1.2.1
  have h2 : X.1 22 2 = s.1 3 := h2
  have h3 : X.1 22 1 = nI e := h3
  have hst : ∀ i, i < tn (s.1 3) → CNow X (24 + 3 * ((e + i) % 30)) (stG s.1 i) := hst
  refine CM_of (L := [some (.ref 22), some (.ref 19)]) 0 ok_S_push (fun _ => Nat.le_of_ble_eq_true rfl) rfl ?_
  refine J_aload_n (i := 0) d_S_push_0 rfl rfl ?_
  refine M_get (x := (nI (tn (s.1 3)))) d_S_push_1 f_S_18 rfl rfl (h2.trans w3.1) ?_
  refine J_bipush (v := nI 30) d_S_push_4 rfl ?_
  refine N_icmp_ge (tgt := 22) d_S_push_6 (by decide) (by omega) (by omega) (fun c6 => ?_) (fun c6 => ?_)
  · refine J_aload_n (i := 0) d_S_push_22 rfl rfl ?_
    refine J_aload_n (i := 0) d_S_push_23 rfl rfl ?_
    refine M_get (x := (nI e)) d_S_push_24 f_S_22 rfl rfl h3 ?_
    refine J_iconst (v := nI 1) d_S_push_27 rfl ?_
    refine N_iadd d_S_push_28 ?_
    refine J_bipush (v := nI 30) d_S_push_29 rfl ?_
    refine N_irem d_S_push_31 (by omega) (by omega) (by omega) ?_
    refine M_put d_S_push_32 p_S_22 rfl rfl rfl rfl ?_
    have hmin : min (tn (s.1 3)) 29 + 1 = tn (s.1 3) := by omega
    refine tl_S_push (e := ((e + 1) % 30)) (c := (min (tn (s.1 3)) 29 + 1)) (okF hX) (CNow_on (fun k => pF_o (by decide)) rfl rfl hC.1.1) pF_at ((pF_k (by decide)).trans (by rw [hmin]; exact h2.trans w3.1)) (by omega) (by omega) (by omega) (fun Y hY hNY hof => ?_)
    have hsl : (24 + 3 * ((((e + 1) % 30) + (min (tn (s.1 3)) 29 + 1) - 1) % 30)) = 24 + 3 * ((((e + 1) % 30) + min (tn (s.1 3)) 29) % 30) := by rw [show ((e + 1) % 30) + (min (tn (s.1 3)) 29 + 1) - 1 = ((e + 1) % 30) + min (tn (s.1 3)) 29 by omega]
    rw [hsl] at hNY hof
    have hb30 : (((e + 1) % 30) + min (tn (s.1 3)) 29) % 30 < 30 := Nat.mod_lt _ (by decide)
    refine ⟨rfl, hY, CI_push hC hw rfl he hst (e' := ((e + 1) % 30)) (by rw [if_neg (by omega)]) ?_ ?_ hNY (fun b b1 b2 k => (hof.1 b b2 k).trans (pF_o b1)) (fun b b1 b2 => hof.2.1 b b1 b2), sR_t (sR_F (by decide)) (sR_N hof (by omega))⟩
    · exact (hof.1 22 (by omega) 2).trans ((pF_k (by decide)).trans (by rw [hmin]; exact h2.trans w3.1))
    · exact (hof.1 22 (by omega) 1).trans pF_at
  · refine J_aload_n (i := 0) d_S_push_9 rfl rfl ?_
    refine J_dup d_S_push_10 rfl ?_
    refine M_get (x := (nI (tn (s.1 3)))) d_S_push_11 f_S_18 rfl rfl (h2.trans w3.1) ?_
    refine J_iconst (v := nI 1) d_S_push_14 rfl ?_
    refine N_iadd d_S_push_15 ?_
    refine M_put d_S_push_16 p_S_18 rfl rfl rfl rfl ?_
    refine J_goto (tgt := 35) d_S_push_19 (by decide) ?_
    have hmin : min (tn (s.1 3)) 29 + 1 = tn (s.1 3) + 1 := by omega
    refine tl_S_push (e := e) (c := (min (tn (s.1 3)) 29 + 1)) (okF hX) (CNow_on (fun k => pF_o (by decide)) rfl rfl hC.1.1) ((pF_k (by decide)).trans h3) (by rw [hmin]; exact pF_at) (by omega) (by omega) (by omega) (fun Y hY hNY hof => ?_)
    have hsl : (24 + 3 * ((e + (min (tn (s.1 3)) 29 + 1) - 1) % 30)) = 24 + 3 * ((e + min (tn (s.1 3)) 29) % 30) := by rw [show e + (min (tn (s.1 3)) 29 + 1) - 1 = e + min (tn (s.1 3)) 29 by omega]
    rw [hsl] at hNY hof
    have hb30 : (e + min (tn (s.1 3)) 29) % 30 < 30 := Nat.mod_lt _ (by decide)
    refine ⟨rfl, hY, CI_push hC hw rfl he hst (e' := e) (by rw [if_pos (by omega)]) ?_ ?_ hNY (fun b b1 b2 k => (hof.1 b b2 k).trans (pF_o b1)) (fun b b1 b2 => hof.2.1 b b1 b2), sR_t (sR_F (by decide)) (sR_N hof (by omega))⟩
    · exact (hof.1 22 (by omega) 2).trans (by rw [hmin]; exact pF_at)
    · exact (hof.1 22 (by omega) 1).trans ((pF_k (by decide)).trans h3)

