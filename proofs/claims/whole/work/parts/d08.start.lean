/-- the cells behind both constructors' making, their numbers -/
def p0A (scr : List Int32) (a : Nat) : List Int32 := if a = 0 then scr else if a = 1 then POL.map nI else if a = 2 then MVL.map nI else if a = 4 then WBL.map nI else if a = 6 then SBL.map nI else []
def m1A (scr : List Int32) (a : Nat) : List Int32 := if a < 8 then p0A scr a else List.replicate (sz a) 0
def m1F (a k : Nat) : Int32 := if kd a = 2 ∧ k = 4 then nI 431 else if (a = 8 ∧ (k = 2 ∨ k = 3)) ∨ ((a = 18 ∨ a = 118) ∧ k = 4) ∨ (a = 244 ∧ (k = 10 ∨ k = 11)) then -1 else if a = 244 ∧ k = 30 then 1 else 0
def m1 (scr : List Int32) : Mem := (m1F, (m1A scr, (fun a => List.replicate (szl a) 0, (none, 0))))
def c0 (scr : List Int32) : List MCell := (List.range 8).map (cellM (m1 scr))
theorem m1_c {scr : List Int32} {a : Nat} (h : 8 ≤ a) : cellM (m1 scr) a = cellM (m1 []) a := by
  have e : (m1 scr).2.1 a = (m1 []).2.1 a := by
    show (if a < 8 then p0A scr a else List.replicate (sz a) 0) = (if a < 8 then p0A [] a else List.replicate (sz a) 0)
    rw [if_neg (by omega), if_neg (by omega)]
  unfold cellM
  rw [e]
  rfl
theorem rg_sp : List.range 263 = List.range 8 ++ List.range' 8 255 := by decide +kernel
theorem m1_cl : (List.range' 8 255).map (cellM (m1 [])) = officeC 8 ++ modelC := by decide +kernel
theorem m1_hm {scr : List Int32} : cellsM (m1 scr) = (c0 scr ++ officeC 8) ++ modelC := by
  show (List.range 263).map (cellM (m1 scr)) = _
  rw [rg_sp, List.map_append, List.append_assoc, ← m1_cl]
  refine congrArg (fun l => c0 scr ++ l) (List.map_congr_left (fun a ha => m1_c ?_))
  have := List.mem_range'_1.mp ha
  exact this.1
theorem c0_len {scr : List Int32} : (c0 scr).length = 8 := by
  unfold c0
  rw [List.length_map, List.length_range]
theorem m1_L {scr : List Int32} : OkL (m1 scr) := by
  refine ⟨fun a ha => ?_, fun a => List.length_replicate⟩
  show (if a < 8 then p0A scr a else List.replicate (sz a) 0).length = sz a
  by_cases h : a < 8
  · rw [if_pos h]
    have hc : a = 1 ∨ a = 2 ∨ a = 3 ∨ a = 4 ∨ a = 5 ∨ a = 6 ∨ a = 7 := by omega
    rcases hc with rfl | rfl | rfl | rfl | rfl | rfl | rfl <;> rfl
  · rw [if_neg h, List.length_replicate]
theorem m1_z {scr : List Int32} {a n : Nat} (h : 8 ≤ a) (hn : sz a = n) : (m1 scr).2.1 a = List.replicate n 0 := by
  show (if a < 8 then p0A scr a else List.replicate (sz a) 0) = _
  rw [if_neg (by omega), hn]
def x00 (scr : List Int32) : Mem := rX (m1 scr)
theorem x00_a {scr : List Int32} {b : Nat} (h : b < 244) : (x00 scr).2.1 b = m1A scr b := (pA_b (by omega)).trans ((pA_b (by omega)).trans ((lyX_o (by omega) (by omega) (by omega)).trans (pA_b (by omega))))
theorem x00_b {scr : List Int32} {b : Nat} (h : 250 < b) : (x00 scr).2.1 b = m1A scr b := (pA_b (by omega)).trans ((pA_b (by omega)).trans ((lyX_o (by omega) (by omega) (by omega)).trans (pA_b (by omega))))
theorem x00_z {scr : List Int32} {b i : Nat} (h : 8 ≤ b) (h2 : b < 244 ∨ 250 < b) : ((x00 scr).2.1 b).getD i 0 = 0 := by
  have e : (x00 scr).2.1 b = m1A scr b := by
    rcases h2 with q | q
    · exact x00_a q
    · exact x00_b q
  rw [e]
  show (if b < 8 then p0A scr b else List.replicate (sz b) 0).getD i 0 = 0
  rw [if_neg (by omega), List.getD_eq_getElem?_getD, List.getElem?_replicate]
  split <;> rfl
def s00 : Sg := (r00, (r00, (fun _ => 0, (0, (-1, (-1, fun _ => x0))))))
theorem r00_z {k : Nat} (h2 : k ≠ 2) (h7 : k ≠ 7) : r00 k = 0 := by
  show (if k = 2 then -1 else if k = 7 then nI 431 else 0) = 0
  rw [if_neg h2, if_neg h7]
theorem x00_Ok {scr : List Int32} : Ok (x00 scr) := okA (rX_ok m1_L ⟨rfl, rfl, rfl, rfl⟩) rfl (by
  rw [ofF_len, pA_b (by decide), lyX_o (by decide) (by decide) (by decide), pA_b (by decide), m1_z (by decide) rfl, List.length_replicate]
  rfl)
theorem x00_now {scr : List Int32} {a : Nat} (hk : kd a = 2) (h8 : 8 ≤ a) (ha : a + 2 < 244) (hn8 : a ≠ 8) (h18 : a ≠ 18) (h118 : a ≠ 118) : CNow (x00 scr) a (nowG r00) := by
  refine ⟨hk, ?_, ?_, ?_, ?_, ?_, fun i hi => ?_, fun i hi => ?_⟩
  · show m1F a 0 = nowG r00 0
    unfold m1F
    rw [if_neg (fun z => by omega), if_neg (fun z => by omega), if_neg (fun z => by omega)]
    rfl
  · show m1F a 3 = nowG r00 1
    unfold m1F
    rw [if_neg (fun z => by omega), if_neg (fun z => by omega), if_neg (fun z => by omega)]
    rfl
  · show m1F a 4 = nowG r00 2
    unfold m1F
    rw [if_pos ⟨hk, rfl⟩]
    rfl
  · show m1F a 2 = nowG r00 3
    unfold m1F
    rw [if_neg (fun z => by omega), if_neg (fun z => by omega), if_neg (fun z => by omega)]
    rfl
  · show m1F a 5 = nowG r00 4
    unfold m1F
    rw [if_neg (fun z => by omega), if_neg (fun z => by omega), if_neg (fun z => by omega)]
    rfl
  · rw [x00_z (by omega) (Or.inl (by omega))]
    show 0 = (if 5 + i = 0 then r00 0 else if 5 + i < 13 then r00 (5 + (5 + i)) else r00 (1179 + (5 + i)))
    rw [if_neg (by omega), if_pos (by omega), r00_z (by omega) (by omega)]
  · rw [x00_z (by omega) (Or.inl (by omega))]
    show 0 = c32 (if 13 + i = 0 then r00 0 else if 13 + i < 13 then r00 (5 + (13 + i)) else r00 (1179 + (13 + i)))
    rw [if_neg (by omega), if_neg (by omega), r00_z (by omega) (by omega)]
    rfl
theorem r00_3 : tn (r00 3) = 0 := by decide
theorem x00_held {scr : List Int32} {H : Nat} (hH : H = 18 ∨ H = 118) : CHeld (x00 scr) H r00 := by
  have z : ∀ b i, 18 ≤ b → b < 244 → ((x00 scr).2.1 b).getD i 0 = 0 := fun b i h1 h2 => x00_z (by omega) (Or.inl h2)
  refine ⟨?_, ⟨?_, 0, by decide, ?_, fun i hi => absurd hi (by rw [r00_3]; exact Nat.not_lt_zero i)⟩, fun i hi => ?_, ⟨?_, ?_, ?_, ?_, ?_⟩, fun i hi => ⟨?_, ?_, ?_⟩⟩
  · rcases hH with rfl | rfl
    · exact x00_now rfl (by decide) (by decide) (by decide) (by decide) (by decide)
    · exact x00_now rfl (by decide) (by decide) (by decide) (by decide) (by decide)
  · rcases hH with rfl | rfl
    · exact (show m1F 22 2 = r00 3 by decide)
    · exact (show m1F 122 2 = r00 3 by decide)
  · rcases hH with rfl | rfl
    · exact (show m1F 22 1 = nI 0 by decide)
    · exact (show m1F 122 1 = nI 0 by decide)
  · rw [z _ _ (by omega) (by omega), r00_z (by omega) (by omega)]
  · rcases hH with rfl | rfl
    · exact (show m1F 18 3 = r00 1 by decide)
    · exact (show m1F 118 3 = r00 1 by decide)
  · rcases hH with rfl | rfl
    · exact (show m1F 18 4 = r00 2 by decide)
    · exact (show m1F 118 4 = r00 2 by decide)
  · rcases hH with rfl | rfl
    · exact (show m1F 18 5 = r00 26 by decide)
    · exact (show m1F 118 5 = r00 26 by decide)
  · rcases hH with rfl | rfl
    · exact (show m1F 18 6 = r00 27 by decide)
    · exact (show m1F 118 6 = r00 27 by decide)
  · rcases hH with rfl | rfl
    · exact (show m1F 18 7 = r00 5 by decide)
    · exact (show m1F 118 7 = r00 5 by decide)
  · rw [z _ _ (by omega) (by omega), r00_z (by omega) (by omega)]
  · rw [z _ _ (by omega) (by omega), r00_z (by omega) (by omega)]
  · rw [z _ _ (by omega) (by omega), r00_z (by omega) (by omega)]
theorem r00_1 : tn (r00 1) = 0 := by decide
theorem x00_CI {scr : List Int32} : CI (x00 scr) s00 := ⟨x00_held (Or.inl rfl), x00_held (Or.inr rfl), fun i hi => x00_z (by decide) (Or.inl (by decide)), ⟨by show m1F 8 1 = nI 0; decide, by show m1F 8 2 = -1; decide, by show m1F 8 3 = -1; decide⟩, fun t ht ht4 => by
  have ht : t < tn (r00 1) := ht
  rw [r00_1] at ht
  exact absurd ht (Nat.not_lt_zero t)⟩
theorem x00_RI {scr : List Int32} : RI (x00 scr) s00 := ⟨(pA_b (by decide)).trans ((pA_b (by decide)).trans ((lyX_o (by decide) (by decide) (by decide)).trans pA_at)), pA_at, fun i hi => x00_z (by decide) (Or.inr (by decide)), ⟨by show m1F 244 9 = nI 0; decide, by show m1F 244 10 = -1; decide, by show m1F 244 11 = -1; decide, by show m1F 244 30 = nI 1; decide⟩, fun t ht ht4 => by
  have ht : t < tn (r00 1) := ht
  rw [r00_1] at ht
  exact absurd ht (Nat.not_lt_zero t)⟩
theorem r00_5 : tn (r00 5) = 0 := by decide
theorem r00_ck : allN (fun j => decide (j = 2) || inR (r00 j) (bd j)) 1217 = true := by decide +kernel
theorem r00_WF : WFr r00 := by
  refine ⟨fun j hj h2 => ?_, Or.inl rfl, by decide +kernel, fun i hi => absurd hi (by rw [r00_5]; exact Nat.not_lt_zero i)⟩
  have h := allN_iff.mp r00_ck j hj
  rw [decide_eq_false h2, Bool.false_or] at h
  exact h
theorem s00_WF : WFs s00 := ⟨r00_WF, r00_WF, Nat.le_refl _, ⟨by decide, fun i hi => by show inR 0 255 = true; decide⟩, fun t ht => by
  have ht : t < tn (r00 1) := ht
  rw [r00_1] at ht
  exact absurd ht (Nat.not_lt_zero t)⟩
theorem x00_S {scr : List Int32} : LwS scr (x00 scr) s00 := ⟨x00_Ok, x00_CI, x00_RI, s00_WF, x00_a (by decide)⟩
def D8v : List Value := [.null, .null, .null, .null, .null, .null, .null, .null, .null, .int 0, .int 0, .int 0, .int 0, .int 0, .int 0, .int 0, .long 0, .int 0, .int 0, .int 0, .null, .null, .int 0, .int 0, .int 0, .int 0, .int 0, .null, .null, .null, .int 0, .int 0, .null, .null, .null, .null, .int 0]
theorem D8v_up (G : GC) : D8v.map (up G) = D8v := by
  unfold D8v
  simp only [List.map_cons, List.map_nil, up]
theorem dfl_8w : ∀ j, j < 37 → defaultValue (tyX9 j) = vp_V D8v j := by decide +kernel
theorem dfl_8v (G : GC) (j : Nat) (hj : j < 37) : defaultValue (tyX9 j) = vp_V (D8v.map (up G)) j := by
  rw [D8v_up]
  exact dfl_8w j hj
theorem lw_all {scr : List Int32} (hl : scr.length ≤ 3072) {Q : Option Value → MH → Prop} (kq : ∀ h, Q (some (.int (b2i true))) h) : J 75 m_W_law 263 13716 Q 0 [some (.ref 0), none, none, none] [] (8, (0, c0 scr)) := by
  refine J.imp (Q1 := QM (fun r _ => r = some (.int (b2i true)))) ?_ (fun r h q => by
    obtain ⟨Y, e, hr⟩ := q
    rw [hr]
    exact kq h)
  refine J.eq (h1 := (8, (0, c0 scr ++ []))) ?_ rfl rfl (by rw [List.append_nil])
  refine K_new (ty0 := tyX8) (vs := [.null, .int 0, .int 0, .int 0, .null, .null, .null, .null, .null, .null, .null, .null, .null]) (n' := 9) (s' := 13) (l' := [(7, .inl [.null, .int 0, .int 0, .int 0, .null, .null, .null, .null, .null, .null, .null, .null, .null])]) d_W_law_0 (by decide) rfl cw_7 tyX8_ok w_W_7 w_inst_7 w_init_7 rfl (fun _ => dfl_7) rfl rfl (by omega) (by omega) rfl ?_
  refine J_dup d_W_law_3 rfl ?_
  refine J_callI (av := []) d_W_law_4 s_W_9 (ct_O_init (c0 scr) 8 13 c0_len (by decide)) (by decide) rfl rfl (Nat.le_of_ble_eq_true rfl) (by decide) (by decide) (fun r1 h1 hq1 => ?_)
  obtain ⟨rfl, rfl⟩ := hq1
  refine J_astore_n (i := 1) (L1 := [some (.ref 0), some (.ref 8), none, none]) d_W_law_7 rfl (by decide) rfl ?_
  have hC : (c0 scr ++ officeC 8).length = 244 := by rw [List.length_append, c0_len, officeC_len]
  refine J.eq (h1 := (244, (5849, (c0 scr ++ officeC 8) ++ []))) ?_ rfl rfl (by rw [List.append_nil])
  refine K_new (ty0 := tyX9) (vs := D8v) (n' := 245) (s' := 5886) (l' := [(8, .inl D8v)]) d_W_law_8 (by decide) rfl cw_8 tyX9_ok w_W_10 w_inst_8 w_init_8 rfl dfl_8v rfl rfl (by omega) (by omega) rfl ?_
  refine J_dup d_W_law_11 rfl ?_
  have hm1 : ((244 + 19, (5886 + 7830, (c0 scr ++ officeC 8) ++ modelC)) : MH) = hm (m1 scr) := by
    show ((263, (13716, (c0 scr ++ officeC 8) ++ modelC)) : MH) = (263, (13716, cellsM (m1 scr)))
    rw [m1_hm]
  have hcr := ct_R_init (C := c0 scr ++ officeC 8) (s := 5886) (X := m1 scr) hC rfl hm1 m1_L ⟨rfl, rfl, rfl, rfl⟩ (m1_z (by decide) rfl) (m1_z (by decide) rfl) (m1_z (by decide) rfl) (m1_z (by decide) rfl) (m1_z (by decide) rfl) (m1_z (by decide) rfl)
  refine J_callI (av := []) d_W_law_12 s_W_12 hcr (by decide) rfl rfl (Nat.le_of_ble_eq_true rfl) (by decide) (by decide) (fun r2 h2 hq2 => ?_)
  obtain ⟨Y, rfl, rfl, rfl⟩ := hq2
  refine J_astore_n (i := 2) (L1 := [some (.ref 0), some (.ref 8), some (.ref 244), none]) d_W_law_15 rfl (by decide) rfl ?_
  refine J_iconst (v := nI 0) d_W_law_16 rfl ?_
  refine J_istore_n (i := 3) (L1 := [some (.ref 0), some (.ref 8), some (.ref 244), some (.int (nI 0))]) d_W_law_17 rfl (by decide) rfl ?_
  exact lw_loop (scr := scr) hl (fun Y => rfl) scr.length 0 (x00 scr) s00 (by omega) (by decide) x00_S
