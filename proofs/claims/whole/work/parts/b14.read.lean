/-- what reading clauses leaves as it was -/
def offC (T : Nat) (X Y : Mem) : Prop := (∀ b, b ≠ 11 → b ≠ T → ∀ k, Y.1 b k = X.1 b k) ∧ (∀ b, (b < T + 1 ∨ T + 4 < b) → Y.2.1 b = X.2.1 b) ∧ Y.2.2 = X.2.2
theorem offC_0 (T : Nat) (X : Mem) : offC T X X := ⟨fun _ _ _ _ => rfl, fun _ _ => rfl, rfl⟩
theorem offC_t {T : Nat} {X Y Z : Mem} (h1 : offC T X Y) (h2 : offC T Y Z) : offC T X Z := ⟨fun b q1 q2 k => (h2.1 b q1 q2 k).trans (h1.1 b q1 q2 k), fun b q => (h2.2.1 b q).trans (h1.2.1 b q), h2.2.2.trans h1.2.2⟩
theorem offC_L {T : Nat} {X Y : Mem} (h : offL T X Y) : offC T X Y := ⟨fun b q1 q2 k => h.1 b k (fun z => q1 z.1) (fun z => q2 z.1), fun b q => h.2.1 b (by omega), h.2.2⟩
theorem offC_T {T k : Nat} {X : Mem} {v : Int32} : offC T X (pF X T k v) := ⟨fun b _ q2 _ => pF_o q2, fun _ _ => rfl, rfl⟩
theorem offC_11 {T k : Nat} {X : Mem} {v : Int32} : offC T X (pF X 11 k v) := ⟨fun b q1 _ _ => pF_o q1, fun _ _ => rfl, rfl⟩
theorem offC_A {T a : Nat} {X : Mem} {l : List Int32} (h1 : T + 1 ≤ a) (h2 : a ≤ T + 4) : offC T X (pA X a l) := ⟨fun _ _ _ _ => rfl, fun b q => if_neg (by omega), rfl⟩
theorem Bs_C {X Y : Mem} {B : Nat → Nat} {N T : Nat} (h : offC T X Y) (hb : Bs X B N T) : Bs Y B N T := by
  obtain ⟨⟨h1, h2, h3, h4⟩, h5, h6⟩ := hb
  have ht := tx_ne h5
  refine ⟨⟨h1, h2, h3, fun j hj => ?_⟩, h5, by rw [h.2.2]; exact h6⟩
  rw [h.2.1 13 (by omega), h.2.1 14 (by omega), h.2.1 15 (by omega)]
  exact h4 j hj
theorem Lv_T {X : Mem} {B : Nat → Nat} {N T j c k : Nat} {w : Bool} {v : Int32} (h : Lv X B N T j c w) (hk : k ≠ 1) : Lv (pF X T k v) B N T j c w := by
  obtain ⟨g1, g2, g3, g4, g5, g6, g7, g8⟩ := h
  have ht := tx_ne g1.2.1
  exact ⟨Bs_C offC_T g1, g2, (pF_o (by omega)).trans g3, (pF_o (by omega)).trans g4, (by rw [pF_o (by omega)]; exact g5), (pF_o (by omega)).trans g6, (pF_k (Ne.symm hk)).trans g7, ⟨g8.1, (pF_o (by omega)).trans g8.2⟩⟩
theorem Dd_T {X : Mem} {B : Nat → Nat} {N T f p k : Nat} {v : Int32} (h : Dd X B N T f p) (hk : k ≠ 1) : Dd (pF X T k v) B N T f p := by
  obtain ⟨g1, ⟨j, hj, g2⟩, g3, g4, g5, g6, c, hc, g7⟩ := h
  have ht := tx_ne g1.2.1
  exact ⟨Bs_C offC_T g1, ⟨j, hj, (pF_o (by omega)).trans g2⟩, (pF_o (by omega)).trans g3, (pF_o (by omega)).trans g4, g5, (pF_o (by omega)).trans g6, c, hc, (pF_k (Ne.symm hk)).trans g7⟩
theorem Lv_w {X : Mem} {B : Nat → Nat} {N T j c : Nat} {w w2 : Bool} (h : Lv X B N T j c w) : Lv (pF X 11 3 (b2i w2)) B N T j c w2 := by
  obtain ⟨g1, g2, g3, g4, g5, g6, g7, g8⟩ := h
  have ht := tx_ne g1.2.1
  exact ⟨Bs_C offC_11 g1, g2, (pF_k (by decide)).trans g3, (pF_k (by decide)).trans g4, (by rw [pF_at]; cases w2 <;> decide), (pF_k (by decide)).trans g6, (pF_o (by omega)).trans g7, ⟨g8.1, (pF_k (by decide)).trans g8.2⟩⟩
theorem Lv_A {X : Mem} {B : Nat → Nat} {N T j c a : Nat} {w : Bool} {l : List Int32} (h : Lv X B N T j c w) (h1 : T + 1 ≤ a) (h2 : a ≤ T + 4) : Lv (pA X a l) B N T j c w := ⟨Bs_C (offC_A h1 h2) h.1, h.2⟩
theorem Dd_A {X : Mem} {B : Nat → Nat} {N T f p a : Nat} {l : List Int32} (h : Dd X B N T f p) (h1 : T + 1 ≤ a) (h2 : a ≤ T + 4) : Dd (pA X a l) B N T f p := ⟨Bs_C (offC_A h1 h2) h.1, h.2⟩
theorem S_D_readLaw_t {X : Mem} {B : Nat → Nat} {N T j c : Nat} {w : Bool} (hX : Ok X) (hL : Lv X B N T j c w) (hcj : c ≤ j) : CM 70 m_D_readLaw [.ref 11, .int (b2i true)] X (fun r Y => r = none ∧ Ok Y ∧ offC T X Y ∧ (match pSum (tkT B) (lev (tkT B) true 8).1 j with
  | .inl q => Dd Y B N T q.1 (stT B q.2)
  | .inr q => ∃ c2 Y0, Y = pF (pF (pF Y0 T 2 (b2i true)) T 3 (nI c)) T 4 (nI c2) ∧ offL T (pF X 11 3 (b2i true)) Y0 ∧ Lv Y B N T q.1 c2 true ∧ c2 + j ≤ c + q.1 ∧ j < q.1 ∧ c ≤ c2 ∧ (∀ p, p < c → (Y0.2.1 (T + 1)).getD p 0 = (X.2.1 (T + 1)).getD p 0) ∧ GdC T true Y c c2 q.2)) := by
  have hkT := hL.1.2.1
  have h300 := hL.1.1.1
  have hjN := hL.2.1
  have hlt := tk_lt B j
  have hjl := Lv_N hL
  refine CM_of (L := [some (.ref 11), some (.int (b2i true)), none]) 1 ok_D_readLaw (fun _ => Nat.le_of_ble_eq_true rfl) rfl ?_
  refine J_aload_n (i := 0) d_D_readLaw_0 rfl rfl ?_
  refine J_iload_n (i := 1) d_D_readLaw_1 rfl rfl ?_
  refine M_put d_D_readLaw_2 p_D_87 rfl rfl b2i_nar b2i_fit ?_
  have hL0 := Lv_w (w2 := true) hL
  refine J_aload_n (i := 0) d_D_readLaw_5 rfl rfl ?_
  refine M_getI (b := T) d_D_readLaw_6 f_D_34 rfl rfl hL0.1.2.2 ?_
  refine M_get (x := (nI c)) d_D_readLaw_9 f_D_90 hkT rfl hL0.2.2.2.2.2.2.1 ?_
  refine J_istore_n (i := 2) (L1 := [some (.ref 11), some (.int (b2i true)), some (.int (nI c))]) d_D_readLaw_12 rfl (by decide) rfl ?_
  refine J_aload_n (i := 0) d_D_readLaw_13 rfl rfl ?_
  refine J_iconst (v := nI 0) d_D_readLaw_14 rfl ?_
  refine M_callV (av := [.int (nI 0)]) d_D_readLaw_15 s_D_93 (M_rcv rfl (by decide) rfl) (law_c B N T true _ _ _ (okF hX) hL0 (by omega)) (by omega) rfl rfl (Nat.le_of_ble_eq_true rfl) (fun r1 Y1 hq1 => ?_)
  obtain ⟨rfl, hq1⟩ := hq1
  rcases hr1 : pSum (tkT B) (lev (tkT B) true 8).1 j with q1 | q1
  · rw [hr1] at hq1
    obtain ⟨hY1, ho1, hD1⟩ := hq1
    have hD1 : Dd Y1 B N T q1.1 (stT B q1.2) := hD1
    have hf1 := hD1.2.2.2.2.1
    refine J_iload_n (i := 1) d_D_readLaw_18 rfl rfl ?_
    refine B_if_eq (tgt := 55) d_D_readLaw_19 (by decide) (fun c19 => absurd c19 (by decide)) (fun c19 => ?_)
    refine J_aload_n (i := 0) d_D_readLaw_22 rfl rfl ?_
    refine M_getI (b := T) d_D_readLaw_23 f_D_34 rfl rfl hD1.1.2.2 ?_
    refine J_iconst (v := nI 1) d_D_readLaw_26 rfl ?_
    refine J.eq (st1 := [.int (b2i true), .ref T]) ?_ rfl rfl rfl
    refine M_put d_D_readLaw_27 p_D_63 hkT rfl b2i_nar b2i_fit ?_
    have hD2 := Dd_T (k := 2) (v := (b2i true)) hD1 (by decide)
    refine J_aload_n (i := 0) d_D_readLaw_30 rfl rfl ?_
    refine M_getI (b := T) d_D_readLaw_31 f_D_34 rfl rfl hD2.1.2.2 ?_
    refine J_iload_n (i := 2) d_D_readLaw_34 rfl rfl ?_
    refine M_put d_D_readLaw_35 p_D_96 hkT rfl rfl rfl ?_
    have hD3 := Dd_T (k := 3) (v := (nI c)) hD2 (by decide)
    refine J_aload_n (i := 0) d_D_readLaw_38 rfl rfl ?_
    refine M_getI (b := T) d_D_readLaw_39 f_D_34 rfl rfl hD3.1.2.2 ?_
    refine J_aload_n (i := 0) d_D_readLaw_42 rfl rfl ?_
    refine M_getI (b := T) d_D_readLaw_43 f_D_34 rfl rfl hD3.1.2.2 ?_
    obtain ⟨cl4, hcm4, hcx4⟩ := hD3.2.2.2.2.2.2
    refine M_get (x := (nI cl4)) d_D_readLaw_46 f_D_90 hkT rfl hcx4 ?_
    refine M_put d_D_readLaw_49 p_D_99 hkT rfl rfl rfl ?_
    have hD5 := Dd_T (k := 4) (v := (nI cl4)) hD3 (by decide)
    refine J_goto (tgt := 85) d_D_readLaw_52 (by decide) ?_
    refine M_vr d_D_readLaw_85 rfl ?_
    exact ⟨rfl, (okF (okF (okF hY1))), offC_t (offC_t offC_11 (offC_L ho1)) (offC_t offC_T (offC_t offC_T offC_T)), hD5⟩
  · rw [hr1] at hq1
    obtain ⟨hY1, ho1, c1, hL1, la1, lb1, lc1, hcl1, hG1⟩ := hq1
    have hN1 := hL1.2.1
    have hlt1 := tk_lt B q1.1
    have hjl1 := Lv_N hL1
    refine J_iload_n (i := 1) d_D_readLaw_18 rfl rfl ?_
    refine B_if_eq (tgt := 55) d_D_readLaw_19 (by decide) (fun c19 => absurd c19 (by decide)) (fun c19 => ?_)
    refine J_aload_n (i := 0) d_D_readLaw_22 rfl rfl ?_
    refine M_getI (b := T) d_D_readLaw_23 f_D_34 rfl rfl hL1.1.2.2 ?_
    refine J_iconst (v := nI 1) d_D_readLaw_26 rfl ?_
    refine J.eq (st1 := [.int (b2i true), .ref T]) ?_ rfl rfl rfl
    refine M_put d_D_readLaw_27 p_D_63 hkT rfl b2i_nar b2i_fit ?_
    have hL2 := Lv_T (k := 2) (v := (b2i true)) hL1 (by decide)
    refine J_aload_n (i := 0) d_D_readLaw_30 rfl rfl ?_
    refine M_getI (b := T) d_D_readLaw_31 f_D_34 rfl rfl hL2.1.2.2 ?_
    refine J_iload_n (i := 2) d_D_readLaw_34 rfl rfl ?_
    refine M_put d_D_readLaw_35 p_D_96 hkT rfl rfl rfl ?_
    have hL3 := Lv_T (k := 3) (v := (nI c)) hL2 (by decide)
    refine J_aload_n (i := 0) d_D_readLaw_38 rfl rfl ?_
    refine M_getI (b := T) d_D_readLaw_39 f_D_34 rfl rfl hL3.1.2.2 ?_
    refine J_aload_n (i := 0) d_D_readLaw_42 rfl rfl ?_
    refine M_getI (b := T) d_D_readLaw_43 f_D_34 rfl rfl hL3.1.2.2 ?_
    refine M_get (x := (nI c1)) d_D_readLaw_46 f_D_90 hkT rfl hL3.2.2.2.2.2.2.1 ?_
    refine M_put d_D_readLaw_49 p_D_99 hkT rfl rfl rfl ?_
    have hL4 := Lv_T (k := 4) (v := (nI c1)) hL3 (by decide)
    refine J_goto (tgt := 85) d_D_readLaw_52 (by decide) ?_
    refine M_vr d_D_readLaw_85 rfl ?_
    exact ⟨rfl, (okF (okF (okF hY1))), offC_t (offC_t offC_11 (offC_L ho1)) (offC_t offC_T (offC_t offC_T offC_T)), c1, Y1, rfl, ho1, hL4, la1, lb1, lc1, hcl1, GC_same hG1 (fun p h1 h2 => rfl)⟩

theorem S_D_readLaw_f {X : Mem} {B : Nat → Nat} {N T j c : Nat} {w : Bool} (hX : Ok X) (hL : Lv X B N T j c w) (hcj : c ≤ j) : CM 70 m_D_readLaw [.ref 11, .int (b2i false)] X (fun r Y => r = none ∧ Ok Y ∧ offC T X Y ∧ (match pSum (tkT B) (lev (tkT B) false 8).1 j with
  | .inl q => Dd Y B N T q.1 (stT B q.2)
  | .inr q => ∃ c2 Y0, Y = pF (pF (pF Y0 T 5 (b2i true)) T 6 (nI c)) T 7 (nI c2) ∧ offL T (pF X 11 3 (b2i false)) Y0 ∧ Lv Y B N T q.1 c2 false ∧ c2 + j ≤ c + q.1 ∧ j < q.1 ∧ c ≤ c2 ∧ (∀ p, p < c → (Y0.2.1 (T + 1)).getD p 0 = (X.2.1 (T + 1)).getD p 0) ∧ GdC T false Y c c2 q.2)) := by
  have hkT := hL.1.2.1
  have h300 := hL.1.1.1
  have hjN := hL.2.1
  have hlt := tk_lt B j
  have hjl := Lv_N hL
  refine CM_of (L := [some (.ref 11), some (.int (b2i false)), none]) 1 ok_D_readLaw (fun _ => Nat.le_of_ble_eq_true rfl) rfl ?_
  refine J_aload_n (i := 0) d_D_readLaw_0 rfl rfl ?_
  refine J_iload_n (i := 1) d_D_readLaw_1 rfl rfl ?_
  refine M_put d_D_readLaw_2 p_D_87 rfl rfl b2i_nar b2i_fit ?_
  have hL0 := Lv_w (w2 := false) hL
  refine J_aload_n (i := 0) d_D_readLaw_5 rfl rfl ?_
  refine M_getI (b := T) d_D_readLaw_6 f_D_34 rfl rfl hL0.1.2.2 ?_
  refine M_get (x := (nI c)) d_D_readLaw_9 f_D_90 hkT rfl hL0.2.2.2.2.2.2.1 ?_
  refine J_istore_n (i := 2) (L1 := [some (.ref 11), some (.int (b2i false)), some (.int (nI c))]) d_D_readLaw_12 rfl (by decide) rfl ?_
  refine J_aload_n (i := 0) d_D_readLaw_13 rfl rfl ?_
  refine J_iconst (v := nI 0) d_D_readLaw_14 rfl ?_
  refine M_callV (av := [.int (nI 0)]) d_D_readLaw_15 s_D_93 (M_rcv rfl (by decide) rfl) (law_c B N T false _ _ _ (okF hX) hL0 (by omega)) (by omega) rfl rfl (Nat.le_of_ble_eq_true rfl) (fun r1 Y1 hq1 => ?_)
  obtain ⟨rfl, hq1⟩ := hq1
  rcases hr1 : pSum (tkT B) (lev (tkT B) false 8).1 j with q1 | q1
  · rw [hr1] at hq1
    obtain ⟨hY1, ho1, hD1⟩ := hq1
    have hD1 : Dd Y1 B N T q1.1 (stT B q1.2) := hD1
    have hf1 := hD1.2.2.2.2.1
    refine J_iload_n (i := 1) d_D_readLaw_18 rfl rfl ?_
    refine B_if_eq (tgt := 55) d_D_readLaw_19 (by decide) (fun c19 => ?_) (fun c19 => absurd c19 (by decide))
    refine J_aload_n (i := 0) d_D_readLaw_55 rfl rfl ?_
    refine M_getI (b := T) d_D_readLaw_56 f_D_34 rfl rfl hD1.1.2.2 ?_
    refine J_iconst (v := nI 1) d_D_readLaw_59 rfl ?_
    refine J.eq (st1 := [.int (b2i true), .ref T]) ?_ rfl rfl rfl
    refine M_put d_D_readLaw_60 p_D_67 hkT rfl b2i_nar b2i_fit ?_
    have hD2 := Dd_T (k := 5) (v := (b2i true)) hD1 (by decide)
    refine J_aload_n (i := 0) d_D_readLaw_63 rfl rfl ?_
    refine M_getI (b := T) d_D_readLaw_64 f_D_34 rfl rfl hD2.1.2.2 ?_
    refine J_iload_n (i := 2) d_D_readLaw_67 rfl rfl ?_
    refine M_put d_D_readLaw_68 p_D_102 hkT rfl rfl rfl ?_
    have hD3 := Dd_T (k := 6) (v := (nI c)) hD2 (by decide)
    refine J_aload_n (i := 0) d_D_readLaw_71 rfl rfl ?_
    refine M_getI (b := T) d_D_readLaw_72 f_D_34 rfl rfl hD3.1.2.2 ?_
    refine J_aload_n (i := 0) d_D_readLaw_75 rfl rfl ?_
    refine M_getI (b := T) d_D_readLaw_76 f_D_34 rfl rfl hD3.1.2.2 ?_
    obtain ⟨cl4, hcm4, hcx4⟩ := hD3.2.2.2.2.2.2
    refine M_get (x := (nI cl4)) d_D_readLaw_79 f_D_90 hkT rfl hcx4 ?_
    refine M_put d_D_readLaw_82 p_D_105 hkT rfl rfl rfl ?_
    have hD5 := Dd_T (k := 7) (v := (nI cl4)) hD3 (by decide)
    refine M_vr d_D_readLaw_85 rfl ?_
    exact ⟨rfl, (okF (okF (okF hY1))), offC_t (offC_t offC_11 (offC_L ho1)) (offC_t offC_T (offC_t offC_T offC_T)), hD5⟩
  · rw [hr1] at hq1
    obtain ⟨hY1, ho1, c1, hL1, la1, lb1, lc1, hcl1, hG1⟩ := hq1
    have hN1 := hL1.2.1
    have hlt1 := tk_lt B q1.1
    have hjl1 := Lv_N hL1
    refine J_iload_n (i := 1) d_D_readLaw_18 rfl rfl ?_
    refine B_if_eq (tgt := 55) d_D_readLaw_19 (by decide) (fun c19 => ?_) (fun c19 => absurd c19 (by decide))
    refine J_aload_n (i := 0) d_D_readLaw_55 rfl rfl ?_
    refine M_getI (b := T) d_D_readLaw_56 f_D_34 rfl rfl hL1.1.2.2 ?_
    refine J_iconst (v := nI 1) d_D_readLaw_59 rfl ?_
    refine J.eq (st1 := [.int (b2i true), .ref T]) ?_ rfl rfl rfl
    refine M_put d_D_readLaw_60 p_D_67 hkT rfl b2i_nar b2i_fit ?_
    have hL2 := Lv_T (k := 5) (v := (b2i true)) hL1 (by decide)
    refine J_aload_n (i := 0) d_D_readLaw_63 rfl rfl ?_
    refine M_getI (b := T) d_D_readLaw_64 f_D_34 rfl rfl hL2.1.2.2 ?_
    refine J_iload_n (i := 2) d_D_readLaw_67 rfl rfl ?_
    refine M_put d_D_readLaw_68 p_D_102 hkT rfl rfl rfl ?_
    have hL3 := Lv_T (k := 6) (v := (nI c)) hL2 (by decide)
    refine J_aload_n (i := 0) d_D_readLaw_71 rfl rfl ?_
    refine M_getI (b := T) d_D_readLaw_72 f_D_34 rfl rfl hL3.1.2.2 ?_
    refine J_aload_n (i := 0) d_D_readLaw_75 rfl rfl ?_
    refine M_getI (b := T) d_D_readLaw_76 f_D_34 rfl rfl hL3.1.2.2 ?_
    refine M_get (x := (nI c1)) d_D_readLaw_79 f_D_90 hkT rfl hL3.2.2.2.2.2.2.1 ?_
    refine M_put d_D_readLaw_82 p_D_105 hkT rfl rfl rfl ?_
    have hL4 := Lv_T (k := 7) (v := (nI c1)) hL3 (by decide)
    refine M_vr d_D_readLaw_85 rfl ?_
    exact ⟨rfl, (okF (okF (okF hY1))), offC_t (offC_t offC_11 (offC_L ho1)) (offC_t offC_T (offC_t offC_T offC_T)), c1, Y1, rfl, ho1, hL4, la1, lb1, lc1, hcl1, GC_same hG1 (fun p h1 h2 => rfl)⟩

def dkB (k : Nat) (p : Nat × Nat) : Prop := (k = 2 → p.1 < 1048576) ∧ ((k = 3 ∨ k = 4) → p.1 < 20 ∧ p.2 < 8) ∧ (k = 5 → p.1 < 8) ∧ (k = 6 → 1 ≤ p.1 ∧ p.1 ≤ 60)
/-- what a deed leaves as it was -/
def offK (T : Nat) (X Y : Mem) : Prop := (∀ b k, ¬ (b = 11 ∧ (k = 1 ∨ k = 2 ∨ k = 5 ∨ k = 6)) → ¬ (b = T ∧ k = 1) → Y.1 b k = X.1 b k) ∧ (∀ b, b ≠ T + 1 → b ≠ T + 3 → b ≠ T + 4 → Y.2.1 b = X.2.1 b) ∧ Y.2.2 = X.2.2
theorem offK_L {T : Nat} {X Y : Mem} (h : offL T X Y) : offK T X Y := ⟨h.1, fun b q _ _ => h.2.1 b q, h.2.2⟩
theorem offK_t {T : Nat} {X Y Z : Mem} (h1 : offK T X Y) (h2 : offK T Y Z) : offK T X Z := ⟨fun b k q1 q2 => (h2.1 b k q1 q2).trans (h1.1 b k q1 q2), fun b q1 q2 q3 => (h2.2.1 b q1 q2 q3).trans (h1.2.1 b q1 q2 q3), h2.2.2.trans h1.2.2⟩
theorem offK_3 {T : Nat} {X : Mem} {l : List Int32} : offK T X (pA X (T + 3) l) := ⟨fun _ _ _ _ => rfl, fun b _ q _ => if_neg q, rfl⟩
theorem offK_4 {T : Nat} {X : Mem} {l : List Int32} : offK T X (pA X (T + 4) l) := ⟨fun _ _ _ _ => rfl, fun b _ _ q => if_neg q, rfl⟩
theorem offC_K {T : Nat} {X Y : Mem} (h : offK T X Y) : offC T X Y := ⟨fun b q1 q2 k => h.1 b k (fun z => q1 z.1) (fun z => q2 z.1), fun b q => h.2.1 b (by omega) (by omega) (by omega), h.2.2⟩
/-- a deed read: as clause kk -/
def DeedC (vb kk : Nat) (B : Nat → Nat) (N T j c : Nat) (w : Bool) (X Y : Mem) (q : Nat × (Nat × Nat)) : Prop := dkB vb q.2 ∧ (offK T X Y ∧ (Lv Y B N T q.1 c w ∧ (j < q.1 ∧ (Y.2.1 (T + 1) = X.2.1 (T + 1) ∧ (Y.2.1 (T + 3) = (X.2.1 (T + 3)).set kk (nI q.2.1) ∧ (((vb = 3 ∨ vb = 4) → Y.2.1 (T + 4) = (X.2.1 (T + 4)).set kk (nI q.2.2)) ∧ (¬ (vb = 3 ∨ vb = 4) → Y.2.1 (T + 4) = X.2.1 (T + 4))))))))
theorem S_D_readDeed_2 {X : Mem} {B : Nat → Nat} {N T j c kk : Nat} {w : Bool} (hX : Ok X) (hL : Lv X B N T j c w) (hkk : kk < 24) : CM 28 m_D_readDeed [.ref 11, .int (nI 2), .int (nI kk)] X (fun r Y => r = none ∧ Ok Y ∧ offC T X Y ∧ (match pDeed (tkT B) 2 j with
  | .inl q => Dd Y B N T q.1 (stT B q.2)
  | .inr q => DeedC 2 kk B N T j c w X Y q)) := by
  have hkT := hL.1.2.1
  have h300 := hL.1.1.1
  have hjN := hL.2.1
  have hlt := tk_lt B j
  have hjl := Lv_N hL
  have tf := txt_f hkT
  refine CM_of (L := [some (.ref 11), some (.int (nI 2)), some (.int (nI kk))]) 0 ok_D_readDeed (fun _ => Nat.le_of_ble_eq_true rfl) rfl ?_
  refine J_iload_n (i := 1) d_D_readDeed_0 rfl rfl ?_
  refine J_iconst (v := nI 2) d_D_readDeed_1 rfl ?_
  refine N_icmp_ne (tgt := 22) d_D_readDeed_2 (by decide) (by omega) (by omega) (fun c2 => absurd c2 (by decide)) (fun c2 => ?_)
  refine J_aload_n (i := 0) d_D_readDeed_5 rfl rfl ?_
  refine M_getI (b := T) d_D_readDeed_6 f_D_34 rfl rfl hL.1.2.2 ?_
  refine M_getR (b := (T + 3)) d_D_readDeed_9 f_D_108 hkT rfl tf.1.2.2.1 ?_
  refine J_iload_n (i := 2) d_D_readDeed_12 rfl rfl ?_
  refine J_aload_n (i := 0) d_D_readDeed_13 rfl rfl ?_
  refine J_iconst (v := nI 0) d_D_readDeed_14 rfl ?_
  refine M_callV (av := [.int (nI 0)]) d_D_readDeed_15 s_D_111 (M_rcv rfl (by decide) rfl) (shape_c B N T w _ _ _ hX hL) (by omega) rfl rfl (Nat.le_of_ble_eq_true rfl) (fun r1 Y1 hq1 => ?_)
  obtain ⟨v1, rfl, hv1, hq1⟩ := hq1
  rcases hr1 : pShape (tkT B) (levS (tkT B) 8) j with q1 | q1
  · rw [hr1] at hq1
    obtain ⟨hY1, ho1, hD1⟩ := hq1
    have hD1 : Dd Y1 B N T q1.1 (stT B q1.2) := hD1
    have hf1 := hD1.2.2.2.2.1
    refine N_iast d_D_readDeed_18 tf.2.1.2.2.1 (by omega) (by omega) (by rw [hY1.1 (T + 3) (by omega), tf.2.2.1.2.2.1]; exact hkk) ?_
    have hD2 := Dd_A (a := T + 3) (l := ((Y1.2.1 (T + 3)).set kk (nI v1))) hD1 (by omega) (by omega)
    refine J_goto (tgt := 119) d_D_readDeed_19 (by decide) ?_
    refine M_vr d_D_readDeed_119 rfl ?_
    have e : pDeed (tkT B) 2 j = .inl q1 := by unfold pDeed; rw [if_pos rfl, hr1]; rfl
    rw [e]
    exact ⟨rfl, (okS hY1 tf.2.2.2.1.2.2.1), offC_K (offK_t (offK_t (offK_L (offL_t (offL_0 T X) ho1)) offK_3) (offK_L (offL_0 T (pA Y1 (T + 3) ((Y1.2.1 (T + 3)).set kk (nI v1)))))), hD2⟩
  · rw [hr1] at hq1
    obtain ⟨hY1, ho1, hw1, hL1, lb1, har1⟩ := hq1
    subst hw1
    have hN1 := hL1.2.1
    have hlt1 := tk_lt B q1.1
    have hjl1 := Lv_N hL1
    refine N_iast d_D_readDeed_18 tf.2.1.2.2.1 (by omega) (by omega) (by rw [hY1.1 (T + 3) (by omega), tf.2.2.1.2.2.1]; exact hkk) ?_
    have hL2 := Lv_A (a := T + 3) (l := ((Y1.2.1 (T + 3)).set kk (nI q1.2))) hL1 (by omega) (by omega)
    refine J_goto (tgt := 119) d_D_readDeed_19 (by decide) ?_
    refine M_vr d_D_readDeed_119 rfl ?_
    have e : pDeed (tkT B) 2 j = .inr (q1.1, (q1.2, 0)) := by unfold pDeed; rw [if_pos rfl, hr1, bnd_r]
    rw [e]
    exact ⟨rfl, (okS hY1 tf.2.2.2.1.2.2.1), offC_K (offK_t (offK_t (offK_L (offL_t (offL_0 T X) ho1)) offK_3) (offK_L (offL_0 T (pA Y1 (T + 3) ((Y1.2.1 (T + 3)).set kk (nI q1.2)))))), ⟨fun _ => hv1, fun z => by omega, fun z => by omega, fun z => by omega⟩, (offK_t (offK_t (offK_L (offL_t (offL_0 T X) ho1)) offK_3) (offK_L (offL_0 T (pA Y1 (T + 3) ((Y1.2.1 (T + 3)).set kk (nI q1.2)))))), hL2, (show j < q1.1 by omega), (if_neg (by omega)).trans har1, pA_at.trans (by rw [ho1.2.1 (T + 3) (by omega)]), fun z => absurd z (by decide), fun _ => (if_neg (by omega)).trans (ho1.2.1 (T + 4) (by omega))⟩

theorem S_D_readDeed_6 {X : Mem} {B : Nat → Nat} {N T j c kk : Nat} {w : Bool} (hX : Ok X) (hL : Lv X B N T j c w) (hkk : kk < 24) : CM 28 m_D_readDeed [.ref 11, .int (nI 6), .int (nI kk)] X (fun r Y => r = none ∧ Ok Y ∧ offC T X Y ∧ (match pDeed (tkT B) 6 j with
  | .inl q => Dd Y B N T q.1 (stT B q.2)
  | .inr q => DeedC 6 kk B N T j c w X Y q)) := by
  have hkT := hL.1.2.1
  have h300 := hL.1.1.1
  have hjN := hL.2.1
  have hlt := tk_lt B j
  have hjl := Lv_N hL
  have tf := txt_f hkT
  refine CM_of (L := [some (.ref 11), some (.int (nI 6)), some (.int (nI kk))]) 0 ok_D_readDeed (fun _ => Nat.le_of_ble_eq_true rfl) rfl ?_
  refine J_iload_n (i := 1) d_D_readDeed_0 rfl rfl ?_
  refine J_iconst (v := nI 2) d_D_readDeed_1 rfl ?_
  refine N_icmp_ne (tgt := 22) d_D_readDeed_2 (by decide) (by omega) (by omega) (fun c2 => ?_) (fun c2 => absurd c2 (by decide))
  refine J_iload_n (i := 1) d_D_readDeed_22 rfl rfl ?_
  refine J_bipush (v := nI 6) d_D_readDeed_23 rfl ?_
  refine N_icmp_ne (tgt := 47) d_D_readDeed_25 (by decide) (by omega) (by omega) (fun c25 => absurd c25 (by decide)) (fun c25 => ?_)
  refine J_aload_n (i := 0) d_D_readDeed_28 rfl rfl ?_
  refine M_getI (b := T) d_D_readDeed_29 f_D_34 rfl rfl hL.1.2.2 ?_
  refine M_getR (b := (T + 3)) d_D_readDeed_32 f_D_108 hkT rfl tf.1.2.2.1 ?_
  refine J_iload_n (i := 2) d_D_readDeed_35 rfl rfl ?_
  refine J_aload_n (i := 0) d_D_readDeed_36 rfl rfl ?_
  refine J_iconst (v := nI 1) d_D_readDeed_37 rfl ?_
  refine J_bipush (v := nI 60) d_D_readDeed_38 rfl ?_
  refine CV_N (av := [.int (nI 1), .int (nI 60)]) d_D_readDeed_40 s_D_115 (M_rcv rfl (by decide) rfl) (S_D_takeNumber hX hL (by decide) (by decide)) (by omega) rfl rfl (Nat.le_of_ble_eq_true rfl) ?_
  by_cases ha1 : tk_ B j = 45
  · by_cases hr1 : vC B (stT B j) < 1 ∨ 60 < vC B (stT B j)
    · rw [show nuX X B j 1 60 = rfX X 2 (stT B j) by rw [nuX, if_pos ha1, if_pos hr1], show nuV B j 1 60 = 1 by rw [nuV, if_pos ha1, if_pos hr1]]
      have hD1 := rf_Dd (f := 2) (p := stT B j) hL (by decide) (by decide)
      refine N_iast d_D_readDeed_43 tf.2.1.2.2.1 (by omega) (by omega) (by rw [(rf_Ok hX).1 (T + 3) (by omega), tf.2.2.1.2.2.1]; exact hkk) ?_
      have hD2 := Dd_A (a := T + 3) (l := (((rfX X 2 (stT B j)).2.1 (T + 3)).set kk (nI 1))) hD1 (by omega) (by omega)
      refine J_goto (tgt := 119) d_D_readDeed_44 (by decide) ?_
      refine M_vr d_D_readDeed_119 rfl ?_
      have e : pDeed (tkT B) 6 j = .inl (2, j) := by unfold pDeed; rw [if_neg (by decide), if_pos rfl, num_2 ha1 hr1]; rfl
      rw [e]
      exact ⟨rfl, (okS (rf_Ok hX) tf.2.2.2.1.2.2.1), offC_K (offK_t (offK_t (offK_L (offL_t (offL_0 T X) rf_off)) offK_3) (offK_L (offL_0 T (pA (rfX X 2 (stT B j)) (T + 3) (((rfX X 2 (stT B j)).2.1 (T + 3)).set kk (nI 1)))))), hD2⟩
    · rw [show nuX X B j 1 60 = adX X B j by rw [nuX, if_pos ha1, if_neg hr1], show nuV B j 1 60 = vC B (stT B j) by rw [nuV, if_pos ha1, if_neg hr1]]
      have hL1 := ad_Lv hL (show tk_ B j ≠ 46 by omega)
      refine N_iast d_D_readDeed_43 tf.2.1.2.2.1 (by omega) (by omega) (by rw [(ad_Ok hX).1 (T + 3) (by omega), tf.2.2.1.2.2.1]; exact hkk) ?_
      have hL2 := Lv_A (a := T + 3) (l := (((adX X B j).2.1 (T + 3)).set kk (nI (vC B (stT B j))))) hL1 (by omega) (by omega)
      refine J_goto (tgt := 119) d_D_readDeed_44 (by decide) ?_
      refine M_vr d_D_readDeed_119 rfl ?_
      have e : pDeed (tkT B) 6 j = .inr (j + 1, (vC B (stT B j), 0)) := by unfold pDeed; rw [if_neg (by decide), if_pos rfl, num_ok ha1 hr1, bnd_r]
      rw [e]
      exact ⟨rfl, (okS (ad_Ok hX) tf.2.2.2.1.2.2.1), offC_K (offK_t (offK_t (offK_L (offL_t (offL_0 T X) (ad_off (j := j)))) offK_3) (offK_L (offL_0 T (pA (adX X B j) (T + 3) (((adX X B j).2.1 (T + 3)).set kk (nI (vC B (stT B j)))))))), ⟨fun z => by omega, fun z => by omega, fun z => by omega, fun _ => by show 1 ≤ vC B (stT B j) ∧ vC B (stT B j) ≤ 60; omega⟩, (offK_t (offK_t (offK_L (offL_t (offL_0 T X) (ad_off (j := j)))) offK_3) (offK_L (offL_0 T (pA (adX X B j) (T + 3) (((adX X B j).2.1 (T + 3)).set kk (nI (vC B (stT B j)))))))), hL2, (show j < j + 1 by omega), if_neg (by omega), pA_at, fun z => absurd z (by decide), fun _ => if_neg (by omega)⟩
  · rw [show nuX X B j 1 60 = rfX X 1 (stT B j) by rw [nuX, if_neg ha1], show nuV B j 1 60 = 1 by rw [nuV, if_neg ha1]]
    have hD1 := rf_Dd (f := 1) (p := stT B j) hL (by decide) (by decide)
    refine N_iast d_D_readDeed_43 tf.2.1.2.2.1 (by omega) (by omega) (by rw [(rf_Ok hX).1 (T + 3) (by omega), tf.2.2.1.2.2.1]; exact hkk) ?_
    have hD2 := Dd_A (a := T + 3) (l := (((rfX X 1 (stT B j)).2.1 (T + 3)).set kk (nI 1))) hD1 (by omega) (by omega)
    refine J_goto (tgt := 119) d_D_readDeed_44 (by decide) ?_
    refine M_vr d_D_readDeed_119 rfl ?_
    have e : pDeed (tkT B) 6 j = .inl (1, j) := by unfold pDeed; rw [if_neg (by decide), if_pos rfl, num_1 ha1]; rfl
    rw [e]
    exact ⟨rfl, (okS (rf_Ok hX) tf.2.2.2.1.2.2.1), offC_K (offK_t (offK_t (offK_L (offL_t (offL_0 T X) rf_off)) offK_3) (offK_L (offL_0 T (pA (rfX X 1 (stT B j)) (T + 3) (((rfX X 1 (stT B j)).2.1 (T + 3)).set kk (nI 1)))))), hD2⟩

theorem S_D_readDeed_5 {X : Mem} {B : Nat → Nat} {N T j c kk : Nat} {w : Bool} (hX : Ok X) (hL : Lv X B N T j c w) (hkk : kk < 24) : CM 28 m_D_readDeed [.ref 11, .int (nI 5), .int (nI kk)] X (fun r Y => r = none ∧ Ok Y ∧ offC T X Y ∧ (match pDeed (tkT B) 5 j with
  | .inl q => Dd Y B N T q.1 (stT B q.2)
  | .inr q => DeedC 5 kk B N T j c w X Y q)) := by
  have hkT := hL.1.2.1
  have h300 := hL.1.1.1
  have hjN := hL.2.1
  have hlt := tk_lt B j
  have hjl := Lv_N hL
  have tf := txt_f hkT
  refine CM_of (L := [some (.ref 11), some (.int (nI 5)), some (.int (nI kk))]) 0 ok_D_readDeed (fun _ => Nat.le_of_ble_eq_true rfl) rfl ?_
  refine J_iload_n (i := 1) d_D_readDeed_0 rfl rfl ?_
  refine J_iconst (v := nI 2) d_D_readDeed_1 rfl ?_
  refine N_icmp_ne (tgt := 22) d_D_readDeed_2 (by decide) (by omega) (by omega) (fun c2 => ?_) (fun c2 => absurd c2 (by decide))
  refine J_iload_n (i := 1) d_D_readDeed_22 rfl rfl ?_
  refine J_bipush (v := nI 6) d_D_readDeed_23 rfl ?_
  refine N_icmp_ne (tgt := 47) d_D_readDeed_25 (by decide) (by omega) (by omega) (fun c25 => ?_) (fun c25 => absurd c25 (by decide))
  refine J_iload_n (i := 1) d_D_readDeed_47 rfl rfl ?_
  refine J_iconst (v := nI 5) d_D_readDeed_48 rfl ?_
  refine N_icmp_ne (tgt := 71) d_D_readDeed_49 (by decide) (by omega) (by omega) (fun c49 => absurd c49 (by decide)) (fun c49 => ?_)
  refine J_aload_n (i := 0) d_D_readDeed_52 rfl rfl ?_
  refine M_getI (b := T) d_D_readDeed_53 f_D_34 rfl rfl hL.1.2.2 ?_
  refine M_getR (b := (T + 3)) d_D_readDeed_56 f_D_108 hkT rfl tf.1.2.2.1 ?_
  refine J_iload_n (i := 2) d_D_readDeed_59 rfl rfl ?_
  refine J_aload_n (i := 0) d_D_readDeed_60 rfl rfl ?_
  refine J_iconst (v := nI 0) d_D_readDeed_61 rfl ?_
  refine J_bipush (v := nI 7) d_D_readDeed_62 rfl ?_
  refine CV_N (av := [.int (nI 0), .int (nI 7)]) d_D_readDeed_64 s_D_115 (M_rcv rfl (by decide) rfl) (S_D_takeNumber hX hL (by decide) (by decide)) (by omega) rfl rfl (Nat.le_of_ble_eq_true rfl) ?_
  by_cases ha1 : tk_ B j = 45
  · by_cases hr1 : vC B (stT B j) < 0 ∨ 7 < vC B (stT B j)
    · rw [show nuX X B j 0 7 = rfX X 2 (stT B j) by rw [nuX, if_pos ha1, if_pos hr1], show nuV B j 0 7 = 0 by rw [nuV, if_pos ha1, if_pos hr1]]
      have hD1 := rf_Dd (f := 2) (p := stT B j) hL (by decide) (by decide)
      refine N_iast d_D_readDeed_67 tf.2.1.2.2.1 (by omega) (by omega) (by rw [(rf_Ok hX).1 (T + 3) (by omega), tf.2.2.1.2.2.1]; exact hkk) ?_
      have hD2 := Dd_A (a := T + 3) (l := (((rfX X 2 (stT B j)).2.1 (T + 3)).set kk (nI 0))) hD1 (by omega) (by omega)
      refine J_goto (tgt := 119) d_D_readDeed_68 (by decide) ?_
      refine M_vr d_D_readDeed_119 rfl ?_
      have e : pDeed (tkT B) 5 j = .inl (2, j) := by unfold pDeed; rw [if_neg (by decide), if_neg (by decide), if_pos rfl, num_2 ha1 hr1]; rfl
      rw [e]
      exact ⟨rfl, (okS (rf_Ok hX) tf.2.2.2.1.2.2.1), offC_K (offK_t (offK_t (offK_L (offL_t (offL_0 T X) rf_off)) offK_3) (offK_L (offL_0 T (pA (rfX X 2 (stT B j)) (T + 3) (((rfX X 2 (stT B j)).2.1 (T + 3)).set kk (nI 0)))))), hD2⟩
    · rw [show nuX X B j 0 7 = adX X B j by rw [nuX, if_pos ha1, if_neg hr1], show nuV B j 0 7 = vC B (stT B j) by rw [nuV, if_pos ha1, if_neg hr1]]
      have hL1 := ad_Lv hL (show tk_ B j ≠ 46 by omega)
      refine N_iast d_D_readDeed_67 tf.2.1.2.2.1 (by omega) (by omega) (by rw [(ad_Ok hX).1 (T + 3) (by omega), tf.2.2.1.2.2.1]; exact hkk) ?_
      have hL2 := Lv_A (a := T + 3) (l := (((adX X B j).2.1 (T + 3)).set kk (nI (vC B (stT B j))))) hL1 (by omega) (by omega)
      refine J_goto (tgt := 119) d_D_readDeed_68 (by decide) ?_
      refine M_vr d_D_readDeed_119 rfl ?_
      have e : pDeed (tkT B) 5 j = .inr (j + 1, (vC B (stT B j), 0)) := by unfold pDeed; rw [if_neg (by decide), if_neg (by decide), if_pos rfl, num_ok ha1 hr1, bnd_r]
      rw [e]
      exact ⟨rfl, (okS (ad_Ok hX) tf.2.2.2.1.2.2.1), offC_K (offK_t (offK_t (offK_L (offL_t (offL_0 T X) (ad_off (j := j)))) offK_3) (offK_L (offL_0 T (pA (adX X B j) (T + 3) (((adX X B j).2.1 (T + 3)).set kk (nI (vC B (stT B j)))))))), ⟨fun z => by omega, fun z => by omega, fun _ => by show vC B (stT B j) < 8; omega, fun z => by omega⟩, (offK_t (offK_t (offK_L (offL_t (offL_0 T X) (ad_off (j := j)))) offK_3) (offK_L (offL_0 T (pA (adX X B j) (T + 3) (((adX X B j).2.1 (T + 3)).set kk (nI (vC B (stT B j)))))))), hL2, (show j < j + 1 by omega), if_neg (by omega), pA_at, fun z => absurd z (by decide), fun _ => if_neg (by omega)⟩
  · rw [show nuX X B j 0 7 = rfX X 1 (stT B j) by rw [nuX, if_neg ha1], show nuV B j 0 7 = 0 by rw [nuV, if_neg ha1]]
    have hD1 := rf_Dd (f := 1) (p := stT B j) hL (by decide) (by decide)
    refine N_iast d_D_readDeed_67 tf.2.1.2.2.1 (by omega) (by omega) (by rw [(rf_Ok hX).1 (T + 3) (by omega), tf.2.2.1.2.2.1]; exact hkk) ?_
    have hD2 := Dd_A (a := T + 3) (l := (((rfX X 1 (stT B j)).2.1 (T + 3)).set kk (nI 0))) hD1 (by omega) (by omega)
    refine J_goto (tgt := 119) d_D_readDeed_68 (by decide) ?_
    refine M_vr d_D_readDeed_119 rfl ?_
    have e : pDeed (tkT B) 5 j = .inl (1, j) := by unfold pDeed; rw [if_neg (by decide), if_neg (by decide), if_pos rfl, num_1 ha1]; rfl
    rw [e]
    exact ⟨rfl, (okS (rf_Ok hX) tf.2.2.2.1.2.2.1), offC_K (offK_t (offK_t (offK_L (offL_t (offL_0 T X) rf_off)) offK_3) (offK_L (offL_0 T (pA (rfX X 1 (stT B j)) (T + 3) (((rfX X 1 (stT B j)).2.1 (T + 3)).set kk (nI 0)))))), hD2⟩

theorem S_D_readDeed_3 {X : Mem} {B : Nat → Nat} {N T j c kk : Nat} {w : Bool} (hX : Ok X) (hL : Lv X B N T j c w) (hkk : kk < 24) : CM 28 m_D_readDeed [.ref 11, .int (nI 3), .int (nI kk)] X (fun r Y => r = none ∧ Ok Y ∧ offC T X Y ∧ (match pDeed (tkT B) 3 j with
  | .inl q => Dd Y B N T q.1 (stT B q.2)
  | .inr q => DeedC 3 kk B N T j c w X Y q)) := by
  have hkT := hL.1.2.1
  have h300 := hL.1.1.1
  have hjN := hL.2.1
  have hlt := tk_lt B j
  have hjl := Lv_N hL
  have tf := txt_f hkT
  refine CM_of (L := [some (.ref 11), some (.int (nI 3)), some (.int (nI kk))]) 0 ok_D_readDeed (fun _ => Nat.le_of_ble_eq_true rfl) rfl ?_
  refine J_iload_n (i := 1) d_D_readDeed_0 rfl rfl ?_
  refine J_iconst (v := nI 2) d_D_readDeed_1 rfl ?_
  refine N_icmp_ne (tgt := 22) d_D_readDeed_2 (by decide) (by omega) (by omega) (fun c2 => ?_) (fun c2 => absurd c2 (by decide))
  refine J_iload_n (i := 1) d_D_readDeed_22 rfl rfl ?_
  refine J_bipush (v := nI 6) d_D_readDeed_23 rfl ?_
  refine N_icmp_ne (tgt := 47) d_D_readDeed_25 (by decide) (by omega) (by omega) (fun c25 => ?_) (fun c25 => absurd c25 (by decide))
  refine J_iload_n (i := 1) d_D_readDeed_47 rfl rfl ?_
  refine J_iconst (v := nI 5) d_D_readDeed_48 rfl ?_
  refine N_icmp_ne (tgt := 71) d_D_readDeed_49 (by decide) (by omega) (by omega) (fun c49 => ?_) (fun c49 => absurd c49 (by decide))
  refine J_aload_n (i := 0) d_D_readDeed_71 rfl rfl ?_
  refine M_getI (b := T) d_D_readDeed_72 f_D_34 rfl rfl hL.1.2.2 ?_
  refine M_getR (b := (T + 3)) d_D_readDeed_75 f_D_108 hkT rfl tf.1.2.2.1 ?_
  refine J_iload_n (i := 2) d_D_readDeed_78 rfl rfl ?_
  refine J_aload_n (i := 0) d_D_readDeed_79 rfl rfl ?_
  refine J_iconst (v := nI 0) d_D_readDeed_80 rfl ?_
  refine J_bipush (v := nI 19) d_D_readDeed_81 rfl ?_
  refine CV_N (av := [.int (nI 0), .int (nI 19)]) d_D_readDeed_83 s_D_115 (M_rcv rfl (by decide) rfl) (S_D_takeNumber hX hL (by decide) (by decide)) (by omega) rfl rfl (Nat.le_of_ble_eq_true rfl) ?_
  by_cases ha1 : tk_ B j = 45
  · by_cases hr1 : vC B (stT B j) < 0 ∨ 19 < vC B (stT B j)
    · rw [show nuX X B j 0 19 = rfX X 2 (stT B j) by rw [nuX, if_pos ha1, if_pos hr1], show nuV B j 0 19 = 0 by rw [nuV, if_pos ha1, if_pos hr1]]
      have hD1 := rf_Dd (f := 2) (p := stT B j) hL (by decide) (by decide)
      refine N_iast d_D_readDeed_86 tf.2.1.2.2.1 (by omega) (by omega) (by rw [(rf_Ok hX).1 (T + 3) (by omega), tf.2.2.1.2.2.1]; exact hkk) ?_
      have hD2 := Dd_A (a := T + 3) (l := (((rfX X 2 (stT B j)).2.1 (T + 3)).set kk (nI 0))) hD1 (by omega) (by omega)
      refine J_aload_n (i := 0) d_D_readDeed_87 rfl rfl ?_
      refine J_iload_n (i := 1) d_D_readDeed_88 rfl rfl ?_
      refine J_iconst (v := nI 3) d_D_readDeed_89 rfl ?_
      refine N_icmp_ne (tgt := 98) d_D_readDeed_90 (by decide) (by omega) (by omega) (fun c90 => absurd c90 (by decide)) (fun c90 => ?_)
      refine J_bipush (v := nI 7) d_D_readDeed_93 rfl ?_
      refine J_goto (tgt := 100) d_D_readDeed_95 (by decide) ?_
      refine CV_V (av := [.int (nI 7)]) d_D_readDeed_100 s_D_84 (M_rcv rfl (by decide) rfl) (S_D_expect_d (okS (rf_Ok hX) tf.2.2.2.1.2.2.1) hD2 (show 7 < 46 by omega)) (by omega) rfl rfl (Nat.le_of_ble_eq_true rfl) ?_
      refine J_aload_n (i := 0) d_D_readDeed_103 rfl rfl ?_
      refine M_getI (b := T) d_D_readDeed_104 f_D_34 rfl rfl hD2.1.2.2 ?_
      refine M_getR (b := (T + 4)) d_D_readDeed_107 f_D_119 hkT rfl tf.1.2.2.2 ?_
      refine J_iload_n (i := 2) d_D_readDeed_110 rfl rfl ?_
      refine J_aload_n (i := 0) d_D_readDeed_111 rfl rfl ?_
      refine J_iconst (v := nI 0) d_D_readDeed_112 rfl ?_
      refine J_bipush (v := nI 7) d_D_readDeed_113 rfl ?_
      refine CV_N (av := [.int (nI 0), .int (nI 7)]) d_D_readDeed_115 s_D_115 (M_rcv rfl (by decide) rfl) (S_D_takeNumber_d (okS (rf_Ok hX) tf.2.2.2.1.2.2.1) hD2) (by omega) rfl rfl (Nat.le_of_ble_eq_true rfl) ?_
      refine N_iast d_D_readDeed_118 tf.2.1.2.2.2 (by omega) (by omega) (by rw [(okS (rf_Ok hX) tf.2.2.2.1.2.2.1).1 (T + 4) (by omega), tf.2.2.1.2.2.2]; exact hkk) ?_
      have hD3 := Dd_A (a := T + 4) (l := (((pA (rfX X 2 (stT B j)) (T + 3) (((rfX X 2 (stT B j)).2.1 (T + 3)).set kk (nI 0))).2.1 (T + 4)).set kk (nI 0))) hD2 (by omega) (by omega)
      refine M_vr d_D_readDeed_119 rfl ?_
      have e : pDeed (tkT B) 3 j = .inl (2, j) := by unfold pDeed; rw [if_neg (by decide), if_neg (by decide), if_neg (by decide), num_2 ha1 hr1]; rfl
      rw [e]
      exact ⟨rfl, (okS (okS (rf_Ok hX) tf.2.2.2.1.2.2.1) tf.2.2.2.1.2.2.2), offC_K (offK_t (offK_t (offK_t (offK_t (offK_L (offL_t (offL_0 T X) rf_off)) offK_3) (offK_L (offL_0 T (pA (rfX X 2 (stT B j)) (T + 3) (((rfX X 2 (stT B j)).2.1 (T + 3)).set kk (nI 0)))))) offK_4) (offK_L (offL_0 T (pA (pA (rfX X 2 (stT B j)) (T + 3) (((rfX X 2 (stT B j)).2.1 (T + 3)).set kk (nI 0))) (T + 4) (((pA (rfX X 2 (stT B j)) (T + 3) (((rfX X 2 (stT B j)).2.1 (T + 3)).set kk (nI 0))).2.1 (T + 4)).set kk (nI 0)))))), hD3⟩
    · rw [show nuX X B j 0 19 = adX X B j by rw [nuX, if_pos ha1, if_neg hr1], show nuV B j 0 19 = vC B (stT B j) by rw [nuV, if_pos ha1, if_neg hr1]]
      have hL1 := ad_Lv hL (show tk_ B j ≠ 46 by omega)
      refine N_iast d_D_readDeed_86 tf.2.1.2.2.1 (by omega) (by omega) (by rw [(ad_Ok hX).1 (T + 3) (by omega), tf.2.2.1.2.2.1]; exact hkk) ?_
      have hL2 := Lv_A (a := T + 3) (l := (((adX X B j).2.1 (T + 3)).set kk (nI (vC B (stT B j))))) hL1 (by omega) (by omega)
      refine J_aload_n (i := 0) d_D_readDeed_87 rfl rfl ?_
      refine J_iload_n (i := 1) d_D_readDeed_88 rfl rfl ?_
      refine J_iconst (v := nI 3) d_D_readDeed_89 rfl ?_
      refine N_icmp_ne (tgt := 98) d_D_readDeed_90 (by decide) (by omega) (by omega) (fun c90 => absurd c90 (by decide)) (fun c90 => ?_)
      refine J_bipush (v := nI 7) d_D_readDeed_93 rfl ?_
      refine J_goto (tgt := 100) d_D_readDeed_95 (by decide) ?_
      refine CV_V (av := [.int (nI 7)]) d_D_readDeed_100 s_D_84 (M_rcv rfl (by decide) rfl) (S_D_expect (okS (ad_Ok hX) tf.2.2.2.1.2.2.1) hL2 (show 7 < 46 by omega)) (by omega) rfl rfl (Nat.le_of_ble_eq_true rfl) ?_
      by_cases hx3 : tk_ B (j + 1) = 7
      · rw [show exX (pA (adX X B j) (T + 3) (((adX X B j).2.1 (T + 3)).set kk (nI (vC B (stT B j))))) B (j + 1) 7 = adX (pA (adX X B j) (T + 3) (((adX X B j).2.1 (T + 3)).set kk (nI (vC B (stT B j))))) B (j + 1) from if_pos hx3]
        have hL3 := ad_Lv hL2 (show tk_ B (j + 1) ≠ 46 by omega)
        refine J_aload_n (i := 0) d_D_readDeed_103 rfl rfl ?_
        refine M_getI (b := T) d_D_readDeed_104 f_D_34 rfl rfl hL3.1.2.2 ?_
        refine M_getR (b := (T + 4)) d_D_readDeed_107 f_D_119 hkT rfl tf.1.2.2.2 ?_
        refine J_iload_n (i := 2) d_D_readDeed_110 rfl rfl ?_
        refine J_aload_n (i := 0) d_D_readDeed_111 rfl rfl ?_
        refine J_iconst (v := nI 0) d_D_readDeed_112 rfl ?_
        refine J_bipush (v := nI 7) d_D_readDeed_113 rfl ?_
        refine CV_N (av := [.int (nI 0), .int (nI 7)]) d_D_readDeed_115 s_D_115 (M_rcv rfl (by decide) rfl) (S_D_takeNumber (ad_Ok (okS (ad_Ok hX) tf.2.2.2.1.2.2.1)) hL3 (by decide) (by decide)) (by omega) rfl rfl (Nat.le_of_ble_eq_true rfl) ?_
        by_cases ha4 : tk_ B ((j + 1) + 1) = 45
        · by_cases hr4 : vC B (stT B ((j + 1) + 1)) < 0 ∨ 7 < vC B (stT B ((j + 1) + 1))
          · rw [show nuX (adX (pA (adX X B j) (T + 3) (((adX X B j).2.1 (T + 3)).set kk (nI (vC B (stT B j))))) B (j + 1)) B ((j + 1) + 1) 0 7 = rfX (adX (pA (adX X B j) (T + 3) (((adX X B j).2.1 (T + 3)).set kk (nI (vC B (stT B j))))) B (j + 1)) 2 (stT B ((j + 1) + 1)) by rw [nuX, if_pos ha4, if_pos hr4], show nuV B ((j + 1) + 1) 0 7 = 0 by rw [nuV, if_pos ha4, if_pos hr4]]
            have hD4 := rf_Dd (f := 2) (p := stT B ((j + 1) + 1)) hL3 (by decide) (by decide)
            refine N_iast d_D_readDeed_118 tf.2.1.2.2.2 (by omega) (by omega) (by rw [(rf_Ok (ad_Ok (okS (ad_Ok hX) tf.2.2.2.1.2.2.1))).1 (T + 4) (by omega), tf.2.2.1.2.2.2]; exact hkk) ?_
            have hD5 := Dd_A (a := T + 4) (l := (((rfX (adX (pA (adX X B j) (T + 3) (((adX X B j).2.1 (T + 3)).set kk (nI (vC B (stT B j))))) B (j + 1)) 2 (stT B ((j + 1) + 1))).2.1 (T + 4)).set kk (nI 0))) hD4 (by omega) (by omega)
            refine M_vr d_D_readDeed_119 rfl ?_
            have e : pDeed (tkT B) 3 j = .inl (2, j + 1 + 1) := by unfold pDeed; rw [if_neg (by decide), if_neg (by decide), if_neg (by decide), num_ok ha1 hr1, bnd_r, show pExp (tkT B) (if 3 = 3 then 7 else 8) (j + 1) = .inr (j + 1 + 1, 0) from ex_t hx3, bnd_r, num_2 ha4 hr4]; rfl
            rw [e]
            exact ⟨rfl, (okS (rf_Ok (ad_Ok (okS (ad_Ok hX) tf.2.2.2.1.2.2.1))) tf.2.2.2.1.2.2.2), offC_K (offK_t (offK_t (offK_t (offK_t (offK_L (offL_t (offL_0 T X) (ad_off (j := j)))) offK_3) (offK_L (offL_t (offL_t (offL_0 T (pA (adX X B j) (T + 3) (((adX X B j).2.1 (T + 3)).set kk (nI (vC B (stT B j)))))) (ad_off (j := (j + 1)))) rf_off))) offK_4) (offK_L (offL_0 T (pA (rfX (adX (pA (adX X B j) (T + 3) (((adX X B j).2.1 (T + 3)).set kk (nI (vC B (stT B j))))) B (j + 1)) 2 (stT B ((j + 1) + 1))) (T + 4) (((rfX (adX (pA (adX X B j) (T + 3) (((adX X B j).2.1 (T + 3)).set kk (nI (vC B (stT B j))))) B (j + 1)) 2 (stT B ((j + 1) + 1))).2.1 (T + 4)).set kk (nI 0)))))), hD5⟩
          · rw [show nuX (adX (pA (adX X B j) (T + 3) (((adX X B j).2.1 (T + 3)).set kk (nI (vC B (stT B j))))) B (j + 1)) B ((j + 1) + 1) 0 7 = adX (adX (pA (adX X B j) (T + 3) (((adX X B j).2.1 (T + 3)).set kk (nI (vC B (stT B j))))) B (j + 1)) B ((j + 1) + 1) by rw [nuX, if_pos ha4, if_neg hr4], show nuV B ((j + 1) + 1) 0 7 = vC B (stT B ((j + 1) + 1)) by rw [nuV, if_pos ha4, if_neg hr4]]
            have hL4 := ad_Lv hL3 (show tk_ B ((j + 1) + 1) ≠ 46 by omega)
            refine N_iast d_D_readDeed_118 tf.2.1.2.2.2 (by omega) (by omega) (by rw [(ad_Ok (ad_Ok (okS (ad_Ok hX) tf.2.2.2.1.2.2.1))).1 (T + 4) (by omega), tf.2.2.1.2.2.2]; exact hkk) ?_
            have hL5 := Lv_A (a := T + 4) (l := (((adX (adX (pA (adX X B j) (T + 3) (((adX X B j).2.1 (T + 3)).set kk (nI (vC B (stT B j))))) B (j + 1)) B ((j + 1) + 1)).2.1 (T + 4)).set kk (nI (vC B (stT B ((j + 1) + 1)))))) hL4 (by omega) (by omega)
            refine M_vr d_D_readDeed_119 rfl ?_
            have e : pDeed (tkT B) 3 j = .inr (j + 1 + 1 + 1, (vC B (stT B j), vC B (stT B (j + 1 + 1)))) := by unfold pDeed; rw [if_neg (by decide), if_neg (by decide), if_neg (by decide), num_ok ha1 hr1, bnd_r, show pExp (tkT B) (if 3 = 3 then 7 else 8) (j + 1) = .inr (j + 1 + 1, 0) from ex_t hx3, bnd_r, num_ok ha4 hr4, bnd_r]
            rw [e]
            exact ⟨rfl, (okS (ad_Ok (ad_Ok (okS (ad_Ok hX) tf.2.2.2.1.2.2.1))) tf.2.2.2.1.2.2.2), offC_K (offK_t (offK_t (offK_t (offK_t (offK_L (offL_t (offL_0 T X) (ad_off (j := j)))) offK_3) (offK_L (offL_t (offL_t (offL_0 T (pA (adX X B j) (T + 3) (((adX X B j).2.1 (T + 3)).set kk (nI (vC B (stT B j)))))) (ad_off (j := (j + 1)))) (ad_off (j := ((j + 1) + 1)))))) offK_4) (offK_L (offL_0 T (pA (adX (adX (pA (adX X B j) (T + 3) (((adX X B j).2.1 (T + 3)).set kk (nI (vC B (stT B j))))) B (j + 1)) B ((j + 1) + 1)) (T + 4) (((adX (adX (pA (adX X B j) (T + 3) (((adX X B j).2.1 (T + 3)).set kk (nI (vC B (stT B j))))) B (j + 1)) B ((j + 1) + 1)).2.1 (T + 4)).set kk (nI (vC B (stT B ((j + 1) + 1))))))))), ⟨fun z => by omega, fun _ => by show vC B (stT B j) < 20 ∧ vC B (stT B (j + 1 + 1)) < 8; omega, fun z => by omega, fun z => by omega⟩, (offK_t (offK_t (offK_t (offK_t (offK_L (offL_t (offL_0 T X) (ad_off (j := j)))) offK_3) (offK_L (offL_t (offL_t (offL_0 T (pA (adX X B j) (T + 3) (((adX X B j).2.1 (T + 3)).set kk (nI (vC B (stT B j)))))) (ad_off (j := (j + 1)))) (ad_off (j := ((j + 1) + 1)))))) offK_4) (offK_L (offL_0 T (pA (adX (adX (pA (adX X B j) (T + 3) (((adX X B j).2.1 (T + 3)).set kk (nI (vC B (stT B j))))) B (j + 1)) B ((j + 1) + 1)) (T + 4) (((adX (adX (pA (adX X B j) (T + 3) (((adX X B j).2.1 (T + 3)).set kk (nI (vC B (stT B j))))) B (j + 1)) B ((j + 1) + 1)).2.1 (T + 4)).set kk (nI (vC B (stT B ((j + 1) + 1))))))))), hL5, (show j < j + 1 + 1 + 1 by omega), (if_neg (by omega)).trans (if_neg (by omega)), (if_neg (by omega)).trans pA_at, fun _ => pA_at.trans (congrArg (fun l : List Int32 => l.set kk _) (show _ = X.2.1 (T + 4) from if_neg (show ¬ (T + 4 = T + 3) by omega))), fun z => absurd (by decide) z⟩
        · rw [show nuX (adX (pA (adX X B j) (T + 3) (((adX X B j).2.1 (T + 3)).set kk (nI (vC B (stT B j))))) B (j + 1)) B ((j + 1) + 1) 0 7 = rfX (adX (pA (adX X B j) (T + 3) (((adX X B j).2.1 (T + 3)).set kk (nI (vC B (stT B j))))) B (j + 1)) 1 (stT B ((j + 1) + 1)) by rw [nuX, if_neg ha4], show nuV B ((j + 1) + 1) 0 7 = 0 by rw [nuV, if_neg ha4]]
          have hD4 := rf_Dd (f := 1) (p := stT B ((j + 1) + 1)) hL3 (by decide) (by decide)
          refine N_iast d_D_readDeed_118 tf.2.1.2.2.2 (by omega) (by omega) (by rw [(rf_Ok (ad_Ok (okS (ad_Ok hX) tf.2.2.2.1.2.2.1))).1 (T + 4) (by omega), tf.2.2.1.2.2.2]; exact hkk) ?_
          have hD5 := Dd_A (a := T + 4) (l := (((rfX (adX (pA (adX X B j) (T + 3) (((adX X B j).2.1 (T + 3)).set kk (nI (vC B (stT B j))))) B (j + 1)) 1 (stT B ((j + 1) + 1))).2.1 (T + 4)).set kk (nI 0))) hD4 (by omega) (by omega)
          refine M_vr d_D_readDeed_119 rfl ?_
          have e : pDeed (tkT B) 3 j = .inl (1, j + 1 + 1) := by unfold pDeed; rw [if_neg (by decide), if_neg (by decide), if_neg (by decide), num_ok ha1 hr1, bnd_r, show pExp (tkT B) (if 3 = 3 then 7 else 8) (j + 1) = .inr (j + 1 + 1, 0) from ex_t hx3, bnd_r, num_1 ha4]; rfl
          rw [e]
          exact ⟨rfl, (okS (rf_Ok (ad_Ok (okS (ad_Ok hX) tf.2.2.2.1.2.2.1))) tf.2.2.2.1.2.2.2), offC_K (offK_t (offK_t (offK_t (offK_t (offK_L (offL_t (offL_0 T X) (ad_off (j := j)))) offK_3) (offK_L (offL_t (offL_t (offL_0 T (pA (adX X B j) (T + 3) (((adX X B j).2.1 (T + 3)).set kk (nI (vC B (stT B j)))))) (ad_off (j := (j + 1)))) rf_off))) offK_4) (offK_L (offL_0 T (pA (rfX (adX (pA (adX X B j) (T + 3) (((adX X B j).2.1 (T + 3)).set kk (nI (vC B (stT B j))))) B (j + 1)) 1 (stT B ((j + 1) + 1))) (T + 4) (((rfX (adX (pA (adX X B j) (T + 3) (((adX X B j).2.1 (T + 3)).set kk (nI (vC B (stT B j))))) B (j + 1)) 1 (stT B ((j + 1) + 1))).2.1 (T + 4)).set kk (nI 0)))))), hD5⟩
      · rw [show exX (pA (adX X B j) (T + 3) (((adX X B j).2.1 (T + 3)).set kk (nI (vC B (stT B j))))) B (j + 1) 7 = rfX (pA (adX X B j) (T + 3) (((adX X B j).2.1 (T + 3)).set kk (nI (vC B (stT B j))))) 1 (stT B (j + 1)) from if_neg hx3]
        have hD3 := rf_Dd (f := 1) (p := stT B (j + 1)) hL2 (by decide) (by decide)
        refine J_aload_n (i := 0) d_D_readDeed_103 rfl rfl ?_
        refine M_getI (b := T) d_D_readDeed_104 f_D_34 rfl rfl hD3.1.2.2 ?_
        refine M_getR (b := (T + 4)) d_D_readDeed_107 f_D_119 hkT rfl tf.1.2.2.2 ?_
        refine J_iload_n (i := 2) d_D_readDeed_110 rfl rfl ?_
        refine J_aload_n (i := 0) d_D_readDeed_111 rfl rfl ?_
        refine J_iconst (v := nI 0) d_D_readDeed_112 rfl ?_
        refine J_bipush (v := nI 7) d_D_readDeed_113 rfl ?_
        refine CV_N (av := [.int (nI 0), .int (nI 7)]) d_D_readDeed_115 s_D_115 (M_rcv rfl (by decide) rfl) (S_D_takeNumber_d (rf_Ok (okS (ad_Ok hX) tf.2.2.2.1.2.2.1)) hD3) (by omega) rfl rfl (Nat.le_of_ble_eq_true rfl) ?_
        refine N_iast d_D_readDeed_118 tf.2.1.2.2.2 (by omega) (by omega) (by rw [(rf_Ok (okS (ad_Ok hX) tf.2.2.2.1.2.2.1)).1 (T + 4) (by omega), tf.2.2.1.2.2.2]; exact hkk) ?_
        have hD4 := Dd_A (a := T + 4) (l := (((rfX (pA (adX X B j) (T + 3) (((adX X B j).2.1 (T + 3)).set kk (nI (vC B (stT B j))))) 1 (stT B (j + 1))).2.1 (T + 4)).set kk (nI 0))) hD3 (by omega) (by omega)
        refine M_vr d_D_readDeed_119 rfl ?_
        have e : pDeed (tkT B) 3 j = .inl (1, j + 1) := by unfold pDeed; rw [if_neg (by decide), if_neg (by decide), if_neg (by decide), num_ok ha1 hr1, bnd_r, show pExp (tkT B) (if 3 = 3 then 7 else 8) (j + 1) = .inl (1, j + 1) from ex_f hx3]; rfl
        rw [e]
        exact ⟨rfl, (okS (rf_Ok (okS (ad_Ok hX) tf.2.2.2.1.2.2.1)) tf.2.2.2.1.2.2.2), offC_K (offK_t (offK_t (offK_t (offK_t (offK_L (offL_t (offL_0 T X) (ad_off (j := j)))) offK_3) (offK_L (offL_t (offL_0 T (pA (adX X B j) (T + 3) (((adX X B j).2.1 (T + 3)).set kk (nI (vC B (stT B j)))))) rf_off))) offK_4) (offK_L (offL_0 T (pA (rfX (pA (adX X B j) (T + 3) (((adX X B j).2.1 (T + 3)).set kk (nI (vC B (stT B j))))) 1 (stT B (j + 1))) (T + 4) (((rfX (pA (adX X B j) (T + 3) (((adX X B j).2.1 (T + 3)).set kk (nI (vC B (stT B j))))) 1 (stT B (j + 1))).2.1 (T + 4)).set kk (nI 0)))))), hD4⟩
  · rw [show nuX X B j 0 19 = rfX X 1 (stT B j) by rw [nuX, if_neg ha1], show nuV B j 0 19 = 0 by rw [nuV, if_neg ha1]]
    have hD1 := rf_Dd (f := 1) (p := stT B j) hL (by decide) (by decide)
    refine N_iast d_D_readDeed_86 tf.2.1.2.2.1 (by omega) (by omega) (by rw [(rf_Ok hX).1 (T + 3) (by omega), tf.2.2.1.2.2.1]; exact hkk) ?_
    have hD2 := Dd_A (a := T + 3) (l := (((rfX X 1 (stT B j)).2.1 (T + 3)).set kk (nI 0))) hD1 (by omega) (by omega)
    refine J_aload_n (i := 0) d_D_readDeed_87 rfl rfl ?_
    refine J_iload_n (i := 1) d_D_readDeed_88 rfl rfl ?_
    refine J_iconst (v := nI 3) d_D_readDeed_89 rfl ?_
    refine N_icmp_ne (tgt := 98) d_D_readDeed_90 (by decide) (by omega) (by omega) (fun c90 => absurd c90 (by decide)) (fun c90 => ?_)
    refine J_bipush (v := nI 7) d_D_readDeed_93 rfl ?_
    refine J_goto (tgt := 100) d_D_readDeed_95 (by decide) ?_
    refine CV_V (av := [.int (nI 7)]) d_D_readDeed_100 s_D_84 (M_rcv rfl (by decide) rfl) (S_D_expect_d (okS (rf_Ok hX) tf.2.2.2.1.2.2.1) hD2 (show 7 < 46 by omega)) (by omega) rfl rfl (Nat.le_of_ble_eq_true rfl) ?_
    refine J_aload_n (i := 0) d_D_readDeed_103 rfl rfl ?_
    refine M_getI (b := T) d_D_readDeed_104 f_D_34 rfl rfl hD2.1.2.2 ?_
    refine M_getR (b := (T + 4)) d_D_readDeed_107 f_D_119 hkT rfl tf.1.2.2.2 ?_
    refine J_iload_n (i := 2) d_D_readDeed_110 rfl rfl ?_
    refine J_aload_n (i := 0) d_D_readDeed_111 rfl rfl ?_
    refine J_iconst (v := nI 0) d_D_readDeed_112 rfl ?_
    refine J_bipush (v := nI 7) d_D_readDeed_113 rfl ?_
    refine CV_N (av := [.int (nI 0), .int (nI 7)]) d_D_readDeed_115 s_D_115 (M_rcv rfl (by decide) rfl) (S_D_takeNumber_d (okS (rf_Ok hX) tf.2.2.2.1.2.2.1) hD2) (by omega) rfl rfl (Nat.le_of_ble_eq_true rfl) ?_
    refine N_iast d_D_readDeed_118 tf.2.1.2.2.2 (by omega) (by omega) (by rw [(okS (rf_Ok hX) tf.2.2.2.1.2.2.1).1 (T + 4) (by omega), tf.2.2.1.2.2.2]; exact hkk) ?_
    have hD3 := Dd_A (a := T + 4) (l := (((pA (rfX X 1 (stT B j)) (T + 3) (((rfX X 1 (stT B j)).2.1 (T + 3)).set kk (nI 0))).2.1 (T + 4)).set kk (nI 0))) hD2 (by omega) (by omega)
    refine M_vr d_D_readDeed_119 rfl ?_
    have e : pDeed (tkT B) 3 j = .inl (1, j) := by unfold pDeed; rw [if_neg (by decide), if_neg (by decide), if_neg (by decide), num_1 ha1]; rfl
    rw [e]
    exact ⟨rfl, (okS (okS (rf_Ok hX) tf.2.2.2.1.2.2.1) tf.2.2.2.1.2.2.2), offC_K (offK_t (offK_t (offK_t (offK_t (offK_L (offL_t (offL_0 T X) rf_off)) offK_3) (offK_L (offL_0 T (pA (rfX X 1 (stT B j)) (T + 3) (((rfX X 1 (stT B j)).2.1 (T + 3)).set kk (nI 0)))))) offK_4) (offK_L (offL_0 T (pA (pA (rfX X 1 (stT B j)) (T + 3) (((rfX X 1 (stT B j)).2.1 (T + 3)).set kk (nI 0))) (T + 4) (((pA (rfX X 1 (stT B j)) (T + 3) (((rfX X 1 (stT B j)).2.1 (T + 3)).set kk (nI 0))).2.1 (T + 4)).set kk (nI 0)))))), hD3⟩

theorem S_D_readDeed_4 {X : Mem} {B : Nat → Nat} {N T j c kk : Nat} {w : Bool} (hX : Ok X) (hL : Lv X B N T j c w) (hkk : kk < 24) : CM 28 m_D_readDeed [.ref 11, .int (nI 4), .int (nI kk)] X (fun r Y => r = none ∧ Ok Y ∧ offC T X Y ∧ (match pDeed (tkT B) 4 j with
  | .inl q => Dd Y B N T q.1 (stT B q.2)
  | .inr q => DeedC 4 kk B N T j c w X Y q)) := by
  have hkT := hL.1.2.1
  have h300 := hL.1.1.1
  have hjN := hL.2.1
  have hlt := tk_lt B j
  have hjl := Lv_N hL
  have tf := txt_f hkT
  refine CM_of (L := [some (.ref 11), some (.int (nI 4)), some (.int (nI kk))]) 0 ok_D_readDeed (fun _ => Nat.le_of_ble_eq_true rfl) rfl ?_
  refine J_iload_n (i := 1) d_D_readDeed_0 rfl rfl ?_
  refine J_iconst (v := nI 2) d_D_readDeed_1 rfl ?_
  refine N_icmp_ne (tgt := 22) d_D_readDeed_2 (by decide) (by omega) (by omega) (fun c2 => ?_) (fun c2 => absurd c2 (by decide))
  refine J_iload_n (i := 1) d_D_readDeed_22 rfl rfl ?_
  refine J_bipush (v := nI 6) d_D_readDeed_23 rfl ?_
  refine N_icmp_ne (tgt := 47) d_D_readDeed_25 (by decide) (by omega) (by omega) (fun c25 => ?_) (fun c25 => absurd c25 (by decide))
  refine J_iload_n (i := 1) d_D_readDeed_47 rfl rfl ?_
  refine J_iconst (v := nI 5) d_D_readDeed_48 rfl ?_
  refine N_icmp_ne (tgt := 71) d_D_readDeed_49 (by decide) (by omega) (by omega) (fun c49 => ?_) (fun c49 => absurd c49 (by decide))
  refine J_aload_n (i := 0) d_D_readDeed_71 rfl rfl ?_
  refine M_getI (b := T) d_D_readDeed_72 f_D_34 rfl rfl hL.1.2.2 ?_
  refine M_getR (b := (T + 3)) d_D_readDeed_75 f_D_108 hkT rfl tf.1.2.2.1 ?_
  refine J_iload_n (i := 2) d_D_readDeed_78 rfl rfl ?_
  refine J_aload_n (i := 0) d_D_readDeed_79 rfl rfl ?_
  refine J_iconst (v := nI 0) d_D_readDeed_80 rfl ?_
  refine J_bipush (v := nI 19) d_D_readDeed_81 rfl ?_
  refine CV_N (av := [.int (nI 0), .int (nI 19)]) d_D_readDeed_83 s_D_115 (M_rcv rfl (by decide) rfl) (S_D_takeNumber hX hL (by decide) (by decide)) (by omega) rfl rfl (Nat.le_of_ble_eq_true rfl) ?_
  by_cases ha1 : tk_ B j = 45
  · by_cases hr1 : vC B (stT B j) < 0 ∨ 19 < vC B (stT B j)
    · rw [show nuX X B j 0 19 = rfX X 2 (stT B j) by rw [nuX, if_pos ha1, if_pos hr1], show nuV B j 0 19 = 0 by rw [nuV, if_pos ha1, if_pos hr1]]
      have hD1 := rf_Dd (f := 2) (p := stT B j) hL (by decide) (by decide)
      refine N_iast d_D_readDeed_86 tf.2.1.2.2.1 (by omega) (by omega) (by rw [(rf_Ok hX).1 (T + 3) (by omega), tf.2.2.1.2.2.1]; exact hkk) ?_
      have hD2 := Dd_A (a := T + 3) (l := (((rfX X 2 (stT B j)).2.1 (T + 3)).set kk (nI 0))) hD1 (by omega) (by omega)
      refine J_aload_n (i := 0) d_D_readDeed_87 rfl rfl ?_
      refine J_iload_n (i := 1) d_D_readDeed_88 rfl rfl ?_
      refine J_iconst (v := nI 3) d_D_readDeed_89 rfl ?_
      refine N_icmp_ne (tgt := 98) d_D_readDeed_90 (by decide) (by omega) (by omega) (fun c90 => ?_) (fun c90 => absurd c90 (by decide))
      refine J_bipush (v := nI 8) d_D_readDeed_98 rfl ?_
      refine CV_V (av := [.int (nI 8)]) d_D_readDeed_100 s_D_84 (M_rcv rfl (by decide) rfl) (S_D_expect_d (okS (rf_Ok hX) tf.2.2.2.1.2.2.1) hD2 (show 8 < 46 by omega)) (by omega) rfl rfl (Nat.le_of_ble_eq_true rfl) ?_
      refine J_aload_n (i := 0) d_D_readDeed_103 rfl rfl ?_
      refine M_getI (b := T) d_D_readDeed_104 f_D_34 rfl rfl hD2.1.2.2 ?_
      refine M_getR (b := (T + 4)) d_D_readDeed_107 f_D_119 hkT rfl tf.1.2.2.2 ?_
      refine J_iload_n (i := 2) d_D_readDeed_110 rfl rfl ?_
      refine J_aload_n (i := 0) d_D_readDeed_111 rfl rfl ?_
      refine J_iconst (v := nI 0) d_D_readDeed_112 rfl ?_
      refine J_bipush (v := nI 7) d_D_readDeed_113 rfl ?_
      refine CV_N (av := [.int (nI 0), .int (nI 7)]) d_D_readDeed_115 s_D_115 (M_rcv rfl (by decide) rfl) (S_D_takeNumber_d (okS (rf_Ok hX) tf.2.2.2.1.2.2.1) hD2) (by omega) rfl rfl (Nat.le_of_ble_eq_true rfl) ?_
      refine N_iast d_D_readDeed_118 tf.2.1.2.2.2 (by omega) (by omega) (by rw [(okS (rf_Ok hX) tf.2.2.2.1.2.2.1).1 (T + 4) (by omega), tf.2.2.1.2.2.2]; exact hkk) ?_
      have hD3 := Dd_A (a := T + 4) (l := (((pA (rfX X 2 (stT B j)) (T + 3) (((rfX X 2 (stT B j)).2.1 (T + 3)).set kk (nI 0))).2.1 (T + 4)).set kk (nI 0))) hD2 (by omega) (by omega)
      refine M_vr d_D_readDeed_119 rfl ?_
      have e : pDeed (tkT B) 4 j = .inl (2, j) := by unfold pDeed; rw [if_neg (by decide), if_neg (by decide), if_neg (by decide), num_2 ha1 hr1]; rfl
      rw [e]
      exact ⟨rfl, (okS (okS (rf_Ok hX) tf.2.2.2.1.2.2.1) tf.2.2.2.1.2.2.2), offC_K (offK_t (offK_t (offK_t (offK_t (offK_L (offL_t (offL_0 T X) rf_off)) offK_3) (offK_L (offL_0 T (pA (rfX X 2 (stT B j)) (T + 3) (((rfX X 2 (stT B j)).2.1 (T + 3)).set kk (nI 0)))))) offK_4) (offK_L (offL_0 T (pA (pA (rfX X 2 (stT B j)) (T + 3) (((rfX X 2 (stT B j)).2.1 (T + 3)).set kk (nI 0))) (T + 4) (((pA (rfX X 2 (stT B j)) (T + 3) (((rfX X 2 (stT B j)).2.1 (T + 3)).set kk (nI 0))).2.1 (T + 4)).set kk (nI 0)))))), hD3⟩
    · rw [show nuX X B j 0 19 = adX X B j by rw [nuX, if_pos ha1, if_neg hr1], show nuV B j 0 19 = vC B (stT B j) by rw [nuV, if_pos ha1, if_neg hr1]]
      have hL1 := ad_Lv hL (show tk_ B j ≠ 46 by omega)
      refine N_iast d_D_readDeed_86 tf.2.1.2.2.1 (by omega) (by omega) (by rw [(ad_Ok hX).1 (T + 3) (by omega), tf.2.2.1.2.2.1]; exact hkk) ?_
      have hL2 := Lv_A (a := T + 3) (l := (((adX X B j).2.1 (T + 3)).set kk (nI (vC B (stT B j))))) hL1 (by omega) (by omega)
      refine J_aload_n (i := 0) d_D_readDeed_87 rfl rfl ?_
      refine J_iload_n (i := 1) d_D_readDeed_88 rfl rfl ?_
      refine J_iconst (v := nI 3) d_D_readDeed_89 rfl ?_
      refine N_icmp_ne (tgt := 98) d_D_readDeed_90 (by decide) (by omega) (by omega) (fun c90 => ?_) (fun c90 => absurd c90 (by decide))
      refine J_bipush (v := nI 8) d_D_readDeed_98 rfl ?_
      refine CV_V (av := [.int (nI 8)]) d_D_readDeed_100 s_D_84 (M_rcv rfl (by decide) rfl) (S_D_expect (okS (ad_Ok hX) tf.2.2.2.1.2.2.1) hL2 (show 8 < 46 by omega)) (by omega) rfl rfl (Nat.le_of_ble_eq_true rfl) ?_
      by_cases hx3 : tk_ B (j + 1) = 8
      · rw [show exX (pA (adX X B j) (T + 3) (((adX X B j).2.1 (T + 3)).set kk (nI (vC B (stT B j))))) B (j + 1) 8 = adX (pA (adX X B j) (T + 3) (((adX X B j).2.1 (T + 3)).set kk (nI (vC B (stT B j))))) B (j + 1) from if_pos hx3]
        have hL3 := ad_Lv hL2 (show tk_ B (j + 1) ≠ 46 by omega)
        refine J_aload_n (i := 0) d_D_readDeed_103 rfl rfl ?_
        refine M_getI (b := T) d_D_readDeed_104 f_D_34 rfl rfl hL3.1.2.2 ?_
        refine M_getR (b := (T + 4)) d_D_readDeed_107 f_D_119 hkT rfl tf.1.2.2.2 ?_
        refine J_iload_n (i := 2) d_D_readDeed_110 rfl rfl ?_
        refine J_aload_n (i := 0) d_D_readDeed_111 rfl rfl ?_
        refine J_iconst (v := nI 0) d_D_readDeed_112 rfl ?_
        refine J_bipush (v := nI 7) d_D_readDeed_113 rfl ?_
        refine CV_N (av := [.int (nI 0), .int (nI 7)]) d_D_readDeed_115 s_D_115 (M_rcv rfl (by decide) rfl) (S_D_takeNumber (ad_Ok (okS (ad_Ok hX) tf.2.2.2.1.2.2.1)) hL3 (by decide) (by decide)) (by omega) rfl rfl (Nat.le_of_ble_eq_true rfl) ?_
        by_cases ha4 : tk_ B ((j + 1) + 1) = 45
        · by_cases hr4 : vC B (stT B ((j + 1) + 1)) < 0 ∨ 7 < vC B (stT B ((j + 1) + 1))
          · rw [show nuX (adX (pA (adX X B j) (T + 3) (((adX X B j).2.1 (T + 3)).set kk (nI (vC B (stT B j))))) B (j + 1)) B ((j + 1) + 1) 0 7 = rfX (adX (pA (adX X B j) (T + 3) (((adX X B j).2.1 (T + 3)).set kk (nI (vC B (stT B j))))) B (j + 1)) 2 (stT B ((j + 1) + 1)) by rw [nuX, if_pos ha4, if_pos hr4], show nuV B ((j + 1) + 1) 0 7 = 0 by rw [nuV, if_pos ha4, if_pos hr4]]
            have hD4 := rf_Dd (f := 2) (p := stT B ((j + 1) + 1)) hL3 (by decide) (by decide)
            refine N_iast d_D_readDeed_118 tf.2.1.2.2.2 (by omega) (by omega) (by rw [(rf_Ok (ad_Ok (okS (ad_Ok hX) tf.2.2.2.1.2.2.1))).1 (T + 4) (by omega), tf.2.2.1.2.2.2]; exact hkk) ?_
            have hD5 := Dd_A (a := T + 4) (l := (((rfX (adX (pA (adX X B j) (T + 3) (((adX X B j).2.1 (T + 3)).set kk (nI (vC B (stT B j))))) B (j + 1)) 2 (stT B ((j + 1) + 1))).2.1 (T + 4)).set kk (nI 0))) hD4 (by omega) (by omega)
            refine M_vr d_D_readDeed_119 rfl ?_
            have e : pDeed (tkT B) 4 j = .inl (2, j + 1 + 1) := by unfold pDeed; rw [if_neg (by decide), if_neg (by decide), if_neg (by decide), num_ok ha1 hr1, bnd_r, show pExp (tkT B) (if 4 = 3 then 7 else 8) (j + 1) = .inr (j + 1 + 1, 0) from ex_t hx3, bnd_r, num_2 ha4 hr4]; rfl
            rw [e]
            exact ⟨rfl, (okS (rf_Ok (ad_Ok (okS (ad_Ok hX) tf.2.2.2.1.2.2.1))) tf.2.2.2.1.2.2.2), offC_K (offK_t (offK_t (offK_t (offK_t (offK_L (offL_t (offL_0 T X) (ad_off (j := j)))) offK_3) (offK_L (offL_t (offL_t (offL_0 T (pA (adX X B j) (T + 3) (((adX X B j).2.1 (T + 3)).set kk (nI (vC B (stT B j)))))) (ad_off (j := (j + 1)))) rf_off))) offK_4) (offK_L (offL_0 T (pA (rfX (adX (pA (adX X B j) (T + 3) (((adX X B j).2.1 (T + 3)).set kk (nI (vC B (stT B j))))) B (j + 1)) 2 (stT B ((j + 1) + 1))) (T + 4) (((rfX (adX (pA (adX X B j) (T + 3) (((adX X B j).2.1 (T + 3)).set kk (nI (vC B (stT B j))))) B (j + 1)) 2 (stT B ((j + 1) + 1))).2.1 (T + 4)).set kk (nI 0)))))), hD5⟩
          · rw [show nuX (adX (pA (adX X B j) (T + 3) (((adX X B j).2.1 (T + 3)).set kk (nI (vC B (stT B j))))) B (j + 1)) B ((j + 1) + 1) 0 7 = adX (adX (pA (adX X B j) (T + 3) (((adX X B j).2.1 (T + 3)).set kk (nI (vC B (stT B j))))) B (j + 1)) B ((j + 1) + 1) by rw [nuX, if_pos ha4, if_neg hr4], show nuV B ((j + 1) + 1) 0 7 = vC B (stT B ((j + 1) + 1)) by rw [nuV, if_pos ha4, if_neg hr4]]
            have hL4 := ad_Lv hL3 (show tk_ B ((j + 1) + 1) ≠ 46 by omega)
            refine N_iast d_D_readDeed_118 tf.2.1.2.2.2 (by omega) (by omega) (by rw [(ad_Ok (ad_Ok (okS (ad_Ok hX) tf.2.2.2.1.2.2.1))).1 (T + 4) (by omega), tf.2.2.1.2.2.2]; exact hkk) ?_
            have hL5 := Lv_A (a := T + 4) (l := (((adX (adX (pA (adX X B j) (T + 3) (((adX X B j).2.1 (T + 3)).set kk (nI (vC B (stT B j))))) B (j + 1)) B ((j + 1) + 1)).2.1 (T + 4)).set kk (nI (vC B (stT B ((j + 1) + 1)))))) hL4 (by omega) (by omega)
            refine M_vr d_D_readDeed_119 rfl ?_
            have e : pDeed (tkT B) 4 j = .inr (j + 1 + 1 + 1, (vC B (stT B j), vC B (stT B (j + 1 + 1)))) := by unfold pDeed; rw [if_neg (by decide), if_neg (by decide), if_neg (by decide), num_ok ha1 hr1, bnd_r, show pExp (tkT B) (if 4 = 3 then 7 else 8) (j + 1) = .inr (j + 1 + 1, 0) from ex_t hx3, bnd_r, num_ok ha4 hr4, bnd_r]
            rw [e]
            exact ⟨rfl, (okS (ad_Ok (ad_Ok (okS (ad_Ok hX) tf.2.2.2.1.2.2.1))) tf.2.2.2.1.2.2.2), offC_K (offK_t (offK_t (offK_t (offK_t (offK_L (offL_t (offL_0 T X) (ad_off (j := j)))) offK_3) (offK_L (offL_t (offL_t (offL_0 T (pA (adX X B j) (T + 3) (((adX X B j).2.1 (T + 3)).set kk (nI (vC B (stT B j)))))) (ad_off (j := (j + 1)))) (ad_off (j := ((j + 1) + 1)))))) offK_4) (offK_L (offL_0 T (pA (adX (adX (pA (adX X B j) (T + 3) (((adX X B j).2.1 (T + 3)).set kk (nI (vC B (stT B j))))) B (j + 1)) B ((j + 1) + 1)) (T + 4) (((adX (adX (pA (adX X B j) (T + 3) (((adX X B j).2.1 (T + 3)).set kk (nI (vC B (stT B j))))) B (j + 1)) B ((j + 1) + 1)).2.1 (T + 4)).set kk (nI (vC B (stT B ((j + 1) + 1))))))))), ⟨fun z => by omega, fun _ => by show vC B (stT B j) < 20 ∧ vC B (stT B (j + 1 + 1)) < 8; omega, fun z => by omega, fun z => by omega⟩, (offK_t (offK_t (offK_t (offK_t (offK_L (offL_t (offL_0 T X) (ad_off (j := j)))) offK_3) (offK_L (offL_t (offL_t (offL_0 T (pA (adX X B j) (T + 3) (((adX X B j).2.1 (T + 3)).set kk (nI (vC B (stT B j)))))) (ad_off (j := (j + 1)))) (ad_off (j := ((j + 1) + 1)))))) offK_4) (offK_L (offL_0 T (pA (adX (adX (pA (adX X B j) (T + 3) (((adX X B j).2.1 (T + 3)).set kk (nI (vC B (stT B j))))) B (j + 1)) B ((j + 1) + 1)) (T + 4) (((adX (adX (pA (adX X B j) (T + 3) (((adX X B j).2.1 (T + 3)).set kk (nI (vC B (stT B j))))) B (j + 1)) B ((j + 1) + 1)).2.1 (T + 4)).set kk (nI (vC B (stT B ((j + 1) + 1))))))))), hL5, (show j < j + 1 + 1 + 1 by omega), (if_neg (by omega)).trans (if_neg (by omega)), (if_neg (by omega)).trans pA_at, fun _ => pA_at.trans (congrArg (fun l : List Int32 => l.set kk _) (show _ = X.2.1 (T + 4) from if_neg (show ¬ (T + 4 = T + 3) by omega))), fun z => absurd (by decide) z⟩
        · rw [show nuX (adX (pA (adX X B j) (T + 3) (((adX X B j).2.1 (T + 3)).set kk (nI (vC B (stT B j))))) B (j + 1)) B ((j + 1) + 1) 0 7 = rfX (adX (pA (adX X B j) (T + 3) (((adX X B j).2.1 (T + 3)).set kk (nI (vC B (stT B j))))) B (j + 1)) 1 (stT B ((j + 1) + 1)) by rw [nuX, if_neg ha4], show nuV B ((j + 1) + 1) 0 7 = 0 by rw [nuV, if_neg ha4]]
          have hD4 := rf_Dd (f := 1) (p := stT B ((j + 1) + 1)) hL3 (by decide) (by decide)
          refine N_iast d_D_readDeed_118 tf.2.1.2.2.2 (by omega) (by omega) (by rw [(rf_Ok (ad_Ok (okS (ad_Ok hX) tf.2.2.2.1.2.2.1))).1 (T + 4) (by omega), tf.2.2.1.2.2.2]; exact hkk) ?_
          have hD5 := Dd_A (a := T + 4) (l := (((rfX (adX (pA (adX X B j) (T + 3) (((adX X B j).2.1 (T + 3)).set kk (nI (vC B (stT B j))))) B (j + 1)) 1 (stT B ((j + 1) + 1))).2.1 (T + 4)).set kk (nI 0))) hD4 (by omega) (by omega)
          refine M_vr d_D_readDeed_119 rfl ?_
          have e : pDeed (tkT B) 4 j = .inl (1, j + 1 + 1) := by unfold pDeed; rw [if_neg (by decide), if_neg (by decide), if_neg (by decide), num_ok ha1 hr1, bnd_r, show pExp (tkT B) (if 4 = 3 then 7 else 8) (j + 1) = .inr (j + 1 + 1, 0) from ex_t hx3, bnd_r, num_1 ha4]; rfl
          rw [e]
          exact ⟨rfl, (okS (rf_Ok (ad_Ok (okS (ad_Ok hX) tf.2.2.2.1.2.2.1))) tf.2.2.2.1.2.2.2), offC_K (offK_t (offK_t (offK_t (offK_t (offK_L (offL_t (offL_0 T X) (ad_off (j := j)))) offK_3) (offK_L (offL_t (offL_t (offL_0 T (pA (adX X B j) (T + 3) (((adX X B j).2.1 (T + 3)).set kk (nI (vC B (stT B j)))))) (ad_off (j := (j + 1)))) rf_off))) offK_4) (offK_L (offL_0 T (pA (rfX (adX (pA (adX X B j) (T + 3) (((adX X B j).2.1 (T + 3)).set kk (nI (vC B (stT B j))))) B (j + 1)) 1 (stT B ((j + 1) + 1))) (T + 4) (((rfX (adX (pA (adX X B j) (T + 3) (((adX X B j).2.1 (T + 3)).set kk (nI (vC B (stT B j))))) B (j + 1)) 1 (stT B ((j + 1) + 1))).2.1 (T + 4)).set kk (nI 0)))))), hD5⟩
      · rw [show exX (pA (adX X B j) (T + 3) (((adX X B j).2.1 (T + 3)).set kk (nI (vC B (stT B j))))) B (j + 1) 8 = rfX (pA (adX X B j) (T + 3) (((adX X B j).2.1 (T + 3)).set kk (nI (vC B (stT B j))))) 1 (stT B (j + 1)) from if_neg hx3]
        have hD3 := rf_Dd (f := 1) (p := stT B (j + 1)) hL2 (by decide) (by decide)
        refine J_aload_n (i := 0) d_D_readDeed_103 rfl rfl ?_
        refine M_getI (b := T) d_D_readDeed_104 f_D_34 rfl rfl hD3.1.2.2 ?_
        refine M_getR (b := (T + 4)) d_D_readDeed_107 f_D_119 hkT rfl tf.1.2.2.2 ?_
        refine J_iload_n (i := 2) d_D_readDeed_110 rfl rfl ?_
        refine J_aload_n (i := 0) d_D_readDeed_111 rfl rfl ?_
        refine J_iconst (v := nI 0) d_D_readDeed_112 rfl ?_
        refine J_bipush (v := nI 7) d_D_readDeed_113 rfl ?_
        refine CV_N (av := [.int (nI 0), .int (nI 7)]) d_D_readDeed_115 s_D_115 (M_rcv rfl (by decide) rfl) (S_D_takeNumber_d (rf_Ok (okS (ad_Ok hX) tf.2.2.2.1.2.2.1)) hD3) (by omega) rfl rfl (Nat.le_of_ble_eq_true rfl) ?_
        refine N_iast d_D_readDeed_118 tf.2.1.2.2.2 (by omega) (by omega) (by rw [(rf_Ok (okS (ad_Ok hX) tf.2.2.2.1.2.2.1)).1 (T + 4) (by omega), tf.2.2.1.2.2.2]; exact hkk) ?_
        have hD4 := Dd_A (a := T + 4) (l := (((rfX (pA (adX X B j) (T + 3) (((adX X B j).2.1 (T + 3)).set kk (nI (vC B (stT B j))))) 1 (stT B (j + 1))).2.1 (T + 4)).set kk (nI 0))) hD3 (by omega) (by omega)
        refine M_vr d_D_readDeed_119 rfl ?_
        have e : pDeed (tkT B) 4 j = .inl (1, j + 1) := by unfold pDeed; rw [if_neg (by decide), if_neg (by decide), if_neg (by decide), num_ok ha1 hr1, bnd_r, show pExp (tkT B) (if 4 = 3 then 7 else 8) (j + 1) = .inl (1, j + 1) from ex_f hx3]; rfl
        rw [e]
        exact ⟨rfl, (okS (rf_Ok (okS (ad_Ok hX) tf.2.2.2.1.2.2.1)) tf.2.2.2.1.2.2.2), offC_K (offK_t (offK_t (offK_t (offK_t (offK_L (offL_t (offL_0 T X) (ad_off (j := j)))) offK_3) (offK_L (offL_t (offL_0 T (pA (adX X B j) (T + 3) (((adX X B j).2.1 (T + 3)).set kk (nI (vC B (stT B j)))))) rf_off))) offK_4) (offK_L (offL_0 T (pA (rfX (pA (adX X B j) (T + 3) (((adX X B j).2.1 (T + 3)).set kk (nI (vC B (stT B j))))) 1 (stT B (j + 1))) (T + 4) (((rfX (pA (adX X B j) (T + 3) (((adX X B j).2.1 (T + 3)).set kk (nI (vC B (stT B j))))) 1 (stT B (j + 1))).2.1 (T + 4)).set kk (nI 0)))))), hD4⟩
  · rw [show nuX X B j 0 19 = rfX X 1 (stT B j) by rw [nuX, if_neg ha1], show nuV B j 0 19 = 0 by rw [nuV, if_neg ha1]]
    have hD1 := rf_Dd (f := 1) (p := stT B j) hL (by decide) (by decide)
    refine N_iast d_D_readDeed_86 tf.2.1.2.2.1 (by omega) (by omega) (by rw [(rf_Ok hX).1 (T + 3) (by omega), tf.2.2.1.2.2.1]; exact hkk) ?_
    have hD2 := Dd_A (a := T + 3) (l := (((rfX X 1 (stT B j)).2.1 (T + 3)).set kk (nI 0))) hD1 (by omega) (by omega)
    refine J_aload_n (i := 0) d_D_readDeed_87 rfl rfl ?_
    refine J_iload_n (i := 1) d_D_readDeed_88 rfl rfl ?_
    refine J_iconst (v := nI 3) d_D_readDeed_89 rfl ?_
    refine N_icmp_ne (tgt := 98) d_D_readDeed_90 (by decide) (by omega) (by omega) (fun c90 => ?_) (fun c90 => absurd c90 (by decide))
    refine J_bipush (v := nI 8) d_D_readDeed_98 rfl ?_
    refine CV_V (av := [.int (nI 8)]) d_D_readDeed_100 s_D_84 (M_rcv rfl (by decide) rfl) (S_D_expect_d (okS (rf_Ok hX) tf.2.2.2.1.2.2.1) hD2 (show 8 < 46 by omega)) (by omega) rfl rfl (Nat.le_of_ble_eq_true rfl) ?_
    refine J_aload_n (i := 0) d_D_readDeed_103 rfl rfl ?_
    refine M_getI (b := T) d_D_readDeed_104 f_D_34 rfl rfl hD2.1.2.2 ?_
    refine M_getR (b := (T + 4)) d_D_readDeed_107 f_D_119 hkT rfl tf.1.2.2.2 ?_
    refine J_iload_n (i := 2) d_D_readDeed_110 rfl rfl ?_
    refine J_aload_n (i := 0) d_D_readDeed_111 rfl rfl ?_
    refine J_iconst (v := nI 0) d_D_readDeed_112 rfl ?_
    refine J_bipush (v := nI 7) d_D_readDeed_113 rfl ?_
    refine CV_N (av := [.int (nI 0), .int (nI 7)]) d_D_readDeed_115 s_D_115 (M_rcv rfl (by decide) rfl) (S_D_takeNumber_d (okS (rf_Ok hX) tf.2.2.2.1.2.2.1) hD2) (by omega) rfl rfl (Nat.le_of_ble_eq_true rfl) ?_
    refine N_iast d_D_readDeed_118 tf.2.1.2.2.2 (by omega) (by omega) (by rw [(okS (rf_Ok hX) tf.2.2.2.1.2.2.1).1 (T + 4) (by omega), tf.2.2.1.2.2.2]; exact hkk) ?_
    have hD3 := Dd_A (a := T + 4) (l := (((pA (rfX X 1 (stT B j)) (T + 3) (((rfX X 1 (stT B j)).2.1 (T + 3)).set kk (nI 0))).2.1 (T + 4)).set kk (nI 0))) hD2 (by omega) (by omega)
    refine M_vr d_D_readDeed_119 rfl ?_
    have e : pDeed (tkT B) 4 j = .inl (1, j) := by unfold pDeed; rw [if_neg (by decide), if_neg (by decide), if_neg (by decide), num_1 ha1]; rfl
    rw [e]
    exact ⟨rfl, (okS (okS (rf_Ok hX) tf.2.2.2.1.2.2.1) tf.2.2.2.1.2.2.2), offC_K (offK_t (offK_t (offK_t (offK_t (offK_L (offL_t (offL_0 T X) rf_off)) offK_3) (offK_L (offL_0 T (pA (rfX X 1 (stT B j)) (T + 3) (((rfX X 1 (stT B j)).2.1 (T + 3)).set kk (nI 0)))))) offK_4) (offK_L (offL_0 T (pA (pA (rfX X 1 (stT B j)) (T + 3) (((rfX X 1 (stT B j)).2.1 (T + 3)).set kk (nI 0))) (T + 4) (((pA (rfX X 1 (stT B j)) (T + 3) (((rfX X 1 (stT B j)).2.1 (T + 3)).set kk (nI 0))).2.1 (T + 4)).set kk (nI 0)))))), hD3⟩

