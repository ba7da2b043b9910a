theorem wE2_n {a b : Nat} (ha : a < 256) (hb : b < 256) : wE2 (nI a) (nI b) = Int64.ofNat (a * 256 + b) := by
  unfold wE2
  rw [j_ext (b := a) (by omega), j_ext (b := b) (by omega), j_shl8, j_or, or_add hb]
theorem wE3_n {a b c : Nat} (ha : a < 256) (hb : b < 256) (hc : c < 256) : wE3 (nI a) (nI b) (nI c) = Int64.ofNat ((a * 256 + b) * 256 + c) := by
  unfold wE3
  rw [wE2_n ha hb, j_ext (b := c) (by omega), j_shl8, j_or, or_add hc]
theorem wE4_n {a b c d : Nat} (ha : a < 256) (hb : b < 256) (hc : c < 256) (hd : d < 256) : wE4 (nI a) (nI b) (nI c) (nI d) = Int64.ofNat (((a * 256 + b) * 256 + c) * 256 + d) := by
  unfold wE4
  rw [wE3_n ha hb hc, j_ext (b := d) (by omega), j_shl8, j_or, or_add hd]
theorem lw_7 {B : Nat → Nat} {q : Nat} : lw B q (q + 7) = [B q, B (q + 1), B (q + 2), B (q + 3), B (q + 4), B (q + 5), B (q + 6)] := by
  unfold lw
  rw [show q + 7 - q = 7 by omega]
  rfl
theorem kT_27 {B : Nat → Nat} {m q : Nat} (hB : okB B m) : kT B q = 27 ↔ isLt (B q) = true ∧ lw B q (eL B q) = [115, 116, 114, 111, 107, 101, 115] := by
  constructor
  · intro h
    rcases Bool.eq_false_or_eq_true (isLt (B q)) with e | e
    · rw [kT_lw e] at h
      exact ⟨e, kwf_is KW 0 27 _ (by decide) (by decide) (by omega)⟩
    · have := kT_ge e
      omega
  · intro h
    rw [kT_lw h.1, h.2]
    exact kw_at 27 (by decide)
theorem lwq_len {B : Nat → Nat} {q e : Nat} : (lw B q e).length = e - q := by
  unfold lw
  rw [List.length_map, List.length_range]
/-- the kind that a token without letters has -/
def skOf (t : Nat) : Nat := if t = 0 then 46 else if t = 1 then 45 else if t = 60 then 32 else if t = 4 then 43 else if t = 62 then 33 else if t = 5 then 44 else if t = 61 then 34 else if t = 35 then 35 else if t = 43 then 36 else if t = 45 then 37 else if t = 42 then 38 else if t = 47 then 39 else if t = 40 then 40 else if t = 41 then 41 else if t = 59 then 42 else 47
theorem sk_61 : ∀ c, c < 256 → sgK c 61 = skOf (if c = 60 ∧ (61 : Nat) = 61 then 4 else if c = 62 ∧ (61 : Nat) = 61 then 5 else if sgnB c then c else 3) ∨ isDg c = true := by decide +kernel
theorem sk_00 : ∀ c, c < 256 → sgK c 0 = skOf (if c = 60 ∧ (0 : Nat) = 61 then 4 else if c = 62 ∧ (0 : Nat) = 61 then 5 else if sgnB c then c else 3) ∨ isDg c = true := by decide +kernel
theorem sgK_d {c d : Nat} (h : d ≠ 61) : sgK c d = sgK c 0 := by
  unfold sgK
  rw [if_neg h, if_neg h, if_neg (show (0 : Nat) ≠ 61 by decide), if_neg (show (0 : Nat) ≠ 61 by decide)]
theorem kT_sk {B : Nat → Nat} {m q : Nat} (hB : okB B m) (hl : isLt (B q) = false) : kT B q = skOf (tR B q) ∧ tR B q ≠ 2 ∧ tR B q < 256 := by
  by_cases h0 : B q = 256
  · rw [tR_0 h0]
    exact ⟨if_pos h0, by decide, by decide⟩
  · have hb : B q < 256 := by
      rcases Nat.lt_or_ge q m with h | h
      · exact hB.2.1 q h
      · exact absurd (hB.2.2 q h) h0
    rcases Bool.eq_false_or_eq_true (isDg (B q)) with e | e
    · rw [tR_1 h0 e, (kT_45 h0 hl e).1]
      exact ⟨rfl, by decide, by decide⟩
    · rw [tR_s h0 e hl, kT_sg h0 hl e]
      refine ⟨?_, ?_, ?_⟩
      · by_cases hd : B (q + 1) = 61
        · rw [hd]
          rcases sk_61 _ hb with h | h
          · exact h
          · rw [h] at e; cases e
        · rw [sgK_d hd]
          rcases sk_00 _ hb with h | h
          · rw [h]
            rw [if_neg (show ¬ (B q = 60 ∧ (0 : Nat) = 61) from fun z => absurd z.2 (by decide)), if_neg (show ¬ (B q = 62 ∧ (0 : Nat) = 61) from fun z => absurd z.2 (by decide)), if_neg (show ¬ (B q = 60 ∧ B (q + 1) = 61) from fun z => hd z.2), if_neg (show ¬ (B q = 62 ∧ B (q + 1) = 61) from fun z => hd z.2)]
          · rw [h] at e; cases e
      · intro z
        split at z
        · exact absurd z (by decide)
        · split at z
          · exact absurd z (by decide)
          · split at z
            · rename_i q1
              exact (sg_12 q1).2 z
            · exact absurd z (by decide)
      · repeat' split
        all_goals omega
theorem sk_in : ∀ t, t < 256 → ∀ p, p ∈ [(60, 32), (4, 43), (62, 33), (5, 44), (61, 34), (35, 35), (43, 36), (45, 37), (42, 38), (47, 39), (40, 40), (41, 41), (59, 42), (0, 46), (1, 45)] → (t = p.1 ↔ skOf t = p.2) := by decide +kernel
theorem kwf_31 : ∀ (ks : List (List Nat)) (s : Nat) (l : List Nat), kwf ks s l < s + ks.length ∨ kwf ks s l = 47
  | [], _, _ => Or.inr rfl
  | k :: ks, s, l => by
    show (if l = k then s else kwf ks (s + 1) l) < s + (ks.length + 1) ∨ (if l = k then s else kwf ks (s + 1) l) = 47
    split
    · exact Or.inl (by omega)
    · rcases kwf_31 ks (s + 1) l with h | h
      · exact Or.inl (by omega)
      · exact Or.inr h
theorem sg_of {B : Nat → Nat} {m q : Nat} (hB : okB B m) {p : Nat × Nat} (hp : p ∈ [(60, 32), (4, 43), (62, 33), (5, 44), (61, 34), (35, 35), (43, 36), (45, 37), (42, 38), (47, 39), (40, 40), (41, 41), (59, 42), (0, 46), (1, 45)]) : tR B q = p.1 ↔ kT B q = p.2 := by
  rcases Bool.eq_false_or_eq_true (isLt (B q)) with e | e
  · rw [lt_tR e, kT_lw e]
    have h := kwf_31 KW 0 (lw B q (eL B q))
    have hl : KW.length = 32 := by decide
    have hk : p.1 ≠ 2 ∧ 32 ≤ p.2 ∧ p.2 ≠ 47 := (by decide : ∀ p : Nat × Nat, p ∈ [(60, 32), (4, 43), (62, 33), (5, 44), (61, 34), (35, 35), (43, 36), (45, 37), (42, 38), (47, 39), (40, 40), (41, 41), (59, 42), (0, 46), (1, 45)] → p.1 ≠ 2 ∧ 32 ≤ p.2 ∧ p.2 ≠ 47) p hp
    omega
  · obtain ⟨h1, h2, h3⟩ := kT_sk hB e
    rw [h1]
    exact sk_in _ h3 p hp
def nmR (k : Nat) : Int32 := if nameB k then nI (nmI k) else -1
def soR (k : Nat) : Int32 := if k < 7 then nI k else -1
def cmR (k : Nat) : Int32 := if cmpB k then nI (cpK k) else -1
theorem S_R_isStrokesWord {X : Mem} {B : Nat → Nat} {m q : Nat} (hX : Ok X) (hB : okB B m) (hV : RV X m B) (hT : RTq X B q) (hq : q ≤ m) : CM 3 m_R_isStrokesWord [.ref 244] X (rB (decide (kT B q = 27)) X) := by
  have h300 := hB.1
  have ht := tR_sm (q := q) hB
  have hk := kT_27 (q := q) hB
  refine CM_of (L := [some (.ref 244)]) 0 ok_R_isStrokesWord (fun _ => Nat.le_of_ble_eq_true rfl) rfl ?_
  refine J_aload_n (i := 0) d_R_isStrokesWord_0 rfl rfl ?_
  refine M_get (x := (nI (tR B q))) d_R_isStrokesWord_1 f_R_158 rfl rfl hT.2.2.1 ?_
  refine J_iconst (v := nI 2) d_R_isStrokesWord_4 rfl ?_
  refine N_icmp_ne (tgt := 129) d_R_isStrokesWord_5 (by decide) (by omega) (by omega) (fun c5 => ?_) (fun c5 => ?_)
  · refine J_iconst (v := nI 0) d_R_isStrokesWord_129 rfl ?_
    refine J.eq (st1 := [.int (b2i false)]) ?_ rfl rfl rfl
    refine M_ir d_R_isStrokesWord_130 rfl b2i_nar ?_
    refine ⟨congrArg (fun b => some (Value.int (b2i b))) (decide_eq_false (fun z => ?_)).symm, rfl⟩
    · exact absurd (lt_tR (hk.mp z).1) (by omega)
  · have hl := tR_lt (show tR B q = 2 by omega)
    have h256 : B q ≠ 256 := by have := lt_256 hl; omega
    have hqm : q < m := by
      rcases Nat.lt_or_ge q m with h | h
      · exact h
      · exact absurd (hB.2.2 q h) h256
    have he := eN_lt hB hqm
    have hew := eN_w h256 hl
    refine J_aload_n (i := 0) d_R_isStrokesWord_8 rfl rfl ?_
    refine M_get (x := (nI (eN B q))) d_R_isStrokesWord_9 f_R_149 rfl rfl hT.2.1 ?_
    refine J_aload_n (i := 0) d_R_isStrokesWord_12 rfl rfl ?_
    refine M_get (x := (nI q)) d_R_isStrokesWord_13 f_R_155 rfl rfl hT.1 ?_
    refine N_isub d_R_isStrokesWord_16 (by omega) ?_
    refine J_bipush (v := nI 7) d_R_isStrokesWord_17 rfl ?_
    refine N_icmp_ne (tgt := 129) d_R_isStrokesWord_19 (by decide) (by omega) (by omega) (fun c19 => ?_) (fun c19 => ?_)
    · refine J_iconst (v := nI 0) d_R_isStrokesWord_129 rfl ?_
      refine J.eq (st1 := [.int (b2i false)]) ?_ rfl rfl rfl
      refine M_ir d_R_isStrokesWord_130 rfl b2i_nar ?_
      refine ⟨congrArg (fun b => some (Value.int (b2i b))) (decide_eq_false (fun z => ?_)).symm, rfl⟩
      · have h := lwq_len (B := B) (q := q) (e := eL B q)
        rw [(hk.mp z).2] at h
        have h7 : 7 = eL B q - q := h
        omega
    · have b0 := hB.2.1 q (by omega)
      have b1 := hB.2.1 (q + 1) (by omega)
      have b2 := hB.2.1 (q + 2) (by omega)
      have b3 := hB.2.1 (q + 3) (by omega)
      have b4 := hB.2.1 (q + 4) (by omega)
      have b5 := hB.2.1 (q + 5) (by omega)
      have b6 := hB.2.1 (q + 6) (by omega)
      refine J_aload_n (i := 0) d_R_isStrokesWord_22 rfl rfl ?_
      refine J_aload_n (i := 0) d_R_isStrokesWord_23 rfl rfl ?_
      refine M_get (x := (nI q)) d_R_isStrokesWord_24 f_R_155 rfl rfl hT.1 ?_
      refine CV_N (av := [.int (nI q)]) d_R_isStrokesWord_27 s_R_152 (M_rcv rfl (by decide) rfl) (S_R_byteAt_n hX hB (by repeat first | exact hV | refine RV_F ?_ (by decide) | refine RV_W ?_) (by omega)) (by decide) rfl rfl (Nat.le_of_ble_eq_true rfl) ?_
      refine J_aload_n (i := 0) d_R_isStrokesWord_30 rfl rfl ?_
      refine J_aload_n (i := 0) d_R_isStrokesWord_31 rfl rfl ?_
      refine M_get (x := (nI q)) d_R_isStrokesWord_32 f_R_155 rfl rfl hT.1 ?_
      refine J_iconst (v := nI 1) d_R_isStrokesWord_35 rfl ?_
      refine N_iadd d_R_isStrokesWord_36 ?_
      refine CV_N (av := [.int (nI (q + 1))]) d_R_isStrokesWord_37 s_R_152 (M_rcv rfl (by decide) rfl) (S_R_byteAt_n hX hB (by repeat first | exact hV | refine RV_F ?_ (by decide) | refine RV_W ?_) (by omega)) (by decide) rfl rfl (Nat.le_of_ble_eq_true rfl) ?_
      refine J_aload_n (i := 0) d_R_isStrokesWord_40 rfl rfl ?_
      refine J_aload_n (i := 0) d_R_isStrokesWord_41 rfl rfl ?_
      refine M_get (x := (nI q)) d_R_isStrokesWord_42 f_R_155 rfl rfl hT.1 ?_
      refine J_iconst (v := nI 2) d_R_isStrokesWord_45 rfl ?_
      refine N_iadd d_R_isStrokesWord_46 ?_
      refine CV_N (av := [.int (nI (q + 2))]) d_R_isStrokesWord_47 s_R_152 (M_rcv rfl (by decide) rfl) (S_R_byteAt_n hX hB (by repeat first | exact hV | refine RV_F ?_ (by decide) | refine RV_W ?_) (by omega)) (by decide) rfl rfl (Nat.le_of_ble_eq_true rfl) ?_
      refine J_aload_n (i := 0) d_R_isStrokesWord_50 rfl rfl ?_
      refine J_aload_n (i := 0) d_R_isStrokesWord_51 rfl rfl ?_
      refine M_get (x := (nI q)) d_R_isStrokesWord_52 f_R_155 rfl rfl hT.1 ?_
      refine J_iconst (v := nI 3) d_R_isStrokesWord_55 rfl ?_
      refine N_iadd d_R_isStrokesWord_56 ?_
      refine CV_N (av := [.int (nI (q + 3))]) d_R_isStrokesWord_57 s_R_152 (M_rcv rfl (by decide) rfl) (S_R_byteAt_n hX hB (by repeat first | exact hV | refine RV_F ?_ (by decide) | refine RV_W ?_) (by omega)) (by decide) rfl rfl (Nat.le_of_ble_eq_true rfl) ?_
      refine CS_L (av := [.int (nI (B q)), .int (nI (B (q + 1))), .int (nI (B (q + 2))), .int (nI (B (q + 3)))]) d_R_isStrokesWord_60 s_R_188 (S_R_w4 (nI (B q)) (nI (B (q + 1))) (nI (B (q + 2))) (nI (B (q + 3)))) (by decide) rfl rfl (Nat.le_of_ble_eq_true rfl) ?_
      refine J_bipush (v := nI 115) d_R_isStrokesWord_63 rfl ?_
      refine J_bipush (v := nI 116) d_R_isStrokesWord_65 rfl ?_
      refine J_bipush (v := nI 114) d_R_isStrokesWord_67 rfl ?_
      refine J_bipush (v := nI 111) d_R_isStrokesWord_69 rfl ?_
      refine CS_L (av := [.int (nI 115), .int (nI 116), .int (nI 114), .int (nI 111)]) d_R_isStrokesWord_71 s_R_188 (S_R_w4 (nI 115) (nI 116) (nI 114) (nI 111)) (by decide) rfl rfl (Nat.le_of_ble_eq_true rfl) ?_
      refine J_lcmp d_R_isStrokesWord_74 ?_
      refine J_if_ne (tgt := 129) d_R_isStrokesWord_75 (by decide) (fun c75 => ?_) (fun c75 => ?_)
      · refine J_iconst (v := nI 0) d_R_isStrokesWord_129 rfl ?_
        refine J.eq (st1 := [.int (b2i false)]) ?_ rfl rfl rfl
        refine M_ir d_R_isStrokesWord_130 rfl b2i_nar ?_
        refine ⟨congrArg (fun b => some (Value.int (b2i b))) (decide_eq_false (fun z => ?_)).symm, rfl⟩
        · have h := (hk.mp z).2
          rw [show eL B q = q + 7 by omega, lw_7] at h
          simp only [List.cons.injEq, and_true] at h
          obtain ⟨z0, z1, z2, z3, z4, z5, z6⟩ := h
          refine c75 (cmp_0.mpr ?_)
          rw [z0, z1, z2, z3]
      · refine J_aload_n (i := 0) d_R_isStrokesWord_78 rfl rfl ?_
        refine J_aload_n (i := 0) d_R_isStrokesWord_79 rfl rfl ?_
        refine M_get (x := (nI q)) d_R_isStrokesWord_80 f_R_155 rfl rfl hT.1 ?_
        refine J_iconst (v := nI 4) d_R_isStrokesWord_83 rfl ?_
        refine N_iadd d_R_isStrokesWord_84 ?_
        refine CV_N (av := [.int (nI (q + 4))]) d_R_isStrokesWord_85 s_R_152 (M_rcv rfl (by decide) rfl) (S_R_byteAt_n hX hB (by repeat first | exact hV | refine RV_F ?_ (by decide) | refine RV_W ?_) (by omega)) (by decide) rfl rfl (Nat.le_of_ble_eq_true rfl) ?_
        refine J_aload_n (i := 0) d_R_isStrokesWord_88 rfl rfl ?_
        refine J_aload_n (i := 0) d_R_isStrokesWord_89 rfl rfl ?_
        refine M_get (x := (nI q)) d_R_isStrokesWord_90 f_R_155 rfl rfl hT.1 ?_
        refine J_iconst (v := nI 5) d_R_isStrokesWord_93 rfl ?_
        refine N_iadd d_R_isStrokesWord_94 ?_
        refine CV_N (av := [.int (nI (q + 5))]) d_R_isStrokesWord_95 s_R_152 (M_rcv rfl (by decide) rfl) (S_R_byteAt_n hX hB (by repeat first | exact hV | refine RV_F ?_ (by decide) | refine RV_W ?_) (by omega)) (by decide) rfl rfl (Nat.le_of_ble_eq_true rfl) ?_
        refine J_aload_n (i := 0) d_R_isStrokesWord_98 rfl rfl ?_
        refine J_aload_n (i := 0) d_R_isStrokesWord_99 rfl rfl ?_
        refine M_get (x := (nI q)) d_R_isStrokesWord_100 f_R_155 rfl rfl hT.1 ?_
        refine J_bipush (v := nI 6) d_R_isStrokesWord_103 rfl ?_
        refine N_iadd d_R_isStrokesWord_105 ?_
        refine CV_N (av := [.int (nI (q + 6))]) d_R_isStrokesWord_106 s_R_152 (M_rcv rfl (by decide) rfl) (S_R_byteAt_n hX hB (by repeat first | exact hV | refine RV_F ?_ (by decide) | refine RV_W ?_) (by omega)) (by decide) rfl rfl (Nat.le_of_ble_eq_true rfl) ?_
        refine CS_L (av := [.int (nI (B (q + 4))), .int (nI (B (q + 5))), .int (nI (B (q + 6)))]) d_R_isStrokesWord_109 s_R_184 (S_R_w3 (nI (B (q + 4))) (nI (B (q + 5))) (nI (B (q + 6)))) (by decide) rfl rfl (Nat.le_of_ble_eq_true rfl) ?_
        refine J_bipush (v := nI 107) d_R_isStrokesWord_112 rfl ?_
        refine J_bipush (v := nI 101) d_R_isStrokesWord_114 rfl ?_
        refine J_bipush (v := nI 115) d_R_isStrokesWord_116 rfl ?_
        refine CS_L (av := [.int (nI 107), .int (nI 101), .int (nI 115)]) d_R_isStrokesWord_118 s_R_184 (S_R_w3 (nI 107) (nI 101) (nI 115)) (by decide) rfl rfl (Nat.le_of_ble_eq_true rfl) ?_
        refine J_lcmp d_R_isStrokesWord_121 ?_
        refine J_if_ne (tgt := 129) d_R_isStrokesWord_122 (by decide) (fun c122 => ?_) (fun c122 => ?_)
        · refine J_iconst (v := nI 0) d_R_isStrokesWord_129 rfl ?_
          refine J.eq (st1 := [.int (b2i false)]) ?_ rfl rfl rfl
          refine M_ir d_R_isStrokesWord_130 rfl b2i_nar ?_
          refine ⟨congrArg (fun b => some (Value.int (b2i b))) (decide_eq_false (fun z => ?_)).symm, rfl⟩
          · have h := (hk.mp z).2
            rw [show eL B q = q + 7 by omega, lw_7] at h
            simp only [List.cons.injEq, and_true] at h
            obtain ⟨z0, z1, z2, z3, z4, z5, z6⟩ := h
            refine c122 (cmp_0.mpr ?_)
            rw [z4, z5, z6]
        · refine J_iconst (v := nI 1) d_R_isStrokesWord_125 rfl ?_
          refine J_goto (tgt := 130) d_R_isStrokesWord_126 (by decide) ?_
          refine J.eq (st1 := [.int (b2i true)]) ?_ rfl rfl rfl
          refine M_ir d_R_isStrokesWord_130 rfl b2i_nar ?_
          refine ⟨congrArg (fun b => some (Value.int (b2i b))) (bt_of (hk.mpr ⟨hl, ?_⟩)).symm, rfl⟩
          rw [show eL B q = q + 7 by omega, lw_7]
          rw [wE4_n b0 b1 b2 b3, wE4_n (by decide) (by decide) (by decide) (by decide)] at c75
          rw [wE3_n b4 b5 b6, wE3_n (by decide) (by decide) (by decide)] at c122
          have g1 := (j_inj (by omega) (by decide)).mp (cmp_0.mp c75)
          have g2 := (j_inj (by omega) (by decide)).mp (cmp_0.mp c122)
          rw [show B q = 115 by omega, show B (q + 1) = 116 by omega, show B (q + 2) = 114 by omega, show B (q + 3) = 111 by omega, show B (q + 4) = 107 by omega, show B (q + 5) = 101 by omega, show B (q + 6) = 115 by omega]

