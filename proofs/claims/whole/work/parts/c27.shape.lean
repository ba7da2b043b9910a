def hdS : List (Nat × Nat) → Nat
  | [] => 0
  | p :: _ => 1 - cs1 p.1
def inS : List (Nat × Nat) → Prop
  | [] => True
  | p :: P => okO p.1 ∧ ((P.length + 1 ≤ 2 * (cs1 p.1 + cnS P) + (1 - cs1 p.1)) ∧ inS P)
theorem hdS_le (P : List (Nat × Nat)) : hdS P ≤ 1 := by
  cases P with
  | nil => exact Nat.zero_le _
  | cons p P => exact Nat.sub_le _ _
theorem inS_le : ∀ {P : List (Nat × Nat)}, inS P → P.length ≤ 2 * cnS P + hdS P
  | [], _ => Nat.zero_le _
  | _ :: _, h => h.2.1
theorem inS_c {a D : Nat} {P : List (Nat × Nat)} (h : inS P) (ha : a = 40 ∨ a = 50 ∨ a = 51) : inS ((a, D) :: P) := by
  have h1 := inS_le h
  have h2 := hdS_le P
  have h3 : cs1 a = 1 := by have := cs1_c a; omega
  refine ⟨show okO a by unfold okO; omega, ?_, h⟩
  show P.length + 1 ≤ 2 * (cs1 a + cnS P) + (1 - cs1 a)
  omega
theorem inS_w {a D : Nat} {P : List (Nat × Nat)} (h : inS P) (ha : a = 52 ∨ a = 53) (h0 : hdS P = 0) : inS ((a, D) :: P) := by
  have h1 := inS_le h
  have h3 : cs1 a = 0 := by have := cs1_c a; omega
  refine ⟨show okO a by unfold okO; omega, ?_, h⟩
  show P.length + 1 ≤ 2 * (cs1 a + cnS P) + (1 - cs1 a)
  omega
theorem endP_in : ∀ (P : List (Nat × Nat)) (m D : Nat), inS P → m = cnS P → inS (endP P m D).1 ∧ ((endP P m D).2.1 = cnS (endP P m D).1 ∧ (hdS (endP P m D).1 = 0 ∧ (endP P m D).2.1 ≤ m))
  | [], m, D, h, hm => ⟨trivial, hm, rfl, Nat.le_refl _⟩
  | (a, e) :: P, m, D, h, hm => by
    have h0 : okO a := h.1
    have hm : m = cs1 a + cnS P := hm
    unfold okO at h0
    rcases h0 with q | q | q | q | q
    · rw [endP_p q]
      refine ⟨h, hm, ?_, Nat.le_refl _⟩
      subst q
      rfl
    · have h3 : cs1 a = 1 := by have := cs1_c a; omega
      rw [endP_t (Or.inl q)]
      have z := endP_in P (m - 1) (mvs (if a = 50 then 1 else 4) D) h.2.2 (by omega)
      exact ⟨z.1, z.2.1, z.2.2.1, by omega⟩
    · have h3 : cs1 a = 1 := by have := cs1_c a; omega
      rw [endP_t (Or.inr q)]
      have z := endP_in P (m - 1) (mvs (if a = 50 then 1 else 4) D) h.2.2 (by omega)
      exact ⟨z.1, z.2.1, z.2.2.1, by omega⟩
    · have h3 : cs1 a = 0 := by have := cs1_c a; omega
      rw [endP_w q]
      exact endP_in P m _ h.2.2 (by omega)
    · have h3 : cs1 a = 0 := by have := cs1_c a; omega
      rw [endP_l q]
      exact endP_in P m _ h.2.2 (by omega)
def IVS (c : MS) : Prop := c.2.2.1 ≤ 8 ∧ (c.2.2.1 = cnS c.2.1 ∧ (inS c.2.1 ∧ (c.2.2.2.1 = true → hdS c.2.1 = 0)))
theorem ivs_f {j m D : Nat} {P : List (Nat × Nat)} (h1 : m ≤ 8) (h2 : m = cnS P) (h3 : inS P) : IVS (finP j P m D) := by
  have z := endP_in P m D h3 h2
  exact ⟨show (endP P m D).2.1 ≤ 8 by omega, z.2.1, z.1, fun _ => z.2.2.1⟩
theorem ivs_o {a j m D : Nat} {P : List (Nat × Nat)} {c2 : MS} (ha : a = 40 ∨ a = 50 ∨ a = 51) (h1 : m ≤ 8) (h2 : m = cnS P) (h3 : inS P) (h : opdS a j P m D = .inr c2) : IVS c2 := by
  unfold opdS at h
  split at h
  · cases h
  · cases h
    have h4 : cs1 a = 1 := by have := cs1_c a; omega
    exact ⟨show m + 1 ≤ 8 by omega, show m + 1 = cs1 a + cnS P by omega, inS_c h3 ha, fun z => by cases z⟩
theorem ivs_n {T : TS} {hi j m : Nat} {P : List (Nat × Nat)} {f : Nat → Nat} {c2 : MS} (h1 : m ≤ 8) (h2 : m = cnS P) (h3 : inS P) (h : numM T hi j P m f = .inr c2) : IVS c2 := by
  unfold numM at h
  repeat' split at h
  all_goals first
    | (cases h; done)
    | (cases h; exact ivs_f h1 h2 h3)
theorem ivs_beg {T : TS} {j m D : Nat} {P : List (Nat × Nat)} {c2 : MS} (h1 : m ≤ 8) (h2 : m = cnS P) (h3 : inS P) (h : begS T j P m D = .inr c2) : IVS c2 := by
  unfold begS at h
  repeat' split at h
  all_goals first
    | (cases h; done)
    | exact ivs_n h1 h2 h3 h
    | exact ivs_o (by decide) h1 h2 h3 h
    | (cases h; exact ivs_f h1 h2 h3)
theorem ivs_s {T : TS} {c c2 : MS} (hI : IVS c) (h : sstep T c = .inr c2) : IVS c2 := by
  obtain ⟨j, P, m, wh, D⟩ := c
  obtain ⟨h1, h2, h3, h4⟩ := hI
  have h1 : m ≤ 8 := h1
  have h2 : m = cnS P := h2
  have h3 : inS P := h3
  cases wh with
  | true =>
    have h4 : hdS P = 0 := h4 rfl
    cases hq : behS T j P m D with
    | some c3 =>
      rw [ss_beh hq] at h
      cases h
      unfold behS at hq
      by_cases q1 : T.1 j = 15 ∨ T.1 j = 16
      · rw [if_pos q1] at hq
        cases hq
        have q3 : (if T.1 j = 15 then 52 else 53) = 52 ∨ (if T.1 j = 15 then 52 else 53) = 53 := by split <;> omega
        refine ⟨h1, ?_, inS_w h3 q3 h4, fun z => by cases z⟩
        show m = cs1 (if T.1 j = 15 then 52 else 53) + cnS P
        have := cs1_c (if T.1 j = 15 then 52 else 53)
        omega
      · rw [if_neg q1] at hq
        by_cases q2 : T.1 j = 41 ∧ P ≠ []
        · rw [if_pos q2] at hq
          cases hq
          cases P with
          | nil => exact absurd rfl q2.2
          | cons p P =>
            have h4 : 1 - cs1 p.1 = 0 := h4
            have h2 : m = cs1 p.1 + cnS P := h2
            have := cs1_c p.1
            exact ivs_f (P := P) (by omega) (by omega) h3.2.2
        · rw [if_neg q2] at hq; cases hq
    | none =>
      rw [ss_no hq] at h
      split at h <;> cases h
  | false =>
    cases hq : begS T j P m D with
    | inl f => rw [ss_begf hq] at h; cases h
    | inr c3 =>
      rw [ss_beg hq] at h
      cases h
      exact ivs_beg h1 h2 h3 hq
def BgS (X0 : Mem) (B : Nat → Nat) (z : Sum (Nat × Nat) MS) (r : Option Value) (Y : Mem) : Prop := match z with
  | .inl f => r = some (.int (nI f.1)) ∧ (f.1 ≠ 0 ∧ (f.1 < 10 ∧ FLS X0 B f.2 Y))
  | .inr c2 => r = some (.int (nI 0)) ∧ NM X0 B c2 Y
theorem BgS_v {X0 Y : Mem} {B : Nat → Nat} {z : Sum (Nat × Nat) MS} {r : Option Value} (h : BgS X0 B z r Y) : ∃ v : Int32, r = some (.int v) := by
  cases z with
  | inl f => exact ⟨_, h.1⟩
  | inr c => exact ⟨_, h.1⟩
theorem dec_lt {a l : Nat} (ha : a < 2147483648) (hl : l < 2147483648) : decide (nI a < nI l) = decide (a < l) := by
  by_cases h : a < l
  · rw [decide_eq_true h, decide_eq_true ((nI_ltI ha hl).mpr h)]
  · rw [decide_eq_false h, decide_eq_false (fun z => h ((nI_ltI ha hl).mp z))]
theorem isIn_n {a l t : Nat} (ha : a < 2147483648) (hl : l < 2147483648) (ht : t < 2147483648) : isInB (nI a) (nI l) (nI t) = (decide (l ≤ a) && decide (a ≤ t)) := by
  unfold isInB
  rw [dec_lt ha hl, dec_lt ht ha]
  by_cases h1 : l ≤ a <;> by_cases h2 : a ≤ t
  · rw [decide_eq_false (show ¬ a < l by omega), decide_eq_false (show ¬ t < a by omega), decide_eq_true h1, decide_eq_true h2]; rfl
  · rw [decide_eq_false (show ¬ a < l by omega), decide_eq_true (show t < a by omega), decide_eq_true h1, decide_eq_false h2]; rfl
  · rw [decide_eq_true (show a < l by omega), decide_eq_false (show ¬ t < a by omega), decide_eq_false h1, decide_eq_true h2]; rfl
  · rw [decide_eq_true (show a < l by omega), decide_eq_true (show t < a by omega), decide_eq_false h1, decide_eq_false h2]; rfl
theorem S_R_openedS {X0 X : Mem} {mm j m : Nat} {B : Nat → Nat} {P : List (Nat × Nat)} (hB : okB B mm) (hV0 : RV X0 mm B) (hN : NS X0 B (stT B j) P m X) (i1 : m ≤ 8) (i2 : m = cnS P) (i3 : inS P) (h24 : X.1 244 24 = b2i false) {a D : Nat} (ha : a = 40 ∨ a = 50 ∨ a = 51) : CM 2 m_R_opened [.ref 244, .int (nI a)] X (BgS X0 B (opdS a j P m D)) := by
  have hpl := inS_le i3
  have hh := hdS_le P
  have hX := hN.1
  have hV := RV_V hN.2.2.2.2.2 hV0
  have hT := hN.2.1
  have hq := stT_le hB j
  have htr := tR_sm (q := stT B j) hB
  refine CM_of (L := [some (.ref 244), some (.int (nI a))]) 0 ok_R_opened (fun _ => Nat.le_of_ble_eq_true rfl) rfl ?_
  refine J_aload_n (i := 0) d_R_opened_0 rfl rfl ?_
  refine M_get (x := (nI m)) d_R_opened_1 f_R_223 rfl rfl hN.2.2.2.2.1 ?_
  refine J_bipush (v := nI 8) d_R_opened_4 rfl ?_
  refine N_icmp_ne (tgt := 11) d_R_opened_6 (by decide) (by omega) (by omega) (fun c6 => ?_) (fun c6 => ?_)
  · refine J_aload_n (i := 0) d_R_opened_11 rfl rfl ?_
    refine J_dup d_R_opened_12 rfl ?_
    refine M_get (x := (nI m)) d_R_opened_13 f_R_223 rfl rfl hN.2.2.2.2.1 ?_
    refine J_iconst (v := nI 1) d_R_opened_16 rfl ?_
    refine N_iadd d_R_opened_17 ?_
    refine M_put d_R_opened_18 p_R_223 rfl rfl rfl rfl ?_
    refine J_aload_n (i := 0) d_R_opened_21 rfl rfl ?_
    refine M_getR (b := 254) d_R_opened_22 f_R_44 rfl rfl rfl ?_
    refine J_aload_n (i := 0) d_R_opened_25 rfl rfl ?_
    refine M_get (x := (nI P.length)) d_R_opened_26 f_R_213 rfl rfl hN.2.2.1 ?_
    refine J_iload_n (i := 1) d_R_opened_29 rfl rfl ?_
    refine N_iast d_R_opened_30 rfl (by decide) (by omega) (ltL hX (a := 254) (n := 160) (by decide) rfl (by omega)) ?_
    refine J_aload_n (i := 0) d_R_opened_31 rfl rfl ?_
    refine J_dup d_R_opened_32 rfl ?_
    refine M_get (x := (nI P.length)) d_R_opened_33 f_R_213 rfl rfl hN.2.2.1 ?_
    refine J_iconst (v := nI 1) d_R_opened_36 rfl ?_
    refine N_iadd d_R_opened_37 ?_
    refine M_put d_R_opened_38 p_R_213 rfl rfl rfl rfl ?_
    refine J_aload_n (i := 0) d_R_opened_41 rfl rfl ?_
    have hA1 := NS_push (D := D) (NS_23 (n := m + 1) hN) ha (by omega)
    refine M_callV (av := []) d_R_opened_42 s_R_233 (M_rcv rfl (by decide) rfl) (S_R_nextToken hA1.1 hB (RV_V hA1.2.2.2.2.2 hV0) hA1.2.1.2.1 (eN_le hB (stT_le hB _))) (by decide) rfl rfl (Nat.le_of_ble_eq_true rfl) (fun r1 Y1 hq1 => ?_)
    obtain ⟨rfl, hY1, ho1, hT1⟩ := hq1
    obtain ⟨hN1, h24_1, h25_1⟩ := NS_nx hA1 hY1 ho1 hT1
    refine J_iconst (v := nI 0) d_R_opened_45 rfl ?_
    refine M_ir d_R_opened_46 rfl rfl ?_
    rw [show opdS a j P m D = .inr (j + 1, ((a, D) :: P, (m + 1, (false, D)))) from if_neg c6]
    exact ⟨rfl, hN1, h24_1.trans h24, fun z => by cases z⟩
  · refine J_iconst (v := nI 3) d_R_opened_9 rfl ?_
    refine M_ir d_R_opened_10 rfl rfl ?_
    rw [show opdS a j P m D = .inl (3, j) from if_pos c6]
    exact ⟨rfl, show (3 : Nat) ≠ 0 by decide, show (3 : Nat) < 10 by decide, NS_FS hN⟩

def nmF (B : Nat → Nat) (hi j : Nat) : Nat := if kT B (stT B (j + 1)) = 45 then (if hi < vC B (stT B (j + 1)) then 2 else 0) else 1
theorem S_R_numbered {X0 X : Mem} {mm j m : Nat} {B : Nat → Nat} {P : List (Nat × Nat)} (hB : okB B mm) (hV0 : RV X0 mm B) (hN : NS X0 B (stT B j) P m X) {hi : Nat} (hhi : hi < 100) : CM 2 m_R_numbered [.ref 244, .int (nI hi)] X (fun r Y => NS X0 B (stT B (j + 1)) P m Y ∧ (Y.1 244 24 = X.1 244 24 ∧ r = some (.int (nI (nmF B hi j))))) := by
  have hX := hN.1
  have hnr := nR_le hB (q := stT B (j + 1))
  have hnv := nv_le hB (q := stT B (j + 1))
  have htr := tR_sm (q := stT B (j + 1)) hB
  refine CM_of (L := [some (.ref 244), some (.int (nI hi))]) 0 ok_R_numbered (fun _ => Nat.le_of_ble_eq_true rfl) rfl ?_
  refine J_aload_n (i := 0) d_R_numbered_0 rfl rfl ?_
  have hA1 := hN
  refine M_callV (av := []) d_R_numbered_1 s_R_233 (M_rcv rfl (by decide) rfl) (S_R_nextToken hA1.1 hB (RV_V hA1.2.2.2.2.2 hV0) hA1.2.1.2.1 (eN_le hB (stT_le hB _))) (by decide) rfl rfl (Nat.le_of_ble_eq_true rfl) (fun r1 Y1 hq1 => ?_)
  obtain ⟨rfl, hY1, ho1, hT1⟩ := hq1
  obtain ⟨hN1, h24_1, h25_1⟩ := NS_nx hA1 hY1 ho1 hT1
  refine J_aload_n (i := 0) d_R_numbered_4 rfl rfl ?_
  refine M_get (x := (nI (tR B (stT B (j + 1))))) d_R_numbered_5 f_R_158 rfl rfl hN1.2.1.2.2.1 ?_
  refine J_iconst (v := nI 1) d_R_numbered_8 rfl ?_
  refine N_icmp_eq (tgt := 14) d_R_numbered_9 (by decide) (by omega) (by omega) (fun c9 => ?_) (fun c9 => ?_)
  · refine J_aload_n (i := 0) d_R_numbered_14 rfl rfl ?_
    refine M_get (x := (nI (nR B (stT B (j + 1))))) d_R_numbered_15 f_R_164 rfl rfl (hN1.2.1.2.2.2.1 c9) ?_
    refine J_iconst (v := nI 0) d_R_numbered_18 rfl ?_
    refine J_iload_n (i := 1) d_R_numbered_19 rfl rfl ?_
    refine CS_B (av := [.int (nI (nR B (stT B (j + 1)))), .int (nI 0), .int (nI hi)]) d_R_numbered_20 s_R_89 S_R_isIn (by decide) rfl rfl (Nat.le_of_ble_eq_true rfl) ?_
    rw [isIn_n (by omega) (by decide) (by omega), decide_eq_true (Nat.zero_le _), Bool.true_and]
    refine B_if_eq (tgt := 30) d_R_numbered_23 (by decide) (fun c23 => ?_) (fun c23 => ?_)
    · refine J_iconst (v := nI 2) d_R_numbered_30 rfl ?_
      refine M_ir d_R_numbered_31 rfl rfl ?_
      exact ⟨hN1, h24_1, congrArg (fun b => some (Value.int (nI b))) (show 2 = nmF B hi j from ((if_pos ((sg_of hB (p := (1, 45)) (by decide)).mp c9)).trans (if_pos (by have c := of_decide_eq_false c23; omega))).symm)⟩
    · refine J_iconst (v := nI 0) d_R_numbered_26 rfl ?_
      refine J_goto (tgt := 31) d_R_numbered_27 (by decide) ?_
      refine M_ir d_R_numbered_31 rfl rfl ?_
      exact ⟨hN1, h24_1, congrArg (fun b => some (Value.int (nI b))) (show 0 = nmF B hi j from ((if_pos ((sg_of hB (p := (1, 45)) (by decide)).mp c9)).trans (if_neg (by have c := of_decide_eq_true c23; omega))).symm)⟩
  · refine J_iconst (v := nI 1) d_R_numbered_12 rfl ?_
    refine M_ir d_R_numbered_13 rfl rfl ?_
    exact ⟨hN1, h24_1, congrArg (fun b => some (Value.int (nI b))) (show 1 = nmF B hi j from (if_neg (fun z => c9 ((sg_of hB (p := (1, 45)) (by decide)).mpr z))).symm)⟩

theorem numM_f {B : Nat → Nat} {hi j m : Nat} {P : List (Nat × Nat)} {f : Nat → Nat} (h : nmF B hi j ≠ 0) : numM (tkT B) hi j P m f = .inl (nmF B hi j, j + 1) ∧ nmF B hi j < 10 := by
  unfold nmF at h ⊢
  by_cases q1 : kT B (stT B (j + 1)) = 45
  · rw [if_pos q1] at h ⊢
    by_cases q2 : hi < vC B (stT B (j + 1))
    · rw [if_pos q2]
      exact ⟨(if_pos q1).trans (if_pos q2), by decide⟩
    · rw [if_neg q2] at h
      exact absurd rfl h
  · rw [if_neg q1]
    exact ⟨if_neg q1, by decide⟩
theorem numM_k {B : Nat → Nat} {mm hi j m : Nat} {P : List (Nat × Nat)} {f : Nat → Nat} (hB : okB B mm) (h : nmF B hi j = 0) (hhi : hi < 100) : numM (tkT B) hi j P m f = .inr (finP (j + 2) P m (f (nR B (stT B (j + 1))))) ∧ (tR B (stT B (j + 1)) = 1 ∧ nR B (stT B (j + 1)) ≤ hi) := by
  unfold nmF at h
  have hnv := nv_le hB (q := stT B (j + 1))
  by_cases q1 : kT B (stT B (j + 1)) = 45
  · rw [if_pos q1] at h
    by_cases q2 : hi < vC B (stT B (j + 1))
    · rw [if_pos q2] at h
      cases h
    · have e : vC B (stT B (j + 1)) = nR B (stT B (j + 1)) := by omega
      refine ⟨(if_pos q1).trans ((if_neg q2).trans (by rw [← e]; rfl)), (sg_of hB (p := (1, 45)) (by decide)).mpr q1, by omega⟩
  · rw [if_neg q1] at h
    cases h
theorem nmF_s {B : Nat → Nat} {hi j : Nat} : nmF B hi j < 10 := by
  unfold nmF
  repeat' split
  all_goals decide
theorem sh_1 : ∀ x, x ≤ 19 → 1 <<< x < 1048576 := by decide
theorem sh_3 : ∀ x, x ≤ 2 → 3 <<< (2 * x) < 1048576 := by decide
theorem sh_9 : ∀ x, x ≤ 2 → 9 <<< (6 + x) < 1048576 := by decide
theorem sh_96 : ∀ x, x ≤ 2 → 576 <<< x = 9 <<< (6 + x) := by decide
theorem S_R_numberedPart_0 {X0 X : Mem} {mm j m : Nat} {B : Nat → Nat} {P : List (Nat × Nat)} (hB : okB B mm) (hV0 : RV X0 mm B) (hN : NS X0 B (stT B j) P m X) (i1 : m ≤ 8) (i2 : m = cnS P) (i3 : inS P) : CM 3 m_R_numberedPart [.ref 244, .int (nI 19), .int (b2i false), .int (b2i false)] X (BgS X0 B (numM (tkT B) 19 j P m (fun x => 1 <<< x))) := by
  have hpl := inS_le i3
  have hh := hdS_le P
  have hX := hN.1
  have hV := RV_V hN.2.2.2.2.2 hV0
  have hT := hN.2.1
  have hq := stT_le hB j
  have htr := tR_sm (q := stT B j) hB
  have hnf := nmF_s (B := B) (hi := 19) (j := j)
  refine CM_of (L := [some (.ref 244), some (.int (nI 19)), some (.int (b2i false)), some (.int (b2i false)), none, none]) 2 ok_R_numberedPart (fun _ => Nat.le_of_ble_eq_true rfl) rfl ?_
  refine J_aload_n (i := 0) d_R_numberedPart_0 rfl rfl ?_
  refine J_iload_n (i := 1) d_R_numberedPart_1 rfl rfl ?_
  refine M_callV (av := [.int (nI 19)]) d_R_numberedPart_2 s_R_279 (M_rcv rfl (by decide) rfl) (S_R_numbered (hi := 19) hB hV0 hN (by decide)) (by decide) rfl rfl (Nat.le_of_ble_eq_true rfl) (fun r1 Y1 hq1 => ?_)
  obtain ⟨hN1, h24_1, rfl⟩ := hq1
  refine J_istore (L1 := [some (.ref 244), some (.int (nI 19)), some (.int (b2i false)), some (.int (b2i false)), some (.int (nI (nmF B 19 j))), none]) d_R_numberedPart_5 (by decide) rfl ?_
  refine J_iload d_R_numberedPart_7 rfl ?_
  refine N_if_eq (tgt := 15) d_R_numberedPart_9 (by decide) (by omega) (fun c9 => ?_) (fun c9 => ?_)
  · have hk := numM_k (P := P) (m := m) (f := (fun x => 1 <<< x)) hB (show nmF B 19 j = 0 by omega) (by decide)
    obtain ⟨hk1, hk2, hk3⟩ := hk
    refine J_iload_n (i := 2) d_R_numberedPart_15 rfl rfl ?_
    refine B_if_eq (tgt := 30) d_R_numberedPart_16 (by decide) (fun c16 => ?_) (fun c16 => absurd c16 (by decide))
    refine J_iload_n (i := 3) d_R_numberedPart_30 rfl rfl ?_
    refine B_if_eq (tgt := 45) d_R_numberedPart_31 (by decide) (fun c31 => ?_) (fun c31 => absurd c31 (by decide))
    refine J_iconst (v := nI 1) d_R_numberedPart_45 rfl ?_
    refine J_aload_n (i := 0) d_R_numberedPart_46 rfl rfl ?_
    refine M_get (x := (nI (nR B (stT B (j + 1))))) d_R_numberedPart_47 f_R_164 rfl rfl (hN1.2.1.2.2.2.1 hk2) ?_
    refine N_ishl d_R_numberedPart_50 (by omega) ?_
    refine J_istore (L1 := [some (.ref 244), some (.int (nI 19)), some (.int (b2i false)), some (.int (b2i false)), some (.int (nI (nmF B 19 j))), some (.int (nI (1 <<< (nR B (stT B (j + 1))))))]) d_R_numberedPart_51 (by decide) rfl ?_
    refine J_aload_n (i := 0) d_R_numberedPart_53 rfl rfl ?_
    have hA2 := hN1
    refine M_callV (av := []) d_R_numberedPart_54 s_R_233 (M_rcv rfl (by decide) rfl) (S_R_nextToken hA2.1 hB (RV_V hA2.2.2.2.2.2 hV0) hA2.2.1.2.1 (eN_le hB (stT_le hB _))) (by decide) rfl rfl (Nat.le_of_ble_eq_true rfl) (fun r2 Y2 hq2 => ?_)
    obtain ⟨rfl, hY2, ho2, hT2⟩ := hq2
    obtain ⟨hN2, h24_2, h25_2⟩ := NS_nx hA2 hY2 ho2 hT2
    refine J_aload_n (i := 0) d_R_numberedPart_57 rfl rfl ?_
    refine J_iload d_R_numberedPart_58 rfl ?_
    refine M_callV (av := [.int (nI (1 <<< (nR B (stT B (j + 1)))))]) d_R_numberedPart_60 s_R_282 (M_rcv rfl (by decide) rfl) (S_R_endPart (D := (1 <<< (nR B (stT B (j + 1))))) hN2 (sh_1 _ hk3) (by omega) (by omega) (by omega)) (by decide) rfl rfl (Nat.le_of_ble_eq_true rfl) (fun r3 Y3 hq3 => ?_)
    obtain ⟨rfl, hN3, h24_3, h25_3, hD3⟩ := hq3
    refine J_iconst (v := nI 0) d_R_numberedPart_63 rfl ?_
    refine M_ir d_R_numberedPart_64 rfl rfl ?_
    rw [hk1]
    exact ⟨rfl, hN3, h24_3, fun _ => ⟨h25_3, hD3⟩⟩
  · refine J_iload d_R_numberedPart_12 rfl ?_
    refine M_ir d_R_numberedPart_14 rfl rfl ?_
    have hf := numM_f (P := P) (m := m) (f := (fun x => 1 <<< x)) c9
    rw [hf.1]
    exact ⟨rfl, c9, hf.2, NS_FS hN1⟩

theorem S_R_numberedPart_1 {X0 X : Mem} {mm j m : Nat} {B : Nat → Nat} {P : List (Nat × Nat)} (hB : okB B mm) (hV0 : RV X0 mm B) (hN : NS X0 B (stT B j) P m X) (i1 : m ≤ 8) (i2 : m = cnS P) (i3 : inS P) : CM 3 m_R_numberedPart [.ref 244, .int (nI 2), .int (b2i true), .int (b2i false)] X (BgS X0 B (numM (tkT B) 2 j P m (fun x => 3 <<< (2 * x)))) := by
  have hpl := inS_le i3
  have hh := hdS_le P
  have hX := hN.1
  have hV := RV_V hN.2.2.2.2.2 hV0
  have hT := hN.2.1
  have hq := stT_le hB j
  have htr := tR_sm (q := stT B j) hB
  have hnf := nmF_s (B := B) (hi := 2) (j := j)
  refine CM_of (L := [some (.ref 244), some (.int (nI 2)), some (.int (b2i true)), some (.int (b2i false)), none, none]) 2 ok_R_numberedPart (fun _ => Nat.le_of_ble_eq_true rfl) rfl ?_
  refine J_aload_n (i := 0) d_R_numberedPart_0 rfl rfl ?_
  refine J_iload_n (i := 1) d_R_numberedPart_1 rfl rfl ?_
  refine M_callV (av := [.int (nI 2)]) d_R_numberedPart_2 s_R_279 (M_rcv rfl (by decide) rfl) (S_R_numbered (hi := 2) hB hV0 hN (by decide)) (by decide) rfl rfl (Nat.le_of_ble_eq_true rfl) (fun r1 Y1 hq1 => ?_)
  obtain ⟨hN1, h24_1, rfl⟩ := hq1
  refine J_istore (L1 := [some (.ref 244), some (.int (nI 2)), some (.int (b2i true)), some (.int (b2i false)), some (.int (nI (nmF B 2 j))), none]) d_R_numberedPart_5 (by decide) rfl ?_
  refine J_iload d_R_numberedPart_7 rfl ?_
  refine N_if_eq (tgt := 15) d_R_numberedPart_9 (by decide) (by omega) (fun c9 => ?_) (fun c9 => ?_)
  · have hk := numM_k (P := P) (m := m) (f := (fun x => 3 <<< (2 * x))) hB (show nmF B 2 j = 0 by omega) (by decide)
    obtain ⟨hk1, hk2, hk3⟩ := hk
    refine J_iload_n (i := 2) d_R_numberedPart_15 rfl rfl ?_
    refine B_if_eq (tgt := 30) d_R_numberedPart_16 (by decide) (fun c16 => absurd c16 (by decide)) (fun c16 => ?_)
    refine J_iconst (v := nI 3) d_R_numberedPart_19 rfl ?_
    refine J_iconst (v := nI 2) d_R_numberedPart_20 rfl ?_
    refine J_aload_n (i := 0) d_R_numberedPart_21 rfl rfl ?_
    refine M_get (x := (nI (nR B (stT B (j + 1))))) d_R_numberedPart_22 f_R_164 rfl rfl (hN1.2.1.2.2.2.1 hk2) ?_
    refine N_imul d_R_numberedPart_25 ?_
    refine N_ishl d_R_numberedPart_26 (by omega) ?_
    refine J_goto (tgt := 51) d_R_numberedPart_27 (by decide) ?_
    refine J_istore (L1 := [some (.ref 244), some (.int (nI 2)), some (.int (b2i true)), some (.int (b2i false)), some (.int (nI (nmF B 2 j))), some (.int (nI (3 <<< (2 * (nR B (stT B (j + 1)))))))]) d_R_numberedPart_51 (by decide) rfl ?_
    refine J_aload_n (i := 0) d_R_numberedPart_53 rfl rfl ?_
    have hA2 := hN1
    refine M_callV (av := []) d_R_numberedPart_54 s_R_233 (M_rcv rfl (by decide) rfl) (S_R_nextToken hA2.1 hB (RV_V hA2.2.2.2.2.2 hV0) hA2.2.1.2.1 (eN_le hB (stT_le hB _))) (by decide) rfl rfl (Nat.le_of_ble_eq_true rfl) (fun r2 Y2 hq2 => ?_)
    obtain ⟨rfl, hY2, ho2, hT2⟩ := hq2
    obtain ⟨hN2, h24_2, h25_2⟩ := NS_nx hA2 hY2 ho2 hT2
    refine J_aload_n (i := 0) d_R_numberedPart_57 rfl rfl ?_
    refine J_iload d_R_numberedPart_58 rfl ?_
    refine M_callV (av := [.int (nI (3 <<< (2 * (nR B (stT B (j + 1))))))]) d_R_numberedPart_60 s_R_282 (M_rcv rfl (by decide) rfl) (S_R_endPart (D := (3 <<< (2 * (nR B (stT B (j + 1)))))) hN2 (sh_3 _ hk3) (by omega) (by omega) (by omega)) (by decide) rfl rfl (Nat.le_of_ble_eq_true rfl) (fun r3 Y3 hq3 => ?_)
    obtain ⟨rfl, hN3, h24_3, h25_3, hD3⟩ := hq3
    refine J_iconst (v := nI 0) d_R_numberedPart_63 rfl ?_
    refine M_ir d_R_numberedPart_64 rfl rfl ?_
    rw [hk1]
    exact ⟨rfl, hN3, h24_3, fun _ => ⟨h25_3, hD3⟩⟩
  · refine J_iload d_R_numberedPart_12 rfl ?_
    refine M_ir d_R_numberedPart_14 rfl rfl ?_
    have hf := numM_f (P := P) (m := m) (f := (fun x => 3 <<< (2 * x))) c9
    rw [hf.1]
    exact ⟨rfl, c9, hf.2, NS_FS hN1⟩

theorem S_R_numberedPart_2 {X0 X : Mem} {mm j m : Nat} {B : Nat → Nat} {P : List (Nat × Nat)} (hB : okB B mm) (hV0 : RV X0 mm B) (hN : NS X0 B (stT B j) P m X) (i1 : m ≤ 8) (i2 : m = cnS P) (i3 : inS P) : CM 3 m_R_numberedPart [.ref 244, .int (nI 2), .int (b2i false), .int (b2i true)] X (BgS X0 B (numM (tkT B) 2 j P m (fun x => 9 <<< (6 + x)))) := by
  have hpl := inS_le i3
  have hh := hdS_le P
  have hX := hN.1
  have hV := RV_V hN.2.2.2.2.2 hV0
  have hT := hN.2.1
  have hq := stT_le hB j
  have htr := tR_sm (q := stT B j) hB
  have hnf := nmF_s (B := B) (hi := 2) (j := j)
  refine CM_of (L := [some (.ref 244), some (.int (nI 2)), some (.int (b2i false)), some (.int (b2i true)), none, none]) 2 ok_R_numberedPart (fun _ => Nat.le_of_ble_eq_true rfl) rfl ?_
  refine J_aload_n (i := 0) d_R_numberedPart_0 rfl rfl ?_
  refine J_iload_n (i := 1) d_R_numberedPart_1 rfl rfl ?_
  refine M_callV (av := [.int (nI 2)]) d_R_numberedPart_2 s_R_279 (M_rcv rfl (by decide) rfl) (S_R_numbered (hi := 2) hB hV0 hN (by decide)) (by decide) rfl rfl (Nat.le_of_ble_eq_true rfl) (fun r1 Y1 hq1 => ?_)
  obtain ⟨hN1, h24_1, rfl⟩ := hq1
  refine J_istore (L1 := [some (.ref 244), some (.int (nI 2)), some (.int (b2i false)), some (.int (b2i true)), some (.int (nI (nmF B 2 j))), none]) d_R_numberedPart_5 (by decide) rfl ?_
  refine J_iload d_R_numberedPart_7 rfl ?_
  refine N_if_eq (tgt := 15) d_R_numberedPart_9 (by decide) (by omega) (fun c9 => ?_) (fun c9 => ?_)
  · have hk := numM_k (P := P) (m := m) (f := (fun x => 9 <<< (6 + x))) hB (show nmF B 2 j = 0 by omega) (by decide)
    obtain ⟨hk1, hk2, hk3⟩ := hk
    refine J_iload_n (i := 2) d_R_numberedPart_15 rfl rfl ?_
    refine B_if_eq (tgt := 30) d_R_numberedPart_16 (by decide) (fun c16 => ?_) (fun c16 => absurd c16 (by decide))
    refine J_iload_n (i := 3) d_R_numberedPart_30 rfl rfl ?_
    refine B_if_eq (tgt := 45) d_R_numberedPart_31 (by decide) (fun c31 => absurd c31 (by decide)) (fun c31 => ?_)
    refine J_sipush (v := nI 576) d_R_numberedPart_34 rfl ?_
    refine J_aload_n (i := 0) d_R_numberedPart_37 rfl rfl ?_
    refine M_get (x := (nI (nR B (stT B (j + 1))))) d_R_numberedPart_38 f_R_164 rfl rfl (hN1.2.1.2.2.2.1 hk2) ?_
    refine N_ishl d_R_numberedPart_41 (by omega) ?_
    refine J_goto (tgt := 51) d_R_numberedPart_42 (by decide) ?_
    refine J_istore (L1 := [some (.ref 244), some (.int (nI 2)), some (.int (b2i false)), some (.int (b2i true)), some (.int (nI (nmF B 2 j))), some (.int (nI (576 <<< (nR B (stT B (j + 1))))))]) d_R_numberedPart_51 (by decide) rfl ?_
    refine J_aload_n (i := 0) d_R_numberedPart_53 rfl rfl ?_
    have hA2 := hN1
    refine M_callV (av := []) d_R_numberedPart_54 s_R_233 (M_rcv rfl (by decide) rfl) (S_R_nextToken hA2.1 hB (RV_V hA2.2.2.2.2.2 hV0) hA2.2.1.2.1 (eN_le hB (stT_le hB _))) (by decide) rfl rfl (Nat.le_of_ble_eq_true rfl) (fun r2 Y2 hq2 => ?_)
    obtain ⟨rfl, hY2, ho2, hT2⟩ := hq2
    obtain ⟨hN2, h24_2, h25_2⟩ := NS_nx hA2 hY2 ho2 hT2
    rw [show 576 <<< (nR B (stT B (j + 1))) = 9 <<< (6 + (nR B (stT B (j + 1)))) from sh_96 _ hk3]
    refine J_aload_n (i := 0) d_R_numberedPart_57 rfl rfl ?_
    refine J_iload d_R_numberedPart_58 rfl ?_
    refine M_callV (av := [.int (nI (9 <<< (6 + (nR B (stT B (j + 1))))))]) d_R_numberedPart_60 s_R_282 (M_rcv rfl (by decide) rfl) (S_R_endPart (D := (9 <<< (6 + (nR B (stT B (j + 1)))))) hN2 (sh_9 _ hk3) (by omega) (by omega) (by omega)) (by decide) rfl rfl (Nat.le_of_ble_eq_true rfl) (fun r3 Y3 hq3 => ?_)
    obtain ⟨rfl, hN3, h24_3, h25_3, hD3⟩ := hq3
    refine J_iconst (v := nI 0) d_R_numberedPart_63 rfl ?_
    refine M_ir d_R_numberedPart_64 rfl rfl ?_
    rw [hk1]
    exact ⟨rfl, hN3, h24_3, fun _ => ⟨h25_3, hD3⟩⟩
  · refine J_iload d_R_numberedPart_12 rfl ?_
    refine M_ir d_R_numberedPart_14 rfl rfl ?_
    have hf := numM_f (P := P) (m := m) (f := (fun x => 9 <<< (6 + x))) c9
    rw [hf.1]
    exact ⟨rfl, c9, hf.2, NS_FS hN1⟩

