theorem inR_of {v : Int32} {n : Nat} (hn : n + 1 < 2147483648) (h0 : ¬ v < 0) (h1 : ¬ nI (n + 1) ≤ v) : inR v n = true := by
  obtain ⟨j, hj, rfl⟩ := nI_of h0
  have : ¬ n + 1 ≤ j := fun q => h1 ((nI_leI hn hj).mpr q)
  rw [inR_nI hj (by omega)]
  exact decide_eq_true (by omega)
theorem inR_no1 {v : Int32} {n : Nat} (h0 : v < 0) : inR v n = false := by
  have : v < nI 0 := h0
  simp [isInB, this]
theorem inR_no2 {v : Int32} {n : Nat} (hn : n + 1 < 2147483648) (h0 : ¬ v < 0) (h1 : nI (n + 1) ≤ v) : inR v n = false := by
  obtain ⟨j, hj, rfl⟩ := nI_of h0
  have : n + 1 ≤ j := (nI_leI hn hj).mp h1
  rw [inR_nI hj (by omega)]
  exact decide_eq_false (by omega)
theorem S_O_isSet {X : Mem} {v : Int32} : CM 0 m_O_isSet [.int v] X (rB (inR v 1048575) X) := by
  refine CM_of (L := [some (.int v)]) 0 ok_O_isSet (fun _ => Nat.le_of_ble_eq_true rfl) rfl ?_
  refine J_iload_n (i := 0) d_O_isSet_0 rfl rfl ?_
  refine J_if_lt (tgt := 15) d_O_isSet_1 (by decide) (fun c1 => ?_) (fun c1 => ?_)
  · refine J_iconst (v := nI 0) d_O_isSet_15 rfl ?_
    refine J.eq (st1 := [.int (b2i false)]) ?_ rfl rfl rfl
    refine M_ir d_O_isSet_16 rfl b2i_nar ?_
    exact ⟨by first | (rw [inR_of (n := 1048575) (by decide) c1 c1] <;> rfl) | (rw [inR_no2 (n := 1048575) (by decide) c1 c1] <;> rfl) | (rw [inR_no1 (n := 1048575) c1] <;> rfl), rfl⟩
  · refine J_iload_n (i := 0) d_O_isSet_4 rfl rfl ?_
    refine J_ldcw d_O_isSet_5 w_O_345 ?_
    refine I_ton (n := 1048576) rfl ?_
    refine J_icmp_ge (tgt := 15) d_O_isSet_8 (by decide) (fun c8 => ?_) (fun c8 => ?_)
    · refine J_iconst (v := nI 0) d_O_isSet_15 rfl ?_
      refine J.eq (st1 := [.int (b2i false)]) ?_ rfl rfl rfl
      refine M_ir d_O_isSet_16 rfl b2i_nar ?_
      exact ⟨by first | (rw [inR_of (n := 1048575) (by decide) c1 c8] <;> rfl) | (rw [inR_no2 (n := 1048575) (by decide) c1 c8] <;> rfl) | (rw [inR_no1 (n := 1048575) c1] <;> rfl), rfl⟩
    · refine J_iconst (v := nI 1) d_O_isSet_11 rfl ?_
      refine J_goto (tgt := 16) d_O_isSet_12 (by decide) ?_
      refine J.eq (st1 := [.int (b2i true)]) ?_ rfl rfl rfl
      refine M_ir d_O_isSet_16 rfl b2i_nar ?_
      exact ⟨by first | (rw [inR_of (n := 1048575) (by decide) c1 c8] <;> rfl) | (rw [inR_no2 (n := 1048575) (by decide) c1 c8] <;> rfl) | (rw [inR_no1 (n := 1048575) c1] <;> rfl), rfl⟩

theorem S_O_isWay {X : Mem} {v : Int32} : CM 0 m_O_isWay [.int v] X (rB (inR v 7) X) := by
  refine CM_of (L := [some (.int v)]) 0 ok_O_isWay (fun _ => Nat.le_of_ble_eq_true rfl) rfl ?_
  refine J_iload_n (i := 0) d_O_isWay_0 rfl rfl ?_
  refine J_if_lt (tgt := 14) d_O_isWay_1 (by decide) (fun c1 => ?_) (fun c1 => ?_)
  · refine J_iconst (v := nI 0) d_O_isWay_14 rfl ?_
    refine J.eq (st1 := [.int (b2i false)]) ?_ rfl rfl rfl
    refine M_ir d_O_isWay_15 rfl b2i_nar ?_
    exact ⟨by first | (rw [inR_of (n := 7) (by decide) c1 c1] <;> rfl) | (rw [inR_no2 (n := 7) (by decide) c1 c1] <;> rfl) | (rw [inR_no1 (n := 7) c1] <;> rfl), rfl⟩
  · refine J_iload_n (i := 0) d_O_isWay_4 rfl rfl ?_
    refine J_bipush (v := nI 8) d_O_isWay_5 rfl ?_
    refine J_icmp_ge (tgt := 14) d_O_isWay_7 (by decide) (fun c7 => ?_) (fun c7 => ?_)
    · refine J_iconst (v := nI 0) d_O_isWay_14 rfl ?_
      refine J.eq (st1 := [.int (b2i false)]) ?_ rfl rfl rfl
      refine M_ir d_O_isWay_15 rfl b2i_nar ?_
      exact ⟨by first | (rw [inR_of (n := 7) (by decide) c1 c7] <;> rfl) | (rw [inR_no2 (n := 7) (by decide) c1 c7] <;> rfl) | (rw [inR_no1 (n := 7) c1] <;> rfl), rfl⟩
    · refine J_iconst (v := nI 1) d_O_isWay_10 rfl ?_
      refine J_goto (tgt := 15) d_O_isWay_11 (by decide) ?_
      refine J.eq (st1 := [.int (b2i true)]) ?_ rfl rfl rfl
      refine M_ir d_O_isWay_15 rfl b2i_nar ?_
      exact ⟨by first | (rw [inR_of (n := 7) (by decide) c1 c7] <;> rfl) | (rw [inR_no2 (n := 7) (by decide) c1 c7] <;> rfl) | (rw [inR_no1 (n := 7) c1] <;> rfl), rfl⟩

theorem S_O_isPoint {X : Mem} {v : Int32} : CM 0 m_O_isPoint [.int v] X (rB (inR v 8) X) := by
  refine CM_of (L := [some (.int v)]) 0 ok_O_isPoint (fun _ => Nat.le_of_ble_eq_true rfl) rfl ?_
  refine J_iload_n (i := 0) d_O_isPoint_0 rfl rfl ?_
  refine J_if_lt (tgt := 14) d_O_isPoint_1 (by decide) (fun c1 => ?_) (fun c1 => ?_)
  · refine J_iconst (v := nI 0) d_O_isPoint_14 rfl ?_
    refine J.eq (st1 := [.int (b2i false)]) ?_ rfl rfl rfl
    refine M_ir d_O_isPoint_15 rfl b2i_nar ?_
    exact ⟨by first | (rw [inR_of (n := 8) (by decide) c1 c1] <;> rfl) | (rw [inR_no2 (n := 8) (by decide) c1 c1] <;> rfl) | (rw [inR_no1 (n := 8) c1] <;> rfl), rfl⟩
  · refine J_iload_n (i := 0) d_O_isPoint_4 rfl rfl ?_
    refine J_bipush (v := nI 9) d_O_isPoint_5 rfl ?_
    refine J_icmp_ge (tgt := 14) d_O_isPoint_7 (by decide) (fun c7 => ?_) (fun c7 => ?_)
    · refine J_iconst (v := nI 0) d_O_isPoint_14 rfl ?_
      refine J.eq (st1 := [.int (b2i false)]) ?_ rfl rfl rfl
      refine M_ir d_O_isPoint_15 rfl b2i_nar ?_
      exact ⟨by first | (rw [inR_of (n := 8) (by decide) c1 c7] <;> rfl) | (rw [inR_no2 (n := 8) (by decide) c1 c7] <;> rfl) | (rw [inR_no1 (n := 8) c1] <;> rfl), rfl⟩
    · refine J_iconst (v := nI 1) d_O_isPoint_10 rfl ?_
      refine J_goto (tgt := 15) d_O_isPoint_11 (by decide) ?_
      refine J.eq (st1 := [.int (b2i true)]) ?_ rfl rfl rfl
      refine M_ir d_O_isPoint_15 rfl b2i_nar ?_
      exact ⟨by first | (rw [inR_of (n := 8) (by decide) c1 c7] <;> rfl) | (rw [inR_no2 (n := 8) (by decide) c1 c7] <;> rfl) | (rw [inR_no1 (n := 8) c1] <;> rfl), rfl⟩

theorem S_O_isStroke {X : Mem} {v : Int32} : CM 0 m_O_isStroke [.int v] X (rB (inR v 19) X) := by
  refine CM_of (L := [some (.int v)]) 0 ok_O_isStroke (fun _ => Nat.le_of_ble_eq_true rfl) rfl ?_
  refine J_iload_n (i := 0) d_O_isStroke_0 rfl rfl ?_
  refine J_if_lt (tgt := 14) d_O_isStroke_1 (by decide) (fun c1 => ?_) (fun c1 => ?_)
  · refine J_iconst (v := nI 0) d_O_isStroke_14 rfl ?_
    refine J.eq (st1 := [.int (b2i false)]) ?_ rfl rfl rfl
    refine M_ir d_O_isStroke_15 rfl b2i_nar ?_
    exact ⟨by first | (rw [inR_of (n := 19) (by decide) c1 c1] <;> rfl) | (rw [inR_no2 (n := 19) (by decide) c1 c1] <;> rfl) | (rw [inR_no1 (n := 19) c1] <;> rfl), rfl⟩
  · refine J_iload_n (i := 0) d_O_isStroke_4 rfl rfl ?_
    refine J_bipush (v := nI 20) d_O_isStroke_5 rfl ?_
    refine J_icmp_ge (tgt := 14) d_O_isStroke_7 (by decide) (fun c7 => ?_) (fun c7 => ?_)
    · refine J_iconst (v := nI 0) d_O_isStroke_14 rfl ?_
      refine J.eq (st1 := [.int (b2i false)]) ?_ rfl rfl rfl
      refine M_ir d_O_isStroke_15 rfl b2i_nar ?_
      exact ⟨by first | (rw [inR_of (n := 19) (by decide) c1 c7] <;> rfl) | (rw [inR_no2 (n := 19) (by decide) c1 c7] <;> rfl) | (rw [inR_no1 (n := 19) c1] <;> rfl), rfl⟩
    · refine J_iconst (v := nI 1) d_O_isStroke_10 rfl ?_
      refine J_goto (tgt := 15) d_O_isStroke_11 (by decide) ?_
      refine J.eq (st1 := [.int (b2i true)]) ?_ rfl rfl rfl
      refine M_ir d_O_isStroke_15 rfl b2i_nar ?_
      exact ⟨by first | (rw [inR_of (n := 19) (by decide) c1 c7] <;> rfl) | (rw [inR_no2 (n := 19) (by decide) c1 c7] <;> rfl) | (rw [inR_no1 (n := 19) c1] <;> rfl), rfl⟩

theorem sof_hit : ∀ a, a < 9 → ∀ b, b < 9 → ∀ i, i < 20 → POL.getD i 0 = 1 <<< a ||| 1 <<< b → SOFL.getD (9 * a + b) 0 = i := by decide +kernel
theorem sof_no : ∀ a, a < 9 → ∀ b, b < 9 → (∀ i, i < 20 → ¬ POL.getD i 0 = 1 <<< a ||| 1 <<< b) → SOFL.getD (9 * a + b) 0 = 20 := by decide +kernel
theorem oI_lt {i : Nat} (h : i < 20) : oI i = nI i := if_neg (by omega)
theorem lp_K_between {X : Mem} {a b : Nat} {Q : Option Value → Mem → Prop} (hX : Ok X) (ha : a < 9) (hb : b < 9) (kq : Q (some (.int (oI (SOFL.getD (9 * a + b) 0)))) X) : ∀ (n i : Nat), i + n = 20 → (∀ k, k < i → ¬ POL.getD k 0 = 1 <<< a ||| 1 <<< b) → JM 0 m_K_between Q 10 [some (.int (nI a)), some (.int (nI b)), some (.int (nI (1 <<< a ||| 1 <<< b))), some (.int (nI i))] [] X := by
  have hm := Nat.lt_trans (or_lt 9 (sh_lt ha (by decide)) (sh_lt hb (by decide))) (show 2 ^ 9 < 2147483648 by decide)
  intro n
  induction n with
  | zero =>
    intro i hi hk
    obtain rfl : i = 20 := by omega
    refine J_iload_n (i := 3) d_K_between_10 rfl rfl ?_
    refine J_bipush (v := nI 20) d_K_between_11 rfl ?_
    refine N_icmp_ge (tgt := 33) d_K_between_13 (by decide) (by omega) (by omega) (fun c13 => ?_) (fun c13 => absurd c13 (by omega))
    refine J_iconst (v := (-1)) d_K_between_33 rfl ?_
    refine M_ir d_K_between_34 rfl rfl ?_
    exact (show oI (SOFL.getD (9 * a + b) 0) = -1 by rw [sof_no a ha b hb hk]; rfl) ▸ kq
  | succ n ih =>
    intro i hi hk
    refine J_iload_n (i := 3) d_K_between_10 rfl rfl ?_
    refine J_bipush (v := nI 20) d_K_between_11 rfl ?_
    refine N_icmp_ge (tgt := 33) d_K_between_13 (by decide) (by omega) (by omega) (fun c13 => absurd c13 (by omega)) (fun c13 => ?_)
    refine J_gets (v := .ref 1) d_K_between_16 Fx_z1 w_K_9 ?_
    refine J_iload_n (i := 3) d_K_between_19 rfl rfl ?_
    refine N_iald (x := (nI (POL.getD i 0))) d_K_between_20 rfl (by omega) (ltL hX (a := 1) (n := 20) (by decide) rfl (by omega)) (k_po hX) ?_
    refine J_iload_n (i := 2) d_K_between_21 rfl rfl ?_
    refine N_icmp_ne (tgt := 27) d_K_between_22 (by decide) (by first | omega | exact Nat.lt_trans po_lt (by decide)) (by first | omega | exact Nat.lt_trans po_lt (by decide)) (fun c22 => ?_) (fun c22 => ?_)
    · refine N_iinc (a := i) (c := 1) (L1 := [some (.int (nI a)), some (.int (nI b)), some (.int (nI (1 <<< a ||| 1 <<< b))), some (.int (nI (i + 1)))]) d_K_between_27 rfl rfl (by decide) rfl ?_
      refine J_goto (tgt := 10) d_K_between_30 (by decide) ?_
      exact ih (i + 1) (by omega) (fun k q => by rcases Nat.lt_or_ge k i with z | z; exact hk k z; rw [show k = i by omega]; exact c22)
    · refine J_iload_n (i := 3) d_K_between_25 rfl rfl ?_
      refine M_ir d_K_between_26 rfl rfl ?_
      exact (show oI (SOFL.getD (9 * a + b) 0) = nI i by rw [sof_hit a ha b hb i (by omega) c22, oI_lt (by omega)]) ▸ kq
theorem S_K_between {X : Mem} {a b : Nat} (hX : Ok X) (ha : a < 9) (hb : b < 9) : CM 0 m_K_between [.int (nI a), .int (nI b)] X (rI (oI (SOFL.getD (9 * a + b) 0)) X) := by
  refine CM_of (L := [some (.int (nI a)), some (.int (nI b)), none, none]) 2 ok_K_between (fun _ => Nat.le_of_ble_eq_true rfl) rfl ?_
  refine J_iconst (v := nI 1) d_K_between_0 rfl ?_
  refine J_iload_n (i := 0) d_K_between_1 rfl rfl ?_
  refine N_ishl d_K_between_2 (by omega) ?_
  refine J_iconst (v := nI 1) d_K_between_3 rfl ?_
  refine J_iload_n (i := 1) d_K_between_4 rfl rfl ?_
  refine N_ishl d_K_between_5 (by omega) ?_
  refine N_ior d_K_between_6 ?_
  refine J_istore_n (i := 2) (L1 := [some (.int (nI a)), some (.int (nI b)), some (.int (nI ((1 <<< a) ||| (1 <<< b)))), none]) d_K_between_7 rfl (by decide) rfl ?_
  refine J_iconst (v := nI 0) d_K_between_8 rfl ?_
  refine J_istore_n (i := 3) (L1 := [some (.int (nI a)), some (.int (nI b)), some (.int (nI ((1 <<< a) ||| (1 <<< b)))), some (.int (nI 0))]) d_K_between_9 rfl (by decide) rfl ?_
  exact lp_K_between hX ha hb ⟨rfl, rfl⟩ 20 0 (by omega) (fun k q => by omega)

theorem S_O_drawn {X : Mem} (hX : Ok X) {a b : Int32} : CM 1 m_O_drawn [.ref 8, .int a, .int b] X (rI (drawnF a b) X) := by
  refine CM_of (L := [some (.ref 8), some (.int a), some (.int b)]) 0 ok_O_drawn (fun _ => Nat.le_of_ble_eq_true rfl) rfl ?_
  refine J_iload_n (i := 1) d_O_drawn_0 rfl rfl ?_
  refine CS_B (av := [.int a]) d_O_drawn_1 s_O_221 (S_O_isPoint) (by decide) rfl rfl (Nat.le_of_ble_eq_true rfl) ?_
  refine B_if_eq (tgt := 22) d_O_drawn_4 (by decide) (fun c4 => ?_) (fun c4 => ?_)
  · refine J_iconst (v := (-1)) d_O_drawn_22 rfl ?_
    refine M_ir d_O_drawn_23 rfl rfl ?_
    exact ⟨by simp [drawnF, c4], rfl⟩
  · refine J_iload_n (i := 2) d_O_drawn_7 rfl rfl ?_
    refine CS_B (av := [.int b]) d_O_drawn_8 s_O_221 (S_O_isPoint) (by decide) rfl rfl (Nat.le_of_ble_eq_true rfl) ?_
    refine B_if_eq (tgt := 22) d_O_drawn_11 (by decide) (fun c11 => ?_) (fun c11 => ?_)
    · refine J_iconst (v := (-1)) d_O_drawn_22 rfl ?_
      refine M_ir d_O_drawn_23 rfl rfl ?_
      exact ⟨by simp [drawnF, c4, c11], rfl⟩
    · obtain ⟨a_, ha_, rfl⟩ := inR_n (n := 8) c4 (by decide)
      obtain ⟨b_, hb_, rfl⟩ := inR_n (n := 8) c11 (by decide)
      refine J_iload_n (i := 1) d_O_drawn_14 rfl rfl ?_
      refine J_iload_n (i := 2) d_O_drawn_15 rfl rfl ?_
      refine CS_I (av := [.int (nI a_), .int (nI b_)]) d_O_drawn_16 s_O_224 (S_K_between hX (by omega) (by omega)) (by decide) rfl rfl (Nat.le_of_ble_eq_true rfl) ?_
      refine J_goto (tgt := 23) d_O_drawn_19 (by decide) ?_
      refine M_ir d_O_drawn_23 rfl rfl ?_
      exact ⟨by simp [drawnF, c4, c11, tn_nI (show a_ < 2147483648 by omega), tn_nI (show b_ < 2147483648 by omega)], rfl⟩

theorem S_O_turned {X : Mem} (hX : Ok X) {s w : Int32} : CM 1 m_O_turned [.ref 8, .int s, .int w] X (rI (turnedF s w) X) := by
  refine CM_of (L := [some (.ref 8), some (.int s), some (.int w)]) 0 ok_O_turned (fun _ => Nat.le_of_ble_eq_true rfl) rfl ?_
  refine J_iload_n (i := 1) d_O_turned_0 rfl rfl ?_
  refine CS_B (av := [.int s]) d_O_turned_1 s_O_73 (S_O_isSet) (by decide) rfl rfl (Nat.le_of_ble_eq_true rfl) ?_
  refine B_if_eq (tgt := 22) d_O_turned_4 (by decide) (fun c4 => ?_) (fun c4 => ?_)
  · refine J_iconst (v := (-1)) d_O_turned_22 rfl ?_
    refine M_ir d_O_turned_23 rfl rfl ?_
    exact ⟨by simp [turnedF, c4], rfl⟩
  · refine J_iload_n (i := 2) d_O_turned_7 rfl rfl ?_
    refine CS_B (av := [.int w]) d_O_turned_8 s_O_227 (S_O_isWay) (by decide) rfl rfl (Nat.le_of_ble_eq_true rfl) ?_
    refine B_if_eq (tgt := 22) d_O_turned_11 (by decide) (fun c11 => ?_) (fun c11 => ?_)
    · refine J_iconst (v := (-1)) d_O_turned_22 rfl ?_
      refine M_ir d_O_turned_23 rfl rfl ?_
      exact ⟨by simp [turnedF, c4, c11], rfl⟩
    · obtain ⟨s_, hs_, rfl⟩ := inR_n (n := 1048575) c4 (by decide)
      obtain ⟨w_, hw_, rfl⟩ := inR_n (n := 7) c11 (by decide)
      refine J_iload_n (i := 1) d_O_turned_14 rfl rfl ?_
      refine J_iload_n (i := 2) d_O_turned_15 rfl rfl ?_
      refine CS_N (av := [.int (nI s_), .int (nI w_)]) d_O_turned_16 s_O_230 (S_K_moved hX (by omega) (by omega)) (by decide) rfl rfl (Nat.le_of_ble_eq_true rfl) ?_
      refine J_goto (tgt := 23) d_O_turned_19 (by decide) ?_
      refine M_ir d_O_turned_23 rfl rfl ?_
      exact ⟨by simp [turnedF, c4, c11, tn_nI (show s_ < 2147483648 by omega), tn_nI (show w_ < 2147483648 by omega)], rfl⟩

theorem lp_O_own {d : Nat} {Q : Option Value → Mem → Prop} {X : Mem} {s : Nat} (hX : Ok X) (hs : s < 1048576) (hd : 1 ≤ d) (kx : JM d m_O_own Q 40 [some (.ref 8), some (.int (nI s)), some (.int (nI (itr (fun w q => q ||| if mvs w s = s then 1 <<< w else 0) 0 8))), some (.int (nI 8))] [] X) : ∀ (n i : Nat), i + n = 8 → JM d m_O_own Q 13 [some (.ref 8), some (.int (nI s)), some (.int (nI (itr (fun w q => q ||| if mvs w s = s then 1 <<< w else 0) 0 i))), some (.int (nI i))] [] X := by
  intro n
  induction n with
  | zero =>
    intro i hi
    obtain rfl : i = 8 := by omega
    refine J_iload_n (i := 3) d_O_own_13 rfl rfl ?_
    refine J_bipush (v := nI 8) d_O_own_14 rfl ?_
    refine N_icmp_ge (tgt := 40) d_O_own_16 (by decide) (by omega) (by omega) (fun c16 => ?_) (fun c16 => absurd c16 (by omega))
    exact kx
  | succ n ih =>
    intro i hi
    generalize hx : (itr (fun w q => q ||| if mvs w s = s then 1 <<< w else 0) 0 i) = x
    refine J_iload_n (i := 3) d_O_own_13 rfl rfl ?_
    refine J_bipush (v := nI 8) d_O_own_14 rfl ?_
    refine N_icmp_ge (tgt := 40) d_O_own_16 (by decide) (by omega) (by omega) (fun c16 => absurd c16 (by omega)) (fun c16 => ?_)
    refine J_iload_n (i := 1) d_O_own_19 rfl rfl ?_
    refine J_iload_n (i := 3) d_O_own_20 rfl rfl ?_
    refine CS_N (av := [.int (nI s), .int (nI i)]) d_O_own_21 s_O_230 (S_K_moved hX (by omega) (by omega)) (by omega) rfl rfl (Nat.le_of_ble_eq_true rfl) ?_
    refine J_iload_n (i := 1) d_O_own_24 rfl rfl ?_
    refine N_icmp_ne (tgt := 34) d_O_own_25 (by decide) (by first | omega | exact Nat.lt_trans mvs_lt (by decide)) (by first | omega | exact Nat.lt_trans mvs_lt (by decide)) (fun c25 => ?_) (fun c25 => ?_)
    · refine N_iinc (a := i) (c := 1) (L1 := [some (.ref 8), some (.int (nI s)), some (.int (nI x)), some (.int (nI (i + 1)))]) d_O_own_34 rfl rfl (by decide) rfl ?_
      refine J_goto (tgt := 13) d_O_own_37 (by decide) ?_
      exact (ih (i + 1) (by omega)).eq (by rw [show itr (fun w q => q ||| if mvs w s = s then 1 <<< w else 0) 0 (i + 1) = x from itr_g hx (by first | (simp [-List.getD_eq_getElem?_getD, c16, c25]; done) | (split <;> omega) | (dsimp only; split <;> omega))]) rfl rfl
    · refine J_iload_n (i := 2) d_O_own_28 rfl rfl ?_
      refine J_iconst (v := nI 1) d_O_own_29 rfl ?_
      refine J_iload_n (i := 3) d_O_own_30 rfl rfl ?_
      refine N_ishl d_O_own_31 (by omega) ?_
      refine N_ior d_O_own_32 ?_
      refine N_nm (fun v33 hv33 => ?_)
      refine J_istore_n (i := 2) (L1 := [some (.ref 8), some (.int (nI s)), some (.int (nI v33)), some (.int (nI i))]) d_O_own_33 rfl (by decide) rfl ?_
      refine N_iinc (a := i) (c := 1) (L1 := [some (.ref 8), some (.int (nI s)), some (.int (nI v33)), some (.int (nI (i + 1)))]) d_O_own_34 rfl rfl (by decide) rfl ?_
      refine J_goto (tgt := 13) d_O_own_37 (by decide) ?_
      exact (ih (i + 1) (by omega)).eq (by rw [show itr (fun w q => q ||| if mvs w s = s then 1 <<< w else 0) 0 (i + 1) = v33 from itr_g hx (by first | (simp [-List.getD_eq_getElem?_getD, c16, c25, hv33]; done) | (split <;> omega) | (dsimp only; split <;> omega))]) rfl rfl

theorem S_O_own {X : Mem} (hX : Ok X) {s : Int32} : CM 1 m_O_own [.ref 8, .int s] X (rI (ownF s) X) := by
  refine CM_of (L := [some (.ref 8), some (.int s), none, none]) 2 ok_O_own (fun _ => Nat.le_of_ble_eq_true rfl) rfl ?_
  refine J_iload_n (i := 1) d_O_own_0 rfl rfl ?_
  refine CS_B (av := [.int s]) d_O_own_1 s_O_73 (S_O_isSet) (by decide) rfl rfl (Nat.le_of_ble_eq_true rfl) ?_
  refine B_if_ne (tgt := 9) d_O_own_4 (by decide) (fun c4 => ?_) (fun c4 => ?_)
  · obtain ⟨s_, hs_, rfl⟩ := inR_n (n := 1048575) c4 (by decide)
    refine J_iconst (v := nI 0) d_O_own_9 rfl ?_
    refine J_istore_n (i := 2) (L1 := [some (.ref 8), some (.int (nI s_)), some (.int (nI 0)), none]) d_O_own_10 rfl (by decide) rfl ?_
    refine J_iconst (v := nI 0) d_O_own_11 rfl ?_
    refine J_istore_n (i := 3) (L1 := [some (.ref 8), some (.int (nI s_)), some (.int (nI 0)), some (.int (nI 0))]) d_O_own_12 rfl (by decide) rfl ?_
    refine lp_O_own hX (by omega) (by decide) ?_ 8 0 (by omega)
    refine J_iload_n (i := 2) d_O_own_40 rfl rfl ?_
    refine M_ir d_O_own_41 rfl rfl ?_
    exact ⟨by simp [ownF, c4, ownN, tn_nI (show s_ < 2147483648 by omega)], rfl⟩
  · refine J_iconst (v := (-1)) d_O_own_7 rfl ?_
    refine M_ir d_O_own_8 rfl rfl ?_
    exact ⟨by simp [ownF, c4], rfl⟩

theorem lp_O_least {d : Nat} {Q : Option Value → Mem → Prop} {X : Mem} {s : Nat} (hX : Ok X) (hs : s < 1048576) (hd : 1 ≤ d) (kx : JM d m_O_least Q 35 [some (.ref 8), some (.int (nI s)), some (.int (nI (itr (fun k x => if mvs (k + 1) s < x then mvs (k + 1) s else x) s 7))), some (.int (nI 8))] [] X) : ∀ (n i : Nat), i + n = 7 → JM d m_O_least Q 13 [some (.ref 8), some (.int (nI s)), some (.int (nI (itr (fun k x => if mvs (k + 1) s < x then mvs (k + 1) s else x) s i))), some (.int (nI (i + 1)))] [] X := by
  intro n
  induction n with
  | zero =>
    intro i hi
    obtain rfl : i = 7 := by omega
    refine J_iload_n (i := 3) d_O_least_13 rfl rfl ?_
    refine J_bipush (v := nI 8) d_O_least_14 rfl ?_
    refine N_icmp_ge (tgt := 35) d_O_least_16 (by decide) (by omega) (by omega) (fun c16 => ?_) (fun c16 => absurd c16 (by omega))
    exact kx
  | succ n ih =>
    intro i hi
    generalize hx : (itr (fun k x => if mvs (k + 1) s < x then mvs (k + 1) s else x) s i) = x
    have hx5 : x < 1048576 := by rw [← hx]; exact least_lt hs i
    refine J_iload_n (i := 3) d_O_least_13 rfl rfl ?_
    refine J_bipush (v := nI 8) d_O_least_14 rfl ?_
    refine N_icmp_ge (tgt := 35) d_O_least_16 (by decide) (by omega) (by omega) (fun c16 => absurd c16 (by omega)) (fun c16 => ?_)
    refine J_iload_n (i := 2) d_O_least_19 rfl rfl ?_
    refine J_iload_n (i := 1) d_O_least_20 rfl rfl ?_
    refine J_iload_n (i := 3) d_O_least_21 rfl rfl ?_
    refine CS_N (av := [.int (nI s), .int (nI (i + 1))]) d_O_least_22 s_O_230 (S_K_moved hX (by omega) (by omega)) (by omega) rfl rfl (Nat.le_of_ble_eq_true rfl) ?_
    refine J_mmin d_O_least_25 w_O_233 w_math_min_s w_mathInit w_math_min_c (by omega) (Nat.le_of_ble_eq_true rfl) ?_
    refine I_ton (n := min x (mvs (i + 1) s)) (nI_min (by first | omega | exact Nat.lt_trans mvs_lt (by decide)) (by first | omega | exact Nat.lt_trans mvs_lt (by decide))) ?_
    refine N_nm (fun v28 hv28 => ?_)
    refine J_istore_n (i := 2) (L1 := [some (.ref 8), some (.int (nI s)), some (.int (nI v28)), some (.int (nI (i + 1)))]) d_O_least_28 rfl (by decide) rfl ?_
    refine N_iinc (a := (i + 1)) (c := 1) (L1 := [some (.ref 8), some (.int (nI s)), some (.int (nI v28)), some (.int (nI ((i + 1) + 1)))]) d_O_least_29 rfl rfl (by decide) rfl ?_
    refine J_goto (tgt := 13) d_O_least_32 (by decide) ?_
    exact (ih (i + 1) (by omega)).eq (by rw [show itr (fun k x => if mvs (k + 1) s < x then mvs (k + 1) s else x) s (i + 1) = v28 from itr_g hx (by show (if _ then _ else _) = _; rw [hv28]; split <;> omega)]) rfl rfl

theorem S_O_least {X : Mem} (hX : Ok X) {s : Int32} : CM 1 m_O_least [.ref 8, .int s] X (rI (leastF s) X) := by
  refine CM_of (L := [some (.ref 8), some (.int s), none, none]) 2 ok_O_least (fun _ => Nat.le_of_ble_eq_true rfl) rfl ?_
  refine J_iload_n (i := 1) d_O_least_0 rfl rfl ?_
  refine CS_B (av := [.int s]) d_O_least_1 s_O_73 (S_O_isSet) (by decide) rfl rfl (Nat.le_of_ble_eq_true rfl) ?_
  refine B_if_ne (tgt := 9) d_O_least_4 (by decide) (fun c4 => ?_) (fun c4 => ?_)
  · obtain ⟨s_, hs_, rfl⟩ := inR_n (n := 1048575) c4 (by decide)
    refine J_iload_n (i := 1) d_O_least_9 rfl rfl ?_
    refine J_istore_n (i := 2) (L1 := [some (.ref 8), some (.int (nI s_)), some (.int (nI s_)), none]) d_O_least_10 rfl (by decide) rfl ?_
    refine J_iconst (v := nI 1) d_O_least_11 rfl ?_
    refine J_istore_n (i := 3) (L1 := [some (.ref 8), some (.int (nI s_)), some (.int (nI s_)), some (.int (nI 1))]) d_O_least_12 rfl (by decide) rfl ?_
    refine lp_O_least hX (by omega) (by decide) ?_ 7 0 (by omega)
    refine J_iload_n (i := 2) d_O_least_35 rfl rfl ?_
    refine M_ir d_O_least_36 rfl rfl ?_
    exact ⟨by simp [leastF, c4, leastN, tn_nI (show s_ < 2147483648 by omega)], rfl⟩
  · refine J_iconst (v := (-1)) d_O_least_7 rfl ?_
    refine M_ir d_O_least_8 rfl rfl ?_
    exact ⟨by simp [leastF, c4], rfl⟩

theorem S_O_pens {X : Mem} (hX : Ok X) {s : Int32} : CM 2 m_O_pens [.ref 8, .int s] X (rI (pensF s) X) := by
  refine CM_of (L := [some (.ref 8), some (.int s)]) 0 ok_O_pens (fun _ => Nat.le_of_ble_eq_true rfl) rfl ?_
  refine J_iload_n (i := 1) d_O_pens_0 rfl rfl ?_
  refine CS_B (av := [.int s]) d_O_pens_1 s_O_73 (S_O_isSet) (by decide) rfl rfl (Nat.le_of_ble_eq_true rfl) ?_
  refine B_if_eq (tgt := 14) d_O_pens_4 (by decide) (fun c4 => ?_) (fun c4 => ?_)
  · refine J_iconst (v := (-1)) d_O_pens_14 rfl ?_
    refine M_ir d_O_pens_15 rfl rfl ?_
    exact ⟨by simp [pensF, c4], rfl⟩
  · obtain ⟨s_, hs_, rfl⟩ := inR_n (n := 1048575) c4 (by decide)
    refine J_iload_n (i := 1) d_O_pens_7 rfl rfl ?_
    refine CS_N (av := [.int (nI s_)]) d_O_pens_8 s_O_238 (S_K_countPens hX (by omega)) (by decide) rfl rfl (Nat.le_of_ble_eq_true rfl) ?_
    refine J_goto (tgt := 15) d_O_pens_11 (by decide) ?_
    refine M_ir d_O_pens_15 rfl rfl ?_
    exact ⟨by simp [pensF, c4, tn_nI (show s_ < 2147483648 by omega)], rfl⟩

theorem S_O_rim {X : Mem} (hX : Ok X) {s : Int32} : CM 1 m_O_rim [.ref 8, .int s] X (rI (rimF s) X) := by
  refine CM_of (L := [some (.ref 8), some (.int s)]) 0 ok_O_rim (fun _ => Nat.le_of_ble_eq_true rfl) rfl ?_
  refine J_iload_n (i := 1) d_O_rim_0 rfl rfl ?_
  refine CS_B (av := [.int s]) d_O_rim_1 s_O_73 (S_O_isSet) (by decide) rfl rfl (Nat.le_of_ble_eq_true rfl) ?_
  refine B_if_eq (tgt := 14) d_O_rim_4 (by decide) (fun c4 => ?_) (fun c4 => ?_)
  · refine J_iconst (v := (-1)) d_O_rim_14 rfl ?_
    refine M_ir d_O_rim_15 rfl rfl ?_
    exact ⟨by simp [rimF, c4], rfl⟩
  · obtain ⟨s_, hs_, rfl⟩ := inR_n (n := 1048575) c4 (by decide)
    refine J_iload_n (i := 1) d_O_rim_7 rfl rfl ?_
    refine CS_N (av := [.int (nI s_)]) d_O_rim_8 s_O_245 (S_K_pointsOfOne hX (by omega)) (by decide) rfl rfl (Nat.le_of_ble_eq_true rfl) ?_
    refine J_goto (tgt := 15) d_O_rim_11 (by decide) ?_
    refine M_ir d_O_rim_15 rfl rfl ?_
    exact ⟨by simp [rimF, c4, tn_nI (show s_ < 2147483648 by omega)], rfl⟩

def apN (a b w : Nat) : Nat := bc (a ^^^ mvs w b)
theorem S_K_countApart {X : Mem} {a b w : Nat} (hX : Ok X) (ha : a < 1048576) (hb : b < 1048576) (hw : w < 8) : CM 1 m_K_countApart [.int (nI a), .int (nI b), .int (nI w)] X (rN (apN a b w) X) := by
  refine CM_of (L := [some (.int (nI a)), some (.int (nI b)), some (.int (nI w))]) 0 ok_K_countApart (fun _ => Nat.le_of_ble_eq_true rfl) rfl ?_
  refine J_iload_n (i := 0) d_K_countApart_0 rfl rfl ?_
  refine J_iload_n (i := 1) d_K_countApart_1 rfl rfl ?_
  refine J_iload_n (i := 2) d_K_countApart_2 rfl rfl ?_
  refine CS_N (av := [.int (nI b), .int (nI w)]) d_K_countApart_3 s_K_54 (S_K_moved hX (by omega) (by omega)) (by decide) rfl rfl (Nat.le_of_ble_eq_true rfl) ?_
  refine N_ixor d_K_countApart_6 ?_
  refine CS_N (av := [.int (nI (a ^^^ (mvs w b)))]) d_K_countApart_7 s_K_26 (S_bitCount (xor_lt 20 ha mvs_lt)) (by decide) rfl rfl (Nat.le_of_ble_eq_true rfl) ?_
  refine M_ir d_K_countApart_10 rfl rfl ?_
  exact ⟨rfl, rfl⟩

