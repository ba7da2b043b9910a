def isInB (v l t : Int32) : Bool := !decide (v < l) && !decide (t < v)
abbrev inR (v : Int32) (n : Nat) : Bool := isInB v (nI 0) (nI n)
abbrev tn (v : Int32) : Nat := v.toNatClampNeg
theorem tn_nI {j : Nat} (h : j < 2147483648) : tn (nI j) = j := nI_clamp h
theorem inR_n {v : Int32} {n : Nat} (h : inR v n = true) (hn : n < 2147483648) : ∃ j, j ≤ n ∧ v = nI j := by
  simp only [isInB, Bool.and_eq_true, Bool.not_eq_true', decide_eq_false_iff_not] at h
  obtain ⟨j, h1, h2⟩ := nI_of h.1
  subst h2
  refine ⟨j, ?_, rfl⟩
  rcases Nat.lt_or_ge n j with q | q
  · exact absurd ((nI_ltI hn h1).mpr q) h.2
  · exact q
theorem inR_nI {j n : Nat} (hj : j < 2147483648) (hn : n < 2147483648) : inR (nI j) n = decide (j ≤ n) := by
  have h0 : ¬ nI j < nI 0 := fun q => by have := (nI_ltI hj (by decide)).mp q; omega
  simp only [isInB, h0, decide_false, Bool.not_false, Bool.true_and]
  by_cases h : j ≤ n
  · have : ¬ nI n < nI j := fun q => by have := (nI_ltI hn hj).mp q; omega
    simp [h, this]
  · have : nI n < nI j := (nI_ltI hn hj).mpr (by omega)
    simp [h, this]
theorem S_R_isIn {X : Mem} {v l t : Int32} : CM 0 m_R_isIn [.int v, .int l, .int t] X (rB (isInB v l t) X) := by
  refine CM_of (L := [some (.int v), some (.int l), some (.int t)]) 0 ok_R_isIn (fun _ => Nat.le_of_ble_eq_true rfl) rfl ?_
  refine J_iload_n (i := 0) d_R_isIn_0 rfl rfl ?_
  refine J_iload_n (i := 1) d_R_isIn_1 rfl rfl ?_
  refine J_icmp_lt (tgt := 14) d_R_isIn_2 (by decide) (fun c2 => ?_) (fun c2 => ?_)
  · refine J_iconst (v := nI 0) d_R_isIn_14 rfl ?_
    refine J.eq (st1 := [.int (b2i false)]) ?_ rfl rfl rfl
    refine M_ir d_R_isIn_15 rfl b2i_nar ?_
    exact ⟨by simp [isInB, c2], rfl⟩
  · refine J_iload_n (i := 0) d_R_isIn_5 rfl rfl ?_
    refine J_iload_n (i := 2) d_R_isIn_6 rfl rfl ?_
    refine J_icmp_gt (tgt := 14) d_R_isIn_7 (by decide) (fun c7 => ?_) (fun c7 => ?_)
    · refine J_iconst (v := nI 0) d_R_isIn_14 rfl ?_
      refine J.eq (st1 := [.int (b2i false)]) ?_ rfl rfl rfl
      refine M_ir d_R_isIn_15 rfl b2i_nar ?_
      exact ⟨by simp [isInB, c2, c7], rfl⟩
    · refine J_iconst (v := nI 1) d_R_isIn_10 rfl ?_
      refine J_goto (tgt := 15) d_R_isIn_11 (by decide) ?_
      refine J.eq (st1 := [.int (b2i true)]) ?_ rfl rfl rfl
      refine M_ir d_R_isIn_15 rfl b2i_nar ?_
      exact ⟨by simp [isInB, c2, c7], rfl⟩

theorem S_R_areStrokes {X : Mem} {v : Int32} : CM 1 m_R_areStrokes [.int v] X (rB (inR v 1048575) X) := by
  refine CM_of (L := [some (.int v)]) 0 ok_R_areStrokes (fun _ => Nat.le_of_ble_eq_true rfl) rfl ?_
  refine J_iload_n (i := 0) d_R_areStrokes_0 rfl rfl ?_
  refine J_iconst (v := nI 0) d_R_areStrokes_1 rfl ?_
  refine J_ldc d_R_areStrokes_2 w_R_93 ?_
  refine I_ton (n := 1048575) rfl ?_
  refine CS_B (av := [.int v, .int (nI 0), .int (nI 1048575)]) d_R_areStrokes_4 s_R_89 (S_R_isIn) (by decide) rfl rfl (Nat.le_of_ble_eq_true rfl) ?_
  refine M_ir d_R_areStrokes_7 rfl b2i_nar ?_
  exact ⟨rfl, rfl⟩

theorem S_R_isWay {X : Mem} {v : Int32} : CM 1 m_R_isWay [.int v] X (rB (inR v 7) X) := by
  refine CM_of (L := [some (.int v)]) 0 ok_R_isWay (fun _ => Nat.le_of_ble_eq_true rfl) rfl ?_
  refine J_iload_n (i := 0) d_R_isWay_0 rfl rfl ?_
  refine J_iconst (v := nI 0) d_R_isWay_1 rfl ?_
  refine J_bipush (v := nI 7) d_R_isWay_2 rfl ?_
  refine CS_B (av := [.int v, .int (nI 0), .int (nI 7)]) d_R_isWay_4 s_R_89 (S_R_isIn) (by decide) rfl rfl (Nat.le_of_ble_eq_true rfl) ?_
  refine M_ir d_R_isWay_7 rfl b2i_nar ?_
  exact ⟨rfl, rfl⟩

theorem S_R_isStroke {X : Mem} {v : Int32} : CM 1 m_R_isStroke [.int v] X (rB (inR v 19) X) := by
  refine CM_of (L := [some (.int v)]) 0 ok_R_isStroke (fun _ => Nat.le_of_ble_eq_true rfl) rfl ?_
  refine J_iload_n (i := 0) d_R_isStroke_0 rfl rfl ?_
  refine J_iconst (v := nI 0) d_R_isStroke_1 rfl ?_
  refine J_bipush (v := nI 19) d_R_isStroke_2 rfl ?_
  refine CS_B (av := [.int v, .int (nI 0), .int (nI 19)]) d_R_isStroke_4 s_R_89 (S_R_isIn) (by decide) rfl rfl (Nat.le_of_ble_eq_true rfl) ?_
  refine M_ir d_R_isStroke_7 rfl b2i_nar ?_
  exact ⟨rfl, rfl⟩

def pensF (v : Int32) : Int32 := if inR v 1048575 then nI (pens (tn v)) else (-1)
theorem S_R_pens {X : Mem} (hX : Ok X) {s : Int32} : CM 4 m_R_pens [.ref 244, .int s] X (rI (pensF s) X) := by
  refine CM_of (L := [some (.ref 244), some (.int s)]) 0 ok_R_pens (fun _ => Nat.le_of_ble_eq_true rfl) rfl ?_
  refine J_iload_n (i := 1) d_R_pens_0 rfl rfl ?_
  refine CS_B (av := [.int s]) d_R_pens_1 s_R_98 (S_R_areStrokes) (by decide) rfl rfl (Nat.le_of_ble_eq_true rfl) ?_
  refine B_if_eq (tgt := 15) d_R_pens_4 (by decide) (fun c4 => ?_) (fun c4 => ?_)
  · refine J_iconst (v := (-1)) d_R_pens_15 rfl ?_
    refine M_ir d_R_pens_16 rfl rfl ?_
    exact ⟨by simp [pensF, c4], rfl⟩
  · obtain ⟨s_, hs_, rfl⟩ := inR_n (n := 1048575) c4 (by decide)
    refine J_aload_n (i := 0) d_R_pens_7 rfl rfl ?_
    refine J_iload_n (i := 1) d_R_pens_8 rfl rfl ?_
    refine CV_N (av := [.int (nI s_)]) d_R_pens_9 s_R_130 (M_rcv rfl (by decide) rfl) (S_R_pensOf hX (by omega)) (by decide) rfl rfl (Nat.le_of_ble_eq_true rfl) ?_
    refine J_goto (tgt := 16) d_R_pens_12 (by decide) ?_
    refine M_ir d_R_pens_16 rfl rfl ?_
    exact ⟨by simp [pensF, c4, tn_nI (show s_ < 2147483648 by omega)], rfl⟩

def drawnF (a b : Int32) : Int32 := if inR a 8 && inR b 8 then oI (SOFL.getD (9 * tn a + tn b) 0) else (-1)
theorem S_R_drawn {X : Mem} (hX : Ok X) {a b : Int32} : CM 1 m_R_drawn [.ref 244, .int a, .int b] X (rI (drawnF a b) X) := by
  refine CM_of (L := [some (.ref 244), some (.int a), some (.int b)]) 0 ok_R_drawn (fun _ => Nat.le_of_ble_eq_true rfl) rfl ?_
  refine J_iload_n (i := 1) d_R_drawn_0 rfl rfl ?_
  refine J_iconst (v := nI 0) d_R_drawn_1 rfl ?_
  refine J_bipush (v := nI 8) d_R_drawn_2 rfl ?_
  refine CS_B (av := [.int a, .int (nI 0), .int (nI 8)]) d_R_drawn_4 s_R_89 (S_R_isIn) (by decide) rfl rfl (Nat.le_of_ble_eq_true rfl) ?_
  refine B_if_eq (tgt := 34) d_R_drawn_7 (by decide) (fun c7 => ?_) (fun c7 => ?_)
  · refine J_iconst (v := (-1)) d_R_drawn_34 rfl ?_
    refine M_ir d_R_drawn_35 rfl rfl ?_
    exact ⟨by simp [drawnF, c7], rfl⟩
  · refine J_iload_n (i := 2) d_R_drawn_10 rfl rfl ?_
    refine J_iconst (v := nI 0) d_R_drawn_11 rfl ?_
    refine J_bipush (v := nI 8) d_R_drawn_12 rfl ?_
    refine CS_B (av := [.int b, .int (nI 0), .int (nI 8)]) d_R_drawn_14 s_R_89 (S_R_isIn) (by decide) rfl rfl (Nat.le_of_ble_eq_true rfl) ?_
    refine B_if_eq (tgt := 34) d_R_drawn_17 (by decide) (fun c17 => ?_) (fun c17 => ?_)
    · refine J_iconst (v := (-1)) d_R_drawn_34 rfl ?_
      refine M_ir d_R_drawn_35 rfl rfl ?_
      exact ⟨by simp [drawnF, c7, c17], rfl⟩
    · obtain ⟨a_, ha_, rfl⟩ := inR_n (n := 8) c7 (by decide)
      obtain ⟨b_, hb_, rfl⟩ := inR_n (n := 8) c17 (by decide)
      refine J_aload_n (i := 0) d_R_drawn_20 rfl rfl ?_
      refine M_getR (b := 250) d_R_drawn_21 f_R_25 rfl rfl rfl ?_
      refine J_bipush (v := nI 9) d_R_drawn_24 rfl ?_
      refine J_iload_n (i := 1) d_R_drawn_26 rfl rfl ?_
      refine N_imul d_R_drawn_27 ?_
      refine J_iload_n (i := 2) d_R_drawn_28 rfl rfl ?_
      refine N_iadd d_R_drawn_29 ?_
      refine N_iald (x := (oI (SOFL.getD ((9 * a_) + b_) 0))) d_R_drawn_30 rfl (by omega) (ltL hX (a := 250) (n := 81) (by decide) rfl (by omega)) (k_sof hX) ?_
      refine J_goto (tgt := 35) d_R_drawn_31 (by decide) ?_
      refine M_ir d_R_drawn_35 rfl rfl ?_
      exact ⟨by simp [drawnF, c7, c17, tn_nI (show a_ < 2147483648 by omega), tn_nI (show b_ < 2147483648 by omega)], rfl⟩

def turnedF (s w : Int32) : Int32 := if inR s 1048575 && inR w 7 then nI (mvs (tn w) (tn s)) else (-1)
theorem S_R_turned {X : Mem} (hX : Ok X) {s w : Int32} : CM 2 m_R_turned [.ref 244, .int s, .int w] X (rI (turnedF s w) X) := by
  refine CM_of (L := [some (.ref 244), some (.int s), some (.int w)]) 0 ok_R_turned (fun _ => Nat.le_of_ble_eq_true rfl) rfl ?_
  refine J_iload_n (i := 1) d_R_turned_0 rfl rfl ?_
  refine CS_B (av := [.int s]) d_R_turned_1 s_R_98 (S_R_areStrokes) (by decide) rfl rfl (Nat.le_of_ble_eq_true rfl) ?_
  refine B_if_eq (tgt := 23) d_R_turned_4 (by decide) (fun c4 => ?_) (fun c4 => ?_)
  · refine J_iconst (v := (-1)) d_R_turned_23 rfl ?_
    refine M_ir d_R_turned_24 rfl rfl ?_
    exact ⟨by simp [turnedF, c4], rfl⟩
  · refine J_iload_n (i := 2) d_R_turned_7 rfl rfl ?_
    refine CS_B (av := [.int w]) d_R_turned_8 s_R_102 (S_R_isWay) (by decide) rfl rfl (Nat.le_of_ble_eq_true rfl) ?_
    refine B_if_eq (tgt := 23) d_R_turned_11 (by decide) (fun c11 => ?_) (fun c11 => ?_)
    · refine J_iconst (v := (-1)) d_R_turned_23 rfl ?_
      refine M_ir d_R_turned_24 rfl rfl ?_
      exact ⟨by simp [turnedF, c4, c11], rfl⟩
    · obtain ⟨s_, hs_, rfl⟩ := inR_n (n := 1048575) c4 (by decide)
      obtain ⟨w_, hw_, rfl⟩ := inR_n (n := 7) c11 (by decide)
      refine J_aload_n (i := 0) d_R_turned_14 rfl rfl ?_
      refine J_iload_n (i := 1) d_R_turned_15 rfl rfl ?_
      refine J_iload_n (i := 2) d_R_turned_16 rfl rfl ?_
      refine CV_N (av := [.int (nI s_), .int (nI w_)]) d_R_turned_17 s_R_105 (M_rcv rfl (by decide) rfl) (S_R_byWay hX (by omega) (by omega)) (by decide) rfl rfl (Nat.le_of_ble_eq_true rfl) ?_
      refine J_goto (tgt := 24) d_R_turned_20 (by decide) ?_
      refine M_ir d_R_turned_24 rfl rfl ?_
      exact ⟨by simp [turnedF, c4, c11, tn_nI (show s_ < 2147483648 by omega), tn_nI (show w_ < 2147483648 by omega)], rfl⟩

def ownN (s : Nat) : Nat := itr (fun w q => q ||| if mvs w s = s then 1 <<< w else 0) 0 8
def ownF (v : Int32) : Int32 := if inR v 1048575 then nI (ownN (tn v)) else (-1)
theorem mvs_lt {w s : Nat} : mvs w s < 1048576 :=
  itr_inv (fun _ (x : Nat) => x < 1048576) (by decide) (fun n x hx => by
    try dsimp only
    split
    · exact or_lt 20 hx (sh_lt mv_lt (by decide))
    · exact hx) 20
theorem lp_R_own {d : Nat} {Q : Option Value → Mem → Prop} {X : Mem} {s : Nat} (hX : Ok X) (hs : s < 1048576) (hd : 2 ≤ d) (kx : JM d m_R_own Q 45 [some (.ref 244), some (.int (nI s)), some (.int (nI (itr (fun w q => q ||| if mvs w s = s then 1 <<< w else 0) 0 8))), some (.int (nI 8))] [] X) : ∀ (n i : Nat), i + n = 8 → JM d m_R_own Q 13 [some (.ref 244), some (.int (nI s)), some (.int (nI (itr (fun w q => q ||| if mvs w s = s then 1 <<< w else 0) 0 i))), some (.int (nI i))] [] X := by
  intro n
  induction n with
  | zero =>
    intro i hi
    obtain rfl : i = 8 := by omega
    refine J_iload_n (i := 3) d_R_own_13 rfl rfl ?_
    refine J_bipush (v := nI 8) d_R_own_14 rfl ?_
    refine N_icmp_ge (tgt := 45) d_R_own_16 (by decide) (by omega) (by omega) (fun c16 => ?_) (fun c16 => absurd c16 (by omega))
    exact kx
  | succ n ih =>
    intro i hi
    generalize hx : (itr (fun w q => q ||| if mvs w s = s then 1 <<< w else 0) 0 i) = x
    refine J_iload_n (i := 3) d_R_own_13 rfl rfl ?_
    refine J_bipush (v := nI 8) d_R_own_14 rfl ?_
    refine N_icmp_ge (tgt := 45) d_R_own_16 (by decide) (by omega) (by omega) (fun c16 => absurd c16 (by omega)) (fun c16 => ?_)
    refine J_iload_n (i := 2) d_R_own_19 rfl rfl ?_
    refine J_aload_n (i := 0) d_R_own_20 rfl rfl ?_
    refine J_iload_n (i := 1) d_R_own_21 rfl rfl ?_
    refine J_iload_n (i := 3) d_R_own_22 rfl rfl ?_
    refine CV_N (av := [.int (nI s), .int (nI i)]) d_R_own_23 s_R_105 (M_rcv rfl (by decide) rfl) (S_R_byWay hX (by omega) (by omega)) (by omega) rfl rfl (Nat.le_of_ble_eq_true rfl) ?_
    refine J_iload_n (i := 1) d_R_own_26 rfl rfl ?_
    refine N_icmp_ne (tgt := 36) d_R_own_27 (by decide) (by first | omega | exact Nat.lt_trans mvs_lt (by decide)) (by first | omega | exact Nat.lt_trans mvs_lt (by decide)) (fun c27 => ?_) (fun c27 => ?_)
    · refine J_iconst (v := nI 0) d_R_own_36 rfl ?_
      refine N_ior d_R_own_37 ?_
      refine J_istore_n (i := 2) (L1 := [some (.ref 244), some (.int (nI s)), some (.int (nI (x ||| 0))), some (.int (nI i))]) d_R_own_38 rfl (by decide) rfl ?_
      refine N_iinc (a := i) (c := 1) (L1 := [some (.ref 244), some (.int (nI s)), some (.int (nI (x ||| 0))), some (.int (nI (i + 1)))]) d_R_own_39 rfl rfl (by decide) rfl ?_
      refine J_goto (tgt := 13) d_R_own_42 (by decide) ?_
      exact (ih (i + 1) (by omega)).eq (by rw [show itr (fun w q => q ||| if mvs w s = s then 1 <<< w else 0) 0 (i + 1) = (x ||| 0) from itr_g hx (by first | (simp [-List.getD_eq_getElem?_getD, c16, c27]; done) | (split <;> omega) | (dsimp only; split <;> omega))]) rfl rfl
    · refine J_iconst (v := nI 1) d_R_own_30 rfl ?_
      refine J_iload_n (i := 3) d_R_own_31 rfl rfl ?_
      refine N_ishl d_R_own_32 (by omega) ?_
      refine J_goto (tgt := 37) d_R_own_33 (by decide) ?_
      refine N_ior d_R_own_37 ?_
      refine N_nm (fun v38 hv38 => ?_)
      refine J_istore_n (i := 2) (L1 := [some (.ref 244), some (.int (nI s)), some (.int (nI v38)), some (.int (nI i))]) d_R_own_38 rfl (by decide) rfl ?_
      refine N_iinc (a := i) (c := 1) (L1 := [some (.ref 244), some (.int (nI s)), some (.int (nI v38)), some (.int (nI (i + 1)))]) d_R_own_39 rfl rfl (by decide) rfl ?_
      refine J_goto (tgt := 13) d_R_own_42 (by decide) ?_
      exact (ih (i + 1) (by omega)).eq (by rw [show itr (fun w q => q ||| if mvs w s = s then 1 <<< w else 0) 0 (i + 1) = v38 from itr_g hx (by first | (simp [-List.getD_eq_getElem?_getD, c16, c27, hv38]; done) | (split <;> omega) | (dsimp only; split <;> omega))]) rfl rfl

theorem S_R_own {X : Mem} (hX : Ok X) {s : Int32} : CM 2 m_R_own [.ref 244, .int s] X (rI (ownF s) X) := by
  refine CM_of (L := [some (.ref 244), some (.int s), none, none]) 2 ok_R_own (fun _ => Nat.le_of_ble_eq_true rfl) rfl ?_
  refine J_iload_n (i := 1) d_R_own_0 rfl rfl ?_
  refine CS_B (av := [.int s]) d_R_own_1 s_R_98 (S_R_areStrokes) (by decide) rfl rfl (Nat.le_of_ble_eq_true rfl) ?_
  refine B_if_ne (tgt := 9) d_R_own_4 (by decide) (fun c4 => ?_) (fun c4 => ?_)
  · obtain ⟨s_, hs_, rfl⟩ := inR_n (n := 1048575) c4 (by decide)
    refine J_iconst (v := nI 0) d_R_own_9 rfl ?_
    refine J_istore_n (i := 2) (L1 := [some (.ref 244), some (.int (nI s_)), some (.int (nI 0)), none]) d_R_own_10 rfl (by decide) rfl ?_
    refine J_iconst (v := nI 0) d_R_own_11 rfl ?_
    refine J_istore_n (i := 3) (L1 := [some (.ref 244), some (.int (nI s_)), some (.int (nI 0)), some (.int (nI 0))]) d_R_own_12 rfl (by decide) rfl ?_
    refine lp_R_own hX (by omega) (by decide) ?_ 8 0 (by omega)
    refine J_iload_n (i := 2) d_R_own_45 rfl rfl ?_
    refine M_ir d_R_own_46 rfl rfl ?_
    exact ⟨by simp [ownF, c4, ownN, tn_nI (show s_ < 2147483648 by omega)], rfl⟩
  · refine J_iconst (v := (-1)) d_R_own_7 rfl ?_
    refine M_ir d_R_own_8 rfl rfl ?_
    exact ⟨by simp [ownF, c4], rfl⟩

def leastN (s : Nat) : Nat := itr (fun k x => if mvs (k + 1) s < x then mvs (k + 1) s else x) s 7
def leastF (v : Int32) : Int32 := if inR v 1048575 then nI (leastN (tn v)) else (-1)
theorem least_lt {s : Nat} (hs : s < 1048576) : ∀ i, itr (fun k x => if mvs (k + 1) s < x then mvs (k + 1) s else x) s i < 1048576 :=
  itr_inv (fun _ (x : Nat) => x < 1048576) hs (fun n x hx => by
    try dsimp only
    split
    · exact mvs_lt
    · exact hx)
theorem lp_R_least {d : Nat} {Q : Option Value → Mem → Prop} {X : Mem} {s : Nat} (hX : Ok X) (hs : s < 1048576) (hd : 2 ≤ d) (kx : JM d m_R_least Q 42 [some (.ref 244), some (.int (nI s)), some (.int (nI (itr (fun k x => if mvs (k + 1) s < x then mvs (k + 1) s else x) s 7))), some (.int (nI 8))] [] X) : ∀ (n i : Nat), i + n = 7 → JM d m_R_least Q 13 [some (.ref 244), some (.int (nI s)), some (.int (nI (itr (fun k x => if mvs (k + 1) s < x then mvs (k + 1) s else x) s i))), some (.int (nI (i + 1)))] [] X := by
  intro n
  induction n with
  | zero =>
    intro i hi
    obtain rfl : i = 7 := by omega
    refine J_iload_n (i := 3) d_R_least_13 rfl rfl ?_
    refine J_bipush (v := nI 8) d_R_least_14 rfl ?_
    refine N_icmp_ge (tgt := 42) d_R_least_16 (by decide) (by omega) (by omega) (fun c16 => ?_) (fun c16 => absurd c16 (by omega))
    exact kx
  | succ n ih =>
    intro i hi
    generalize hx : (itr (fun k x => if mvs (k + 1) s < x then mvs (k + 1) s else x) s i) = x
    have hx5 : x < 1048576 := by rw [← hx]; exact least_lt hs i
    refine J_iload_n (i := 3) d_R_least_13 rfl rfl ?_
    refine J_bipush (v := nI 8) d_R_least_14 rfl ?_
    refine N_icmp_ge (tgt := 42) d_R_least_16 (by decide) (by omega) (by omega) (fun c16 => absurd c16 (by omega)) (fun c16 => ?_)
    refine J_aload_n (i := 0) d_R_least_19 rfl rfl ?_
    refine J_iload_n (i := 1) d_R_least_20 rfl rfl ?_
    refine J_iload_n (i := 3) d_R_least_21 rfl rfl ?_
    refine CV_N (av := [.int (nI s), .int (nI (i + 1))]) d_R_least_22 s_R_105 (M_rcv rfl (by decide) rfl) (S_R_byWay hX (by omega) (by omega)) (by omega) rfl rfl (Nat.le_of_ble_eq_true rfl) ?_
    refine J_iload_n (i := 2) d_R_least_25 rfl rfl ?_
    refine N_icmp_ge (tgt := 36) d_R_least_26 (by decide) (by first | omega | exact Nat.lt_trans mvs_lt (by decide)) (by first | omega | exact Nat.lt_trans mvs_lt (by decide)) (fun c26 => ?_) (fun c26 => ?_)
    · refine N_iinc (a := (i + 1)) (c := 1) (L1 := [some (.ref 244), some (.int (nI s)), some (.int (nI x)), some (.int (nI ((i + 1) + 1)))]) d_R_least_36 rfl rfl (by decide) rfl ?_
      refine J_goto (tgt := 13) d_R_least_39 (by decide) ?_
      exact (ih (i + 1) (by omega)).eq (by rw [show itr (fun k x => if mvs (k + 1) s < x then mvs (k + 1) s else x) s (i + 1) = x from itr_g hx (by first | (simp [-List.getD_eq_getElem?_getD, c16, c26]; done) | (split <;> omega) | (dsimp only; split <;> omega))]) rfl rfl
    · refine J_aload_n (i := 0) d_R_least_29 rfl rfl ?_
      refine J_iload_n (i := 1) d_R_least_30 rfl rfl ?_
      refine J_iload_n (i := 3) d_R_least_31 rfl rfl ?_
      refine CV_N (av := [.int (nI s), .int (nI (i + 1))]) d_R_least_32 s_R_105 (M_rcv rfl (by decide) rfl) (S_R_byWay hX (by omega) (by omega)) (by omega) rfl rfl (Nat.le_of_ble_eq_true rfl) ?_
      refine N_nm (fun v35 hv35 => ?_)
      refine J_istore_n (i := 2) (L1 := [some (.ref 244), some (.int (nI s)), some (.int (nI v35)), some (.int (nI (i + 1)))]) d_R_least_35 rfl (by decide) rfl ?_
      refine N_iinc (a := (i + 1)) (c := 1) (L1 := [some (.ref 244), some (.int (nI s)), some (.int (nI v35)), some (.int (nI ((i + 1) + 1)))]) d_R_least_36 rfl rfl (by decide) rfl ?_
      refine J_goto (tgt := 13) d_R_least_39 (by decide) ?_
      exact (ih (i + 1) (by omega)).eq (by rw [show itr (fun k x => if mvs (k + 1) s < x then mvs (k + 1) s else x) s (i + 1) = v35 from itr_g hx (by first | (simp [-List.getD_eq_getElem?_getD, c16, c26, hv35]; done) | (split <;> omega) | (dsimp only; split <;> omega))]) rfl rfl

theorem S_R_least {X : Mem} (hX : Ok X) {s : Int32} : CM 2 m_R_least [.ref 244, .int s] X (rI (leastF s) X) := by
  refine CM_of (L := [some (.ref 244), some (.int s), none, none]) 2 ok_R_least (fun _ => Nat.le_of_ble_eq_true rfl) rfl ?_
  refine J_iload_n (i := 1) d_R_least_0 rfl rfl ?_
  refine CS_B (av := [.int s]) d_R_least_1 s_R_98 (S_R_areStrokes) (by decide) rfl rfl (Nat.le_of_ble_eq_true rfl) ?_
  refine B_if_ne (tgt := 9) d_R_least_4 (by decide) (fun c4 => ?_) (fun c4 => ?_)
  · obtain ⟨s_, hs_, rfl⟩ := inR_n (n := 1048575) c4 (by decide)
    refine J_iload_n (i := 1) d_R_least_9 rfl rfl ?_
    refine J_istore_n (i := 2) (L1 := [some (.ref 244), some (.int (nI s_)), some (.int (nI s_)), none]) d_R_least_10 rfl (by decide) rfl ?_
    refine J_iconst (v := nI 1) d_R_least_11 rfl ?_
    refine J_istore_n (i := 3) (L1 := [some (.ref 244), some (.int (nI s_)), some (.int (nI s_)), some (.int (nI 1))]) d_R_least_12 rfl (by decide) rfl ?_
    refine lp_R_least hX (by omega) (by decide) ?_ 7 0 (by omega)
    refine J_iload_n (i := 2) d_R_least_42 rfl rfl ?_
    refine M_ir d_R_least_43 rfl rfl ?_
    exact ⟨by simp [leastF, c4, leastN, tn_nI (show s_ < 2147483648 by omega)], rfl⟩
  · refine J_iconst (v := (-1)) d_R_least_7 rfl ?_
    refine M_ir d_R_least_8 rfl rfl ?_
    exact ⟨by simp [leastF, c4], rfl⟩

def rimN (s : Nat) : Nat := itr (fun p q => q ||| if stA s p = 1 then 1 <<< p else 0) 0 9
def rimF (v : Int32) : Int32 := if inR v 1048575 then nI (rimN (tn v)) else (-1)
theorem lp_R_rim {d : Nat} {Q : Option Value → Mem → Prop} {X : Mem} {s : Nat} (hX : Ok X) (hs : s < 1048576) (hd : 2 ≤ d) (kx : JM d m_R_rim Q 45 [some (.ref 244), some (.int (nI s)), some (.int (nI (itr (fun p q => q ||| if stA s p = 1 then 1 <<< p else 0) 0 9))), some (.int (nI 9))] [] X) : ∀ (n i : Nat), i + n = 9 → JM d m_R_rim Q 13 [some (.ref 244), some (.int (nI s)), some (.int (nI (itr (fun p q => q ||| if stA s p = 1 then 1 <<< p else 0) 0 i))), some (.int (nI i))] [] X := by
  intro n
  induction n with
  | zero =>
    intro i hi
    obtain rfl : i = 9 := by omega
    refine J_iload_n (i := 3) d_R_rim_13 rfl rfl ?_
    refine J_bipush (v := nI 9) d_R_rim_14 rfl ?_
    refine N_icmp_ge (tgt := 45) d_R_rim_16 (by decide) (by omega) (by omega) (fun c16 => ?_) (fun c16 => absurd c16 (by omega))
    exact kx
  | succ n ih =>
    intro i hi
    generalize hx : (itr (fun p q => q ||| if stA s p = 1 then 1 <<< p else 0) 0 i) = x
    refine J_iload_n (i := 3) d_R_rim_13 rfl rfl ?_
    refine J_bipush (v := nI 9) d_R_rim_14 rfl ?_
    refine N_icmp_ge (tgt := 45) d_R_rim_16 (by decide) (by omega) (by omega) (fun c16 => absurd c16 (by omega)) (fun c16 => ?_)
    refine J_iload_n (i := 2) d_R_rim_19 rfl rfl ?_
    refine J_aload_n (i := 0) d_R_rim_20 rfl rfl ?_
    refine J_iload_n (i := 1) d_R_rim_21 rfl rfl ?_
    refine J_iload_n (i := 3) d_R_rim_22 rfl rfl ?_
    refine CV_N (av := [.int (nI s), .int (nI i)]) d_R_rim_23 s_R_111 (M_rcv rfl (by decide) rfl) (S_R_strokesAt hX (by omega) (by omega)) (by omega) rfl rfl (Nat.le_of_ble_eq_true rfl) ?_
    refine J_iconst (v := nI 1) d_R_rim_26 rfl ?_
    refine N_icmp_ne (tgt := 36) d_R_rim_27 (by decide) (by first | omega | exact Nat.lt_of_le_of_lt (stA_le _ _) (by decide)) (by first | omega | exact Nat.lt_of_le_of_lt (stA_le _ _) (by decide)) (fun c27 => ?_) (fun c27 => ?_)
    · refine J_iconst (v := nI 0) d_R_rim_36 rfl ?_
      refine N_ior d_R_rim_37 ?_
      refine J_istore_n (i := 2) (L1 := [some (.ref 244), some (.int (nI s)), some (.int (nI (x ||| 0))), some (.int (nI i))]) d_R_rim_38 rfl (by decide) rfl ?_
      refine N_iinc (a := i) (c := 1) (L1 := [some (.ref 244), some (.int (nI s)), some (.int (nI (x ||| 0))), some (.int (nI (i + 1)))]) d_R_rim_39 rfl rfl (by decide) rfl ?_
      refine J_goto (tgt := 13) d_R_rim_42 (by decide) ?_
      exact (ih (i + 1) (by omega)).eq (by rw [show itr (fun p q => q ||| if stA s p = 1 then 1 <<< p else 0) 0 (i + 1) = (x ||| 0) from itr_g hx (by first | (simp [-List.getD_eq_getElem?_getD, c16, c27]; done) | (split <;> omega) | (dsimp only; split <;> omega))]) rfl rfl
    · refine J_iconst (v := nI 1) d_R_rim_30 rfl ?_
      refine J_iload_n (i := 3) d_R_rim_31 rfl rfl ?_
      refine N_ishl d_R_rim_32 (by omega) ?_
      refine J_goto (tgt := 37) d_R_rim_33 (by decide) ?_
      refine N_ior d_R_rim_37 ?_
      refine N_nm (fun v38 hv38 => ?_)
      refine J_istore_n (i := 2) (L1 := [some (.ref 244), some (.int (nI s)), some (.int (nI v38)), some (.int (nI i))]) d_R_rim_38 rfl (by decide) rfl ?_
      refine N_iinc (a := i) (c := 1) (L1 := [some (.ref 244), some (.int (nI s)), some (.int (nI v38)), some (.int (nI (i + 1)))]) d_R_rim_39 rfl rfl (by decide) rfl ?_
      refine J_goto (tgt := 13) d_R_rim_42 (by decide) ?_
      exact (ih (i + 1) (by omega)).eq (by rw [show itr (fun p q => q ||| if stA s p = 1 then 1 <<< p else 0) 0 (i + 1) = v38 from itr_g hx (by first | (simp [-List.getD_eq_getElem?_getD, c16, c27, hv38]; done) | (split <;> omega) | (dsimp only; split <;> omega))]) rfl rfl

theorem S_R_rim {X : Mem} (hX : Ok X) {s : Int32} : CM 2 m_R_rim [.ref 244, .int s] X (rI (rimF s) X) := by
  refine CM_of (L := [some (.ref 244), some (.int s), none, none]) 2 ok_R_rim (fun _ => Nat.le_of_ble_eq_true rfl) rfl ?_
  refine J_iload_n (i := 1) d_R_rim_0 rfl rfl ?_
  refine CS_B (av := [.int s]) d_R_rim_1 s_R_98 (S_R_areStrokes) (by decide) rfl rfl (Nat.le_of_ble_eq_true rfl) ?_
  refine B_if_ne (tgt := 9) d_R_rim_4 (by decide) (fun c4 => ?_) (fun c4 => ?_)
  · obtain ⟨s_, hs_, rfl⟩ := inR_n (n := 1048575) c4 (by decide)
    refine J_iconst (v := nI 0) d_R_rim_9 rfl ?_
    refine J_istore_n (i := 2) (L1 := [some (.ref 244), some (.int (nI s_)), some (.int (nI 0)), none]) d_R_rim_10 rfl (by decide) rfl ?_
    refine J_iconst (v := nI 0) d_R_rim_11 rfl ?_
    refine J_istore_n (i := 3) (L1 := [some (.ref 244), some (.int (nI s_)), some (.int (nI 0)), some (.int (nI 0))]) d_R_rim_12 rfl (by decide) rfl ?_
    refine lp_R_rim hX (by omega) (by decide) ?_ 9 0 (by omega)
    refine J_iload_n (i := 2) d_R_rim_45 rfl rfl ?_
    refine M_ir d_R_rim_46 rfl rfl ?_
    exact ⟨by simp [rimF, c4, rimN, tn_nI (show s_ < 2147483648 by omega)], rfl⟩
  · refine J_iconst (v := (-1)) d_R_rim_7 rfl ?_
    refine M_ir d_R_rim_8 rfl rfl ?_
    exact ⟨by simp [rimF, c4], rfl⟩

