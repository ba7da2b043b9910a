/-- what is now, the book aside -/
def agr (g g' : Nat → Int32) : Prop := ∀ k, k < 13 → k ≠ 4 → g k = g' k
theorem agr_env {g g' : Nat → Int32} (h : agr g g') (k : Nat) (w : Int) : envG g k w = envG g' k w := by
  unfold envG
  rw [h 0 (by decide) (by decide), h 1 (by decide) (by decide), h 3 (by decide) (by decide)]
  congr 2
  refine funext fun i => ?_
  by_cases hi : i < 8
  · rw [if_pos hi, if_pos hi, h _ (by omega) (by omega)]
  · rw [if_neg hi, if_neg hi]
theorem agr_up {g g' : Nat → Int32} (h : agr g g') (j : Nat) {v v' : Int32} (e : v = v') : agr (upF g j v) (upF g' j v') := fun k hk h4 => by
  by_cases q : k = j
  · rw [q, upF_at, upF_at, e]
  · rw [upF_o q, upF_o q]; exact h k hk h4
theorem agr_N {g g' : Nat → Int32} (h : agr g g') : agr (gN g) (gN g') := by
  unfold gN
  rw [h 2 (by decide) (by decide)]
  exact agr_up h 2 rfl
theorem agr_X {g g' : Nat → Int32} (h : agr g g') {m s : Nat} (hm : m < 8) : agr (gX g m s) (gX g' m s) := by
  unfold gX
  rw [h (5 + m) (by omega) (by omega)]
  exact agr_up h _ rfl
theorem agr_W {g g' : Nat → Int32} (h : agr g g') {m w s1 : Nat} : agr (gWrite g m w s1) g' := fun k hk h4 => by
  unfold gWrite
  rw [if_neg h4, if_pos hk]
  exact h k hk h4
theorem agr_mark {DW DF : Option (Env → Int)} {k : Nat} {p p' : (Nat → Int32) × Nat} (h : agr p.1 p'.1) (hk : k < 8) (h2 : p.2 = p'.2) : agr (gMark DW DF true k p).1 (gMark DW DF false k p').1 ∧ (gMark DW DF true k p).2 = (gMark DW DF false k p').2 := by
  unfold gMark
  have e3 := h 3 (by decide) (by decide)
  have e2 := h 2 (by decide) (by decide)
  rw [agr_env h k 0, e3, e2, h2]
  have h1 : agr (upF p.1 3 (nI (min 999999 (tn (p'.1 3) + feV DF (envG p'.1 k 0))))) (upF p'.1 3 (nI (min 999999 (tn (p'.1 3) + feV DF (envG p'.1 k 0))))) := agr_up h 3 rfl
  generalize upF p.1 3 (nI (min 999999 (tn (p'.1 3) + feV DF (envG p'.1 k 0)))) = a at *
  generalize upF p'.1 3 (nI (min 999999 (tn (p'.1 3) + feV DF (envG p'.1 k 0)))) = b at *
  have h3 := agr_N h1
  have h4 := agr_N h3
  rw [h3 (5 + k) (by omega) (by omega), h3 2 (by decide) (by decide), agr_env h4]
  split
  · split
    · exact ⟨agr_W (agr_X h4 hk), rfl⟩
    · exact ⟨h4, rfl⟩
  · exact ⟨h3, rfl⟩
theorem agr_marks {DW DF : Option (Env → Int)} {g g' : Nat → Int32} (h : agr g g') : ∀ k, k ≤ 8 → agr (gMarks DW DF true g k).1 (gMarks DW DF false g' k).1 ∧ (gMarks DW DF true g k).2 = (gMarks DW DF false g' k).2
  | 0, _ => ⟨h, rfl⟩
  | k + 1, hk => by
    have q := agr_marks (DW := DW) (DF := DF) h k (by omega)
    exact agr_mark q.1 (by omega) q.2
theorem agr_pass {DW DF : Option (Env → Int)} {g g' : Nat → Int32} (h : agr g g') (hg : WFg g) : agr (gPass DW DF true g).1 (gPass DW DF false g').1 := by
  have w0 := (wg_n hg (k := 0) (n := 8) (by decide) (by decide)).2
  unfold gPass
  rw [← h 0 (by decide) (by decide)]
  have q := (agr_marks (DW := DW) (DF := DF) h (tn (g 0)) w0).1
  refine agr_up q 1 ?_
  rw [q 1 (by decide) (by decide)]
/-- without the book's being written the book stays -/
theorem off_pass {DW DF : Option (Env → Int)} {g : Nat → Int32} (hg : WFg g) : ∀ k, k = 0 ∨ k = 4 ∨ 13 ≤ k → (gPass DW DF false g).1 k = g k := by
  have w0 := (wg_n hg (k := 0) (n := 8) (by decide) (by decide)).2
  have hm : ∀ m, m ≤ 8 → ∀ k, k = 0 ∨ k = 4 ∨ 13 ≤ k → (gMarks DW DF false g m).1 k = g k := itr_invN (f := gMark DW DF false) (fun _ (p : (Nat → Int32) × Nat) => ∀ k, k = 0 ∨ k = 4 ∨ 13 ≤ k → p.1 k = g k) 8 (fun _ _ => rfl) (fun m p hm8 hp k hk => by
    have hu : ∀ (f : Nat → Int32) (j : Nat) (v : Int32), (j = 2 ∨ j = 3 ∨ (5 ≤ j ∧ j < 13)) → upF f j v k = f k := fun f j v hj => upF_o (by omega)
    rw [← hp k hk]
    unfold gMark gX gN
    split
    · split
      · show upF _ _ _ k = _
        rw [hu _ _ _ (by omega), hu _ _ _ (by omega), hu _ _ _ (by omega), hu _ _ _ (by omega)]
      · show upF _ _ _ k = _
        rw [hu _ _ _ (by omega), hu _ _ _ (by omega), hu _ _ _ (by omega)]
    · show upF _ _ _ k = _
      rw [hu _ _ _ (by omega), hu _ _ _ (by omega)])
  intro k hk
  show upF _ 1 _ k = g k
  rw [upF_o (by omega)]
  exact hm (tn (g 0)) w0 k hk
def foI (wr : Bool) (s : Sg) (g : Nat → Int32) : Nat → Int32 := if tn (g 1) < 9999 then (gPass (lwS s).1 (lwS s).2 wr g).1 else g
def foG (wr : Bool) (s : Sg) (n : Nat) : Nat → Int32 := itr (fun _ => foI wr s) (nowG s.1) n
theorem WF_fo {wr : Bool} {s : Sg} (hw : WFs s) : ∀ k, WFg (foG wr s k) := itr_inv (f := fun _ => foI wr s) (fun _ (g : Nat → Int32) => WFg g) (WFg_now hw) (fun k g hg => by
  unfold foI
  split
  · rename_i h; exact gPass_ok hg h
  · exact hg)
theorem fo_s {wr : Bool} {s : Sg} {k : Nat} : foG wr s (k + 1) = foI wr s (foG wr s k) := rfl
theorem fo_0 {wr : Bool} {s : Sg} : foG wr s 0 = nowG s.1 := rfl
theorem agr_0 (g : Nat → Int32) : agr g g := fun _ _ _ => rfl
theorem fo_agr {s : Sg} (hw : WFs s) (k : Nat) : agr (foG true s k) (foG false s k) := by
  induction k with
  | zero =>
    rw [fo_0, fo_0]
    exact agr_0 _
  | succ k q =>
    have hW := WF_fo (wr := true) hw k
    rw [fo_s, fo_s]
    generalize foG true s k = a at *
    generalize foG false s k = b at *
    unfold foI
    rw [q 1 (by decide) (by decide)]
    split
    · exact agr_pass q hW
    · exact q
theorem fo_off {s : Sg} (hw : WFs s) (n : Nat) : ∀ k, k = 0 ∨ k = 4 ∨ 13 ≤ k → foG false s n k = nowG s.1 k := by
  induction n with
  | zero => exact fun _ _ => rfl
  | succ n q =>
    intro k hk
    have hW := WF_fo (wr := false) hw n
    rw [fo_s]
    generalize foG false s n = a at *
    unfold foI
    split
    · rw [off_pass hW k hk]; exact q k hk
    · exact q k hk
theorem fo_1 {wr : Bool} {s : Sg} {n : Nat} (h : tn (foG wr s n 1) < 9999) : foG wr s (n + 1) = (gPass (lwS s).1 (lwS s).2 wr (foG wr s n)).1 := if_pos h
theorem fo_2 {wr : Bool} {s : Sg} {n : Nat} (h : ¬ tn (foG wr s n 1) < 9999) : foG wr s (n + 1) = foG wr s n := if_neg h
theorem fo_st {wr : Bool} {s : Sg} {i : Nat} (h : ¬ tn (foG wr s i 1) < 9999) (k : Nat) : foG wr s (i + k) = foG wr s i := by
  induction k with
  | zero => rfl
  | succ k q =>
    rw [← q] at h
    exact (fo_2 h).trans q
def foC (s : Sg) (v k : Int32) : Bool := isInB v (nI 1) (nI 60) && mkB (mOf s.1) k
def foF (s : Sg) (v k : Int32) : Int32 := if foC s v k then foG true s (tn v) (5 + tn k) else (-1)
theorem CI_P {X Y : Mem} {s : Sg} (h : offP 218 X Y) (hC : CI X s) : CI Y s := CI_on (fun b hb => ⟨fun k => h.1 b (by omega) (by omega) k, h.2.1 b (by omega) (by omega) (by omega)⟩) hC
theorem sR_P2 {X Y : Mem} (h : offP 218 X Y) : sR X Y := ⟨fun b hb => ⟨fun k => h.1 b (by omega) (by omega) k, h.2.1 b (by omega) (by omega) (by omega), by rw [h.2.2]⟩, by rw [h.2.2]⟩
theorem lp_O_foretold {X : Mem} {s : Sg} {v m : Nat} {Q : Option Value → Mem → Prop} (hC : CI X s) (hw : WFs s) (hn : v ≤ 60) (kx : ∀ (Y : Mem) (i : Nat), Ok Y → CNow Y 218 (foG true s v) → offP 218 X Y → JM 6 m_O_foretold Q 77 [some (.ref 8), some (.int (nI v)), some (.int (nI m)), some (.int (nI i))] [] Y) : ∀ (k i : Nat) (Y : Mem), i + k = v → Ok Y → CNow Y 218 (foG true s i) → offP 218 X Y → JM 6 m_O_foretold Q 37 [some (.ref 8), some (.int (nI v)), some (.int (nI m)), some (.int (nI i))] [] Y := by
  intro k
  induction k with
  | zero =>
    intro i Y hi hY hN hof
    obtain rfl : i = v := by omega
    refine J_iload_n (i := 3) d_O_foretold_37 rfl rfl ?_
    refine J_iload_n (i := 1) d_O_foretold_38 rfl rfl ?_
    refine N_icmp_ge (tgt := 77) d_O_foretold_39 (by decide) (by omega) (by omega) (fun c39 => ?_) (fun c39 => absurd c39 (by omega))
    exact kx Y i hY hN hof
  | succ k ih =>
    intro i Y hi hY hN hof
    have hWg := WF_fo (wr := true) hw i
    have hs1 := fo_1 (wr := true) (s := s) (n := i)
    have hst := fo_st (wr := true) (s := s) (i := i)
    generalize hg0 : foG true s i = g at *
    have w1 := (wg_n hWg (k := 1) (n := 9999) (by decide) (by decide)).2
    refine J_iload_n (i := 3) d_O_foretold_37 rfl rfl ?_
    refine J_iload_n (i := 1) d_O_foretold_38 rfl rfl ?_
    refine N_icmp_ge (tgt := 77) d_O_foretold_39 (by decide) (by omega) (by omega) (fun c39 => absurd c39 (by omega)) (fun c39 => ?_)
    refine J_aload_n (i := 0) d_O_foretold_42 rfl rfl ?_
    refine M_getR (b := 218) d_O_foretold_43 f_O_58 rfl rfl rfl ?_
    refine M_get (x := (nI (tn (g 1)))) d_O_foretold_46 f_O_113 rfl rfl (hN.2.2.1.trans (wg_n hWg (k := 1) (n := 9999) (by decide) (by decide)).1) ?_
    refine J_sipush (v := nI 9999) d_O_foretold_49 rfl ?_
    refine N_icmp_ge (tgt := 77) d_O_foretold_52 (by decide) (by omega) (by omega) (fun c52 => ?_) (fun c52 => ?_)
    · exact kx Y i hY (by rw [show v = i + (k + 1) by omega, hst (by omega)]; exact hN) hof
    · refine J_aload_n (i := 0) d_O_foretold_55 rfl rfl ?_
      refine M_getR (b := 218) d_O_foretold_56 f_O_58 rfl rfl rfl ?_
      refine J_aload_n (i := 0) d_O_foretold_59 rfl rfl ?_
      refine M_getR (b := 16) d_O_foretold_60 f_O_41 rfl rfl rfl ?_
      refine J_aload_n (i := 0) d_O_foretold_63 rfl rfl ?_
      refine M_callV (av := []) d_O_foretold_64 s_O_155 (M_rcv rfl (by decide) rfl) (S_O_rulesL hY (CI_P hof hC) hw) (by decide) rfl rfl (Nat.le_of_ble_eq_true rfl) (fun q Y2 hq => ?_)
      obtain ⟨rfl, rv, rfl, hrv⟩ := hq
      refine M_callV (av := [.ref 16, rv]) d_O_foretold_67 s_O_159 (M_rcv rfl (by decide) rfl) (S_N_passYear_v hWg (by decide) (nw_s hw) hrv hY hN) (by decide) rfl rfl (Nat.le_of_ble_eq_true rfl) (fun q Z hq => ?_)
      obtain ⟨rfl, hZ, hNZ, hofZ⟩ := hq
      refine J_pop d_O_foretold_70 rfl ?_
      refine N_iinc (a := i) (c := 1) (L1 := [some (.ref 8), some (.int (nI v)), some (.int (nI m)), some (.int (nI (i + 1)))]) d_O_foretold_71 rfl rfl (by decide) rfl ?_
      refine J_goto (tgt := 37) d_O_foretold_74 (by decide) ?_
      exact ih (i + 1) Z (by omega) hZ (by rw [hs1 (by omega)]; exact hNZ) (offP_t hof hofZ)
theorem S_O_foretold {X : Mem} {s : Sg} {v k : Int32} (hX : Ok X) (hC : CI X s) (hw : WFs s) : CM 6 m_O_foretold [.ref 8, .int v, .int k] X (fun q Y => q = some (.int (foF s v k)) ∧ pC X s Y) := by
  have hS := v_CSt hC hw
  refine CM_of (L := [some (.ref 8), some (.int v), some (.int k), none]) 1 ok_O_foretold (fun _ => Nat.le_of_ble_eq_true rfl) rfl ?_
  refine J_iload_n (i := 1) d_O_foretold_0 rfl rfl ?_
  refine J_iconst (v := nI 1) d_O_foretold_1 rfl ?_
  refine J_icmp_lt (tgt := 19) d_O_foretold_2 (by decide) (fun c2 => ?_) (fun c2 => ?_)
  · refine J_iconst (v := (-1)) d_O_foretold_19 rfl ?_
    refine M_ir d_O_foretold_20 rfl rfl ?_
    have hc : foC s v k = false := by simp [foC, isInB, c2]
    exact ⟨by rw [foF, hc]; rfl, pC_0 hX hC⟩
  · refine J_iload_n (i := 1) d_O_foretold_5 rfl rfl ?_
    refine J_bipush (v := nI 60) d_O_foretold_6 rfl ?_
    refine J_icmp_gt (tgt := 19) d_O_foretold_8 (by decide) (fun c8 => ?_) (fun c8 => ?_)
    · refine J_iconst (v := (-1)) d_O_foretold_19 rfl ?_
      refine M_ir d_O_foretold_20 rfl rfl ?_
      have hc : foC s v k = false := by simp [foC, isInB, c8]
      exact ⟨by rw [foF, hc]; rfl, pC_0 hX hC⟩
    · refine J_aload_n (i := 0) d_O_foretold_11 rfl rfl ?_
      refine J_iload_n (i := 2) d_O_foretold_12 rfl rfl ?_
      refine CV_B (av := [.int k]) d_O_foretold_13 s_O_166 (M_rcv rfl (by decide) rfl) (S_O_isMark hX hS) (by decide) rfl rfl (Nat.le_of_ble_eq_true rfl) ?_
      refine B_if_ne (tgt := 21) d_O_foretold_16 (by decide) (fun c16 => ?_) (fun c16 => ?_)
      · have hin1 : isInB v (nI 1) (nI 60) = true := by simp only [isInB, Bool.and_eq_true, Bool.not_eq_true', decide_eq_false_iff_not]; exact ⟨c2, c8⟩
        have hin2 : mkB (mOf s.1) k = true := c16
        obtain ⟨v_, hv1, hv2, rfl⟩ := in_n (by decide) (by decide) hin1
        obtain ⟨k_, hk_, rfl⟩ := mk_n hS.1 hin2
        have hm8 := hS.1
        have tv := tn_nI (show v_ < 2147483648 by omega)
        have tk := tn_nI (show k_ < 2147483648 by omega)
        have hc : foC s (nI v_) (nI k_) = true := by rw [foC, hin1, hin2]; rfl
        refine J_aload_n (i := 0) d_O_foretold_21 rfl rfl ?_
        refine M_getR (b := 218) d_O_foretold_22 f_O_58 rfl rfl rfl ?_
        refine J_aload_n (i := 0) d_O_foretold_25 rfl rfl ?_
        refine M_getR (b := 18) d_O_foretold_26 f_O_48 rfl rfl rfl ?_
        refine M_getR (b := 19) d_O_foretold_29 f_O_110 rfl rfl rfl ?_
        refine M_callV (av := [.ref 19]) d_O_foretold_32 s_O_218 (M_rcv rfl (by decide) rfl) (S_N_copyFrom (a := 218) hX hC.1.1 rfl (by decide)) (by decide) rfl rfl (Nat.le_of_ble_eq_true rfl) (fun q Y hq => ?_)
        obtain ⟨rfl, hY, hNY, hof⟩ := hq
        refine J_iconst (v := nI 0) d_O_foretold_35 rfl ?_
        refine J_istore_n (i := 3) (L1 := [some (.ref 8), some (.int (nI v_)), some (.int (nI k_)), some (.int (nI 0))]) d_O_foretold_36 rfl (by decide) rfl ?_
        refine lp_O_foretold hC hw hv2 (fun Z i hZ hNZ hofZ => ?_) v_ 0 Y (by omega) hY hNY (offP_N hof)
        refine J_aload_n (i := 0) d_O_foretold_77 rfl rfl ?_
        refine M_getR (b := 218) d_O_foretold_78 f_O_58 rfl rfl rfl ?_
        refine M_getR (b := 219) d_O_foretold_81 f_O_169 rfl rfl rfl ?_
        refine J_iload_n (i := 2) d_O_foretold_84 rfl rfl ?_
        refine N_iald (x := (foG true s v_ (5 + k_))) d_O_foretold_85 rfl (by omega) (ltL hZ (a := 219) (n := 8) (by decide) rfl (by omega)) (hNZ.2.2.2.2.2.2.1 k_ (by omega)) ?_
        refine M_ir d_O_foretold_86 rfl rfl ?_
        exact ⟨by rw [foF, if_pos hc, tv, tk], hZ, CI_P hofZ hC, sR_P2 hofZ⟩
      · refine J_iconst (v := (-1)) d_O_foretold_19 rfl ?_
        refine M_ir d_O_foretold_20 rfl rfl ?_
        have hc : foC s v k = false := by simp [foC, c16]
        exact ⟨by rw [foF, hc]; rfl, pC_0 hX hC⟩

