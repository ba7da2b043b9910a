/-- beside the tokens nothing is other -/
def offG (X Y : Mem) : Prop := (∀ b, b ≠ 12 → ∀ k, Y.1 b k = X.1 b k) ∧ (∀ b, b ≠ 13 → b ≠ 14 → b ≠ 15 → Y.2.1 b = X.2.1 b) ∧ Y.2.2 = X.2.2
theorem offG_0 (X : Mem) : offG X X := ⟨fun _ _ _ => rfl, fun _ _ _ _ => rfl, rfl⟩
theorem offG_t {X Y Z : Mem} (h1 : offG X Y) (h2 : offG Y Z) : offG X Z := ⟨fun b hb k => (h2.1 b hb k).trans (h1.1 b hb k), fun b q1 q2 q3 => (h2.2.1 b q1 q2 q3).trans (h1.2.1 b q1 q2 q3), h2.2.2.trans h1.2.2⟩
/-- the first c tokens lie there -/
def TkC (X : Mem) (B : Nat → Nat) (c : Nat) : Prop := ∀ j, j < c → (X.2.1 13).getD j 0 = nI (kT B (stT B j)) ∧ (X.2.1 14).getD j 0 = nI (stT B j) ∧ (kT B (stT B j) = 45 → (X.2.1 15).getD j 0 = nI (vC B (stT B j)))
def TkI (X : Mem) (B : Nat → Nat) (m c p : Nat) (Y : Mem) : Prop := Ok Y ∧ GTv Y B m p ∧ TkC Y B c ∧ offG X Y
theorem kT_45 {B : Nat → Nat} {q : Nat} (h0 : B q ≠ 256) (h1 : isLt (B q) = false) (h2 : isDg (B q) = true) : kT B q = 45 ∧ eN B q = eD B q := by
  unfold kT eN
  rw [if_neg h0, if_neg h0, h1, h2]
  exact ⟨rfl, rfl⟩
theorem kT_n45 {B : Nat → Nat} {q : Nat} (h2 : isDg (B q) = false) : kT B q ≠ 45 := by
  unfold kT
  split
  · decide
  · split
    · have := kwf_le KW 0 (lw B q (eL B q))
      have e : KW.length = 32 := by decide
      omega
    · rw [h2]
      exact (sgK_ne _ _).2.1
theorem Lt_Dg {c : Nat} (h : isLt c = true) : isDg c = false := fls (fun q => by have := isLt_t.mp h; have := isDg_t.mp q; omega)
/-- one token more -/
theorem Tk_next {X Y Z : Mem} {B : Nat → Nat} {m c p : Nat} {l : List Int32} (hI : TkI X B m c p Y) (hc : c ≤ 300) (hp : stT B c = p) (e1 : ∀ b, b ≠ 12 → ∀ k, Z.1 b k = Y.1 b k) (e2 : Z.1 12 4 = Y.1 12 4) (e3 : Z.1 12 5 = nI (eN B p)) (a13 : Z.2.1 13 = (Y.2.1 13).set c (nI (kT B p))) (a14 : Z.2.1 14 = (Y.2.1 14).set c (nI p)) (a15 : Z.2.1 15 = l) (al : l.length = 301) (a15o : ∀ j, j ≠ c → l.getD j 0 = (Y.2.1 15).getD j 0) (a15c : kT B p = 45 → l.getD c 0 = nI (vC B p)) (ao : ∀ b, b ≠ 13 → b ≠ 14 → b ≠ 15 → Z.2.1 b = Y.2.1 b) (e4 : Z.2.2 = Y.2.2) (hZ : Ok Z) : TkI X B m (c + 1) (eN B p) Z := by
  obtain ⟨hY, hV, hT, ho⟩ := hI
  have l13 : (Y.2.1 13).length = 301 := hY.1 13 (by decide)
  have l14 : (Y.2.1 14).length = 301 := hY.1 14 (by decide)
  refine ⟨hZ, ⟨e2.trans hV.1, e3, fun q hq => by rw [ao 9 (by decide) (by decide) (by decide)]; exact hV.2.2 q hq⟩, fun j hj => ?_, offG_t ho ⟨e1, ao, e4⟩⟩
  rw [a13, a14, a15]
  by_cases e : j = c
  · rw [e, set_eq (by omega), set_eq (by omega), hp]
    exact ⟨rfl, rfl, a15c⟩
  · rw [set_ne (Ne.symm e), set_ne (Ne.symm e), a15o j e]
    exact hT j (by omega)
theorem lp_G_take {X : Mem} {B : Nat → Nat} {m : Nat} {Q : Option Value → Mem → Prop} (hB : okB B m) (kx : ∀ (Y : Mem) (c : Nat) (z3 : Option Value), c ≤ 300 → stT B c = m → TkI X B m c m Y → JM 5 m_G_take Q 126 [some (.ref 12), some (.int (nI m)), some (.int (nI c)), z3] [] Y) : ∀ (k p c : Nat) (Y : Mem) (z3 : Option Value), m - p = k → p ≤ m → c ≤ p → sk B p = stT B c → TkI X B m c p Y → JM 5 m_G_take Q 18 [some (.ref 12), some (.int (nI m)), some (.int (nI c)), z3] [] Y := by
  have h300 := hB.1
  intro k
  induction k using Nat.strongRecOn with
  | ind k ih0 =>
    intro p c Y z3 hk hpm hcp hst hI
    have ih : ∀ (p2 c : Nat) (Y : Mem) (z3 : Option Value), p < p2 → p2 ≤ m → c ≤ p2 → sk B p2 = stT B c → TkI X B m c p2 Y → JM 5 m_G_take Q 18 [some (.ref 12), some (.int (nI m)), some (.int (nI c)), z3] [] Y := fun p2 c Y z3 h1 h2 h3 h4 h5 => ih0 (m - p2) (by omega) p2 c Y z3 rfl h2 h3 h4 h5
    by_cases hpe : p = m
    · have hsm : stT B c = m := by rw [← hst, hpe]; exact sc_f (okB_B hB m (Nat.le_refl m))
      refine J_aload_n (i := 0) d_G_take_18 rfl rfl ?_
      refine M_get (x := (nI p)) d_G_take_19 f_G_34 rfl rfl hI.2.1.2.1 ?_
      refine J_aload_n (i := 0) d_G_take_22 rfl rfl ?_
      refine M_get (x := (nI m)) d_G_take_23 f_G_30 rfl rfl hI.2.1.1 ?_
      refine N_icmp_ge (tgt := 126) d_G_take_26 (by decide) (by omega) (by omega) (fun c26 => ?_) (fun c26 => absurd c26 (by omega))
      subst hpe
      exact kx Y c z3 (by omega) hsm hI
    · have hb := hB.2.1 p (by omega)
      refine J_aload_n (i := 0) d_G_take_18 rfl rfl ?_
      refine M_get (x := (nI p)) d_G_take_19 f_G_34 rfl rfl hI.2.1.2.1 ?_
      refine J_aload_n (i := 0) d_G_take_22 rfl rfl ?_
      refine M_get (x := (nI m)) d_G_take_23 f_G_30 rfl rfl hI.2.1.1 ?_
      refine N_icmp_ge (tgt := 126) d_G_take_26 (by decide) (by omega) (by omega) (fun c26 => absurd c26 (by omega)) (fun c26 => ?_)
      refine J_iload_n (i := 2) d_G_take_29 rfl rfl ?_
      refine J_sipush (v := nI 300) d_G_take_30 rfl ?_
      refine N_icmp_ge (tgt := 126) d_G_take_33 (by decide) (by omega) (by omega) (fun c33 => absurd c33 (by omega)) (fun c33 => ?_)
      refine J_aload_n (i := 0) d_G_take_36 rfl rfl ?_
      refine M_getR (b := 9) d_G_take_37 f_G_21 rfl rfl rfl ?_
      refine J_aload_n (i := 0) d_G_take_40 rfl rfl ?_
      refine M_get (x := (nI p)) d_G_take_41 f_G_34 rfl rfl hI.2.1.2.1 ?_
      refine N_iald (x := (nI (B p))) d_G_take_44 rfl (by omega) (ltL hI.1 (a := 9) (n := 300) (by decide) rfl (by omega)) (hI.2.1.2.2 p (by omega)) ?_
      refine J_istore_n (i := 3) (L1 := [some (.ref 12), some (.int (nI m)), some (.int (nI c)), some (.int (nI (B p)))]) d_G_take_45 rfl (by decide) rfl ?_
      refine J_iload_n (i := 3) d_G_take_46 rfl rfl ?_
      refine J_bipush (v := nI 32) d_G_take_47 rfl ?_
      refine N_icmp_eq (tgt := 58) d_G_take_49 (by decide) (by omega) (by omega) (fun c49 => ?_) (fun c49 => ?_)
      · refine J_aload_n (i := 0) d_G_take_58 rfl rfl ?_
        refine J_dup d_G_take_59 rfl ?_
        refine M_get (x := (nI p)) d_G_take_60 f_G_34 rfl rfl hI.2.1.2.1 ?_
        refine J_iconst (v := nI 1) d_G_take_63 rfl ?_
        refine N_iadd d_G_take_64 ?_
        refine M_put d_G_take_65 p_G_34 rfl rfl rfl rfl ?_
        refine J_goto (tgt := 123) d_G_take_68 (by decide) ?_
        refine J_goto (tgt := 18) d_G_take_123 (by decide) ?_
        have hbl : isBl (B p) = true := isBl_t.mpr (by omega)
        exact ih (p + 1) c _ _ (by omega) (by omega) (by omega) ((sc_t (okB_B hB) hB.1 hbl).symm.trans hst) ⟨okF hI.1, ⟨(pF_k (by decide)).trans hI.2.1.1, pF_at, hI.2.1.2.2⟩, hI.2.2.1, offG_t hI.2.2.2 ⟨fun b hb k => pF_o hb, fun _ _ _ _ => rfl, rfl⟩⟩
      · refine J_iload_n (i := 3) d_G_take_52 rfl rfl ?_
        refine J_bipush (v := nI 10) d_G_take_53 rfl ?_
        refine N_icmp_ne (tgt := 71) d_G_take_55 (by decide) (by omega) (by omega) (fun c55 => ?_) (fun c55 => ?_)
        · have hbl : isBl (B p) = false := fls (fun z => by have := isBl_t.mp z; omega)
          have hsk : stT B c = p := by rw [← hst]; exact sc_f hbl
          have hu := eN_lt hB (show p < m by omega)
          have h0 := okB_2 hB (show p < m by omega)
          have hV14 : GTv (pA Y 14 ((Y.2.1 14).set c (nI p))) B m p := ⟨hI.2.1.1, hI.2.1.2.1, hI.2.1.2.2⟩
          refine J_aload_n (i := 0) d_G_take_71 rfl rfl ?_
          refine M_getR (b := 14) d_G_take_72 f_G_15 rfl rfl rfl ?_
          refine J_iload_n (i := 2) d_G_take_75 rfl rfl ?_
          refine J_aload_n (i := 0) d_G_take_76 rfl rfl ?_
          refine M_get (x := (nI p)) d_G_take_77 f_G_34 rfl rfl hI.2.1.2.1 ?_
          refine N_iast d_G_take_80 rfl (by decide) (by omega) (ltL hI.1 (a := 14) (n := 301) (by decide) rfl (by omega)) ?_
          refine J_aload_n (i := 0) d_G_take_81 rfl rfl ?_
          refine M_getR (b := 13) d_G_take_82 f_G_9 rfl rfl rfl ?_
          refine J_iload_n (i := 2) d_G_take_85 rfl rfl ?_
          refine J_iload_n (i := 3) d_G_take_86 rfl rfl ?_
          refine CS_B (av := [.int (nI (B p))]) d_G_take_87 s_G_37 (S_G_isLetter (by omega)) (by decide) rfl rfl (Nat.le_of_ble_eq_true rfl) ?_
          refine B_if_eq (tgt := 100) d_G_take_90 (by decide) (fun c90 => ?_) (fun c90 => ?_)
          · refine J_iload_n (i := 3) d_G_take_100 rfl rfl ?_
            refine CS_B (av := [.int (nI (B p))]) d_G_take_101 s_G_45 (S_G_isDigit (by omega)) (by decide) rfl rfl (Nat.le_of_ble_eq_true rfl) ?_
            refine B_if_eq (tgt := 115) d_G_take_104 (by decide) (fun c104 => ?_) (fun c104 => ?_)
            · refine J_aload_n (i := 0) d_G_take_115 rfl rfl ?_
              refine CV_N (av := []) d_G_take_116 s_G_52 (M_rcv rfl (by decide) rfl) (S_G_takeSign (okS hI.1 rfl) hB hV14 (by omega) c90 c104) (by decide) rfl rfl (Nat.le_of_ble_eq_true rfl) ?_
              refine N_iast d_G_take_119 rfl (by decide) (by omega) (show c < _ by rw [show ((pF (pA Y 14 ((Y.2.1 14).set c (nI p))) 12 5 (nI (eN B p)))).2.1 13 = Y.2.1 13 from rfl, hI.1.1 13 (by decide)]; exact Nat.lt_of_le_of_lt (show c ≤ 300 by omega) (by decide)) ?_
              refine N_iinc (a := c) (c := 1) (L1 := [some (.ref 12), some (.int (nI m)), some (.int (nI (c + 1))), some (.int (nI (B p)))]) d_G_take_120 rfl rfl (by decide) rfl ?_
              refine J_goto (tgt := 18) d_G_take_123 (by decide) ?_
              have hI2 : TkI X B m (c + 1) (eN B p) (pA (pF (pA Y 14 ((Y.2.1 14).set c (nI p))) 12 5 (nI (eN B p))) 13 (((pF (pA Y 14 ((Y.2.1 14).set c (nI p))) 12 5 (nI (eN B p))).2.1 13).set c (nI (kT B p)))) := by
                refine Tk_next (l := Y.2.1 15) hI (by omega) hsk (fun b hb k => pF_o hb) (show (pF Y 12 5 (nI (eN B p))).1 12 4 = Y.1 12 4 from pF_k (by decide)) (show (pF Y 12 5 (nI (eN B p))).1 12 5 = _ from pF_at) rfl rfl rfl (hI.1.1 15 (by decide)) (fun j hj => rfl) (fun h45 => absurd h45 (kT_n45 c104)) (fun b b1 b2 b3 => ?_) rfl ?_
                · show (if b = 13 then _ else if b = 14 then _ else Y.2.1 b) = Y.2.1 b
                  rw [if_neg b1, if_neg b2]
                · exact okA (okF (okS hI.1 rfl)) rfl (by first | (rw [List.length_set]; done) | (rw [List.length_set]; rfl))
              exact ih (eN B p) (c + 1) _ _ (by omega) (by omega) (by omega) (by rw [← hsk]; rfl) hI2
            · refine J_aload_n (i := 0) d_G_take_107 rfl rfl ?_
              refine J_iload_n (i := 2) d_G_take_108 rfl rfl ?_
              refine CV_N (av := [.int (nI c)]) d_G_take_109 s_G_48 (M_rcv rfl (by decide) rfl) (S_G_takeDigits (okS hI.1 rfl) hB hV14 (by omega) (by omega)) (by decide) rfl rfl (Nat.le_of_ble_eq_true rfl) ?_
              refine J_goto (tgt := 119) d_G_take_112 (by decide) ?_
              refine N_iast d_G_take_119 rfl (by decide) (by omega) (show c < _ by rw [show ((pA (pF (pA Y 14 ((Y.2.1 14).set c (nI p))) 12 5 (nI (eD B p))) 15 (((pA Y 14 ((Y.2.1 14).set c (nI p))).2.1 15).set c (nI (vC B p))))).2.1 13 = Y.2.1 13 from rfl, hI.1.1 13 (by decide)]; exact Nat.lt_of_le_of_lt (show c ≤ 300 by omega) (by decide)) ?_
              refine N_iinc (a := c) (c := 1) (L1 := [some (.ref 12), some (.int (nI m)), some (.int (nI (c + 1))), some (.int (nI (B p)))]) d_G_take_120 rfl rfl (by decide) rfl ?_
              refine J_goto (tgt := 18) d_G_take_123 (by decide) ?_
              have h45 := kT_45 h0 c90 c104
              have hI2 : TkI X B m (c + 1) (eN B p) (pA (pA (pF (pA Y 14 ((Y.2.1 14).set c (nI p))) 12 5 (nI (eD B p))) 15 (((pA Y 14 ((Y.2.1 14).set c (nI p))).2.1 15).set c (nI (vC B p)))) 13 (((pA (pF (pA Y 14 ((Y.2.1 14).set c (nI p))) 12 5 (nI (eD B p))) 15 (((pA Y 14 ((Y.2.1 14).set c (nI p))).2.1 15).set c (nI (vC B p)))).2.1 13).set c (nI 45))) := by
                refine Tk_next (l := (Y.2.1 15).set c (nI (vC B p))) hI (by omega) hsk (fun b hb k => pF_o hb) (show (pF Y 12 5 (nI (eD B p))).1 12 4 = Y.1 12 4 from pF_k (by decide)) ?_ ?_ rfl rfl (by rw [List.length_set]; exact (hI.1.1 15 (by decide))) (fun j hj => set_ne (Ne.symm hj)) (fun _ => set_eq (by have l15 : (Y.2.1 15).length = 301 := (hI.1.1 15 (by decide)); omega)) (fun b b1 b2 b3 => ?_) rfl ?_
                · rw [h45.2]; exact (show (pF Y 12 5 (nI (eD B p))).1 12 5 = _ from pF_at)
                · rw [h45.1]; rfl
                · show (if b = 13 then _ else if b = 15 then _ else if b = 14 then _ else Y.2.1 b) = Y.2.1 b
                  rw [if_neg b1, if_neg b3, if_neg b2]
                · exact okA (okA (okF (okS hI.1 rfl)) rfl (by first | (rw [List.length_set]; done) | (rw [List.length_set]; rfl))) rfl (by first | (rw [List.length_set]; done) | (rw [List.length_set]; rfl))
              exact ih (eN B p) (c + 1) _ _ (by omega) (by omega) (by omega) (by rw [← hsk]; rfl) hI2
          · refine J_aload_n (i := 0) d_G_take_93 rfl rfl ?_
            refine CV_N (av := []) d_G_take_94 s_G_41 (M_rcv rfl (by decide) rfl) (S_G_takeWord (okS hI.1 rfl) hB hV14 (by omega) c90) (by decide) rfl rfl (Nat.le_of_ble_eq_true rfl) ?_
            refine J_goto (tgt := 119) d_G_take_97 (by decide) ?_
            refine N_iast d_G_take_119 rfl (by decide) (by omega) (show c < _ by rw [show ((pF (pA Y 14 ((Y.2.1 14).set c (nI p))) 12 5 (nI (eN B p)))).2.1 13 = Y.2.1 13 from rfl, hI.1.1 13 (by decide)]; exact Nat.lt_of_le_of_lt (show c ≤ 300 by omega) (by decide)) ?_
            refine N_iinc (a := c) (c := 1) (L1 := [some (.ref 12), some (.int (nI m)), some (.int (nI (c + 1))), some (.int (nI (B p)))]) d_G_take_120 rfl rfl (by decide) rfl ?_
            refine J_goto (tgt := 18) d_G_take_123 (by decide) ?_
            have hI2 : TkI X B m (c + 1) (eN B p) (pA (pF (pA Y 14 ((Y.2.1 14).set c (nI p))) 12 5 (nI (eN B p))) 13 (((pF (pA Y 14 ((Y.2.1 14).set c (nI p))) 12 5 (nI (eN B p))).2.1 13).set c (nI (kT B p)))) := by
              refine Tk_next (l := Y.2.1 15) hI (by omega) hsk (fun b hb k => pF_o hb) (show (pF Y 12 5 (nI (eN B p))).1 12 4 = Y.1 12 4 from pF_k (by decide)) (show (pF Y 12 5 (nI (eN B p))).1 12 5 = _ from pF_at) rfl rfl rfl (hI.1.1 15 (by decide)) (fun j hj => rfl) (fun h45 => absurd h45 (kT_n45 (Lt_Dg c90))) (fun b b1 b2 b3 => ?_) rfl ?_
              · show (if b = 13 then _ else if b = 14 then _ else Y.2.1 b) = Y.2.1 b
                rw [if_neg b1, if_neg b2]
              · exact okA (okF (okS hI.1 rfl)) rfl (by first | (rw [List.length_set]; done) | (rw [List.length_set]; rfl))
            exact ih (eN B p) (c + 1) _ _ (by omega) (by omega) (by omega) (by rw [← hsk]; rfl) hI2
        · refine J_aload_n (i := 0) d_G_take_58 rfl rfl ?_
          refine J_dup d_G_take_59 rfl ?_
          refine M_get (x := (nI p)) d_G_take_60 f_G_34 rfl rfl hI.2.1.2.1 ?_
          refine J_iconst (v := nI 1) d_G_take_63 rfl ?_
          refine N_iadd d_G_take_64 ?_
          refine M_put d_G_take_65 p_G_34 rfl rfl rfl rfl ?_
          refine J_goto (tgt := 123) d_G_take_68 (by decide) ?_
          refine J_goto (tgt := 18) d_G_take_123 (by decide) ?_
          have hbl : isBl (B p) = true := isBl_t.mpr (by omega)
          exact ih (p + 1) c _ _ (by omega) (by omega) (by omega) ((sc_t (okB_B hB) hB.1 hbl).symm.trans hst) ⟨okF hI.1, ⟨(pF_k (by decide)).trans hI.2.1.1, pF_at, hI.2.1.2.2⟩, hI.2.2.1, offG_t hI.2.2.2 ⟨fun b hb k => pF_o hb, fun _ _ _ _ => rfl, rfl⟩⟩
theorem S_G_take {X : Mem} {B : Nat → Nat} {m : Nat} (hX : Ok X) (hB : okB B m) (hV : ∀ q, q < m → (X.2.1 9).getD q 0 = nI (B q)) : CM 5 m_G_take [.ref 12, .int (nI m)] X (fun r Y => r = none ∧ Ok Y ∧ offG X Y ∧ ∃ c, c ≤ 300 ∧ stT B c = m ∧ TkC Y B (c + 1)) := by
  have h300 := hB.1
  refine CM_of (L := [some (.ref 12), some (.int (nI m)), none, none]) 2 ok_G_take (fun _ => Nat.le_of_ble_eq_true rfl) rfl ?_
  refine J_aload_n (i := 0) d_G_take_0 rfl rfl ?_
  refine J_iload_n (i := 1) d_G_take_1 rfl rfl ?_
  refine J_sipush (v := nI 300) d_G_take_2 rfl ?_
  refine J_mmin d_G_take_5 w_G_24 w_math_min_s w_mathInit w_math_min_c (by omega) (Nat.le_of_ble_eq_true rfl) ?_
  refine I_ton (n := min m 300) (nI_min (by omega) (by omega)) ?_
  rw [show min m 300 = m by omega]
  refine M_put d_G_take_8 p_G_30 rfl rfl rfl rfl ?_
  refine J_aload_n (i := 0) d_G_take_11 rfl rfl ?_
  refine J_iconst (v := nI 0) d_G_take_12 rfl ?_
  refine M_put d_G_take_13 p_G_34 rfl rfl rfl rfl ?_
  refine J_iconst (v := nI 0) d_G_take_16 rfl ?_
  refine J_istore_n (i := 2) (L1 := [some (.ref 12), some (.int (nI m)), some (.int (nI 0)), none]) d_G_take_17 rfl (by decide) rfl ?_
  have hI0 : TkI X B m 0 0 (pF (pF X 12 4 (nI m)) 12 5 (nI 0)) := ⟨okF (okF hX), ⟨(pF_k (by decide)).trans pF_at, pF_at, hV⟩, fun j hj => absurd hj (Nat.not_lt_zero j), ⟨fun b hb k => (pF_o hb).trans (pF_o hb), fun _ _ _ _ => rfl, rfl⟩⟩
  refine lp_G_take hB (fun Y c z3 hc hst hI => ?_) m 0 0 _ _ (by omega) (by omega) (Nat.le_refl _) rfl hI0
  have l13 : (Y.2.1 13).length = 301 := hI.1.1 13 (by decide)
  have l14 : (Y.2.1 14).length = 301 := hI.1.1 14 (by decide)
  refine J_aload_n (i := 0) d_G_take_126 rfl rfl ?_
  refine M_getR (b := 14) d_G_take_127 f_G_15 rfl rfl rfl ?_
  refine J_iload_n (i := 2) d_G_take_130 rfl rfl ?_
  refine J_aload_n (i := 0) d_G_take_131 rfl rfl ?_
  refine M_get (x := (nI m)) d_G_take_132 f_G_30 rfl rfl hI.2.1.1 ?_
  refine N_iast d_G_take_135 rfl (by decide) (by omega) (ltL hI.1 (a := 14) (n := 301) (by decide) rfl (by omega)) ?_
  refine J_aload_n (i := 0) d_G_take_136 rfl rfl ?_
  refine M_getR (b := 13) d_G_take_137 f_G_9 rfl rfl rfl ?_
  refine J_iload_n (i := 2) d_G_take_140 rfl rfl ?_
  refine J_bipush (v := nI 46) d_G_take_141 rfl ?_
  refine N_iast d_G_take_143 rfl (by decide) (by omega) (ltL (okS hI.1 rfl) (a := 13) (n := 301) (by decide) rfl (by omega)) ?_
  refine M_vr d_G_take_144 rfl ?_
  refine ⟨rfl, okA (okS hI.1 rfl) rfl (by first | (rw [List.length_set]; done) | (rw [List.length_set]; rfl)), offG_t hI.2.2.2 ⟨fun _ _ _ => rfl, fun b b1 b2 b3 => ?_, rfl⟩, c, hc, hst, fun j hj => ?_⟩
  · show (if b = 13 then _ else if b = 14 then _ else Y.2.1 b) = Y.2.1 b
    rw [if_neg b1, if_neg b2]
  · show ((Y.2.1 13).set c (nI 46)).getD j 0 = _ ∧ ((Y.2.1 14).set c (nI m)).getD j 0 = _ ∧ (_ → (Y.2.1 15).getD j 0 = _)
    by_cases e : j = c
    · rw [e, set_eq (by omega), set_eq (by omega), hst, kT_end hB (Nat.le_refl m)]
      exact ⟨rfl, rfl, fun q => absurd q (by decide)⟩
    · rw [set_ne (Ne.symm e), set_ne (Ne.symm e)]
      exact hI.2.2.1 j (by omega)

