theorem oI_m1 {k : Nat} (hk : k ≤ 20) : oI k = -1 ↔ k = 20 := by
  constructor
  · intro e
    by_cases q : k = 20
    · exact q
    · rw [oI_lt (by omega)] at e
      exact absurd e (nI_nm1 (by omega))
  · intro e; rw [e]; rfl
theorem pens_0 : pens 0 = 0 := by decide +kernel
theorem bc_0 {a : Nat} (h : a < 1048576) (e : bc a = 0) : a = 0 := by
  rcases Nat.eq_zero_or_pos a with z | z
  · exact z
  · have := pcn_pos 32 a z (by omega)
    have h2 : bc a = pcn 32 a := rfl
    omega
theorem lp_K_nextOnTrail {X : Mem} {s p : Nat} (hX : Ok X) (hs : s < 1048576) (hp : p < 9) (hl : isLine s p = true) (h0 : s ≠ 0) {Q : Option Value → Mem → Prop} (kq : Q (some (.int (nI (nxQ s p)))) X) : ∀ (m q : Nat) (z3 z4 : Option Value), q + m = 9 → fstN (nxP s p) q m = nxQ s p → JM 1 m_K_nextOnTrail Q 2 [some (.int (nI p)), some (.int (nI s)), some (.int (nI q)), z3, z4] [] X := by
  have hlt := (nxQ_t hs hp hl h0).1
  intro m
  induction m with
  | zero =>
    intro q z3 z4 hq e
    have e : q = nxQ s p := e
    omega
  | succ m ih =>
    intro q z3 z4 hq e
    refine J_iload_n (i := 2) d_K_nextOnTrail_2 rfl rfl ?_
    refine J_bipush (v := nI 9) d_K_nextOnTrail_3 rfl ?_
    refine N_icmp_ge (tgt := 64) d_K_nextOnTrail_5 (by decide) (by omega) (by omega) (fun c5 => absurd c5 (by omega)) (fun c5 => ?_)
    refine J_iload_n (i := 0) d_K_nextOnTrail_8 rfl rfl ?_
    refine J_iload_n (i := 2) d_K_nextOnTrail_9 rfl rfl ?_
    refine CS_I (av := [.int (nI p), .int (nI q)]) d_K_nextOnTrail_10 s_K_51 (S_K_between hX (by omega) (by omega)) (by decide) rfl rfl (Nat.le_of_ble_eq_true rfl) ?_
    generalize hK : SOFL.getD (9 * p + q) 0 = k at *
    have hK20 : k ≤ 20 := by rw [← hK]; exact sof_le _ (by omega)
    refine J_istore_n (i := 3) (L1 := [some (.int (nI p)), some (.int (nI s)), some (.int (nI q)), some (.int (oI k)), z4]) d_K_nextOnTrail_13 rfl (by decide) rfl ?_
    refine J_iload_n (i := 3) d_K_nextOnTrail_14 rfl rfl ?_
    refine J_iconst (v := (-1)) d_K_nextOnTrail_15 rfl ?_
    refine J_icmp_eq (tgt := 58) d_K_nextOnTrail_16 (by decide) (fun c16 => ?_) (fun c16 => ?_)
    · refine N_iinc (a := q) (c := 1) (L1 := [some (.int (nI p)), some (.int (nI s)), some (.int (nI (q + 1))), some (.int (oI k)), z4]) d_K_nextOnTrail_58 rfl rfl (by decide) rfl ?_
      refine J_goto (tgt := 2) d_K_nextOnTrail_61 (by decide) ?_
      have hP : nxP s p q = false := by
        rw [nxP, hK, (oI_m1 hK20).mp c16]; rfl
      rw [fstN, hP, if_neg (by decide)] at e
      exact ih (q + 1) _ _ (by omega) e
    · have hk : k < 20 := by
        rcases Nat.lt_or_ge k 20 with z | z
        · exact z
        · exact absurd ((oI_m1 hK20).mpr (by omega)) c16
      rw [oI_lt hk]
      have han : andn s (1 <<< k) < 1048576 := andn_lt hs
      have hed := (edg_sof p hp q (by omega) k hk).mpr hK
      have hkn : (k != 20) = true := bne_iff_ne.mpr (by omega)
      refine J_iload_n (i := 1) d_K_nextOnTrail_19 rfl rfl ?_
      refine J_iload_n (i := 3) d_K_nextOnTrail_20 rfl rfl ?_
      refine N_ishr d_K_nextOnTrail_21 (by omega) (by omega) ?_
      refine J_iconst (v := nI 1) d_K_nextOnTrail_22 rfl ?_
      refine N_iand d_K_nextOnTrail_23 ?_
      refine J_iconst (v := nI 1) d_K_nextOnTrail_24 rfl ?_
      refine T_ne (tgt := 58) d_K_nextOnTrail_25 (by decide) (fun c25 => ?_) (fun c25 => ?_)
      · refine N_iinc (a := q) (c := 1) (L1 := [some (.int (nI p)), some (.int (nI s)), some (.int (nI (q + 1))), some (.int (nI k)), z4]) d_K_nextOnTrail_58 rfl rfl (by decide) rfl ?_
        refine J_goto (tgt := 2) d_K_nextOnTrail_61 (by decide) ?_
        have hP : nxP s p q = false := by
          rw [nxP, hK, c25, Bool.false_and, Bool.and_false]
        rw [fstN, hP, if_neg (by decide)] at e
        exact ih (q + 1) _ _ (by omega) e
      · refine J_iload_n (i := 1) d_K_nextOnTrail_28 rfl rfl ?_
        refine J_iconst (v := nI 1) d_K_nextOnTrail_29 rfl ?_
        refine J_iload_n (i := 3) d_K_nextOnTrail_30 rfl rfl ?_
        refine N_ishl d_K_nextOnTrail_31 (by omega) ?_
        refine J_iconst (v := (-1)) d_K_nextOnTrail_32 rfl ?_
        refine J_ixor d_K_nextOnTrail_33 ?_
        refine J_iand d_K_nextOnTrail_34 ?_
        refine I_ton (n := andn s (1 <<< k)) (nI_andn s (1 <<< k)) ?_
        refine J_istore (L1 := [some (.int (nI p)), some (.int (nI s)), some (.int (nI q)), some (.int (nI k)), some (.int (nI (andn s (1 <<< k))))]) d_K_nextOnTrail_35 (by decide) rfl ?_
        refine J_iload d_K_nextOnTrail_37 rfl ?_
        refine N_if_eq (tgt := 56) d_K_nextOnTrail_39 (by decide) (by omega) (fun c39 => ?_) (fun c39 => ?_)
        · refine J_iload_n (i := 2) d_K_nextOnTrail_56 rfl rfl ?_
          refine M_ir d_K_nextOnTrail_57 rfl rfl ?_
          have hP : nxP s p q = true := by
            rw [nxP, hK, c25, hkn, (nx_iff hk c25 hed hl h0).mp (Or.inl c39)]
            rfl
          rw [fstN, hP, if_pos rfl] at e
          rw [← e] at kq
          exact kq
        · have h1 := pcs_lt (s := andn s (1 <<< k)) (show q < 9 by omega)
          have h2 := pts_lt (andn s (1 <<< k))
          refine J_iload_n (i := 2) d_K_nextOnTrail_42 rfl rfl ?_
          refine J_iload d_K_nextOnTrail_43 rfl ?_
          refine CS_N (av := [.int (nI q), .int (nI (andn s (1 <<< k)))]) d_K_nextOnTrail_45 s_K_22 (S_K_joinedWith hX (by omega) (by omega)) (by decide) rfl rfl (Nat.le_of_ble_eq_true rfl) ?_
          refine J_iload d_K_nextOnTrail_48 rfl ?_
          refine CS_N (av := [.int (nI (andn s (1 <<< k)))]) d_K_nextOnTrail_50 s_K_18 (S_K_touched hX (by omega)) (by decide) rfl rfl (Nat.le_of_ble_eq_true rfl) ?_
          refine N_icmp_ne (tgt := 58) d_K_nextOnTrail_53 (by decide) (by omega) (by omega) (fun c53 => ?_) (fun c53 => ?_)
          · refine N_iinc (a := q) (c := 1) (L1 := [some (.int (nI p)), some (.int (nI s)), some (.int (nI (q + 1))), some (.int (nI k)), some (.int (nI (andn s (1 <<< k))))]) d_K_nextOnTrail_58 rfl rfl (by decide) rfl ?_
            refine J_goto (tgt := 2) d_K_nextOnTrail_61 (by decide) ?_
            have hP : nxP s p q = false := by
              rw [nxP, hK, c25, hkn]
              cases z : isLine (andn s (1 <<< k)) q
              · rfl
              · rcases (nx_iff hk c25 hed hl h0).mpr z with y | y
                · exact absurd y c39
                · exact absurd y c53
            rw [fstN, hP, if_neg (by decide)] at e
            exact ih (q + 1) _ _ (by omega) e
          · refine J_iload_n (i := 2) d_K_nextOnTrail_56 rfl rfl ?_
            refine M_ir d_K_nextOnTrail_57 rfl rfl ?_
            have hP : nxP s p q = true := by
              rw [nxP, hK, c25, hkn, (nx_iff hk c25 hed hl h0).mp (Or.inr c53)]
              rfl
            rw [fstN, hP, if_pos rfl] at e
            rw [← e] at kq
            exact kq
theorem S_K_nextOnTrail {X : Mem} {s p : Nat} (hX : Ok X) (hs : s < 1048576) (hp : p < 9) (hl : isLine s p = true) (h0 : s ≠ 0) : CM 1 m_K_nextOnTrail [.int (nI p), .int (nI s)] X (rN (nxQ s p) X) := by
  refine CM_of (L := [some (.int (nI p)), some (.int (nI s)), none, none, none]) 3 ok_K_nextOnTrail (fun _ => Nat.le_of_ble_eq_true rfl) rfl ?_
  refine J_iconst (v := nI 0) d_K_nextOnTrail_0 rfl ?_
  refine J_istore_n (i := 2) (L1 := [some (.int (nI p)), some (.int (nI s)), some (.int (nI 0)), none, none]) d_K_nextOnTrail_1 rfl (by decide) rfl ?_
  exact lp_K_nextOnTrail hX hs hp hl h0 ⟨rfl, rfl⟩ 9 0 _ _ (by omega) rfl

def trL (s i : Nat) (l : List Int32) : Prop := l.length = 21 ∧ ∀ j, j < i → l.getD j 0 = nI (trN s j).2
theorem trL_put {s i : Nat} {l : List Int32} (hi : i < 21) (h : trL s i l) : trL s (i + 1) (l.set i (nI (trN s i).2)) := by
  refine ⟨by rw [List.length_set]; exact h.1, fun j hj => ?_⟩
  by_cases e : i = j
  · subst e; rw [set_eq (by rw [h.1]; exact hi)]
  · rw [set_ne e]; exact h.2 j (by omega)
theorem bc_20 {s : Nat} (hs : s < 1048576) : bc s ≤ 20 := bc20 hs
theorem lp_K_trailInto {X : Mem} {s : Nat} {Q : Option Value → Mem → Prop} (hX : Ok X) (hs : s < 1048576) (h0 : s ≠ 0) (hp : pens s = 1) (kq : ∀ l, trL s (bc s + 1) l → Q (some (.int (nI (bc s + 1)))) (pA X 222 l)) : ∀ (m i : Nat) (l : List Int32) (z6 z7 : Option Value), i + m = bc s → trL s i l → JM 2 m_K_trailInto Q 37 [some (.ref 222), some (.int (nI s)), some (.int (nI (odd s))), some (.int (nI ((trN s i).2))), some (.int (nI ((trN s i).1))), some (.int (nI i)), z6, z7] [] (pA X 222 l) := by
  intro m
  induction m with
  | zero =>
    intro i l z6 z7 hi hl
    obtain ⟨g1, g2, g3, g4⟩ := tr_inv hs h0 hp i (by omega)
    have hXl : Ok (pA X 222 l) := okA hX rfl (by rw [hl.1]; exact (hX.1 222 (by decide)).symm)
    have hb20 := bc_20 hs
    have hput := trL_put (i := i) (by omega) hl
    generalize hx : trN s i = x at *
    have e0 : x.1 = 0 := bc_0 g1 (by omega)
    have hib : bc s = i := by omega
    rw [hib] at kq
    refine J_iload d_K_trailInto_37 rfl ?_
    refine N_if_eq (tgt := 108) d_K_trailInto_39 (by decide) (by omega) (fun c39 => ?_) (fun c39 => absurd c39 (by omega))
    refine J_aload_n (i := 0) d_K_trailInto_108 rfl rfl ?_
    refine J_iload d_K_trailInto_109 rfl ?_
    refine J_iload_n (i := 3) d_K_trailInto_111 rfl rfl ?_
    refine N_iast d_K_trailInto_112 rfl (by decide) (by omega) (ltL hXl (a := 222) (n := 21) (by decide) rfl (by omega)) ?_
    refine J_iload d_K_trailInto_113 rfl ?_
    refine J_iconst (v := nI 1) d_K_trailInto_115 rfl ?_
    refine N_iadd d_K_trailInto_116 ?_
    refine M_ir d_K_trailInto_117 rfl rfl ?_
    rw [pA_pA, pA_at]
    exact kq _ hput
  | succ m ih =>
    intro i l z6 z7 hi hl
    obtain ⟨g1, g2, g3, g4⟩ := tr_inv hs h0 hp i (by omega)
    have hXl : Ok (pA X 222 l) := okA hX rfl (by rw [hl.1]; exact (hX.1 222 (by decide)).symm)
    have hb20 := bc_20 hs
    have hput := trL_put (i := i) (by omega) hl
    generalize hx : trN s i = x at *
    have gne : x.1 ≠ 0 := fun e => by
      rw [e, show bc 0 = 0 from pcn_0 32] at g4
      omega
    obtain ⟨q1, q2⟩ := nxQ_t g1 g2 g3 gne
    rw [nxP, Bool.and_eq_true, Bool.and_eq_true, bne_iff_ne] at q2
    have hle := sof_le (9 * x.2 + nxQ x.1 x.2) (by omega)
    have hk : SOFL.getD (9 * x.2 + nxQ x.1 x.2) 0 < 20 := by omega
    have hXl2 : Ok (pA (pA X 222 l) 222 (((pA X 222 l).2.1 222).set i (nI x.2))) := okS hXl rfl
    refine J_iload d_K_trailInto_37 rfl ?_
    refine N_if_eq (tgt := 108) d_K_trailInto_39 (by decide) (by omega) (fun c39 => absurd c39 gne) (fun c39 => ?_)
    refine J_iload_n (i := 3) d_K_trailInto_42 rfl rfl ?_
    refine J_bipush (v := nI 9) d_K_trailInto_43 rfl ?_
    refine N_icmp_ge (tgt := 108) d_K_trailInto_45 (by decide) (by omega) (by omega) (fun c45 => absurd c45 (by omega)) (fun c45 => ?_)
    refine J_iload d_K_trailInto_48 rfl ?_
    refine J_iconst (v := nI 1) d_K_trailInto_50 rfl ?_
    refine N_iadd d_K_trailInto_51 ?_
    refine J_aload_n (i := 0) d_K_trailInto_52 rfl rfl ?_
    refine M_ilen (n := 21) d_K_trailInto_53 (by decide) (by rw [pA_at]; exact hl.1) ?_
    refine N_icmp_ge (tgt := 108) d_K_trailInto_54 (by decide) (by omega) (by omega) (fun c54 => absurd c54 (by omega)) (fun c54 => ?_)
    refine J_aload_n (i := 0) d_K_trailInto_57 rfl rfl ?_
    refine J_iload d_K_trailInto_58 rfl ?_
    refine J_iload_n (i := 3) d_K_trailInto_60 rfl rfl ?_
    refine N_iast d_K_trailInto_61 rfl (by decide) (by omega) (ltL hXl (a := 222) (n := 21) (by decide) rfl (by omega)) ?_
    refine N_iinc (a := i) (c := 1) (L1 := [some (.ref 222), some (.int (nI s)), some (.int (nI (odd s))), some (.int (nI x.2)), some (.int (nI x.1)), some (.int (nI (i + 1))), z6, z7]) d_K_trailInto_62 rfl rfl (by decide) rfl ?_
    refine J_iload_n (i := 3) d_K_trailInto_65 rfl rfl ?_
    refine J_iload d_K_trailInto_66 rfl ?_
    refine CS_N (av := [.int (nI x.2), .int (nI x.1)]) d_K_trailInto_68 s_K_48 (S_K_nextOnTrail hXl2 (by omega) (by omega) g3 gne) (by decide) rfl rfl (Nat.le_of_ble_eq_true rfl) ?_
    refine J_istore (L1 := [some (.ref 222), some (.int (nI s)), some (.int (nI (odd s))), some (.int (nI x.2)), some (.int (nI x.1)), some (.int (nI (i + 1))), some (.int (nI (nxQ x.1 x.2))), z7]) d_K_trailInto_71 (by decide) rfl ?_
    refine J_iload_n (i := 3) d_K_trailInto_73 rfl rfl ?_
    refine J_iload d_K_trailInto_74 rfl ?_
    refine CS_I (av := [.int (nI x.2), .int (nI (nxQ x.1 x.2))]) d_K_trailInto_76 s_K_51 (S_K_between hXl2 (by omega) (by omega)) (by decide) rfl rfl (Nat.le_of_ble_eq_true rfl) ?_
    rw [oI_lt hk]
    refine J_istore (L1 := [some (.ref 222), some (.int (nI s)), some (.int (nI (odd s))), some (.int (nI x.2)), some (.int (nI x.1)), some (.int (nI (i + 1))), some (.int (nI (nxQ x.1 x.2))), some (.int (nI (SOFL.getD (9 * x.2 + nxQ x.1 x.2) 0)))]) d_K_trailInto_79 (by decide) rfl ?_
    refine J_iload d_K_trailInto_81 rfl ?_
    refine J_iconst (v := (-1)) d_K_trailInto_83 rfl ?_
    refine J_icmp_ne (tgt := 91) d_K_trailInto_84 (by decide) (fun c84 => ?_) (fun c84 => absurd c84 (nI_nm1 (by omega)))
    refine J_iload d_K_trailInto_91 rfl ?_
    refine J_iconst (v := nI 1) d_K_trailInto_93 rfl ?_
    refine J_iload d_K_trailInto_94 rfl ?_
    refine N_ishl d_K_trailInto_96 (by omega) ?_
    refine J_iconst (v := (-1)) d_K_trailInto_97 rfl ?_
    refine J_ixor d_K_trailInto_98 ?_
    refine J_iand d_K_trailInto_99 ?_
    refine I_ton (n := andn x.1 (1 <<< (SOFL.getD (9 * x.2 + nxQ x.1 x.2) 0))) (nI_andn x.1 (1 <<< (SOFL.getD (9 * x.2 + nxQ x.1 x.2) 0))) ?_
    refine J_istore (L1 := [some (.ref 222), some (.int (nI s)), some (.int (nI (odd s))), some (.int (nI x.2)), some (.int (nI (andn x.1 (1 <<< (SOFL.getD (9 * x.2 + nxQ x.1 x.2) 0))))), some (.int (nI (i + 1))), some (.int (nI (nxQ x.1 x.2))), some (.int (nI (SOFL.getD (9 * x.2 + nxQ x.1 x.2) 0)))]) d_K_trailInto_100 (by decide) rfl ?_
    refine J_iload d_K_trailInto_102 rfl ?_
    refine J_istore_n (i := 3) (L1 := [some (.ref 222), some (.int (nI s)), some (.int (nI (odd s))), some (.int (nI (nxQ x.1 x.2))), some (.int (nI (andn x.1 (1 <<< (SOFL.getD (9 * x.2 + nxQ x.1 x.2) 0))))), some (.int (nI (i + 1))), some (.int (nI (nxQ x.1 x.2))), some (.int (nI (SOFL.getD (9 * x.2 + nxQ x.1 x.2) 0)))]) d_K_trailInto_104 rfl (by decide) rfl ?_
    refine J_goto (tgt := 37) d_K_trailInto_105 (by decide) ?_
    rw [pA_pA, pA_at]
    exact (ih (i + 1) _ _ _ (by omega) hput).eq (by rw [show trN s (i + 1) = trS x from by rw [← hx]; rfl]; rfl) rfl rfl
theorem S_K_trailInto {X : Mem} {s : Nat} (hX : Ok X) (hs : s < 1048576) : CM 2 m_K_trailInto [.ref 222, .int (nI s)] X (fun r Y => (pens s ≠ 1 ∧ r = some (.int (nI 0)) ∧ Y = X) ∨ (pens s = 1 ∧ s ≠ 0 ∧ r = some (.int (nI (bc s + 1))) ∧ ∃ l, trL s (bc s + 1) l ∧ Y = pA X 222 l)) := by
  have hlow : ∀ v, v < 512 → v ≠ 0 → 0 < lwN v ∧ lwN v < 1048576 := fun v h1 h2 => by
    have h := low_ok v h1 (by omega)
    rw [lowF, Bool.and_eq_true, Bool.and_eq_true, Bool.and_eq_true, Bool.and_eq_true, decide_eq_true_eq, decide_eq_true_eq] at h
    exact ⟨h.1.1.1.1, h.1.1.1.2⟩
  have ho5 := odd_lt s
  have hp5 := pts_lt s
  have hp144 := pens_le s
  refine CM_of (L := [some (.ref 222), some (.int (nI s)), none, none, none, none, none, none]) 6 ok_K_trailInto (fun _ => Nat.le_of_ble_eq_true rfl) rfl ?_
  refine J_iload_n (i := 1) d_K_trailInto_0 rfl rfl ?_
  refine CS_N (av := [.int (nI s)]) d_K_trailInto_1 s_K_42 (S_K_countPens hX (by omega)) (by decide) rfl rfl (Nat.le_of_ble_eq_true rfl) ?_
  refine J_iconst (v := nI 1) d_K_trailInto_4 rfl ?_
  refine N_icmp_eq (tgt := 10) d_K_trailInto_5 (by decide) (by omega) (by omega) (fun c5 => ?_) (fun c5 => ?_)
  · have h0 : s ≠ 0 := fun e => by rw [e, pens_0] at c5; cases c5
    have hst := low_st h0 c5
    refine J_iload_n (i := 1) d_K_trailInto_10 rfl rfl ?_
    refine CS_N (av := [.int (nI s)]) d_K_trailInto_11 s_K_34 (S_K_oddPoints hX (by omega)) (by decide) rfl rfl (Nat.le_of_ble_eq_true rfl) ?_
    refine J_istore_n (i := 2) (L1 := [some (.ref 222), some (.int (nI s)), some (.int (nI (odd s))), none, none, none, none, none]) d_K_trailInto_14 rfl (by decide) rfl ?_
    refine J_iload_n (i := 2) d_K_trailInto_15 rfl rfl ?_
    refine N_if_eq (tgt := 23) d_K_trailInto_16 (by decide) (by omega) (fun c16 => ?_) (fun c16 => ?_)
    · refine J_iload_n (i := 1) d_K_trailInto_23 rfl rfl ?_
      refine CS_N (av := [.int (nI s)]) d_K_trailInto_24 s_K_18 (S_K_touched hX (by omega)) (by decide) rfl rfl (Nat.le_of_ble_eq_true rfl) ?_
      have l0 : pts s ≠ 0 := fun e => by
        rw [pens_sm, smN_0 (fun k _ => by rw [pnF, e, Nat.zero_testBit]; rfl)] at c5
        cases c5
      obtain ⟨l1, l2⟩ := hlow (pts s) (by omega) l0
      rw [if_pos c16] at hst
      refine CS_N (av := [.int (nI (pts s))]) d_K_trailInto_27 s_K_45 (S_K_placeOfLowest (by omega) (by omega) (by omega)) (by decide) rfl rfl (Nat.le_of_ble_eq_true rfl) ?_
      rw [hst]
      refine J_istore_n (i := 3) (L1 := [some (.ref 222), some (.int (nI s)), some (.int (nI (odd s))), some (.int (nI (stP s))), none, none, none, none]) d_K_trailInto_30 rfl (by decide) rfl ?_
      refine J_iload_n (i := 1) d_K_trailInto_31 rfl rfl ?_
      refine J_istore (L1 := [some (.ref 222), some (.int (nI s)), some (.int (nI (odd s))), some (.int (nI (stP s))), some (.int (nI s)), none, none, none]) d_K_trailInto_32 (by decide) rfl ?_
      refine J_iconst (v := nI 0) d_K_trailInto_34 rfl ?_
      refine J_istore (L1 := [some (.ref 222), some (.int (nI s)), some (.int (nI (odd s))), some (.int (nI (stP s))), some (.int (nI s)), some (.int (nI 0)), none, none]) d_K_trailInto_35 (by decide) rfl ?_
      refine (lp_K_trailInto hX hs h0 c5 (fun l hl => ?_) (bc s) 0 (X.2.1 222) _ _ (by omega) ⟨by rw [hX.1 222 (by decide)]; rfl, fun j hj => by omega⟩).eq rfl rfl (congrArg hm pA_eta.symm)
      exact Or.inr ⟨c5, h0, rfl, l, hl, rfl⟩
    · refine J_iload_n (i := 2) d_K_trailInto_19 rfl rfl ?_
      refine J_goto (tgt := 27) d_K_trailInto_20 (by decide) ?_
      have l0 : odd s ≠ 0 := c16
      obtain ⟨l1, l2⟩ := hlow (odd s) (by omega) l0
      rw [if_neg c16] at hst
      refine CS_N (av := [.int (nI (odd s))]) d_K_trailInto_27 s_K_45 (S_K_placeOfLowest (by omega) (by omega) (by omega)) (by decide) rfl rfl (Nat.le_of_ble_eq_true rfl) ?_
      rw [hst]
      refine J_istore_n (i := 3) (L1 := [some (.ref 222), some (.int (nI s)), some (.int (nI (odd s))), some (.int (nI (stP s))), none, none, none, none]) d_K_trailInto_30 rfl (by decide) rfl ?_
      refine J_iload_n (i := 1) d_K_trailInto_31 rfl rfl ?_
      refine J_istore (L1 := [some (.ref 222), some (.int (nI s)), some (.int (nI (odd s))), some (.int (nI (stP s))), some (.int (nI s)), none, none, none]) d_K_trailInto_32 (by decide) rfl ?_
      refine J_iconst (v := nI 0) d_K_trailInto_34 rfl ?_
      refine J_istore (L1 := [some (.ref 222), some (.int (nI s)), some (.int (nI (odd s))), some (.int (nI (stP s))), some (.int (nI s)), some (.int (nI 0)), none, none]) d_K_trailInto_35 (by decide) rfl ?_
      refine (lp_K_trailInto hX hs h0 c5 (fun l hl => ?_) (bc s) 0 (X.2.1 222) _ _ (by omega) ⟨by rw [hX.1 222 (by decide)]; rfl, fun j hj => by omega⟩).eq rfl rfl (congrArg hm pA_eta.symm)
      exact Or.inr ⟨c5, h0, rfl, l, hl, rfl⟩
  · refine J_iconst (v := nI 0) d_K_trailInto_8 rfl ?_
    refine M_ir d_K_trailInto_9 rfl rfl ?_
    exact Or.inl ⟨c5, rfl, rfl⟩

def trailF (s i : Int32) : Int32 := if inR s 1048575 && decide (pens (tn s) = 1) then (if i = -1 then nI (bc (tn s) + 1) else if inR i (bc (tn s)) then nI (trN (tn s) (tn i)).2 else (-2)) else (-2)
theorem S_O_trail {X : Mem} {s i : Int32} (hX : Ok X) : CM 3 m_O_trail [.ref 8, .int s, .int i] X (fun r Y => r = some (.int (trailF s i)) ∧ ∃ l : List Int32, l.length = 21 ∧ Y = pA X 222 l) := by
  refine CM_of (L := [some (.ref 8), some (.int s), some (.int i), none]) 1 ok_O_trail (fun _ => Nat.le_of_ble_eq_true rfl) rfl ?_
  refine J_iload_n (i := 1) d_O_trail_0 rfl rfl ?_
  refine CS_B (av := [.int s]) d_O_trail_1 s_O_73 (S_O_isSet) (by decide) rfl rfl (Nat.le_of_ble_eq_true rfl) ?_
  refine B_if_ne (tgt := 10) d_O_trail_4 (by decide) (fun c4 => ?_) (fun c4 => ?_)
  · obtain ⟨s_, hs_, rfl⟩ := inR_n (n := 1048575) c4 (by decide)
    refine J_aload_n (i := 0) d_O_trail_10 rfl rfl ?_
    refine M_getR (b := 222) d_O_trail_11 f_O_65 rfl rfl rfl ?_
    refine J_iload_n (i := 1) d_O_trail_14 rfl rfl ?_
    refine M_callS (av := [.ref 222, .int (nI s_)]) d_O_trail_15 s_O_241 (S_K_trailInto hX (show s_ < 1048576 by omega)) (by decide) rfl rfl (Nat.le_of_ble_eq_true rfl) (fun r Y hq => ?_)
    have hb20 := bc_20 (show s_ < 1048576 by omega)
    rcases hq with ⟨hpn, rfl, hYX⟩ | ⟨hpn, hs0, rfl, l, hl, rfl⟩
    · obtain rfl : X = Y := hYX.symm
      refine J_istore_n (i := 3) (L1 := [some (.ref 8), some (.int (nI s_)), some (.int i), some (.int (nI 0))]) d_O_trail_18 rfl (by decide) rfl ?_
      refine J_iload_n (i := 3) d_O_trail_19 rfl rfl ?_
      refine N_if_ne (tgt := 26) d_O_trail_20 (by decide) (by omega) (fun c20 => absurd c20 (by decide)) (fun c20 => ?_)
      refine J_bipush (v := (-2)) d_O_trail_23 rfl ?_
      refine M_ir d_O_trail_25 rfl rfl ?_
      exact ⟨by rw [trailF, c4, tn_nI (show s_ < 2147483648 by omega), decide_eq_false hpn] <;> rfl, X.2.1 222, by rw [hX.1 222 (by decide)]; rfl, pA_eta.symm⟩
    · refine J_istore_n (i := 3) (L1 := [some (.ref 8), some (.int (nI s_)), some (.int i), some (.int (nI (bc s_ + 1)))]) d_O_trail_18 rfl (by decide) rfl ?_
      refine J_iload_n (i := 3) d_O_trail_19 rfl rfl ?_
      refine N_if_ne (tgt := 26) d_O_trail_20 (by decide) (by omega) (fun c20 => ?_) (fun c20 => absurd c20 (by omega))
      refine J_iload_n (i := 2) d_O_trail_26 rfl rfl ?_
      refine J_iconst (v := (-1)) d_O_trail_27 rfl ?_
      refine J_icmp_ne (tgt := 33) d_O_trail_28 (by decide) (fun c28 => ?_) (fun c28 => ?_)
      · refine J_iload_n (i := 2) d_O_trail_33 rfl rfl ?_
        refine J_if_lt (tgt := 51) d_O_trail_34 (by decide) (fun c34 => ?_) (fun c34 => ?_)
        · refine J_bipush (v := (-2)) d_O_trail_51 rfl ?_
          refine M_ir d_O_trail_53 rfl rfl ?_
          exact ⟨by rw [trailF, c4, tn_nI (show s_ < 2147483648 by omega), decide_eq_true hpn, Bool.true_and, if_pos rfl, if_neg c28, inR_no1 c34] <;> rfl, l, hl.1, rfl⟩
        · refine J_iload_n (i := 2) d_O_trail_37 rfl rfl ?_
          refine J_iload_n (i := 3) d_O_trail_38 rfl rfl ?_
          refine J_icmp_ge (tgt := 51) d_O_trail_39 (by decide) (fun c39 => ?_) (fun c39 => ?_)
          · refine J_bipush (v := (-2)) d_O_trail_51 rfl ?_
            refine M_ir d_O_trail_53 rfl rfl ?_
            exact ⟨by rw [trailF, c4, tn_nI (show s_ < 2147483648 by omega), decide_eq_true hpn, Bool.true_and, if_pos rfl, if_neg c28, inR_no2 (n := bc s_) (by omega) c34 c39] <;> rfl, l, hl.1, rfl⟩
          · have hin := inR_of (n := bc s_) (by omega) c34 c39
            obtain ⟨i_, hi_, rfl⟩ := inR_n (n := bc s_) hin (by omega)
            refine J_aload_n (i := 0) d_O_trail_42 rfl rfl ?_
            refine M_getR (b := 222) d_O_trail_43 f_O_65 rfl rfl rfl ?_
            refine J_iload_n (i := 2) d_O_trail_46 rfl rfl ?_
            refine N_iald (x := (nI ((trN s_ i_).2))) d_O_trail_47 rfl (by omega) (ltL (okA hX rfl (by rw [hl.1]; exact (hX.1 222 (by decide)).symm)) (a := 222) (n := 21) (by decide) rfl (by omega)) (by rw [pA_at]; exact hl.2 i_ (by omega)) ?_
            refine J_goto (tgt := 53) d_O_trail_48 (by decide) ?_
            refine M_ir d_O_trail_53 rfl rfl ?_
            exact ⟨by rw [trailF, c4, tn_nI (show s_ < 2147483648 by omega), decide_eq_true hpn, Bool.true_and, if_pos rfl, if_neg c28, hin, if_pos rfl, tn_nI (show i_ < 2147483648 by omega)] <;> rfl, l, hl.1, rfl⟩
      · refine J_iload_n (i := 3) d_O_trail_31 rfl rfl ?_
        refine M_ir d_O_trail_32 rfl rfl ?_
        exact ⟨by rw [trailF, c4, tn_nI (show s_ < 2147483648 by omega), decide_eq_true hpn, Bool.true_and, if_pos rfl, if_pos c28], l, hl.1, rfl⟩
  · refine J_bipush (v := (-2)) d_O_trail_7 rfl ?_
    refine M_ir d_O_trail_9 rfl rfl ?_
    exact ⟨by rw [trailF, c4] <;> rfl, X.2.1 222, by rw [hX.1 222 (by decide)]; rfl, pA_eta.symm⟩

theorem S_R_isNext {X : Mem} {s p q : Nat} (hX : Ok X) (hs : s < 1048576) (hp : p < 9) (hq : q < 9) : CM 5 m_R_isNext [.ref 244, .int (nI s), .int (nI p), .int (nI q)] X (rB (nxP s p q) X) := by
  refine CM_of (L := [some (.ref 244), some (.int (nI s)), some (.int (nI p)), some (.int (nI q)), none]) 1 ok_R_isNext (fun _ => Nat.le_of_ble_eq_true rfl) rfl ?_
  refine J_aload_n (i := 0) d_R_isNext_0 rfl rfl ?_
  refine M_getR (b := 250) d_R_isNext_1 f_R_25 rfl rfl rfl ?_
  refine J_bipush (v := nI 9) d_R_isNext_4 rfl ?_
  refine J_iload_n (i := 2) d_R_isNext_6 rfl rfl ?_
  refine N_imul d_R_isNext_7 ?_
  refine J_iload_n (i := 3) d_R_isNext_8 rfl rfl ?_
  refine N_iadd d_R_isNext_9 ?_
  refine N_iald (x := (oI (SOFL.getD ((9 * p) + q) 0))) d_R_isNext_10 rfl (by omega) (ltL hX (a := 250) (n := 81) (by decide) rfl (by omega)) (k_sof hX) ?_
  generalize hK : SOFL.getD (9 * p + q) 0 = k at *
  have hK20 : k ≤ 20 := by rw [← hK]; exact sof_le _ (by omega)
  refine J_istore (L1 := [some (.ref 244), some (.int (nI s)), some (.int (nI p)), some (.int (nI q)), some (.int (oI k))]) d_R_isNext_11 (by decide) rfl ?_
  refine J_iload d_R_isNext_13 rfl ?_
  refine J_iconst (v := (-1)) d_R_isNext_15 rfl ?_
  refine J_icmp_eq (tgt := 48) d_R_isNext_16 (by decide) (fun c16 => ?_) (fun c16 => ?_)
  · refine J_iconst (v := nI 0) d_R_isNext_48 rfl ?_
    refine J.eq (st1 := [.int (b2i false)]) ?_ rfl rfl rfl
    refine M_ir d_R_isNext_49 rfl b2i_nar ?_
    exact ⟨by rw [show nxP s p q = false by rw [nxP, hK, (oI_m1 hK20).mp c16]; rfl], rfl⟩
  · have hk : k < 20 := by
      rcases Nat.lt_or_ge k 20 with z | z
      · exact z
      · exact absurd ((oI_m1 hK20).mpr (by omega)) c16
    rw [oI_lt hk]
    have han : andn s (1 <<< k) < 1048576 := andn_lt hs
    have hkn : (k != 20) = true := bne_iff_ne.mpr (by omega)
    refine J_iload_n (i := 1) d_R_isNext_19 rfl rfl ?_
    refine J_iload d_R_isNext_20 rfl ?_
    refine CS_B (av := [.int (nI s), .int (nI k)]) d_R_isNext_22 s_R_94 (S_R_has (by first | omega | (simp only [*]; omega)) (by first | omega | exact Nat.lt_trans one_lt (by decide) | exact Nat.lt_trans oth_lt (by decide))) (by decide) rfl rfl (Nat.le_of_ble_eq_true rfl) ?_
    refine B_if_eq (tgt := 48) d_R_isNext_25 (by decide) (fun c25 => ?_) (fun c25 => ?_)
    · refine J_iconst (v := nI 0) d_R_isNext_48 rfl ?_
      refine J.eq (st1 := [.int (b2i false)]) ?_ rfl rfl rfl
      refine M_ir d_R_isNext_49 rfl b2i_nar ?_
      exact ⟨by rw [show nxP s p q = false by rw [nxP, hK, c25, Bool.false_and, Bool.and_false]], rfl⟩
    · refine J_aload_n (i := 0) d_R_isNext_28 rfl rfl ?_
      refine J_iload_n (i := 1) d_R_isNext_29 rfl rfl ?_
      refine J_iconst (v := nI 1) d_R_isNext_30 rfl ?_
      refine J_iload d_R_isNext_31 rfl ?_
      refine N_ishl d_R_isNext_33 (by omega) ?_
      refine J_iconst (v := (-1)) d_R_isNext_34 rfl ?_
      refine J_ixor d_R_isNext_35 ?_
      refine J_iand d_R_isNext_36 ?_
      refine I_ton (n := andn s (1 <<< k)) (nI_andn s (1 <<< k)) ?_
      refine J_iload_n (i := 3) d_R_isNext_37 rfl rfl ?_
      refine CV_B (av := [.int (nI (andn s (1 <<< k))), .int (nI q)]) d_R_isNext_38 s_R_133 (M_rcv rfl (by decide) rfl) (S_R_isLineFrom hX (by omega) (by omega)) (by decide) rfl rfl (Nat.le_of_ble_eq_true rfl) ?_
      refine B_if_eq (tgt := 48) d_R_isNext_41 (by decide) (fun c41 => ?_) (fun c41 => ?_)
      · refine J_iconst (v := nI 0) d_R_isNext_48 rfl ?_
        refine J.eq (st1 := [.int (b2i false)]) ?_ rfl rfl rfl
        refine M_ir d_R_isNext_49 rfl b2i_nar ?_
        exact ⟨by rw [show nxP s p q = false by rw [nxP, hK, c25, hkn, c41]; rfl], rfl⟩
      · refine J_iconst (v := nI 1) d_R_isNext_44 rfl ?_
        refine J_goto (tgt := 49) d_R_isNext_45 (by decide) ?_
        refine J.eq (st1 := [.int (b2i true)]) ?_ rfl rfl rfl
        refine M_ir d_R_isNext_49 rfl b2i_nar ?_
        exact ⟨by rw [show nxP s p q = true by rw [nxP, hK, c25, hkn, c41]; rfl], rfl⟩

theorem lp_R_layLine1 {X : Mem} {s : Nat} {Q : Option Value → Mem → Prop} (hX : Ok X) (hs : s < 1048576) (h0 : s ≠ 0) (hp : pens s = 1) {z3 z4 z5 : Option Value} (kx : JM 6 m_R_layLine Q 32 [some (.ref 244), some (.int (nI s)), some (.int (nI (stP s))), z3, z4, z5] [] X) : ∀ (m p : Nat), p + m = 9 → fstN (isLine s) p m = stP s → JM 6 m_R_layLine Q 17 [some (.ref 244), some (.int (nI s)), some (.int (nI p)), z3, z4, z5] [] X := by
  have hlt := (st_ok h0 hp).1
  intro m
  induction m with
  | zero =>
    intro p hq e
    have e : p = stP s := e
    omega
  | succ m ih =>
    intro p hq e
    refine J_aload_n (i := 0) d_R_layLine_17 rfl rfl ?_
    refine J_iload_n (i := 1) d_R_layLine_18 rfl rfl ?_
    refine J_iload_n (i := 2) d_R_layLine_19 rfl rfl ?_
    refine CV_B (av := [.int (nI s), .int (nI p)]) d_R_layLine_20 s_R_133 (M_rcv rfl (by decide) rfl) (S_R_isLineFrom hX (by omega) (by omega)) (by decide) rfl rfl (Nat.le_of_ble_eq_true rfl) ?_
    refine B_if_ne (tgt := 32) d_R_layLine_23 (by decide) (fun c23 => ?_) (fun c23 => ?_)
    · rw [fstN, if_pos c23] at e
      rw [← e] at kx
      exact kx
    · refine N_iinc (a := p) (c := 1) (L1 := [some (.ref 244), some (.int (nI s)), some (.int (nI (p + 1))), z3, z4, z5]) d_R_layLine_26 rfl rfl (by decide) rfl ?_
      refine J_goto (tgt := 17) d_R_layLine_29 (by decide) ?_
      rw [fstN, c23, if_neg (by decide)] at e
      exact ih (p + 1) (by omega) e
theorem lp_R_layLine2 {X : Mem} {s p c t : Nat} {Q : Option Value → Mem → Prop} (hXl : Ok X) (ht : t < 1048576) (hp : p < 9) (hl : isLine t p = true) (h0 : t ≠ 0) (kx : JM 6 m_R_layLine Q 70 [some (.ref 244), some (.int (nI s)), some (.int (nI p)), some (.int (nI c)), some (.int (nI t)), some (.int (nI (nxQ t p)))] [] X) : ∀ (m q : Nat), q + m = 9 → fstN (nxP t p) q m = nxQ t p → JM 6 m_R_layLine Q 52 [some (.ref 244), some (.int (nI s)), some (.int (nI p)), some (.int (nI c)), some (.int (nI t)), some (.int (nI q))] [] X := by
  have hlt := (nxQ_t ht hp hl h0).1
  intro m
  induction m with
  | zero =>
    intro q hq e
    have e : q = nxQ t p := e
    omega
  | succ m ih =>
    intro q hq e
    refine J_aload_n (i := 0) d_R_layLine_52 rfl rfl ?_
    refine J_iload d_R_layLine_53 rfl ?_
    refine J_iload_n (i := 2) d_R_layLine_55 rfl rfl ?_
    refine J_iload d_R_layLine_56 rfl ?_
    refine CV_B (av := [.int (nI t), .int (nI p), .int (nI q)]) d_R_layLine_58 s_R_136 (M_rcv rfl (by decide) rfl) (S_R_isNext hXl (by omega) (by omega) (by omega)) (by decide) rfl rfl (Nat.le_of_ble_eq_true rfl) ?_
    refine B_if_ne (tgt := 70) d_R_layLine_61 (by decide) (fun c61 => ?_) (fun c61 => ?_)
    · rw [fstN, if_pos c61] at e
      rw [← e] at kx
      exact kx
    · refine N_iinc (a := q) (c := 1) (L1 := [some (.ref 244), some (.int (nI s)), some (.int (nI p)), some (.int (nI c)), some (.int (nI t)), some (.int (nI (q + 1)))]) d_R_layLine_64 rfl rfl (by decide) rfl ?_
      refine J_goto (tgt := 52) d_R_layLine_67 (by decide) ?_
      rw [fstN, c61, if_neg (by decide)] at e
      exact ih (q + 1) (by omega) e
theorem lp_R_layLine3 {X : Mem} {s : Nat} {Q : Option Value → Mem → Prop} (hX : Ok X) (hs : s < 1048576) (h0 : s ≠ 0) (hp : pens s = 1) (kq : ∀ l, trL s (bc s + 1) l → Q (some (.int (nI (bc s + 1)))) (pA X 252 l)) : ∀ (m i : Nat) (l : List Int32) (z5 : Option Value), i + m = bc s → trL s (i + 1) l → JM 6 m_R_layLine Q 44 [some (.ref 244), some (.int (nI s)), some (.int (nI ((trN s i).2))), some (.int (nI (i + 1))), some (.int (nI ((trN s i).1))), z5] [] (pA X 252 l) := by
  intro m
  induction m with
  | zero =>
    intro i l z5 hi hl
    obtain ⟨g1, g2, g3, g4⟩ := tr_inv hs h0 hp i (by omega)
    have hXl : Ok (pA X 252 l) := okA hX rfl (by rw [hl.1]; exact (hX.1 252 (by decide)).symm)
    have hb20 := bc_20 hs
    generalize hx : trN s i = x at *
    have e0 : x.1 = 0 := bc_0 g1 (by omega)
    have hib : bc s = i := by omega
    rw [hib] at kq
    refine J_iload d_R_layLine_44 rfl ?_
    refine N_if_eq (tgt := 107) d_R_layLine_46 (by decide) (by omega) (fun c46 => ?_) (fun c46 => absurd c46 (by omega))
    refine J_iload_n (i := 3) d_R_layLine_107 rfl rfl ?_
    refine M_ir d_R_layLine_108 rfl rfl ?_
    exact kq _ hl
  | succ m ih =>
    intro i l z5 hi hl
    obtain ⟨g1, g2, g3, g4⟩ := tr_inv hs h0 hp i (by omega)
    have hXl : Ok (pA X 252 l) := okA hX rfl (by rw [hl.1]; exact (hX.1 252 (by decide)).symm)
    have hb20 := bc_20 hs
    have hput := trL_put (i := i + 1) (by omega) hl
    have hnx : trN s (i + 1) = trS (trN s i) := rfl
    generalize hx : trN s i = x at *
    have gne : x.1 ≠ 0 := fun e => by
      rw [e, show bc 0 = 0 from pcn_0 32] at g4
      omega
    obtain ⟨q1, q2⟩ := nxQ_t g1 g2 g3 gne
    rw [nxP, Bool.and_eq_true, Bool.and_eq_true, bne_iff_ne] at q2
    have hle := sof_le (9 * x.2 + nxQ x.1 x.2) (by omega)
    have hk : SOFL.getD (9 * x.2 + nxQ x.1 x.2) 0 < 20 := by omega
    refine J_iload d_R_layLine_44 rfl ?_
    refine N_if_eq (tgt := 107) d_R_layLine_46 (by decide) (by omega) (fun c46 => absurd c46 gne) (fun c46 => ?_)
    refine J_iconst (v := nI 0) d_R_layLine_49 rfl ?_
    refine J_istore (L1 := [some (.ref 244), some (.int (nI s)), some (.int (nI x.2)), some (.int (nI (i + 1))), some (.int (nI x.1)), some (.int (nI 0))]) d_R_layLine_50 (by decide) rfl ?_
    refine lp_R_layLine2 hXl g1 g2 g3 gne ?_ 9 0 (by omega) rfl
    refine J_iload d_R_layLine_70 rfl ?_
    refine J_iconst (v := nI 1) d_R_layLine_72 rfl ?_
    refine J_aload_n (i := 0) d_R_layLine_73 rfl rfl ?_
    refine M_getR (b := 250) d_R_layLine_74 f_R_25 rfl rfl rfl ?_
    refine J_bipush (v := nI 9) d_R_layLine_77 rfl ?_
    refine J_iload_n (i := 2) d_R_layLine_79 rfl rfl ?_
    refine N_imul d_R_layLine_80 ?_
    refine J_iload d_R_layLine_81 rfl ?_
    refine N_iadd d_R_layLine_83 ?_
    refine N_iald (x := (oI (SOFL.getD ((9 * x.2) + (nxQ x.1 x.2)) 0))) d_R_layLine_84 rfl (by omega) (ltL hXl (a := 250) (n := 81) (by decide) rfl (by omega)) (k_sof hXl) ?_
    rw [oI_lt hk]
    refine N_ishl d_R_layLine_85 (by omega) ?_
    refine J_iconst (v := (-1)) d_R_layLine_86 rfl ?_
    refine J_ixor d_R_layLine_87 ?_
    refine J_iand d_R_layLine_88 ?_
    refine I_ton (n := andn x.1 (1 <<< (SOFL.getD (9 * x.2 + nxQ x.1 x.2) 0))) (nI_andn x.1 (1 <<< (SOFL.getD (9 * x.2 + nxQ x.1 x.2) 0))) ?_
    refine J_istore (L1 := [some (.ref 244), some (.int (nI s)), some (.int (nI x.2)), some (.int (nI (i + 1))), some (.int (nI (andn x.1 (1 <<< (SOFL.getD (9 * x.2 + nxQ x.1 x.2) 0))))), some (.int (nI (nxQ x.1 x.2)))]) d_R_layLine_89 (by decide) rfl ?_
    refine J_iload d_R_layLine_91 rfl ?_
    refine J_istore_n (i := 2) (L1 := [some (.ref 244), some (.int (nI s)), some (.int (nI (nxQ x.1 x.2))), some (.int (nI (i + 1))), some (.int (nI (andn x.1 (1 <<< (SOFL.getD (9 * x.2 + nxQ x.1 x.2) 0))))), some (.int (nI (nxQ x.1 x.2)))]) d_R_layLine_93 rfl (by decide) rfl ?_
    refine J_aload_n (i := 0) d_R_layLine_94 rfl rfl ?_
    refine M_getR (b := 252) d_R_layLine_95 f_R_31 rfl rfl rfl ?_
    refine J_iload_n (i := 3) d_R_layLine_98 rfl rfl ?_
    refine J_iload_n (i := 2) d_R_layLine_99 rfl rfl ?_
    refine N_iast d_R_layLine_100 rfl (by decide) (by omega) (ltL hXl (a := 252) (n := 21) (by decide) rfl (by omega)) ?_
    refine N_iinc (a := (i + 1)) (c := 1) (L1 := [some (.ref 244), some (.int (nI s)), some (.int (nI (nxQ x.1 x.2))), some (.int (nI ((i + 1) + 1))), some (.int (nI (andn x.1 (1 <<< (SOFL.getD (9 * x.2 + nxQ x.1 x.2) 0))))), some (.int (nI (nxQ x.1 x.2)))]) d_R_layLine_101 rfl rfl (by decide) rfl ?_
    refine J_goto (tgt := 44) d_R_layLine_104 (by decide) ?_
    rw [pA_pA, pA_at]
    rw [hnx] at hput
    exact (ih (i + 1) _ _ (by omega) hput).eq (by rw [hnx]; rfl) rfl rfl
theorem S_R_layLine {X : Mem} {s : Nat} (hX : Ok X) (hs : s < 1048576) : CM 6 m_R_layLine [.ref 244, .int (nI s)] X (fun r Y => (pens s ≠ 1 ∧ r = some (.int (-1)) ∧ Y = X) ∨ (pens s = 1 ∧ s ≠ 0 ∧ r = some (.int (nI (bc s + 1))) ∧ ∃ l, trL s (bc s + 1) l ∧ Y = pA X 252 l)) := by
  have hp144 := pens_le s
  refine CM_of (L := [some (.ref 244), some (.int (nI s)), none, none, none, none]) 4 ok_R_layLine (fun _ => Nat.le_of_ble_eq_true rfl) rfl ?_
  refine J_iload_n (i := 1) d_R_layLine_0 rfl rfl ?_
  refine N_if_eq (tgt := 13) d_R_layLine_1 (by decide) (by omega) (fun c1 => ?_) (fun c1 => ?_)
  · refine J_iconst (v := (-1)) d_R_layLine_13 rfl ?_
    refine M_ir d_R_layLine_14 rfl rfl ?_
    refine Or.inl ⟨fun e => ?_, rfl, rfl⟩
    rw [c1, pens_0] at e
    cases e
  · refine J_aload_n (i := 0) d_R_layLine_4 rfl rfl ?_
    refine J_iload_n (i := 1) d_R_layLine_5 rfl rfl ?_
    refine CV_N (av := [.int (nI s)]) d_R_layLine_6 s_R_130 (M_rcv rfl (by decide) rfl) (S_R_pensOf hX (by omega)) (by decide) rfl rfl (Nat.le_of_ble_eq_true rfl) ?_
    refine J_iconst (v := nI 1) d_R_layLine_9 rfl ?_
    refine N_icmp_eq (tgt := 15) d_R_layLine_10 (by decide) (by omega) (by omega) (fun c10 => ?_) (fun c10 => ?_)
    · have h0 := c1
      obtain ⟨s1, s2⟩ := st_ok h0 c10
      refine J_iconst (v := nI 0) d_R_layLine_15 rfl ?_
      refine J_istore_n (i := 2) (L1 := [some (.ref 244), some (.int (nI s)), some (.int (nI 0)), none, none, none]) d_R_layLine_16 rfl (by decide) rfl ?_
      refine lp_R_layLine1 hX hs h0 c10 ?_ 9 0 (by omega) rfl
      refine J_aload_n (i := 0) d_R_layLine_32 rfl rfl ?_
      refine M_getR (b := 252) d_R_layLine_33 f_R_31 rfl rfl rfl ?_
      refine J_iconst (v := nI 0) d_R_layLine_36 rfl ?_
      refine J_iload_n (i := 2) d_R_layLine_37 rfl rfl ?_
      refine N_iast d_R_layLine_38 rfl (by decide) (by omega) (ltL hX (a := 252) (n := 21) (by decide) rfl (by omega)) ?_
      refine J_iconst (v := nI 1) d_R_layLine_39 rfl ?_
      refine J_istore_n (i := 3) (L1 := [some (.ref 244), some (.int (nI s)), some (.int (nI (stP s))), some (.int (nI 1)), none, none]) d_R_layLine_40 rfl (by decide) rfl ?_
      refine J_iload_n (i := 1) d_R_layLine_41 rfl rfl ?_
      refine J_istore (L1 := [some (.ref 244), some (.int (nI s)), some (.int (nI (stP s))), some (.int (nI 1)), some (.int (nI s)), none]) d_R_layLine_42 (by decide) rfl ?_
      refine lp_R_layLine3 hX hs h0 c10 (fun l hl => Or.inr ⟨c10, h0, rfl, l, hl, rfl⟩) (bc s) 0 ((X.2.1 252).set 0 (nI (stP s))) _ (by omega) ⟨by rw [List.length_set, hX.1 252 (by decide)]; rfl, fun j hj => ?_⟩
      obtain rfl : j = 0 := by omega
      rw [set_eq (by rw [hX.1 252 (by decide)]; decide)]
      rfl
    · refine J_iconst (v := (-1)) d_R_layLine_13 rfl ?_
      refine M_ir d_R_layLine_14 rfl rfl ?_
      exact Or.inl ⟨c10, rfl, rfl⟩

theorem S_R_trail {X : Mem} {s i : Int32} (hX : Ok X) : CM 7 m_R_trail [.ref 244, .int s, .int i] X (fun r Y => r = some (.int (trailF s i)) ∧ ∃ l : List Int32, l.length = 21 ∧ Y = pA X 252 l) := by
  refine CM_of (L := [some (.ref 244), some (.int s), some (.int i), none]) 1 ok_R_trail (fun _ => Nat.le_of_ble_eq_true rfl) rfl ?_
  refine J_iload_n (i := 1) d_R_trail_0 rfl rfl ?_
  refine CS_B (av := [.int s]) d_R_trail_1 s_R_98 (S_R_areStrokes) (by decide) rfl rfl (Nat.le_of_ble_eq_true rfl) ?_
  refine B_if_ne (tgt := 10) d_R_trail_4 (by decide) (fun c4 => ?_) (fun c4 => ?_)
  · obtain ⟨s_, hs_, rfl⟩ := inR_n (n := 1048575) c4 (by decide)
    refine J_aload_n (i := 0) d_R_trail_10 rfl rfl ?_
    refine J_iload_n (i := 1) d_R_trail_11 rfl rfl ?_
    refine M_callV (av := [.int (nI s_)]) d_R_trail_12 s_R_139 (M_rcv rfl (by decide) rfl) (S_R_layLine hX (show s_ < 1048576 by omega)) (by decide) rfl rfl (Nat.le_of_ble_eq_true rfl) (fun r Y hq => ?_)
    have hb20 := bc_20 (show s_ < 1048576 by omega)
    rcases hq with ⟨hpn, rfl, hYX⟩ | ⟨hpn, hs0, rfl, l, hl, rfl⟩
    · obtain rfl : X = Y := hYX.symm
      refine J_istore_n (i := 3) (L1 := [some (.ref 244), some (.int (nI s_)), some (.int i), some (.int (-1))]) d_R_trail_15 rfl (by decide) rfl ?_
      refine J_iload_n (i := 3) d_R_trail_16 rfl rfl ?_
      refine J_iconst (v := (-1)) d_R_trail_17 rfl ?_
      refine J_icmp_ne (tgt := 24) d_R_trail_18 (by decide) (fun c18 => absurd c18 (fun z => z rfl)) (fun c18 => ?_)
      refine J_bipush (v := (-2)) d_R_trail_21 rfl ?_
      refine M_ir d_R_trail_23 rfl rfl ?_
      exact ⟨by rw [trailF, c4, tn_nI (show s_ < 2147483648 by omega), decide_eq_false hpn] <;> rfl, X.2.1 252, by rw [hX.1 252 (by decide)]; rfl, pA_eta.symm⟩
    · refine J_istore_n (i := 3) (L1 := [some (.ref 244), some (.int (nI s_)), some (.int i), some (.int (nI (bc s_ + 1)))]) d_R_trail_15 rfl (by decide) rfl ?_
      refine J_iload_n (i := 3) d_R_trail_16 rfl rfl ?_
      refine J_iconst (v := (-1)) d_R_trail_17 rfl ?_
      refine J_icmp_ne (tgt := 24) d_R_trail_18 (by decide) (fun c18 => ?_) (fun c18 => absurd c18 (nI_nm1 (by omega)))
      refine J_iload_n (i := 2) d_R_trail_24 rfl rfl ?_
      refine J_iconst (v := (-1)) d_R_trail_25 rfl ?_
      refine J_icmp_ne (tgt := 33) d_R_trail_26 (by decide) (fun c26 => ?_) (fun c26 => ?_)
      · refine J_iload_n (i := 2) d_R_trail_33 rfl rfl ?_
        refine J_iconst (v := nI 0) d_R_trail_34 rfl ?_
        refine J_iload_n (i := 3) d_R_trail_35 rfl rfl ?_
        refine J_iconst (v := nI 1) d_R_trail_36 rfl ?_
        refine N_isub d_R_trail_37 (by omega) ?_
        refine CS_B (av := [.int i, .int (nI 0), .int (nI ((bc s_ + 1) - 1))]) d_R_trail_38 s_R_89 (S_R_isIn) (by decide) rfl rfl (Nat.le_of_ble_eq_true rfl) ?_
        refine B_if_eq (tgt := 53) d_R_trail_41 (by decide) (fun c41 => ?_) (fun c41 => ?_)
        · refine J_bipush (v := (-2)) d_R_trail_53 rfl ?_
          refine M_ir d_R_trail_55 rfl rfl ?_
          exact ⟨by rw [trailF, c4, tn_nI (show s_ < 2147483648 by omega), decide_eq_true hpn, Bool.true_and, if_pos rfl, if_neg c26, (show inR i (bc s_) = false by rw [Nat.add_sub_cancel] at c41; exact c41)] <;> rfl, l, hl.1, rfl⟩
        · have hin := (show inR i (bc s_) = true by rw [Nat.add_sub_cancel] at c41; exact c41)
          obtain ⟨i_, hi_, rfl⟩ := inR_n (n := bc s_) hin (by omega)
          refine J_aload_n (i := 0) d_R_trail_44 rfl rfl ?_
          refine M_getR (b := 252) d_R_trail_45 f_R_31 rfl rfl rfl ?_
          refine J_iload_n (i := 2) d_R_trail_48 rfl rfl ?_
          refine N_iald (x := (nI ((trN s_ i_).2))) d_R_trail_49 rfl (by omega) (ltL (okA hX rfl (by rw [hl.1]; exact (hX.1 252 (by decide)).symm)) (a := 252) (n := 21) (by decide) rfl (by omega)) (by rw [pA_at]; exact hl.2 i_ (by omega)) ?_
          refine J_goto (tgt := 55) d_R_trail_50 (by decide) ?_
          refine M_ir d_R_trail_55 rfl rfl ?_
          exact ⟨by rw [trailF, c4, tn_nI (show s_ < 2147483648 by omega), decide_eq_true hpn, Bool.true_and, if_pos rfl, if_neg c26, hin, if_pos rfl, tn_nI (show i_ < 2147483648 by omega)] <;> rfl, l, hl.1, rfl⟩
      · refine J_iload_n (i := 3) d_R_trail_29 rfl rfl ?_
        refine J_goto (tgt := 55) d_R_trail_30 (by decide) ?_
        refine M_ir d_R_trail_55 rfl rfl ?_
        exact ⟨by rw [trailF, c4, tn_nI (show s_ < 2147483648 by omega), decide_eq_true hpn, Bool.true_and, if_pos rfl, if_pos c26], l, hl.1, rfl⟩
  · refine J_bipush (v := (-2)) d_R_trail_7 rfl ?_
    refine M_ir d_R_trail_9 rfl rfl ?_
    exact ⟨by rw [trailF, c4] <;> rfl, X.2.1 252, by rw [hX.1 252 (by decide)]; rfl, pA_eta.symm⟩

