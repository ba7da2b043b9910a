/-- a row of n told by a function -/
def ofF {α : Type} (n : Nat) (f : Nat → α) : List α := (List.range n).map f
def upF {α : Type} (f : Nat → α) (j : Nat) (v : α) : Nat → α := fun k => if k = j then v else f k
theorem ofF_len {α : Type} {n : Nat} {f : Nat → α} : (ofF n f).length = n := by simp [ofF]
theorem ofF_get {α : Type} {n : Nat} {f : Nat → α} {j : Nat} {d : α} (h : j < n) : (ofF n f).getD j d = f j := by
  rw [List.getD_eq_getElem?_getD, ofF, List.getElem?_map, List.getElem?_range h]
  rfl
theorem ofF_set {α : Type} {n : Nat} {f : Nat → α} {j : Nat} {v : α} : (ofF n f).set j v = ofF n (upF f j v) := by
  apply List.ext_getElem
  · rw [List.length_set, ofF_len, ofF_len]
  · intro i h1 h2
    rw [List.getElem_set]
    simp only [ofF, List.getElem_map, List.getElem_range, upF]
    by_cases e : j = i
    · subst e; simp
    · rw [if_neg e, if_neg (fun q => e q.symm)]
theorem ofF_of {α : Type} {n : Nat} {l : List α} {d : α} (h : l.length = n) : ofF n (fun k => l.getD k d) = l := by
  apply List.ext_getElem
  · rw [ofF_len, h]
  · intro i h1 h2
    simp [ofF, h2]
theorem ofF_cong {α : Type} {n : Nat} {f g : Nat → α} (h : ∀ k, k < n → f k = g k) : ofF n f = ofF n g := by
  unfold ofF
  exact List.map_congr_left (fun k hk => h k (List.mem_range.mp hk))
theorem pL_pL {X : Mem} {a : Nat} {l l' : List Int64} : pL (pL X a l) a l' = pL X a l' := by
  show (X.1, (X.2.1, ((fun b => if b = a then l' else if b = a then l else X.2.2.1 b), X.2.2.2))) = _
  rw [show (fun b => if b = a then l' else if b = a then l else X.2.2.1 b) = (fun b => if b = a then l' else X.2.2.1 b) from funext fun b => by split <;> rfl]
  rfl
theorem pL_eta {X : Mem} {a : Nat} : pL X a (X.2.2.1 a) = X := by
  show (X.1, (X.2.1, ((fun b => if b = a then X.2.2.1 a else X.2.2.1 b), X.2.2.2))) = X
  have e : (fun b => if b = a then X.2.2.1 a else X.2.2.1 b) = X.2.2.1 := funext fun b => by
    split
    · rename_i e
      rw [e]
    · rfl
  rw [e]
theorem okL {X : Mem} (h : Ok X) {a : Nat} {l : List Int64} (hl : l.length = szl a) : Ok (pL X a l) := by
  refine ⟨h.1, fun b => ?_, h.2.2⟩
  show (if b = a then l else X.2.2.1 b).length = szl b
  split
  · rename_i e
    rw [hl, e]
  · exact h.2.1 b
/-- along a cycle of way w -/
def cyc (w : Nat) : Nat → Nat × Nat × Nat → Nat × Nat × Nat
  | 0, x => x
  | f + 1, x => if x.1.testBit x.2.1 then x else cyc w f (x.1 ||| 1 <<< x.2.1, MVL.getD (20 * w + x.2.1) 0, x.2.2 + 1)
def dpF (len : Nat) (f : Nat → Int64) : Nat → Int64 := itr (fun j f => upF f (20 - j) (f (20 - j) + f (20 - j - len))) f (21 - len)
def seenW (w k : Nat) : Nat := itr (fun k s => (cyc w 20 (s, k, 0)).1) 0 k
def keF (w k : Nat) : Nat → Int64 := itr (fun k f => if (seenW w k).testBit k then f else dpF (cyc w 20 (seenW w k, k, 0)).2.2 f) (fun k => if k = 0 then 1 else 0) k
theorem cyc_ok : ∀ w, w < 8 → ∀ k, k < 20 → seenW w k < 1048576 ∧ (cyc w 20 (seenW w k, k, 0)).1.testBit (cyc w 20 (seenW w k, k, 0)).2.1 = true ∧ (cyc w 20 (seenW w k, k, 0)).2.2 < 20 ∧ ((seenW w k).testBit k = false → 0 < (cyc w 20 (seenW w k, k, 0)).2.2) := by decide +kernel
theorem cyc_seen {w s k : Nat} (h : s.testBit k = true) : cyc w 20 (s, k, 0) = (s, k, 0) := if_pos h
theorem zero_row (f : Nat → Int64) : ∀ n k, (itr (fun i f => upF f (i + 1) 0) f n) k = if 1 ≤ k ∧ k ≤ n then 0 else f k
  | 0, k => by rw [if_neg (by omega)]; rfl
  | n + 1, k => by
    show (if k = n + 1 then 0 else itr _ f n k) = _
    rw [zero_row f n k]
    by_cases h : k = n + 1
    · rw [if_pos h, if_pos (by omega)]
    · by_cases h2 : 1 ≤ k ∧ k ≤ n
      · rw [if_neg h, if_pos h2, if_pos (by omega)]
      · rw [if_neg h, if_neg h2, if_neg (by omega)]
theorem lp_K_countKeptBy_cyc {X : Mem} {w m : Nat} (hX : Ok X) (hw : w < 8) {k : Nat} {Q : Option Value → Mem → Prop} {z : Nat × Nat × Nat} (kx : JM 0 m_K_countKeptBy Q 83 [some (.int (nI w)), some (.int (nI m)), some (.ref 223), some (.int (nI z.1)), some (.int (nI k)), some (.int (nI z.2.2)), some (.int (nI z.2.1))] [] X) : ∀ (f : Nat) (x : Nat × Nat × Nat), x.1 < 1048576 → x.2.1 < 20 → cyc w f x = z → x.2.2 + f = 20 → (z.1.testBit z.2.1 = true) → JM 0 m_K_countKeptBy Q 41 [some (.int (nI w)), some (.int (nI m)), some (.ref 223), some (.int (nI x.1)), some (.int (nI k)), some (.int (nI x.2.2)), some (.int (nI x.2.1))] [] X := by
  intro f
  induction f with
  | zero =>
    intro x hs hp e hf ht
    obtain rfl : x = z := e
    refine J_iload_n (i := 3) d_K_countKeptBy_41 rfl rfl ?_
    refine J_iload d_K_countKeptBy_42 rfl ?_
    refine N_ishr d_K_countKeptBy_44 (by first | omega | exact Nat.lt_trans mv_lt (by decide)) (by first | omega | exact Nat.lt_trans mv_lt (by decide)) ?_
    refine J_iconst (v := nI 1) d_K_countKeptBy_45 rfl ?_
    refine N_iand d_K_countKeptBy_46 ?_
    refine N_if_ne (tgt := 83) d_K_countKeptBy_47 (by decide) (Nat.lt_of_le_of_lt Nat.and_le_right (by decide)) (fun c47 => ?_) (fun c47 => absurd c47 (by rw [tb_z, ht]; decide))
    exact kx
  | succ f ih =>
    intro x hs hp e hf ht
    rw [cyc] at e
    refine J_iload_n (i := 3) d_K_countKeptBy_41 rfl rfl ?_
    refine J_iload d_K_countKeptBy_42 rfl ?_
    refine N_ishr d_K_countKeptBy_44 (by first | omega | exact Nat.lt_trans mv_lt (by decide)) (by first | omega | exact Nat.lt_trans mv_lt (by decide)) ?_
    refine J_iconst (v := nI 1) d_K_countKeptBy_45 rfl ?_
    refine N_iand d_K_countKeptBy_46 ?_
    refine N_if_ne (tgt := 83) d_K_countKeptBy_47 (by decide) (Nat.lt_of_le_of_lt Nat.and_le_right (by decide)) (fun c47 => ?_) (fun c47 => ?_)
    · rw [if_pos (tb_nz c47)] at e
      subst e
      exact kx
    · refine J_iload d_K_countKeptBy_50 rfl ?_
      refine J_bipush (v := nI 20) d_K_countKeptBy_52 rfl ?_
      refine N_icmp_ge (tgt := 83) d_K_countKeptBy_54 (by decide) (by first | omega | exact Nat.lt_trans mv_lt (by decide)) (by first | omega | exact Nat.lt_trans mv_lt (by decide)) (fun c54 => absurd c54 (by omega)) (fun c54 => ?_)
      refine J_iload_n (i := 3) d_K_countKeptBy_57 rfl rfl ?_
      refine J_iconst (v := nI 1) d_K_countKeptBy_58 rfl ?_
      refine J_iload d_K_countKeptBy_59 rfl ?_
      refine N_ishl d_K_countKeptBy_61 (by first | omega | exact Nat.lt_trans mv_lt (by decide)) ?_
      refine N_ior d_K_countKeptBy_62 ?_
      refine J_istore_n (i := 3) (L1 := [some (.int (nI w)), some (.int (nI m)), some (.ref 223), some (.int (nI (x.1 ||| (1 <<< x.2.1)))), some (.int (nI k)), some (.int (nI x.2.2)), some (.int (nI x.2.1))]) d_K_countKeptBy_63 rfl (by decide) rfl ?_
      refine J_gets (v := .ref 2) d_K_countKeptBy_64 Fx_z2 w_K_15 ?_
      refine J_iload_n (i := 0) d_K_countKeptBy_67 rfl rfl ?_
      refine J_bipush (v := nI 20) d_K_countKeptBy_68 rfl ?_
      refine N_imul d_K_countKeptBy_70 ?_
      refine J_iload d_K_countKeptBy_71 rfl ?_
      refine N_iadd d_K_countKeptBy_73 ?_
      refine N_iald (x := (nI (MVL.getD ((w * 20) + x.2.1) 0))) d_K_countKeptBy_74 rfl (by first | omega | exact Nat.lt_trans mv_lt (by decide)) (ltL hX (a := 2) (n := 160) (by decide) rfl (by first | omega | exact Nat.lt_trans mv_lt (by decide))) (k_mv hX) ?_
      refine J_istore (L1 := [some (.int (nI w)), some (.int (nI m)), some (.ref 223), some (.int (nI (x.1 ||| (1 <<< x.2.1)))), some (.int (nI k)), some (.int (nI x.2.2)), some (.int (nI (MVL.getD ((w * 20) + x.2.1) 0)))]) d_K_countKeptBy_75 (by decide) rfl ?_
      refine N_iinc (a := x.2.2) (c := 1) (L1 := [some (.int (nI w)), some (.int (nI m)), some (.ref 223), some (.int (nI (x.1 ||| (1 <<< x.2.1)))), some (.int (nI k)), some (.int (nI (x.2.2 + 1))), some (.int (nI (MVL.getD ((w * 20) + x.2.1) 0)))]) d_K_countKeptBy_77 rfl rfl (by decide) rfl ?_
      refine J_goto (tgt := 41) d_K_countKeptBy_80 (by decide) ?_
      rw [if_neg (by rw [(tb_z _ _).mp c47]; decide)] at e
      exact (ih _ (or_lt 20 hs (sh_lt hp (by decide))) mv_lt e (by dsimp only; omega) ht).eq (by first | rfl | rw [Nat.mul_comm 20 w]) rfl rfl
theorem lp_R_laySets_cyc {X : Mem} {w m : Nat} (hX : Ok X) (hw : w < 8) {k : Nat} {Q : Option Value → Mem → Prop} {z : Nat × Nat × Nat} (kx : JM 1 m_R_laySets Q 92 [some (.ref 244), some (.int (nI w)), some (.int (nI z.1)), some (.int (nI k)), some (.int (nI z.2.2)), some (.int (nI z.2.1))] [] X) : ∀ (f : Nat) (x : Nat × Nat × Nat), x.1 < 1048576 → x.2.1 < 20 → cyc w f x = z → x.2.2 + f = 20 → (z.1.testBit z.2.1 = true) → JM 1 m_R_laySets Q 56 [some (.ref 244), some (.int (nI w)), some (.int (nI x.1)), some (.int (nI k)), some (.int (nI x.2.2)), some (.int (nI x.2.1))] [] X := by
  intro f
  induction f with
  | zero =>
    intro x hs hp e hf ht
    obtain rfl : x = z := e
    refine J_iload_n (i := 2) d_R_laySets_56 rfl rfl ?_
    refine J_iload d_R_laySets_57 rfl ?_
    refine CS_B (av := [.int (nI x.1), .int (nI x.2.1)]) d_R_laySets_59 s_R_94 (S_R_has (by first | omega | (simp only [*]; omega)) (by first | omega | exact Nat.lt_trans one_lt (by decide) | exact Nat.lt_trans oth_lt (by decide))) (by decide) rfl rfl (Nat.le_of_ble_eq_true rfl) ?_
    refine B_if_ne (tgt := 92) d_R_laySets_62 (by decide) (fun c62 => ?_) (fun c62 => absurd c62 (by rw [ht]; decide))
    exact kx
  | succ f ih =>
    intro x hs hp e hf ht
    rw [cyc] at e
    refine J_iload_n (i := 2) d_R_laySets_56 rfl rfl ?_
    refine J_iload d_R_laySets_57 rfl ?_
    refine CS_B (av := [.int (nI x.1), .int (nI x.2.1)]) d_R_laySets_59 s_R_94 (S_R_has (by first | omega | (simp only [*]; omega)) (by first | omega | exact Nat.lt_trans one_lt (by decide) | exact Nat.lt_trans oth_lt (by decide))) (by decide) rfl rfl (Nat.le_of_ble_eq_true rfl) ?_
    refine B_if_ne (tgt := 92) d_R_laySets_62 (by decide) (fun c62 => ?_) (fun c62 => ?_)
    · rw [if_pos (c62)] at e
      subst e
      exact kx
    · refine J_iload_n (i := 2) d_R_laySets_65 rfl rfl ?_
      refine J_iconst (v := nI 1) d_R_laySets_66 rfl ?_
      refine J_iload d_R_laySets_67 rfl ?_
      refine N_ishl d_R_laySets_69 (by first | omega | exact Nat.lt_trans mv_lt (by decide)) ?_
      refine N_ior d_R_laySets_70 ?_
      refine J_istore_n (i := 2) (L1 := [some (.ref 244), some (.int (nI w)), some (.int (nI (x.1 ||| (1 <<< x.2.1)))), some (.int (nI k)), some (.int (nI x.2.2)), some (.int (nI x.2.1))]) d_R_laySets_71 rfl (by decide) rfl ?_
      refine N_iinc (a := x.2.2) (c := 1) (L1 := [some (.ref 244), some (.int (nI w)), some (.int (nI (x.1 ||| (1 <<< x.2.1)))), some (.int (nI k)), some (.int (nI (x.2.2 + 1))), some (.int (nI x.2.1))]) d_R_laySets_72 rfl rfl (by decide) rfl ?_
      refine J_aload_n (i := 0) d_R_laySets_75 rfl rfl ?_
      refine M_getR (b := 249) d_R_laySets_76 f_R_22 rfl rfl rfl ?_
      refine J_bipush (v := nI 20) d_R_laySets_79 rfl ?_
      refine J_iload_n (i := 1) d_R_laySets_81 rfl rfl ?_
      refine N_imul d_R_laySets_82 ?_
      refine J_iload d_R_laySets_83 rfl ?_
      refine N_iadd d_R_laySets_85 ?_
      refine N_iald (x := (nI (BECL.getD ((20 * w) + x.2.1) 0))) d_R_laySets_86 rfl (by first | omega | exact Nat.lt_trans mv_lt (by decide)) (ltL hX (a := 249) (n := 160) (by decide) rfl (by first | omega | exact Nat.lt_trans mv_lt (by decide))) (k_bec hX) ?_
      refine J_istore (L1 := [some (.ref 244), some (.int (nI w)), some (.int (nI (x.1 ||| (1 <<< x.2.1)))), some (.int (nI k)), some (.int (nI (x.2.2 + 1))), some (.int (nI (BECL.getD ((20 * w) + x.2.1) 0)))]) d_R_laySets_87 (by decide) rfl ?_
      refine J_goto (tgt := 56) d_R_laySets_89 (by decide) ?_
      rw [if_neg (by rw [c62]; decide)] at e
      exact (ih _ (or_lt 20 hs (sh_lt hp (by decide))) mv_lt e (by dsimp only; omega) ht).eq (by first | rfl | rw [Nat.mul_comm 20 w]) rfl rfl
theorem dec_eq {j : Nat} (h : j < 20) : nI (20 - j) + (-1) = nI (20 - (j + 1)) := by
  have g : ∀ j, j < 20 → nI (20 - j) + (-1) = nI (20 - (j + 1)) := by decide
  exact g j h
theorem lp_K_countKeptBy_dp {X : Mem} {w m s k len : Nat} (hX : Ok X) (h1 : 1 ≤ len) (h2 : len ≤ 20) {f : Nat → Int64} {Q : Option Value → Mem → Prop} (kx : ∀ z : Option Value, JM 0 m_K_countKeptBy Q 119 [some (.int (nI w)), some (.int (nI m)), some (.ref 223), some (.int (nI s)), some (.int (nI k)), some (.int (nI len)), z] [] (pL X 223 (ofF 21 (dpF len f)))) : ∀ (n j : Nat), j + n = 21 - len → JM 0 m_K_countKeptBy Q 87 [some (.int (nI w)), some (.int (nI m)), some (.ref 223), some (.int (nI s)), some (.int (nI k)), some (.int (nI len)), some (.int (nI (20 - j)))] [] (pL X 223 (ofF 21 (itr (fun j f => upF f (20 - j) (f (20 - j) + f (20 - j - len))) f j))) := by
  intro n
  induction n with
  | zero =>
    intro j hj
    obtain rfl : 21 - len = j := by omega
    refine J_iload d_K_countKeptBy_87 rfl ?_
    refine N_if_le (tgt := 119) d_K_countKeptBy_89 (by decide) (by omega) (fun c89 => absurd c89 (by omega)) (fun c89 => ?_)
    refine J_iload d_K_countKeptBy_92 rfl ?_
    refine J_iload d_K_countKeptBy_94 rfl ?_
    refine N_icmp_lt (tgt := 119) d_K_countKeptBy_96 (by decide) (by omega) (by omega) (fun c96 => ?_) (fun c96 => absurd c96 (by omega))
    exact kx _
  | succ n ih =>
    intro j hj
    refine J_iload d_K_countKeptBy_87 rfl ?_
    refine N_if_le (tgt := 119) d_K_countKeptBy_89 (by decide) (by omega) (fun c89 => absurd c89 (by omega)) (fun c89 => ?_)
    refine J_iload d_K_countKeptBy_92 rfl ?_
    refine J_iload d_K_countKeptBy_94 rfl ?_
    refine N_icmp_lt (tgt := 119) d_K_countKeptBy_96 (by decide) (by omega) (by omega) (fun c96 => absurd c96 (by omega)) (fun c96 => ?_)
    refine J_aload_n (i := 2) d_K_countKeptBy_99 rfl rfl ?_
    refine J_iload d_K_countKeptBy_100 rfl ?_
    refine J_dup2 d_K_countKeptBy_102 rfl rfl ?_
    refine N_lald (x := (itr (fun j f => upF f (20 - j) (f (20 - j) + f (20 - j - len))) f j (20 - j))) d_K_countKeptBy_103 rfl (by omega) (by rw [pL_at, ofF_len]; omega) (by rw [pL_at, ofF_get (by omega)]) ?_
    refine J_aload_n (i := 2) d_K_countKeptBy_104 rfl rfl ?_
    refine J_iload d_K_countKeptBy_105 rfl ?_
    refine J_iload d_K_countKeptBy_107 rfl ?_
    refine N_isub d_K_countKeptBy_109 (by omega) ?_
    refine N_lald (x := (itr (fun j f => upF f (20 - j) (f (20 - j) + f (20 - j - len))) f j ((20 - j) - len))) d_K_countKeptBy_110 rfl (by omega) (by rw [pL_at, ofF_len]; omega) (by rw [pL_at, ofF_get (by omega)]) ?_
    refine J_ladd d_K_countKeptBy_111 ?_
    refine N_last d_K_countKeptBy_112 rfl (by decide) (by omega) (by rw [pL_at, ofF_len]; omega) ?_
    refine J_iinc (v := ((nI (20 - j)) + (-1))) (L1 := [some (.int (nI w)), some (.int (nI m)), some (.ref 223), some (.int (nI s)), some (.int (nI k)), some (.int (nI len)), some (.int ((nI (20 - j)) + (-1)))]) d_K_countKeptBy_113 rfl rfl (by decide) rfl ?_
    refine J_goto (tgt := 87) d_K_countKeptBy_116 (by decide) ?_
    exact (ih (j + 1) (by omega)).eq (by rw [dec_eq (by omega)]) rfl (by rw [pL_at, pL_pL, ofF_set]; rfl)
theorem lp_R_laySets_dp {X : Mem} {w m s k len : Nat} (hX : Ok X) (h1 : 1 ≤ len) (h2 : len ≤ 20) {f : Nat → Int64} {Q : Option Value → Mem → Prop} (kx : ∀ z : Option Value, JM 1 m_R_laySets Q 129 [some (.ref 244), some (.int (nI w)), some (.int (nI s)), some (.int (nI k)), some (.int (nI len)), z] [] (pL X 260 (ofF 21 (dpF len f)))) : ∀ (n j : Nat), j + n = 21 - len → JM 1 m_R_laySets Q 96 [some (.ref 244), some (.int (nI w)), some (.int (nI s)), some (.int (nI k)), some (.int (nI len)), some (.int (nI (20 - j)))] [] (pL X 260 (ofF 21 (itr (fun j f => upF f (20 - j) (f (20 - j) + f (20 - j - len))) f j))) := by
  intro n
  induction n with
  | zero =>
    intro j hj
    obtain rfl : 21 - len = j := by omega
    refine J_iload d_R_laySets_96 rfl ?_
    refine J_iload d_R_laySets_98 rfl ?_
    refine N_icmp_lt (tgt := 129) d_R_laySets_100 (by decide) (by omega) (by omega) (fun c100 => ?_) (fun c100 => absurd c100 (by omega))
    exact kx _
  | succ n ih =>
    intro j hj
    refine J_iload d_R_laySets_96 rfl ?_
    refine J_iload d_R_laySets_98 rfl ?_
    refine N_icmp_lt (tgt := 129) d_R_laySets_100 (by decide) (by omega) (by omega) (fun c100 => absurd c100 (by omega)) (fun c100 => ?_)
    refine J_aload_n (i := 0) d_R_laySets_103 rfl rfl ?_
    refine M_getR (b := 260) d_R_laySets_104 f_R_68 rfl rfl rfl ?_
    refine J_iload d_R_laySets_107 rfl ?_
    refine J_dup2 d_R_laySets_109 rfl rfl ?_
    refine N_lald (x := (itr (fun j f => upF f (20 - j) (f (20 - j) + f (20 - j - len))) f j (20 - j))) d_R_laySets_110 rfl (by omega) (by rw [pL_at, ofF_len]; omega) (by rw [pL_at, ofF_get (by omega)]) ?_
    refine J_aload_n (i := 0) d_R_laySets_111 rfl rfl ?_
    refine M_getR (b := 260) d_R_laySets_112 f_R_68 rfl rfl rfl ?_
    refine J_iload d_R_laySets_115 rfl ?_
    refine J_iload d_R_laySets_117 rfl ?_
    refine N_isub d_R_laySets_119 (by omega) ?_
    refine N_lald (x := (itr (fun j f => upF f (20 - j) (f (20 - j) + f (20 - j - len))) f j ((20 - j) - len))) d_R_laySets_120 rfl (by omega) (by rw [pL_at, ofF_len]; omega) (by rw [pL_at, ofF_get (by omega)]) ?_
    refine J_ladd d_R_laySets_121 ?_
    refine N_last d_R_laySets_122 rfl (by decide) (by omega) (by rw [pL_at, ofF_len]; omega) ?_
    refine J_iinc (v := ((nI (20 - j)) + (-1))) (L1 := [some (.ref 244), some (.int (nI w)), some (.int (nI s)), some (.int (nI k)), some (.int (nI len)), some (.int ((nI (20 - j)) + (-1)))]) d_R_laySets_123 rfl rfl (by decide) rfl ?_
    refine J_goto (tgt := 96) d_R_laySets_126 (by decide) ?_
    exact (ih (j + 1) (by omega)).eq (by rw [dec_eq (by omega)]) rfl (by rw [pL_at, pL_pL, ofF_set]; rfl)
theorem lp_K_countKeptBy_all {X : Mem} {w m : Nat} (hX : Ok X) (hw : w < 8) {Q : Option Value → Mem → Prop} (kx : ∀ z5 z6 : Option Value, JM 0 m_K_countKeptBy Q 125 [some (.int (nI w)), some (.int (nI m)), some (.ref 223), some (.int (nI (seenW w 20))), some (.int (nI 20)), z5, z6] [] (pL X 223 (ofF 21 (keF w 20)))) : ∀ (f k : Nat) (z5 z6 : Option Value), k + f = 20 → JM 0 m_K_countKeptBy Q 27 [some (.int (nI w)), some (.int (nI m)), some (.ref 223), some (.int (nI (seenW w k))), some (.int (nI k)), z5, z6] [] (pL X 223 (ofF 21 (keF w k))) := by
  intro f
  induction f with
  | zero =>
    intro k z5 z6 hk
    obtain rfl : 20 = k := by omega
    refine J_iload d_K_countKeptBy_27 rfl ?_
    refine J_bipush (v := nI 20) d_K_countKeptBy_29 rfl ?_
    refine N_icmp_ge (tgt := 125) d_K_countKeptBy_31 (by decide) (by omega) (by omega) (fun c31 => ?_) (fun c31 => absurd c31 (by omega))
    exact kx _ _
  | succ f ih =>
    intro k z5 z6 hk
    have hX1 : Ok (pL X 223 (ofF 21 (keF w k))) := okL hX (by rw [ofF_len]; rfl)
    have hc := cyc_ok w hw k (by omega)
    have e1 : seenW w (k + 1) = (cyc w 20 (seenW w k, k, 0)).1 := rfl
    have e2 : keF w (k + 1) = if (seenW w k).testBit k then keF w k else dpF (cyc w 20 (seenW w k, k, 0)).2.2 (keF w k) := rfl
    generalize hz : cyc w 20 (seenW w k, k, 0) = z at hc e1 e2
    refine J_iload d_K_countKeptBy_27 rfl ?_
    refine J_bipush (v := nI 20) d_K_countKeptBy_29 rfl ?_
    refine N_icmp_ge (tgt := 125) d_K_countKeptBy_31 (by decide) (by omega) (by omega) (fun c31 => absurd c31 (by omega)) (fun c31 => ?_)
    refine J_iconst (v := nI 0) d_K_countKeptBy_34 rfl ?_
    refine J_istore (L1 := [some (.int (nI w)), some (.int (nI m)), some (.ref 223), some (.int (nI (seenW w k))), some (.int (nI k)), some (.int (nI 0)), z6]) d_K_countKeptBy_35 (by decide) rfl ?_
    refine J_iload d_K_countKeptBy_37 rfl ?_
    refine J_istore (L1 := [some (.int (nI w)), some (.int (nI m)), some (.ref 223), some (.int (nI (seenW w k))), some (.int (nI k)), some (.int (nI 0)), some (.int (nI k))]) d_K_countKeptBy_39 (by decide) rfl ?_
    refine lp_K_countKeptBy_cyc (m := m) hX1 hw ?_ 20 (seenW w k, k, 0) hc.1 (show k < 20 by omega) hz (Nat.zero_add 20) hc.2.1
    rcases Bool.eq_false_or_eq_true ((seenW w k).testBit k) with hb | hb
    · have ez : z = (seenW w k, k, 0) := by rw [← hz, cyc_seen hb]
      subst ez
      refine J_bipush (v := nI 20) d_K_countKeptBy_83 rfl ?_
      refine J_istore (L1 := [some (.int (nI w)), some (.int (nI m)), some (.ref 223), some (.int (nI (seenW w k))), some (.int (nI k)), some (.int (nI 0)), some (.int (nI 20))]) d_K_countKeptBy_85 (by decide) rfl ?_
      refine J_iload d_K_countKeptBy_87 rfl ?_
      refine N_if_le (tgt := 119) d_K_countKeptBy_89 (by decide) (by omega) (fun c89 => ?_) (fun c89 => absurd c89 (by omega))
      refine N_iinc (a := k) (c := 1) (L1 := [some (.int (nI w)), some (.int (nI m)), some (.ref 223), some (.int (nI (seenW w k))), some (.int (nI (k + 1))), some (.int (nI 0)), some (.int (nI 20))]) d_K_countKeptBy_119 rfl rfl (by decide) rfl ?_
      refine J_goto (tgt := 27) d_K_countKeptBy_122 (by decide) ?_
      exact (ih (k + 1) _ _ (by omega)).eq (by rw [e1, ← hz, cyc_seen hb]) rfl (by rw [e2, if_pos hb])
    · refine J_bipush (v := nI 20) d_K_countKeptBy_83 rfl ?_
      refine J_istore (L1 := [some (.int (nI w)), some (.int (nI m)), some (.ref 223), some (.int (nI z.1)), some (.int (nI k)), some (.int (nI z.2.2)), some (.int (nI 20))]) d_K_countKeptBy_85 (by decide) rfl ?_
      refine lp_K_countKeptBy_dp (m := m) hX (hc.2.2.2 hb) (Nat.le_of_lt hc.2.2.1) (fun z7 => ?_) _ 0 (Nat.zero_add _)
      refine N_iinc (a := k) (c := 1) (L1 := [some (.int (nI w)), some (.int (nI m)), some (.ref 223), some (.int (nI z.1)), some (.int (nI (k + 1))), some (.int (nI z.2.2)), z7]) d_K_countKeptBy_119 rfl rfl (by decide) rfl ?_
      refine J_goto (tgt := 27) d_K_countKeptBy_122 (by decide) ?_
      exact (ih (k + 1) _ _ (by omega)).eq (by rw [e1]) rfl (by rw [e2, if_neg (by rw [hb]; decide)] <;> rfl)
theorem lp_R_laySets_all {X : Mem} {w m : Nat} (hX : Ok X) (hw : w < 8) {Q : Option Value → Mem → Prop} (kx : ∀ z5 z6 : Option Value, JM 1 m_R_laySets Q 135 [some (.ref 244), some (.int (nI w)), some (.int (nI (seenW w 20))), some (.int (nI 20)), z5, z6] [] (pL X 260 (ofF 21 (keF w 20)))) : ∀ (f k : Nat) (z5 z6 : Option Value), k + f = 20 → JM 1 m_R_laySets Q 33 [some (.ref 244), some (.int (nI w)), some (.int (nI (seenW w k))), some (.int (nI k)), z5, z6] [] (pL X 260 (ofF 21 (keF w k))) := by
  intro f
  induction f with
  | zero =>
    intro k z5 z6 hk
    obtain rfl : 20 = k := by omega
    refine J_iload_n (i := 3) d_R_laySets_33 rfl rfl ?_
    refine J_bipush (v := nI 20) d_R_laySets_34 rfl ?_
    refine N_icmp_ge (tgt := 135) d_R_laySets_36 (by decide) (by omega) (by omega) (fun c36 => ?_) (fun c36 => absurd c36 (by omega))
    exact kx _ _
  | succ f ih =>
    intro k z5 z6 hk
    have hX1 : Ok (pL X 260 (ofF 21 (keF w k))) := okL hX (by rw [ofF_len]; rfl)
    have hc := cyc_ok w hw k (by omega)
    have e1 : seenW w (k + 1) = (cyc w 20 (seenW w k, k, 0)).1 := rfl
    have e2 : keF w (k + 1) = if (seenW w k).testBit k then keF w k else dpF (cyc w 20 (seenW w k, k, 0)).2.2 (keF w k) := rfl
    generalize hz : cyc w 20 (seenW w k, k, 0) = z at hc e1 e2
    refine J_iload_n (i := 3) d_R_laySets_33 rfl rfl ?_
    refine J_bipush (v := nI 20) d_R_laySets_34 rfl ?_
    refine N_icmp_ge (tgt := 135) d_R_laySets_36 (by decide) (by omega) (by omega) (fun c36 => absurd c36 (by omega)) (fun c36 => ?_)
    refine J_iload_n (i := 2) d_R_laySets_39 rfl rfl ?_
    refine J_iload_n (i := 3) d_R_laySets_40 rfl rfl ?_
    refine CS_B (av := [.int (nI (seenW w k)), .int (nI k)]) d_R_laySets_41 s_R_94 (S_R_has (by first | omega | (simp only [*]; omega)) (by first | omega | exact Nat.lt_trans one_lt (by decide) | exact Nat.lt_trans oth_lt (by decide))) (by decide) rfl rfl (Nat.le_of_ble_eq_true rfl) ?_
    refine B_if_eq (tgt := 50) d_R_laySets_44 (by decide) (fun c44 => ?_) (fun c44 => ?_)
    · refine J_iconst (v := nI 0) d_R_laySets_50 rfl ?_
      refine J_istore (L1 := [some (.ref 244), some (.int (nI w)), some (.int (nI (seenW w k))), some (.int (nI k)), some (.int (nI 0)), z6]) d_R_laySets_51 (by decide) rfl ?_
      refine J_iload_n (i := 3) d_R_laySets_53 rfl rfl ?_
      refine J_istore (L1 := [some (.ref 244), some (.int (nI w)), some (.int (nI (seenW w k))), some (.int (nI k)), some (.int (nI 0)), some (.int (nI k))]) d_R_laySets_54 (by decide) rfl ?_
      have hb := c44
      refine lp_R_laySets_cyc (m := m) hX1 hw ?_ 20 (seenW w k, k, 0) hc.1 (show k < 20 by omega) hz (Nat.zero_add 20) hc.2.1
      refine J_bipush (v := nI 20) d_R_laySets_92 rfl ?_
      refine J_istore (L1 := [some (.ref 244), some (.int (nI w)), some (.int (nI z.1)), some (.int (nI k)), some (.int (nI z.2.2)), some (.int (nI 20))]) d_R_laySets_94 (by decide) rfl ?_
      refine lp_R_laySets_dp (m := m) hX (hc.2.2.2 hb) (Nat.le_of_lt hc.2.2.1) (fun z7 => ?_) _ 0 (Nat.zero_add _)
      refine N_iinc (a := k) (c := 1) (L1 := [some (.ref 244), some (.int (nI w)), some (.int (nI z.1)), some (.int (nI (k + 1))), some (.int (nI z.2.2)), z7]) d_R_laySets_129 rfl rfl (by decide) rfl ?_
      refine J_goto (tgt := 33) d_R_laySets_132 (by decide) ?_
      exact (ih (k + 1) _ _ (by omega)).eq (by rw [e1]) rfl (by rw [e2, if_neg (by rw [hb]; decide)] <;> rfl)
    · refine J_goto (tgt := 129) d_R_laySets_47 (by decide) ?_
      refine N_iinc (a := k) (c := 1) (L1 := [some (.ref 244), some (.int (nI w)), some (.int (nI (seenW w k))), some (.int (nI (k + 1))), z5, z6]) d_R_laySets_129 rfl rfl (by decide) rfl ?_
      refine J_goto (tgt := 33) d_R_laySets_132 (by decide) ?_
      have hb := c44
      exact (ih (k + 1) _ _ (by omega)).eq (by rw [e1, ← hz, cyc_seen hb]) rfl (by rw [e2, if_pos hb])
theorem lp_K_countKeptBy_zero {X : Mem} {w m : Nat} (hX : Ok X) {g : Nat → Int64} {Q : Option Value → Mem → Prop} (kx : JM 0 m_K_countKeptBy Q 18 [some (.int (nI w)), some (.int (nI m)), some (.ref 223), some (.int (nI 21)), none, none, none] [] (pL X 223 (ofF 21 (itr (fun i f => upF f (i + 1) 0) g 20)))) : ∀ (n j : Nat), j + n = 20 → JM 0 m_K_countKeptBy Q 2 [some (.int (nI w)), some (.int (nI m)), some (.ref 223), some (.int (nI (j + 1))), none, none, none] [] (pL X 223 (ofF 21 (itr (fun i f => upF f (i + 1) 0) g j))) := by
  intro n
  induction n with
  | zero =>
    intro j hj
    obtain rfl : 20 = j := by omega
    refine J_iload_n (i := 3) d_K_countKeptBy_2 rfl rfl ?_
    refine J_bipush (v := nI 20) d_K_countKeptBy_3 rfl ?_
    refine N_icmp_gt (tgt := 18) d_K_countKeptBy_5 (by decide) (by omega) (by omega) (fun c5 => ?_) (fun c5 => absurd c5 (by omega))
    exact kx
  | succ n ih =>
    intro j hj
    refine J_iload_n (i := 3) d_K_countKeptBy_2 rfl rfl ?_
    refine J_bipush (v := nI 20) d_K_countKeptBy_3 rfl ?_
    refine N_icmp_gt (tgt := 18) d_K_countKeptBy_5 (by decide) (by omega) (by omega) (fun c5 => absurd c5 (by omega)) (fun c5 => ?_)
    refine J_aload_n (i := 2) d_K_countKeptBy_8 rfl rfl ?_
    refine J_iload_n (i := 3) d_K_countKeptBy_9 rfl rfl ?_
    refine J_lconst (v := 0) d_K_countKeptBy_10 rfl ?_
    refine N_last d_K_countKeptBy_11 rfl (by decide) (by omega) (by rw [pL_at, ofF_len]; omega) ?_
    refine N_iinc (a := (j + 1)) (c := 1) (L1 := [some (.int (nI w)), some (.int (nI m)), some (.ref 223), some (.int (nI ((j + 1) + 1))), none, none, none]) d_K_countKeptBy_12 rfl rfl (by decide) rfl ?_
    refine J_goto (tgt := 2) d_K_countKeptBy_15 (by decide) ?_
    exact (ih (j + 1) (by omega)).eq rfl rfl (by rw [pL_at, pL_pL, ofF_set]; rfl)
theorem lp_R_laySets_zero {X : Mem} {w m : Nat} (hX : Ok X) {g : Nat → Int64} {Q : Option Value → Mem → Prop} (kx : JM 1 m_R_laySets Q 29 [some (.ref 244), some (.int (nI w)), some (.int (nI 21)), none, none, none] [] (pL X 260 (ofF 21 (itr (fun i f => upF f i (if i = 0 then 1 else 0)) g 21)))) : ∀ (n j : Nat), j + n = 21 → JM 1 m_R_laySets Q 2 [some (.ref 244), some (.int (nI w)), some (.int (nI j)), none, none, none] [] (pL X 260 (ofF 21 (itr (fun i f => upF f i (if i = 0 then 1 else 0)) g j))) := by
  intro n
  induction n with
  | zero =>
    intro j hj
    obtain rfl : 21 = j := by omega
    refine J_iload_n (i := 2) d_R_laySets_2 rfl rfl ?_
    refine J_bipush (v := nI 21) d_R_laySets_3 rfl ?_
    refine N_icmp_ge (tgt := 29) d_R_laySets_5 (by decide) (by omega) (by omega) (fun c5 => ?_) (fun c5 => absurd c5 (by omega))
    exact kx
  | succ n ih =>
    intro j hj
    refine J_iload_n (i := 2) d_R_laySets_2 rfl rfl ?_
    refine J_bipush (v := nI 21) d_R_laySets_3 rfl ?_
    refine N_icmp_ge (tgt := 29) d_R_laySets_5 (by decide) (by omega) (by omega) (fun c5 => absurd c5 (by omega)) (fun c5 => ?_)
    refine J_aload_n (i := 0) d_R_laySets_8 rfl rfl ?_
    refine M_getR (b := 260) d_R_laySets_9 f_R_68 rfl rfl rfl ?_
    refine J_iload_n (i := 2) d_R_laySets_12 rfl rfl ?_
    refine J_iload_n (i := 2) d_R_laySets_13 rfl rfl ?_
    refine N_if_ne (tgt := 21) d_R_laySets_14 (by decide) (by omega) (fun c14 => ?_) (fun c14 => ?_)
    · refine J_lconst (v := 0) d_R_laySets_21 rfl ?_
      refine N_last d_R_laySets_22 rfl (by decide) (by omega) (by rw [pL_at, ofF_len]; omega) ?_
      refine N_iinc (a := j) (c := 1) (L1 := [some (.ref 244), some (.int (nI w)), some (.int (nI (j + 1))), none, none, none]) d_R_laySets_23 rfl rfl (by decide) rfl ?_
      refine J_goto (tgt := 2) d_R_laySets_26 (by decide) ?_
      exact (ih (j + 1) (by omega)).eq rfl rfl (by rw [pL_at, pL_pL, ofF_set]; first | (simp only [itr, c14, if_true]; done) | (simp only [itr, c14, if_false]; done) | rfl)
    · refine J_lconst (v := 1) d_R_laySets_17 rfl ?_
      refine J_goto (tgt := 22) d_R_laySets_18 (by decide) ?_
      refine N_last d_R_laySets_22 rfl (by decide) (by omega) (by rw [pL_at, ofF_len]; omega) ?_
      refine N_iinc (a := j) (c := 1) (L1 := [some (.ref 244), some (.int (nI w)), some (.int (nI (j + 1))), none, none, none]) d_R_laySets_23 rfl rfl (by decide) rfl ?_
      refine J_goto (tgt := 2) d_R_laySets_26 (by decide) ?_
      exact (ih (j + 1) (by omega)).eq rfl rfl (by rw [pL_at, pL_pL, ofF_set]; first | (simp only [itr, c14, if_true]; done) | (simp only [itr, c14, if_false]; done) | rfl)
theorem zero_row2 (g f : Nat → Int64) : ∀ n k, (itr (fun i f => upF f i (g i)) f n) k = if k < n then g k else f k
  | 0, k => by rw [if_neg (by omega)]; rfl
  | n + 1, k => by
    show (if k = n then g n else itr _ f n k) = _
    rw [zero_row2 g f n k]
    by_cases h : k = n
    · subst h
      rw [if_pos rfl, if_pos (by omega)]
    · by_cases h2 : k < n
      · rw [if_neg h, if_pos h2, if_pos (by omega)]
      · rw [if_neg h, if_neg h2, if_neg (by omega)]
theorem ke0_c (w : Nat) (g : Nat → Int64) : (ofF 21 (itr (fun i f => upF f (i + 1) 0) g 20)).set 0 1 = ofF 21 (keF w 0) := by
  rw [ofF_set]
  refine ofF_cong fun k hk => ?_
  show (if k = 0 then 1 else _) = if k = 0 then 1 else 0
  by_cases h : k = 0
  · rw [if_pos h, if_pos h]
  · rw [if_neg h, if_neg h, zero_row, if_pos (by omega)]
theorem ke0_r (w : Nat) (g : Nat → Int64) : ofF 21 (itr (fun i f => upF f i (if i = 0 then 1 else 0)) g 21) = ofF 21 (keF w 0) := by
  refine ofF_cong fun k hk => ?_
  exact (zero_row2 (fun i => if i = 0 then 1 else 0) g 21 k).trans (if_pos hk)
theorem row_of {X : Mem} (hX : Ok X) {a : Nat} (h : szl a = 21) : pL X a (ofF 21 (fun k => (X.2.2.1 a).getD k 0)) = X := by
  rw [ofF_of (by rw [hX.2.1 a, h]), pL_eta]
theorem S_K_countKeptBy {X : Mem} {w m : Nat} (hX : Ok X) (hw : w < 8) (hm20 : m ≤ 20) : CM 0 m_K_countKeptBy [.int (nI w), .int (nI m), .ref 223] X (rL (keF w 20 m) (pL X 223 (ofF 21 (keF w 20)))) := by
  refine CM_of (L := [some (.int (nI w)), some (.int (nI m)), some (.ref 223), none, none, none, none]) 4 ok_K_countKeptBy (fun _ => Nat.le_of_ble_eq_true rfl) rfl ?_
  refine J_iconst (v := nI 1) d_K_countKeptBy_0 rfl ?_
  refine J_istore_n (i := 3) (L1 := [some (.int (nI w)), some (.int (nI m)), some (.ref 223), some (.int (nI 1)), none, none, none]) d_K_countKeptBy_1 rfl (by decide) rfl ?_
  refine J.eq (lp_K_countKeptBy_zero hX (g := fun k => (X.2.2.1 223).getD k 0) ?_ 20 0 (by omega)) rfl rfl (congrArg hm (row_of hX rfl).symm)
  refine J_aload_n (i := 2) d_K_countKeptBy_18 rfl rfl ?_
  refine J_iconst (v := nI 0) d_K_countKeptBy_19 rfl ?_
  refine J_lconst (v := 1) d_K_countKeptBy_20 rfl ?_
  refine N_last d_K_countKeptBy_21 rfl (by decide) (by omega) (by rw [pL_at, ofF_len]; omega) ?_
  refine J_iconst (v := nI 0) d_K_countKeptBy_22 rfl ?_
  refine J_istore_n (i := 3) (L1 := [some (.int (nI w)), some (.int (nI m)), some (.ref 223), some (.int (nI 0)), none, none, none]) d_K_countKeptBy_23 rfl (by decide) rfl ?_
  refine J_iconst (v := nI 0) d_K_countKeptBy_24 rfl ?_
  refine J_istore (L1 := [some (.int (nI w)), some (.int (nI m)), some (.ref 223), some (.int (nI 0)), some (.int (nI 0)), none, none]) d_K_countKeptBy_25 (by decide) rfl ?_
  refine J.eq (lp_K_countKeptBy_all hX hw (fun z5 z6 => ?_) 20 0 _ _ (by omega)) rfl rfl (by rw [pL_at, pL_pL, ke0_c w])
  refine J_aload_n (i := 2) d_K_countKeptBy_125 rfl rfl ?_
  refine J_iload_n (i := 1) d_K_countKeptBy_126 rfl rfl ?_
  refine N_lald (x := (keF w 20 m)) d_K_countKeptBy_127 rfl (by omega) (by rw [pL_at, ofF_len]; omega) (by rw [pL_at, ofF_get (by omega)]) ?_
  refine M_lr d_K_countKeptBy_128 rfl ?_
  exact ⟨rfl, rfl⟩

theorem S_R_laySets {X : Mem} {w : Nat} (hX : Ok X) (hw : w < 8) : CM 1 m_R_laySets [.ref 244, .int (nI w)] X (rV (pL X 260 (ofF 21 (keF w 20)))) := by
  refine CM_of (L := [some (.ref 244), some (.int (nI w)), none, none, none, none]) 4 ok_R_laySets (fun _ => Nat.le_of_ble_eq_true rfl) rfl ?_
  refine J_iconst (v := nI 0) d_R_laySets_0 rfl ?_
  refine J_istore_n (i := 2) (L1 := [some (.ref 244), some (.int (nI w)), some (.int (nI 0)), none, none, none]) d_R_laySets_1 rfl (by decide) rfl ?_
  refine J.eq (lp_R_laySets_zero (m := 0) hX (g := fun k => (X.2.2.1 260).getD k 0) ?_ 21 0 (by omega)) rfl rfl (congrArg hm (row_of hX rfl).symm)
  rw [ke0_r w]
  refine J_iconst (v := nI 0) d_R_laySets_29 rfl ?_
  refine J_istore_n (i := 2) (L1 := [some (.ref 244), some (.int (nI w)), some (.int (nI 0)), none, none, none]) d_R_laySets_30 rfl (by decide) rfl ?_
  refine J_iconst (v := nI 0) d_R_laySets_31 rfl ?_
  refine J_istore_n (i := 3) (L1 := [some (.ref 244), some (.int (nI w)), some (.int (nI 0)), some (.int (nI 0)), none, none]) d_R_laySets_32 rfl (by decide) rfl ?_
  refine lp_R_laySets_all (m := 0) hX hw (fun z5 z6 => ?_) 20 0 _ _ (by omega)
  refine M_vr d_R_laySets_135 rfl ?_
  exact ⟨rfl, rfl⟩

