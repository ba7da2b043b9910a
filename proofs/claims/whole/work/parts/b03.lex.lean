def GTv (X : Mem) (B : Nat → Nat) (m p : Nat) : Prop := X.1 12 4 = nI m ∧ X.1 12 5 = nI p ∧ ∀ q, q < m → (X.2.1 9).getD q 0 = nI (B q)
/-- the class's word compared, letter by letter -/
def wst (l : List Nat) (c : Nat) (o : Option Nat) : Option Nat := match o with
  | some k => if k < l.length ∧ l.getD k 0 = c then some (k + 1) else none
  | none => none
def wrun (l : List Nat) : List Nat → Nat → Option Nat → Nat
  | [], _, _ => 47
  | c :: cs, w, o => if c = 32 then (if o = some l.length then w else wrun l cs (w + 1) (some 0)) else wrun l cs w (wst l c o)
theorem wr_n (l : List Nat) : ∀ (kw rest : List Nat) (w : Nat), (∀ c, c ∈ kw → c ≠ 32) → wrun l (kw ++ 32 :: rest) w none = wrun l rest (w + 1) (some 0)
  | [], rest, w, _ => by
    show (if 32 = 32 then (if (none : Option Nat) = some l.length then w else _) else _) = _
    rw [if_pos rfl, if_neg (by simp)]
  | c :: kw, rest, w, h => by
    show (if c = 32 then _ else wrun l (kw ++ 32 :: rest) w (wst l c none)) = _
    rw [if_neg (h c (List.mem_cons_self))]
    exact wr_n l kw rest w (fun d hd => h d (List.mem_cons_of_mem c hd))
theorem wr_s (l : List Nat) : ∀ (kw rest : List Nat) (w k : Nat), k ≤ l.length → (∀ c, c ∈ kw → c ≠ 32) → wrun l (kw ++ 32 :: rest) w (some k) = if l.drop k = kw then w else wrun l rest (w + 1) (some 0)
  | [], rest, w, k, hk, _ => by
    show (if 32 = 32 then (if (some k : Option Nat) = some l.length then w else _) else _) = _
    rw [if_pos rfl]
    by_cases e : k = l.length
    · rw [if_pos (by rw [e]), if_pos (by rw [e]; exact List.drop_length)]
    · rw [if_neg (fun q => e (Option.some.inj q)), if_neg (fun q => e (by have := congrArg List.length q; rw [List.length_drop] at this; have : l.length - k = 0 := this; omega))]
  | c :: kw, rest, w, k, hk, h => by
    show (if c = 32 then _ else wrun l (kw ++ 32 :: rest) w (if k < l.length ∧ l.getD k 0 = c then some (k + 1) else none)) = _
    rw [if_neg (h c (List.mem_cons_self))]
    have h2 : ∀ d, d ∈ kw → d ≠ 32 := fun d hd => h d (List.mem_cons_of_mem c hd)
    by_cases e : k < l.length
    · have ed : l.drop k = l.getD k 0 :: l.drop (k + 1) := by
        rw [List.drop_eq_getElem_cons e, List.getD_eq_getElem?_getD, List.getElem?_eq_getElem e]
        rfl
      rw [ed]
      by_cases e2 : l.getD k 0 = c
      · rw [if_pos ⟨e, e2⟩, wr_s l kw rest w (k + 1) e h2, e2]
        by_cases e3 : l.drop (k + 1) = kw
        · rw [if_pos e3, if_pos (by rw [e3])]
        · rw [if_neg e3, if_neg (fun q => e3 (List.cons.inj q).2)]
      · rw [if_neg (fun q => e2 q.2), wr_n l kw rest w h2, if_neg (fun q => e2 (List.cons.inj q).1)]
    · rw [if_neg (fun q => e q.1), wr_n l kw rest w h2, if_neg (fun q => by rw [List.drop_eq_nil_of_le (by omega)] at q; cases q)]
theorem wr_all (l : List Nat) : ∀ (ks : List (List Nat)) (w : Nat), (∀ k, k ∈ ks → ∀ c, c ∈ k → c ≠ 32) → wrun l (ks.flatMap (fun k => k ++ [32])) w (some 0) = kwf ks w l
  | [], _, _ => rfl
  | k :: ks, w, h => by
    have e : (k :: ks).flatMap (fun k => k ++ [32]) = k ++ 32 :: ks.flatMap (fun k => k ++ [32]) := by simp [List.flatMap_cons]
    rw [e, wr_s l k _ w 0 (Nat.zero_le _) (h k List.mem_cons_self), wr_all l ks (w + 1) (fun q hq => h q (List.mem_cons_of_mem k hq))]
    rfl
theorem wb_flat : WBL = KW.flatMap (fun k => k ++ [32]) := by decide +kernel
theorem kw_nb : ∀ k, k ∈ KW → ∀ c, c ∈ k → c ≠ 32 := by decide +kernel
theorem wr_kw (l : List Nat) : wrun l (WBL.drop 0) 0 (some 0) = kwf KW 0 l := by
  show wrun l WBL 0 (some 0) = _
  rw [wb_flat]
  exact wr_all l KW 0 kw_nb
theorem wb_drop {i : Nat} (h : i < 156) : WBL.drop i = WBL.getD i 0 :: WBL.drop (i + 1) := by
  have hl : WBL.length = 156 := by decide +kernel
  rw [List.drop_eq_getElem_cons (by omega), List.getD_eq_getElem?_getD, List.getElem?_eq_getElem (by omega)]
  rfl
theorem lw_len (B : Nat → Nat) (q e : Nat) : (lw B q e).length = e - q := by simp [lw]
theorem lw_get {B : Nat → Nat} {q e k : Nat} (h : k < e - q) : (lw B q e).getD k 0 = B (q + k) := by
  unfold lw
  rw [List.getD_eq_getElem?_getD, List.getElem?_map, List.getElem?_range h]
  rfl
theorem neg1_lt (q : Nat) (h : q < 2147483648) : (-1 : Int32) < nI q := by
  rw [Int32.lt_iff_toInt_lt, nI_int h]
  have : (-1 : Int32).toInt = -1 := by decide
  omega
theorem neg1_ne (q : Nat) (h : q < 2147483648) : (-1 : Int32) ≠ nI q := fun e => by
  have h1 := neg1_lt q h
  rw [← e] at h1
  exact absurd h1 (by decide)
theorem sg_same {c d : Nat} (h : (c ≠ 60 ∧ c ≠ 62) ∨ d ≠ 61) : sgK c d = sgK c 0 := by
  unfold sgK
  by_cases h1 : c = 60
  · rw [if_pos h1, if_pos h1, if_neg (by omega), if_neg (by decide)]
  · rw [if_neg h1, if_neg h1]
    by_cases h2 : c = 62
    · rw [if_pos h2, if_pos h2, if_neg (by omega), if_neg (by decide)]
    · rw [if_neg h2, if_neg h2]
theorem sg_pos {c : Nat} (hc : c < 256) (h : 0 ≤ sgO c) : nI 32 + sgO c = nI (sgK c 0) := by
  rw [sg_k c hc]
  unfold sgO at h ⊢
  by_cases e : sgN c < 11
  · rw [if_pos e, if_pos e, nI_add]
  · rw [if_neg e] at h
    exact absurd h (by decide)
theorem sg_neg {c : Nat} (hc : c < 256) (h : ¬ 0 ≤ sgO c) : 47 = sgK c 0 := by
  rw [sg_k c hc]
  unfold sgO at h
  by_cases e : sgN c < 11
  · rw [if_pos e] at h
    have hb : ∀ k, k < 11 → 0 ≤ nI k := by decide
    exact absurd (hb _ e) h
  · rw [if_neg e]
theorem lp_G_takeDigits {X : Mem} {B : Nat → Nat} {m q : Nat} (hX : Ok X) (hB : okB B m) (hV : GTv X B m q) {t : Nat} (hq : q ≤ m) {Q : Option Value → Mem → Prop} (kx : JM 1 m_G_takeDigits Q 65 [some (.ref 12), some (.int (nI t)), some (.int (nI (vC B q)))] [] (pF X 12 5 (nI (eD B q)))) : ∀ (k p v : Nat), m - p = k → q ≤ p → p ≤ m → eD B p = eD B q → v = dv B q (p - q) → JM 1 m_G_takeDigits Q 2 [some (.ref 12), some (.int (nI t)), some (.int (nI v))] [] (pF X 12 5 (nI p)) := by
  have h300 := hB.1
  intro k
  induction k with
  | zero =>
    intro p v hk hqp hpm he hv
    have e1 : eD B p = p := sc_f (okB_D hB p (by omega))
    subst hv
    rw [vC, ← he, e1] at kx
    refine J_aload_n (i := 0) d_G_takeDigits_2 rfl rfl ?_
    refine M_get (x := (nI p)) d_G_takeDigits_3 f_G_34 rfl rfl pF_at ?_
    refine J_aload_n (i := 0) d_G_takeDigits_6 rfl rfl ?_
    refine M_get (x := (nI m)) d_G_takeDigits_7 f_G_30 rfl rfl ((pF_k (by decide)).trans hV.1) ?_
    refine N_icmp_ge (tgt := 65) d_G_takeDigits_10 (by decide) (by omega) (by omega) (fun c10 => ?_) (fun c10 => absurd c10 (by omega))
    exact kx
  | succ k ih =>
    intro p v hk hqp hpm he hv
    have hb := hB.2.1 p (by omega)
    have hv1 : v ≤ 10000 := by rw [hv]; exact dv_le _ _ _
    refine J_aload_n (i := 0) d_G_takeDigits_2 rfl rfl ?_
    refine M_get (x := (nI p)) d_G_takeDigits_3 f_G_34 rfl rfl pF_at ?_
    refine J_aload_n (i := 0) d_G_takeDigits_6 rfl rfl ?_
    refine M_get (x := (nI m)) d_G_takeDigits_7 f_G_30 rfl rfl ((pF_k (by decide)).trans hV.1) ?_
    refine N_icmp_ge (tgt := 65) d_G_takeDigits_10 (by decide) (by omega) (by omega) (fun c10 => absurd c10 (by omega)) (fun c10 => ?_)
    refine J_aload_n (i := 0) d_G_takeDigits_13 rfl rfl ?_
    refine M_getR (b := 9) d_G_takeDigits_14 f_G_21 rfl rfl rfl ?_
    refine J_aload_n (i := 0) d_G_takeDigits_17 rfl rfl ?_
    refine M_get (x := (nI p)) d_G_takeDigits_18 f_G_34 rfl rfl pF_at ?_
    refine N_iald (x := (nI (B p))) d_G_takeDigits_21 rfl (by omega) (ltL (okF hX) (a := 9) (n := 300) (by decide) rfl (by omega)) (hV.2.2 p (by omega)) ?_
    refine CS_B (av := [.int (nI (B p))]) d_G_takeDigits_22 s_G_45 (S_G_isDigit (by omega)) (by decide) rfl rfl (Nat.le_of_ble_eq_true rfl) ?_
    refine B_if_eq (tgt := 65) d_G_takeDigits_25 (by decide) (fun c25 => ?_) (fun c25 => ?_)
    · have e1 : eD B p = p := sc_f c25
      subst hv
      rw [vC, ← he, e1] at kx
      exact kx
    · have hd := isDg_t.mp c25
      refine J_sipush (v := nI 10000) d_G_takeDigits_28 rfl ?_
      refine J_iload_n (i := 2) d_G_takeDigits_31 rfl rfl ?_
      refine J_bipush (v := nI 10) d_G_takeDigits_32 rfl ?_
      refine N_imul d_G_takeDigits_34 ?_
      refine J_aload_n (i := 0) d_G_takeDigits_35 rfl rfl ?_
      refine M_getR (b := 9) d_G_takeDigits_36 f_G_21 rfl rfl rfl ?_
      refine J_aload_n (i := 0) d_G_takeDigits_39 rfl rfl ?_
      refine M_get (x := (nI p)) d_G_takeDigits_40 f_G_34 rfl rfl pF_at ?_
      refine N_iald (x := (nI (B p))) d_G_takeDigits_43 rfl (by omega) (ltL (okF hX) (a := 9) (n := 300) (by decide) rfl (by omega)) (hV.2.2 p (by omega)) ?_
      refine N_iadd d_G_takeDigits_44 ?_
      refine J_bipush (v := nI 48) d_G_takeDigits_45 rfl ?_
      refine N_isub d_G_takeDigits_47 (by omega) ?_
      refine J_mmin d_G_takeDigits_48 w_G_24 w_math_min_s w_mathInit w_math_min_c (by omega) (Nat.le_of_ble_eq_true rfl) ?_
      refine I_ton (n := min 10000 (((v * 10) + (B p)) - 48)) (nI_min (by omega) (by omega)) ?_
      refine J_istore_n (i := 2) (L1 := [some (.ref 12), some (.int (nI t)), some (.int (nI (min 10000 (((v * 10) + (B p)) - 48))))]) d_G_takeDigits_51 rfl (by decide) rfl ?_
      refine J_aload_n (i := 0) d_G_takeDigits_52 rfl rfl ?_
      refine J_dup d_G_takeDigits_53 rfl ?_
      refine M_get (x := (nI p)) d_G_takeDigits_54 f_G_34 rfl rfl pF_at ?_
      refine J_iconst (v := nI 1) d_G_takeDigits_57 rfl ?_
      refine N_iadd d_G_takeDigits_58 ?_
      refine M_put d_G_takeDigits_59 p_G_34 rfl rfl rfl rfl ?_
      refine J_goto (tgt := 2) d_G_takeDigits_62 (by decide) ?_
      rw [pF_pF]
      exact ih (p + 1) _ (by omega) (by omega) (by omega) ((sc_t (okB_D hB) hB.1 c25).symm.trans he) (by rw [show p + 1 - q = (p - q) + 1 by omega, hv]; show _ = min 10000 (dv B q (p - q) * 10 + B (q + (p - q)) - 48); rw [show q + (p - q) = p by omega])
theorem S_G_takeDigits {X : Mem} {B : Nat → Nat} {m q : Nat} (hX : Ok X) (hB : okB B m) (hV : GTv X B m q) {t : Nat} (ht : t ≤ 300) (hq : q < m) : CM 1 m_G_takeDigits [.ref 12, .int (nI t)] X (rN 45 (pA (pF X 12 5 (nI (eD B q))) 15 ((X.2.1 15).set t (nI (vC B q))))) := by
  refine CM_of (L := [some (.ref 12), some (.int (nI t)), none]) 1 ok_G_takeDigits (fun _ => Nat.le_of_ble_eq_true rfl) rfl ?_
  refine J_iconst (v := nI 0) d_G_takeDigits_0 rfl ?_
  refine J_istore_n (i := 2) (L1 := [some (.ref 12), some (.int (nI t)), some (.int (nI 0))]) d_G_takeDigits_1 rfl (by decide) rfl ?_
  refine (lp_G_takeDigits hX hB hV (by omega) ?_ (m - q) q 0 rfl (Nat.le_refl _) (by omega) rfl (by rw [Nat.sub_self]; rfl)).eq rfl rfl (congrArg hm (by rw [← hV.2.1, pF_eta]))
  refine J_aload_n (i := 0) d_G_takeDigits_65 rfl rfl ?_
  refine M_getR (b := 15) d_G_takeDigits_66 f_G_18 rfl rfl rfl ?_
  refine J_iload_n (i := 1) d_G_takeDigits_69 rfl rfl ?_
  refine J_iload_n (i := 2) d_G_takeDigits_70 rfl rfl ?_
  refine N_iast d_G_takeDigits_71 rfl (by decide) (by omega) (ltL (okF hX) (a := 15) (n := 301) (by decide) rfl (by omega)) ?_
  refine J_bipush (v := nI 45) d_G_takeDigits_72 rfl ?_
  refine M_ir d_G_takeDigits_74 rfl rfl ?_
  exact ⟨rfl, rfl⟩

theorem eN_sg {B : Nat → Nat} {q : Nat} (h0 : B q ≠ 256) (h1 : isLt (B q) = false) (h2 : isDg (B q) = false) : eN B q = if (B q = 60 ∨ B q = 62) ∧ B (q + 1) = 61 then q + 2 else q + 1 := by
  unfold eN
  rw [if_neg h0, h1, h2]
  rfl
theorem kT_sg {B : Nat → Nat} {q : Nat} (h0 : B q ≠ 256) (h1 : isLt (B q) = false) (h2 : isDg (B q) = false) : kT B q = sgK (B q) (B (q + 1)) := by
  unfold kT
  rw [if_neg h0, h1, h2]
  rfl
theorem S_G_takeSign {X : Mem} {B : Nat → Nat} {m q : Nat} (hX : Ok X) (hB : okB B m) (hV : GTv X B m q) (hq : q < m) (h1 : isLt (B q) = false) (h2 : isDg (B q) = false) : CM 4 m_G_takeSign [.ref 12] X (rN (kT B q) (pF X 12 5 (nI (eN B q)))) := by
  have h0 := okB_2 hB hq
  have h300 := hB.1
  have hb := hB.2.1 q hq
  refine CM_of (L := [some (.ref 12), none, none]) 2 ok_G_takeSign (fun _ => Nat.le_of_ble_eq_true rfl) rfl ?_
  refine J_aload_n (i := 0) d_G_takeSign_0 rfl rfl ?_
  refine M_getR (b := 9) d_G_takeSign_1 f_G_21 rfl rfl rfl ?_
  refine J_aload_n (i := 0) d_G_takeSign_4 rfl rfl ?_
  refine M_get (x := (nI q)) d_G_takeSign_5 f_G_34 rfl rfl hV.2.1 ?_
  refine N_iald (x := (nI (B q))) d_G_takeSign_8 rfl (by omega) (ltL hX (a := 9) (n := 300) (by decide) rfl (by omega)) (hV.2.2 q (by omega)) ?_
  refine J_istore_n (i := 1) (L1 := [some (.ref 12), some (.int (nI (B q))), none]) d_G_takeSign_9 rfl (by decide) rfl ?_
  refine J_aload_n (i := 0) d_G_takeSign_10 rfl rfl ?_
  refine J_dup d_G_takeSign_11 rfl ?_
  refine M_get (x := (nI q)) d_G_takeSign_12 f_G_34 rfl rfl hV.2.1 ?_
  refine J_iconst (v := nI 1) d_G_takeSign_15 rfl ?_
  refine N_iadd d_G_takeSign_16 ?_
  refine M_put d_G_takeSign_17 p_G_34 rfl rfl rfl rfl ?_
  refine J_iload_n (i := 1) d_G_takeSign_20 rfl rfl ?_
  refine J_bipush (v := nI 60) d_G_takeSign_21 rfl ?_
  refine N_icmp_eq (tgt := 32) d_G_takeSign_23 (by decide) (by omega) (by omega) (fun c23 => ?_) (fun c23 => ?_)
  · refine J_aload_n (i := 0) d_G_takeSign_32 rfl rfl ?_
    refine M_get (x := (nI (q + 1))) d_G_takeSign_33 f_G_34 rfl rfl rfl ?_
    refine J_aload_n (i := 0) d_G_takeSign_36 rfl rfl ?_
    refine M_get (x := (nI m)) d_G_takeSign_37 f_G_30 rfl rfl hV.1 ?_
    refine N_icmp_ge (tgt := 81) d_G_takeSign_40 (by decide) (by omega) (by omega) (fun c40 => ?_) (fun c40 => ?_)
    · refine J_ldcS (a := 5) d_G_takeSign_81 (fun G s hF => hF.2.2.2.2.1.2) ?_
      refine J_iload_n (i := 1) d_G_takeSign_83 rfl rfl ?_
      refine J_i2c d_G_takeSign_84 ?_
      rw [i2c_n _ (by omega)]
      refine CV_I (av := [.int (nI (B q))]) d_G_takeSign_85 s_G_67 (Or.inr ⟨rfl, by decide⟩) (S_JS_indexOf_II (okF hX) (by omega)) (by decide) rfl rfl (Nat.le_of_ble_eq_true rfl) ?_
      refine J_istore_n (i := 2) (L1 := [some (.ref 12), some (.int (nI (B q))), some (.int (sgO (B q)))]) d_G_takeSign_88 rfl (by decide) rfl ?_
      refine J_iload_n (i := 2) d_G_takeSign_89 rfl rfl ?_
      refine J_if_ge (tgt := 98) d_G_takeSign_90 (by decide) (fun c90 => ?_) (fun c90 => ?_)
      · refine J_bipush (v := nI 32) d_G_takeSign_98 rfl ?_
        refine J_iload_n (i := 2) d_G_takeSign_100 rfl rfl ?_
        refine J_iadd d_G_takeSign_101 ?_
        refine M_ir d_G_takeSign_102 rfl rfl ?_
        have hn : (B q ≠ 60 ∧ B q ≠ 62) ∨ B (q + 1) ≠ 61 := Or.inr (by rw [hB.2.2 (q + 1) (by omega)]; decide)
        refine ⟨?_, ?_⟩
        · show some (Value.int (nI 32 + sgO (B q))) = _
          rw [kT_sg h0 h1 h2, sg_same hn, sg_pos (by omega) c90]
        · rw [eN_sg h0 h1 h2, if_neg (by omega)]
      · refine J_bipush (v := nI 47) d_G_takeSign_93 rfl ?_
        refine J_goto (tgt := 102) d_G_takeSign_95 (by decide) ?_
        refine M_ir d_G_takeSign_102 rfl rfl ?_
        have hn : (B q ≠ 60 ∧ B q ≠ 62) ∨ B (q + 1) ≠ 61 := Or.inr (by rw [hB.2.2 (q + 1) (by omega)]; decide)
        refine ⟨?_, ?_⟩
        · rw [kT_sg h0 h1 h2, sg_same hn, ← sg_neg (by omega) c90]
        · rw [eN_sg h0 h1 h2, if_neg (by omega)]
    · have hb2 := hB.2.1 (q + 1) (by omega)
      refine J_aload_n (i := 0) d_G_takeSign_43 rfl rfl ?_
      refine M_getR (b := 9) d_G_takeSign_44 f_G_21 rfl rfl rfl ?_
      refine J_aload_n (i := 0) d_G_takeSign_47 rfl rfl ?_
      refine M_get (x := (nI (q + 1))) d_G_takeSign_48 f_G_34 rfl rfl rfl ?_
      refine N_iald (x := (nI (B (q + 1)))) d_G_takeSign_51 rfl (by omega) (ltL hX (a := 9) (n := 300) (by decide) rfl (by omega)) (hV.2.2 (q + 1) (by omega)) ?_
      refine J_bipush (v := nI 61) d_G_takeSign_52 rfl ?_
      refine N_icmp_ne (tgt := 81) d_G_takeSign_54 (by decide) (by omega) (by omega) (fun c54 => ?_) (fun c54 => ?_)
      · refine J_ldcS (a := 5) d_G_takeSign_81 (fun G s hF => hF.2.2.2.2.1.2) ?_
        refine J_iload_n (i := 1) d_G_takeSign_83 rfl rfl ?_
        refine J_i2c d_G_takeSign_84 ?_
        rw [i2c_n _ (by omega)]
        refine CV_I (av := [.int (nI (B q))]) d_G_takeSign_85 s_G_67 (Or.inr ⟨rfl, by decide⟩) (S_JS_indexOf_II (okF hX) (by omega)) (by decide) rfl rfl (Nat.le_of_ble_eq_true rfl) ?_
        refine J_istore_n (i := 2) (L1 := [some (.ref 12), some (.int (nI (B q))), some (.int (sgO (B q)))]) d_G_takeSign_88 rfl (by decide) rfl ?_
        refine J_iload_n (i := 2) d_G_takeSign_89 rfl rfl ?_
        refine J_if_ge (tgt := 98) d_G_takeSign_90 (by decide) (fun c90 => ?_) (fun c90 => ?_)
        · refine J_bipush (v := nI 32) d_G_takeSign_98 rfl ?_
          refine J_iload_n (i := 2) d_G_takeSign_100 rfl rfl ?_
          refine J_iadd d_G_takeSign_101 ?_
          refine M_ir d_G_takeSign_102 rfl rfl ?_
          have hn : (B q ≠ 60 ∧ B q ≠ 62) ∨ B (q + 1) ≠ 61 := Or.inr (by omega)
          refine ⟨?_, ?_⟩
          · show some (Value.int (nI 32 + sgO (B q))) = _
            rw [kT_sg h0 h1 h2, sg_same hn, sg_pos (by omega) c90]
          · rw [eN_sg h0 h1 h2, if_neg (by omega)]
        · refine J_bipush (v := nI 47) d_G_takeSign_93 rfl ?_
          refine J_goto (tgt := 102) d_G_takeSign_95 (by decide) ?_
          refine M_ir d_G_takeSign_102 rfl rfl ?_
          have hn : (B q ≠ 60 ∧ B q ≠ 62) ∨ B (q + 1) ≠ 61 := Or.inr (by omega)
          refine ⟨?_, ?_⟩
          · rw [kT_sg h0 h1 h2, sg_same hn, ← sg_neg (by omega) c90]
          · rw [eN_sg h0 h1 h2, if_neg (by omega)]
      · refine J_aload_n (i := 0) d_G_takeSign_57 rfl rfl ?_
        refine J_dup d_G_takeSign_58 rfl ?_
        refine M_get (x := (nI (q + 1))) d_G_takeSign_59 f_G_34 rfl rfl rfl ?_
        refine J_iconst (v := nI 1) d_G_takeSign_62 rfl ?_
        refine N_iadd d_G_takeSign_63 ?_
        refine M_put d_G_takeSign_64 p_G_34 rfl rfl rfl rfl ?_
        refine J_iload_n (i := 1) d_G_takeSign_67 rfl rfl ?_
        refine J_bipush (v := nI 60) d_G_takeSign_68 rfl ?_
        refine N_icmp_ne (tgt := 78) d_G_takeSign_70 (by decide) (by omega) (by omega) (fun c70 => ?_) (fun c70 => ?_)
        · refine J_bipush (v := nI 44) d_G_takeSign_78 rfl ?_
          refine M_ir d_G_takeSign_80 rfl rfl ?_
          have hn : B (q + 1) = 61 := by omega
          refine ⟨?_, ?_⟩
          · rw [kT_sg h0 h1 h2, sgK]
            first | (rw [if_pos (show B q = 60 by omega), if_pos hn]; done) | (rw [if_neg (show ¬ B q = 60 by omega), if_pos (show B q = 62 by omega), if_pos hn]; done) | (rw [if_pos (show B q = 60 by omega), if_pos hn]) | rw [if_neg (show ¬ B q = 60 by omega), if_pos (show B q = 62 by omega), if_pos hn]
          · rw [pF_pF, eN_sg h0 h1 h2, if_pos ⟨by omega, hn⟩]
        · refine J_bipush (v := nI 43) d_G_takeSign_73 rfl ?_
          refine J_goto (tgt := 80) d_G_takeSign_75 (by decide) ?_
          refine M_ir d_G_takeSign_80 rfl rfl ?_
          have hn : B (q + 1) = 61 := by omega
          refine ⟨?_, ?_⟩
          · rw [kT_sg h0 h1 h2, sgK]
            first | (rw [if_pos (show B q = 60 by omega), if_pos hn]; done) | (rw [if_neg (show ¬ B q = 60 by omega), if_pos (show B q = 62 by omega), if_pos hn]; done) | (rw [if_pos (show B q = 60 by omega), if_pos hn]) | rw [if_neg (show ¬ B q = 60 by omega), if_pos (show B q = 62 by omega), if_pos hn]
          · rw [pF_pF, eN_sg h0 h1 h2, if_pos ⟨by omega, hn⟩]
  · refine J_iload_n (i := 1) d_G_takeSign_26 rfl rfl ?_
    refine J_bipush (v := nI 62) d_G_takeSign_27 rfl ?_
    refine N_icmp_ne (tgt := 81) d_G_takeSign_29 (by decide) (by omega) (by omega) (fun c29 => ?_) (fun c29 => ?_)
    · refine J_ldcS (a := 5) d_G_takeSign_81 (fun G s hF => hF.2.2.2.2.1.2) ?_
      refine J_iload_n (i := 1) d_G_takeSign_83 rfl rfl ?_
      refine J_i2c d_G_takeSign_84 ?_
      rw [i2c_n _ (by omega)]
      refine CV_I (av := [.int (nI (B q))]) d_G_takeSign_85 s_G_67 (Or.inr ⟨rfl, by decide⟩) (S_JS_indexOf_II (okF hX) (by omega)) (by decide) rfl rfl (Nat.le_of_ble_eq_true rfl) ?_
      refine J_istore_n (i := 2) (L1 := [some (.ref 12), some (.int (nI (B q))), some (.int (sgO (B q)))]) d_G_takeSign_88 rfl (by decide) rfl ?_
      refine J_iload_n (i := 2) d_G_takeSign_89 rfl rfl ?_
      refine J_if_ge (tgt := 98) d_G_takeSign_90 (by decide) (fun c90 => ?_) (fun c90 => ?_)
      · refine J_bipush (v := nI 32) d_G_takeSign_98 rfl ?_
        refine J_iload_n (i := 2) d_G_takeSign_100 rfl rfl ?_
        refine J_iadd d_G_takeSign_101 ?_
        refine M_ir d_G_takeSign_102 rfl rfl ?_
        have hn : (B q ≠ 60 ∧ B q ≠ 62) ∨ B (q + 1) ≠ 61 := Or.inl (by omega)
        refine ⟨?_, ?_⟩
        · show some (Value.int (nI 32 + sgO (B q))) = _
          rw [kT_sg h0 h1 h2, sg_same hn, sg_pos (by omega) c90]
        · rw [eN_sg h0 h1 h2, if_neg (by omega)]
      · refine J_bipush (v := nI 47) d_G_takeSign_93 rfl ?_
        refine J_goto (tgt := 102) d_G_takeSign_95 (by decide) ?_
        refine M_ir d_G_takeSign_102 rfl rfl ?_
        have hn : (B q ≠ 60 ∧ B q ≠ 62) ∨ B (q + 1) ≠ 61 := Or.inl (by omega)
        refine ⟨?_, ?_⟩
        · rw [kT_sg h0 h1 h2, sg_same hn, ← sg_neg (by omega) c90]
        · rw [eN_sg h0 h1 h2, if_neg (by omega)]
    · refine J_aload_n (i := 0) d_G_takeSign_32 rfl rfl ?_
      refine M_get (x := (nI (q + 1))) d_G_takeSign_33 f_G_34 rfl rfl rfl ?_
      refine J_aload_n (i := 0) d_G_takeSign_36 rfl rfl ?_
      refine M_get (x := (nI m)) d_G_takeSign_37 f_G_30 rfl rfl hV.1 ?_
      refine N_icmp_ge (tgt := 81) d_G_takeSign_40 (by decide) (by omega) (by omega) (fun c40 => ?_) (fun c40 => ?_)
      · refine J_ldcS (a := 5) d_G_takeSign_81 (fun G s hF => hF.2.2.2.2.1.2) ?_
        refine J_iload_n (i := 1) d_G_takeSign_83 rfl rfl ?_
        refine J_i2c d_G_takeSign_84 ?_
        rw [i2c_n _ (by omega)]
        refine CV_I (av := [.int (nI (B q))]) d_G_takeSign_85 s_G_67 (Or.inr ⟨rfl, by decide⟩) (S_JS_indexOf_II (okF hX) (by omega)) (by decide) rfl rfl (Nat.le_of_ble_eq_true rfl) ?_
        refine J_istore_n (i := 2) (L1 := [some (.ref 12), some (.int (nI (B q))), some (.int (sgO (B q)))]) d_G_takeSign_88 rfl (by decide) rfl ?_
        refine J_iload_n (i := 2) d_G_takeSign_89 rfl rfl ?_
        refine J_if_ge (tgt := 98) d_G_takeSign_90 (by decide) (fun c90 => ?_) (fun c90 => ?_)
        · refine J_bipush (v := nI 32) d_G_takeSign_98 rfl ?_
          refine J_iload_n (i := 2) d_G_takeSign_100 rfl rfl ?_
          refine J_iadd d_G_takeSign_101 ?_
          refine M_ir d_G_takeSign_102 rfl rfl ?_
          have hn : (B q ≠ 60 ∧ B q ≠ 62) ∨ B (q + 1) ≠ 61 := Or.inr (by rw [hB.2.2 (q + 1) (by omega)]; decide)
          refine ⟨?_, ?_⟩
          · show some (Value.int (nI 32 + sgO (B q))) = _
            rw [kT_sg h0 h1 h2, sg_same hn, sg_pos (by omega) c90]
          · rw [eN_sg h0 h1 h2, if_neg (by omega)]
        · refine J_bipush (v := nI 47) d_G_takeSign_93 rfl ?_
          refine J_goto (tgt := 102) d_G_takeSign_95 (by decide) ?_
          refine M_ir d_G_takeSign_102 rfl rfl ?_
          have hn : (B q ≠ 60 ∧ B q ≠ 62) ∨ B (q + 1) ≠ 61 := Or.inr (by rw [hB.2.2 (q + 1) (by omega)]; decide)
          refine ⟨?_, ?_⟩
          · rw [kT_sg h0 h1 h2, sg_same hn, ← sg_neg (by omega) c90]
          · rw [eN_sg h0 h1 h2, if_neg (by omega)]
      · have hb2 := hB.2.1 (q + 1) (by omega)
        refine J_aload_n (i := 0) d_G_takeSign_43 rfl rfl ?_
        refine M_getR (b := 9) d_G_takeSign_44 f_G_21 rfl rfl rfl ?_
        refine J_aload_n (i := 0) d_G_takeSign_47 rfl rfl ?_
        refine M_get (x := (nI (q + 1))) d_G_takeSign_48 f_G_34 rfl rfl rfl ?_
        refine N_iald (x := (nI (B (q + 1)))) d_G_takeSign_51 rfl (by omega) (ltL hX (a := 9) (n := 300) (by decide) rfl (by omega)) (hV.2.2 (q + 1) (by omega)) ?_
        refine J_bipush (v := nI 61) d_G_takeSign_52 rfl ?_
        refine N_icmp_ne (tgt := 81) d_G_takeSign_54 (by decide) (by omega) (by omega) (fun c54 => ?_) (fun c54 => ?_)
        · refine J_ldcS (a := 5) d_G_takeSign_81 (fun G s hF => hF.2.2.2.2.1.2) ?_
          refine J_iload_n (i := 1) d_G_takeSign_83 rfl rfl ?_
          refine J_i2c d_G_takeSign_84 ?_
          rw [i2c_n _ (by omega)]
          refine CV_I (av := [.int (nI (B q))]) d_G_takeSign_85 s_G_67 (Or.inr ⟨rfl, by decide⟩) (S_JS_indexOf_II (okF hX) (by omega)) (by decide) rfl rfl (Nat.le_of_ble_eq_true rfl) ?_
          refine J_istore_n (i := 2) (L1 := [some (.ref 12), some (.int (nI (B q))), some (.int (sgO (B q)))]) d_G_takeSign_88 rfl (by decide) rfl ?_
          refine J_iload_n (i := 2) d_G_takeSign_89 rfl rfl ?_
          refine J_if_ge (tgt := 98) d_G_takeSign_90 (by decide) (fun c90 => ?_) (fun c90 => ?_)
          · refine J_bipush (v := nI 32) d_G_takeSign_98 rfl ?_
            refine J_iload_n (i := 2) d_G_takeSign_100 rfl rfl ?_
            refine J_iadd d_G_takeSign_101 ?_
            refine M_ir d_G_takeSign_102 rfl rfl ?_
            have hn : (B q ≠ 60 ∧ B q ≠ 62) ∨ B (q + 1) ≠ 61 := Or.inr (by omega)
            refine ⟨?_, ?_⟩
            · show some (Value.int (nI 32 + sgO (B q))) = _
              rw [kT_sg h0 h1 h2, sg_same hn, sg_pos (by omega) c90]
            · rw [eN_sg h0 h1 h2, if_neg (by omega)]
          · refine J_bipush (v := nI 47) d_G_takeSign_93 rfl ?_
            refine J_goto (tgt := 102) d_G_takeSign_95 (by decide) ?_
            refine M_ir d_G_takeSign_102 rfl rfl ?_
            have hn : (B q ≠ 60 ∧ B q ≠ 62) ∨ B (q + 1) ≠ 61 := Or.inr (by omega)
            refine ⟨?_, ?_⟩
            · rw [kT_sg h0 h1 h2, sg_same hn, ← sg_neg (by omega) c90]
            · rw [eN_sg h0 h1 h2, if_neg (by omega)]
        · refine J_aload_n (i := 0) d_G_takeSign_57 rfl rfl ?_
          refine J_dup d_G_takeSign_58 rfl ?_
          refine M_get (x := (nI (q + 1))) d_G_takeSign_59 f_G_34 rfl rfl rfl ?_
          refine J_iconst (v := nI 1) d_G_takeSign_62 rfl ?_
          refine N_iadd d_G_takeSign_63 ?_
          refine M_put d_G_takeSign_64 p_G_34 rfl rfl rfl rfl ?_
          refine J_iload_n (i := 1) d_G_takeSign_67 rfl rfl ?_
          refine J_bipush (v := nI 60) d_G_takeSign_68 rfl ?_
          refine N_icmp_ne (tgt := 78) d_G_takeSign_70 (by decide) (by omega) (by omega) (fun c70 => ?_) (fun c70 => ?_)
          · refine J_bipush (v := nI 44) d_G_takeSign_78 rfl ?_
            refine M_ir d_G_takeSign_80 rfl rfl ?_
            have hn : B (q + 1) = 61 := by omega
            refine ⟨?_, ?_⟩
            · rw [kT_sg h0 h1 h2, sgK]
              first | (rw [if_pos (show B q = 60 by omega), if_pos hn]; done) | (rw [if_neg (show ¬ B q = 60 by omega), if_pos (show B q = 62 by omega), if_pos hn]; done) | (rw [if_pos (show B q = 60 by omega), if_pos hn]) | rw [if_neg (show ¬ B q = 60 by omega), if_pos (show B q = 62 by omega), if_pos hn]
            · rw [pF_pF, eN_sg h0 h1 h2, if_pos ⟨by omega, hn⟩]
          · refine J_bipush (v := nI 43) d_G_takeSign_73 rfl ?_
            refine J_goto (tgt := 80) d_G_takeSign_75 (by decide) ?_
            refine M_ir d_G_takeSign_80 rfl rfl ?_
            have hn : B (q + 1) = 61 := by omega
            refine ⟨?_, ?_⟩
            · rw [kT_sg h0 h1 h2, sgK]
              first | (rw [if_pos (show B q = 60 by omega), if_pos hn]; done) | (rw [if_neg (show ¬ B q = 60 by omega), if_pos (show B q = 62 by omega), if_pos hn]; done) | (rw [if_pos (show B q = 60 by omega), if_pos hn]) | rw [if_neg (show ¬ B q = 60 by omega), if_pos (show B q = 62 by omega), if_pos hn]
            · rw [pF_pF, eN_sg h0 h1 h2, if_pos ⟨by omega, hn⟩]

theorem lp_G_takeWord1 {X : Mem} {B : Nat → Nat} {m q : Nat} (hX : Ok X) (hB : okB B m) (hV : GTv X B m q) (hq : q ≤ m) {Q : Option Value → Mem → Prop} (kx : JM 4 m_G_takeWord Q 44 [some (.ref 12), some (.int (nI q)), none, none, none, none] [] (pF X 12 5 (nI (eL B q)))) : ∀ (k p : Nat), m - p = k → q ≤ p → p ≤ m → eL B p = eL B q → JM 4 m_G_takeWord Q 5 [some (.ref 12), some (.int (nI q)), none, none, none, none] [] (pF X 12 5 (nI p)) := by
  have h300 := hB.1
  intro k
  induction k with
  | zero =>
    intro p hk hqp hpm he
    have e1 : eL B p = p := sc_f (okB_L hB p (by omega))
    rw [← he, e1] at kx
    refine J_aload_n (i := 0) d_G_takeWord_5 rfl rfl ?_
    refine M_get (x := (nI p)) d_G_takeWord_6 f_G_34 rfl rfl pF_at ?_
    refine J_aload_n (i := 0) d_G_takeWord_9 rfl rfl ?_
    refine M_get (x := (nI m)) d_G_takeWord_10 f_G_30 rfl rfl ((pF_k (by decide)).trans hV.1) ?_
    refine N_icmp_ge (tgt := 44) d_G_takeWord_13 (by decide) (by omega) (by omega) (fun c13 => ?_) (fun c13 => absurd c13 (by omega))
    exact kx
  | succ k ih =>
    intro p hk hqp hpm he
    have hb := hB.2.1 p (by omega)
    refine J_aload_n (i := 0) d_G_takeWord_5 rfl rfl ?_
    refine M_get (x := (nI p)) d_G_takeWord_6 f_G_34 rfl rfl pF_at ?_
    refine J_aload_n (i := 0) d_G_takeWord_9 rfl rfl ?_
    refine M_get (x := (nI m)) d_G_takeWord_10 f_G_30 rfl rfl ((pF_k (by decide)).trans hV.1) ?_
    refine N_icmp_ge (tgt := 44) d_G_takeWord_13 (by decide) (by omega) (by omega) (fun c13 => absurd c13 (by omega)) (fun c13 => ?_)
    refine J_aload_n (i := 0) d_G_takeWord_16 rfl rfl ?_
    refine M_getR (b := 9) d_G_takeWord_17 f_G_21 rfl rfl rfl ?_
    refine J_aload_n (i := 0) d_G_takeWord_20 rfl rfl ?_
    refine M_get (x := (nI p)) d_G_takeWord_21 f_G_34 rfl rfl pF_at ?_
    refine N_iald (x := (nI (B p))) d_G_takeWord_24 rfl (by omega) (ltL (okF hX) (a := 9) (n := 300) (by decide) rfl (by omega)) (hV.2.2 p (by omega)) ?_
    refine CS_B (av := [.int (nI (B p))]) d_G_takeWord_25 s_G_37 (S_G_isLetter (by omega)) (by decide) rfl rfl (Nat.le_of_ble_eq_true rfl) ?_
    refine B_if_eq (tgt := 44) d_G_takeWord_28 (by decide) (fun c28 => ?_) (fun c28 => ?_)
    · have e1 : eL B p = p := sc_f c28
      rw [← he, e1] at kx
      exact kx
    · refine J_aload_n (i := 0) d_G_takeWord_31 rfl rfl ?_
      refine J_dup d_G_takeWord_32 rfl ?_
      refine M_get (x := (nI p)) d_G_takeWord_33 f_G_34 rfl rfl pF_at ?_
      refine J_iconst (v := nI 1) d_G_takeWord_36 rfl ?_
      refine N_iadd d_G_takeWord_37 ?_
      refine M_put d_G_takeWord_38 p_G_34 rfl rfl rfl rfl ?_
      refine J_goto (tgt := 5) d_G_takeWord_41 (by decide) ?_
      rw [pF_pF]
      exact ih (p + 1) (by omega) (by omega) (by omega) ((sc_t (okB_L hB) hB.1 c28).symm.trans he)
theorem lp_G_takeWord2 {X : Mem} {B : Nat → Nat} {m q : Nat} (hX : Ok X) (hB : okB B m) (hV : GTv X B m q) {R : Nat} {Q : Option Value → Mem → Prop} (hqe : q ≤ eL B q) (hem : eL B q ≤ m) (kq : Q (some (.int (nI R))) (pF X 12 5 (nI (eL B q)))) : ∀ (f i w : Nat) (o : Option Nat) (x : Int32) (z5 : Option Value), i + f = 156 → wrun (lw B q (eL B q)) (WBL.drop i) w o = R → ((∃ k, k ≤ eL B q - q ∧ x = nI (q + k) ∧ o = some k) ∨ (x = -1 ∧ o = none)) → JM 4 m_G_takeWord Q 51 [some (.ref 12), some (.int (nI q)), some (.int (nI w)), some (.int x), some (.int (nI i)), z5] [] (pF X 12 5 (nI (eL B q))) := by
  have h300 := hB.1
  have hl := lw_len B q (eL B q)
  have hn1 := neg1_lt q (by omega)
  have hn2 := neg1_ne (eL B q) (by omega)
  intro f
  induction f with
  | zero =>
    intro i w o x z5 hi hr hx
    obtain rfl : i = 156 := by omega
    rw [show WBL.drop 156 = [] from by decide +kernel] at hr
    have hr : 47 = R := hr
    subst hr
    refine J_iload d_G_takeWord_51 rfl ?_
    refine J_ldcS (a := 3) d_G_takeWord_53 (fun G s hF => hF.2.2.2.2.1.1) ?_
    refine CV_N (av := []) d_G_takeWord_55 s_G_57 (Or.inr ⟨rfl, by decide⟩) (S_JS_length_3 (okF hX)) (by decide) rfl rfl (Nat.le_of_ble_eq_true rfl) ?_
    refine N_icmp_ge (tgt := 133) d_G_takeWord_58 (by decide) (by omega) (by omega) (fun c58 => ?_) (fun c58 => absurd c58 (by decide))
    refine J_bipush (v := nI 47) d_G_takeWord_133 rfl ?_
    refine M_ir d_G_takeWord_135 rfl rfl ?_
    exact kq
  | succ f ih =>
    intro i w o x z5 hi hr hx
    have hi156 : i < 156 := by omega
    have hw := wb_lt i hi156
    rw [wb_drop hi156] at hr
    generalize hc : WBL.getD i 0 = c at *
    rcases hx with ⟨k, hk, rfl, rfl⟩ | ⟨rfl, rfl⟩

    · refine J_iload d_G_takeWord_51 rfl ?_
      refine J_ldcS (a := 3) d_G_takeWord_53 (fun G s hF => hF.2.2.2.2.1.1) ?_
      refine CV_N (av := []) d_G_takeWord_55 s_G_57 (Or.inr ⟨rfl, by decide⟩) (S_JS_length_3 (okF hX)) (by decide) rfl rfl (Nat.le_of_ble_eq_true rfl) ?_
      refine N_icmp_ge (tgt := 133) d_G_takeWord_58 (by decide) (by omega) (by omega) (fun c58 => absurd c58 (by omega)) (fun c58 => ?_)
      refine J_ldcS (a := 3) d_G_takeWord_61 (fun G s hF => hF.2.2.2.2.1.1) ?_
      refine J_iload d_G_takeWord_63 rfl ?_
      refine CV_N (av := [.int (nI i)]) d_G_takeWord_65 s_G_61 (Or.inr ⟨rfl, by decide⟩) (S_JS_charAt (okF hX) hi156) (by decide) rfl rfl (Nat.le_of_ble_eq_true rfl) ?_
      rw [hc]
      refine J_istore (L1 := [some (.ref 12), some (.int (nI q)), some (.int (nI w)), some (.int (nI (q + k))), some (.int (nI i)), some (.int (nI c))]) d_G_takeWord_68 (by decide) rfl ?_
      refine J_iload d_G_takeWord_70 rfl ?_
      refine J_bipush (v := nI 32) d_G_takeWord_72 rfl ?_
      refine N_icmp_eq (tgt := 112) d_G_takeWord_74 (by decide) (by omega) (by omega) (fun c74 => ?_) (fun c74 => ?_)
      · refine J_iload_n (i := 3) d_G_takeWord_112 rfl rfl ?_
        refine J_aload_n (i := 0) d_G_takeWord_113 rfl rfl ?_
        refine M_get (x := (nI (eL B q))) d_G_takeWord_114 f_G_34 rfl rfl pF_at ?_
        refine N_icmp_ne (tgt := 122) d_G_takeWord_117 (by decide) (by omega) (by omega) (fun c117 => ?_) (fun c117 => ?_)
        · refine N_iinc (a := w) (c := 1) (L1 := [some (.ref 12), some (.int (nI q)), some (.int (nI (w + 1))), some (.int (nI (q + k))), some (.int (nI i)), some (.int (nI c))]) d_G_takeWord_122 rfl rfl (by decide) rfl ?_
          refine J_iload_n (i := 1) d_G_takeWord_125 rfl rfl ?_
          refine J_istore_n (i := 3) (L1 := [some (.ref 12), some (.int (nI q)), some (.int (nI (w + 1))), some (.int (nI q)), some (.int (nI i)), some (.int (nI c))]) d_G_takeWord_126 rfl (by decide) rfl ?_
          refine N_iinc (a := i) (c := 1) (L1 := [some (.ref 12), some (.int (nI q)), some (.int (nI (w + 1))), some (.int (nI q)), some (.int (nI (i + 1))), some (.int (nI c))]) d_G_takeWord_127 rfl rfl (by decide) rfl ?_
          refine J_goto (tgt := 51) d_G_takeWord_130 (by decide) ?_
          have hr2 : wrun (lw B q (eL B q)) (WBL.drop (i + 1)) (w + 1) (some 0) = R := by rw [← hr]; show _ = (if c = 32 then (if _ = some (lw B q (eL B q)).length then w else _) else _); rw [if_pos c74, if_neg (fun z => c117 (by have := Option.some.inj z; omega))]
          exact ih (i + 1) (w + 1) (some 0) _ _ (by omega) hr2 (Or.inl ⟨0, Nat.zero_le _, rfl, rfl⟩)
        · refine J_iload_n (i := 2) d_G_takeWord_120 rfl rfl ?_
          refine M_ir d_G_takeWord_121 rfl rfl ?_
          have e : w = R := by rw [← hr]; show w = (if c = 32 then (if _ = some (lw B q (eL B q)).length then w else _) else _); rw [if_pos c74, if_pos (by rw [hl]; congr 1; omega)]
          rw [e]
          exact kq
      · refine J_iload_n (i := 3) d_G_takeWord_77 rfl rfl ?_
        refine J_iload_n (i := 1) d_G_takeWord_78 rfl rfl ?_
        refine N_icmp_lt (tgt := 107) d_G_takeWord_79 (by decide) (by omega) (by omega) (fun c79 => absurd c79 (by omega)) (fun c79 => ?_)
        refine J_iload_n (i := 3) d_G_takeWord_82 rfl rfl ?_
        refine J_aload_n (i := 0) d_G_takeWord_83 rfl rfl ?_
        refine M_get (x := (nI (eL B q))) d_G_takeWord_84 f_G_34 rfl rfl pF_at ?_
        refine N_icmp_ge (tgt := 107) d_G_takeWord_87 (by decide) (by omega) (by omega) (fun c87 => ?_) (fun c87 => ?_)
        · refine J_iconst (v := (-1)) d_G_takeWord_107 rfl ?_
          refine J_istore_n (i := 3) (L1 := [some (.ref 12), some (.int (nI q)), some (.int (nI w)), some (.int (-1)), some (.int (nI i)), some (.int (nI c))]) d_G_takeWord_108 rfl (by decide) rfl ?_
          refine J_goto (tgt := 127) d_G_takeWord_109 (by decide) ?_
          refine N_iinc (a := i) (c := 1) (L1 := [some (.ref 12), some (.int (nI q)), some (.int (nI w)), some (.int (-1)), some (.int (nI (i + 1))), some (.int (nI c))]) d_G_takeWord_127 rfl rfl (by decide) rfl ?_
          refine J_goto (tgt := 51) d_G_takeWord_130 (by decide) ?_
          have hr2 : wrun (lw B q (eL B q)) (WBL.drop (i + 1)) w (wst (lw B q (eL B q)) c (some k)) = R := by rw [← hr]; show _ = (if c = 32 then _ else _); rw [if_neg c74]
          have e : wst (lw B q (eL B q)) c (some k) = none := if_neg (fun z => by omega)
          rw [e] at hr2
          exact ih (i + 1) w none _ _ (by omega) hr2 (Or.inr ⟨rfl, rfl⟩)
        · have hb2 := hB.2.1 (q + k) (by omega)
          refine J_aload_n (i := 0) d_G_takeWord_90 rfl rfl ?_
          refine M_getR (b := 9) d_G_takeWord_91 f_G_21 rfl rfl rfl ?_
          refine J_iload_n (i := 3) d_G_takeWord_94 rfl rfl ?_
          refine N_iald (x := (nI (B (q + k)))) d_G_takeWord_95 rfl (by omega) (ltL (okF hX) (a := 9) (n := 300) (by decide) rfl (by omega)) (hV.2.2 (q + k) (by omega)) ?_
          refine J_iload d_G_takeWord_96 rfl ?_
          refine N_icmp_ne (tgt := 107) d_G_takeWord_98 (by decide) (by omega) (by omega) (fun c98 => ?_) (fun c98 => ?_)
          · refine J_iconst (v := (-1)) d_G_takeWord_107 rfl ?_
            refine J_istore_n (i := 3) (L1 := [some (.ref 12), some (.int (nI q)), some (.int (nI w)), some (.int (-1)), some (.int (nI i)), some (.int (nI c))]) d_G_takeWord_108 rfl (by decide) rfl ?_
            refine J_goto (tgt := 127) d_G_takeWord_109 (by decide) ?_
            refine N_iinc (a := i) (c := 1) (L1 := [some (.ref 12), some (.int (nI q)), some (.int (nI w)), some (.int (-1)), some (.int (nI (i + 1))), some (.int (nI c))]) d_G_takeWord_127 rfl rfl (by decide) rfl ?_
            refine J_goto (tgt := 51) d_G_takeWord_130 (by decide) ?_
            have hr2 : wrun (lw B q (eL B q)) (WBL.drop (i + 1)) w (wst (lw B q (eL B q)) c (some k)) = R := by rw [← hr]; show _ = (if c = 32 then _ else _); rw [if_neg c74]
            have e : wst (lw B q (eL B q)) c (some k) = none := if_neg (fun z => by rw [lw_get (by omega)] at z; exact c98 z.2)
            rw [e] at hr2
            exact ih (i + 1) w none _ _ (by omega) hr2 (Or.inr ⟨rfl, rfl⟩)
          · refine J_iload_n (i := 3) d_G_takeWord_101 rfl rfl ?_
            refine J_iconst (v := nI 1) d_G_takeWord_102 rfl ?_
            refine N_iadd d_G_takeWord_103 ?_
            refine J_goto (tgt := 108) d_G_takeWord_104 (by decide) ?_
            refine J_istore_n (i := 3) (L1 := [some (.ref 12), some (.int (nI q)), some (.int (nI w)), some (.int (nI ((q + k) + 1))), some (.int (nI i)), some (.int (nI c))]) d_G_takeWord_108 rfl (by decide) rfl ?_
            refine J_goto (tgt := 127) d_G_takeWord_109 (by decide) ?_
            refine N_iinc (a := i) (c := 1) (L1 := [some (.ref 12), some (.int (nI q)), some (.int (nI w)), some (.int (nI ((q + k) + 1))), some (.int (nI (i + 1))), some (.int (nI c))]) d_G_takeWord_127 rfl rfl (by decide) rfl ?_
            refine J_goto (tgt := 51) d_G_takeWord_130 (by decide) ?_
            have hr2 : wrun (lw B q (eL B q)) (WBL.drop (i + 1)) w (wst (lw B q (eL B q)) c (some k)) = R := by rw [← hr]; show _ = (if c = 32 then _ else _); rw [if_neg c74]
            have e : wst (lw B q (eL B q)) c (some k) = some (k + 1) := if_pos ⟨by omega, by rw [lw_get (by omega)]; omega⟩
            rw [e] at hr2
            exact ih (i + 1) w (some (k + 1)) _ _ (by omega) hr2 (Or.inl ⟨k + 1, by omega, by rw [Nat.add_assoc], rfl⟩)
    · refine J_iload d_G_takeWord_51 rfl ?_
      refine J_ldcS (a := 3) d_G_takeWord_53 (fun G s hF => hF.2.2.2.2.1.1) ?_
      refine CV_N (av := []) d_G_takeWord_55 s_G_57 (Or.inr ⟨rfl, by decide⟩) (S_JS_length_3 (okF hX)) (by decide) rfl rfl (Nat.le_of_ble_eq_true rfl) ?_
      refine N_icmp_ge (tgt := 133) d_G_takeWord_58 (by decide) (by omega) (by omega) (fun c58 => absurd c58 (by omega)) (fun c58 => ?_)
      refine J_ldcS (a := 3) d_G_takeWord_61 (fun G s hF => hF.2.2.2.2.1.1) ?_
      refine J_iload d_G_takeWord_63 rfl ?_
      refine CV_N (av := [.int (nI i)]) d_G_takeWord_65 s_G_61 (Or.inr ⟨rfl, by decide⟩) (S_JS_charAt (okF hX) hi156) (by decide) rfl rfl (Nat.le_of_ble_eq_true rfl) ?_
      rw [hc]
      refine J_istore (L1 := [some (.ref 12), some (.int (nI q)), some (.int (nI w)), some (.int (-1)), some (.int (nI i)), some (.int (nI c))]) d_G_takeWord_68 (by decide) rfl ?_
      refine J_iload d_G_takeWord_70 rfl ?_
      refine J_bipush (v := nI 32) d_G_takeWord_72 rfl ?_
      refine N_icmp_eq (tgt := 112) d_G_takeWord_74 (by decide) (by omega) (by omega) (fun c74 => ?_) (fun c74 => ?_)
      · refine J_iload_n (i := 3) d_G_takeWord_112 rfl rfl ?_
        refine J_aload_n (i := 0) d_G_takeWord_113 rfl rfl ?_
        refine M_get (x := (nI (eL B q))) d_G_takeWord_114 f_G_34 rfl rfl pF_at ?_
        refine J_icmp_ne (tgt := 122) d_G_takeWord_117 (by decide) (fun c117 => ?_) (fun c117 => absurd c117 hn2)
        refine N_iinc (a := w) (c := 1) (L1 := [some (.ref 12), some (.int (nI q)), some (.int (nI (w + 1))), some (.int (-1)), some (.int (nI i)), some (.int (nI c))]) d_G_takeWord_122 rfl rfl (by decide) rfl ?_
        refine J_iload_n (i := 1) d_G_takeWord_125 rfl rfl ?_
        refine J_istore_n (i := 3) (L1 := [some (.ref 12), some (.int (nI q)), some (.int (nI (w + 1))), some (.int (nI q)), some (.int (nI i)), some (.int (nI c))]) d_G_takeWord_126 rfl (by decide) rfl ?_
        refine N_iinc (a := i) (c := 1) (L1 := [some (.ref 12), some (.int (nI q)), some (.int (nI (w + 1))), some (.int (nI q)), some (.int (nI (i + 1))), some (.int (nI c))]) d_G_takeWord_127 rfl rfl (by decide) rfl ?_
        refine J_goto (tgt := 51) d_G_takeWord_130 (by decide) ?_
        have hr2 : wrun (lw B q (eL B q)) (WBL.drop (i + 1)) (w + 1) (some 0) = R := by rw [← hr]; show _ = (if c = 32 then (if _ = some (lw B q (eL B q)).length then w else _) else _); rw [if_pos c74, if_neg (by simp)]
        exact ih (i + 1) (w + 1) (some 0) _ _ (by omega) hr2 (Or.inl ⟨0, Nat.zero_le _, rfl, rfl⟩)
      · refine J_iload_n (i := 3) d_G_takeWord_77 rfl rfl ?_
        refine J_iload_n (i := 1) d_G_takeWord_78 rfl rfl ?_
        refine J_icmp_lt (tgt := 107) d_G_takeWord_79 (by decide) (fun c79 => ?_) (fun c79 => absurd c79 (fun z => z hn1))
        refine J_iconst (v := (-1)) d_G_takeWord_107 rfl ?_
        refine J_istore_n (i := 3) (L1 := [some (.ref 12), some (.int (nI q)), some (.int (nI w)), some (.int (-1)), some (.int (nI i)), some (.int (nI c))]) d_G_takeWord_108 rfl (by decide) rfl ?_
        refine J_goto (tgt := 127) d_G_takeWord_109 (by decide) ?_
        refine N_iinc (a := i) (c := 1) (L1 := [some (.ref 12), some (.int (nI q)), some (.int (nI w)), some (.int (-1)), some (.int (nI (i + 1))), some (.int (nI c))]) d_G_takeWord_127 rfl rfl (by decide) rfl ?_
        refine J_goto (tgt := 51) d_G_takeWord_130 (by decide) ?_
        have hr2 : wrun (lw B q (eL B q)) (WBL.drop (i + 1)) w (wst (lw B q (eL B q)) c none) = R := by rw [← hr]; show _ = (if c = 32 then _ else _); rw [if_neg c74]
        exact ih (i + 1) w none _ _ (by omega) hr2 (Or.inr ⟨rfl, rfl⟩)

theorem S_G_takeWord {X : Mem} {B : Nat → Nat} {m q : Nat} (hX : Ok X) (hB : okB B m) (hV : GTv X B m q) (hq : q < m) (h1 : isLt (B q) = true) : CM 4 m_G_takeWord [.ref 12] X (rN (kT B q) (pF X 12 5 (nI (eN B q)))) := by
  have h0 := okB_2 hB hq
  have h300 := hB.1
  have e1 : kT B q = kwf KW 0 (lw B q (eL B q)) := by unfold kT; rw [if_neg h0, h1, if_pos rfl]
  have e2 : eN B q = eL B q := by unfold eN; rw [if_neg h0, h1, if_pos rfl]
  rw [e1, e2]
  have hge := sc_ge (okB_L hB) hB.1 q
  have hle := sc_le (okB_L hB) hB.1 (show q ≤ m by omega)
  refine CM_of (L := [some (.ref 12), none, none, none, none, none]) 5 ok_G_takeWord (fun _ => Nat.le_of_ble_eq_true rfl) rfl ?_
  refine J_aload_n (i := 0) d_G_takeWord_0 rfl rfl ?_
  refine M_get (x := (nI q)) d_G_takeWord_1 f_G_34 rfl rfl hV.2.1 ?_
  refine J_istore_n (i := 1) (L1 := [some (.ref 12), some (.int (nI q)), none, none, none, none]) d_G_takeWord_4 rfl (by decide) rfl ?_
  refine (lp_G_takeWord1 hX hB hV (by omega) ?_ (m - q) q rfl (Nat.le_refl _) (by omega) rfl).eq rfl rfl (congrArg hm (by rw [← hV.2.1, pF_eta]))
  refine J_iconst (v := nI 0) d_G_takeWord_44 rfl ?_
  refine J_istore_n (i := 2) (L1 := [some (.ref 12), some (.int (nI q)), some (.int (nI 0)), none, none, none]) d_G_takeWord_45 rfl (by decide) rfl ?_
  refine J_iload_n (i := 1) d_G_takeWord_46 rfl rfl ?_
  refine J_istore_n (i := 3) (L1 := [some (.ref 12), some (.int (nI q)), some (.int (nI 0)), some (.int (nI q)), none, none]) d_G_takeWord_47 rfl (by decide) rfl ?_
  refine J_iconst (v := nI 0) d_G_takeWord_48 rfl ?_
  refine J_istore (L1 := [some (.ref 12), some (.int (nI q)), some (.int (nI 0)), some (.int (nI q)), some (.int (nI 0)), none]) d_G_takeWord_49 (by decide) rfl ?_
  exact lp_G_takeWord2 hX hB hV hge hle ⟨rfl, rfl⟩ 156 0 0 (some 0) (nI (q + 0)) _ rfl (wr_kw _) (Or.inl ⟨0, Nat.zero_le _, rfl, rfl⟩)

