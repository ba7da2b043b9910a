def fOpnB (T : TS) (ps pi po : Nat → PR SVl) (j : Nat) : PR SVl := if T.1 j = 40 then bnd (ps (j + 1)) (fun j2 v => bnd (pExp T 41 j2) (fun j3 _ => .inr (j3, v))) else if T.1 j = 19 then pi (j + 1) else bnd (po (j + 1)) (fun j2 v => .inr (j2, un1 (T.1 j) v))
def fOpn (T : TS) (sub : Option ((Nat → PR SVl) × (Nat → PR SBl))) (j : Nat) : PR SVl := match sub with
  | none => .inl (3, j)
  | some s => fOpnB T (pSum T s.1) (pIf T s.1 s.2) s.1 j
def fOneB (T : TS) (w : Bool) (pp : Nat → PR SVl) (j : Nat) : PR SVl := if T.1 j = 45 then bnd (pNum T 0 9999 j) (fun j2 x => .inr (j2, fun _ => (x : Int))) else if opnB (T.1 j) then pp j else pName T w j
theorem fOne_B (T : TS) (w : Bool) (sub : Option ((Nat → PR SVl) × (Nat → PR SBl))) : fOne T w sub = fOneB T w (fOpn T sub) := by
  refine funext fun j => ?_
  unfold fOne fOneB fOpn
  cases sub <;> rfl
theorem opn_t {k : Nat} : opnB k = true ↔ k = 40 ∨ k = 37 ∨ k = 17 ∨ k = 18 ∨ k = 19 := by
  unfold opnB
  simp only [Bool.or_eq_true, decide_eq_true_eq]
theorem Out_ad {α : Type} {X Y : Mem} {B : Nat → Nat} {N T j c : Nat} {w : Bool} {G : Mem → Nat → Nat → α → Prop} {r : PR α} (h : Out (adX X B j) B N T (j + 1) c w G r Y) : Out X B N T j c w G r Y := by
  obtain ⟨h1, h2, h3⟩ := h
  refine ⟨h1, offL_t ad_off h2, ?_⟩
  cases r with
  | inl q => exact h3
  | inr q =>
    obtain ⟨c2, g1, g2, g3, g4, g5, g6⟩ := h3
    exact ⟨c2, g1, by omega, by omega, g4, fun p hp => g5 p hp, g6⟩
theorem num_ok {B : Nat → Nat} {lo hi j : Nat} (h : tk_ B j = 45) (h2 : ¬ (vC B (stT B j) < lo ∨ hi < vC B (stT B j))) : pNum (tkT B) lo hi j = .inr (j + 1, vC B (stT B j)) := by
  unfold pNum
  rw [if_pos (show (tkT B).1 j = 45 from h)]
  exact if_neg h2
theorem num_2 {B : Nat → Nat} {lo hi j : Nat} (h : tk_ B j = 45) (h2 : vC B (stT B j) < lo ∨ hi < vC B (stT B j)) : pNum (tkT B) lo hi j = .inl (2, j) := by
  unfold pNum
  rw [if_pos (show (tkT B).1 j = 45 from h)]
  exact if_pos h2
theorem num_1 {B : Nat → Nat} {lo hi j : Nat} (h : ¬ tk_ B j = 45) : pNum (tkT B) lo hi j = .inl (1, j) := if_neg h
theorem S_D_readOpenOne_0 {B : Nat → Nat} {N T : Nat} {w : Bool} : COpn 1 8 B N T w (fOpn (tkT B) none) := by
  intro X j c hX hL hcj hop
  have hkT := hL.1.2.1
  have h300 := hL.1.1.1
  have hjN := hL.2.1
  have hlt := tk_lt B j
  have hjl := Lv_N hL
  refine CM_of (L := [some (.ref 11), some (.int (nI 8)), none]) 1 ok_D_readOpenOne (fun _ => Nat.le_of_ble_eq_true rfl) rfl ?_
  refine J_aload_n (i := 0) d_D_readOpenOne_0 rfl rfl ?_
  refine M_get (x := (nI (tk_ B j))) d_D_readOpenOne_1 f_D_32 rfl rfl hL.2.2.2.1 ?_
  refine J_istore_n (i := 2) (L1 := [some (.ref 11), some (.int (nI 8)), some (.int (nI (tk_ B j)))]) d_D_readOpenOne_4 rfl (by decide) rfl ?_
  refine J_iload_n (i := 1) d_D_readOpenOne_5 rfl rfl ?_
  refine J_bipush (v := nI 8) d_D_readOpenOne_6 rfl ?_
  refine N_icmp_lt (tgt := 17) d_D_readOpenOne_8 (by decide) (by omega) (by omega) (fun c8 => absurd c8 (by decide)) (fun c8 => ?_)
  refine J_aload_n (i := 0) d_D_readOpenOne_11 rfl rfl ?_
  refine J_iconst (v := nI 3) d_D_readOpenOne_12 rfl ?_
  refine CV_V (av := [.int (nI 3)]) d_D_readOpenOne_13 s_D_57 (M_rcv rfl (by decide) rfl) (S_D_refuse hX hL) (by omega) rfl rfl (Nat.le_of_ble_eq_true rfl) ?_
  have hD1 := rf_Dd (f := 3) (p := stT B j) hL (by decide) (by decide)
  refine M_vr d_D_readOpenOne_16 rfl ?_
  exact ⟨rfl, (rf_Ok hX), (offL_t (offL_0 T X) rf_off), hD1⟩

theorem S_D_readOpenOne_1 {B : Nat → Nat} {N T ds di do_ dd oo : Nat} {w : Bool} {ps pi po : Nat → PR SVl} (hS : CSum ds (oo + 1) B N T w ps) (hI : CIf di (oo + 1) B N T w pi) (hO : COne do_ (oo + 1) B N T w po) (h1 : ds < dd) (h2 : di < dd) (h3 : do_ < dd) (h4 : 2 ≤ dd) (ho8 : oo < 8) : COpn dd oo B N T w (fOpnB (tkT B) ps pi po) := by
  intro X j c hX hL hcj hop
  have hkT := hL.1.2.1
  have h300 := hL.1.1.1
  have hjN := hL.2.1
  have hlt := tk_lt B j
  have hjl := Lv_N hL
  have hopn := opn_t.mp hop
  refine CM_of (L := [some (.ref 11), some (.int (nI oo)), none]) 1 ok_D_readOpenOne (fun _ => Nat.le_of_ble_eq_true rfl) rfl ?_
  refine J_aload_n (i := 0) d_D_readOpenOne_0 rfl rfl ?_
  refine M_get (x := (nI (tk_ B j))) d_D_readOpenOne_1 f_D_32 rfl rfl hL.2.2.2.1 ?_
  refine J_istore_n (i := 2) (L1 := [some (.ref 11), some (.int (nI oo)), some (.int (nI (tk_ B j)))]) d_D_readOpenOne_4 rfl (by decide) rfl ?_
  refine J_iload_n (i := 1) d_D_readOpenOne_5 rfl rfl ?_
  refine J_bipush (v := nI 8) d_D_readOpenOne_6 rfl ?_
  refine N_icmp_lt (tgt := 17) d_D_readOpenOne_8 (by decide) (by omega) (by omega) (fun c8 => ?_) (fun c8 => absurd c8 (by omega))
  refine J_aload_n (i := 0) d_D_readOpenOne_17 rfl rfl ?_
  refine CV_V (av := []) d_D_readOpenOne_18 s_D_54 (M_rcv rfl (by decide) rfl) (S_D_advance hX hL (show tk_ B j ≠ 46 by omega)) (by omega) rfl rfl (Nat.le_of_ble_eq_true rfl) ?_
  have hL1 := ad_Lv hL (show tk_ B j ≠ 46 by omega)
  refine J_iload_n (i := 2) d_D_readOpenOne_21 rfl rfl ?_
  refine J_bipush (v := nI 40) d_D_readOpenOne_22 rfl ?_
  refine N_icmp_ne (tgt := 43) d_D_readOpenOne_24 (by decide) (by omega) (by omega) (fun c24 => ?_) (fun c24 => ?_)
  · refine J_iload_n (i := 2) d_D_readOpenOne_43 rfl rfl ?_
    refine J_bipush (v := nI 19) d_D_readOpenOne_44 rfl ?_
    refine N_icmp_ne (tgt := 59) d_D_readOpenOne_46 (by decide) (by omega) (by omega) (fun c46 => ?_) (fun c46 => ?_)
    · refine J_aload_n (i := 0) d_D_readOpenOne_59 rfl rfl ?_
      refine J_iload_n (i := 1) d_D_readOpenOne_60 rfl rfl ?_
      refine J_iconst (v := nI 1) d_D_readOpenOne_61 rfl ?_
      refine N_iadd d_D_readOpenOne_62 ?_
      refine M_callV (av := [.int (nI (oo + 1))]) d_D_readOpenOne_63 s_D_139 (M_rcv rfl (by decide) rfl) (hO _ _ _ (ad_Ok hX) hL1 (by omega)) (by omega) rfl rfl (Nat.le_of_ble_eq_true rfl) (fun r2 Y2 hq2 => ?_)
      obtain ⟨rfl, hq2⟩ := hq2
      rcases hr2 : po (j + 1) with q2 | q2
      · rw [hr2] at hq2
        obtain ⟨hY2, ho2, hD2⟩ := hq2
        have hD2 : Dd Y2 B N T q2.1 (stT B q2.2) := hD2
        have hf2 := hD2.2.2.2.2.1
        refine J_aload_n (i := 0) d_D_readOpenOne_66 rfl rfl ?_
        refine M_getI (b := T) d_D_readOpenOne_67 f_D_34 rfl rfl hD2.1.2.2 ?_
        refine J_iload_n (i := 2) d_D_readOpenOne_70 rfl rfl ?_
        refine J_bipush (v := nI 37) d_D_readOpenOne_71 rfl ?_
        refine N_icmp_ne (tgt := 81) d_D_readOpenOne_73 (by decide) (by omega) (by omega) (fun c73 => ?_) (fun c73 => ?_)
        · refine J_iload_n (i := 2) d_D_readOpenOne_81 rfl rfl ?_
          refine J_iconst (v := nI 0) d_D_readOpenOne_82 rfl ?_
          obtain ⟨cd3, hcd3, hce3⟩ := hD2.2.2.2.2.2.2
          refine CV_N (av := [.int (nI (tk_ B j)), .int (nI 0)]) d_D_readOpenOne_83 s_D_136 (M_rcv hD2.1.2.1 (by decide) rfl) (S_T_write hY2 hD2.1.2.1 hce3 hcd3) (by omega) rfl rfl (Nat.le_of_ble_eq_true rfl) ?_
          have hD3 := wr_Dd (x := 0 * 64 + (tk_ B j)) hD2 hce3 hcd3
          refine J_pop d_D_readOpenOne_86 rfl ?_
          refine M_vr d_D_readOpenOne_87 rfl ?_
          have e : fOpnB (tkT B) ps pi po j = .inl q2 := by unfold fOpnB; rw [if_neg (show ¬ (tkT B).1 j = 40 by show ¬ tk_ B j = 40; omega), if_neg (show ¬ (tkT B).1 j = 19 by show ¬ tk_ B j = 19; omega), hr2]; rfl
          rw [e]
          exact ⟨rfl, (wr_Ok hY2 hD2.1.2.1), (offL_t (offL_t (offL_t (offL_0 T X) (ad_off (j := j))) ho2) wr_off), hD3⟩
        · refine J_bipush (v := nI 48) d_D_readOpenOne_76 rfl ?_
          refine J_goto (tgt := 82) d_D_readOpenOne_78 (by decide) ?_
          refine J_iconst (v := nI 0) d_D_readOpenOne_82 rfl ?_
          obtain ⟨cd3, hcd3, hce3⟩ := hD2.2.2.2.2.2.2
          refine CV_N (av := [.int (nI 48), .int (nI 0)]) d_D_readOpenOne_83 s_D_136 (M_rcv hD2.1.2.1 (by decide) rfl) (S_T_write hY2 hD2.1.2.1 hce3 hcd3) (by omega) rfl rfl (Nat.le_of_ble_eq_true rfl) ?_
          have hD3 := wr_Dd (x := 0 * 64 + 48) hD2 hce3 hcd3
          refine J_pop d_D_readOpenOne_86 rfl ?_
          refine M_vr d_D_readOpenOne_87 rfl ?_
          have e : fOpnB (tkT B) ps pi po j = .inl q2 := by unfold fOpnB; rw [if_neg (show ¬ (tkT B).1 j = 40 by show ¬ tk_ B j = 40; omega), if_neg (show ¬ (tkT B).1 j = 19 by show ¬ tk_ B j = 19; omega), hr2]; rfl
          rw [e]
          exact ⟨rfl, (wr_Ok hY2 hD2.1.2.1), (offL_t (offL_t (offL_t (offL_0 T X) (ad_off (j := j))) ho2) wr_off), hD3⟩
      · rw [hr2] at hq2
        obtain ⟨hY2, ho2, c2, hL2, la2, lb2, lc2, hcl2, hG2⟩ := hq2
        have hN2 := hL2.2.1
        have hlt2 := tk_lt B q2.1
        have hjl2 := Lv_N hL2
        refine J_aload_n (i := 0) d_D_readOpenOne_66 rfl rfl ?_
        refine M_getI (b := T) d_D_readOpenOne_67 f_D_34 rfl rfl hL2.1.2.2 ?_
        refine J_iload_n (i := 2) d_D_readOpenOne_70 rfl rfl ?_
        refine J_bipush (v := nI 37) d_D_readOpenOne_71 rfl ?_
        refine N_icmp_ne (tgt := 81) d_D_readOpenOne_73 (by decide) (by omega) (by omega) (fun c73 => ?_) (fun c73 => ?_)
        · refine J_iload_n (i := 2) d_D_readOpenOne_81 rfl rfl ?_
          refine J_iconst (v := nI 0) d_D_readOpenOne_82 rfl ?_
          refine CV_N (av := [.int (nI (tk_ B j)), .int (nI 0)]) d_D_readOpenOne_83 s_D_136 (M_rcv hL2.1.2.1 (by decide) rfl) (S_T_write hY2 hL2.1.2.1 hL2.2.2.2.2.2.2.1 hL2.2.2.2.2.2.2.2.1) (by omega) rfl rfl (Nat.le_of_ble_eq_true rfl) ?_
          obtain ⟨hL3, hw3⟩ := wr_Lv (x := 0 * 64 + (tk_ B j)) hL2 (show c2 < 300 by omega)
          rw [show min c2 299 = c2 by omega]
          refine J_pop d_D_readOpenOne_86 rfl ?_
          refine M_vr d_D_readOpenOne_87 rfl ?_
          have e : fOpnB (tkT B) ps pi po j = .inr (q2.1, un1 (tk_ B j) q2.2) := by unfold fOpnB; rw [if_neg (show ¬ (tkT B).1 j = 40 by show ¬ tk_ B j = 40; omega), if_neg (show ¬ (tkT B).1 j = 19 by show ¬ tk_ B j = 19; omega), hr2]; rfl
          rw [e]
          have hw := wr_cell (x := 0 * 64 + tk_ B j) (c := c2) hY2 hkT (by omega)
          exact ⟨rfl, (wr_Ok hY2 hL2.1.2.1), (offL_t (offL_t (offL_t (offL_0 T X) (ad_off (j := j))) ho2) wr_off), c2 + 1, hL3, by omega, by omega, by omega, fun p hp => (hw.1 p (by omega)).trans (hcl2 p hp), GC_un hG2 (by omega) (fun p h1 h2 => hw.1 p h2) hw.2 (by omega)⟩
        · refine J_bipush (v := nI 48) d_D_readOpenOne_76 rfl ?_
          refine J_goto (tgt := 82) d_D_readOpenOne_78 (by decide) ?_
          refine J_iconst (v := nI 0) d_D_readOpenOne_82 rfl ?_
          refine CV_N (av := [.int (nI 48), .int (nI 0)]) d_D_readOpenOne_83 s_D_136 (M_rcv hL2.1.2.1 (by decide) rfl) (S_T_write hY2 hL2.1.2.1 hL2.2.2.2.2.2.2.1 hL2.2.2.2.2.2.2.2.1) (by omega) rfl rfl (Nat.le_of_ble_eq_true rfl) ?_
          obtain ⟨hL3, hw3⟩ := wr_Lv (x := 0 * 64 + 48) hL2 (show c2 < 300 by omega)
          rw [show min c2 299 = c2 by omega]
          refine J_pop d_D_readOpenOne_86 rfl ?_
          refine M_vr d_D_readOpenOne_87 rfl ?_
          have e : fOpnB (tkT B) ps pi po j = .inr (q2.1, un1 (tk_ B j) q2.2) := by unfold fOpnB; rw [if_neg (show ¬ (tkT B).1 j = 40 by show ¬ tk_ B j = 40; omega), if_neg (show ¬ (tkT B).1 j = 19 by show ¬ tk_ B j = 19; omega), hr2]; rfl
          rw [e]
          have hw := wr_cell (x := 0 * 64 + 48) (c := c2) hY2 hkT (by omega)
          exact ⟨rfl, (wr_Ok hY2 hL2.1.2.1), (offL_t (offL_t (offL_t (offL_0 T X) (ad_off (j := j))) ho2) wr_off), c2 + 1, hL3, by omega, by omega, by omega, fun p hp => (hw.1 p (by omega)).trans (hcl2 p hp), GC_un hG2 (by omega) (fun p h1 h2 => hw.1 p h2) hw.2 (by omega)⟩
    · refine J_aload_n (i := 0) d_D_readOpenOne_49 rfl rfl ?_
      refine J_iload_n (i := 1) d_D_readOpenOne_50 rfl rfl ?_
      refine J_iconst (v := nI 1) d_D_readOpenOne_51 rfl ?_
      refine N_iadd d_D_readOpenOne_52 ?_
      refine M_callV (av := [.int (nI (oo + 1))]) d_D_readOpenOne_53 s_D_148 (M_rcv rfl (by decide) rfl) (hI _ _ _ (ad_Ok hX) hL1 (by omega)) (by omega) rfl rfl (Nat.le_of_ble_eq_true rfl) (fun r5 Y5 hq5 => ?_)
      obtain ⟨rfl, hq5⟩ := hq5
      refine J_goto (tgt := 87) d_D_readOpenOne_56 (by decide) ?_
      refine M_vr d_D_readOpenOne_87 rfl ?_
      have e : fOpnB (tkT B) ps pi po j = pi (j + 1) := by unfold fOpnB; rw [if_neg (show ¬ (tkT B).1 j = 40 by show ¬ tk_ B j = 40; omega), if_pos (show (tkT B).1 j = 19 by show tk_ B j = 19; omega)]
      rw [e]
      exact ⟨rfl, Out_ad hq5⟩
  · refine J_aload_n (i := 0) d_D_readOpenOne_27 rfl rfl ?_
    refine J_iload_n (i := 1) d_D_readOpenOne_28 rfl rfl ?_
    refine J_iconst (v := nI 1) d_D_readOpenOne_29 rfl ?_
    refine N_iadd d_D_readOpenOne_30 ?_
    refine M_callV (av := [.int (nI (oo + 1))]) d_D_readOpenOne_31 s_D_93 (M_rcv rfl (by decide) rfl) (hS _ _ _ (ad_Ok hX) hL1 (by omega)) (by omega) rfl rfl (Nat.le_of_ble_eq_true rfl) (fun r2 Y2 hq2 => ?_)
    obtain ⟨rfl, hq2⟩ := hq2
    rcases hr2 : ps (j + 1) with q2 | q2
    · rw [hr2] at hq2
      obtain ⟨hY2, ho2, hD2⟩ := hq2
      have hD2 : Dd Y2 B N T q2.1 (stT B q2.2) := hD2
      have hf2 := hD2.2.2.2.2.1
      refine J_aload_n (i := 0) d_D_readOpenOne_34 rfl rfl ?_
      refine J_bipush (v := nI 41) d_D_readOpenOne_35 rfl ?_
      refine CV_V (av := [.int (nI 41)]) d_D_readOpenOne_37 s_D_84 (M_rcv rfl (by decide) rfl) (S_D_expect_d hY2 hD2 (show 41 < 46 by omega)) (by omega) rfl rfl (Nat.le_of_ble_eq_true rfl) ?_
      refine J_goto (tgt := 87) d_D_readOpenOne_40 (by decide) ?_
      refine M_vr d_D_readOpenOne_87 rfl ?_
      have e : fOpnB (tkT B) ps pi po j = .inl q2 := by unfold fOpnB; rw [if_pos (show (tkT B).1 j = 40 by show tk_ B j = 40; omega), hr2]; rfl
      rw [e]
      exact ⟨rfl, hY2, (offL_t (offL_t (offL_0 T X) (ad_off (j := j))) ho2), hD2⟩
    · rw [hr2] at hq2
      obtain ⟨hY2, ho2, c2, hL2, la2, lb2, lc2, hcl2, hG2⟩ := hq2
      have hN2 := hL2.2.1
      have hlt2 := tk_lt B q2.1
      have hjl2 := Lv_N hL2
      refine J_aload_n (i := 0) d_D_readOpenOne_34 rfl rfl ?_
      refine J_bipush (v := nI 41) d_D_readOpenOne_35 rfl ?_
      refine CV_V (av := [.int (nI 41)]) d_D_readOpenOne_37 s_D_84 (M_rcv rfl (by decide) rfl) (S_D_expect hY2 hL2 (show 41 < 46 by omega)) (by omega) rfl rfl (Nat.le_of_ble_eq_true rfl) ?_
      by_cases hx3 : tk_ B q2.1 = 41
      · rw [show exX Y2 B q2.1 41 = adX Y2 B q2.1 from if_pos hx3]
        have hL3 := ad_Lv hL2 (show tk_ B q2.1 ≠ 46 by omega)
        refine J_goto (tgt := 87) d_D_readOpenOne_40 (by decide) ?_
        refine M_vr d_D_readOpenOne_87 rfl ?_
        have e : fOpnB (tkT B) ps pi po j = .inr (q2.1 + 1, q2.2) := by unfold fOpnB; rw [if_pos (show (tkT B).1 j = 40 by show tk_ B j = 40; omega), hr2, bnd_r, ex_t hx3]; rfl
        rw [e]
        exact ⟨rfl, (ad_Ok hY2), (offL_t (offL_t (offL_t (offL_0 T X) (ad_off (j := j))) ho2) (ad_off (j := q2.1))), c2, hL3, by omega, by omega, by omega, fun p hp => hcl2 p hp, GC_same hG2 (fun p h1 h2 => rfl)⟩
      · rw [show exX Y2 B q2.1 41 = rfX Y2 1 (stT B q2.1) from if_neg hx3]
        have hD3 := rf_Dd (f := 1) (p := stT B q2.1) hL2 (by decide) (by decide)
        refine J_goto (tgt := 87) d_D_readOpenOne_40 (by decide) ?_
        refine M_vr d_D_readOpenOne_87 rfl ?_
        have e : fOpnB (tkT B) ps pi po j = .inl (1, q2.1) := by unfold fOpnB; rw [if_pos (show (tkT B).1 j = 40 by show tk_ B j = 40; omega), hr2, bnd_r, ex_f hx3]; rfl
        rw [e]
        exact ⟨rfl, (rf_Ok hY2), (offL_t (offL_t (offL_t (offL_0 T X) (ad_off (j := j))) ho2) rf_off), hD3⟩

theorem S_D_readOne {B : Nat → Nat} {N T dp dd oo : Nat} {w : Bool} {pp : Nat → PR SVl} (hP : COpn dp oo B N T w pp) (h1 : dp < dd) (h2 : 3 ≤ dd) : COne dd oo B N T w (fOneB (tkT B) w pp) := by
  intro X j c hX hL hcj
  have hkT := hL.1.2.1
  have h300 := hL.1.1.1
  have hjN := hL.2.1
  have hlt := tk_lt B j
  have hjl := Lv_N hL
  refine CM_of (L := [some (.ref 11), some (.int (nI oo))]) 0 ok_D_readOne (fun _ => Nat.le_of_ble_eq_true rfl) rfl ?_
  refine J_aload_n (i := 0) d_D_readOne_0 rfl rfl ?_
  refine M_get (x := (nI (tk_ B j))) d_D_readOne_1 f_D_32 rfl rfl hL.2.2.2.1 ?_
  refine J_bipush (v := nI 45) d_D_readOne_4 rfl ?_
  refine N_icmp_ne (tgt := 30) d_D_readOne_6 (by decide) (by omega) (by omega) (fun c6 => ?_) (fun c6 => ?_)
  · refine J_aload_n (i := 0) d_D_readOne_30 rfl rfl ?_
    refine M_get (x := (nI (tk_ B j))) d_D_readOne_31 f_D_32 rfl rfl hL.2.2.2.1 ?_
    refine J_bipush (v := nI 40) d_D_readOne_34 rfl ?_
    refine N_icmp_eq (tgt := 75) d_D_readOne_36 (by decide) (by omega) (by omega) (fun c36 => ?_) (fun c36 => ?_)
    · refine J_aload_n (i := 0) d_D_readOne_75 rfl rfl ?_
      refine J_iload_n (i := 1) d_D_readOne_76 rfl rfl ?_
      have hop : opnB (tk_ B j) = true := opn_t.mpr (by omega)
      refine M_callV (av := [.int (nI oo)]) d_D_readOne_77 s_D_142 (M_rcv rfl (by decide) rfl) (hP _ _ _ hX hL hcj hop) (by omega) rfl rfl (Nat.le_of_ble_eq_true rfl) (fun r5 Y5 hq5 => ?_)
      obtain ⟨rfl, hq5⟩ := hq5
      refine J_goto (tgt := 87) d_D_readOne_80 (by decide) ?_
      refine M_vr d_D_readOne_87 rfl ?_
      have e : fOneB (tkT B) w pp j = pp j := by unfold fOneB; rw [if_neg (show ¬ (tkT B).1 j = 45 by show ¬ tk_ B j = 45; omega), if_pos (show opnB ((tkT B).1 j) = true from hop)]
      rw [e]
      exact ⟨rfl, hq5⟩
    · refine J_aload_n (i := 0) d_D_readOne_39 rfl rfl ?_
      refine M_get (x := (nI (tk_ B j))) d_D_readOne_40 f_D_32 rfl rfl hL.2.2.2.1 ?_
      refine J_bipush (v := nI 37) d_D_readOne_43 rfl ?_
      refine N_icmp_eq (tgt := 75) d_D_readOne_45 (by decide) (by omega) (by omega) (fun c45 => ?_) (fun c45 => ?_)
      · refine J_aload_n (i := 0) d_D_readOne_75 rfl rfl ?_
        refine J_iload_n (i := 1) d_D_readOne_76 rfl rfl ?_
        have hop : opnB (tk_ B j) = true := opn_t.mpr (by omega)
        refine M_callV (av := [.int (nI oo)]) d_D_readOne_77 s_D_142 (M_rcv rfl (by decide) rfl) (hP _ _ _ hX hL hcj hop) (by omega) rfl rfl (Nat.le_of_ble_eq_true rfl) (fun r5 Y5 hq5 => ?_)
        obtain ⟨rfl, hq5⟩ := hq5
        refine J_goto (tgt := 87) d_D_readOne_80 (by decide) ?_
        refine M_vr d_D_readOne_87 rfl ?_
        have e : fOneB (tkT B) w pp j = pp j := by unfold fOneB; rw [if_neg (show ¬ (tkT B).1 j = 45 by show ¬ tk_ B j = 45; omega), if_pos (show opnB ((tkT B).1 j) = true from hop)]
        rw [e]
        exact ⟨rfl, hq5⟩
      · refine J_aload_n (i := 0) d_D_readOne_48 rfl rfl ?_
        refine M_get (x := (nI (tk_ B j))) d_D_readOne_49 f_D_32 rfl rfl hL.2.2.2.1 ?_
        refine J_bipush (v := nI 17) d_D_readOne_52 rfl ?_
        refine N_icmp_eq (tgt := 75) d_D_readOne_54 (by decide) (by omega) (by omega) (fun c54 => ?_) (fun c54 => ?_)
        · refine J_aload_n (i := 0) d_D_readOne_75 rfl rfl ?_
          refine J_iload_n (i := 1) d_D_readOne_76 rfl rfl ?_
          have hop : opnB (tk_ B j) = true := opn_t.mpr (by omega)
          refine M_callV (av := [.int (nI oo)]) d_D_readOne_77 s_D_142 (M_rcv rfl (by decide) rfl) (hP _ _ _ hX hL hcj hop) (by omega) rfl rfl (Nat.le_of_ble_eq_true rfl) (fun r5 Y5 hq5 => ?_)
          obtain ⟨rfl, hq5⟩ := hq5
          refine J_goto (tgt := 87) d_D_readOne_80 (by decide) ?_
          refine M_vr d_D_readOne_87 rfl ?_
          have e : fOneB (tkT B) w pp j = pp j := by unfold fOneB; rw [if_neg (show ¬ (tkT B).1 j = 45 by show ¬ tk_ B j = 45; omega), if_pos (show opnB ((tkT B).1 j) = true from hop)]
          rw [e]
          exact ⟨rfl, hq5⟩
        · refine J_aload_n (i := 0) d_D_readOne_57 rfl rfl ?_
          refine M_get (x := (nI (tk_ B j))) d_D_readOne_58 f_D_32 rfl rfl hL.2.2.2.1 ?_
          refine J_bipush (v := nI 18) d_D_readOne_61 rfl ?_
          refine N_icmp_eq (tgt := 75) d_D_readOne_63 (by decide) (by omega) (by omega) (fun c63 => ?_) (fun c63 => ?_)
          · refine J_aload_n (i := 0) d_D_readOne_75 rfl rfl ?_
            refine J_iload_n (i := 1) d_D_readOne_76 rfl rfl ?_
            have hop : opnB (tk_ B j) = true := opn_t.mpr (by omega)
            refine M_callV (av := [.int (nI oo)]) d_D_readOne_77 s_D_142 (M_rcv rfl (by decide) rfl) (hP _ _ _ hX hL hcj hop) (by omega) rfl rfl (Nat.le_of_ble_eq_true rfl) (fun r5 Y5 hq5 => ?_)
            obtain ⟨rfl, hq5⟩ := hq5
            refine J_goto (tgt := 87) d_D_readOne_80 (by decide) ?_
            refine M_vr d_D_readOne_87 rfl ?_
            have e : fOneB (tkT B) w pp j = pp j := by unfold fOneB; rw [if_neg (show ¬ (tkT B).1 j = 45 by show ¬ tk_ B j = 45; omega), if_pos (show opnB ((tkT B).1 j) = true from hop)]
            rw [e]
            exact ⟨rfl, hq5⟩
          · refine J_aload_n (i := 0) d_D_readOne_66 rfl rfl ?_
            refine M_get (x := (nI (tk_ B j))) d_D_readOne_67 f_D_32 rfl rfl hL.2.2.2.1 ?_
            refine J_bipush (v := nI 19) d_D_readOne_70 rfl ?_
            refine N_icmp_ne (tgt := 83) d_D_readOne_72 (by decide) (by omega) (by omega) (fun c72 => ?_) (fun c72 => ?_)
            · refine J_aload_n (i := 0) d_D_readOne_83 rfl rfl ?_
              refine M_callV (av := []) d_D_readOne_84 s_D_145 (M_rcv rfl (by decide) rfl) (S_D_readName hX hL hcj) (by omega) rfl rfl (Nat.le_of_ble_eq_true rfl) (fun r5 Y5 hq5 => ?_)
              obtain ⟨rfl, hq5⟩ := hq5
              refine M_vr d_D_readOne_87 rfl ?_
              have hop : opnB (tk_ B j) = false := fls (fun z => by have := opn_t.mp z; omega)
              have e : fOneB (tkT B) w pp j = pName (tkT B) w j := by unfold fOneB; rw [if_neg (show ¬ (tkT B).1 j = 45 by show ¬ tk_ B j = 45; omega), show opnB ((tkT B).1 j) = false from hop]; rfl
              rw [e]
              exact ⟨rfl, hq5⟩
            · refine J_aload_n (i := 0) d_D_readOne_75 rfl rfl ?_
              refine J_iload_n (i := 1) d_D_readOne_76 rfl rfl ?_
              have hop : opnB (tk_ B j) = true := opn_t.mpr (by omega)
              refine M_callV (av := [.int (nI oo)]) d_D_readOne_77 s_D_142 (M_rcv rfl (by decide) rfl) (hP _ _ _ hX hL hcj hop) (by omega) rfl rfl (Nat.le_of_ble_eq_true rfl) (fun r5 Y5 hq5 => ?_)
              obtain ⟨rfl, hq5⟩ := hq5
              refine J_goto (tgt := 87) d_D_readOne_80 (by decide) ?_
              refine M_vr d_D_readOne_87 rfl ?_
              have e : fOneB (tkT B) w pp j = pp j := by unfold fOneB; rw [if_neg (show ¬ (tkT B).1 j = 45 by show ¬ tk_ B j = 45; omega), if_pos (show opnB ((tkT B).1 j) = true from hop)]
              rw [e]
              exact ⟨rfl, hq5⟩
  · refine J_aload_n (i := 0) d_D_readOne_9 rfl rfl ?_
    refine M_getI (b := T) d_D_readOne_10 f_D_34 rfl rfl hL.1.2.2 ?_
    refine J_bipush (v := nI 45) d_D_readOne_13 rfl ?_
    refine J_aload_n (i := 0) d_D_readOne_15 rfl rfl ?_
    refine J_iconst (v := nI 0) d_D_readOne_16 rfl ?_
    refine J_sipush (v := nI 9999) d_D_readOne_17 rfl ?_
    refine CV_N (av := [.int (nI 0), .int (nI 9999)]) d_D_readOne_20 s_D_115 (M_rcv rfl (by decide) rfl) (S_D_takeNumber hX hL (by decide) (by decide)) (by omega) rfl rfl (Nat.le_of_ble_eq_true rfl) ?_
    have ha1 : tk_ B j = 45 := c6
    by_cases hr1 : vC B (stT B j) < 0 ∨ 9999 < vC B (stT B j)
    · rw [show nuX X B j 0 9999 = rfX X 2 (stT B j) by rw [nuX, if_pos ha1, if_pos hr1], show nuV B j 0 9999 = 0 by rw [nuV, if_pos ha1, if_pos hr1]]
      have hD1 := rf_Dd (f := 2) (p := stT B j) hL (by decide) (by decide)
      obtain ⟨cd2, hcd2, hce2⟩ := hD1.2.2.2.2.2.2
      refine CV_N (av := [.int (nI 45), .int (nI 0)]) d_D_readOne_23 s_D_136 (M_rcv hD1.1.2.1 (by decide) rfl) (S_T_write (rf_Ok hX) hD1.1.2.1 hce2 hcd2) (by omega) rfl rfl (Nat.le_of_ble_eq_true rfl) ?_
      have hD2 := wr_Dd (x := 0 * 64 + 45) hD1 hce2 hcd2
      refine J_pop d_D_readOne_26 rfl ?_
      refine J_goto (tgt := 87) d_D_readOne_27 (by decide) ?_
      refine M_vr d_D_readOne_87 rfl ?_
      have e : fOneB (tkT B) w pp j = .inl (2, j) := by unfold fOneB; rw [if_pos (show (tkT B).1 j = 45 from c6), num_2 c6 hr1]; rfl
      rw [e]
      exact ⟨rfl, (wr_Ok (rf_Ok hX) hD1.1.2.1), (offL_t (offL_t (offL_0 T X) rf_off) wr_off), hD2⟩
    · rw [show nuX X B j 0 9999 = adX X B j by rw [nuX, if_pos ha1, if_neg hr1], show nuV B j 0 9999 = vC B (stT B j) by rw [nuV, if_pos ha1, if_neg hr1]]
      have hL1 := ad_Lv hL (show tk_ B j ≠ 46 by omega)
      refine CV_N (av := [.int (nI 45), .int (nI (vC B (stT B j)))]) d_D_readOne_23 s_D_136 (M_rcv hL1.1.2.1 (by decide) rfl) (S_T_write (ad_Ok hX) hL1.1.2.1 hL1.2.2.2.2.2.2.1 hL1.2.2.2.2.2.2.2.1) (by omega) rfl rfl (Nat.le_of_ble_eq_true rfl) ?_
      obtain ⟨hL2, hw2⟩ := wr_Lv (x := (vC B (stT B j)) * 64 + 45) hL1 (show c < 300 by omega)
      rw [show min c 299 = c by omega]
      refine J_pop d_D_readOne_26 rfl ?_
      refine J_goto (tgt := 87) d_D_readOne_27 (by decide) ?_
      refine M_vr d_D_readOne_87 rfl ?_
      have e : fOneB (tkT B) w pp j = .inr (j + 1, fun _ => ((vC B (stT B j) : Nat) : Int)) := by unfold fOneB; rw [if_pos (show (tkT B).1 j = 45 from c6), num_ok c6 hr1]; rfl
      rw [e]
      have hw := wr_cell (X := adX X B j) (x := vC B (stT B j) * 64 + 45) (c := c) (ad_Ok hX) hkT (by omega)
      exact ⟨rfl, (wr_Ok (ad_Ok hX) hL1.1.2.1), (offL_t (offL_t (offL_0 T X) (ad_off (j := j))) wr_off), c + 1, hL2, by omega, by omega, by omega, hw.1, GC_num (by omega) hw.2⟩

theorem lev_c (B : Nat → Nat) (N T : Nat) (w : Bool) : ∀ n, n ≤ 8 → COne (8 * n + 3) (8 - n) B N T w (lev (tkT B) w n).1 ∧ CAsk (8 * n + 6) (8 - n) B N T w (lev (tkT B) w n).2 := by
  intro n
  induction n with
  | zero =>
    intro _
    have h1 : COne 3 8 B N T w (lev (tkT B) w 0).1 := by
      show COne 3 8 B N T w (fOne (tkT B) w none)
      rw [fOne_B]
      exact S_D_readOne S_D_readOpenOne_0 (by decide) (by decide)
    refine ⟨h1, ?_⟩
    show CAsk 6 8 B N T w (fAsk (tkT B) (lev (tkT B) w 0).1 none)
    rw [fAsk_B, pSum_P]
    exact S_D_readAsk S_D_readNot_0 (S_D_readSum (S_D_readProduct h1 (by decide)) (by decide)) (by decide) (by decide) (by decide)
  | succ n ih =>
    intro hn
    obtain ⟨i1, i2⟩ := ih (by omega)
    have eo : 8 - n = 8 - (n + 1) + 1 := by omega
    rw [eo] at i1 i2
    have s1 := S_D_readSum (S_D_readProduct i1 (by omega)) (by omega)
    have e1 := S_D_readEither (S_D_readBoth i2 (by omega)) (by omega)
    have f1 := S_D_readChoice (dd := 8 * n + 9) e1 s1 (by omega) (by omega) (by omega)
    have h1 : COne (8 * (n + 1) + 3) (8 - (n + 1)) B N T w (lev (tkT B) w (n + 1)).1 := by
      show COne (8 * (n + 1) + 3) (8 - (n + 1)) B N T w (fOne (tkT B) w (some (lev (tkT B) w n)))
      rw [fOne_B]
      exact S_D_readOne (dp := 8 * n + 10) (S_D_readOpenOne_1 (dd := 8 * n + 10) s1 f1 i1 (by omega) (by omega) (by omega) (by omega) (by omega)) (by omega) (by omega)
    refine ⟨h1, ?_⟩
    show CAsk (8 * (n + 1) + 6) (8 - (n + 1)) B N T w (fAsk (tkT B) (lev (tkT B) w (n + 1)).1 (some (lev (tkT B) w n).2))
    rw [fAsk_B, pSum_P]
    exact S_D_readAsk (S_D_readNot_1 i2 (by omega) (by omega)) (S_D_readSum (S_D_readProduct h1 (by omega)) (by omega)) (by omega) (by omega) (by omega)
/-- a law read, whatever is in it -/
theorem law_c (B : Nat → Nat) (N T : Nat) (w : Bool) : CSum 69 0 B N T w (pSum (tkT B) (lev (tkT B) w 8).1) := by
  rw [pSum_P]
  exact S_D_readSum (S_D_readProduct (lev_c B N T w 8 (by decide)).1 (by decide)) (by decide)
