/-- what reading a part comes to -/
def Out {α : Type} (X : Mem) (B : Nat → Nat) (N T j c : Nat) (w : Bool) (G : Mem → Nat → Nat → α → Prop) (r : PR α) (Y : Mem) : Prop := Ok Y ∧ (offL T X Y ∧ (match r with
  | .inl q => Dd Y B N T q.1 (stT B q.2)
  | .inr q => ∃ c2, Lv Y B N T q.1 c2 w ∧ c2 + j ≤ c + q.1 ∧ j < q.1 ∧ c ≤ c2 ∧ (∀ p, p < c → (Y.2.1 (T + 1)).getD p 0 = (X.2.1 (T + 1)).getD p 0) ∧ G Y c c2 q.2))
def OutD (X : Mem) (B : Nat → Nat) (N T f p : Nat) (Y : Mem) : Prop := Ok Y ∧ offL T X Y ∧ Dd Y B N T f p
theorem wr_cell {X : Mem} {T c x : Nat} (hX : Ok X) (hk : kd T = 5) (hc : c < 300) : (∀ p, p < c → ((wrX X T c x).2.1 (T + 1)).getD p 0 = (X.2.1 (T + 1)).getD p 0) ∧ ((wrX X T c x).2.1 (T + 1)).getD c 0 = nI x := by
  have e : (wrX X T c x).2.1 (T + 1) = (X.2.1 (T + 1)).set c (nI x) := by
    unfold wrX
    rw [if_pos hc]
    exact pA_at
  have tf := txt_f hk
  have hl : (X.2.1 (T + 1)).length = 300 := by rw [hX.1 (T + 1) (by omega)]; exact tf.2.2.1.1
  rw [e]
  exact ⟨fun p hp => set_ne (by omega), set_eq (by omega)⟩
def COne (dd oo : Nat) (B : Nat → Nat) (N T : Nat) (w : Bool) (one : Nat → PR SVl) : Prop := ∀ (X : Mem) (j c : Nat), Ok X → Lv X B N T j c w → c ≤ j → CM dd m_D_readOne [.ref 11, .int (nI oo)] X (fun r Y => r = none ∧ Out X B N T j c w (GdC T w) (one j) Y)
def CProd (dd oo : Nat) (B : Nat → Nat) (N T : Nat) (w : Bool) (one : Nat → PR SVl) : Prop := ∀ (X : Mem) (j c : Nat), Ok X → Lv X B N T j c w → c ≤ j → CM dd m_D_readProduct [.ref 11, .int (nI oo)] X (fun r Y => r = none ∧ Out X B N T j c w (GdC T w) (one j) Y)
def CSum (dd oo : Nat) (B : Nat → Nat) (N T : Nat) (w : Bool) (one : Nat → PR SVl) : Prop := ∀ (X : Mem) (j c : Nat), Ok X → Lv X B N T j c w → c ≤ j → CM dd m_D_readSum [.ref 11, .int (nI oo)] X (fun r Y => r = none ∧ Out X B N T j c w (GdC T w) (one j) Y)
def CAsk (dd oo : Nat) (B : Nat → Nat) (N T : Nat) (w : Bool) (one : Nat → PR SBl) : Prop := ∀ (X : Mem) (j c : Nat), Ok X → Lv X B N T j c w → c ≤ j → CM dd m_D_readAsk [.ref 11, .int (nI oo)] X (fun r Y => r = none ∧ Out X B N T j c w (GdB T w) (one j) Y)
def CBoth (dd oo : Nat) (B : Nat → Nat) (N T : Nat) (w : Bool) (one : Nat → PR SBl) : Prop := ∀ (X : Mem) (j c : Nat), Ok X → Lv X B N T j c w → c ≤ j → CM dd m_D_readBoth [.ref 11, .int (nI oo)] X (fun r Y => r = none ∧ Out X B N T j c w (GdB T w) (one j) Y)
def CEith (dd oo : Nat) (B : Nat → Nat) (N T : Nat) (w : Bool) (one : Nat → PR SBl) : Prop := ∀ (X : Mem) (j c : Nat), Ok X → Lv X B N T j c w → c ≤ j → CM dd m_D_readEither [.ref 11, .int (nI oo)] X (fun r Y => r = none ∧ Out X B N T j c w (GdB T w) (one j) Y)
theorem WB_eq {d : Nat} {M : MInfo} {fc fs : Nat} {Q : Option Value → MH → Prop} {pc : Nat} {L : MLoc} {st : List Value} {h : MH} {X : Mem} {w : Bool} (hw : X.1 11 3 = 0 ↔ w = false) {off : Int} {tgt : Nat} (hd : decode M.2.1 pc = .ok (.ifCond .eq off, 3)) (ht : (pc : Int) + off = (tgt : Int)) (k1 : w = false → J d M fc fs Q tgt L st h) (k2 : w = true → J d M fc fs Q (pc + 3) L st h) : J d M fc fs Q pc L (.int (X.1 11 3) :: st) h := J_if_eq hd ht (fun q => k1 (hw.mp q)) (fun q => k2 (by
  cases w
  · exact absurd (hw.mpr rfl) q
  · rfl))
theorem S_D_readName {X : Mem} {B : Nat → Nat} {N T j c : Nat} {w : Bool} (hX : Ok X) (hL : Lv X B N T j c w) (hcj : c ≤ j) : CM 1 m_D_readName [.ref 11] X (fun r Y => r = none ∧ Out X B N T j c w (GdC T w) (pName (tkT B) w j) Y) := by
  have hkT := hL.1.2.1
  have h300 := hL.1.1.1
  have hjN := hL.2.1
  have hlt := tk_lt B j
  have hjl := Lv_N hL
  refine CM_of (L := [some (.ref 11), none, none]) 2 ok_D_readName (fun _ => Nat.le_of_ble_eq_true rfl) rfl ?_
  refine J_aload_n (i := 0) d_D_readName_0 rfl rfl ?_
  refine M_get (x := (nI (tk_ B j))) d_D_readName_1 f_D_32 rfl rfl hL.2.2.2.1 ?_
  refine J_istore_n (i := 1) (L1 := [some (.ref 11), some (.int (nI (tk_ B j))), none]) d_D_readName_4 rfl (by decide) rfl ?_
  refine J_iload_n (i := 1) d_D_readName_5 rfl rfl ?_
  refine J_bipush (v := nI 6) d_D_readName_6 rfl ?_
  refine N_icmp_eq (tgt := 23) d_D_readName_8 (by decide) (by omega) (by omega) (fun c8 => ?_) (fun c8 => ?_)
  · refine J_iconst (v := nI 1) d_D_readName_23 rfl ?_
    refine J_goto (tgt := 28) d_D_readName_24 (by decide) ?_
    refine J_istore_n (i := 2) (L1 := [some (.ref 11), some (.int (nI (tk_ B j))), some (.int (nI 1))]) d_D_readName_28 rfl (by decide) rfl ?_
    refine J_iload_n (i := 2) d_D_readName_29 rfl rfl ?_
    refine N_if_ne (tgt := 41) d_D_readName_30 (by decide) (by omega) (fun c30 => ?_) (fun c30 => absurd c30 (by decide))
    refine J_iload_n (i := 1) d_D_readName_41 rfl rfl ?_
    refine J_bipush (v := nI 30) d_D_readName_42 rfl ?_
    refine N_icmp_ne (tgt := 54) d_D_readName_44 (by decide) (by omega) (by omega) (fun c44 => ?_) (fun c44 => ?_)
    · refine J_iload_n (i := 1) d_D_readName_54 rfl rfl ?_
      refine J_bipush (v := nI 31) d_D_readName_55 rfl ?_
      refine N_icmp_ne (tgt := 75) d_D_readName_57 (by decide) (by omega) (by omega) (fun c57 => ?_) (fun c57 => ?_)
      · refine J_aload_n (i := 0) d_D_readName_75 rfl rfl ?_
        refine M_getI (b := T) d_D_readName_76 f_D_34 rfl rfl hL.1.2.2 ?_
        refine J_iload_n (i := 1) d_D_readName_79 rfl rfl ?_
        refine J_iconst (v := nI 0) d_D_readName_80 rfl ?_
        refine CV_N (av := [.int (nI (tk_ B j)), .int (nI 0)]) d_D_readName_81 s_D_136 (M_rcv hL.1.2.1 (by decide) rfl) (S_T_write hX hL.1.2.1 hL.2.2.2.2.2.2.1 hL.2.2.2.2.2.2.2.1) (by omega) rfl rfl (Nat.le_of_ble_eq_true rfl) ?_
        obtain ⟨hL1, hw1⟩ := wr_Lv (x := 0 * 64 + (tk_ B j)) hL (show c < 300 by omega)
        rw [show min c 299 = c by omega]
        refine J_pop d_D_readName_84 rfl ?_
        refine J_aload_n (i := 0) d_D_readName_85 rfl rfl ?_
        refine CV_V (av := []) d_D_readName_86 s_D_54 (M_rcv rfl (by decide) rfl) (S_D_advance (wr_Ok hX hL.1.2.1) hL1 (show tk_ B j ≠ 46 by omega)) (by omega) rfl rfl (Nat.le_of_ble_eq_true rfl) ?_
        have hL2 := ad_Lv hL1 (show tk_ B j ≠ 46 by omega)
        refine M_vr d_D_readName_89 rfl ?_
        have hn : nameB (tk_ B j) = true := by simp only [nameB, Bool.or_eq_true, Bool.and_eq_true, decide_eq_true_eq]; omega
        have hne : ¬ ((tk_ B j = 30 ∧ w = false) ∨ (tk_ B j = 31 ∧ w = true)) := by
          intro z
          rcases z with z | z
          · first | omega | (have q := z.2; rw [c51] at q; cases q)
          · first | omega | (have q := z.2; rw [c64] at q; cases q)
        have e : pName (tkT B) w j = .inr (j + 1, fun e => nmV e (nmI (tk_ B j))) := by rw [pName, show (tkT B).1 j = tk_ B j from rfl, hn, if_pos rfl, if_neg hne]
        rw [e]
        have hcl := wr_cell (x := 0 * 64 + tk_ B j) hX hkT (show c < 300 by omega)
        exact ⟨rfl, (ad_Ok (wr_Ok hX hL.1.2.1)), (offL_t (offL_t (offL_0 T X) wr_off) (ad_off (j := j))), c + 1, hL2, by omega, by omega, by omega, hcl.1, GC_name hn (fun z => hne (Or.inl z)) hcl.2⟩
      · refine J_aload_n (i := 0) d_D_readName_60 rfl rfl ?_
        refine M_get (x := (X.1 11 3)) d_D_readName_61 f_D_87 rfl rfl rfl ?_
        refine WB_eq hL.2.2.2.2.1 (tgt := 75) d_D_readName_64 (by decide) (fun c64 => ?_) (fun c64 => ?_)
        · refine J_aload_n (i := 0) d_D_readName_75 rfl rfl ?_
          refine M_getI (b := T) d_D_readName_76 f_D_34 rfl rfl hL.1.2.2 ?_
          refine J_iload_n (i := 1) d_D_readName_79 rfl rfl ?_
          refine J_iconst (v := nI 0) d_D_readName_80 rfl ?_
          refine CV_N (av := [.int (nI (tk_ B j)), .int (nI 0)]) d_D_readName_81 s_D_136 (M_rcv hL.1.2.1 (by decide) rfl) (S_T_write hX hL.1.2.1 hL.2.2.2.2.2.2.1 hL.2.2.2.2.2.2.2.1) (by omega) rfl rfl (Nat.le_of_ble_eq_true rfl) ?_
          obtain ⟨hL1, hw1⟩ := wr_Lv (x := 0 * 64 + (tk_ B j)) hL (show c < 300 by omega)
          rw [show min c 299 = c by omega]
          refine J_pop d_D_readName_84 rfl ?_
          refine J_aload_n (i := 0) d_D_readName_85 rfl rfl ?_
          refine CV_V (av := []) d_D_readName_86 s_D_54 (M_rcv rfl (by decide) rfl) (S_D_advance (wr_Ok hX hL.1.2.1) hL1 (show tk_ B j ≠ 46 by omega)) (by omega) rfl rfl (Nat.le_of_ble_eq_true rfl) ?_
          have hL2 := ad_Lv hL1 (show tk_ B j ≠ 46 by omega)
          refine M_vr d_D_readName_89 rfl ?_
          have hn : nameB (tk_ B j) = true := by simp only [nameB, Bool.or_eq_true, Bool.and_eq_true, decide_eq_true_eq]; omega
          have hne : ¬ ((tk_ B j = 30 ∧ w = false) ∨ (tk_ B j = 31 ∧ w = true)) := by
            intro z
            rcases z with z | z
            · first | omega | (have q := z.2; rw [c51] at q; cases q)
            · first | omega | (have q := z.2; rw [c64] at q; cases q)
          have e : pName (tkT B) w j = .inr (j + 1, fun e => nmV e (nmI (tk_ B j))) := by rw [pName, show (tkT B).1 j = tk_ B j from rfl, hn, if_pos rfl, if_neg hne]
          rw [e]
          have hcl := wr_cell (x := 0 * 64 + tk_ B j) hX hkT (show c < 300 by omega)
          exact ⟨rfl, (ad_Ok (wr_Ok hX hL.1.2.1)), (offL_t (offL_t (offL_0 T X) wr_off) (ad_off (j := j))), c + 1, hL2, by omega, by omega, by omega, hcl.1, GC_name hn (fun z => hne (Or.inl z)) hcl.2⟩
        · refine J_aload_n (i := 0) d_D_readName_67 rfl rfl ?_
          refine J_iconst (v := nI 5) d_D_readName_68 rfl ?_
          refine CV_V (av := [.int (nI 5)]) d_D_readName_69 s_D_57 (M_rcv rfl (by decide) rfl) (S_D_refuse hX hL) (by omega) rfl rfl (Nat.le_of_ble_eq_true rfl) ?_
          have hD1 := rf_Dd (f := 5) (p := stT B j) hL (by decide) (by decide)
          refine J_goto (tgt := 89) d_D_readName_72 (by decide) ?_
          refine M_vr d_D_readName_89 rfl ?_
          have hn : nameB (tk_ B j) = true := by simp only [nameB, Bool.or_eq_true, Bool.and_eq_true, decide_eq_true_eq]; omega
          have e : pName (tkT B) w j = .inl (5, j) := by rw [pName, show (tkT B).1 j = tk_ B j from rfl, hn, if_pos rfl, if_pos (Or.inr ⟨by omega, c64⟩)]
          rw [e]
          exact ⟨rfl, (rf_Ok hX), (offL_t (offL_0 T X) rf_off), hD1⟩
    · refine J_aload_n (i := 0) d_D_readName_47 rfl rfl ?_
      refine M_get (x := (X.1 11 3)) d_D_readName_48 f_D_87 rfl rfl rfl ?_
      refine WB_eq hL.2.2.2.2.1 (tgt := 67) d_D_readName_51 (by decide) (fun c51 => ?_) (fun c51 => ?_)
      · refine J_aload_n (i := 0) d_D_readName_67 rfl rfl ?_
        refine J_iconst (v := nI 5) d_D_readName_68 rfl ?_
        refine CV_V (av := [.int (nI 5)]) d_D_readName_69 s_D_57 (M_rcv rfl (by decide) rfl) (S_D_refuse hX hL) (by omega) rfl rfl (Nat.le_of_ble_eq_true rfl) ?_
        have hD1 := rf_Dd (f := 5) (p := stT B j) hL (by decide) (by decide)
        refine J_goto (tgt := 89) d_D_readName_72 (by decide) ?_
        refine M_vr d_D_readName_89 rfl ?_
        have hn : nameB (tk_ B j) = true := by simp only [nameB, Bool.or_eq_true, Bool.and_eq_true, decide_eq_true_eq]; omega
        have e : pName (tkT B) w j = .inl (5, j) := by rw [pName, show (tkT B).1 j = tk_ B j from rfl, hn, if_pos rfl, if_pos (Or.inl ⟨by omega, c51⟩)]
        rw [e]
        exact ⟨rfl, (rf_Ok hX), (offL_t (offL_0 T X) rf_off), hD1⟩
      · refine J_iload_n (i := 1) d_D_readName_54 rfl rfl ?_
        refine J_bipush (v := nI 31) d_D_readName_55 rfl ?_
        refine N_icmp_ne (tgt := 75) d_D_readName_57 (by decide) (by omega) (by omega) (fun c57 => ?_) (fun c57 => ?_)
        · refine J_aload_n (i := 0) d_D_readName_75 rfl rfl ?_
          refine M_getI (b := T) d_D_readName_76 f_D_34 rfl rfl hL.1.2.2 ?_
          refine J_iload_n (i := 1) d_D_readName_79 rfl rfl ?_
          refine J_iconst (v := nI 0) d_D_readName_80 rfl ?_
          refine CV_N (av := [.int (nI (tk_ B j)), .int (nI 0)]) d_D_readName_81 s_D_136 (M_rcv hL.1.2.1 (by decide) rfl) (S_T_write hX hL.1.2.1 hL.2.2.2.2.2.2.1 hL.2.2.2.2.2.2.2.1) (by omega) rfl rfl (Nat.le_of_ble_eq_true rfl) ?_
          obtain ⟨hL1, hw1⟩ := wr_Lv (x := 0 * 64 + (tk_ B j)) hL (show c < 300 by omega)
          rw [show min c 299 = c by omega]
          refine J_pop d_D_readName_84 rfl ?_
          refine J_aload_n (i := 0) d_D_readName_85 rfl rfl ?_
          refine CV_V (av := []) d_D_readName_86 s_D_54 (M_rcv rfl (by decide) rfl) (S_D_advance (wr_Ok hX hL.1.2.1) hL1 (show tk_ B j ≠ 46 by omega)) (by omega) rfl rfl (Nat.le_of_ble_eq_true rfl) ?_
          have hL2 := ad_Lv hL1 (show tk_ B j ≠ 46 by omega)
          refine M_vr d_D_readName_89 rfl ?_
          have hn : nameB (tk_ B j) = true := by simp only [nameB, Bool.or_eq_true, Bool.and_eq_true, decide_eq_true_eq]; omega
          have hne : ¬ ((tk_ B j = 30 ∧ w = false) ∨ (tk_ B j = 31 ∧ w = true)) := by
            intro z
            rcases z with z | z
            · first | omega | (have q := z.2; rw [c51] at q; cases q)
            · first | omega | (have q := z.2; rw [c64] at q; cases q)
          have e : pName (tkT B) w j = .inr (j + 1, fun e => nmV e (nmI (tk_ B j))) := by rw [pName, show (tkT B).1 j = tk_ B j from rfl, hn, if_pos rfl, if_neg hne]
          rw [e]
          have hcl := wr_cell (x := 0 * 64 + tk_ B j) hX hkT (show c < 300 by omega)
          exact ⟨rfl, (ad_Ok (wr_Ok hX hL.1.2.1)), (offL_t (offL_t (offL_0 T X) wr_off) (ad_off (j := j))), c + 1, hL2, by omega, by omega, by omega, hcl.1, GC_name hn (fun z => hne (Or.inl z)) hcl.2⟩
        · refine J_aload_n (i := 0) d_D_readName_60 rfl rfl ?_
          refine M_get (x := (X.1 11 3)) d_D_readName_61 f_D_87 rfl rfl rfl ?_
          refine WB_eq hL.2.2.2.2.1 (tgt := 75) d_D_readName_64 (by decide) (fun c64 => ?_) (fun c64 => ?_)
          · refine J_aload_n (i := 0) d_D_readName_75 rfl rfl ?_
            refine M_getI (b := T) d_D_readName_76 f_D_34 rfl rfl hL.1.2.2 ?_
            refine J_iload_n (i := 1) d_D_readName_79 rfl rfl ?_
            refine J_iconst (v := nI 0) d_D_readName_80 rfl ?_
            refine CV_N (av := [.int (nI (tk_ B j)), .int (nI 0)]) d_D_readName_81 s_D_136 (M_rcv hL.1.2.1 (by decide) rfl) (S_T_write hX hL.1.2.1 hL.2.2.2.2.2.2.1 hL.2.2.2.2.2.2.2.1) (by omega) rfl rfl (Nat.le_of_ble_eq_true rfl) ?_
            obtain ⟨hL1, hw1⟩ := wr_Lv (x := 0 * 64 + (tk_ B j)) hL (show c < 300 by omega)
            rw [show min c 299 = c by omega]
            refine J_pop d_D_readName_84 rfl ?_
            refine J_aload_n (i := 0) d_D_readName_85 rfl rfl ?_
            refine CV_V (av := []) d_D_readName_86 s_D_54 (M_rcv rfl (by decide) rfl) (S_D_advance (wr_Ok hX hL.1.2.1) hL1 (show tk_ B j ≠ 46 by omega)) (by omega) rfl rfl (Nat.le_of_ble_eq_true rfl) ?_
            have hL2 := ad_Lv hL1 (show tk_ B j ≠ 46 by omega)
            refine M_vr d_D_readName_89 rfl ?_
            have hn : nameB (tk_ B j) = true := by simp only [nameB, Bool.or_eq_true, Bool.and_eq_true, decide_eq_true_eq]; omega
            have hne : ¬ ((tk_ B j = 30 ∧ w = false) ∨ (tk_ B j = 31 ∧ w = true)) := by
              intro z
              rcases z with z | z
              · first | omega | (have q := z.2; rw [c51] at q; cases q)
              · first | omega | (have q := z.2; rw [c64] at q; cases q)
            have e : pName (tkT B) w j = .inr (j + 1, fun e => nmV e (nmI (tk_ B j))) := by rw [pName, show (tkT B).1 j = tk_ B j from rfl, hn, if_pos rfl, if_neg hne]
            rw [e]
            have hcl := wr_cell (x := 0 * 64 + tk_ B j) hX hkT (show c < 300 by omega)
            exact ⟨rfl, (ad_Ok (wr_Ok hX hL.1.2.1)), (offL_t (offL_t (offL_0 T X) wr_off) (ad_off (j := j))), c + 1, hL2, by omega, by omega, by omega, hcl.1, GC_name hn (fun z => hne (Or.inl z)) hcl.2⟩
          · refine J_aload_n (i := 0) d_D_readName_67 rfl rfl ?_
            refine J_iconst (v := nI 5) d_D_readName_68 rfl ?_
            refine CV_V (av := [.int (nI 5)]) d_D_readName_69 s_D_57 (M_rcv rfl (by decide) rfl) (S_D_refuse hX hL) (by omega) rfl rfl (Nat.le_of_ble_eq_true rfl) ?_
            have hD1 := rf_Dd (f := 5) (p := stT B j) hL (by decide) (by decide)
            refine J_goto (tgt := 89) d_D_readName_72 (by decide) ?_
            refine M_vr d_D_readName_89 rfl ?_
            have hn : nameB (tk_ B j) = true := by simp only [nameB, Bool.or_eq_true, Bool.and_eq_true, decide_eq_true_eq]; omega
            have e : pName (tkT B) w j = .inl (5, j) := by rw [pName, show (tkT B).1 j = tk_ B j from rfl, hn, if_pos rfl, if_pos (Or.inr ⟨by omega, c64⟩)]
            rw [e]
            exact ⟨rfl, (rf_Ok hX), (offL_t (offL_0 T X) rf_off), hD1⟩
  · refine J_iload_n (i := 1) d_D_readName_11 rfl rfl ?_
    refine J_bipush (v := nI 26) d_D_readName_12 rfl ?_
    refine N_icmp_lt (tgt := 27) d_D_readName_14 (by decide) (by omega) (by omega) (fun c14 => ?_) (fun c14 => ?_)
    · refine J_iconst (v := nI 0) d_D_readName_27 rfl ?_
      refine J_istore_n (i := 2) (L1 := [some (.ref 11), some (.int (nI (tk_ B j))), some (.int (nI 0))]) d_D_readName_28 rfl (by decide) rfl ?_
      refine J_iload_n (i := 2) d_D_readName_29 rfl rfl ?_
      refine N_if_ne (tgt := 41) d_D_readName_30 (by decide) (by omega) (fun c30 => absurd c30 (by decide)) (fun c30 => ?_)
      refine J_aload_n (i := 0) d_D_readName_33 rfl rfl ?_
      refine J_iconst (v := nI 1) d_D_readName_34 rfl ?_
      refine CV_V (av := [.int (nI 1)]) d_D_readName_35 s_D_57 (M_rcv rfl (by decide) rfl) (S_D_refuse hX hL) (by omega) rfl rfl (Nat.le_of_ble_eq_true rfl) ?_
      have hD1 := rf_Dd (f := 1) (p := stT B j) hL (by decide) (by decide)
      refine J_goto (tgt := 89) d_D_readName_38 (by decide) ?_
      refine M_vr d_D_readName_89 rfl ?_
      have hn : nameB (tk_ B j) = false := fls (fun z => by simp only [nameB, Bool.or_eq_true, Bool.and_eq_true, decide_eq_true_eq] at z; omega)
      have e : pName (tkT B) w j = .inl (1, j) := by rw [pName, show (tkT B).1 j = tk_ B j from rfl, hn]; rfl
      rw [e]
      exact ⟨rfl, (rf_Ok hX), (offL_t (offL_0 T X) rf_off), hD1⟩
    · refine J_iload_n (i := 1) d_D_readName_17 rfl rfl ?_
      refine J_bipush (v := nI 31) d_D_readName_18 rfl ?_
      refine N_icmp_gt (tgt := 27) d_D_readName_20 (by decide) (by omega) (by omega) (fun c20 => ?_) (fun c20 => ?_)
      · refine J_iconst (v := nI 0) d_D_readName_27 rfl ?_
        refine J_istore_n (i := 2) (L1 := [some (.ref 11), some (.int (nI (tk_ B j))), some (.int (nI 0))]) d_D_readName_28 rfl (by decide) rfl ?_
        refine J_iload_n (i := 2) d_D_readName_29 rfl rfl ?_
        refine N_if_ne (tgt := 41) d_D_readName_30 (by decide) (by omega) (fun c30 => absurd c30 (by decide)) (fun c30 => ?_)
        refine J_aload_n (i := 0) d_D_readName_33 rfl rfl ?_
        refine J_iconst (v := nI 1) d_D_readName_34 rfl ?_
        refine CV_V (av := [.int (nI 1)]) d_D_readName_35 s_D_57 (M_rcv rfl (by decide) rfl) (S_D_refuse hX hL) (by omega) rfl rfl (Nat.le_of_ble_eq_true rfl) ?_
        have hD1 := rf_Dd (f := 1) (p := stT B j) hL (by decide) (by decide)
        refine J_goto (tgt := 89) d_D_readName_38 (by decide) ?_
        refine M_vr d_D_readName_89 rfl ?_
        have hn : nameB (tk_ B j) = false := fls (fun z => by simp only [nameB, Bool.or_eq_true, Bool.and_eq_true, decide_eq_true_eq] at z; omega)
        have e : pName (tkT B) w j = .inl (1, j) := by rw [pName, show (tkT B).1 j = tk_ B j from rfl, hn]; rfl
        rw [e]
        exact ⟨rfl, (rf_Ok hX), (offL_t (offL_0 T X) rf_off), hD1⟩
      · refine J_iconst (v := nI 1) d_D_readName_23 rfl ?_
        refine J_goto (tgt := 28) d_D_readName_24 (by decide) ?_
        refine J_istore_n (i := 2) (L1 := [some (.ref 11), some (.int (nI (tk_ B j))), some (.int (nI 1))]) d_D_readName_28 rfl (by decide) rfl ?_
        refine J_iload_n (i := 2) d_D_readName_29 rfl rfl ?_
        refine N_if_ne (tgt := 41) d_D_readName_30 (by decide) (by omega) (fun c30 => ?_) (fun c30 => absurd c30 (by decide))
        refine J_iload_n (i := 1) d_D_readName_41 rfl rfl ?_
        refine J_bipush (v := nI 30) d_D_readName_42 rfl ?_
        refine N_icmp_ne (tgt := 54) d_D_readName_44 (by decide) (by omega) (by omega) (fun c44 => ?_) (fun c44 => ?_)
        · refine J_iload_n (i := 1) d_D_readName_54 rfl rfl ?_
          refine J_bipush (v := nI 31) d_D_readName_55 rfl ?_
          refine N_icmp_ne (tgt := 75) d_D_readName_57 (by decide) (by omega) (by omega) (fun c57 => ?_) (fun c57 => ?_)
          · refine J_aload_n (i := 0) d_D_readName_75 rfl rfl ?_
            refine M_getI (b := T) d_D_readName_76 f_D_34 rfl rfl hL.1.2.2 ?_
            refine J_iload_n (i := 1) d_D_readName_79 rfl rfl ?_
            refine J_iconst (v := nI 0) d_D_readName_80 rfl ?_
            refine CV_N (av := [.int (nI (tk_ B j)), .int (nI 0)]) d_D_readName_81 s_D_136 (M_rcv hL.1.2.1 (by decide) rfl) (S_T_write hX hL.1.2.1 hL.2.2.2.2.2.2.1 hL.2.2.2.2.2.2.2.1) (by omega) rfl rfl (Nat.le_of_ble_eq_true rfl) ?_
            obtain ⟨hL1, hw1⟩ := wr_Lv (x := 0 * 64 + (tk_ B j)) hL (show c < 300 by omega)
            rw [show min c 299 = c by omega]
            refine J_pop d_D_readName_84 rfl ?_
            refine J_aload_n (i := 0) d_D_readName_85 rfl rfl ?_
            refine CV_V (av := []) d_D_readName_86 s_D_54 (M_rcv rfl (by decide) rfl) (S_D_advance (wr_Ok hX hL.1.2.1) hL1 (show tk_ B j ≠ 46 by omega)) (by omega) rfl rfl (Nat.le_of_ble_eq_true rfl) ?_
            have hL2 := ad_Lv hL1 (show tk_ B j ≠ 46 by omega)
            refine M_vr d_D_readName_89 rfl ?_
            have hn : nameB (tk_ B j) = true := by simp only [nameB, Bool.or_eq_true, Bool.and_eq_true, decide_eq_true_eq]; omega
            have hne : ¬ ((tk_ B j = 30 ∧ w = false) ∨ (tk_ B j = 31 ∧ w = true)) := by
              intro z
              rcases z with z | z
              · first | omega | (have q := z.2; rw [c51] at q; cases q)
              · first | omega | (have q := z.2; rw [c64] at q; cases q)
            have e : pName (tkT B) w j = .inr (j + 1, fun e => nmV e (nmI (tk_ B j))) := by rw [pName, show (tkT B).1 j = tk_ B j from rfl, hn, if_pos rfl, if_neg hne]
            rw [e]
            have hcl := wr_cell (x := 0 * 64 + tk_ B j) hX hkT (show c < 300 by omega)
            exact ⟨rfl, (ad_Ok (wr_Ok hX hL.1.2.1)), (offL_t (offL_t (offL_0 T X) wr_off) (ad_off (j := j))), c + 1, hL2, by omega, by omega, by omega, hcl.1, GC_name hn (fun z => hne (Or.inl z)) hcl.2⟩
          · refine J_aload_n (i := 0) d_D_readName_60 rfl rfl ?_
            refine M_get (x := (X.1 11 3)) d_D_readName_61 f_D_87 rfl rfl rfl ?_
            refine WB_eq hL.2.2.2.2.1 (tgt := 75) d_D_readName_64 (by decide) (fun c64 => ?_) (fun c64 => ?_)
            · refine J_aload_n (i := 0) d_D_readName_75 rfl rfl ?_
              refine M_getI (b := T) d_D_readName_76 f_D_34 rfl rfl hL.1.2.2 ?_
              refine J_iload_n (i := 1) d_D_readName_79 rfl rfl ?_
              refine J_iconst (v := nI 0) d_D_readName_80 rfl ?_
              refine CV_N (av := [.int (nI (tk_ B j)), .int (nI 0)]) d_D_readName_81 s_D_136 (M_rcv hL.1.2.1 (by decide) rfl) (S_T_write hX hL.1.2.1 hL.2.2.2.2.2.2.1 hL.2.2.2.2.2.2.2.1) (by omega) rfl rfl (Nat.le_of_ble_eq_true rfl) ?_
              obtain ⟨hL1, hw1⟩ := wr_Lv (x := 0 * 64 + (tk_ B j)) hL (show c < 300 by omega)
              rw [show min c 299 = c by omega]
              refine J_pop d_D_readName_84 rfl ?_
              refine J_aload_n (i := 0) d_D_readName_85 rfl rfl ?_
              refine CV_V (av := []) d_D_readName_86 s_D_54 (M_rcv rfl (by decide) rfl) (S_D_advance (wr_Ok hX hL.1.2.1) hL1 (show tk_ B j ≠ 46 by omega)) (by omega) rfl rfl (Nat.le_of_ble_eq_true rfl) ?_
              have hL2 := ad_Lv hL1 (show tk_ B j ≠ 46 by omega)
              refine M_vr d_D_readName_89 rfl ?_
              have hn : nameB (tk_ B j) = true := by simp only [nameB, Bool.or_eq_true, Bool.and_eq_true, decide_eq_true_eq]; omega
              have hne : ¬ ((tk_ B j = 30 ∧ w = false) ∨ (tk_ B j = 31 ∧ w = true)) := by
                intro z
                rcases z with z | z
                · first | omega | (have q := z.2; rw [c51] at q; cases q)
                · first | omega | (have q := z.2; rw [c64] at q; cases q)
              have e : pName (tkT B) w j = .inr (j + 1, fun e => nmV e (nmI (tk_ B j))) := by rw [pName, show (tkT B).1 j = tk_ B j from rfl, hn, if_pos rfl, if_neg hne]
              rw [e]
              have hcl := wr_cell (x := 0 * 64 + tk_ B j) hX hkT (show c < 300 by omega)
              exact ⟨rfl, (ad_Ok (wr_Ok hX hL.1.2.1)), (offL_t (offL_t (offL_0 T X) wr_off) (ad_off (j := j))), c + 1, hL2, by omega, by omega, by omega, hcl.1, GC_name hn (fun z => hne (Or.inl z)) hcl.2⟩
            · refine J_aload_n (i := 0) d_D_readName_67 rfl rfl ?_
              refine J_iconst (v := nI 5) d_D_readName_68 rfl ?_
              refine CV_V (av := [.int (nI 5)]) d_D_readName_69 s_D_57 (M_rcv rfl (by decide) rfl) (S_D_refuse hX hL) (by omega) rfl rfl (Nat.le_of_ble_eq_true rfl) ?_
              have hD1 := rf_Dd (f := 5) (p := stT B j) hL (by decide) (by decide)
              refine J_goto (tgt := 89) d_D_readName_72 (by decide) ?_
              refine M_vr d_D_readName_89 rfl ?_
              have hn : nameB (tk_ B j) = true := by simp only [nameB, Bool.or_eq_true, Bool.and_eq_true, decide_eq_true_eq]; omega
              have e : pName (tkT B) w j = .inl (5, j) := by rw [pName, show (tkT B).1 j = tk_ B j from rfl, hn, if_pos rfl, if_pos (Or.inr ⟨by omega, c64⟩)]
              rw [e]
              exact ⟨rfl, (rf_Ok hX), (offL_t (offL_0 T X) rf_off), hD1⟩
        · refine J_aload_n (i := 0) d_D_readName_47 rfl rfl ?_
          refine M_get (x := (X.1 11 3)) d_D_readName_48 f_D_87 rfl rfl rfl ?_
          refine WB_eq hL.2.2.2.2.1 (tgt := 67) d_D_readName_51 (by decide) (fun c51 => ?_) (fun c51 => ?_)
          · refine J_aload_n (i := 0) d_D_readName_67 rfl rfl ?_
            refine J_iconst (v := nI 5) d_D_readName_68 rfl ?_
            refine CV_V (av := [.int (nI 5)]) d_D_readName_69 s_D_57 (M_rcv rfl (by decide) rfl) (S_D_refuse hX hL) (by omega) rfl rfl (Nat.le_of_ble_eq_true rfl) ?_
            have hD1 := rf_Dd (f := 5) (p := stT B j) hL (by decide) (by decide)
            refine J_goto (tgt := 89) d_D_readName_72 (by decide) ?_
            refine M_vr d_D_readName_89 rfl ?_
            have hn : nameB (tk_ B j) = true := by simp only [nameB, Bool.or_eq_true, Bool.and_eq_true, decide_eq_true_eq]; omega
            have e : pName (tkT B) w j = .inl (5, j) := by rw [pName, show (tkT B).1 j = tk_ B j from rfl, hn, if_pos rfl, if_pos (Or.inl ⟨by omega, c51⟩)]
            rw [e]
            exact ⟨rfl, (rf_Ok hX), (offL_t (offL_0 T X) rf_off), hD1⟩
          · refine J_iload_n (i := 1) d_D_readName_54 rfl rfl ?_
            refine J_bipush (v := nI 31) d_D_readName_55 rfl ?_
            refine N_icmp_ne (tgt := 75) d_D_readName_57 (by decide) (by omega) (by omega) (fun c57 => ?_) (fun c57 => ?_)
            · refine J_aload_n (i := 0) d_D_readName_75 rfl rfl ?_
              refine M_getI (b := T) d_D_readName_76 f_D_34 rfl rfl hL.1.2.2 ?_
              refine J_iload_n (i := 1) d_D_readName_79 rfl rfl ?_
              refine J_iconst (v := nI 0) d_D_readName_80 rfl ?_
              refine CV_N (av := [.int (nI (tk_ B j)), .int (nI 0)]) d_D_readName_81 s_D_136 (M_rcv hL.1.2.1 (by decide) rfl) (S_T_write hX hL.1.2.1 hL.2.2.2.2.2.2.1 hL.2.2.2.2.2.2.2.1) (by omega) rfl rfl (Nat.le_of_ble_eq_true rfl) ?_
              obtain ⟨hL1, hw1⟩ := wr_Lv (x := 0 * 64 + (tk_ B j)) hL (show c < 300 by omega)
              rw [show min c 299 = c by omega]
              refine J_pop d_D_readName_84 rfl ?_
              refine J_aload_n (i := 0) d_D_readName_85 rfl rfl ?_
              refine CV_V (av := []) d_D_readName_86 s_D_54 (M_rcv rfl (by decide) rfl) (S_D_advance (wr_Ok hX hL.1.2.1) hL1 (show tk_ B j ≠ 46 by omega)) (by omega) rfl rfl (Nat.le_of_ble_eq_true rfl) ?_
              have hL2 := ad_Lv hL1 (show tk_ B j ≠ 46 by omega)
              refine M_vr d_D_readName_89 rfl ?_
              have hn : nameB (tk_ B j) = true := by simp only [nameB, Bool.or_eq_true, Bool.and_eq_true, decide_eq_true_eq]; omega
              have hne : ¬ ((tk_ B j = 30 ∧ w = false) ∨ (tk_ B j = 31 ∧ w = true)) := by
                intro z
                rcases z with z | z
                · first | omega | (have q := z.2; rw [c51] at q; cases q)
                · first | omega | (have q := z.2; rw [c64] at q; cases q)
              have e : pName (tkT B) w j = .inr (j + 1, fun e => nmV e (nmI (tk_ B j))) := by rw [pName, show (tkT B).1 j = tk_ B j from rfl, hn, if_pos rfl, if_neg hne]
              rw [e]
              have hcl := wr_cell (x := 0 * 64 + tk_ B j) hX hkT (show c < 300 by omega)
              exact ⟨rfl, (ad_Ok (wr_Ok hX hL.1.2.1)), (offL_t (offL_t (offL_0 T X) wr_off) (ad_off (j := j))), c + 1, hL2, by omega, by omega, by omega, hcl.1, GC_name hn (fun z => hne (Or.inl z)) hcl.2⟩
            · refine J_aload_n (i := 0) d_D_readName_60 rfl rfl ?_
              refine M_get (x := (X.1 11 3)) d_D_readName_61 f_D_87 rfl rfl rfl ?_
              refine WB_eq hL.2.2.2.2.1 (tgt := 75) d_D_readName_64 (by decide) (fun c64 => ?_) (fun c64 => ?_)
              · refine J_aload_n (i := 0) d_D_readName_75 rfl rfl ?_
                refine M_getI (b := T) d_D_readName_76 f_D_34 rfl rfl hL.1.2.2 ?_
                refine J_iload_n (i := 1) d_D_readName_79 rfl rfl ?_
                refine J_iconst (v := nI 0) d_D_readName_80 rfl ?_
                refine CV_N (av := [.int (nI (tk_ B j)), .int (nI 0)]) d_D_readName_81 s_D_136 (M_rcv hL.1.2.1 (by decide) rfl) (S_T_write hX hL.1.2.1 hL.2.2.2.2.2.2.1 hL.2.2.2.2.2.2.2.1) (by omega) rfl rfl (Nat.le_of_ble_eq_true rfl) ?_
                obtain ⟨hL1, hw1⟩ := wr_Lv (x := 0 * 64 + (tk_ B j)) hL (show c < 300 by omega)
                rw [show min c 299 = c by omega]
                refine J_pop d_D_readName_84 rfl ?_
                refine J_aload_n (i := 0) d_D_readName_85 rfl rfl ?_
                refine CV_V (av := []) d_D_readName_86 s_D_54 (M_rcv rfl (by decide) rfl) (S_D_advance (wr_Ok hX hL.1.2.1) hL1 (show tk_ B j ≠ 46 by omega)) (by omega) rfl rfl (Nat.le_of_ble_eq_true rfl) ?_
                have hL2 := ad_Lv hL1 (show tk_ B j ≠ 46 by omega)
                refine M_vr d_D_readName_89 rfl ?_
                have hn : nameB (tk_ B j) = true := by simp only [nameB, Bool.or_eq_true, Bool.and_eq_true, decide_eq_true_eq]; omega
                have hne : ¬ ((tk_ B j = 30 ∧ w = false) ∨ (tk_ B j = 31 ∧ w = true)) := by
                  intro z
                  rcases z with z | z
                  · first | omega | (have q := z.2; rw [c51] at q; cases q)
                  · first | omega | (have q := z.2; rw [c64] at q; cases q)
                have e : pName (tkT B) w j = .inr (j + 1, fun e => nmV e (nmI (tk_ B j))) := by rw [pName, show (tkT B).1 j = tk_ B j from rfl, hn, if_pos rfl, if_neg hne]
                rw [e]
                have hcl := wr_cell (x := 0 * 64 + tk_ B j) hX hkT (show c < 300 by omega)
                exact ⟨rfl, (ad_Ok (wr_Ok hX hL.1.2.1)), (offL_t (offL_t (offL_0 T X) wr_off) (ad_off (j := j))), c + 1, hL2, by omega, by omega, by omega, hcl.1, GC_name hn (fun z => hne (Or.inl z)) hcl.2⟩
              · refine J_aload_n (i := 0) d_D_readName_67 rfl rfl ?_
                refine J_iconst (v := nI 5) d_D_readName_68 rfl ?_
                refine CV_V (av := [.int (nI 5)]) d_D_readName_69 s_D_57 (M_rcv rfl (by decide) rfl) (S_D_refuse hX hL) (by omega) rfl rfl (Nat.le_of_ble_eq_true rfl) ?_
                have hD1 := rf_Dd (f := 5) (p := stT B j) hL (by decide) (by decide)
                refine J_goto (tgt := 89) d_D_readName_72 (by decide) ?_
                refine M_vr d_D_readName_89 rfl ?_
                have hn : nameB (tk_ B j) = true := by simp only [nameB, Bool.or_eq_true, Bool.and_eq_true, decide_eq_true_eq]; omega
                have e : pName (tkT B) w j = .inl (5, j) := by rw [pName, show (tkT B).1 j = tk_ B j from rfl, hn, if_pos rfl, if_pos (Or.inr ⟨by omega, c64⟩)]
                rw [e]
                exact ⟨rfl, (rf_Ok hX), (offL_t (offL_0 T X) rf_off), hD1⟩

theorem S_D_readName_d {X : Mem} {B : Nat → Nat} {N T f p : Nat} (hX : Ok X) (hD : Dd X B N T f p) : CM 1 m_D_readName [.ref 11] X (fun r Y => r = none ∧ OutD X B N T f p Y) := by
  have hkT := hD.1.2.1
  have hff := hD.2.2.2.2.1
  refine CM_of (L := [some (.ref 11), none, none]) 2 ok_D_readName (fun _ => Nat.le_of_ble_eq_true rfl) rfl ?_
  refine J_aload_n (i := 0) d_D_readName_0 rfl rfl ?_
  refine M_get (x := (nI 47)) d_D_readName_1 f_D_32 rfl rfl hD.2.2.1 ?_
  refine J_istore_n (i := 1) (L1 := [some (.ref 11), some (.int (nI 47)), none]) d_D_readName_4 rfl (by decide) rfl ?_
  refine J_iload_n (i := 1) d_D_readName_5 rfl rfl ?_
  refine J_bipush (v := nI 6) d_D_readName_6 rfl ?_
  refine N_icmp_eq (tgt := 23) d_D_readName_8 (by decide) (by omega) (by omega) (fun c8 => absurd c8 (by decide)) (fun c8 => ?_)
  refine J_iload_n (i := 1) d_D_readName_11 rfl rfl ?_
  refine J_bipush (v := nI 26) d_D_readName_12 rfl ?_
  refine N_icmp_lt (tgt := 27) d_D_readName_14 (by decide) (by omega) (by omega) (fun c14 => absurd c14 (by decide)) (fun c14 => ?_)
  refine J_iload_n (i := 1) d_D_readName_17 rfl rfl ?_
  refine J_bipush (v := nI 31) d_D_readName_18 rfl ?_
  refine N_icmp_gt (tgt := 27) d_D_readName_20 (by decide) (by omega) (by omega) (fun c20 => ?_) (fun c20 => absurd c20 (by decide))
  refine J_iconst (v := nI 0) d_D_readName_27 rfl ?_
  refine J_istore_n (i := 2) (L1 := [some (.ref 11), some (.int (nI 47)), some (.int (nI 0))]) d_D_readName_28 rfl (by decide) rfl ?_
  refine J_iload_n (i := 2) d_D_readName_29 rfl rfl ?_
  refine N_if_ne (tgt := 41) d_D_readName_30 (by decide) (by omega) (fun c30 => absurd c30 (by decide)) (fun c30 => ?_)
  refine J_aload_n (i := 0) d_D_readName_33 rfl rfl ?_
  refine J_iconst (v := nI 1) d_D_readName_34 rfl ?_
  refine CV_V (av := [.int (nI 1)]) d_D_readName_35 s_D_57 (M_rcv rfl (by decide) rfl) (S_D_refuse_d hX hD) (by omega) rfl rfl (Nat.le_of_ble_eq_true rfl) ?_
  refine J_goto (tgt := 89) d_D_readName_38 (by decide) ?_
  refine M_vr d_D_readName_89 rfl ?_
  exact ⟨rfl, hX, (offL_0 T X), hD⟩

theorem S_D_readOne_d {X : Mem} {B : Nat → Nat} {N T f p : Nat} (hX : Ok X) (hD : Dd X B N T f p) {oo : Nat} : CM 2 m_D_readOne [.ref 11, .int (nI oo)] X (fun r Y => r = none ∧ OutD X B N T f p Y) := by
  have hkT := hD.1.2.1
  have hff := hD.2.2.2.2.1
  refine CM_of (L := [some (.ref 11), some (.int (nI oo))]) 0 ok_D_readOne (fun _ => Nat.le_of_ble_eq_true rfl) rfl ?_
  refine J_aload_n (i := 0) d_D_readOne_0 rfl rfl ?_
  refine M_get (x := (nI 47)) d_D_readOne_1 f_D_32 rfl rfl hD.2.2.1 ?_
  refine J_bipush (v := nI 45) d_D_readOne_4 rfl ?_
  refine N_icmp_ne (tgt := 30) d_D_readOne_6 (by decide) (by omega) (by omega) (fun c6 => ?_) (fun c6 => absurd c6 (by decide))
  refine J_aload_n (i := 0) d_D_readOne_30 rfl rfl ?_
  refine M_get (x := (nI 47)) d_D_readOne_31 f_D_32 rfl rfl hD.2.2.1 ?_
  refine J_bipush (v := nI 40) d_D_readOne_34 rfl ?_
  refine N_icmp_eq (tgt := 75) d_D_readOne_36 (by decide) (by omega) (by omega) (fun c36 => absurd c36 (by decide)) (fun c36 => ?_)
  refine J_aload_n (i := 0) d_D_readOne_39 rfl rfl ?_
  refine M_get (x := (nI 47)) d_D_readOne_40 f_D_32 rfl rfl hD.2.2.1 ?_
  refine J_bipush (v := nI 37) d_D_readOne_43 rfl ?_
  refine N_icmp_eq (tgt := 75) d_D_readOne_45 (by decide) (by omega) (by omega) (fun c45 => absurd c45 (by decide)) (fun c45 => ?_)
  refine J_aload_n (i := 0) d_D_readOne_48 rfl rfl ?_
  refine M_get (x := (nI 47)) d_D_readOne_49 f_D_32 rfl rfl hD.2.2.1 ?_
  refine J_bipush (v := nI 17) d_D_readOne_52 rfl ?_
  refine N_icmp_eq (tgt := 75) d_D_readOne_54 (by decide) (by omega) (by omega) (fun c54 => absurd c54 (by decide)) (fun c54 => ?_)
  refine J_aload_n (i := 0) d_D_readOne_57 rfl rfl ?_
  refine M_get (x := (nI 47)) d_D_readOne_58 f_D_32 rfl rfl hD.2.2.1 ?_
  refine J_bipush (v := nI 18) d_D_readOne_61 rfl ?_
  refine N_icmp_eq (tgt := 75) d_D_readOne_63 (by decide) (by omega) (by omega) (fun c63 => absurd c63 (by decide)) (fun c63 => ?_)
  refine J_aload_n (i := 0) d_D_readOne_66 rfl rfl ?_
  refine M_get (x := (nI 47)) d_D_readOne_67 f_D_32 rfl rfl hD.2.2.1 ?_
  refine J_bipush (v := nI 19) d_D_readOne_70 rfl ?_
  refine N_icmp_ne (tgt := 83) d_D_readOne_72 (by decide) (by omega) (by omega) (fun c72 => ?_) (fun c72 => absurd c72 (by decide))
  refine J_aload_n (i := 0) d_D_readOne_83 rfl rfl ?_
  refine M_callV (av := []) d_D_readOne_84 s_D_145 (M_rcv rfl (by decide) rfl) (S_D_readName_d hX hD) (by omega) rfl rfl (Nat.le_of_ble_eq_true rfl) (fun r1 Y1 hq1 => ?_)
  obtain ⟨rfl, hY1, ho1, hD1⟩ := hq1
  refine M_vr d_D_readOne_87 rfl ?_
  exact ⟨rfl, hY1, (offL_t (offL_0 T X) ho1), hD1⟩

theorem S_D_readProduct_d {X : Mem} {B : Nat → Nat} {N T f p : Nat} (hX : Ok X) (hD : Dd X B N T f p) {oo : Nat} : CM 3 m_D_readProduct [.ref 11, .int (nI oo)] X (fun r Y => r = none ∧ OutD X B N T f p Y) := by
  have hkT := hD.1.2.1
  have hff := hD.2.2.2.2.1
  refine CM_of (L := [some (.ref 11), some (.int (nI oo)), none, none]) 2 ok_D_readProduct (fun _ => Nat.le_of_ble_eq_true rfl) rfl ?_
  refine J_aload_n (i := 0) d_D_readProduct_0 rfl rfl ?_
  refine J_iload_n (i := 1) d_D_readProduct_1 rfl rfl ?_
  refine M_callV (av := [.int (nI oo)]) d_D_readProduct_2 s_D_139 (M_rcv rfl (by decide) rfl) (S_D_readOne_d hX hD) (by omega) rfl rfl (Nat.le_of_ble_eq_true rfl) (fun r1 Y1 hq1 => ?_)
  obtain ⟨rfl, hY1, ho1, hD1⟩ := hq1
  refine J_iconst (v := nI 0) d_D_readProduct_5 rfl ?_
  refine J_istore_n (i := 2) (L1 := [some (.ref 11), some (.int (nI oo)), some (.int (nI 0)), none]) d_D_readProduct_6 rfl (by decide) rfl ?_
  refine J_iload_n (i := 2) d_D_readProduct_7 rfl rfl ?_
  refine J_sipush (v := nI 300) d_D_readProduct_8 rfl ?_
  refine N_icmp_ge (tgt := 62) d_D_readProduct_11 (by decide) (by omega) (by omega) (fun c11 => absurd c11 (by decide)) (fun c11 => ?_)
  refine J_aload_n (i := 0) d_D_readProduct_14 rfl rfl ?_
  refine M_get (x := (nI 47)) d_D_readProduct_15 f_D_32 rfl rfl hD1.2.2.1 ?_
  refine J_bipush (v := nI 38) d_D_readProduct_18 rfl ?_
  refine N_icmp_eq (tgt := 32) d_D_readProduct_20 (by decide) (by omega) (by omega) (fun c20 => absurd c20 (by decide)) (fun c20 => ?_)
  refine J_aload_n (i := 0) d_D_readProduct_23 rfl rfl ?_
  refine M_get (x := (nI 47)) d_D_readProduct_24 f_D_32 rfl rfl hD1.2.2.1 ?_
  refine J_bipush (v := nI 39) d_D_readProduct_27 rfl ?_
  refine N_icmp_ne (tgt := 62) d_D_readProduct_29 (by decide) (by omega) (by omega) (fun c29 => ?_) (fun c29 => absurd c29 (by decide))
  refine M_vr d_D_readProduct_62 rfl ?_
  exact ⟨rfl, hY1, (offL_t (offL_0 T X) ho1), hD1⟩

theorem S_D_readSum_d {X : Mem} {B : Nat → Nat} {N T f p : Nat} (hX : Ok X) (hD : Dd X B N T f p) {oo : Nat} : CM 4 m_D_readSum [.ref 11, .int (nI oo)] X (fun r Y => r = none ∧ OutD X B N T f p Y) := by
  have hkT := hD.1.2.1
  have hff := hD.2.2.2.2.1
  refine CM_of (L := [some (.ref 11), some (.int (nI oo)), none, none]) 2 ok_D_readSum (fun _ => Nat.le_of_ble_eq_true rfl) rfl ?_
  refine J_aload_n (i := 0) d_D_readSum_0 rfl rfl ?_
  refine J_iload_n (i := 1) d_D_readSum_1 rfl rfl ?_
  refine M_callV (av := [.int (nI oo)]) d_D_readSum_2 s_D_133 (M_rcv rfl (by decide) rfl) (S_D_readProduct_d hX hD) (by omega) rfl rfl (Nat.le_of_ble_eq_true rfl) (fun r1 Y1 hq1 => ?_)
  obtain ⟨rfl, hY1, ho1, hD1⟩ := hq1
  refine J_iconst (v := nI 0) d_D_readSum_5 rfl ?_
  refine J_istore_n (i := 2) (L1 := [some (.ref 11), some (.int (nI oo)), some (.int (nI 0)), none]) d_D_readSum_6 rfl (by decide) rfl ?_
  refine J_iload_n (i := 2) d_D_readSum_7 rfl rfl ?_
  refine J_sipush (v := nI 300) d_D_readSum_8 rfl ?_
  refine N_icmp_ge (tgt := 62) d_D_readSum_11 (by decide) (by omega) (by omega) (fun c11 => absurd c11 (by decide)) (fun c11 => ?_)
  refine J_aload_n (i := 0) d_D_readSum_14 rfl rfl ?_
  refine M_get (x := (nI 47)) d_D_readSum_15 f_D_32 rfl rfl hD1.2.2.1 ?_
  refine J_bipush (v := nI 36) d_D_readSum_18 rfl ?_
  refine N_icmp_eq (tgt := 32) d_D_readSum_20 (by decide) (by omega) (by omega) (fun c20 => absurd c20 (by decide)) (fun c20 => ?_)
  refine J_aload_n (i := 0) d_D_readSum_23 rfl rfl ?_
  refine M_get (x := (nI 47)) d_D_readSum_24 f_D_32 rfl rfl hD1.2.2.1 ?_
  refine J_bipush (v := nI 37) d_D_readSum_27 rfl ?_
  refine N_icmp_ne (tgt := 62) d_D_readSum_29 (by decide) (by omega) (by omega) (fun c29 => ?_) (fun c29 => absurd c29 (by decide))
  refine M_vr d_D_readSum_62 rfl ?_
  exact ⟨rfl, hY1, (offL_t (offL_0 T X) ho1), hD1⟩

