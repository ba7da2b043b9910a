/-- the clauses of a text of the reference: how many, of which kinds -/
def TRl (X : Mem) (t nc : Nat) (srt : Nat → Nat) : Prop := t < 4 ∧ nc ≤ 24 ∧ (X.2.1 251).getD (681 * t) 0 = nI nc ∧ ∀ k, k < nc → (X.2.1 251).getD (681 * t + 1 + 3 * k) 0 = nI (srt k) ∧ srt k < 7
/-- a law of a text of the reference: there is none, or its code runs to D -/
def LwR (X : Mem) (t so nc : Nat) (srt oc vc : Nat → Nat) (D : Option (Env → Int)) : Prop := (D = none → ∀ k, k < nc → srt k ≠ so) ∧ ∀ d, D = some d → ∃ k, k < nc ∧ srt k = so ∧ (∀ q, q < k → srt q ≠ so) ∧ ∃ a b, (X.2.1 251).getD (681 * t + 1 + 3 * k + 1) 0 = nI a ∧ (X.2.1 251).getD (681 * t + 1 + 3 * k + 2) 0 = nI b ∧ a ≤ b ∧ b ≤ 300 ∧ ∀ e, okE e → sm (d e) ∧ stepsR e oc vc (b - a) a [] [] = some ([d e], [])
/-- what the laws of the reference leave behind -/
def lawR (X Y : Mem) : Prop := ∃ l0 l1 l2, l0.length = 7 ∧ l1.length = 330 ∧ l2.length = 330 ∧ Y = rk2 (pA X 256 l0) l1 l2
def svV (D : Option (Env → Int)) (w top : Nat) (e : Env) : Nat := match D with
  | none => w
  | some d => cgN (d e) top
def lawS (X Y : Mem) : Prop := ∃ l1 l2, l1.length = 330 ∧ l2.length = 330 ∧ Y = rk2 X l1 l2
theorem lawS_0 {X : Mem} (hX : Ok X) : lawS X X := ⟨X.2.2.1 257, X.2.1 258, by rw [hX.2.1 257]; rfl, by rw [hX.1 258 (by decide)]; rfl, by rw [rk2, pL_eta, pA_eta]⟩
theorem S_R_says_n {X : Mem} {so w top : Nat} (hX : Ok X) : CM 3 m_R_says [.ref 244, .int (-1), .int (nI so), .int (nI w), .int (nI top)] X (fun r Y => r = some (.int (nI w)) ∧ lawS X Y) := by
  refine CM_of (L := [some (.ref 244), some (.int (-1)), some (.int (nI so)), some (.int (nI w)), some (.int (nI top)), none]) 1 ok_R_says (fun _ => Nat.le_of_ble_eq_true rfl) rfl ?_
  refine J_iconst (v := nI 0) d_R_says_0 rfl ?_
  refine J_istore (L1 := [some (.ref 244), some (.int (-1)), some (.int (nI so)), some (.int (nI w)), some (.int (nI top)), some (.int (nI 0))]) d_R_says_1 (by decide) rfl ?_
  refine J_iload_n (i := 1) d_R_says_3 rfl rfl ?_
  refine J_if_lt (tgt := 63) d_R_says_4 (by decide) (fun c4 => ?_) (fun c4 => absurd c4 (by decide))
  refine J_iload_n (i := 3) d_R_says_63 rfl rfl ?_
  refine M_ir d_R_says_64 rfl rfl ?_
  exact ⟨rfl, lawS_0 hX⟩

theorem lp_R_says_0 {X : Mem} {e : Env} {oc vc srt : Nat → Nat} {t so w top nc : Nat} {D : Option (Env → Int)} (hX : Ok X) (hR : RE X e) (hN : NMv X e) (hO : okE e) (hT : TRw X t oc vc) (hC : TRl X t nc srt) (hD : LwR X t so nc srt oc vc D) (hso : so < 7) (htop : top ≤ 99) {Q : Option Value → Mem → Prop} (hn : D = none) (kq : Q (some (.int (nI w))) X) : ∀ (m k : Nat), k + m = nc → JM 3 m_R_says Q 3 [some (.ref 244), some (.int (nI t)), some (.int (nI so)), some (.int (nI w)), some (.int (nI top)), some (.int (nI k))] [] X := by
  have ht4 := hT.1
  have hn24 := hC.2.1
  intro m
  induction m with
  | zero =>
    intro k hk
    obtain rfl : k = nc := by omega
    refine J_iload_n (i := 1) d_R_says_3 rfl rfl ?_
    refine N_if_lt (tgt := 63) d_R_says_4 (by decide) (by omega) ?_
    refine J_iload d_R_says_7 rfl ?_
    refine J_aload_n (i := 0) d_R_says_9 rfl rfl ?_
    refine M_getR (b := 251) d_R_says_10 f_R_28 rfl rfl rfl ?_
    refine J_sipush (v := nI 681) d_R_says_13 rfl ?_
    refine J_iload_n (i := 1) d_R_says_16 rfl rfl ?_
    refine N_imul d_R_says_17 ?_
    refine N_iald (x := (nI k)) d_R_says_18 rfl (by omega) (ltL hX (a := 251) (n := 2724) (by decide) rfl (by omega)) hC.2.2.1 ?_
    refine N_icmp_ge (tgt := 63) d_R_says_19 (by decide) (by omega) (by omega) (fun c19 => ?_) (fun c19 => absurd c19 (by omega))
    refine J_iload_n (i := 3) d_R_says_63 rfl rfl ?_
    refine M_ir d_R_says_64 rfl rfl ?_
    exact kq
  | succ m ih =>
    intro k hk
    have hsk := (hC.2.2.2 k (by omega)).2
    have hne := hD.1 hn k (by omega)
    refine J_iload_n (i := 1) d_R_says_3 rfl rfl ?_
    refine N_if_lt (tgt := 63) d_R_says_4 (by decide) (by omega) ?_
    refine J_iload d_R_says_7 rfl ?_
    refine J_aload_n (i := 0) d_R_says_9 rfl rfl ?_
    refine M_getR (b := 251) d_R_says_10 f_R_28 rfl rfl rfl ?_
    refine J_sipush (v := nI 681) d_R_says_13 rfl ?_
    refine J_iload_n (i := 1) d_R_says_16 rfl rfl ?_
    refine N_imul d_R_says_17 ?_
    refine N_iald (x := (nI nc)) d_R_says_18 rfl (by omega) (ltL hX (a := 251) (n := 2724) (by decide) rfl (by omega)) hC.2.2.1 ?_
    refine N_icmp_ge (tgt := 63) d_R_says_19 (by decide) (by omega) (by omega) (fun c19 => absurd c19 (by omega)) (fun c19 => ?_)
    refine J_aload_n (i := 0) d_R_says_22 rfl rfl ?_
    refine M_getR (b := 251) d_R_says_23 f_R_28 rfl rfl rfl ?_
    refine J_sipush (v := nI 681) d_R_says_26 rfl ?_
    refine J_iload_n (i := 1) d_R_says_29 rfl rfl ?_
    refine N_imul d_R_says_30 ?_
    refine J_iconst (v := nI 1) d_R_says_31 rfl ?_
    refine N_iadd d_R_says_32 ?_
    refine J_iconst (v := nI 3) d_R_says_33 rfl ?_
    refine J_iload d_R_says_34 rfl ?_
    refine N_imul d_R_says_36 ?_
    refine N_iadd d_R_says_37 ?_
    refine N_iald (x := (nI (srt k))) d_R_says_38 rfl (by omega) (ltL hX (a := 251) (n := 2724) (by decide) rfl (by omega)) (hC.2.2.2 k (by omega)).1 ?_
    refine J_iload_n (i := 2) d_R_says_39 rfl rfl ?_
    refine N_icmp_ne (tgt := 57) d_R_says_40 (by decide) (by omega) (by omega) (fun c40 => ?_) (fun c40 => absurd c40 (fun q => absurd q hne))
    refine N_iinc (a := k) (c := 1) (L1 := [some (.ref 244), some (.int (nI t)), some (.int (nI so)), some (.int (nI w)), some (.int (nI top)), some (.int (nI (k + 1)))]) d_R_says_57 rfl rfl (by decide) rfl ?_
    refine J_goto (tgt := 3) d_R_says_60 (by decide) ?_
    exact ih (k + 1) (by omega)
theorem lp_R_says_1 {X : Mem} {e : Env} {oc vc srt : Nat → Nat} {t so w top nc : Nat} {D : Option (Env → Int)} (hX : Ok X) (hR : RE X e) (hN : NMv X e) (hO : okE e) (hT : TRw X t oc vc) (hC : TRl X t nc srt) (hD : LwR X t so nc srt oc vc D) (hso : so < 7) (htop : top ≤ 99) {Q : Option Value → Mem → Prop} {d : Env → Int} {kk : Nat} (hkn : kk < nc) (hks : srt kk = so) (hfi : ∀ q, q < kk → srt q ≠ so) (hd : ∃ a b, (X.2.1 251).getD (681 * t + 1 + 3 * kk + 1) 0 = nI a ∧ (X.2.1 251).getD (681 * t + 1 + 3 * kk + 2) 0 = nI b ∧ a ≤ b ∧ b ≤ 300 ∧ ∀ e, okE e → sm (d e) ∧ stepsR e oc vc (b - a) a [] [] = some ([d e], [])) (kq : ∀ l1 l2, l1.length = 330 → l2.length = 330 → Q (some (.int (nI (cgN (d e) top)))) (rk2 X l1 l2)) : ∀ (m k : Nat), k + m = kk → JM 3 m_R_says Q 3 [some (.ref 244), some (.int (nI t)), some (.int (nI so)), some (.int (nI w)), some (.int (nI top)), some (.int (nI k))] [] X := by
  have ht4 := hT.1
  have hn24 := hC.2.1
  intro m
  induction m with
  | zero =>
    intro k hk
    have hkk : kk = k := by omega
    have hsk := (hC.2.2.2 k (by omega)).2
    refine J_iload_n (i := 1) d_R_says_3 rfl rfl ?_
    refine N_if_lt (tgt := 63) d_R_says_4 (by decide) (by omega) ?_
    refine J_iload d_R_says_7 rfl ?_
    refine J_aload_n (i := 0) d_R_says_9 rfl rfl ?_
    refine M_getR (b := 251) d_R_says_10 f_R_28 rfl rfl rfl ?_
    refine J_sipush (v := nI 681) d_R_says_13 rfl ?_
    refine J_iload_n (i := 1) d_R_says_16 rfl rfl ?_
    refine N_imul d_R_says_17 ?_
    refine N_iald (x := (nI nc)) d_R_says_18 rfl (by omega) (ltL hX (a := 251) (n := 2724) (by decide) rfl (by omega)) hC.2.2.1 ?_
    refine N_icmp_ge (tgt := 63) d_R_says_19 (by decide) (by omega) (by omega) (fun c19 => absurd c19 (by omega)) (fun c19 => ?_)
    refine J_aload_n (i := 0) d_R_says_22 rfl rfl ?_
    refine M_getR (b := 251) d_R_says_23 f_R_28 rfl rfl rfl ?_
    refine J_sipush (v := nI 681) d_R_says_26 rfl ?_
    refine J_iload_n (i := 1) d_R_says_29 rfl rfl ?_
    refine N_imul d_R_says_30 ?_
    refine J_iconst (v := nI 1) d_R_says_31 rfl ?_
    refine N_iadd d_R_says_32 ?_
    refine J_iconst (v := nI 3) d_R_says_33 rfl ?_
    refine J_iload d_R_says_34 rfl ?_
    refine N_imul d_R_says_36 ?_
    refine N_iadd d_R_says_37 ?_
    refine N_iald (x := (nI (srt k))) d_R_says_38 rfl (by omega) (ltL hX (a := 251) (n := 2724) (by decide) rfl (by omega)) (hC.2.2.2 k (by omega)).1 ?_
    refine J_iload_n (i := 2) d_R_says_39 rfl rfl ?_
    refine N_icmp_ne (tgt := 57) d_R_says_40 (by decide) (by omega) (by omega) (fun c40 => absurd c40 (fun z => z (by rw [← hks, hkk]))) (fun c40 => ?_)
    refine J_aload_n (i := 0) d_R_says_43 rfl rfl ?_
    refine J_iload_n (i := 1) d_R_says_44 rfl rfl ?_
    refine J_iload d_R_says_45 rfl ?_
    obtain rfl : k = kk := hkk.symm
    obtain ⟨a, b, ha, hb2, hab, hb3, hrun⟩ := hd
    obtain ⟨hsm, hst⟩ := hrun e hO
    refine M_callV (av := [.int (nI t), .int (nI k)]) d_R_says_47 s_R_356 (M_rcv rfl (by decide) rfl) (S_R_summedUp hX hR hN hO hT (by omega) ha hb2 hab hb3 hst) (by decide) rfl rfl (Nat.le_of_ble_eq_true rfl) (fun r Y hq => ?_)
    obtain ⟨rfl, l1, l2, hl1, hl2, rfl⟩ := hq
    refine J_iconst (v := nI 0) d_R_says_50 rfl ?_
    refine J_iload d_R_says_51 rfl ?_
    refine CS_I (av := [.long (lI (d e)), .int (nI 0), .int (nI top)]) d_R_says_53 s_R_359 S_R_held0 (by decide) rfl rfl (Nat.le_of_ble_eq_true rfl) ?_
    rw [hld_n hsm htop]
    refine M_ir d_R_says_56 rfl rfl ?_
    exact kq l1 l2 hl1 hl2
  | succ m ih =>
    intro k hk
    have hsk := (hC.2.2.2 k (by omega)).2
    have hne := hfi k (by omega)
    refine J_iload_n (i := 1) d_R_says_3 rfl rfl ?_
    refine N_if_lt (tgt := 63) d_R_says_4 (by decide) (by omega) ?_
    refine J_iload d_R_says_7 rfl ?_
    refine J_aload_n (i := 0) d_R_says_9 rfl rfl ?_
    refine M_getR (b := 251) d_R_says_10 f_R_28 rfl rfl rfl ?_
    refine J_sipush (v := nI 681) d_R_says_13 rfl ?_
    refine J_iload_n (i := 1) d_R_says_16 rfl rfl ?_
    refine N_imul d_R_says_17 ?_
    refine N_iald (x := (nI nc)) d_R_says_18 rfl (by omega) (ltL hX (a := 251) (n := 2724) (by decide) rfl (by omega)) hC.2.2.1 ?_
    refine N_icmp_ge (tgt := 63) d_R_says_19 (by decide) (by omega) (by omega) (fun c19 => absurd c19 (by omega)) (fun c19 => ?_)
    refine J_aload_n (i := 0) d_R_says_22 rfl rfl ?_
    refine M_getR (b := 251) d_R_says_23 f_R_28 rfl rfl rfl ?_
    refine J_sipush (v := nI 681) d_R_says_26 rfl ?_
    refine J_iload_n (i := 1) d_R_says_29 rfl rfl ?_
    refine N_imul d_R_says_30 ?_
    refine J_iconst (v := nI 1) d_R_says_31 rfl ?_
    refine N_iadd d_R_says_32 ?_
    refine J_iconst (v := nI 3) d_R_says_33 rfl ?_
    refine J_iload d_R_says_34 rfl ?_
    refine N_imul d_R_says_36 ?_
    refine N_iadd d_R_says_37 ?_
    refine N_iald (x := (nI (srt k))) d_R_says_38 rfl (by omega) (ltL hX (a := 251) (n := 2724) (by decide) rfl (by omega)) (hC.2.2.2 k (by omega)).1 ?_
    refine J_iload_n (i := 2) d_R_says_39 rfl rfl ?_
    refine N_icmp_ne (tgt := 57) d_R_says_40 (by decide) (by omega) (by omega) (fun c40 => ?_) (fun c40 => absurd c40 (fun q => absurd q hne))
    refine N_iinc (a := k) (c := 1) (L1 := [some (.ref 244), some (.int (nI t)), some (.int (nI so)), some (.int (nI w)), some (.int (nI top)), some (.int (nI (k + 1)))]) d_R_says_57 rfl rfl (by decide) rfl ?_
    refine J_goto (tgt := 3) d_R_says_60 (by decide) ?_
    exact ih (k + 1) (by omega)
theorem S_R_says {X : Mem} {e : Env} {oc vc srt : Nat → Nat} {t so w top nc : Nat} {D : Option (Env → Int)} (hX : Ok X) (hR : RE X e) (hN : NMv X e) (hO : okE e) (hT : TRw X t oc vc) (hC : TRl X t nc srt) (hD : LwR X t so nc srt oc vc D) (hso : so < 7) (htop : top ≤ 99) : CM 3 m_R_says [.ref 244, .int (nI t), .int (nI so), .int (nI w), .int (nI top)] X (fun r Y => r = some (.int (nI (svV D w top e))) ∧ lawS X Y) := by
  refine CM_of (L := [some (.ref 244), some (.int (nI t)), some (.int (nI so)), some (.int (nI w)), some (.int (nI top)), none]) 1 ok_R_says (fun _ => Nat.le_of_ble_eq_true rfl) rfl ?_
  refine J_iconst (v := nI 0) d_R_says_0 rfl ?_
  refine J_istore (L1 := [some (.ref 244), some (.int (nI t)), some (.int (nI so)), some (.int (nI w)), some (.int (nI top)), some (.int (nI 0))]) d_R_says_1 (by decide) rfl ?_
  cases hDD : D with
  | none => exact lp_R_says_0 hX hR hN hO hT hC hD hso htop hDD ⟨rfl, lawS_0 hX⟩ nc 0 (by omega)
  | some d =>
    obtain ⟨kk, h1, h2, h3, h4⟩ := hD.2 d hDD
    exact lp_R_says_1 hX hR hN hO hT hC hD hso htop h1 h2 h3 h4 (fun l1 l2 hl1 hl2 => ⟨rfl, l1, l2, hl1, hl2, rfl⟩) kk 0 (by omega)

def nmL (e : Env) : List Int32 := [jI (nmV e 0), jI (nmV e 1), jI (nmV e 2), jI (nmV e 3), jI (nmV e 4), jI (nmV e 5), jI (nmV e 6)]
theorem nmL_set {l : List Int32} (h : l.length = 7) (a b c d f g k : Int32) : ((((((l.set 0 a).set 1 b).set 2 c).set 3 d).set 4 f).set 5 g).set 6 k = [a, b, c, d, f, g, k] := by
  match l, h with
  | [_, _, _, _, _, _, _], _ => rfl
theorem nmL_v {X : Mem} {e : Env} : NMv (pA X 256 (nmL e)) e := by
  intro k hk
  rw [pA_at]
  have g : k = 0 ∨ k = 1 ∨ k = 2 ∨ k = 3 ∨ k = 4 ∨ k = 5 ∨ k = 6 := by omega
  rcases g with rfl | rfl | rfl | rfl | rfl | rfl | rfl <;> rfl
theorem S_R_name {X : Mem} {e : Env} (hX : Ok X) (hR : RE X e) (hO : okE e) : CM 4 m_R_name [.ref 244, .int (nI e.2.2.2.2.1), .int (jI e.2.2.2.2.2)] X (rV (pA X 256 (nmL e))) := by
  have hm8 := hO.1
  have hmk := hO.2.1
  have hst := hO.2.2.1 e.2.2.2.2.1 (by omega)
  have hst : eST e < 1048576 := hst
  have ho5 := odd_lt (eST e)
  have hl7 : (X.2.1 256).length = 7 := by rw [hX.1 256 (by decide)]; rfl
  refine CM_of (L := [some (.ref 244), some (.int (nI e.2.2.2.2.1)), some (.int (jI e.2.2.2.2.2)), none]) 1 ok_R_name (fun _ => Nat.le_of_ble_eq_true rfl) rfl ?_
  refine J_aload_n (i := 0) d_R_name_0 rfl rfl ?_
  refine M_getR (b := 245) d_R_name_1 f_R_7 rfl rfl rfl ?_
  refine J_bipush (v := nI 10) d_R_name_4 rfl ?_
  refine J_iload_n (i := 1) d_R_name_6 rfl rfl ?_
  refine N_iadd d_R_name_7 ?_
  refine N_iald (x := (nI (eST e))) d_R_name_8 rfl (by omega) (ltL hX (a := 245) (n := 1217) (by decide) rfl (by omega)) (hR.2.1 e.2.2.2.2.1 (by omega)) ?_
  refine J_istore_n (i := 3) (L1 := [some (.ref 244), some (.int (nI e.2.2.2.2.1)), some (.int (jI e.2.2.2.2.2)), some (.int (nI (eST e)))]) d_R_name_9 rfl (by decide) rfl ?_
  refine J_aload_n (i := 0) d_R_name_10 rfl rfl ?_
  refine M_getR (b := 256) d_R_name_11 f_R_50 rfl rfl rfl ?_
  refine J_iconst (v := nI 0) d_R_name_14 rfl ?_
  refine J_aload_n (i := 0) d_R_name_15 rfl rfl ?_
  refine M_getR (b := 245) d_R_name_16 f_R_7 rfl rfl rfl ?_
  refine J_bipush (v := nI 6) d_R_name_19 rfl ?_
  refine N_iald (x := (nI e.2.2.1)) d_R_name_21 rfl (by omega) (ltL hX (a := 245) (n := 1217) (by decide) rfl (by omega)) hR.2.2.1 ?_
  refine N_iast d_R_name_22 rfl (by decide) (by omega) (ltL hX (a := 256) (n := 7) (by decide) rfl (by omega)) ?_
  refine J_aload_n (i := 0) d_R_name_23 rfl rfl ?_
  refine M_getR (b := 256) d_R_name_24 f_R_50 rfl rfl rfl ?_
  refine J_iconst (v := nI 1) d_R_name_27 rfl ?_
  refine J_iload_n (i := 1) d_R_name_28 rfl rfl ?_
  refine N_iast d_R_name_29 rfl (by decide) (by omega) (ltL (okS hX rfl) (a := 256) (n := 7) (by decide) rfl (by omega)) ?_
  refine J_aload_n (i := 0) d_R_name_30 rfl rfl ?_
  refine M_getR (b := 256) d_R_name_31 f_R_50 rfl rfl rfl ?_
  refine J_iconst (v := nI 2) d_R_name_34 rfl ?_
  refine J_iload_n (i := 3) d_R_name_35 rfl rfl ?_
  refine CS_N (av := [.int (nI (eST e))]) d_R_name_36 s_R_121 (S_R_bits (by omega)) (by decide) rfl rfl (Nat.le_of_ble_eq_true rfl) ?_
  refine N_iast d_R_name_39 rfl (by decide) (by omega) (ltL (okS (okS hX rfl) rfl) (a := 256) (n := 7) (by decide) rfl (by omega)) ?_
  refine J_aload_n (i := 0) d_R_name_40 rfl rfl ?_
  refine M_getR (b := 256) d_R_name_41 f_R_50 rfl rfl rfl ?_
  refine J_iconst (v := nI 3) d_R_name_44 rfl ?_
  refine J_aload_n (i := 0) d_R_name_45 rfl rfl ?_
  refine J_iload_n (i := 3) d_R_name_46 rfl rfl ?_
  refine CV_N (av := [.int (nI (eST e))]) d_R_name_47 s_R_127 (M_rcv rfl (by decide) rfl) (S_R_oddOf (okS (okS (okS hX rfl) rfl) rfl) hst) (by decide) rfl rfl (Nat.le_of_ble_eq_true rfl) ?_
  refine CS_N (av := [.int (nI (odd (eST e)))]) d_R_name_50 s_R_121 (S_R_bits (by omega)) (by decide) rfl rfl (Nat.le_of_ble_eq_true rfl) ?_
  refine N_iast d_R_name_53 rfl (by decide) (by omega) (ltL (okS (okS (okS hX rfl) rfl) rfl) (a := 256) (n := 7) (by decide) rfl (by omega)) ?_
  refine J_aload_n (i := 0) d_R_name_54 rfl rfl ?_
  refine M_getR (b := 256) d_R_name_55 f_R_50 rfl rfl rfl ?_
  refine J_iconst (v := nI 4) d_R_name_58 rfl ?_
  refine J_aload_n (i := 0) d_R_name_59 rfl rfl ?_
  refine M_getR (b := 245) d_R_name_60 f_R_7 rfl rfl rfl ?_
  refine J_bipush (v := nI 8) d_R_name_63 rfl ?_
  refine N_iald (x := (nI e.2.2.2.1)) d_R_name_65 rfl (by omega) (ltL (okS (okS (okS (okS hX rfl) rfl) rfl) rfl) (a := 245) (n := 1217) (by decide) rfl (by omega)) hR.2.2.2 ?_
  refine N_iast d_R_name_66 rfl (by decide) (by omega) (ltL (okS (okS (okS (okS hX rfl) rfl) rfl) rfl) (a := 256) (n := 7) (by decide) rfl (by omega)) ?_
  refine J_aload_n (i := 0) d_R_name_67 rfl rfl ?_
  refine M_getR (b := 256) d_R_name_68 f_R_50 rfl rfl rfl ?_
  refine J_iconst (v := nI 5) d_R_name_71 rfl ?_
  refine J_iload_n (i := 2) d_R_name_72 rfl rfl ?_
  refine N_iast d_R_name_73 rfl (by decide) (by omega) (ltL (okS (okS (okS (okS (okS hX rfl) rfl) rfl) rfl) rfl) (a := 256) (n := 7) (by decide) rfl (by omega)) ?_
  refine J_aload_n (i := 0) d_R_name_74 rfl rfl ?_
  refine M_getR (b := 256) d_R_name_75 f_R_50 rfl rfl rfl ?_
  refine J_bipush (v := nI 6) d_R_name_78 rfl ?_
  refine J_aload_n (i := 0) d_R_name_80 rfl rfl ?_
  refine J_iload_n (i := 3) d_R_name_81 rfl rfl ?_
  refine CV_N (av := [.int (nI (eST e))]) d_R_name_82 s_R_124 (M_rcv rfl (by decide) rfl) (S_R_piecesOf (okS (okS (okS (okS (okS (okS hX rfl) rfl) rfl) rfl) rfl) rfl) hst) (by decide) rfl rfl (Nat.le_of_ble_eq_true rfl) ?_
  refine N_iast d_R_name_85 rfl (by decide) (by omega) (ltL (okS (okS (okS (okS (okS (okS hX rfl) rfl) rfl) rfl) rfl) rfl) (a := 256) (n := 7) (by decide) rfl (by omega)) ?_
  refine M_vr d_R_name_86 rfl ?_
  refine ⟨rfl, ?_⟩
  simp only [pA_pA, pA_at]
  rw [nmL_set hl7]
  show pA X 256 [nI e.2.2.1, nI e.2.2.2.2.1, nI (bc (eST e)), nI (bc (odd (eST e))), nI e.2.2.2.1, jI e.2.2.2.2.2, nI (pic (eST e))] = pA X 256 (nmL e)
  rw [← jI_n, ← jI_n, ← jI_n, ← jI_n, ← jI_n, ← jI_n]
  rfl

