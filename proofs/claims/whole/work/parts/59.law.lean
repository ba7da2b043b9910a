/-- the reference's office as laws see it; the names it has laid down -/
def RE (X : Mem) (e : Env) : Prop := (X.2.1 245).getD 0 0 = nI e.1 ∧ (∀ i, i < 8 → (X.2.1 245).getD (10 + i) 0 = nI (e.2.1 i)) ∧ (X.2.1 245).getD 6 0 = nI e.2.2.1 ∧ (X.2.1 245).getD 8 0 = nI e.2.2.2.1
def NMv (X : Mem) (e : Env) : Prop := ∀ k, k < 7 → (X.2.1 256).getD k 0 = jI (nmV e k)
theorem nI_64 {v : Nat} (h : v < 2000000000) : (nI v).toInt64 = lI (v : Int) := by rw [← jI_n]; exact jI_64 ⟨by omega, by omega⟩
theorem nI_dec2 {s : Nat} : nI (s + 1 + 1) + (-2) = nI s := by
  rw [show (-2 : Int32) = (-1) + (-1) from rfl, ← Int32.add_assoc, nI_dec, nI_dec]
abbrev rk2 (X : Mem) (l1 : List Int64) (l2 : List Int32) : Mem := pA (pL X 257 l1) 258 l2
theorem rk_L {X : Mem} {l1 l3 : List Int64} {l2 : List Int32} : pL (rk2 X l1 l2) 257 l3 = rk2 X l3 l2 := by
  show pA (pL (pL X 257 l1) 257 l3) 258 l2 = _
  rw [pL_pL]
theorem rk_A {X : Mem} {l1 : List Int64} {l2 l3 : List Int32} : pA (rk2 X l1 l2) 258 l3 = rk2 X l1 l3 := pA_pA
theorem set_eqL {l : List Int64} {j : Nat} {v : Int64} (h : j < l.length) : (l.set j v).getD j 0 = v := by
  rw [List.getD_eq_getElem?_getD, List.getElem?_set_self h]
  rfl
theorem set_neL {l : List Int64} {j k : Nat} {v : Int64} (h : j ≠ k) : (l.set j v).getD k 0 = l.getD k 0 := by
  rw [List.getD_eq_getElem?_getD, List.getElem?_set_ne h, ← List.getD_eq_getElem?_getD]
def stkW : List Int → List Int64 → Prop
  | [], _ => True
  | v :: s, l => l.getD s.length 0 = lI v ∧ stkW s l
theorem stw_set {j : Nat} {x : Int64} {l : List Int64} : ∀ {s : List Int}, s.length ≤ j → stkW s l → stkW s (l.set j x)
  | [], _, _ => trivial
  | v :: s, h, hs => by
    have h : s.length + 1 ≤ j := h
    exact ⟨by rw [set_neL (by omega)]; exact hs.1, stw_set (by omega) hs.2⟩
theorem stw_push {v : Int} {s : List Int} {l : List Int64} (hl : s.length < l.length) (h : stkW s l) : stkW (v :: s) (l.set s.length (lI v)) := ⟨set_eqL hl, stw_set (Nat.le_refl _) h⟩
def stkB : List Bool → List Int32 → Prop
  | [], _ => True
  | v :: s, l => l.getD s.length 0 = b2i v ∧ stkB s l
theorem stb_set {j : Nat} {x : Int32} {l : List Int32} : ∀ {s : List Bool}, s.length ≤ j → stkB s l → stkB s (l.set j x)
  | [], _, _ => trivial
  | v :: s, h, hs => by
    have h : s.length + 1 ≤ j := h
    exact ⟨by rw [set_ne (by omega)]; exact hs.1, stb_set (by omega) hs.2⟩
theorem stb_push {v : Bool} {s : List Bool} {l : List Int32} (hl : s.length < l.length) (h : stkB s l) : stkB (v :: s) (l.set s.length (b2i v)) := ⟨set_eq hl, stb_set (Nat.le_refl _) h⟩
/-- one thing that a law of the reference does -/
def stepR (e : Env) (o v : Nat) (vs : List Int) (bs : List Bool) : Option (List Int × List Bool) :=
  if o = 0 then (if v ≤ 9999 then some ((v : Int) :: vs, bs) else none)
  else if o = 1 then (if v < 7 then some (nmV e v :: vs, bs) else none)
  else if o = 3 then (match vs, bs with
    | b :: a :: t, c :: u => some ((if c = true then a else b) :: t, u)
    | _, _ => none)
  else if o = 5 then (match vs with
    | x :: t => some ((-x) :: t, bs)
    | _ => none)
  else if o = 4 then (match vs with
    | x :: t => some (szV e x :: t, bs)
    | _ => none)
  else if o = 2 then (match vs with
    | x :: t => some (hsV e x :: t, bs)
    | _ => none)
  else if o = 6 ∨ o = 7 ∨ o = 8 ∨ o = 9 then (match vs with
    | y :: x :: t => some (ar2 o x y :: t, bs)
    | _ => none)
  else if o = 10 ∨ o = 11 ∨ o = 12 ∨ o = 13 ∨ o = 14 ∨ o = 15 then (match vs with
    | y :: x :: t => some (t, cp2 o x y :: bs)
    | _ => none)
  else if o = 20 then (match bs with
    | c :: u => some (vs, (!c) :: u)
    | _ => none)
  else if o = 21 then (match bs with
    | d :: c :: u => some (vs, (c && d) :: u)
    | _ => none)
  else if o = 22 then (match bs with
    | d :: c :: u => some (vs, (c || d) :: u)
    | _ => none)
  else none
theorem S_R_ofOne_5 {X : Mem} {v : Int} : CM 1 m_R_ofOne [.ref 244, .int (nI 5), .long (lI v)] X (rL (lI (-v)) X) := by
  refine CM_of (L := [some (.ref 244), some (.int (nI 5)), some (.long (lI v)), none]) 0 ok_R_ofOne (fun _ => Nat.le_of_ble_eq_true rfl) rfl ?_
  refine J_iload_n (i := 1) d_R_ofOne_0 rfl rfl ?_
  refine J_iconst (v := nI 5) d_R_ofOne_1 rfl ?_
  refine N_icmp_ne (tgt := 8) d_R_ofOne_2 (by decide) (by omega) (by omega) (fun c2 => absurd c2 (by decide)) (fun c2 => ?_)
  refine J_lload_n (i := 2) d_R_ofOne_5 rfl rfl ?_
  refine J_lneg d_R_ofOne_6 ?_
  refine M_lr d_R_ofOne_7 rfl ?_
  exact ⟨by rw [lI_neg], rfl⟩

theorem S_R_ofOne_4 {X : Mem} {e : Env} (hX : Ok X) (hR : RE X e) (hN : NMv X e) (hO : okE e) {v : Int} (hv : sm v) : CM 1 m_R_ofOne [.ref 244, .int (nI 4), .long (lI v)] X (rL (lI (szV e v)) X) := by
  have hm8 := hO.1
  have hmk := hO.2.1
  have hst := hO.2.2.1
  have b0 : bL (0 : Int) := ⟨by decide, by decide⟩
  have k1 : lg_cmp (lI v) 0 < 0 ↔ v < 0 := lc_lt (b := 0) (sm_L hv) b0
  refine CM_of (L := [some (.ref 244), some (.int (nI 4)), some (.long (lI v)), none]) 0 ok_R_ofOne (fun _ => Nat.le_of_ble_eq_true rfl) rfl ?_
  refine J_iload_n (i := 1) d_R_ofOne_0 rfl rfl ?_
  refine J_iconst (v := nI 5) d_R_ofOne_1 rfl ?_
  refine N_icmp_ne (tgt := 8) d_R_ofOne_2 (by decide) (by omega) (by omega) (fun c2 => ?_) (fun c2 => absurd c2 (by decide))
  refine J_iload_n (i := 1) d_R_ofOne_8 rfl rfl ?_
  refine J_iconst (v := nI 4) d_R_ofOne_9 rfl ?_
  refine N_icmp_ne (tgt := 50) d_R_ofOne_10 (by decide) (by omega) (by omega) (fun c10 => absurd c10 (by decide)) (fun c10 => ?_)
  refine J_lload_n (i := 2) d_R_ofOne_13 rfl rfl ?_
  refine J_lconst (v := 0) d_R_ofOne_14 rfl ?_
  refine J_lcmp d_R_ofOne_15 ?_
  refine J_if_lt (tgt := 48) d_R_ofOne_16 (by decide) (fun c16 => ?_) (fun c16 => ?_)
  · refine J_lconst (v := 0) d_R_ofOne_48 rfl ?_
    refine M_lr d_R_ofOne_49 rfl ?_
    have c16' := c16
    rw [k1] at c16'
    exact ⟨by rw [show szV e v = 0 from if_neg (by omega)]; rfl, rfl⟩
  · refine J_lload_n (i := 2) d_R_ofOne_19 rfl rfl ?_
    refine J_aload_n (i := 0) d_R_ofOne_20 rfl rfl ?_
    refine M_getR (b := 245) d_R_ofOne_21 f_R_7 rfl rfl rfl ?_
    refine J_iconst (v := nI 0) d_R_ofOne_24 rfl ?_
    refine N_iald (x := (nI e.1)) d_R_ofOne_25 rfl (by omega) (ltL hX (a := 245) (n := 1217) (by decide) rfl (by omega)) hR.1 ?_
    refine J_i2l d_R_ofOne_26 ?_
    rw [nI_64 (show e.1 < 2000000000 by omega)]
    have k2 : 0 ≤ lg_cmp (lI v) (lI (e.1 : Int)) ↔ (e.1 : Int) ≤ v := by rw [← Int32.not_lt, lc_lt (b := (e.1 : Int)) (sm_L hv) ⟨by omega, by omega⟩]; omega
    refine J_lcmp d_R_ofOne_27 ?_
    refine J_if_ge (tgt := 48) d_R_ofOne_28 (by decide) (fun c28 => ?_) (fun c28 => ?_)
    · refine J_lconst (v := 0) d_R_ofOne_48 rfl ?_
      refine M_lr d_R_ofOne_49 rfl ?_
      have c28' := c28
      rw [k2] at c28'
      exact ⟨by rw [show szV e v = 0 from if_neg (by omega)]; rfl, rfl⟩
    · refine J_aload_n (i := 0) d_R_ofOne_31 rfl rfl ?_
      refine M_getR (b := 245) d_R_ofOne_32 f_R_7 rfl rfl rfl ?_
      refine J_bipush (v := nI 10) d_R_ofOne_35 rfl ?_
      refine J_lload_n (i := 2) d_R_ofOne_37 rfl rfl ?_
      refine J_l2i d_R_ofOne_38 ?_
      have c16' := c16
      rw [k1] at c16'
      have c28' := c28
      rw [k2] at c28'
      obtain ⟨j, rfl⟩ : ∃ j : Nat, v = (j : Int) := ⟨v.toNat, by omega⟩
      have hstj := hst j (by omega)
      rw [lI_32, jI_n]
      refine N_iadd d_R_ofOne_39 ?_
      refine N_iald (x := (nI (e.2.1 j))) d_R_ofOne_40 rfl (by omega) (ltL hX (a := 245) (n := 1217) (by decide) rfl (by omega)) (hR.2.1 j (by omega)) ?_
      refine CS_N (av := [.int (nI (e.2.1 j))]) d_R_ofOne_41 s_R_121 (S_R_bits (by omega)) (by decide) rfl rfl (Nat.le_of_ble_eq_true rfl) ?_
      refine N_nm (fun vB hvB => ?_)
      have hvB2 : vB ≤ 32 := by rw [hvB]; exact bc_le _
      refine I_ton (n := vB) rfl ?_
      refine J_i2l d_R_ofOne_44 ?_
      refine J_goto (tgt := 49) d_R_ofOne_45 (by decide) ?_
      refine M_lr d_R_ofOne_49 rfl ?_
      exact ⟨by rw [nI_64 (v := vB) (by omega), show szV e (j : Int) = (bc (e.2.1 j) : Int) from if_pos ⟨by omega, by omega⟩, hvB], rfl⟩

theorem S_R_ofOne_2 {X : Mem} {e : Env} (hX : Ok X) (hR : RE X e) (hN : NMv X e) (hO : okE e) {v : Int} (hv : sm v) : CM 1 m_R_ofOne [.ref 244, .int (nI 2), .long (lI v)] X (rL (lI (hsV e v)) X) := by
  have hm8 := hO.1
  have hmk := hO.2.1
  have hst := hO.2.2.1
  have b0 : bL (0 : Int) := ⟨by decide, by decide⟩
  have k1 : lg_cmp (lI v) 0 < 0 ↔ v < 0 := lc_lt (b := 0) (sm_L hv) b0
  have hstm := hO.2.2.1 e.2.2.2.2.1 (by omega)
  refine CM_of (L := [some (.ref 244), some (.int (nI 2)), some (.long (lI v)), none]) 0 ok_R_ofOne (fun _ => Nat.le_of_ble_eq_true rfl) rfl ?_
  refine J_iload_n (i := 1) d_R_ofOne_0 rfl rfl ?_
  refine J_iconst (v := nI 5) d_R_ofOne_1 rfl ?_
  refine N_icmp_ne (tgt := 8) d_R_ofOne_2 (by decide) (by omega) (by omega) (fun c2 => ?_) (fun c2 => absurd c2 (by decide))
  refine J_iload_n (i := 1) d_R_ofOne_8 rfl rfl ?_
  refine J_iconst (v := nI 4) d_R_ofOne_9 rfl ?_
  refine N_icmp_ne (tgt := 50) d_R_ofOne_10 (by decide) (by omega) (by omega) (fun c10 => ?_) (fun c10 => absurd c10 (by decide))
  refine J_lload_n (i := 2) d_R_ofOne_50 rfl rfl ?_
  refine J_lconst (v := 0) d_R_ofOne_51 rfl ?_
  refine J_lcmp d_R_ofOne_52 ?_
  refine J_if_lt (tgt := 90) d_R_ofOne_53 (by decide) (fun c53 => ?_) (fun c53 => ?_)
  · refine J_lconst (v := 0) d_R_ofOne_90 rfl ?_
    refine M_lr d_R_ofOne_91 rfl ?_
    have c53' := c53
    rw [k1] at c53'
    exact ⟨by rw [show hsV e v = 0 from if_neg (by omega)]; rfl, rfl⟩
  · refine J_lload_n (i := 2) d_R_ofOne_56 rfl rfl ?_
    refine J_ldc2 d_R_ofOne_57 w_R_338 ?_
    have k3 : 0 ≤ lg_cmp (lI v) 20 ↔ 20 ≤ v := by rw [show (20 : Int64) = lI 20 from rfl, ← Int32.not_lt, lc_lt (b := 20) (sm_L hv) ⟨by decide, by decide⟩]; omega
    refine J_lcmp d_R_ofOne_60 ?_
    refine J_if_ge (tgt := 90) d_R_ofOne_61 (by decide) (fun c61 => ?_) (fun c61 => ?_)
    · refine J_lconst (v := 0) d_R_ofOne_90 rfl ?_
      refine M_lr d_R_ofOne_91 rfl ?_
      have c61' := c61
      rw [k3] at c61'
      exact ⟨by rw [show hsV e v = 0 from if_neg (by omega)]; rfl, rfl⟩
    · refine J_aload_n (i := 0) d_R_ofOne_64 rfl rfl ?_
      refine M_getR (b := 245) d_R_ofOne_65 f_R_7 rfl rfl rfl ?_
      refine J_bipush (v := nI 10) d_R_ofOne_68 rfl ?_
      refine J_aload_n (i := 0) d_R_ofOne_70 rfl rfl ?_
      refine M_getR (b := 256) d_R_ofOne_71 f_R_50 rfl rfl rfl ?_
      refine J_iconst (v := nI 1) d_R_ofOne_74 rfl ?_
      refine N_iald (x := (nI e.2.2.2.2.1)) d_R_ofOne_75 rfl (by omega) (ltL hX (a := 256) (n := 7) (by decide) rfl (by omega)) (by rw [hN 1 (by decide)]; exact jI_n _) ?_
      refine N_iadd d_R_ofOne_76 ?_
      refine N_iald (x := (nI (e.2.1 e.2.2.2.2.1))) d_R_ofOne_77 rfl (by omega) (ltL hX (a := 245) (n := 1217) (by decide) rfl (by omega)) (hR.2.1 e.2.2.2.2.1 (by omega)) ?_
      refine J_lload_n (i := 2) d_R_ofOne_78 rfl rfl ?_
      refine J_l2i d_R_ofOne_79 ?_
      have c53' := c53
      rw [k1] at c53'
      have c61' := c61
      rw [k3] at c61'
      obtain ⟨j, rfl⟩ : ∃ j : Nat, v = (j : Int) := ⟨v.toNat, by omega⟩
      rw [lI_32, jI_n]
      refine CS_B (av := [.int (nI (e.2.1 e.2.2.2.2.1)), .int (nI j)]) d_R_ofOne_80 s_R_94 (S_R_has (by first | omega | (simp only [*]; omega)) (by first | omega | exact Nat.lt_trans one_lt (by decide) | exact Nat.lt_trans oth_lt (by decide))) (by decide) rfl rfl (Nat.le_of_ble_eq_true rfl) ?_
      refine B_if_eq (tgt := 90) d_R_ofOne_83 (by decide) (fun c83 => ?_) (fun c83 => ?_)
      · refine J_lconst (v := 0) d_R_ofOne_90 rfl ?_
        refine M_lr d_R_ofOne_91 rfl ?_
        exact ⟨by rw [show hsV e (j : Int) = 0 from if_neg (fun q => by have q2 : (eST e).testBit j = true := q.2.2; rw [show (eST e).testBit j = false from c83] at q2; cases q2)]; rfl, rfl⟩
      · refine J_lconst (v := 1) d_R_ofOne_86 rfl ?_
        refine J_goto (tgt := 91) d_R_ofOne_87 (by decide) ?_
        refine M_lr d_R_ofOne_91 rfl ?_
        exact ⟨by rw [show hsV e (j : Int) = 1 from if_pos ⟨by omega, by omega, c83⟩]; rfl, rfl⟩

