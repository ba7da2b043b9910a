theorem beS {T : TS} {j m D k a : Nat} {P : List (Nat × Nat)} (h : T.1 j = k) (hk : (k = 40 ∧ a = 40) ∨ (k = 13 ∧ a = 50) ∨ (k = 14 ∧ a = 51)) : begS T j P m D = opdS a j P m D := by
  unfold begS
  rw [h]
  rcases hk with ⟨q, r⟩ | ⟨q, r⟩ | ⟨q, r⟩ <;> subst q <;> subst r <;> rfl
theorem beN {T : TS} {j m D hi k : Nat} {f : Nat → Nat} {P : List (Nat × Nat)} (h : T.1 j = k) (hk : (k = 9 ∧ hi = 19 ∧ f = fun x => 1 <<< x) ∨ (k = 10 ∧ hi = 2 ∧ f = fun x => 3 <<< (2 * x)) ∨ (k = 11 ∧ hi = 2 ∧ f = fun x => 9 <<< (6 + x))) : begS T j P m D = numM T hi j P m f := by
  unfold begS
  rw [h]
  rcases hk with ⟨q, r, s⟩ | ⟨q, r, s⟩ | ⟨q, r, s⟩ <;> subst q <;> subst r <;> subst s <;> rfl
theorem beF {T : TS} {j m D : Nat} {P : List (Nat × Nat)} (h : T.1 j = 12) : begS T j P m D = .inr (finP (j + 1) P m 2931) := by
  unfold begS
  rw [h]
  rfl
theorem beX {T : TS} {j m D : Nat} {P : List (Nat × Nat)} (h : T.1 j ≠ 9 ∧ T.1 j ≠ 10 ∧ T.1 j ≠ 11 ∧ T.1 j ≠ 40 ∧ T.1 j ≠ 13 ∧ T.1 j ≠ 14 ∧ T.1 j ≠ 12) : begS T j P m D = .inl (1, j) := by
  unfold begS
  rw [if_neg h.1, if_neg h.2.1, if_neg h.2.2.1, if_neg h.2.2.2.1, if_neg h.2.2.2.2.1, if_neg h.2.2.2.2.2.1, if_neg h.2.2.2.2.2.2]
theorem S_R_beginPart {X0 X : Mem} {mm j m : Nat} {B : Nat → Nat} {P : List (Nat × Nat)} (hB : okB B mm) (hV0 : RV X0 mm B) (hN : NS X0 B (stT B j) P m X) (i1 : m ≤ 8) (i2 : m = cnS P) (i3 : inS P) (h24 : X.1 244 24 = b2i false) {D : Nat} : CM 5 m_R_beginPart [.ref 244] X (BgS X0 B (begS (tkT B) j P m D)) := by
  have hpl := inS_le i3
  have hh := hdS_le P
  have hX := hN.1
  have hV := RV_V hN.2.2.2.2.2 hV0
  have hT := hN.2.1
  have hq := stT_le hB j
  have htr := tR_sm (q := stT B j) hB
  refine CM_of (L := [some (.ref 244)]) 0 ok_R_beginPart (fun _ => Nat.le_of_ble_eq_true rfl) rfl ?_
  refine J_aload_n (i := 0) d_R_beginPart_0 rfl rfl ?_
  refine J_bipush (v := nI 115) d_R_beginPart_1 rfl ?_
  refine J_bipush (v := nI 116) d_R_beginPart_3 rfl ?_
  refine J_bipush (v := nI 114) d_R_beginPart_5 rfl ?_
  refine J_bipush (v := nI 111) d_R_beginPart_7 rfl ?_
  refine J_bipush (v := nI 107) d_R_beginPart_9 rfl ?_
  refine J_bipush (v := nI 101) d_R_beginPart_11 rfl ?_
  refine CS_L (av := [.int (nI 115), .int (nI 116), .int (nI 114), .int (nI 111), .int (nI 107), .int (nI 101)]) d_R_beginPart_13 s_R_202 (S_R_w6 (nI 115) (nI 116) (nI 114) (nI 111) (nI 107) (nI 101)) (by decide) rfl rfl (Nat.le_of_ble_eq_true rfl) ?_
  refine CV_B (av := [.long (wE6 (nI 115) (nI 116) (nI 114) (nI 111) (nI 107) (nI 101))]) d_R_beginPart_16 s_R_251 (M_rcv rfl (by decide) rfl) (S_R_isWord (i := 9) hB hT (by decide) (by decide) (by decide +kernel)) (by omega) rfl rfl (Nat.le_of_ble_eq_true rfl) ?_
  refine B_if_eq (tgt := 31) d_R_beginPart_19 (by decide) (fun c19 => ?_) (fun c19 => ?_)
  · refine J_aload_n (i := 0) d_R_beginPart_31 rfl rfl ?_
    refine J_bipush (v := nI 98) d_R_beginPart_32 rfl ?_
    refine J_bipush (v := nI 97) d_R_beginPart_34 rfl ?_
    refine J_bipush (v := nI 114) d_R_beginPart_36 rfl ?_
    refine CS_L (av := [.int (nI 98), .int (nI 97), .int (nI 114)]) d_R_beginPart_38 s_R_184 (S_R_w3 (nI 98) (nI 97) (nI 114)) (by decide) rfl rfl (Nat.le_of_ble_eq_true rfl) ?_
    refine CV_B (av := [.long (wE3 (nI 98) (nI 97) (nI 114))]) d_R_beginPart_41 s_R_251 (M_rcv rfl (by decide) rfl) (S_R_isWord (i := 10) hB hT (by decide) (by decide) (by decide +kernel)) (by omega) rfl rfl (Nat.le_of_ble_eq_true rfl) ?_
    refine B_if_eq (tgt := 55) d_R_beginPart_44 (by decide) (fun c44 => ?_) (fun c44 => ?_)
    · refine J_aload_n (i := 0) d_R_beginPart_55 rfl rfl ?_
      refine J_bipush (v := nI 112) d_R_beginPart_56 rfl ?_
      refine J_bipush (v := nI 111) d_R_beginPart_58 rfl ?_
      refine J_bipush (v := nI 115) d_R_beginPart_60 rfl ?_
      refine J_bipush (v := nI 116) d_R_beginPart_62 rfl ?_
      refine CS_L (av := [.int (nI 112), .int (nI 111), .int (nI 115), .int (nI 116)]) d_R_beginPart_64 s_R_188 (S_R_w4 (nI 112) (nI 111) (nI 115) (nI 116)) (by decide) rfl rfl (Nat.le_of_ble_eq_true rfl) ?_
      refine CV_B (av := [.long (wE4 (nI 112) (nI 111) (nI 115) (nI 116))]) d_R_beginPart_67 s_R_251 (M_rcv rfl (by decide) rfl) (S_R_isWord (i := 11) hB hT (by decide) (by decide) (by decide +kernel)) (by omega) rfl rfl (Nat.le_of_ble_eq_true rfl) ?_
      refine B_if_eq (tgt := 81) d_R_beginPart_70 (by decide) (fun c70 => ?_) (fun c70 => ?_)
      · refine J_aload_n (i := 0) d_R_beginPart_81 rfl rfl ?_
        refine M_get (x := (nI (tR B (stT B j)))) d_R_beginPart_82 f_R_158 rfl rfl hT.2.2.1 ?_
        refine J_bipush (v := nI 40) d_R_beginPart_85 rfl ?_
        refine N_icmp_ne (tgt := 97) d_R_beginPart_87 (by decide) (by omega) (by omega) (fun c87 => ?_) (fun c87 => ?_)
        · refine J_aload_n (i := 0) d_R_beginPart_97 rfl rfl ?_
          refine J_bipush (v := nI 116) d_R_beginPart_98 rfl ?_
          refine J_bipush (v := nI 117) d_R_beginPart_100 rfl ?_
          refine J_bipush (v := nI 114) d_R_beginPart_102 rfl ?_
          refine J_bipush (v := nI 110) d_R_beginPart_104 rfl ?_
          refine CS_L (av := [.int (nI 116), .int (nI 117), .int (nI 114), .int (nI 110)]) d_R_beginPart_106 s_R_188 (S_R_w4 (nI 116) (nI 117) (nI 114) (nI 110)) (by decide) rfl rfl (Nat.le_of_ble_eq_true rfl) ?_
          refine CV_B (av := [.long (wE4 (nI 116) (nI 117) (nI 114) (nI 110))]) d_R_beginPart_109 s_R_251 (M_rcv rfl (by decide) rfl) (S_R_isWord (i := 13) hB hT (by decide) (by decide) (by decide +kernel)) (by omega) rfl rfl (Nat.le_of_ble_eq_true rfl) ?_
          refine B_if_eq (tgt := 122) d_R_beginPart_112 (by decide) (fun c112 => ?_) (fun c112 => ?_)
          · refine J_aload_n (i := 0) d_R_beginPart_122 rfl rfl ?_
            refine J_bipush (v := nI 116) d_R_beginPart_123 rfl ?_
            refine J_bipush (v := nI 105) d_R_beginPart_125 rfl ?_
            refine J_bipush (v := nI 112) d_R_beginPart_127 rfl ?_
            refine CS_L (av := [.int (nI 116), .int (nI 105), .int (nI 112)]) d_R_beginPart_129 s_R_184 (S_R_w3 (nI 116) (nI 105) (nI 112)) (by decide) rfl rfl (Nat.le_of_ble_eq_true rfl) ?_
            refine CV_B (av := [.long (wE3 (nI 116) (nI 105) (nI 112))]) d_R_beginPart_132 s_R_251 (M_rcv rfl (by decide) rfl) (S_R_isWord (i := 14) hB hT (by decide) (by decide) (by decide +kernel)) (by omega) rfl rfl (Nat.le_of_ble_eq_true rfl) ?_
            refine B_if_eq (tgt := 145) d_R_beginPart_135 (by decide) (fun c135 => ?_) (fun c135 => ?_)
            · refine J_aload_n (i := 0) d_R_beginPart_145 rfl rfl ?_
              refine J_bipush (v := nI 102) d_R_beginPart_146 rfl ?_
              refine J_bipush (v := nI 114) d_R_beginPart_148 rfl ?_
              refine J_bipush (v := nI 97) d_R_beginPart_150 rfl ?_
              refine J_bipush (v := nI 109) d_R_beginPart_152 rfl ?_
              refine J_bipush (v := nI 101) d_R_beginPart_154 rfl ?_
              refine CS_L (av := [.int (nI 102), .int (nI 114), .int (nI 97), .int (nI 109), .int (nI 101)]) d_R_beginPart_156 s_R_192 (S_R_w5 (nI 102) (nI 114) (nI 97) (nI 109) (nI 101)) (by decide) rfl rfl (Nat.le_of_ble_eq_true rfl) ?_
              refine CV_B (av := [.long (wE5 (nI 102) (nI 114) (nI 97) (nI 109) (nI 101))]) d_R_beginPart_159 s_R_251 (M_rcv rfl (by decide) rfl) (S_R_isWord (i := 12) hB hT (by decide) (by decide) (by decide +kernel)) (by omega) rfl rfl (Nat.le_of_ble_eq_true rfl) ?_
              refine B_if_ne (tgt := 167) d_R_beginPart_162 (by decide) (fun c162 => ?_) (fun c162 => ?_)
              · refine J_aload_n (i := 0) d_R_beginPart_167 rfl rfl ?_
                have hA2 := hN
                refine M_callV (av := []) d_R_beginPart_168 s_R_233 (M_rcv rfl (by decide) rfl) (S_R_nextToken hA2.1 hB (RV_V hA2.2.2.2.2.2 hV0) hA2.2.1.2.1 (eN_le hB (stT_le hB _))) (by decide) rfl rfl (Nat.le_of_ble_eq_true rfl) (fun r2 Y2 hq2 => ?_)
                obtain ⟨rfl, hY2, ho2, hT2⟩ := hq2
                obtain ⟨hN2, h24_2, h25_2⟩ := NS_nx hA2 hY2 ho2 hT2
                refine J_aload_n (i := 0) d_R_beginPart_171 rfl rfl ?_
                refine J_sipush (v := nI 2931) d_R_beginPart_172 rfl ?_
                refine M_callV (av := [.int (nI 2931)]) d_R_beginPart_175 s_R_282 (M_rcv rfl (by decide) rfl) (S_R_endPart (D := 2931) hN2 (by decide) (by omega) (by omega) (by omega)) (by decide) rfl rfl (Nat.le_of_ble_eq_true rfl) (fun r3 Y3 hq3 => ?_)
                obtain ⟨rfl, hN3, h24_3, h25_3, hD3⟩ := hq3
                refine J_iconst (v := nI 0) d_R_beginPart_178 rfl ?_
                refine M_ir d_R_beginPart_179 rfl rfl ?_
                rw [beF (T := tkT B) (of_decide_eq_true c162)]
                exact ⟨rfl, hN3, h24_3, fun _ => ⟨h25_3, hD3⟩⟩
              · refine J_iconst (v := nI 1) d_R_beginPart_165 rfl ?_
                refine M_ir d_R_beginPart_166 rfl rfl ?_
                have x9 : (kT B (stT B j)) ≠ 9 := of_decide_eq_false c19
                have x10 : (kT B (stT B j)) ≠ 10 := of_decide_eq_false c44
                have x11 : (kT B (stT B j)) ≠ 11 := of_decide_eq_false c70
                have x40 : (kT B (stT B j)) ≠ 40 := fun z => c87 ((sg_of hB (p := (40, 40)) (by decide)).mpr z)
                have x13 : (kT B (stT B j)) ≠ 13 := of_decide_eq_false c112
                have x14 : (kT B (stT B j)) ≠ 14 := of_decide_eq_false c135
                have x12 : (kT B (stT B j)) ≠ 12 := of_decide_eq_false c162
                rw [beX (T := tkT B) ⟨x9, x10, x11, x40, x13, x14, x12⟩]
                exact ⟨rfl, show (1 : Nat) ≠ 0 by decide, show (1 : Nat) < 10 by decide, NS_FS hN⟩
            · refine J_aload_n (i := 0) d_R_beginPart_138 rfl rfl ?_
              refine J_bipush (v := nI 51) d_R_beginPart_139 rfl ?_
              refine M_callV (av := [.int (nI 51)]) d_R_beginPart_141 s_R_248 (M_rcv rfl (by decide) rfl) (S_R_openedS (D := D) hB hV0 hN i1 i2 i3 h24 (a := 51) (by decide)) (by decide) rfl rfl (Nat.le_of_ble_eq_true rfl) (fun r1 Y1 hq1 => ?_)
              obtain ⟨v1, rfl⟩ := BgS_v hq1
              refine M_ir d_R_beginPart_144 rfl rfl ?_
              rw [beS (T := tkT B) (k := 14) (a := 51) (of_decide_eq_true c135) (by decide)]
              exact hq1
          · refine J_aload_n (i := 0) d_R_beginPart_115 rfl rfl ?_
            refine J_bipush (v := nI 50) d_R_beginPart_116 rfl ?_
            refine M_callV (av := [.int (nI 50)]) d_R_beginPart_118 s_R_248 (M_rcv rfl (by decide) rfl) (S_R_openedS (D := D) hB hV0 hN i1 i2 i3 h24 (a := 50) (by decide)) (by decide) rfl rfl (Nat.le_of_ble_eq_true rfl) (fun r1 Y1 hq1 => ?_)
            obtain ⟨v1, rfl⟩ := BgS_v hq1
            refine M_ir d_R_beginPart_121 rfl rfl ?_
            rw [beS (T := tkT B) (k := 13) (a := 50) (of_decide_eq_true c112) (by decide)]
            exact hq1
        · refine J_aload_n (i := 0) d_R_beginPart_90 rfl rfl ?_
          refine J_bipush (v := nI 40) d_R_beginPart_91 rfl ?_
          refine M_callV (av := [.int (nI 40)]) d_R_beginPart_93 s_R_248 (M_rcv rfl (by decide) rfl) (S_R_openedS (D := D) hB hV0 hN i1 i2 i3 h24 (a := 40) (by decide)) (by decide) rfl rfl (Nat.le_of_ble_eq_true rfl) (fun r1 Y1 hq1 => ?_)
          obtain ⟨v1, rfl⟩ := BgS_v hq1
          refine M_ir d_R_beginPart_96 rfl rfl ?_
          rw [beS (T := tkT B) (k := 40) (a := 40) ((sg_of hB (p := (40, 40)) (by decide)).mp c87) (by decide)]
          exact hq1
      · refine J_aload_n (i := 0) d_R_beginPart_73 rfl rfl ?_
        refine J_iconst (v := nI 2) d_R_beginPart_74 rfl ?_
        refine J_iconst (v := nI 0) d_R_beginPart_75 rfl ?_
        refine J_iconst (v := nI 1) d_R_beginPart_76 rfl ?_
        refine J.eq (st1 := [.int (b2i true), .int (b2i false), .int (nI 2), .ref 244]) ?_ rfl rfl rfl
        refine M_callV (av := [.int (nI 2), .int (b2i false), .int (b2i true)]) d_R_beginPart_77 s_R_285 (M_rcv rfl (by decide) rfl) (S_R_numberedPart_2 hB hV0 hN i1 i2 i3) (by decide) rfl rfl (Nat.le_of_ble_eq_true rfl) (fun r1 Y1 hq1 => ?_)
        obtain ⟨v1, rfl⟩ := BgS_v hq1
        refine M_ir d_R_beginPart_80 rfl rfl ?_
        rw [beN (T := tkT B) (k := 11) (of_decide_eq_true c70) (Or.inr (Or.inr ⟨rfl, rfl, rfl⟩))]
        exact hq1
    · refine J_aload_n (i := 0) d_R_beginPart_47 rfl rfl ?_
      refine J_iconst (v := nI 2) d_R_beginPart_48 rfl ?_
      refine J_iconst (v := nI 1) d_R_beginPart_49 rfl ?_
      refine J_iconst (v := nI 0) d_R_beginPart_50 rfl ?_
      refine J.eq (st1 := [.int (b2i false), .int (b2i true), .int (nI 2), .ref 244]) ?_ rfl rfl rfl
      refine M_callV (av := [.int (nI 2), .int (b2i true), .int (b2i false)]) d_R_beginPart_51 s_R_285 (M_rcv rfl (by decide) rfl) (S_R_numberedPart_1 hB hV0 hN i1 i2 i3) (by decide) rfl rfl (Nat.le_of_ble_eq_true rfl) (fun r1 Y1 hq1 => ?_)
      obtain ⟨v1, rfl⟩ := BgS_v hq1
      refine M_ir d_R_beginPart_54 rfl rfl ?_
      rw [beN (T := tkT B) (k := 10) (of_decide_eq_true c44) (Or.inr (Or.inl ⟨rfl, rfl, rfl⟩))]
      exact hq1
  · refine J_aload_n (i := 0) d_R_beginPart_22 rfl rfl ?_
    refine J_bipush (v := nI 19) d_R_beginPart_23 rfl ?_
    refine J_iconst (v := nI 0) d_R_beginPart_25 rfl ?_
    refine J_iconst (v := nI 0) d_R_beginPart_26 rfl ?_
    refine J.eq (st1 := [.int (b2i false), .int (b2i false), .int (nI 19), .ref 244]) ?_ rfl rfl rfl
    refine M_callV (av := [.int (nI 19), .int (b2i false), .int (b2i false)]) d_R_beginPart_27 s_R_285 (M_rcv rfl (by decide) rfl) (S_R_numberedPart_0 hB hV0 hN i1 i2 i3) (by decide) rfl rfl (Nat.le_of_ble_eq_true rfl) (fun r1 Y1 hq1 => ?_)
    obtain ⟨v1, rfl⟩ := BgS_v hq1
    refine M_ir d_R_beginPart_30 rfl rfl ?_
    rw [beN (T := tkT B) (k := 9) (of_decide_eq_true c19) (Or.inl ⟨rfl, rfl, rfl⟩)]
    exact hq1

def BhS (X0 : Mem) (B : Nat → Nat) (X : Mem) (z : Option MS) (r : Option Value) (Y : Mem) : Prop := match z with
  | some c2 => r = some (.int (b2i true)) ∧ NM X0 B c2 Y
  | none => r = some (.int (b2i false)) ∧ Y = X
theorem bhW {T : TS} {j m D a : Nat} {P : List (Nat × Nat)} (h : (T.1 j = 15 ∧ a = 52) ∨ (T.1 j = 16 ∧ a = 53)) : behS T j P m D = some (j + 1, ((a, D) :: P, (m, (false, D)))) := by
  unfold behS
  rw [if_pos (show T.1 j = 15 ∨ T.1 j = 16 by omega), show (if T.1 j = 15 then 52 else 53) = a by split <;> omega]
theorem bhE {T : TS} {j m D : Nat} {p : Nat × Nat} {P : List (Nat × Nat)} (h : T.1 j = 41) : behS T j (p :: P) m D = some (finP (j + 1) P (m - 1) D) := by
  unfold behS
  rw [if_neg (by omega), if_pos ⟨h, fun z => by cases z⟩]
  rfl
theorem bhF {T : TS} {j m D : Nat} {P : List (Nat × Nat)} (h1 : T.1 j ≠ 15 ∧ T.1 j ≠ 16) (h2 : T.1 j ≠ 41 ∨ P = []) : behS T j P m D = none := by
  unfold behS
  rw [if_neg (by omega), if_neg (fun z => by
    rcases h2 with q | q
    · exact q z.1
    · exact z.2 q)]
theorem S_R_behindPart_0 {X0 X : Mem} {mm j m : Nat} {B : Nat → Nat} (hB : okB B mm) (hV0 : RV X0 mm B) (hN : NS X0 B (stT B j) [] m X) (i1 : m ≤ 8) (i2 : m = cnS []) (i3 : inS []) (h24 : X.1 244 24 = b2i true) {D : Nat} (h25 : X.1 244 25 = nI D) (hD : D < 1048576) : CM 3 m_R_behindPart [.ref 244] X (BhS X0 B X (behS (tkT B) j [] m D)) := by
  have hpl := inS_le i3
  have hh := hdS_le []
  have hX := hN.1
  have hV := RV_V hN.2.2.2.2.2 hV0
  have hT := hN.2.1
  have hq := stT_le hB j
  have htr := tR_sm (q := stT B j) hB
  refine CM_of (L := [some (.ref 244), none]) 1 ok_R_behindPart (fun _ => Nat.le_of_ble_eq_true rfl) rfl ?_
  refine J_aload_n (i := 0) d_R_behindPart_0 rfl rfl ?_
  refine J_bipush (v := nI 119) d_R_behindPart_1 rfl ?_
  refine J_bipush (v := nI 105) d_R_behindPart_3 rfl ?_
  refine J_bipush (v := nI 116) d_R_behindPart_5 rfl ?_
  refine J_bipush (v := nI 104) d_R_behindPart_7 rfl ?_
  refine CS_L (av := [.int (nI 119), .int (nI 105), .int (nI 116), .int (nI 104)]) d_R_behindPart_9 s_R_188 (S_R_w4 (nI 119) (nI 105) (nI 116) (nI 104)) (by decide) rfl rfl (Nat.le_of_ble_eq_true rfl) ?_
  refine CV_B (av := [.long (wE4 (nI 119) (nI 105) (nI 116) (nI 104))]) d_R_behindPart_12 s_R_251 (M_rcv rfl (by decide) rfl) (S_R_isWord (i := 15) hB hT (by decide) (by decide) (by decide +kernel)) (by omega) rfl rfl (Nat.le_of_ble_eq_true rfl) ?_
  refine J_istore_n (i := 1) (L1 := [some (.ref 244), some (.int (b2i (decide (kT B (stT B j) = 15))))]) d_R_behindPart_15 rfl (by decide) rfl ?_
  refine J_iload_n (i := 1) d_R_behindPart_16 rfl rfl ?_
  refine B_if_ne (tgt := 38) d_R_behindPart_17 (by decide) (fun c17 => ?_) (fun c17 => ?_)
  · refine J_aload_n (i := 0) d_R_behindPart_38 rfl rfl ?_
    refine M_getR (b := 254) d_R_behindPart_39 f_R_44 rfl rfl rfl ?_
    refine J_aload_n (i := 0) d_R_behindPart_42 rfl rfl ?_
    refine M_get (x := (nI 0)) d_R_behindPart_43 f_R_213 rfl rfl hN.2.2.1 ?_
    refine J_iload_n (i := 1) d_R_behindPart_46 rfl rfl ?_
    refine B_if_eq (tgt := 55) d_R_behindPart_47 (by decide) (fun c47 => absurd c47 (by rw [c17]; decide)) (fun c47 => ?_)
    refine J_bipush (v := nI 52) d_R_behindPart_50 rfl ?_
    refine J_goto (tgt := 57) d_R_behindPart_52 (by decide) ?_
    refine N_iast d_R_behindPart_57 rfl (by decide) (by omega) (ltL hX (a := 254) (n := 160) (by decide) rfl (by omega)) ?_
    refine J_aload_n (i := 0) d_R_behindPart_58 rfl rfl ?_
    refine M_getR (b := 255) d_R_behindPart_59 f_R_47 rfl rfl rfl ?_
    refine J_aload_n (i := 0) d_R_behindPart_62 rfl rfl ?_
    refine M_get (x := (nI 0)) d_R_behindPart_63 f_R_213 rfl rfl hN.2.2.1 ?_
    refine J_aload_n (i := 0) d_R_behindPart_66 rfl rfl ?_
    refine M_get (x := (nI D)) d_R_behindPart_67 f_R_276 rfl rfl h25 ?_
    refine N_iast d_R_behindPart_70 rfl (by decide) (by omega) (ltL (okS hX rfl) (a := 255) (n := 160) (by decide) rfl (by omega)) ?_
    refine J_aload_n (i := 0) d_R_behindPart_71 rfl rfl ?_
    refine J_dup d_R_behindPart_72 rfl ?_
    refine M_get (x := (nI 0)) d_R_behindPart_73 f_R_213 rfl rfl hN.2.2.1 ?_
    refine J_iconst (v := nI 1) d_R_behindPart_76 rfl ?_
    refine N_iadd d_R_behindPart_77 ?_
    refine M_put d_R_behindPart_78 p_R_213 rfl rfl rfl rfl ?_
    refine J_aload_n (i := 0) d_R_behindPart_81 rfl rfl ?_
    refine J_iconst (v := nI 0) d_R_behindPart_82 rfl ?_
    refine J.eq (st1 := [.int (b2i false), .ref 244]) ?_ rfl rfl rfl
    refine M_put d_R_behindPart_83 p_R_242 rfl rfl b2i_nar b2i_fit ?_
    refine J_aload_n (i := 0) d_R_behindPart_86 rfl rfl ?_
    have hA1 := NS_F (k := 24) (v := b2i false) (Or.inl rfl) (NS_pw (a := 52) (D := D) hN (by decide) hD (by decide))
    refine M_callV (av := []) d_R_behindPart_87 s_R_233 (M_rcv rfl (by decide) rfl) (S_R_nextToken hA1.1 hB (RV_V hA1.2.2.2.2.2 hV0) hA1.2.1.2.1 (eN_le hB (stT_le hB _))) (by decide) rfl rfl (Nat.le_of_ble_eq_true rfl) (fun r1 Y1 hq1 => ?_)
    obtain ⟨rfl, hY1, ho1, hT1⟩ := hq1
    obtain ⟨hN1, h24_1, h25_1⟩ := NS_nx hA1 hY1 ho1 hT1
    refine J_iconst (v := nI 1) d_R_behindPart_90 rfl ?_
    refine J.eq (st1 := [.int (b2i true)]) ?_ rfl rfl rfl
    refine M_ir d_R_behindPart_91 rfl b2i_nar ?_
    rw [bhW (T := tkT B) (a := 52) (Or.inl ⟨of_decide_eq_true c17, rfl⟩)]
    exact ⟨rfl, hN1, h24_1.trans pF_at, fun z => by cases z⟩
  · refine J_aload_n (i := 0) d_R_behindPart_20 rfl rfl ?_
    refine J_bipush (v := nI 108) d_R_behindPart_21 rfl ?_
    refine J_bipush (v := nI 101) d_R_behindPart_23 rfl ?_
    refine J_bipush (v := nI 115) d_R_behindPart_25 rfl ?_
    refine J_bipush (v := nI 115) d_R_behindPart_27 rfl ?_
    refine CS_L (av := [.int (nI 108), .int (nI 101), .int (nI 115), .int (nI 115)]) d_R_behindPart_29 s_R_188 (S_R_w4 (nI 108) (nI 101) (nI 115) (nI 115)) (by decide) rfl rfl (Nat.le_of_ble_eq_true rfl) ?_
    refine CV_B (av := [.long (wE4 (nI 108) (nI 101) (nI 115) (nI 115))]) d_R_behindPart_32 s_R_251 (M_rcv rfl (by decide) rfl) (S_R_isWord (i := 16) hB hT (by decide) (by decide) (by decide +kernel)) (by omega) rfl rfl (Nat.le_of_ble_eq_true rfl) ?_
    refine B_if_eq (tgt := 92) d_R_behindPart_35 (by decide) (fun c35 => ?_) (fun c35 => ?_)
    · refine J_aload_n (i := 0) d_R_behindPart_92 rfl rfl ?_
      refine M_get (x := (nI (tR B (stT B j)))) d_R_behindPart_93 f_R_158 rfl rfl hT.2.2.1 ?_
      refine J_bipush (v := nI 41) d_R_behindPart_96 rfl ?_
      refine N_icmp_ne (tgt := 108) d_R_behindPart_98 (by decide) (by omega) (by omega) (fun c98 => ?_) (fun c98 => ?_)
      · refine J_iconst (v := nI 0) d_R_behindPart_108 rfl ?_
        refine J.eq (st1 := [.int (b2i false)]) ?_ rfl rfl rfl
        refine M_ir d_R_behindPart_109 rfl b2i_nar ?_
        rw [bhF (T := tkT B) ⟨of_decide_eq_false c17, of_decide_eq_false c35⟩ (Or.inl (fun z => c98 ((sg_of hB (p := (41, 41)) (by decide)).mpr z)))]
        exact ⟨rfl, rfl⟩
      · refine J_aload_n (i := 0) d_R_behindPart_101 rfl rfl ?_
        refine M_get (x := (nI 0)) d_R_behindPart_102 f_R_213 rfl rfl hN.2.2.1 ?_
        refine N_if_ne (tgt := 110) d_R_behindPart_105 (by decide) (by omega) (fun c105 => absurd c105 (by decide)) (fun c105 => ?_)
        refine J_iconst (v := nI 0) d_R_behindPart_108 rfl ?_
        refine J.eq (st1 := [.int (b2i false)]) ?_ rfl rfl rfl
        refine M_ir d_R_behindPart_109 rfl b2i_nar ?_
        rw [bhF (T := tkT B) ⟨of_decide_eq_false c17, of_decide_eq_false c35⟩ (Or.inr rfl)]
        exact ⟨rfl, rfl⟩
    · refine J_aload_n (i := 0) d_R_behindPart_38 rfl rfl ?_
      refine M_getR (b := 254) d_R_behindPart_39 f_R_44 rfl rfl rfl ?_
      refine J_aload_n (i := 0) d_R_behindPart_42 rfl rfl ?_
      refine M_get (x := (nI 0)) d_R_behindPart_43 f_R_213 rfl rfl hN.2.2.1 ?_
      refine J_iload_n (i := 1) d_R_behindPart_46 rfl rfl ?_
      refine B_if_eq (tgt := 55) d_R_behindPart_47 (by decide) (fun c47 => ?_) (fun c47 => absurd c47 (by rw [c17]; decide))
      refine J_bipush (v := nI 53) d_R_behindPart_55 rfl ?_
      refine N_iast d_R_behindPart_57 rfl (by decide) (by omega) (ltL hX (a := 254) (n := 160) (by decide) rfl (by omega)) ?_
      refine J_aload_n (i := 0) d_R_behindPart_58 rfl rfl ?_
      refine M_getR (b := 255) d_R_behindPart_59 f_R_47 rfl rfl rfl ?_
      refine J_aload_n (i := 0) d_R_behindPart_62 rfl rfl ?_
      refine M_get (x := (nI 0)) d_R_behindPart_63 f_R_213 rfl rfl hN.2.2.1 ?_
      refine J_aload_n (i := 0) d_R_behindPart_66 rfl rfl ?_
      refine M_get (x := (nI D)) d_R_behindPart_67 f_R_276 rfl rfl h25 ?_
      refine N_iast d_R_behindPart_70 rfl (by decide) (by omega) (ltL (okS hX rfl) (a := 255) (n := 160) (by decide) rfl (by omega)) ?_
      refine J_aload_n (i := 0) d_R_behindPart_71 rfl rfl ?_
      refine J_dup d_R_behindPart_72 rfl ?_
      refine M_get (x := (nI 0)) d_R_behindPart_73 f_R_213 rfl rfl hN.2.2.1 ?_
      refine J_iconst (v := nI 1) d_R_behindPart_76 rfl ?_
      refine N_iadd d_R_behindPart_77 ?_
      refine M_put d_R_behindPart_78 p_R_213 rfl rfl rfl rfl ?_
      refine J_aload_n (i := 0) d_R_behindPart_81 rfl rfl ?_
      refine J_iconst (v := nI 0) d_R_behindPart_82 rfl ?_
      refine J.eq (st1 := [.int (b2i false), .ref 244]) ?_ rfl rfl rfl
      refine M_put d_R_behindPart_83 p_R_242 rfl rfl b2i_nar b2i_fit ?_
      refine J_aload_n (i := 0) d_R_behindPart_86 rfl rfl ?_
      have hA1 := NS_F (k := 24) (v := b2i false) (Or.inl rfl) (NS_pw (a := 53) (D := D) hN (by decide) hD (by decide))
      refine M_callV (av := []) d_R_behindPart_87 s_R_233 (M_rcv rfl (by decide) rfl) (S_R_nextToken hA1.1 hB (RV_V hA1.2.2.2.2.2 hV0) hA1.2.1.2.1 (eN_le hB (stT_le hB _))) (by decide) rfl rfl (Nat.le_of_ble_eq_true rfl) (fun r1 Y1 hq1 => ?_)
      obtain ⟨rfl, hY1, ho1, hT1⟩ := hq1
      obtain ⟨hN1, h24_1, h25_1⟩ := NS_nx hA1 hY1 ho1 hT1
      refine J_iconst (v := nI 1) d_R_behindPart_90 rfl ?_
      refine J.eq (st1 := [.int (b2i true)]) ?_ rfl rfl rfl
      refine M_ir d_R_behindPart_91 rfl b2i_nar ?_
      rw [bhW (T := tkT B) (a := 53) (Or.inr ⟨of_decide_eq_true c35, rfl⟩)]
      exact ⟨rfl, hN1, h24_1.trans pF_at, fun z => by cases z⟩

theorem S_R_behindPart_1 {X0 X : Mem} {mm j m : Nat} {B : Nat → Nat} {p : Nat × Nat} {P : List (Nat × Nat)} (hB : okB B mm) (hV0 : RV X0 mm B) (hN : NS X0 B (stT B j) (p :: P) m X) (i1 : m ≤ 8) (i2 : m = cnS (p :: P)) (i3 : inS (p :: P)) (h24 : X.1 244 24 = b2i true) {D : Nat} (h25 : X.1 244 25 = nI D) (hD : D < 1048576) (h0 : hdS (p :: P) = 0) : CM 3 m_R_behindPart [.ref 244] X (BhS X0 B X (behS (tkT B) j (p :: P) m D)) := by
  have hpl := inS_le i3
  have hh := hdS_le (p :: P)
  have hX := hN.1
  have hV := RV_V hN.2.2.2.2.2 hV0
  have hT := hN.2.1
  have hq := stT_le hB j
  have htr := tR_sm (q := stT B j) hB
  have i2 : m = cs1 p.1 + cnS P := i2
  have h0 : 1 - cs1 p.1 = 0 := h0
  have hpl : P.length + 1 ≤ 2 * (cs1 p.1 + cnS P) + (1 - cs1 p.1) := hpl
  have hc1 := cs1_c p.1
  have i33 := i3.2.2
  refine CM_of (L := [some (.ref 244), none]) 1 ok_R_behindPart (fun _ => Nat.le_of_ble_eq_true rfl) rfl ?_
  refine J_aload_n (i := 0) d_R_behindPart_0 rfl rfl ?_
  refine J_bipush (v := nI 119) d_R_behindPart_1 rfl ?_
  refine J_bipush (v := nI 105) d_R_behindPart_3 rfl ?_
  refine J_bipush (v := nI 116) d_R_behindPart_5 rfl ?_
  refine J_bipush (v := nI 104) d_R_behindPart_7 rfl ?_
  refine CS_L (av := [.int (nI 119), .int (nI 105), .int (nI 116), .int (nI 104)]) d_R_behindPart_9 s_R_188 (S_R_w4 (nI 119) (nI 105) (nI 116) (nI 104)) (by decide) rfl rfl (Nat.le_of_ble_eq_true rfl) ?_
  refine CV_B (av := [.long (wE4 (nI 119) (nI 105) (nI 116) (nI 104))]) d_R_behindPart_12 s_R_251 (M_rcv rfl (by decide) rfl) (S_R_isWord (i := 15) hB hT (by decide) (by decide) (by decide +kernel)) (by omega) rfl rfl (Nat.le_of_ble_eq_true rfl) ?_
  refine J_istore_n (i := 1) (L1 := [some (.ref 244), some (.int (b2i (decide (kT B (stT B j) = 15))))]) d_R_behindPart_15 rfl (by decide) rfl ?_
  refine J_iload_n (i := 1) d_R_behindPart_16 rfl rfl ?_
  refine B_if_ne (tgt := 38) d_R_behindPart_17 (by decide) (fun c17 => ?_) (fun c17 => ?_)
  · refine J_aload_n (i := 0) d_R_behindPart_38 rfl rfl ?_
    refine M_getR (b := 254) d_R_behindPart_39 f_R_44 rfl rfl rfl ?_
    refine J_aload_n (i := 0) d_R_behindPart_42 rfl rfl ?_
    refine M_get (x := (nI (P.length + 1))) d_R_behindPart_43 f_R_213 rfl rfl hN.2.2.1 ?_
    refine J_iload_n (i := 1) d_R_behindPart_46 rfl rfl ?_
    refine B_if_eq (tgt := 55) d_R_behindPart_47 (by decide) (fun c47 => absurd c47 (by rw [c17]; decide)) (fun c47 => ?_)
    refine J_bipush (v := nI 52) d_R_behindPart_50 rfl ?_
    refine J_goto (tgt := 57) d_R_behindPart_52 (by decide) ?_
    refine N_iast d_R_behindPart_57 rfl (by decide) (by omega) (ltL hX (a := 254) (n := 160) (by decide) rfl (by omega)) ?_
    refine J_aload_n (i := 0) d_R_behindPart_58 rfl rfl ?_
    refine M_getR (b := 255) d_R_behindPart_59 f_R_47 rfl rfl rfl ?_
    refine J_aload_n (i := 0) d_R_behindPart_62 rfl rfl ?_
    refine M_get (x := (nI (P.length + 1))) d_R_behindPart_63 f_R_213 rfl rfl hN.2.2.1 ?_
    refine J_aload_n (i := 0) d_R_behindPart_66 rfl rfl ?_
    refine M_get (x := (nI D)) d_R_behindPart_67 f_R_276 rfl rfl h25 ?_
    refine N_iast d_R_behindPart_70 rfl (by decide) (by omega) (ltL (okS hX rfl) (a := 255) (n := 160) (by decide) rfl (by omega)) ?_
    refine J_aload_n (i := 0) d_R_behindPart_71 rfl rfl ?_
    refine J_dup d_R_behindPart_72 rfl ?_
    refine M_get (x := (nI (P.length + 1))) d_R_behindPart_73 f_R_213 rfl rfl hN.2.2.1 ?_
    refine J_iconst (v := nI 1) d_R_behindPart_76 rfl ?_
    refine N_iadd d_R_behindPart_77 ?_
    refine M_put d_R_behindPart_78 p_R_213 rfl rfl rfl rfl ?_
    refine J_aload_n (i := 0) d_R_behindPart_81 rfl rfl ?_
    refine J_iconst (v := nI 0) d_R_behindPart_82 rfl ?_
    refine J.eq (st1 := [.int (b2i false), .ref 244]) ?_ rfl rfl rfl
    refine M_put d_R_behindPart_83 p_R_242 rfl rfl b2i_nar b2i_fit ?_
    refine J_aload_n (i := 0) d_R_behindPart_86 rfl rfl ?_
    have hA1 := NS_F (k := 24) (v := b2i false) (Or.inl rfl) (NS_pw (a := 52) (D := D) hN (by decide) hD (show P.length + 1 < 150 by omega))
    refine M_callV (av := []) d_R_behindPart_87 s_R_233 (M_rcv rfl (by decide) rfl) (S_R_nextToken hA1.1 hB (RV_V hA1.2.2.2.2.2 hV0) hA1.2.1.2.1 (eN_le hB (stT_le hB _))) (by decide) rfl rfl (Nat.le_of_ble_eq_true rfl) (fun r1 Y1 hq1 => ?_)
    obtain ⟨rfl, hY1, ho1, hT1⟩ := hq1
    obtain ⟨hN1, h24_1, h25_1⟩ := NS_nx hA1 hY1 ho1 hT1
    refine J_iconst (v := nI 1) d_R_behindPart_90 rfl ?_
    refine J.eq (st1 := [.int (b2i true)]) ?_ rfl rfl rfl
    refine M_ir d_R_behindPart_91 rfl b2i_nar ?_
    rw [bhW (T := tkT B) (a := 52) (Or.inl ⟨of_decide_eq_true c17, rfl⟩)]
    exact ⟨rfl, hN1, h24_1.trans pF_at, fun z => by cases z⟩
  · refine J_aload_n (i := 0) d_R_behindPart_20 rfl rfl ?_
    refine J_bipush (v := nI 108) d_R_behindPart_21 rfl ?_
    refine J_bipush (v := nI 101) d_R_behindPart_23 rfl ?_
    refine J_bipush (v := nI 115) d_R_behindPart_25 rfl ?_
    refine J_bipush (v := nI 115) d_R_behindPart_27 rfl ?_
    refine CS_L (av := [.int (nI 108), .int (nI 101), .int (nI 115), .int (nI 115)]) d_R_behindPart_29 s_R_188 (S_R_w4 (nI 108) (nI 101) (nI 115) (nI 115)) (by decide) rfl rfl (Nat.le_of_ble_eq_true rfl) ?_
    refine CV_B (av := [.long (wE4 (nI 108) (nI 101) (nI 115) (nI 115))]) d_R_behindPart_32 s_R_251 (M_rcv rfl (by decide) rfl) (S_R_isWord (i := 16) hB hT (by decide) (by decide) (by decide +kernel)) (by omega) rfl rfl (Nat.le_of_ble_eq_true rfl) ?_
    refine B_if_eq (tgt := 92) d_R_behindPart_35 (by decide) (fun c35 => ?_) (fun c35 => ?_)
    · refine J_aload_n (i := 0) d_R_behindPart_92 rfl rfl ?_
      refine M_get (x := (nI (tR B (stT B j)))) d_R_behindPart_93 f_R_158 rfl rfl hT.2.2.1 ?_
      refine J_bipush (v := nI 41) d_R_behindPart_96 rfl ?_
      refine N_icmp_ne (tgt := 108) d_R_behindPart_98 (by decide) (by omega) (by omega) (fun c98 => ?_) (fun c98 => ?_)
      · refine J_iconst (v := nI 0) d_R_behindPart_108 rfl ?_
        refine J.eq (st1 := [.int (b2i false)]) ?_ rfl rfl rfl
        refine M_ir d_R_behindPart_109 rfl b2i_nar ?_
        rw [bhF (T := tkT B) ⟨of_decide_eq_false c17, of_decide_eq_false c35⟩ (Or.inl (fun z => c98 ((sg_of hB (p := (41, 41)) (by decide)).mpr z)))]
        exact ⟨rfl, rfl⟩
      · refine J_aload_n (i := 0) d_R_behindPart_101 rfl rfl ?_
        refine M_get (x := (nI (P.length + 1))) d_R_behindPart_102 f_R_213 rfl rfl hN.2.2.1 ?_
        refine N_if_ne (tgt := 110) d_R_behindPart_105 (by decide) (by omega) (fun c105 => ?_) (fun c105 => absurd c105 (by omega))
        refine J_aload_n (i := 0) d_R_behindPart_110 rfl rfl ?_
        refine J_dup d_R_behindPart_111 rfl ?_
        refine M_get (x := (nI (P.length + 1))) d_R_behindPart_112 f_R_213 rfl rfl hN.2.2.1 ?_
        refine J_iconst (v := nI 1) d_R_behindPart_115 rfl ?_
        refine N_isub d_R_behindPart_116 (by omega) ?_
        rw [show P.length + 1 - 1 = P.length from rfl]
        refine M_put d_R_behindPart_117 p_R_213 rfl rfl rfl rfl ?_
        refine J_aload_n (i := 0) d_R_behindPart_120 rfl rfl ?_
        refine J_dup d_R_behindPart_121 rfl ?_
        refine M_get (x := (nI m)) d_R_behindPart_122 f_R_223 rfl rfl hN.2.2.2.2.1 ?_
        refine J_iconst (v := nI 1) d_R_behindPart_125 rfl ?_
        refine N_isub d_R_behindPart_126 (by omega) ?_
        refine M_put d_R_behindPart_127 p_R_223 rfl rfl rfl rfl ?_
        refine J_aload_n (i := 0) d_R_behindPart_130 rfl rfl ?_
        have hA2 := NS_23 (n := m - 1) (NS_pop hN)
        refine M_callV (av := []) d_R_behindPart_131 s_R_233 (M_rcv rfl (by decide) rfl) (S_R_nextToken hA2.1 hB (RV_V hA2.2.2.2.2.2 hV0) hA2.2.1.2.1 (eN_le hB (stT_le hB _))) (by decide) rfl rfl (Nat.le_of_ble_eq_true rfl) (fun r2 Y2 hq2 => ?_)
        obtain ⟨rfl, hY2, ho2, hT2⟩ := hq2
        obtain ⟨hN2, h24_2, h25_2⟩ := NS_nx hA2 hY2 ho2 hT2
        refine J_aload_n (i := 0) d_R_behindPart_134 rfl rfl ?_
        refine J_aload_n (i := 0) d_R_behindPart_135 rfl rfl ?_
        refine M_get (x := (nI D)) d_R_behindPart_136 f_R_276 rfl rfl (h25_2.trans h25) ?_
        refine M_callV (av := [.int (nI D)]) d_R_behindPart_139 s_R_282 (M_rcv rfl (by decide) rfl) (S_R_endPart (D := D) hN2 hD (by omega) (by omega) (by omega)) (by decide) rfl rfl (Nat.le_of_ble_eq_true rfl) (fun r3 Y3 hq3 => ?_)
        obtain ⟨rfl, hN3, h24_3, h25_3, hD3⟩ := hq3
        refine J_iconst (v := nI 1) d_R_behindPart_142 rfl ?_
        refine J.eq (st1 := [.int (b2i true)]) ?_ rfl rfl rfl
        refine M_ir d_R_behindPart_143 rfl b2i_nar ?_
        rw [bhE (T := tkT B) ((sg_of hB (p := (41, 41)) (by decide)).mp c98)]
        exact ⟨rfl, hN3, h24_3, fun _ => ⟨h25_3, hD3⟩⟩
    · refine J_aload_n (i := 0) d_R_behindPart_38 rfl rfl ?_
      refine M_getR (b := 254) d_R_behindPart_39 f_R_44 rfl rfl rfl ?_
      refine J_aload_n (i := 0) d_R_behindPart_42 rfl rfl ?_
      refine M_get (x := (nI (P.length + 1))) d_R_behindPart_43 f_R_213 rfl rfl hN.2.2.1 ?_
      refine J_iload_n (i := 1) d_R_behindPart_46 rfl rfl ?_
      refine B_if_eq (tgt := 55) d_R_behindPart_47 (by decide) (fun c47 => ?_) (fun c47 => absurd c47 (by rw [c17]; decide))
      refine J_bipush (v := nI 53) d_R_behindPart_55 rfl ?_
      refine N_iast d_R_behindPart_57 rfl (by decide) (by omega) (ltL hX (a := 254) (n := 160) (by decide) rfl (by omega)) ?_
      refine J_aload_n (i := 0) d_R_behindPart_58 rfl rfl ?_
      refine M_getR (b := 255) d_R_behindPart_59 f_R_47 rfl rfl rfl ?_
      refine J_aload_n (i := 0) d_R_behindPart_62 rfl rfl ?_
      refine M_get (x := (nI (P.length + 1))) d_R_behindPart_63 f_R_213 rfl rfl hN.2.2.1 ?_
      refine J_aload_n (i := 0) d_R_behindPart_66 rfl rfl ?_
      refine M_get (x := (nI D)) d_R_behindPart_67 f_R_276 rfl rfl h25 ?_
      refine N_iast d_R_behindPart_70 rfl (by decide) (by omega) (ltL (okS hX rfl) (a := 255) (n := 160) (by decide) rfl (by omega)) ?_
      refine J_aload_n (i := 0) d_R_behindPart_71 rfl rfl ?_
      refine J_dup d_R_behindPart_72 rfl ?_
      refine M_get (x := (nI (P.length + 1))) d_R_behindPart_73 f_R_213 rfl rfl hN.2.2.1 ?_
      refine J_iconst (v := nI 1) d_R_behindPart_76 rfl ?_
      refine N_iadd d_R_behindPart_77 ?_
      refine M_put d_R_behindPart_78 p_R_213 rfl rfl rfl rfl ?_
      refine J_aload_n (i := 0) d_R_behindPart_81 rfl rfl ?_
      refine J_iconst (v := nI 0) d_R_behindPart_82 rfl ?_
      refine J.eq (st1 := [.int (b2i false), .ref 244]) ?_ rfl rfl rfl
      refine M_put d_R_behindPart_83 p_R_242 rfl rfl b2i_nar b2i_fit ?_
      refine J_aload_n (i := 0) d_R_behindPart_86 rfl rfl ?_
      have hA1 := NS_F (k := 24) (v := b2i false) (Or.inl rfl) (NS_pw (a := 53) (D := D) hN (by decide) hD (show P.length + 1 < 150 by omega))
      refine M_callV (av := []) d_R_behindPart_87 s_R_233 (M_rcv rfl (by decide) rfl) (S_R_nextToken hA1.1 hB (RV_V hA1.2.2.2.2.2 hV0) hA1.2.1.2.1 (eN_le hB (stT_le hB _))) (by decide) rfl rfl (Nat.le_of_ble_eq_true rfl) (fun r1 Y1 hq1 => ?_)
      obtain ⟨rfl, hY1, ho1, hT1⟩ := hq1
      obtain ⟨hN1, h24_1, h25_1⟩ := NS_nx hA1 hY1 ho1 hT1
      refine J_iconst (v := nI 1) d_R_behindPart_90 rfl ?_
      refine J.eq (st1 := [.int (b2i true)]) ?_ rfl rfl rfl
      refine M_ir d_R_behindPart_91 rfl b2i_nar ?_
      rw [bhW (T := tkT B) (a := 53) (Or.inr ⟨of_decide_eq_true c35, rfl⟩)]
      exact ⟨rfl, hN1, h24_1.trans pF_at, fun z => by cases z⟩

theorem S_R_behindPart {X0 X : Mem} {mm j m : Nat} {B : Nat → Nat} {P : List (Nat × Nat)} (hB : okB B mm) (hV0 : RV X0 mm B) (hN : NS X0 B (stT B j) P m X) (i1 : m ≤ 8) (i2 : m = cnS P) (i3 : inS P) (h24 : X.1 244 24 = b2i true) {D : Nat} (h25 : X.1 244 25 = nI D) (hD : D < 1048576) (h0 : hdS P = 0) : CM 3 m_R_behindPart [.ref 244] X (BhS X0 B X (behS (tkT B) j P m D)) := by
  cases P with
  | nil => exact S_R_behindPart_0 hB hV0 hN i1 i2 i3 h24 h25 hD
  | cons p P => exact S_R_behindPart_1 hB hV0 hN i1 i2 i3 h24 h25 hD h0
