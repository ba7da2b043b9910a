theorem S_R_nameOf {X : Mem} {B : Nat → Nat} {m q : Nat} (hX : Ok X) (hB : okB B m) (hV : RV X m B) (hT : RTq X B q) (hq : q ≤ m) : CM 5 m_R_nameOf [.ref 244] X (rI (nmR (kT B q)) X) := by
  have h300 := hB.1
  have ht := tR_sm (q := q) hB
  have k26 := wk_of (q := q) (i := 6) hB (by decide) (by decide) (W := X.2.2.2.2) (fun hl => hT.2.2.2.2 (lt_tR hl)) (w := (wE4 (nI 121) (nI 101) (nI 97) (nI 114))) (by decide +kernel)
  have k51 := wk_of (q := q) (i := 26) hB (by decide) (by decide) (W := X.2.2.2.2) (fun hl => hT.2.2.2.2 (lt_tR hl)) (w := (wE6 (nI 110) (nI 117) (nI 109) (nI 98) (nI 101) (nI 114))) (by decide +kernel)
  have k81 := wk_of (q := q) (i := 28) hB (by decide) (by decide) (W := X.2.2.2.2) (fun hl => hT.2.2.2.2 (lt_tR hl)) (w := (wE4 (nI 101) (nI 110) (nI 100) (nI 115))) (by decide +kernel)
  have k102 := wk_of (q := q) (i := 29) hB (by decide) (by decide) (W := X.2.2.2.2) (fun hl => hT.2.2.2.2 (lt_tR hl)) (w := (wE4 (nI 102) (nI 117) (nI 110) (nI 100))) (by decide +kernel)
  have k125 := wk_of (q := q) (i := 30) hB (by decide) (by decide) (W := X.2.2.2.2) (fun hl => hT.2.2.2.2 (lt_tR hl)) (w := (wE5 (nI 119) (nI 104) (nI 105) (nI 99) (nI 104))) (by decide +kernel)
  have k152 := wk_of (q := q) (i := 31) hB (by decide) (by decide) (W := X.2.2.2.2) (fun hl => hT.2.2.2.2 (lt_tR hl)) (w := (wE6 (nI 112) (nI 105) (nI 101) (nI 99) (nI 101) (nI 115))) (by decide +kernel)
  refine CM_of (L := [some (.ref 244)]) 0 ok_R_nameOf (fun _ => Nat.le_of_ble_eq_true rfl) rfl ?_
  refine J_aload_n (i := 0) d_R_nameOf_0 rfl rfl ?_
  refine M_get (x := (nI (tR B q))) d_R_nameOf_1 f_R_158 rfl rfl hT.2.2.1 ?_
  refine J_iconst (v := nI 2) d_R_nameOf_4 rfl ?_
  refine N_icmp_eq (tgt := 10) d_R_nameOf_5 (by decide) (by omega) (by omega) (fun c5 => ?_) (fun c5 => ?_)
  · refine J_aload_n (i := 0) d_R_nameOf_10 rfl rfl ?_
    refine M_getW (x := X.2.2.2.2) d_R_nameOf_11 f_R_171 rfl rfl rfl ?_
    refine J_bipush (v := nI 121) d_R_nameOf_14 rfl ?_
    refine J_bipush (v := nI 101) d_R_nameOf_16 rfl ?_
    refine J_bipush (v := nI 97) d_R_nameOf_18 rfl ?_
    refine J_bipush (v := nI 114) d_R_nameOf_20 rfl ?_
    refine CS_L (av := [.int (nI 121), .int (nI 101), .int (nI 97), .int (nI 114)]) d_R_nameOf_22 s_R_188 (S_R_w4 (nI 121) (nI 101) (nI 97) (nI 114)) (by decide) rfl rfl (Nat.le_of_ble_eq_true rfl) ?_
    refine J_lcmp d_R_nameOf_25 ?_
    refine J_if_ne (tgt := 31) d_R_nameOf_26 (by decide) (fun c26 => ?_) (fun c26 => ?_)
    · refine J_aload_n (i := 0) d_R_nameOf_31 rfl rfl ?_
      refine M_getW (x := X.2.2.2.2) d_R_nameOf_32 f_R_171 rfl rfl rfl ?_
      refine J_bipush (v := nI 110) d_R_nameOf_35 rfl ?_
      refine J_bipush (v := nI 117) d_R_nameOf_37 rfl ?_
      refine J_bipush (v := nI 109) d_R_nameOf_39 rfl ?_
      refine J_bipush (v := nI 98) d_R_nameOf_41 rfl ?_
      refine J_bipush (v := nI 101) d_R_nameOf_43 rfl ?_
      refine J_bipush (v := nI 114) d_R_nameOf_45 rfl ?_
      refine CS_L (av := [.int (nI 110), .int (nI 117), .int (nI 109), .int (nI 98), .int (nI 101), .int (nI 114)]) d_R_nameOf_47 s_R_202 (S_R_w6 (nI 110) (nI 117) (nI 109) (nI 98) (nI 101) (nI 114)) (by decide) rfl rfl (Nat.le_of_ble_eq_true rfl) ?_
      refine J_lcmp d_R_nameOf_50 ?_
      refine J_if_ne (tgt := 56) d_R_nameOf_51 (by decide) (fun c51 => ?_) (fun c51 => ?_)
      · refine J_aload_n (i := 0) d_R_nameOf_56 rfl rfl ?_
        refine CV_B (av := []) d_R_nameOf_57 s_R_206 (M_rcv rfl (by decide) rfl) (S_R_isStrokesWord hX hB hV hT hq) (by decide) rfl rfl (Nat.le_of_ble_eq_true rfl) ?_
        refine B_if_eq (tgt := 65) d_R_nameOf_60 (by decide) (fun c60 => ?_) (fun c60 => ?_)
        · refine J_aload_n (i := 0) d_R_nameOf_65 rfl rfl ?_
          refine M_getW (x := X.2.2.2.2) d_R_nameOf_66 f_R_171 rfl rfl rfl ?_
          refine J_bipush (v := nI 101) d_R_nameOf_69 rfl ?_
          refine J_bipush (v := nI 110) d_R_nameOf_71 rfl ?_
          refine J_bipush (v := nI 100) d_R_nameOf_73 rfl ?_
          refine J_bipush (v := nI 115) d_R_nameOf_75 rfl ?_
          refine CS_L (av := [.int (nI 101), .int (nI 110), .int (nI 100), .int (nI 115)]) d_R_nameOf_77 s_R_188 (S_R_w4 (nI 101) (nI 110) (nI 100) (nI 115)) (by decide) rfl rfl (Nat.le_of_ble_eq_true rfl) ?_
          refine J_lcmp d_R_nameOf_80 ?_
          refine J_if_ne (tgt := 86) d_R_nameOf_81 (by decide) (fun c81 => ?_) (fun c81 => ?_)
          · refine J_aload_n (i := 0) d_R_nameOf_86 rfl rfl ?_
            refine M_getW (x := X.2.2.2.2) d_R_nameOf_87 f_R_171 rfl rfl rfl ?_
            refine J_bipush (v := nI 102) d_R_nameOf_90 rfl ?_
            refine J_bipush (v := nI 117) d_R_nameOf_92 rfl ?_
            refine J_bipush (v := nI 110) d_R_nameOf_94 rfl ?_
            refine J_bipush (v := nI 100) d_R_nameOf_96 rfl ?_
            refine CS_L (av := [.int (nI 102), .int (nI 117), .int (nI 110), .int (nI 100)]) d_R_nameOf_98 s_R_188 (S_R_w4 (nI 102) (nI 117) (nI 110) (nI 100)) (by decide) rfl rfl (Nat.le_of_ble_eq_true rfl) ?_
            refine J_lcmp d_R_nameOf_101 ?_
            refine J_if_ne (tgt := 107) d_R_nameOf_102 (by decide) (fun c102 => ?_) (fun c102 => ?_)
            · refine J_aload_n (i := 0) d_R_nameOf_107 rfl rfl ?_
              refine M_getW (x := X.2.2.2.2) d_R_nameOf_108 f_R_171 rfl rfl rfl ?_
              refine J_bipush (v := nI 119) d_R_nameOf_111 rfl ?_
              refine J_bipush (v := nI 104) d_R_nameOf_113 rfl ?_
              refine J_bipush (v := nI 105) d_R_nameOf_115 rfl ?_
              refine J_bipush (v := nI 99) d_R_nameOf_117 rfl ?_
              refine J_bipush (v := nI 104) d_R_nameOf_119 rfl ?_
              refine CS_L (av := [.int (nI 119), .int (nI 104), .int (nI 105), .int (nI 99), .int (nI 104)]) d_R_nameOf_121 s_R_192 (S_R_w5 (nI 119) (nI 104) (nI 105) (nI 99) (nI 104)) (by decide) rfl rfl (Nat.le_of_ble_eq_true rfl) ?_
              refine J_lcmp d_R_nameOf_124 ?_
              refine J_if_ne (tgt := 132) d_R_nameOf_125 (by decide) (fun c125 => ?_) (fun c125 => ?_)
              · refine J_aload_n (i := 0) d_R_nameOf_132 rfl rfl ?_
                refine M_getW (x := X.2.2.2.2) d_R_nameOf_133 f_R_171 rfl rfl rfl ?_
                refine J_bipush (v := nI 112) d_R_nameOf_136 rfl ?_
                refine J_bipush (v := nI 105) d_R_nameOf_138 rfl ?_
                refine J_bipush (v := nI 101) d_R_nameOf_140 rfl ?_
                refine J_bipush (v := nI 99) d_R_nameOf_142 rfl ?_
                refine J_bipush (v := nI 101) d_R_nameOf_144 rfl ?_
                refine J_bipush (v := nI 115) d_R_nameOf_146 rfl ?_
                refine CS_L (av := [.int (nI 112), .int (nI 105), .int (nI 101), .int (nI 99), .int (nI 101), .int (nI 115)]) d_R_nameOf_148 s_R_202 (S_R_w6 (nI 112) (nI 105) (nI 101) (nI 99) (nI 101) (nI 115)) (by decide) rfl rfl (Nat.le_of_ble_eq_true rfl) ?_
                refine J_lcmp d_R_nameOf_151 ?_
                refine J_if_ne (tgt := 160) d_R_nameOf_152 (by decide) (fun c152 => ?_) (fun c152 => ?_)
                · refine J_iconst (v := (-1)) d_R_nameOf_160 rfl ?_
                  refine M_ir d_R_nameOf_161 rfl rfl ?_
                  have xc26 : kT B q ≠ 6 := fun z => c26 ((k26).mpr z).2
                  have xc51 : kT B q ≠ 26 := fun z => c51 ((k51).mpr z).2
                  have xc60 := of_decide_eq_false c60
                  have xc81 : kT B q ≠ 28 := fun z => c81 ((k81).mpr z).2
                  have xc102 : kT B q ≠ 29 := fun z => c102 ((k102).mpr z).2
                  have xc125 : kT B q ≠ 30 := fun z => c125 ((k125).mpr z).2
                  have xc152 : kT B q ≠ 31 := fun z => c152 ((k152).mpr z).2
                  have e : (-1 : Int32) = nmR (kT B q) := (if_neg (fun z => by simp only [nameB, Bool.or_eq_true, Bool.and_eq_true, decide_eq_true_eq] at z; omega)).symm
                  exact ⟨congrArg (fun b => some (Value.int b)) e, rfl⟩
                · refine J_bipush (v := nI 6) d_R_nameOf_155 rfl ?_
                  refine J_goto (tgt := 161) d_R_nameOf_157 (by decide) ?_
                  refine M_ir d_R_nameOf_161 rfl rfl ?_
                  have xc26 : kT B q ≠ 6 := fun z => c26 ((k26).mpr z).2
                  have xc51 : kT B q ≠ 26 := fun z => c51 ((k51).mpr z).2
                  have xc60 := of_decide_eq_false c60
                  have xc81 : kT B q ≠ 28 := fun z => c81 ((k81).mpr z).2
                  have xc102 : kT B q ≠ 29 := fun z => c102 ((k102).mpr z).2
                  have xc125 : kT B q ≠ 30 := fun z => c125 ((k125).mpr z).2
                  have xc152 : kT B q = 31 := (k152).mp ⟨by omega, c152⟩
                  have e : (nI 6 : Int32) = nmR (kT B q) := by rw [xc152]; rfl
                  exact ⟨congrArg (fun b => some (Value.int b)) e, rfl⟩
              · refine J_iconst (v := nI 5) d_R_nameOf_128 rfl ?_
                refine J_goto (tgt := 161) d_R_nameOf_129 (by decide) ?_
                refine M_ir d_R_nameOf_161 rfl rfl ?_
                have xc26 : kT B q ≠ 6 := fun z => c26 ((k26).mpr z).2
                have xc51 : kT B q ≠ 26 := fun z => c51 ((k51).mpr z).2
                have xc60 := of_decide_eq_false c60
                have xc81 : kT B q ≠ 28 := fun z => c81 ((k81).mpr z).2
                have xc102 : kT B q ≠ 29 := fun z => c102 ((k102).mpr z).2
                have xc125 : kT B q = 30 := (k125).mp ⟨by omega, c125⟩
                have e : (nI 5 : Int32) = nmR (kT B q) := by rw [xc125]; rfl
                exact ⟨congrArg (fun b => some (Value.int b)) e, rfl⟩
            · refine J_iconst (v := nI 4) d_R_nameOf_105 rfl ?_
              refine M_ir d_R_nameOf_106 rfl rfl ?_
              have xc26 : kT B q ≠ 6 := fun z => c26 ((k26).mpr z).2
              have xc51 : kT B q ≠ 26 := fun z => c51 ((k51).mpr z).2
              have xc60 := of_decide_eq_false c60
              have xc81 : kT B q ≠ 28 := fun z => c81 ((k81).mpr z).2
              have xc102 : kT B q = 29 := (k102).mp ⟨by omega, c102⟩
              have e : (nI 4 : Int32) = nmR (kT B q) := by rw [xc102]; rfl
              exact ⟨congrArg (fun b => some (Value.int b)) e, rfl⟩
          · refine J_iconst (v := nI 3) d_R_nameOf_84 rfl ?_
            refine M_ir d_R_nameOf_85 rfl rfl ?_
            have xc26 : kT B q ≠ 6 := fun z => c26 ((k26).mpr z).2
            have xc51 : kT B q ≠ 26 := fun z => c51 ((k51).mpr z).2
            have xc60 := of_decide_eq_false c60
            have xc81 : kT B q = 28 := (k81).mp ⟨by omega, c81⟩
            have e : (nI 3 : Int32) = nmR (kT B q) := by rw [xc81]; rfl
            exact ⟨congrArg (fun b => some (Value.int b)) e, rfl⟩
        · refine J_iconst (v := nI 2) d_R_nameOf_63 rfl ?_
          refine M_ir d_R_nameOf_64 rfl rfl ?_
          have xc26 : kT B q ≠ 6 := fun z => c26 ((k26).mpr z).2
          have xc51 : kT B q ≠ 26 := fun z => c51 ((k51).mpr z).2
          have xc60 := of_decide_eq_true c60
          have e : (nI 2 : Int32) = nmR (kT B q) := by rw [xc60]; rfl
          exact ⟨congrArg (fun b => some (Value.int b)) e, rfl⟩
      · refine J_iconst (v := nI 1) d_R_nameOf_54 rfl ?_
        refine M_ir d_R_nameOf_55 rfl rfl ?_
        have xc26 : kT B q ≠ 6 := fun z => c26 ((k26).mpr z).2
        have xc51 : kT B q = 26 := (k51).mp ⟨by omega, c51⟩
        have e : (nI 1 : Int32) = nmR (kT B q) := by rw [xc51]; rfl
        exact ⟨congrArg (fun b => some (Value.int b)) e, rfl⟩
    · refine J_iconst (v := nI 0) d_R_nameOf_29 rfl ?_
      refine M_ir d_R_nameOf_30 rfl rfl ?_
      have xc26 : kT B q = 6 := (k26).mp ⟨by omega, c26⟩
      have e : (nI 0 : Int32) = nmR (kT B q) := by rw [xc26]; rfl
      exact ⟨congrArg (fun b => some (Value.int b)) e, rfl⟩
  · refine J_iconst (v := (-1)) d_R_nameOf_8 rfl ?_
    refine M_ir d_R_nameOf_9 rfl rfl ?_
    have e : (-1 : Int32) = nmR (kT B q) := by
      rcases Bool.eq_false_or_eq_true (isLt (B q)) with e | e
      · exact absurd (lt_tR e) (by omega)
      · have h := kT_ge e
        exact (if_neg (fun z => by simp only [nameB, Bool.or_eq_true, Bool.and_eq_true, decide_eq_true_eq] at z; omega)).symm
    exact ⟨congrArg (fun b => some (Value.int b)) e, rfl⟩

theorem S_R_sortOf {X : Mem} {B : Nat → Nat} {m q : Nat} (hX : Ok X) (hB : okB B m) (hV : RV X m B) (hT : RTq X B q) (hq : q ≤ m) : CM 5 m_R_sortOf [.ref 244] X (rI (soR (kT B q)) X) := by
  have h300 := hB.1
  have ht := tR_sm (q := q) hB
  refine CM_of (L := [some (.ref 244)]) 0 ok_R_sortOf (fun _ => Nat.le_of_ble_eq_true rfl) rfl ?_
  refine J_aload_n (i := 0) d_R_sortOf_0 rfl rfl ?_
  refine J_bipush (v := nI 119) d_R_sortOf_1 rfl ?_
  refine J_bipush (v := nI 101) d_R_sortOf_3 rfl ?_
  refine J_bipush (v := nI 97) d_R_sortOf_5 rfl ?_
  refine J_bipush (v := nI 114) d_R_sortOf_7 rfl ?_
  refine J_bipush (v := nI 115) d_R_sortOf_9 rfl ?_
  refine CS_L (av := [.int (nI 119), .int (nI 101), .int (nI 97), .int (nI 114), .int (nI 115)]) d_R_sortOf_11 s_R_192 (S_R_w5 (nI 119) (nI 101) (nI 97) (nI 114) (nI 115)) (by decide) rfl rfl (Nat.le_of_ble_eq_true rfl) ?_
  refine CV_B (av := [.long (wE5 (nI 119) (nI 101) (nI 97) (nI 114) (nI 115))]) d_R_sortOf_14 s_R_251 (M_rcv rfl (by decide) rfl) (S_R_isWord (i := 0) hB hT (by decide) (by decide) (by decide +kernel)) (by omega) rfl rfl (Nat.le_of_ble_eq_true rfl) ?_
  refine B_if_eq (tgt := 22) d_R_sortOf_17 (by decide) (fun c17 => ?_) (fun c17 => ?_)
  · refine J_aload_n (i := 0) d_R_sortOf_22 rfl rfl ?_
    refine J_bipush (v := nI 102) d_R_sortOf_23 rfl ?_
    refine J_bipush (v := nI 101) d_R_sortOf_25 rfl ?_
    refine J_bipush (v := nI 101) d_R_sortOf_27 rfl ?_
    refine CS_L (av := [.int (nI 102), .int (nI 101), .int (nI 101)]) d_R_sortOf_29 s_R_184 (S_R_w3 (nI 102) (nI 101) (nI 101)) (by decide) rfl rfl (Nat.le_of_ble_eq_true rfl) ?_
    refine CV_B (av := [.long (wE3 (nI 102) (nI 101) (nI 101))]) d_R_sortOf_32 s_R_251 (M_rcv rfl (by decide) rfl) (S_R_isWord (i := 1) hB hT (by decide) (by decide) (by decide +kernel)) (by omega) rfl rfl (Nat.le_of_ble_eq_true rfl) ?_
    refine B_if_eq (tgt := 40) d_R_sortOf_35 (by decide) (fun c35 => ?_) (fun c35 => ?_)
    · refine J_aload_n (i := 0) d_R_sortOf_40 rfl rfl ?_
      refine J_bipush (v := nI 100) d_R_sortOf_41 rfl ?_
      refine J_bipush (v := nI 114) d_R_sortOf_43 rfl ?_
      refine J_bipush (v := nI 97) d_R_sortOf_45 rfl ?_
      refine J_bipush (v := nI 119) d_R_sortOf_47 rfl ?_
      refine CS_L (av := [.int (nI 100), .int (nI 114), .int (nI 97), .int (nI 119)]) d_R_sortOf_49 s_R_188 (S_R_w4 (nI 100) (nI 114) (nI 97) (nI 119)) (by decide) rfl rfl (Nat.le_of_ble_eq_true rfl) ?_
      refine CV_B (av := [.long (wE4 (nI 100) (nI 114) (nI 97) (nI 119))]) d_R_sortOf_52 s_R_251 (M_rcv rfl (by decide) rfl) (S_R_isWord (i := 2) hB hT (by decide) (by decide) (by decide +kernel)) (by omega) rfl rfl (Nat.le_of_ble_eq_true rfl) ?_
      refine B_if_eq (tgt := 60) d_R_sortOf_55 (by decide) (fun c55 => ?_) (fun c55 => ?_)
      · refine J_aload_n (i := 0) d_R_sortOf_60 rfl rfl ?_
        refine J_bipush (v := nI 97) d_R_sortOf_61 rfl ?_
        refine J_bipush (v := nI 100) d_R_sortOf_63 rfl ?_
        refine J_bipush (v := nI 100) d_R_sortOf_65 rfl ?_
        refine CS_L (av := [.int (nI 97), .int (nI 100), .int (nI 100)]) d_R_sortOf_67 s_R_184 (S_R_w3 (nI 97) (nI 100) (nI 100)) (by decide) rfl rfl (Nat.le_of_ble_eq_true rfl) ?_
        refine CV_B (av := [.long (wE3 (nI 97) (nI 100) (nI 100))]) d_R_sortOf_70 s_R_251 (M_rcv rfl (by decide) rfl) (S_R_isWord (i := 3) hB hT (by decide) (by decide) (by decide +kernel)) (by omega) rfl rfl (Nat.le_of_ble_eq_true rfl) ?_
        refine B_if_eq (tgt := 78) d_R_sortOf_73 (by decide) (fun c73 => ?_) (fun c73 => ?_)
        · refine J_aload_n (i := 0) d_R_sortOf_78 rfl rfl ?_
          refine J_bipush (v := nI 114) d_R_sortOf_79 rfl ?_
          refine J_bipush (v := nI 117) d_R_sortOf_81 rfl ?_
          refine J_bipush (v := nI 98) d_R_sortOf_83 rfl ?_
          refine CS_L (av := [.int (nI 114), .int (nI 117), .int (nI 98)]) d_R_sortOf_85 s_R_184 (S_R_w3 (nI 114) (nI 117) (nI 98)) (by decide) rfl rfl (Nat.le_of_ble_eq_true rfl) ?_
          refine CV_B (av := [.long (wE3 (nI 114) (nI 117) (nI 98))]) d_R_sortOf_88 s_R_251 (M_rcv rfl (by decide) rfl) (S_R_isWord (i := 4) hB hT (by decide) (by decide) (by decide +kernel)) (by omega) rfl rfl (Nat.le_of_ble_eq_true rfl) ?_
          refine B_if_eq (tgt := 96) d_R_sortOf_91 (by decide) (fun c91 => ?_) (fun c91 => ?_)
          · refine J_aload_n (i := 0) d_R_sortOf_96 rfl rfl ?_
            refine J_bipush (v := nI 114) d_R_sortOf_97 rfl ?_
            refine J_bipush (v := nI 101) d_R_sortOf_99 rfl ?_
            refine J_bipush (v := nI 110) d_R_sortOf_101 rfl ?_
            refine J_bipush (v := nI 101) d_R_sortOf_103 rfl ?_
            refine J_bipush (v := nI 119) d_R_sortOf_105 rfl ?_
            refine CS_L (av := [.int (nI 114), .int (nI 101), .int (nI 110), .int (nI 101), .int (nI 119)]) d_R_sortOf_107 s_R_192 (S_R_w5 (nI 114) (nI 101) (nI 110) (nI 101) (nI 119)) (by decide) rfl rfl (Nat.le_of_ble_eq_true rfl) ?_
            refine CV_B (av := [.long (wE5 (nI 114) (nI 101) (nI 110) (nI 101) (nI 119))]) d_R_sortOf_110 s_R_251 (M_rcv rfl (by decide) rfl) (S_R_isWord (i := 5) hB hT (by decide) (by decide) (by decide +kernel)) (by omega) rfl rfl (Nat.le_of_ble_eq_true rfl) ?_
            refine B_if_eq (tgt := 120) d_R_sortOf_113 (by decide) (fun c113 => ?_) (fun c113 => ?_)
            · refine J_aload_n (i := 0) d_R_sortOf_120 rfl rfl ?_
              refine J_bipush (v := nI 121) d_R_sortOf_121 rfl ?_
              refine J_bipush (v := nI 101) d_R_sortOf_123 rfl ?_
              refine J_bipush (v := nI 97) d_R_sortOf_125 rfl ?_
              refine J_bipush (v := nI 114) d_R_sortOf_127 rfl ?_
              refine CS_L (av := [.int (nI 121), .int (nI 101), .int (nI 97), .int (nI 114)]) d_R_sortOf_129 s_R_188 (S_R_w4 (nI 121) (nI 101) (nI 97) (nI 114)) (by decide) rfl rfl (Nat.le_of_ble_eq_true rfl) ?_
              refine CV_B (av := [.long (wE4 (nI 121) (nI 101) (nI 97) (nI 114))]) d_R_sortOf_132 s_R_251 (M_rcv rfl (by decide) rfl) (S_R_isWord (i := 6) hB hT (by decide) (by decide) (by decide +kernel)) (by omega) rfl rfl (Nat.le_of_ble_eq_true rfl) ?_
              refine B_if_eq (tgt := 143) d_R_sortOf_135 (by decide) (fun c135 => ?_) (fun c135 => ?_)
              · refine J_iconst (v := (-1)) d_R_sortOf_143 rfl ?_
                refine M_ir d_R_sortOf_144 rfl rfl ?_
                have x0 := of_decide_eq_false c17
                have x1 := of_decide_eq_false c35
                have x2 := of_decide_eq_false c55
                have x3 := of_decide_eq_false c73
                have x4 := of_decide_eq_false c91
                have x5 := of_decide_eq_false c113
                have x6 := of_decide_eq_false c135
                have e : (-1 : Int32) = soR (kT B q) := (if_neg (by omega)).symm
                exact ⟨congrArg (fun b => some (Value.int b)) e, rfl⟩
              · refine J_bipush (v := nI 6) d_R_sortOf_138 rfl ?_
                refine J_goto (tgt := 144) d_R_sortOf_140 (by decide) ?_
                refine M_ir d_R_sortOf_144 rfl rfl ?_
                have x0 := of_decide_eq_false c17
                have x1 := of_decide_eq_false c35
                have x2 := of_decide_eq_false c55
                have x3 := of_decide_eq_false c73
                have x4 := of_decide_eq_false c91
                have x5 := of_decide_eq_false c113
                have x6 := of_decide_eq_true c135
                have e : (nI 6 : Int32) = soR (kT B q) := by rw [x6]; rfl
                exact ⟨congrArg (fun b => some (Value.int b)) e, rfl⟩
            · refine J_iconst (v := nI 5) d_R_sortOf_116 rfl ?_
              refine J_goto (tgt := 144) d_R_sortOf_117 (by decide) ?_
              refine M_ir d_R_sortOf_144 rfl rfl ?_
              have x0 := of_decide_eq_false c17
              have x1 := of_decide_eq_false c35
              have x2 := of_decide_eq_false c55
              have x3 := of_decide_eq_false c73
              have x4 := of_decide_eq_false c91
              have x5 := of_decide_eq_true c113
              have e : (nI 5 : Int32) = soR (kT B q) := by rw [x5]; rfl
              exact ⟨congrArg (fun b => some (Value.int b)) e, rfl⟩
          · refine J_iconst (v := nI 4) d_R_sortOf_94 rfl ?_
            refine M_ir d_R_sortOf_95 rfl rfl ?_
            have x0 := of_decide_eq_false c17
            have x1 := of_decide_eq_false c35
            have x2 := of_decide_eq_false c55
            have x3 := of_decide_eq_false c73
            have x4 := of_decide_eq_true c91
            have e : (nI 4 : Int32) = soR (kT B q) := by rw [x4]; rfl
            exact ⟨congrArg (fun b => some (Value.int b)) e, rfl⟩
        · refine J_iconst (v := nI 3) d_R_sortOf_76 rfl ?_
          refine M_ir d_R_sortOf_77 rfl rfl ?_
          have x0 := of_decide_eq_false c17
          have x1 := of_decide_eq_false c35
          have x2 := of_decide_eq_false c55
          have x3 := of_decide_eq_true c73
          have e : (nI 3 : Int32) = soR (kT B q) := by rw [x3]; rfl
          exact ⟨congrArg (fun b => some (Value.int b)) e, rfl⟩
      · refine J_iconst (v := nI 2) d_R_sortOf_58 rfl ?_
        refine M_ir d_R_sortOf_59 rfl rfl ?_
        have x0 := of_decide_eq_false c17
        have x1 := of_decide_eq_false c35
        have x2 := of_decide_eq_true c55
        have e : (nI 2 : Int32) = soR (kT B q) := by rw [x2]; rfl
        exact ⟨congrArg (fun b => some (Value.int b)) e, rfl⟩
    · refine J_iconst (v := nI 1) d_R_sortOf_38 rfl ?_
      refine M_ir d_R_sortOf_39 rfl rfl ?_
      have x0 := of_decide_eq_false c17
      have x1 := of_decide_eq_true c35
      have e : (nI 1 : Int32) = soR (kT B q) := by rw [x1]; rfl
      exact ⟨congrArg (fun b => some (Value.int b)) e, rfl⟩
  · refine J_iconst (v := nI 0) d_R_sortOf_20 rfl ?_
    refine M_ir d_R_sortOf_21 rfl rfl ?_
    have x0 := of_decide_eq_true c17
    have e : (nI 0 : Int32) = soR (kT B q) := by rw [x0]; rfl
    exact ⟨congrArg (fun b => some (Value.int b)) e, rfl⟩

theorem S_R_compareOf {X : Mem} {B : Nat → Nat} {m q : Nat} (hX : Ok X) (hB : okB B m) (hV : RV X m B) (hT : RTq X B q) (hq : q ≤ m) : CM 0 m_R_compareOf [.ref 244] X (rI (cmR (kT B q)) X) := by
  have h300 := hB.1
  have ht := tR_sm (q := q) hB
  refine CM_of (L := [some (.ref 244)]) 0 ok_R_compareOf (fun _ => Nat.le_of_ble_eq_true rfl) rfl ?_
  refine J_aload_n (i := 0) d_R_compareOf_0 rfl rfl ?_
  refine M_get (x := (nI (tR B q))) d_R_compareOf_1 f_R_158 rfl rfl hT.2.2.1 ?_
  refine J_bipush (v := nI 60) d_R_compareOf_4 rfl ?_
  refine N_icmp_ne (tgt := 14) d_R_compareOf_6 (by decide) (by omega) (by omega) (fun c6 => ?_) (fun c6 => ?_)
  · refine J_aload_n (i := 0) d_R_compareOf_14 rfl rfl ?_
    refine M_get (x := (nI (tR B q))) d_R_compareOf_15 f_R_158 rfl rfl hT.2.2.1 ?_
    refine J_iconst (v := nI 4) d_R_compareOf_18 rfl ?_
    refine N_icmp_ne (tgt := 27) d_R_compareOf_19 (by decide) (by omega) (by omega) (fun c19 => ?_) (fun c19 => ?_)
    · refine J_aload_n (i := 0) d_R_compareOf_27 rfl rfl ?_
      refine M_get (x := (nI (tR B q))) d_R_compareOf_28 f_R_158 rfl rfl hT.2.2.1 ?_
      refine J_bipush (v := nI 62) d_R_compareOf_31 rfl ?_
      refine N_icmp_ne (tgt := 41) d_R_compareOf_33 (by decide) (by omega) (by omega) (fun c33 => ?_) (fun c33 => ?_)
      · refine J_aload_n (i := 0) d_R_compareOf_41 rfl rfl ?_
        refine M_get (x := (nI (tR B q))) d_R_compareOf_42 f_R_158 rfl rfl hT.2.2.1 ?_
        refine J_iconst (v := nI 5) d_R_compareOf_45 rfl ?_
        refine N_icmp_ne (tgt := 54) d_R_compareOf_46 (by decide) (by omega) (by omega) (fun c46 => ?_) (fun c46 => ?_)
        · refine J_aload_n (i := 0) d_R_compareOf_54 rfl rfl ?_
          refine M_get (x := (nI (tR B q))) d_R_compareOf_55 f_R_158 rfl rfl hT.2.2.1 ?_
          refine J_bipush (v := nI 61) d_R_compareOf_58 rfl ?_
          refine N_icmp_ne (tgt := 68) d_R_compareOf_60 (by decide) (by omega) (by omega) (fun c60 => ?_) (fun c60 => ?_)
          · refine J_aload_n (i := 0) d_R_compareOf_68 rfl rfl ?_
            refine M_get (x := (nI (tR B q))) d_R_compareOf_69 f_R_158 rfl rfl hT.2.2.1 ?_
            refine J_bipush (v := nI 35) d_R_compareOf_72 rfl ?_
            refine N_icmp_ne (tgt := 82) d_R_compareOf_74 (by decide) (by omega) (by omega) (fun c74 => ?_) (fun c74 => ?_)
            · refine J_iconst (v := (-1)) d_R_compareOf_82 rfl ?_
              refine M_ir d_R_compareOf_83 rfl rfl ?_
              have x0 := (sg_of (q := q) hB (p := (60, 32)) (by decide))
              have y0 : kT B q ≠ 32 := fun z => c6 (x0.mpr z)
              have x1 := (sg_of (q := q) hB (p := (4, 43)) (by decide))
              have y1 : kT B q ≠ 43 := fun z => c19 (x1.mpr z)
              have x2 := (sg_of (q := q) hB (p := (62, 33)) (by decide))
              have y2 : kT B q ≠ 33 := fun z => c33 (x2.mpr z)
              have x3 := (sg_of (q := q) hB (p := (5, 44)) (by decide))
              have y3 : kT B q ≠ 44 := fun z => c46 (x3.mpr z)
              have x4 := (sg_of (q := q) hB (p := (61, 34)) (by decide))
              have y4 : kT B q ≠ 34 := fun z => c60 (x4.mpr z)
              have x5 := (sg_of (q := q) hB (p := (35, 35)) (by decide))
              have y5 : kT B q ≠ 35 := fun z => c74 (x5.mpr z)
              have e : (-1 : Int32) = cmR (kT B q) := (if_neg (fun z => by simp only [cmpB, Bool.or_eq_true, Bool.and_eq_true, decide_eq_true_eq] at z; omega)).symm
              exact ⟨congrArg (fun b => some (Value.int b)) e, rfl⟩
            · refine J_bipush (v := nI 15) d_R_compareOf_77 rfl ?_
              refine J_goto (tgt := 83) d_R_compareOf_79 (by decide) ?_
              refine M_ir d_R_compareOf_83 rfl rfl ?_
              have x0 := (sg_of (q := q) hB (p := (60, 32)) (by decide))
              have y0 : kT B q ≠ 32 := fun z => c6 (x0.mpr z)
              have x1 := (sg_of (q := q) hB (p := (4, 43)) (by decide))
              have y1 : kT B q ≠ 43 := fun z => c19 (x1.mpr z)
              have x2 := (sg_of (q := q) hB (p := (62, 33)) (by decide))
              have y2 : kT B q ≠ 33 := fun z => c33 (x2.mpr z)
              have x3 := (sg_of (q := q) hB (p := (5, 44)) (by decide))
              have y3 : kT B q ≠ 44 := fun z => c46 (x3.mpr z)
              have x4 := (sg_of (q := q) hB (p := (61, 34)) (by decide))
              have y4 : kT B q ≠ 34 := fun z => c60 (x4.mpr z)
              have x5 := (sg_of (q := q) hB (p := (35, 35)) (by decide))
              have y5 : kT B q = 35 := x5.mp c74
              have e : (nI 15 : Int32) = cmR (kT B q) := by rw [y5]; rfl
              exact ⟨congrArg (fun b => some (Value.int b)) e, rfl⟩
          · refine J_bipush (v := nI 14) d_R_compareOf_63 rfl ?_
            refine J_goto (tgt := 83) d_R_compareOf_65 (by decide) ?_
            refine M_ir d_R_compareOf_83 rfl rfl ?_
            have x0 := (sg_of (q := q) hB (p := (60, 32)) (by decide))
            have y0 : kT B q ≠ 32 := fun z => c6 (x0.mpr z)
            have x1 := (sg_of (q := q) hB (p := (4, 43)) (by decide))
            have y1 : kT B q ≠ 43 := fun z => c19 (x1.mpr z)
            have x2 := (sg_of (q := q) hB (p := (62, 33)) (by decide))
            have y2 : kT B q ≠ 33 := fun z => c33 (x2.mpr z)
            have x3 := (sg_of (q := q) hB (p := (5, 44)) (by decide))
            have y3 : kT B q ≠ 44 := fun z => c46 (x3.mpr z)
            have x4 := (sg_of (q := q) hB (p := (61, 34)) (by decide))
            have y4 : kT B q = 34 := x4.mp c60
            have e : (nI 14 : Int32) = cmR (kT B q) := by rw [y4]; rfl
            exact ⟨congrArg (fun b => some (Value.int b)) e, rfl⟩
        · refine J_bipush (v := nI 13) d_R_compareOf_49 rfl ?_
          refine J_goto (tgt := 83) d_R_compareOf_51 (by decide) ?_
          refine M_ir d_R_compareOf_83 rfl rfl ?_
          have x0 := (sg_of (q := q) hB (p := (60, 32)) (by decide))
          have y0 : kT B q ≠ 32 := fun z => c6 (x0.mpr z)
          have x1 := (sg_of (q := q) hB (p := (4, 43)) (by decide))
          have y1 : kT B q ≠ 43 := fun z => c19 (x1.mpr z)
          have x2 := (sg_of (q := q) hB (p := (62, 33)) (by decide))
          have y2 : kT B q ≠ 33 := fun z => c33 (x2.mpr z)
          have x3 := (sg_of (q := q) hB (p := (5, 44)) (by decide))
          have y3 : kT B q = 44 := x3.mp c46
          have e : (nI 13 : Int32) = cmR (kT B q) := by rw [y3]; rfl
          exact ⟨congrArg (fun b => some (Value.int b)) e, rfl⟩
      · refine J_bipush (v := nI 12) d_R_compareOf_36 rfl ?_
        refine J_goto (tgt := 83) d_R_compareOf_38 (by decide) ?_
        refine M_ir d_R_compareOf_83 rfl rfl ?_
        have x0 := (sg_of (q := q) hB (p := (60, 32)) (by decide))
        have y0 : kT B q ≠ 32 := fun z => c6 (x0.mpr z)
        have x1 := (sg_of (q := q) hB (p := (4, 43)) (by decide))
        have y1 : kT B q ≠ 43 := fun z => c19 (x1.mpr z)
        have x2 := (sg_of (q := q) hB (p := (62, 33)) (by decide))
        have y2 : kT B q = 33 := x2.mp c33
        have e : (nI 12 : Int32) = cmR (kT B q) := by rw [y2]; rfl
        exact ⟨congrArg (fun b => some (Value.int b)) e, rfl⟩
    · refine J_bipush (v := nI 11) d_R_compareOf_22 rfl ?_
      refine J_goto (tgt := 83) d_R_compareOf_24 (by decide) ?_
      refine M_ir d_R_compareOf_83 rfl rfl ?_
      have x0 := (sg_of (q := q) hB (p := (60, 32)) (by decide))
      have y0 : kT B q ≠ 32 := fun z => c6 (x0.mpr z)
      have x1 := (sg_of (q := q) hB (p := (4, 43)) (by decide))
      have y1 : kT B q = 43 := x1.mp c19
      have e : (nI 11 : Int32) = cmR (kT B q) := by rw [y1]; rfl
      exact ⟨congrArg (fun b => some (Value.int b)) e, rfl⟩
  · refine J_bipush (v := nI 10) d_R_compareOf_9 rfl ?_
    refine J_goto (tgt := 83) d_R_compareOf_11 (by decide) ?_
    refine M_ir d_R_compareOf_83 rfl rfl ?_
    have x0 := (sg_of (q := q) hB (p := (60, 32)) (by decide))
    have y0 : kT B q = 32 := x0.mp c6
    have e : (nI 10 : Int32) = cmR (kT B q) := by rw [y0]; rfl
    exact ⟨congrArg (fun b => some (Value.int b)) e, rfl⟩

theorem S_R_isOf {X : Mem} {i so : Nat} (hi : i < 7) (hs : X.1 244 19 = nI so) (hso : so < 7) : CM 0 m_R_isOf [.ref 244, .int (nI i)] X (rB (decide (i < 5 ∨ (i = 5 ∧ so = 0) ∨ (i = 6 ∧ so = 1))) X) := by
  refine CM_of (L := [some (.ref 244), some (.int (nI i))]) 0 ok_R_isOf (fun _ => Nat.le_of_ble_eq_true rfl) rfl ?_
  refine J_iload_n (i := 1) d_R_isOf_0 rfl rfl ?_
  refine J_iconst (v := nI 5) d_R_isOf_1 rfl ?_
  refine N_icmp_lt (tgt := 28) d_R_isOf_2 (by decide) (by omega) (by omega) (fun c2 => ?_) (fun c2 => ?_)
  · refine J_iconst (v := nI 1) d_R_isOf_28 rfl ?_
    refine J_goto (tgt := 33) d_R_isOf_29 (by decide) ?_
    refine J.eq (st1 := [.int (b2i true)]) ?_ rfl rfl rfl
    refine M_ir d_R_isOf_33 rfl b2i_nar ?_
    exact ⟨congrArg (fun b => some (Value.int (b2i b))) (bt_of (by omega)).symm, rfl⟩
  · refine J_iload_n (i := 1) d_R_isOf_5 rfl rfl ?_
    refine J_iconst (v := nI 5) d_R_isOf_6 rfl ?_
    refine N_icmp_ne (tgt := 20) d_R_isOf_7 (by decide) (by omega) (by omega) (fun c7 => ?_) (fun c7 => ?_)
    · refine J_aload_n (i := 0) d_R_isOf_20 rfl rfl ?_
      refine M_get (x := (nI so)) d_R_isOf_21 f_R_210 rfl rfl hs ?_
      refine J_iconst (v := nI 1) d_R_isOf_24 rfl ?_
      refine N_icmp_ne (tgt := 32) d_R_isOf_25 (by decide) (by omega) (by omega) (fun c25 => ?_) (fun c25 => ?_)
      · refine J_iconst (v := nI 0) d_R_isOf_32 rfl ?_
        refine J.eq (st1 := [.int (b2i false)]) ?_ rfl rfl rfl
        refine M_ir d_R_isOf_33 rfl b2i_nar ?_
        exact ⟨congrArg (fun b => some (Value.int (b2i b))) (decide_eq_false (by omega)).symm, rfl⟩
      · refine J_iconst (v := nI 1) d_R_isOf_28 rfl ?_
        refine J_goto (tgt := 33) d_R_isOf_29 (by decide) ?_
        refine J.eq (st1 := [.int (b2i true)]) ?_ rfl rfl rfl
        refine M_ir d_R_isOf_33 rfl b2i_nar ?_
        exact ⟨congrArg (fun b => some (Value.int (b2i b))) (bt_of (by omega)).symm, rfl⟩
    · refine J_aload_n (i := 0) d_R_isOf_10 rfl rfl ?_
      refine M_get (x := (nI so)) d_R_isOf_11 f_R_210 rfl rfl hs ?_
      refine N_if_ne (tgt := 32) d_R_isOf_14 (by decide) (by omega) (fun c14 => ?_) (fun c14 => ?_)
      · refine J_iconst (v := nI 0) d_R_isOf_32 rfl ?_
        refine J.eq (st1 := [.int (b2i false)]) ?_ rfl rfl rfl
        refine M_ir d_R_isOf_33 rfl b2i_nar ?_
        exact ⟨congrArg (fun b => some (Value.int (b2i b))) (decide_eq_false (by omega)).symm, rfl⟩
      · refine J_goto (tgt := 28) d_R_isOf_17 (by decide) ?_
        refine J_iconst (v := nI 1) d_R_isOf_28 rfl ?_
        refine J_goto (tgt := 33) d_R_isOf_29 (by decide) ?_
        refine J.eq (st1 := [.int (b2i true)]) ?_ rfl rfl rfl
        refine M_ir d_R_isOf_33 rfl b2i_nar ?_
        exact ⟨congrArg (fun b => some (Value.int (b2i b))) (bt_of (by omega)).symm, rfl⟩

