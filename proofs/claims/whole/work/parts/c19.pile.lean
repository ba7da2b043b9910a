def btR (k : Nat) (P : List Nat) : Int32 := if btw k P = 0 then -1 else nI (btw k P)
theorem btR_v {k b : Nat} {P : List Nat} (h : btw k P = b) (hb : b ≠ 0) : btR k P = nI b := by
  unfold btR
  rw [h, if_neg hb]
theorem btR_0 {k : Nat} {P : List Nat} (h : btw k P = 0) : btR k P = -1 := if_pos h
theorem S_R_betweenOf_0 {X : Mem} {B : Nat → Nat} {m q : Nat} (hX : Ok X) (hB : okB B m) (hV : RV X m B) (hT : RTq X B q) (hq : q ≤ m) {P : List Nat} (hP : PiR X P) (hl : P.length ≤ 100) (h41 : opn P ≠ 41) : CM 2 m_R_betweenOf [.ref 244] X (rI (btR (kT B q) P) X) := by
  have h300 := hB.1
  have ht := tR_sm (q := q) hB
  have ho := opR_41 hP.2 hl h41
  refine CM_of (L := [some (.ref 244)]) 0 ok_R_betweenOf (fun _ => Nat.le_of_ble_eq_true rfl) rfl ?_
  refine J_aload_n (i := 0) d_R_betweenOf_0 rfl rfl ?_
  refine M_get (x := (nI (tR B q))) d_R_betweenOf_1 f_R_158 rfl rfl hT.2.2.1 ?_
  refine J_bipush (v := nI 43) d_R_betweenOf_4 rfl ?_
  refine N_icmp_ne (tgt := 12) d_R_betweenOf_6 (by decide) (by omega) (by omega) (fun c6 => ?_) (fun c6 => ?_)
  · refine J_aload_n (i := 0) d_R_betweenOf_12 rfl rfl ?_
    refine M_get (x := (nI (tR B q))) d_R_betweenOf_13 f_R_158 rfl rfl hT.2.2.1 ?_
    refine J_bipush (v := nI 45) d_R_betweenOf_16 rfl ?_
    refine N_icmp_ne (tgt := 24) d_R_betweenOf_18 (by decide) (by omega) (by omega) (fun c18 => ?_) (fun c18 => ?_)
    · refine J_aload_n (i := 0) d_R_betweenOf_24 rfl rfl ?_
      refine M_get (x := (nI (tR B q))) d_R_betweenOf_25 f_R_158 rfl rfl hT.2.2.1 ?_
      refine J_bipush (v := nI 42) d_R_betweenOf_28 rfl ?_
      refine N_icmp_ne (tgt := 36) d_R_betweenOf_30 (by decide) (by omega) (by omega) (fun c30 => ?_) (fun c30 => ?_)
      · refine J_aload_n (i := 0) d_R_betweenOf_36 rfl rfl ?_
        refine M_get (x := (nI (tR B q))) d_R_betweenOf_37 f_R_158 rfl rfl hT.2.2.1 ?_
        refine J_bipush (v := nI 47) d_R_betweenOf_40 rfl ?_
        refine N_icmp_ne (tgt := 48) d_R_betweenOf_42 (by decide) (by omega) (by omega) (fun c42 => ?_) (fun c42 => ?_)
        · refine J_aload_n (i := 0) d_R_betweenOf_48 rfl rfl ?_
          refine CV_I (av := []) d_R_betweenOf_49 s_R_230 (M_rcv rfl (by decide) rfl) (S_R_openNow hX hP hl) (by decide) rfl rfl (Nat.le_of_ble_eq_true rfl) ?_
          refine J_bipush (v := nI 41) d_R_betweenOf_52 rfl ?_
          refine J_icmp_eq (tgt := 59) d_R_betweenOf_54 (by decide) (fun c54 => absurd c54 ho) (fun c54 => ?_)
          refine J_iconst (v := (-1)) d_R_betweenOf_57 rfl ?_
          refine M_ir d_R_betweenOf_58 rfl rfl ?_
          have n0 : kT B q ≠ 36 := fun z => c6 ((sg_of (q := q) hB (p := (43, 36)) (by decide)).mpr z)
          have n1 : kT B q ≠ 37 := fun z => c18 ((sg_of (q := q) hB (p := (45, 37)) (by decide)).mpr z)
          have n2 : kT B q ≠ 38 := fun z => c30 ((sg_of (q := q) hB (p := (42, 38)) (by decide)).mpr z)
          have n3 : kT B q ≠ 39 := fun z => c42 ((sg_of (q := q) hB (p := (47, 39)) (by decide)).mpr z)
          have nn : kT B q ≠ 36 ∧ kT B q ≠ 37 ∧ kT B q ≠ 38 ∧ kT B q ≠ 39 := ⟨n0, n1, n2, n3⟩
          have e : btR (kT B q) P = -1 := btR_0 (btw_n nn h41)
          exact ⟨congrArg (fun b => some (Value.int b)) e.symm, rfl⟩
        · refine J_bipush (v := nI 9) d_R_betweenOf_45 rfl ?_
          refine M_ir d_R_betweenOf_47 rfl rfl ?_
          have x : kT B q = 39 := (sg_of (q := q) hB (p := (47, 39)) (by decide)).mp c42
          have e : btR (kT B q) P = nI 9 := btR_v (by rw [x]; rfl) (by decide)
          exact ⟨congrArg (fun b => some (Value.int b)) e.symm, rfl⟩
      · refine J_bipush (v := nI 8) d_R_betweenOf_33 rfl ?_
        refine M_ir d_R_betweenOf_35 rfl rfl ?_
        have x : kT B q = 38 := (sg_of (q := q) hB (p := (42, 38)) (by decide)).mp c30
        have e : btR (kT B q) P = nI 8 := btR_v (by rw [x]; rfl) (by decide)
        exact ⟨congrArg (fun b => some (Value.int b)) e.symm, rfl⟩
    · refine J_bipush (v := nI 7) d_R_betweenOf_21 rfl ?_
      refine M_ir d_R_betweenOf_23 rfl rfl ?_
      have x : kT B q = 37 := (sg_of (q := q) hB (p := (45, 37)) (by decide)).mp c18
      have e : btR (kT B q) P = nI 7 := btR_v (by rw [x]; rfl) (by decide)
      exact ⟨congrArg (fun b => some (Value.int b)) e.symm, rfl⟩
  · refine J_bipush (v := nI 6) d_R_betweenOf_9 rfl ?_
    refine M_ir d_R_betweenOf_11 rfl rfl ?_
    have x : kT B q = 36 := (sg_of (q := q) hB (p := (43, 36)) (by decide)).mp c6
    have e : btR (kT B q) P = nI 6 := btR_v (by rw [x]; rfl) (by decide)
    exact ⟨congrArg (fun b => some (Value.int b)) e.symm, rfl⟩

theorem S_R_betweenOf_1 {X : Mem} {B : Nat → Nat} {m q : Nat} (hX : Ok X) (hB : okB B m) (hV : RV X m B) (hT : RTq X B q) (hq : q ≤ m) {P : List Nat} (hP : PiR X P) (hl : P.length ≤ 100) (h41 : opn P = 41) : CM 2 m_R_betweenOf [.ref 244] X (rI (btR (kT B q) P) X) := by
  have h300 := hB.1
  have ht := tR_sm (q := q) hB
  refine CM_of (L := [some (.ref 244)]) 0 ok_R_betweenOf (fun _ => Nat.le_of_ble_eq_true rfl) rfl ?_
  refine J_aload_n (i := 0) d_R_betweenOf_0 rfl rfl ?_
  refine M_get (x := (nI (tR B q))) d_R_betweenOf_1 f_R_158 rfl rfl hT.2.2.1 ?_
  refine J_bipush (v := nI 43) d_R_betweenOf_4 rfl ?_
  refine N_icmp_ne (tgt := 12) d_R_betweenOf_6 (by decide) (by omega) (by omega) (fun c6 => ?_) (fun c6 => ?_)
  · refine J_aload_n (i := 0) d_R_betweenOf_12 rfl rfl ?_
    refine M_get (x := (nI (tR B q))) d_R_betweenOf_13 f_R_158 rfl rfl hT.2.2.1 ?_
    refine J_bipush (v := nI 45) d_R_betweenOf_16 rfl ?_
    refine N_icmp_ne (tgt := 24) d_R_betweenOf_18 (by decide) (by omega) (by omega) (fun c18 => ?_) (fun c18 => ?_)
    · refine J_aload_n (i := 0) d_R_betweenOf_24 rfl rfl ?_
      refine M_get (x := (nI (tR B q))) d_R_betweenOf_25 f_R_158 rfl rfl hT.2.2.1 ?_
      refine J_bipush (v := nI 42) d_R_betweenOf_28 rfl ?_
      refine N_icmp_ne (tgt := 36) d_R_betweenOf_30 (by decide) (by omega) (by omega) (fun c30 => ?_) (fun c30 => ?_)
      · refine J_aload_n (i := 0) d_R_betweenOf_36 rfl rfl ?_
        refine M_get (x := (nI (tR B q))) d_R_betweenOf_37 f_R_158 rfl rfl hT.2.2.1 ?_
        refine J_bipush (v := nI 47) d_R_betweenOf_40 rfl ?_
        refine N_icmp_ne (tgt := 48) d_R_betweenOf_42 (by decide) (by omega) (by omega) (fun c42 => ?_) (fun c42 => ?_)
        · refine J_aload_n (i := 0) d_R_betweenOf_48 rfl rfl ?_
          refine CV_I (av := []) d_R_betweenOf_49 s_R_230 (M_rcv rfl (by decide) rfl) (S_R_openNow hX hP hl) (by decide) rfl rfl (Nat.le_of_ble_eq_true rfl) ?_
          rw [show opR P = nI 41 by unfold opR; rw [h41]; rfl]
          refine J_bipush (v := nI 41) d_R_betweenOf_52 rfl ?_
          refine N_icmp_eq (tgt := 59) d_R_betweenOf_54 (by decide) (by omega) (by omega) (fun c54 => ?_) (fun c54 => absurd c54 (by decide))
          refine J_aload_n (i := 0) d_R_betweenOf_59 rfl rfl ?_
          refine CV_B (av := []) d_R_betweenOf_60 s_R_258 (M_rcv rfl (by decide) rfl) (S_R_isCompared hX hP hl) (by decide) rfl rfl (Nat.le_of_ble_eq_true rfl) ?_
          refine B_if_ne (tgt := 71) d_R_betweenOf_63 (by decide) (fun c63 => ?_) (fun c63 => ?_)
          · refine J_aload_n (i := 0) d_R_betweenOf_71 rfl rfl ?_
            refine J_bipush (v := nI 97) d_R_betweenOf_72 rfl ?_
            refine J_bipush (v := nI 110) d_R_betweenOf_74 rfl ?_
            refine J_bipush (v := nI 100) d_R_betweenOf_76 rfl ?_
            refine CS_L (av := [.int (nI 97), .int (nI 110), .int (nI 100)]) d_R_betweenOf_78 s_R_184 (S_R_w3 (nI 97) (nI 110) (nI 100)) (by decide) rfl rfl (Nat.le_of_ble_eq_true rfl) ?_
            refine CV_B (av := [.long (wE3 (nI 97) (nI 110) (nI 100))]) d_R_betweenOf_81 s_R_251 (M_rcv rfl (by decide) rfl) (S_R_isWord (i := 24) hB hT (by decide) (by decide) (by decide +kernel)) (by omega) rfl rfl (Nat.le_of_ble_eq_true rfl) ?_
            refine B_if_eq (tgt := 92) d_R_betweenOf_84 (by decide) (fun c84 => ?_) (fun c84 => ?_)
            · refine J_aload_n (i := 0) d_R_betweenOf_92 rfl rfl ?_
              refine J_bipush (v := nI 111) d_R_betweenOf_93 rfl ?_
              refine J_bipush (v := nI 114) d_R_betweenOf_95 rfl ?_
              refine CS_L (av := [.int (nI 111), .int (nI 114)]) d_R_betweenOf_97 s_R_180 (S_R_w2 (nI 111) (nI 114)) (by decide) rfl rfl (Nat.le_of_ble_eq_true rfl) ?_
              refine CV_B (av := [.long (wE2 (nI 111) (nI 114))]) d_R_betweenOf_100 s_R_251 (M_rcv rfl (by decide) rfl) (S_R_isWord (i := 23) hB hT (by decide) (by decide) (by decide +kernel)) (by omega) rfl rfl (Nat.le_of_ble_eq_true rfl) ?_
              refine B_if_eq (tgt := 111) d_R_betweenOf_103 (by decide) (fun c103 => ?_) (fun c103 => ?_)
              · refine J_iconst (v := (-1)) d_R_betweenOf_111 rfl ?_
                refine M_ir d_R_betweenOf_112 rfl rfl ?_
                have n0 : kT B q ≠ 36 := fun z => c6 ((sg_of (q := q) hB (p := (43, 36)) (by decide)).mpr z)
                have n1 : kT B q ≠ 37 := fun z => c18 ((sg_of (q := q) hB (p := (45, 37)) (by decide)).mpr z)
                have n2 : kT B q ≠ 38 := fun z => c30 ((sg_of (q := q) hB (p := (42, 38)) (by decide)).mpr z)
                have n3 : kT B q ≠ 39 := fun z => c42 ((sg_of (q := q) hB (p := (47, 39)) (by decide)).mpr z)
                have nn : kT B q ≠ 36 ∧ kT B q ≠ 37 ∧ kT B q ≠ 38 ∧ kT B q ≠ 39 := ⟨n0, n1, n2, n3⟩
                have hb := btw_c nn h41
                rw [c63, if_pos rfl] at hb
                have y := of_decide_eq_false c84
                have x := of_decide_eq_false c103
                rw [if_neg y, if_neg x] at hb
                have e : btR (kT B q) P = -1 := btR_0 hb
                exact ⟨congrArg (fun b => some (Value.int b)) e.symm, rfl⟩
              · refine J_bipush (v := nI 22) d_R_betweenOf_106 rfl ?_
                refine J_goto (tgt := 112) d_R_betweenOf_108 (by decide) ?_
                refine M_ir d_R_betweenOf_112 rfl rfl ?_
                have n0 : kT B q ≠ 36 := fun z => c6 ((sg_of (q := q) hB (p := (43, 36)) (by decide)).mpr z)
                have n1 : kT B q ≠ 37 := fun z => c18 ((sg_of (q := q) hB (p := (45, 37)) (by decide)).mpr z)
                have n2 : kT B q ≠ 38 := fun z => c30 ((sg_of (q := q) hB (p := (42, 38)) (by decide)).mpr z)
                have n3 : kT B q ≠ 39 := fun z => c42 ((sg_of (q := q) hB (p := (47, 39)) (by decide)).mpr z)
                have nn : kT B q ≠ 36 ∧ kT B q ≠ 37 ∧ kT B q ≠ 38 ∧ kT B q ≠ 39 := ⟨n0, n1, n2, n3⟩
                have hb := btw_c nn h41
                rw [c63, if_pos rfl] at hb
                have y := of_decide_eq_false c84
                have x := of_decide_eq_true c103
                rw [if_neg y, if_pos x] at hb
                have e : btR (kT B q) P = nI 22 := btR_v hb (by decide)
                exact ⟨congrArg (fun b => some (Value.int b)) e.symm, rfl⟩
            · refine J_bipush (v := nI 21) d_R_betweenOf_87 rfl ?_
              refine J_goto (tgt := 112) d_R_betweenOf_89 (by decide) ?_
              refine M_ir d_R_betweenOf_112 rfl rfl ?_
              have n0 : kT B q ≠ 36 := fun z => c6 ((sg_of (q := q) hB (p := (43, 36)) (by decide)).mpr z)
              have n1 : kT B q ≠ 37 := fun z => c18 ((sg_of (q := q) hB (p := (45, 37)) (by decide)).mpr z)
              have n2 : kT B q ≠ 38 := fun z => c30 ((sg_of (q := q) hB (p := (42, 38)) (by decide)).mpr z)
              have n3 : kT B q ≠ 39 := fun z => c42 ((sg_of (q := q) hB (p := (47, 39)) (by decide)).mpr z)
              have nn : kT B q ≠ 36 ∧ kT B q ≠ 37 ∧ kT B q ≠ 38 ∧ kT B q ≠ 39 := ⟨n0, n1, n2, n3⟩
              have hb := btw_c nn h41
              rw [c63, if_pos rfl] at hb
              have x := of_decide_eq_true c84
              rw [if_pos x] at hb
              have e : btR (kT B q) P = nI 21 := btR_v hb (by decide)
              exact ⟨congrArg (fun b => some (Value.int b)) e.symm, rfl⟩
          · refine J_aload_n (i := 0) d_R_betweenOf_66 rfl rfl ?_
            refine CV_I (av := []) d_R_betweenOf_67 s_R_261 (M_rcv rfl (by decide) rfl) (S_R_compareOf hX hB hV hT hq) (by decide) rfl rfl (Nat.le_of_ble_eq_true rfl) ?_
            refine M_ir d_R_betweenOf_70 rfl rfl ?_
            have n0 : kT B q ≠ 36 := fun z => c6 ((sg_of (q := q) hB (p := (43, 36)) (by decide)).mpr z)
            have n1 : kT B q ≠ 37 := fun z => c18 ((sg_of (q := q) hB (p := (45, 37)) (by decide)).mpr z)
            have n2 : kT B q ≠ 38 := fun z => c30 ((sg_of (q := q) hB (p := (42, 38)) (by decide)).mpr z)
            have n3 : kT B q ≠ 39 := fun z => c42 ((sg_of (q := q) hB (p := (47, 39)) (by decide)).mpr z)
            have nn : kT B q ≠ 36 ∧ kT B q ≠ 37 ∧ kT B q ≠ 38 ∧ kT B q ≠ 39 := ⟨n0, n1, n2, n3⟩
            have e : btR (kT B q) P = cmR (kT B q) := by
              have hb := btw_c nn h41
              rw [c63, if_neg (by decide)] at hb
              unfold cmR
              by_cases hk : cmpB (kT B q) = true
              · rw [if_pos hk] at hb
                rw [if_pos hk, btR_v hb (cmp_f hk).1]
              · rw [if_neg hk] at hb
                rw [if_neg hk, btR_0 hb]
            exact ⟨congrArg (fun b => some (Value.int b)) e.symm, rfl⟩
        · refine J_bipush (v := nI 9) d_R_betweenOf_45 rfl ?_
          refine M_ir d_R_betweenOf_47 rfl rfl ?_
          have x : kT B q = 39 := (sg_of (q := q) hB (p := (47, 39)) (by decide)).mp c42
          have e : btR (kT B q) P = nI 9 := btR_v (by rw [x]; rfl) (by decide)
          exact ⟨congrArg (fun b => some (Value.int b)) e.symm, rfl⟩
      · refine J_bipush (v := nI 8) d_R_betweenOf_33 rfl ?_
        refine M_ir d_R_betweenOf_35 rfl rfl ?_
        have x : kT B q = 38 := (sg_of (q := q) hB (p := (42, 38)) (by decide)).mp c30
        have e : btR (kT B q) P = nI 8 := btR_v (by rw [x]; rfl) (by decide)
        exact ⟨congrArg (fun b => some (Value.int b)) e.symm, rfl⟩
    · refine J_bipush (v := nI 7) d_R_betweenOf_21 rfl ?_
      refine M_ir d_R_betweenOf_23 rfl rfl ?_
      have x : kT B q = 37 := (sg_of (q := q) hB (p := (45, 37)) (by decide)).mp c18
      have e : btR (kT B q) P = nI 7 := btR_v (by rw [x]; rfl) (by decide)
      exact ⟨congrArg (fun b => some (Value.int b)) e.symm, rfl⟩
  · refine J_bipush (v := nI 6) d_R_betweenOf_9 rfl ?_
    refine M_ir d_R_betweenOf_11 rfl rfl ?_
    have x : kT B q = 36 := (sg_of (q := q) hB (p := (43, 36)) (by decide)).mp c6
    have e : btR (kT B q) P = nI 6 := btR_v (by rw [x]; rfl) (by decide)
    exact ⟨congrArg (fun b => some (Value.int b)) e.symm, rfl⟩

theorem S_R_betweenOf {X : Mem} {B : Nat → Nat} {m q : Nat} (hX : Ok X) (hB : okB B m) (hV : RV X m B) (hT : RTq X B q) (hq : q ≤ m) {P : List Nat} (hP : PiR X P) (hl : P.length ≤ 100) : CM 2 m_R_betweenOf [.ref 244] X (rI (btR (kT B q) P) X) := by
  by_cases h41 : opn P = 41
  · exact S_R_betweenOf_1 hX hB hV hT hq hP hl h41
  · exact S_R_betweenOf_0 hX hB hV hT hq hP hl h41
