def ptR (k a : Nat) (c : Bool) : Int32 := if pof k a c = 100 then -1 else nI (pof k a c)
theorem ptR_v {k a b : Nat} {c : Bool} (h : pof k a c = b) (hb : b ≠ 100) : ptR k a c = nI b := by
  unfold ptR
  rw [h, if_neg hb]
theorem ptR_0 {k a : Nat} {c : Bool} (h : pof k a c = 100) : ptR k a c = -1 := if_pos h
theorem pof_no {k a : Nat} {c : Bool} (h : a < 40 ∨ 43 < a) : pof k a c = 100 := by
  unfold pof
  rw [if_neg (by omega), if_neg (by omega), if_neg (by omega), if_neg (by omega)]
theorem S_R_partOf_40 {X : Mem} {B : Nat → Nat} {m q : Nat} (hX : Ok X) (hB : okB B m) (hV : RV X m B) (hT : RTq X B q) (hq : q ≤ m) {P : List Nat} (hP : PiR X P) (hl : P.length ≤ 100) : CM 3 m_R_partOf [.ref 244, .int (nI 40)] X (rI (ptR (kT B q) 40 (cpd P)) X) := by
  have h300 := hB.1
  have ht := tR_sm (q := q) hB
  refine CM_of (L := [some (.ref 244), some (.int (nI 40))]) 0 ok_R_partOf (fun _ => Nat.le_of_ble_eq_true rfl) rfl ?_
  refine J_iload_n (i := 1) d_R_partOf_0 rfl rfl ?_
  refine J_tableIn (off := 31) (tgt := 32) d_R_partOf_1 (by decide) (by decide) (by decide) (by decide) ?_
  refine J_aload_n (i := 0) d_R_partOf_32 rfl rfl ?_
  refine M_get (x := (nI (tR B q))) d_R_partOf_33 f_R_158 rfl rfl hT.2.2.1 ?_
  refine J_bipush (v := nI 41) d_R_partOf_36 rfl ?_
  refine N_icmp_ne (tgt := 45) d_R_partOf_38 (by decide) (by omega) (by omega) (fun c38 => ?_) (fun c38 => ?_)
  · refine J_iconst (v := (-1)) d_R_partOf_45 rfl ?_
    refine M_ir d_R_partOf_46 rfl rfl ?_
    have x : kT B q ≠ 41 := fun z => c38 ((sg_of (q := q) hB (p := (41, 41)) (by decide)).mpr z)
    have e : ptR (kT B q) 40 (cpd P) = -1 := ptR_0 ((if_pos rfl).trans (if_neg x))
    exact ⟨congrArg (fun b => some (Value.int b)) e.symm, rfl⟩
  · refine J_iconst (v := nI 0) d_R_partOf_41 rfl ?_
    refine J_goto (tgt := 46) d_R_partOf_42 (by decide) ?_
    refine M_ir d_R_partOf_46 rfl rfl ?_
    have x : kT B q = 41 := (sg_of (q := q) hB (p := (41, 41)) (by decide)).mp c38
    have e : ptR (kT B q) 40 (cpd P) = nI 0 := ptR_v (by rw [x]; rfl) (by decide)
    exact ⟨congrArg (fun b => some (Value.int b)) e.symm, rfl⟩

theorem S_R_partOf_41 {X : Mem} {B : Nat → Nat} {m q : Nat} (hX : Ok X) (hB : okB B m) (hV : RV X m B) (hT : RTq X B q) (hq : q ≤ m) {P : List Nat} (hP : PiR X P) (hl : P.length ≤ 100) : CM 3 m_R_partOf [.ref 244, .int (nI 41)] X (rI (ptR (kT B q) 41 (cpd P)) X) := by
  have h300 := hB.1
  have ht := tR_sm (q := q) hB
  refine CM_of (L := [some (.ref 244), some (.int (nI 41))]) 0 ok_R_partOf (fun _ => Nat.le_of_ble_eq_true rfl) rfl ?_
  refine J_iload_n (i := 1) d_R_partOf_0 rfl rfl ?_
  refine J_tableIn (off := 46) (tgt := 47) d_R_partOf_1 (by decide) (by decide) (by decide) (by decide) ?_
  refine J_aload_n (i := 0) d_R_partOf_47 rfl rfl ?_
  refine J_bipush (v := nI 116) d_R_partOf_48 rfl ?_
  refine J_bipush (v := nI 104) d_R_partOf_50 rfl ?_
  refine J_bipush (v := nI 101) d_R_partOf_52 rfl ?_
  refine J_bipush (v := nI 110) d_R_partOf_54 rfl ?_
  refine CS_L (av := [.int (nI 116), .int (nI 104), .int (nI 101), .int (nI 110)]) d_R_partOf_56 s_R_188 (S_R_w4 (nI 116) (nI 104) (nI 101) (nI 110)) (by decide) rfl rfl (Nat.le_of_ble_eq_true rfl) ?_
  refine CV_B (av := [.long (wE4 (nI 116) (nI 104) (nI 101) (nI 110))]) d_R_partOf_59 s_R_251 (M_rcv rfl (by decide) rfl) (S_R_isWord (i := 20) hB hT (by decide) (by decide) (by decide +kernel)) (by omega) rfl rfl (Nat.le_of_ble_eq_true rfl) ?_
  refine B_if_eq (tgt := 77) d_R_partOf_62 (by decide) (fun c62 => ?_) (fun c62 => ?_)
  · refine J_iconst (v := (-1)) d_R_partOf_77 rfl ?_
    refine M_ir d_R_partOf_78 rfl rfl ?_
    have x := of_decide_eq_false c62
    have e : ptR (kT B q) 41 (cpd P) = -1 := ptR_0 (by unfold pof; rw [if_neg (by decide), if_pos rfl, if_neg (fun z => x z.1)])
    exact ⟨congrArg (fun b => some (Value.int b)) e.symm, rfl⟩
  · refine J_aload_n (i := 0) d_R_partOf_65 rfl rfl ?_
    refine CV_B (av := []) d_R_partOf_66 s_R_258 (M_rcv rfl (by decide) rfl) (S_R_isCompared hX hP hl) (by decide) rfl rfl (Nat.le_of_ble_eq_true rfl) ?_
    refine B_if_eq (tgt := 77) d_R_partOf_69 (by decide) (fun c69 => ?_) (fun c69 => ?_)
    · refine J_iconst (v := (-1)) d_R_partOf_77 rfl ?_
      refine M_ir d_R_partOf_78 rfl rfl ?_
      have e : ptR (kT B q) 41 (cpd P) = -1 := ptR_0 (by rw [c69]; exact pof_1)
      exact ⟨congrArg (fun b => some (Value.int b)) e.symm, rfl⟩
    · refine J_bipush (v := nI 42) d_R_partOf_72 rfl ?_
      refine J_goto (tgt := 78) d_R_partOf_74 (by decide) ?_
      refine M_ir d_R_partOf_78 rfl rfl ?_
      have x := of_decide_eq_true c62
      have e : ptR (kT B q) 41 (cpd P) = nI 42 := ptR_v (by rw [c69]; exact (pof_t (Or.inl ⟨rfl, rfl, rfl⟩)).1 x) (by decide)
      exact ⟨congrArg (fun b => some (Value.int b)) e.symm, rfl⟩

theorem S_R_partOf_42 {X : Mem} {B : Nat → Nat} {m q : Nat} (hX : Ok X) (hB : okB B m) (hV : RV X m B) (hT : RTq X B q) (hq : q ≤ m) {P : List Nat} (hP : PiR X P) (hl : P.length ≤ 100) : CM 3 m_R_partOf [.ref 244, .int (nI 42)] X (rI (ptR (kT B q) 42 (cpd P)) X) := by
  have h300 := hB.1
  have ht := tR_sm (q := q) hB
  refine CM_of (L := [some (.ref 244), some (.int (nI 42))]) 0 ok_R_partOf (fun _ => Nat.le_of_ble_eq_true rfl) rfl ?_
  refine J_iload_n (i := 1) d_R_partOf_0 rfl rfl ?_
  refine J_tableIn (off := 78) (tgt := 79) d_R_partOf_1 (by decide) (by decide) (by decide) (by decide) ?_
  refine J_aload_n (i := 0) d_R_partOf_79 rfl rfl ?_
  refine J_bipush (v := nI 101) d_R_partOf_80 rfl ?_
  refine J_bipush (v := nI 108) d_R_partOf_82 rfl ?_
  refine J_bipush (v := nI 115) d_R_partOf_84 rfl ?_
  refine J_bipush (v := nI 101) d_R_partOf_86 rfl ?_
  refine CS_L (av := [.int (nI 101), .int (nI 108), .int (nI 115), .int (nI 101)]) d_R_partOf_88 s_R_188 (S_R_w4 (nI 101) (nI 108) (nI 115) (nI 101)) (by decide) rfl rfl (Nat.le_of_ble_eq_true rfl) ?_
  refine CV_B (av := [.long (wE4 (nI 101) (nI 108) (nI 115) (nI 101))]) d_R_partOf_91 s_R_251 (M_rcv rfl (by decide) rfl) (S_R_isWord (i := 21) hB hT (by decide) (by decide) (by decide +kernel)) (by omega) rfl rfl (Nat.le_of_ble_eq_true rfl) ?_
  refine B_if_eq (tgt := 102) d_R_partOf_94 (by decide) (fun c94 => ?_) (fun c94 => ?_)
  · refine J_iconst (v := (-1)) d_R_partOf_102 rfl ?_
    refine M_ir d_R_partOf_103 rfl rfl ?_
    have x := of_decide_eq_false c94
    have e : ptR (kT B q) 42 (cpd P) = -1 := ptR_0 (by rw [pof_x (by decide)]; exact (pof_t (Or.inr (Or.inl ⟨rfl, rfl, rfl⟩))).2 x)
    exact ⟨congrArg (fun b => some (Value.int b)) e.symm, rfl⟩
  · refine J_bipush (v := nI 43) d_R_partOf_97 rfl ?_
    refine J_goto (tgt := 103) d_R_partOf_99 (by decide) ?_
    refine M_ir d_R_partOf_103 rfl rfl ?_
    have x := of_decide_eq_true c94
    have e : ptR (kT B q) 42 (cpd P) = nI 43 := ptR_v (by rw [pof_x (by decide)]; exact (pof_t (Or.inr (Or.inl ⟨rfl, rfl, rfl⟩))).1 x) (by decide)
    exact ⟨congrArg (fun b => some (Value.int b)) e.symm, rfl⟩

theorem S_R_partOf_43 {X : Mem} {B : Nat → Nat} {m q : Nat} (hX : Ok X) (hB : okB B m) (hV : RV X m B) (hT : RTq X B q) (hq : q ≤ m) {P : List Nat} (hP : PiR X P) (hl : P.length ≤ 100) : CM 3 m_R_partOf [.ref 244, .int (nI 43)] X (rI (ptR (kT B q) 43 (cpd P)) X) := by
  have h300 := hB.1
  have ht := tR_sm (q := q) hB
  refine CM_of (L := [some (.ref 244), some (.int (nI 43))]) 0 ok_R_partOf (fun _ => Nat.le_of_ble_eq_true rfl) rfl ?_
  refine J_iload_n (i := 1) d_R_partOf_0 rfl rfl ?_
  refine J_tableIn (off := 103) (tgt := 104) d_R_partOf_1 (by decide) (by decide) (by decide) (by decide) ?_
  refine J_aload_n (i := 0) d_R_partOf_104 rfl rfl ?_
  refine J_bipush (v := nI 101) d_R_partOf_105 rfl ?_
  refine J_bipush (v := nI 110) d_R_partOf_107 rfl ?_
  refine J_bipush (v := nI 100) d_R_partOf_109 rfl ?_
  refine CS_L (av := [.int (nI 101), .int (nI 110), .int (nI 100)]) d_R_partOf_111 s_R_184 (S_R_w3 (nI 101) (nI 110) (nI 100)) (by decide) rfl rfl (Nat.le_of_ble_eq_true rfl) ?_
  refine CV_B (av := [.long (wE3 (nI 101) (nI 110) (nI 100))]) d_R_partOf_114 s_R_251 (M_rcv rfl (by decide) rfl) (S_R_isWord (i := 22) hB hT (by decide) (by decide) (by decide +kernel)) (by omega) rfl rfl (Nat.le_of_ble_eq_true rfl) ?_
  refine B_if_eq (tgt := 124) d_R_partOf_117 (by decide) (fun c117 => ?_) (fun c117 => ?_)
  · refine J_iconst (v := (-1)) d_R_partOf_124 rfl ?_
    refine M_ir d_R_partOf_125 rfl rfl ?_
    have x := of_decide_eq_false c117
    have e : ptR (kT B q) 43 (cpd P) = -1 := ptR_0 (by rw [pof_x (by decide)]; exact (pof_t (Or.inr (Or.inr ⟨rfl, rfl, rfl⟩))).2 x)
    exact ⟨congrArg (fun b => some (Value.int b)) e.symm, rfl⟩
  · refine J_iconst (v := nI 0) d_R_partOf_120 rfl ?_
    refine J_goto (tgt := 125) d_R_partOf_121 (by decide) ?_
    refine M_ir d_R_partOf_125 rfl rfl ?_
    have x := of_decide_eq_true c117
    have e : ptR (kT B q) 43 (cpd P) = nI 0 := ptR_v (by rw [pof_x (by decide)]; exact (pof_t (Or.inr (Or.inr ⟨rfl, rfl, rfl⟩))).1 x) (by decide)
    exact ⟨congrArg (fun b => some (Value.int b)) e.symm, rfl⟩

theorem S_R_partOf_o {X : Mem} {x : Int32} (hx : x.toInt < 40 ∨ 43 < x.toInt) : CM 3 m_R_partOf [.ref 244, .int x] X (rI (-1) X) := by
  refine CM_of (L := [some (.ref 244), some (.int x)]) 0 ok_R_partOf (fun _ => Nat.le_of_ble_eq_true rfl) rfl ?_
  refine J_iload_n (i := 1) d_R_partOf_0 rfl rfl ?_
  refine J_tableOut (tgt := 126) d_R_partOf_1 hx (by decide) ?_
  refine J_iconst (v := (-1)) d_R_partOf_126 rfl ?_
  refine M_ir d_R_partOf_127 rfl rfl ?_
  exact ⟨rfl, rfl⟩

theorem S_R_partOf {X : Mem} {B : Nat → Nat} {m q : Nat} (hX : Ok X) (hB : okB B m) (hV : RV X m B) (hT : RTq X B q) (hq : q ≤ m) {P : List Nat} (hP : PiR X P) (hl : P.length ≤ 100) : CM 3 m_R_partOf [.ref 244, .int (opR P)] X (rI (ptR (kT B q) (opn P) (cpd P)) X) := by
  rcases opA_opn hP.2 hl with ⟨e1, e2⟩ | ⟨e1, e3, k, e2, hk, hc⟩
  · rw [show opR P = -1 from if_pos e1, e1, ptR_0 (pof_no (Or.inl (by decide)))]
    exact S_R_partOf_o (by decide)
  · rw [show opR P = nI (opn P) from if_neg (by omega)]
    by_cases h : 43 < opn P
    · rw [ptR_0 (pof_no (Or.inr h))]
      exact S_R_partOf_o (Or.inr (by rw [nI_int (by omega)]; omega))
    · have hc : opn P = 40 ∨ opn P = 41 ∨ opn P = 42 ∨ opn P = 43 := by omega
      rcases hc with h | h | h | h <;> rw [h]
      · exact S_R_partOf_40 hX hB hV hT hq hP hl
      · exact S_R_partOf_41 hX hB hV hT hq hP hl
      · exact S_R_partOf_42 hX hB hV hT hq hP hl
      · exact S_R_partOf_43 hX hB hV hT hq hP hl
