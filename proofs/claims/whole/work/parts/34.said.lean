def CSd (X : Mem) (c : Nat) : Prop := c ≤ 8 ∧ X.1 18 7 = nI c
def RSd (X : Mem) (c : Nat) : Prop := c ≤ 8 ∧ (X.2.1 245).getD 5 0 = nI c
def sdB (m c : Nat) (i k t : Int32) : Bool := mkB m i && inR k 19 && inR t 10 && decide (c < 8)
def saidF (m c : Nat) (i k t : Int32) : Int32 := if i = -1 then 0 else if sdB m c i k t then nI (c + 1) else (-2)
def saidX (m c : Nat) (i k t : Int32) (X : Mem) : Mem := if i = -1 then pF X 18 7 (nI 0) else if sdB m c i k t then pF (pA (pA (pA X 115 ((X.2.1 115).set c i)) 116 ((X.2.1 116).set c k)) 117 ((X.2.1 117).set c t)) 18 7 (nI (c + 1)) else X
theorem S_O_said {X : Mem} {m : Nat} {st rg : Nat → Nat} (hX : Ok X) (hS : CSt X m st rg) {c : Nat} (hD : CSd X c) {i k t : Int32} : CM 2 m_O_said [.ref 8, .int i, .int k, .int t] X (rI (saidF m c i k t) (saidX m c i k t X)) := by
  have hc8 := hD.1
  refine CM_of (L := [some (.ref 8), some (.int i), some (.int k), some (.int t), none]) 1 ok_O_said (fun _ => Nat.le_of_ble_eq_true rfl) rfl ?_
  refine J_iload_n (i := 1) d_O_said_0 rfl rfl ?_
  refine J_iconst (v := (-1)) d_O_said_1 rfl ?_
  refine J_icmp_ne (tgt := 15) d_O_said_2 (by decide) (fun c2 => ?_) (fun c2 => ?_)
  · refine J_aload_n (i := 0) d_O_said_15 rfl rfl ?_
    refine J_iload_n (i := 1) d_O_said_16 rfl rfl ?_
    refine CV_B (av := [.int i]) d_O_said_17 s_O_166 (M_rcv rfl (by decide) rfl) (S_O_isMark hX hS) (by decide) rfl rfl (Nat.le_of_ble_eq_true rfl) ?_
    refine B_if_eq (tgt := 44) d_O_said_20 (by decide) (fun c20 => ?_) (fun c20 => ?_)
    · refine J_iconst (v := nI 0) d_O_said_44 rfl ?_
      refine J_istore (L1 := [some (.ref 8), some (.int i), some (.int k), some (.int t), some (.int (nI 0))]) d_O_said_45 (by decide) rfl ?_
      refine J_iload d_O_said_47 rfl ?_
      refine N_if_eq (tgt := 64) d_O_said_49 (by decide) (by omega) (fun c49 => ?_) (fun c49 => absurd c49 (by decide))
      refine J_bipush (v := (-2)) d_O_said_64 rfl ?_
      refine M_ir d_O_said_66 rfl rfl ?_
      have hB : sdB m c i k t = false := by
        rw [sdB]
        first
          | (rw [c20]; rfl)
          | (rw [c20, c27]; rfl)
          | (rw [c20, c27, inR_no1 c31]; rfl)
          | (rw [c20, c27, inR_gt (n := 10) (by decide) c31 (fun q => absurd c37 (Int32.not_lt.mpr q))]; rfl)
          | (rw [decide_eq_false (show ¬ c < 8 by omega), Bool.and_false])
      exact ⟨by rw [saidF, if_neg c2, hB] <;> rfl, by rw [saidX, if_neg c2, hB] <;> rfl⟩
    · refine J_iload_n (i := 2) d_O_said_23 rfl rfl ?_
      refine CS_B (av := [.int k]) d_O_said_24 s_O_198 (S_O_isStroke) (by decide) rfl rfl (Nat.le_of_ble_eq_true rfl) ?_
      refine B_if_eq (tgt := 44) d_O_said_27 (by decide) (fun c27 => ?_) (fun c27 => ?_)
      · refine J_iconst (v := nI 0) d_O_said_44 rfl ?_
        refine J_istore (L1 := [some (.ref 8), some (.int i), some (.int k), some (.int t), some (.int (nI 0))]) d_O_said_45 (by decide) rfl ?_
        refine J_iload d_O_said_47 rfl ?_
        refine N_if_eq (tgt := 64) d_O_said_49 (by decide) (by omega) (fun c49 => ?_) (fun c49 => absurd c49 (by decide))
        refine J_bipush (v := (-2)) d_O_said_64 rfl ?_
        refine M_ir d_O_said_66 rfl rfl ?_
        have hB : sdB m c i k t = false := by
          rw [sdB]
          first
            | (rw [c20]; rfl)
            | (rw [c20, c27]; rfl)
            | (rw [c20, c27, inR_no1 c31]; rfl)
            | (rw [c20, c27, inR_gt (n := 10) (by decide) c31 (fun q => absurd c37 (Int32.not_lt.mpr q))]; rfl)
            | (rw [decide_eq_false (show ¬ c < 8 by omega), Bool.and_false])
        exact ⟨by rw [saidF, if_neg c2, hB] <;> rfl, by rw [saidX, if_neg c2, hB] <;> rfl⟩
      · refine J_iload_n (i := 3) d_O_said_30 rfl rfl ?_
        refine J_if_lt (tgt := 44) d_O_said_31 (by decide) (fun c31 => ?_) (fun c31 => ?_)
        · refine J_iconst (v := nI 0) d_O_said_44 rfl ?_
          refine J_istore (L1 := [some (.ref 8), some (.int i), some (.int k), some (.int t), some (.int (nI 0))]) d_O_said_45 (by decide) rfl ?_
          refine J_iload d_O_said_47 rfl ?_
          refine N_if_eq (tgt := 64) d_O_said_49 (by decide) (by omega) (fun c49 => ?_) (fun c49 => absurd c49 (by decide))
          refine J_bipush (v := (-2)) d_O_said_64 rfl ?_
          refine M_ir d_O_said_66 rfl rfl ?_
          have hB : sdB m c i k t = false := by
            rw [sdB]
            first
              | (rw [c20]; rfl)
              | (rw [c20, c27]; rfl)
              | (rw [c20, c27, inR_no1 c31]; rfl)
              | (rw [c20, c27, inR_gt (n := 10) (by decide) c31 (fun q => absurd c37 (Int32.not_lt.mpr q))]; rfl)
              | (rw [decide_eq_false (show ¬ c < 8 by omega), Bool.and_false])
          exact ⟨by rw [saidF, if_neg c2, hB] <;> rfl, by rw [saidX, if_neg c2, hB] <;> rfl⟩
        · refine J_iload_n (i := 3) d_O_said_34 rfl rfl ?_
          refine J_bipush (v := nI 10) d_O_said_35 rfl ?_
          refine J_icmp_gt (tgt := 44) d_O_said_37 (by decide) (fun c37 => ?_) (fun c37 => ?_)
          · refine J_iconst (v := nI 0) d_O_said_44 rfl ?_
            refine J_istore (L1 := [some (.ref 8), some (.int i), some (.int k), some (.int t), some (.int (nI 0))]) d_O_said_45 (by decide) rfl ?_
            refine J_iload d_O_said_47 rfl ?_
            refine N_if_eq (tgt := 64) d_O_said_49 (by decide) (by omega) (fun c49 => ?_) (fun c49 => absurd c49 (by decide))
            refine J_bipush (v := (-2)) d_O_said_64 rfl ?_
            refine M_ir d_O_said_66 rfl rfl ?_
            have hB : sdB m c i k t = false := by
              rw [sdB]
              first
                | (rw [c20]; rfl)
                | (rw [c20, c27]; rfl)
                | (rw [c20, c27, inR_no1 c31]; rfl)
                | (rw [c20, c27, inR_gt (n := 10) (by decide) c31 (fun q => absurd c37 (Int32.not_lt.mpr q))]; rfl)
                | (rw [decide_eq_false (show ¬ c < 8 by omega), Bool.and_false])
            exact ⟨by rw [saidF, if_neg c2, hB] <;> rfl, by rw [saidX, if_neg c2, hB] <;> rfl⟩
          · refine J_iconst (v := nI 1) d_O_said_40 rfl ?_
            refine J_goto (tgt := 45) d_O_said_41 (by decide) ?_
            refine J_istore (L1 := [some (.ref 8), some (.int i), some (.int k), some (.int t), some (.int (nI 1))]) d_O_said_45 (by decide) rfl ?_
            refine J_iload d_O_said_47 rfl ?_
            refine N_if_eq (tgt := 64) d_O_said_49 (by decide) (by omega) (fun c49 => absurd c49 (by decide)) (fun c49 => ?_)
            refine J_aload_n (i := 0) d_O_said_52 rfl rfl ?_
            refine M_getR (b := 18) d_O_said_53 f_O_48 rfl rfl rfl ?_
            refine M_get (x := (nI c)) d_O_said_56 f_O_319 rfl rfl hD.2 ?_
            refine J_bipush (v := nI 8) d_O_said_59 rfl ?_
            refine N_icmp_lt (tgt := 67) d_O_said_61 (by decide) (by omega) (by omega) (fun c61 => ?_) (fun c61 => ?_)
            · refine J_aload_n (i := 0) d_O_said_67 rfl rfl ?_
              refine M_getR (b := 18) d_O_said_68 f_O_48 rfl rfl rfl ?_
              refine M_getR (b := 115) d_O_said_71 f_O_322 rfl rfl rfl ?_
              refine J_aload_n (i := 0) d_O_said_74 rfl rfl ?_
              refine M_getR (b := 18) d_O_said_75 f_O_48 rfl rfl rfl ?_
              refine M_get (x := (nI c)) d_O_said_78 f_O_319 rfl rfl hD.2 ?_
              refine J_iload_n (i := 1) d_O_said_81 rfl rfl ?_
              refine N_iast d_O_said_82 rfl (by decide) (by omega) (ltL hX (a := 115) (n := 8) (by decide) rfl (by omega)) ?_
              refine J_aload_n (i := 0) d_O_said_83 rfl rfl ?_
              refine M_getR (b := 18) d_O_said_84 f_O_48 rfl rfl rfl ?_
              refine M_getR (b := 116) d_O_said_87 f_O_325 rfl rfl rfl ?_
              refine J_aload_n (i := 0) d_O_said_90 rfl rfl ?_
              refine M_getR (b := 18) d_O_said_91 f_O_48 rfl rfl rfl ?_
              refine M_get (x := (nI c)) d_O_said_94 f_O_319 rfl rfl hD.2 ?_
              refine J_iload_n (i := 2) d_O_said_97 rfl rfl ?_
              refine N_iast d_O_said_98 rfl (by decide) (by omega) (ltL (okS hX rfl) (a := 116) (n := 8) (by decide) rfl (by omega)) ?_
              refine J_aload_n (i := 0) d_O_said_99 rfl rfl ?_
              refine M_getR (b := 18) d_O_said_100 f_O_48 rfl rfl rfl ?_
              refine M_getR (b := 117) d_O_said_103 f_O_328 rfl rfl rfl ?_
              refine J_aload_n (i := 0) d_O_said_106 rfl rfl ?_
              refine M_getR (b := 18) d_O_said_107 f_O_48 rfl rfl rfl ?_
              refine M_get (x := (nI c)) d_O_said_110 f_O_319 rfl rfl hD.2 ?_
              refine J_iload_n (i := 3) d_O_said_113 rfl rfl ?_
              refine N_iast d_O_said_114 rfl (by decide) (by omega) (ltL (okS (okS hX rfl) rfl) (a := 117) (n := 8) (by decide) rfl (by omega)) ?_
              refine J_aload_n (i := 0) d_O_said_115 rfl rfl ?_
              refine M_getR (b := 18) d_O_said_116 f_O_48 rfl rfl rfl ?_
              refine J_dup d_O_said_119 rfl ?_
              refine M_get (x := (nI c)) d_O_said_120 f_O_319 rfl rfl hD.2 ?_
              refine J_iconst (v := nI 1) d_O_said_123 rfl ?_
              refine N_iadd d_O_said_124 ?_
              refine M_put d_O_said_125 p_O_319 rfl rfl rfl rfl ?_
              refine J_aload_n (i := 0) d_O_said_128 rfl rfl ?_
              refine M_getR (b := 18) d_O_said_129 f_O_48 rfl rfl rfl ?_
              refine M_get (x := (nI (c + 1))) d_O_said_132 f_O_319 rfl rfl rfl ?_
              refine M_ir d_O_said_135 rfl rfl ?_
              have hB : sdB m c i k t = true := by rw [sdB, c20, c27, inR_le (n := 10) (by decide) c31 (Int32.not_lt.mp c37), decide_eq_true (show c < 8 by omega)]; rfl
              exact ⟨by rw [saidF, if_neg c2, hB] <;> rfl, by rw [saidX, if_neg c2, hB, if_pos rfl] <;> rfl⟩
            · refine J_bipush (v := (-2)) d_O_said_64 rfl ?_
              refine M_ir d_O_said_66 rfl rfl ?_
              have hB : sdB m c i k t = false := by
                rw [sdB]
                first
                  | (rw [c20]; rfl)
                  | (rw [c20, c27]; rfl)
                  | (rw [c20, c27, inR_no1 c31]; rfl)
                  | (rw [c20, c27, inR_gt (n := 10) (by decide) c31 (fun q => absurd c37 (Int32.not_lt.mpr q))]; rfl)
                  | (rw [decide_eq_false (show ¬ c < 8 by omega), Bool.and_false])
              exact ⟨by rw [saidF, if_neg c2, hB] <;> rfl, by rw [saidX, if_neg c2, hB] <;> rfl⟩
  · refine J_aload_n (i := 0) d_O_said_5 rfl rfl ?_
    refine M_getR (b := 18) d_O_said_6 f_O_48 rfl rfl rfl ?_
    refine J_iconst (v := nI 0) d_O_said_9 rfl ?_
    refine M_put d_O_said_10 p_O_319 rfl rfl rfl rfl ?_
    refine J_iconst (v := nI 0) d_O_said_13 rfl ?_
    refine M_ir d_O_said_14 rfl rfl ?_
    exact ⟨by rw [saidF, if_pos c2] <;> rfl, by rw [saidX, if_pos c2] <;> rfl⟩

