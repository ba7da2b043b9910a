def saidR (m c : Nat) (i k t : Int32) (l : List Int32) : List Int32 := if i = -1 then l.set 5 (nI 0) else if sdB m c i k t then (((l.set (28 + 3 * c) i).set (28 + 3 * c + 1) k).set (28 + 3 * c + 2) t).set 5 (nI (c + 1)) else l
theorem S_R_said {X : Mem} {m : Nat} {st rg : Nat → Nat} (hX : Ok X) (hS : RSt X m st rg) {c : Nat} (hD : RSd X c) {i k t : Int32} : CM 2 m_R_said [.ref 244, .int i, .int k, .int t] X (rI (saidF m c i k t) (pA X 245 (saidR m c i k t (X.2.1 245)))) := by
  have hc8 := hD.1
  have hl5 := ltL hX (a := 245) (n := 1217) (j := 5) (by decide) rfl (by decide)
  refine CM_of (L := [some (.ref 244), some (.int i), some (.int k), some (.int t), none]) 1 ok_R_said (fun _ => Nat.le_of_ble_eq_true rfl) rfl ?_
  refine J_iload_n (i := 1) d_R_said_0 rfl rfl ?_
  refine J_iconst (v := (-1)) d_R_said_1 rfl ?_
  refine J_icmp_ne (tgt := 14) d_R_said_2 (by decide) (fun c2 => ?_) (fun c2 => ?_)
  · refine J_aload_n (i := 0) d_R_said_14 rfl rfl ?_
    refine J_iload_n (i := 1) d_R_said_15 rfl rfl ?_
    refine CV_B (av := [.int i]) d_R_said_16 s_R_379 (M_rcv rfl (by decide) rfl) (S_R_isMark hX hS) (by decide) rfl rfl (Nat.le_of_ble_eq_true rfl) ?_
    refine B_if_eq (tgt := 50) d_R_said_19 (by decide) (fun c19 => ?_) (fun c19 => ?_)
    · refine J_bipush (v := (-2)) d_R_said_50 rfl ?_
      refine M_ir d_R_said_52 rfl rfl ?_
      have hB : sdB m c i k t = false := by
        rw [sdB]
        first
          | (rw [c19]; rfl)
          | (rw [c19, c26]; rfl)
          | (rw [c19, c26, show inR t 10 = false from c36]; rfl)
          | (rw [decide_eq_false (show ¬ c < 8 by omega), Bool.and_false])
      exact ⟨by rw [saidF, if_neg c2, hB] <;> rfl, by rw [saidR, if_neg c2, hB]; exact pA_eta.symm⟩
    · refine J_iload_n (i := 2) d_R_said_22 rfl rfl ?_
      refine CS_B (av := [.int k]) d_R_said_23 s_R_382 (S_R_isStroke) (by decide) rfl rfl (Nat.le_of_ble_eq_true rfl) ?_
      refine B_if_eq (tgt := 50) d_R_said_26 (by decide) (fun c26 => ?_) (fun c26 => ?_)
      · refine J_bipush (v := (-2)) d_R_said_50 rfl ?_
        refine M_ir d_R_said_52 rfl rfl ?_
        have hB : sdB m c i k t = false := by
          rw [sdB]
          first
            | (rw [c19]; rfl)
            | (rw [c19, c26]; rfl)
            | (rw [c19, c26, show inR t 10 = false from c36]; rfl)
            | (rw [decide_eq_false (show ¬ c < 8 by omega), Bool.and_false])
        exact ⟨by rw [saidF, if_neg c2, hB] <;> rfl, by rw [saidR, if_neg c2, hB]; exact pA_eta.symm⟩
      · refine J_iload_n (i := 3) d_R_said_29 rfl rfl ?_
        refine J_iconst (v := nI 0) d_R_said_30 rfl ?_
        refine J_bipush (v := nI 10) d_R_said_31 rfl ?_
        refine CS_B (av := [.int t, .int (nI 0), .int (nI 10)]) d_R_said_33 s_R_89 (S_R_isIn) (by decide) rfl rfl (Nat.le_of_ble_eq_true rfl) ?_
        refine B_if_eq (tgt := 50) d_R_said_36 (by decide) (fun c36 => ?_) (fun c36 => ?_)
        · refine J_bipush (v := (-2)) d_R_said_50 rfl ?_
          refine M_ir d_R_said_52 rfl rfl ?_
          have hB : sdB m c i k t = false := by
            rw [sdB]
            first
              | (rw [c19]; rfl)
              | (rw [c19, c26]; rfl)
              | (rw [c19, c26, show inR t 10 = false from c36]; rfl)
              | (rw [decide_eq_false (show ¬ c < 8 by omega), Bool.and_false])
          exact ⟨by rw [saidF, if_neg c2, hB] <;> rfl, by rw [saidR, if_neg c2, hB]; exact pA_eta.symm⟩
        · refine J_aload_n (i := 0) d_R_said_39 rfl rfl ?_
          refine M_getR (b := 245) d_R_said_40 f_R_7 rfl rfl rfl ?_
          refine J_iconst (v := nI 5) d_R_said_43 rfl ?_
          refine N_iald (x := (nI c)) d_R_said_44 rfl (by omega) (ltL hX (a := 245) (n := 1217) (by decide) rfl (by omega)) hD.2 ?_
          refine J_bipush (v := nI 8) d_R_said_45 rfl ?_
          refine N_icmp_ne (tgt := 53) d_R_said_47 (by decide) (by omega) (by omega) (fun c47 => ?_) (fun c47 => ?_)
          · refine J_bipush (v := nI 28) d_R_said_53 rfl ?_
            refine J_iconst (v := nI 3) d_R_said_55 rfl ?_
            refine J_aload_n (i := 0) d_R_said_56 rfl rfl ?_
            refine M_getR (b := 245) d_R_said_57 f_R_7 rfl rfl rfl ?_
            refine J_iconst (v := nI 5) d_R_said_60 rfl ?_
            refine N_iald (x := (nI c)) d_R_said_61 rfl (by omega) (ltL hX (a := 245) (n := 1217) (by decide) rfl (by omega)) hD.2 ?_
            refine N_imul d_R_said_62 ?_
            refine N_iadd d_R_said_63 ?_
            refine J_istore (L1 := [some (.ref 244), some (.int i), some (.int k), some (.int t), some (.int (nI (28 + (3 * c))))]) d_R_said_64 (by decide) rfl ?_
            refine J_aload_n (i := 0) d_R_said_66 rfl rfl ?_
            refine M_getR (b := 245) d_R_said_67 f_R_7 rfl rfl rfl ?_
            refine J_iload d_R_said_70 rfl ?_
            refine J_iload_n (i := 1) d_R_said_72 rfl rfl ?_
            refine N_iast d_R_said_73 rfl (by decide) (by omega) (ltL hX (a := 245) (n := 1217) (by decide) rfl (by omega)) ?_
            refine J_aload_n (i := 0) d_R_said_74 rfl rfl ?_
            refine M_getR (b := 245) d_R_said_75 f_R_7 rfl rfl rfl ?_
            refine J_iload d_R_said_78 rfl ?_
            refine J_iconst (v := nI 1) d_R_said_80 rfl ?_
            refine N_iadd d_R_said_81 ?_
            refine J_iload_n (i := 2) d_R_said_82 rfl rfl ?_
            refine N_iast d_R_said_83 rfl (by decide) (by omega) (ltL (okS hX rfl) (a := 245) (n := 1217) (by decide) rfl (by omega)) ?_
            refine J_aload_n (i := 0) d_R_said_84 rfl rfl ?_
            refine M_getR (b := 245) d_R_said_85 f_R_7 rfl rfl rfl ?_
            refine J_iload d_R_said_88 rfl ?_
            refine J_iconst (v := nI 2) d_R_said_90 rfl ?_
            refine N_iadd d_R_said_91 ?_
            refine J_iload_n (i := 3) d_R_said_92 rfl rfl ?_
            refine N_iast d_R_said_93 rfl (by decide) (by omega) (ltL (okS (okS hX rfl) rfl) (a := 245) (n := 1217) (by decide) rfl (by omega)) ?_
            refine J_aload_n (i := 0) d_R_said_94 rfl rfl ?_
            refine M_getR (b := 245) d_R_said_95 f_R_7 rfl rfl rfl ?_
            refine J_iconst (v := nI 5) d_R_said_98 rfl ?_
            refine J_dup2 d_R_said_99 rfl rfl ?_
            refine N_iald (x := (nI c)) d_R_said_100 rfl (by omega) (ltL (okS (okS (okS hX rfl) rfl) rfl) (a := 245) (n := 1217) (by decide) rfl (by omega)) (by rw [pA_at, set_ne (by omega), pA_at, set_ne (by omega), pA_at, set_ne (by omega)]; exact hD.2) ?_
            refine J_iconst (v := nI 1) d_R_said_101 rfl ?_
            refine N_iadd d_R_said_102 ?_
            refine N_iast d_R_said_103 rfl (by decide) (by omega) (ltL (okS (okS (okS hX rfl) rfl) rfl) (a := 245) (n := 1217) (by decide) rfl (by omega)) ?_
            refine J_aload_n (i := 0) d_R_said_104 rfl rfl ?_
            refine M_getR (b := 245) d_R_said_105 f_R_7 rfl rfl rfl ?_
            refine J_iconst (v := nI 5) d_R_said_108 rfl ?_
            refine N_iald (x := (nI (c + 1))) d_R_said_109 rfl (by omega) (ltL (okS (okS (okS (okS hX rfl) rfl) rfl) rfl) (a := 245) (n := 1217) (by decide) rfl (by omega)) (by rw [pA_at, set_eq (by simp only [pA_at, List.length_set]; exact hl5)]) ?_
            refine M_ir d_R_said_110 rfl rfl ?_
            have hB : sdB m c i k t = true := by rw [sdB, c19, c26, show inR t 10 = true from c36, decide_eq_true (show c < 8 by omega)]; rfl
            exact ⟨by rw [saidF, if_neg c2, hB] <;> rfl, by rw [saidR, if_neg c2, hB, if_pos rfl]; simp only [pA_pA, pA_at]⟩
          · refine J_bipush (v := (-2)) d_R_said_50 rfl ?_
            refine M_ir d_R_said_52 rfl rfl ?_
            have hB : sdB m c i k t = false := by
              rw [sdB]
              first
                | (rw [c19]; rfl)
                | (rw [c19, c26]; rfl)
                | (rw [c19, c26, show inR t 10 = false from c36]; rfl)
                | (rw [decide_eq_false (show ¬ c < 8 by omega), Bool.and_false])
            exact ⟨by rw [saidF, if_neg c2, hB] <;> rfl, by rw [saidR, if_neg c2, hB]; exact pA_eta.symm⟩
  · refine J_aload_n (i := 0) d_R_said_5 rfl rfl ?_
    refine M_getR (b := 245) d_R_said_6 f_R_7 rfl rfl rfl ?_
    refine J_iconst (v := nI 5) d_R_said_9 rfl ?_
    refine J_iconst (v := nI 0) d_R_said_10 rfl ?_
    refine N_iast d_R_said_11 rfl (by decide) (by omega) (ltL hX (a := 245) (n := 1217) (by decide) rfl (by omega)) ?_
    refine J_iconst (v := nI 0) d_R_said_12 rfl ?_
    refine M_ir d_R_said_13 rfl rfl ?_
    exact ⟨by rw [saidF, if_pos c2] <;> rfl, by rw [saidR, if_pos c2] <;> rfl⟩

