theorem pF_same {X : Mem} {a k : Nat} {v : Int32} (h : X.1 a k = v) : pF X a k v = X := by rw [← h, pF_eta]
theorem tR_0 {B : Nat → Nat} {q : Nat} (h : B q = 256) : tR B q = 0 := if_pos h
theorem tR_1 {B : Nat → Nat} {q : Nat} (h : B q ≠ 256) (h1 : isDg (B q) = true) : tR B q = 1 := by
  unfold tR
  rw [if_neg h, h1]
  rfl
theorem tR_2 {B : Nat → Nat} {q : Nat} (h : B q ≠ 256) (h1 : isDg (B q) = false) (h2 : isLt (B q) = true) : tR B q = 2 := by
  unfold tR
  rw [if_neg h, h1, h2]
  rfl
theorem tR_s {B : Nat → Nat} {q : Nat} (h : B q ≠ 256) (h1 : isDg (B q) = false) (h2 : isLt (B q) = false) : tR B q = if B q = 60 ∧ B (q + 1) = 61 then 4 else if B q = 62 ∧ B (q + 1) = 61 then 5 else if sgnB (B q) then B q else 3 := by
  unfold tR
  rw [if_neg h, h1, h2]
  rfl
theorem lt_dg {c : Nat} (h : isDg c = true) : isLt c = false := by
  simp only [isDg, Bool.and_eq_true, decide_eq_true_eq] at h
  exact fls (fun z => by simp only [isLt, Bool.or_eq_true, Bool.and_eq_true, decide_eq_true_eq] at z; omega)
theorem eN_d {B : Nat → Nat} {q : Nat} (h : B q ≠ 256) (h1 : isDg (B q) = true) : eN B q = eD B q := by
  unfold eN
  rw [if_neg h, lt_dg h1, h1]
  rfl
theorem eN_w {B : Nat → Nat} {q : Nat} (h : B q ≠ 256) (h1 : isLt (B q) = true) : eN B q = eL B q := by
  unfold eN
  rw [if_neg h, h1]
  rfl
theorem eN_0 {B : Nat → Nat} {q : Nat} (h : B q = 256) : eN B q = q := if_pos h
theorem tR_n1 {B : Nat → Nat} {q : Nat} (h : tR B q ≠ 1) (h2 : tR B q ≠ 2) (k : Prop) (j : Prop) : (tR B q = 1 → k) ∧ (tR B q = 2 → j) := ⟨fun z => absurd z h, fun z => absurd z h2⟩
theorem sg_12 {c : Nat} (h : sgnB c = true) : c ≠ 1 ∧ c ≠ 2 := by
  simp only [sgnB, Bool.or_eq_true, decide_eq_true_eq] at h
  omega
theorem S_R_nextToken {X : Mem} {B : Nat → Nat} {m : Nat} (hX : Ok X) (hB : okB B m) (hV : RV X m B) {p : Nat} (ha : X.1 244 12 = nI p) (hp : p ≤ m) : CM 1 m_R_nextToken [.ref 244] X (fun r Y => r = none ∧ Ok Y ∧ offNx X Y ∧ RTq Y B (sk B p)) := by
  have h300 := hB.1
  have hqm : sk B p ≤ m := sc_le (okB_B hB) hB.1 hp
  refine CM_of (L := [some (.ref 244), none]) 1 ok_R_nextToken (fun _ => Nat.le_of_ble_eq_true rfl) rfl ?_
  refine (lp_nt_blank hX hB hV ?_ (m - p) p rfl hp rfl).eq rfl rfl (congrArg hm (by rw [← ha, pF_eta]))
  by_cases hq : sk B p < m
  · have hb := hB.2.1 _ hq
    have h256 : B (sk B p) ≠ 256 := by omega
    refine J_aload_n (i := 0) d_R_nextToken_39 rfl rfl ?_
    refine J_aload_n (i := 0) d_R_nextToken_40 rfl rfl ?_
    refine M_get (x := (nI (sk B p))) d_R_nextToken_41 f_R_149 rfl rfl (by first | exact pF_at | exact (pF_k (by decide)).trans pF_at | exact (pF_k (by decide)).trans ((pF_k (by decide)).trans pF_at)) ?_
    refine M_put d_R_nextToken_44 p_R_155 rfl rfl rfl rfl ?_
    refine J_aload_n (i := 0) d_R_nextToken_47 rfl rfl ?_
    refine J_aload_n (i := 0) d_R_nextToken_48 rfl rfl ?_
    refine M_get (x := (nI (sk B p))) d_R_nextToken_49 f_R_149 rfl rfl (by first | exact pF_at | exact (pF_k (by decide)).trans pF_at | exact (pF_k (by decide)).trans ((pF_k (by decide)).trans pF_at)) ?_
    refine CV_N (av := [.int (nI (sk B p))]) d_R_nextToken_52 s_R_152 (M_rcv rfl (by decide) rfl) (S_R_byteAt_n (okF hX) hB (by repeat first | exact hV | refine RV_F ?_ (by decide) | refine RV_W ?_) (by omega)) (by decide) rfl rfl (Nat.le_of_ble_eq_true rfl) ?_
    refine J_istore_n (i := 1) (L1 := [some (.ref 244), some (.int (nI (B (sk B p))))]) d_R_nextToken_55 rfl (by decide) rfl ?_
    refine J_iload_n (i := 1) d_R_nextToken_56 rfl rfl ?_
    refine N_if_ge (tgt := 68) d_R_nextToken_57 (by decide) (by omega) ?_
    refine J_iload_n (i := 1) d_R_nextToken_68 rfl rfl ?_
    refine CS_B (av := [.int (nI (B (sk B p)))]) d_R_nextToken_69 s_R_161 (S_R_isFigure (by omega)) (by decide) rfl rfl (Nat.le_of_ble_eq_true rfl) ?_
    refine B_if_eq (tgt := 151) d_R_nextToken_72 (by decide) (fun c72 => ?_) (fun c72 => ?_)
    · refine J_iload_n (i := 1) d_R_nextToken_151 rfl rfl ?_
      refine CS_B (av := [.int (nI (B (sk B p)))]) d_R_nextToken_152 s_R_168 (S_R_isLetterByte (by omega)) (by decide) rfl rfl (Nat.le_of_ble_eq_true rfl) ?_
      refine B_if_eq (tgt := 234) d_R_nextToken_155 (by decide) (fun c155 => ?_) (fun c155 => ?_)
      · refine J_aload_n (i := 0) d_R_nextToken_234 rfl rfl ?_
        refine J_iload_n (i := 1) d_R_nextToken_235 rfl rfl ?_
        refine CS_B (av := [.int (nI (B (sk B p)))]) d_R_nextToken_236 s_R_177 (S_R_isSign (by omega)) (by decide) rfl rfl (Nat.le_of_ble_eq_true rfl) ?_
        refine B_if_eq (tgt := 246) d_R_nextToken_239 (by decide) (fun c239 => ?_) (fun c239 => ?_)
        · refine J_iconst (v := nI 3) d_R_nextToken_246 rfl ?_
          refine M_put d_R_nextToken_247 p_R_158 rfl rfl rfl rfl ?_
          refine J_aload_n (i := 0) d_R_nextToken_250 rfl rfl ?_
          refine J_dup d_R_nextToken_251 rfl ?_
          refine M_get (x := (nI (sk B p))) d_R_nextToken_252 f_R_149 rfl rfl (by first | exact pF_at | exact (pF_k (by decide)).trans pF_at | exact (pF_k (by decide)).trans ((pF_k (by decide)).trans pF_at)) ?_
          refine J_iconst (v := nI 1) d_R_nextToken_255 rfl ?_
          refine N_iadd d_R_nextToken_256 ?_
          refine M_put d_R_nextToken_257 p_R_149 rfl rfl rfl rfl ?_
          refine J_iload_n (i := 1) d_R_nextToken_260 rfl rfl ?_
          refine J_bipush (v := nI 60) d_R_nextToken_261 rfl ?_
          refine N_icmp_eq (tgt := 272) d_R_nextToken_263 (by decide) (by omega) (by omega) (fun c263 => ?_) (fun c263 => ?_)
          · by_cases h61 : sk B p + 1 < m
            · have hb2 := hB.2.1 (sk B p + 1) (by omega)
              refine J_aload_n (i := 0) d_R_nextToken_272 rfl rfl ?_
              refine J_aload_n (i := 0) d_R_nextToken_273 rfl rfl ?_
              refine M_get (x := (nI ((sk B p) + 1))) d_R_nextToken_274 f_R_149 rfl rfl rfl ?_
              refine CV_N (av := [.int (nI ((sk B p) + 1))]) d_R_nextToken_277 s_R_152 (M_rcv rfl (by decide) rfl) (S_R_byteAt_n (okF hX) hB (by repeat first | exact hV | refine RV_F ?_ (by decide) | refine RV_W ?_) (by omega)) (by decide) rfl rfl (Nat.le_of_ble_eq_true rfl) ?_
              refine J_bipush (v := nI 61) d_R_nextToken_280 rfl ?_
              refine N_icmp_ne (tgt := 310) d_R_nextToken_282 (by decide) (by omega) (by omega) (fun c282 => ?_) (fun c282 => ?_)
              · refine M_vr d_R_nextToken_310 rfl ?_
                have hn : ¬ ((B (sk B p) = 60 ∨ B (sk B p) = 62) ∧ B (sk B p + 1) = 61) := by omega
                have e14 : tR B (sk B p) = 3 := (tR_s h256 c72 c155).trans ((if_neg (fun z => hn ⟨Or.inl z.1, z.2⟩)).trans ((if_neg (fun z => hn ⟨Or.inr z.1, z.2⟩)).trans (by rw [c239]; rfl)))
                exact ⟨rfl, okF (okF (okF (okF hX))), (offNx_F (offNx_F (offNx_F (offNx_F (offNx_0 X) (by decide)) (by decide)) (by decide)) (by decide)), ((pF_k (by decide)).trans ((pF_k (by decide)).trans pF_at)), pF_at.trans (congrArg nI ((eN_sg h256 c155 c72).trans (if_neg hn)).symm), ((pF_k (by decide)).trans pF_at).trans (congrArg nI (e14).symm), (fun z => absurd z (by rw [e14]; decide)), (fun z => absurd z (by rw [e14]; decide))⟩
              · refine J_aload_n (i := 0) d_R_nextToken_285 rfl rfl ?_
                refine J_iload_n (i := 1) d_R_nextToken_286 rfl rfl ?_
                refine J_bipush (v := nI 60) d_R_nextToken_287 rfl ?_
                refine N_icmp_ne (tgt := 296) d_R_nextToken_289 (by decide) (by omega) (by omega) (fun c289 => ?_) (fun c289 => ?_)
                · refine J_iconst (v := nI 5) d_R_nextToken_296 rfl ?_
                  refine M_put d_R_nextToken_297 p_R_158 rfl rfl rfl rfl ?_
                  refine J_aload_n (i := 0) d_R_nextToken_300 rfl rfl ?_
                  refine J_dup d_R_nextToken_301 rfl ?_
                  refine M_get (x := (nI ((sk B p) + 1))) d_R_nextToken_302 f_R_149 rfl rfl rfl ?_
                  refine J_iconst (v := nI 1) d_R_nextToken_305 rfl ?_
                  refine N_iadd d_R_nextToken_306 ?_
                  refine M_put d_R_nextToken_307 p_R_149 rfl rfl rfl rfl ?_
                  refine M_vr d_R_nextToken_310 rfl ?_
                  have e14 : tR B (sk B p) = 5 := (tR_s h256 c72 c155).trans ((if_neg (by omega)).trans (if_pos ⟨by omega, by omega⟩))
                  exact ⟨rfl, okF (okF (okF (okF (okF (okF hX))))), (offNx_F (offNx_F (offNx_F (offNx_F (offNx_F (offNx_F (offNx_0 X) (by decide)) (by decide)) (by decide)) (by decide)) (by decide)) (by decide)), ((pF_k (by decide)).trans ((pF_k (by decide)).trans ((pF_k (by decide)).trans ((pF_k (by decide)).trans pF_at)))), pF_at.trans (congrArg nI ((eN_sg h256 c155 c72).trans (if_pos ⟨by omega, by omega⟩)).symm), ((pF_k (by decide)).trans pF_at).trans (congrArg nI ((tR_s h256 c72 c155).trans ((if_neg (by omega)).trans (if_pos ⟨by omega, by omega⟩))).symm), (fun z => absurd z (by rw [e14]; decide)), (fun z => absurd z (by rw [e14]; decide))⟩
                · refine J_iconst (v := nI 4) d_R_nextToken_292 rfl ?_
                  refine J_goto (tgt := 297) d_R_nextToken_293 (by decide) ?_
                  refine M_put d_R_nextToken_297 p_R_158 rfl rfl rfl rfl ?_
                  refine J_aload_n (i := 0) d_R_nextToken_300 rfl rfl ?_
                  refine J_dup d_R_nextToken_301 rfl ?_
                  refine M_get (x := (nI ((sk B p) + 1))) d_R_nextToken_302 f_R_149 rfl rfl rfl ?_
                  refine J_iconst (v := nI 1) d_R_nextToken_305 rfl ?_
                  refine N_iadd d_R_nextToken_306 ?_
                  refine M_put d_R_nextToken_307 p_R_149 rfl rfl rfl rfl ?_
                  refine M_vr d_R_nextToken_310 rfl ?_
                  have e14 : tR B (sk B p) = 4 := (tR_s h256 c72 c155).trans (if_pos ⟨by omega, by omega⟩)
                  exact ⟨rfl, okF (okF (okF (okF (okF (okF hX))))), (offNx_F (offNx_F (offNx_F (offNx_F (offNx_F (offNx_F (offNx_0 X) (by decide)) (by decide)) (by decide)) (by decide)) (by decide)) (by decide)), ((pF_k (by decide)).trans ((pF_k (by decide)).trans ((pF_k (by decide)).trans ((pF_k (by decide)).trans pF_at)))), pF_at.trans (congrArg nI ((eN_sg h256 c155 c72).trans (if_pos ⟨by omega, by omega⟩)).symm), ((pF_k (by decide)).trans pF_at).trans (congrArg nI ((tR_s h256 c72 c155).trans (if_pos ⟨by omega, by omega⟩)).symm), (fun z => absurd z (by rw [e14]; decide)), (fun z => absurd z (by rw [e14]; decide))⟩
            · have hb2 := hB.2.2 (sk B p + 1) (by omega)
              refine J_aload_n (i := 0) d_R_nextToken_272 rfl rfl ?_
              refine J_aload_n (i := 0) d_R_nextToken_273 rfl rfl ?_
              refine M_get (x := (nI ((sk B p) + 1))) d_R_nextToken_274 f_R_149 rfl rfl rfl ?_
              refine CV_I (av := [.int (nI ((sk B p) + 1))]) d_R_nextToken_277 s_R_152 (M_rcv rfl (by decide) rfl) (S_R_byteAt_e (okF hX) hB (by repeat first | exact hV | refine RV_F ?_ (by decide) | refine RV_W ?_) (by omega) (by omega)) (by decide) rfl rfl (Nat.le_of_ble_eq_true rfl) ?_
              refine J_bipush (v := nI 61) d_R_nextToken_280 rfl ?_
              refine J_icmp_ne (tgt := 310) d_R_nextToken_282 (by decide) (fun c282 => ?_) (fun c282 => absurd c282 (by decide))
              refine M_vr d_R_nextToken_310 rfl ?_
              have hn : ¬ ((B (sk B p) = 60 ∨ B (sk B p) = 62) ∧ B (sk B p + 1) = 61) := by rw [hB.2.2 (sk B p + 1) (by omega)]; omega
              have e14 : tR B (sk B p) = 3 := (tR_s h256 c72 c155).trans ((if_neg (fun z => hn ⟨Or.inl z.1, z.2⟩)).trans ((if_neg (fun z => hn ⟨Or.inr z.1, z.2⟩)).trans (by rw [c239]; rfl)))
              exact ⟨rfl, okF (okF (okF (okF hX))), (offNx_F (offNx_F (offNx_F (offNx_F (offNx_0 X) (by decide)) (by decide)) (by decide)) (by decide)), ((pF_k (by decide)).trans ((pF_k (by decide)).trans pF_at)), pF_at.trans (congrArg nI ((eN_sg h256 c155 c72).trans (if_neg hn)).symm), ((pF_k (by decide)).trans pF_at).trans (congrArg nI (e14).symm), (fun z => absurd z (by rw [e14]; decide)), (fun z => absurd z (by rw [e14]; decide))⟩
          · refine J_iload_n (i := 1) d_R_nextToken_266 rfl rfl ?_
            refine J_bipush (v := nI 62) d_R_nextToken_267 rfl ?_
            refine N_icmp_ne (tgt := 310) d_R_nextToken_269 (by decide) (by omega) (by omega) (fun c269 => ?_) (fun c269 => ?_)
            · refine M_vr d_R_nextToken_310 rfl ?_
              have hn : ¬ ((B (sk B p) = 60 ∨ B (sk B p) = 62) ∧ B (sk B p + 1) = 61) := by omega
              have e14 : tR B (sk B p) = 3 := (tR_s h256 c72 c155).trans ((if_neg (fun z => hn ⟨Or.inl z.1, z.2⟩)).trans ((if_neg (fun z => hn ⟨Or.inr z.1, z.2⟩)).trans (by rw [c239]; rfl)))
              exact ⟨rfl, okF (okF (okF (okF hX))), (offNx_F (offNx_F (offNx_F (offNx_F (offNx_0 X) (by decide)) (by decide)) (by decide)) (by decide)), ((pF_k (by decide)).trans ((pF_k (by decide)).trans pF_at)), pF_at.trans (congrArg nI ((eN_sg h256 c155 c72).trans (if_neg hn)).symm), ((pF_k (by decide)).trans pF_at).trans (congrArg nI (e14).symm), (fun z => absurd z (by rw [e14]; decide)), (fun z => absurd z (by rw [e14]; decide))⟩
            · by_cases h61 : sk B p + 1 < m
              · have hb2 := hB.2.1 (sk B p + 1) (by omega)
                refine J_aload_n (i := 0) d_R_nextToken_272 rfl rfl ?_
                refine J_aload_n (i := 0) d_R_nextToken_273 rfl rfl ?_
                refine M_get (x := (nI ((sk B p) + 1))) d_R_nextToken_274 f_R_149 rfl rfl rfl ?_
                refine CV_N (av := [.int (nI ((sk B p) + 1))]) d_R_nextToken_277 s_R_152 (M_rcv rfl (by decide) rfl) (S_R_byteAt_n (okF hX) hB (by repeat first | exact hV | refine RV_F ?_ (by decide) | refine RV_W ?_) (by omega)) (by decide) rfl rfl (Nat.le_of_ble_eq_true rfl) ?_
                refine J_bipush (v := nI 61) d_R_nextToken_280 rfl ?_
                refine N_icmp_ne (tgt := 310) d_R_nextToken_282 (by decide) (by omega) (by omega) (fun c282 => ?_) (fun c282 => ?_)
                · refine M_vr d_R_nextToken_310 rfl ?_
                  have hn : ¬ ((B (sk B p) = 60 ∨ B (sk B p) = 62) ∧ B (sk B p + 1) = 61) := by omega
                  have e14 : tR B (sk B p) = 3 := (tR_s h256 c72 c155).trans ((if_neg (fun z => hn ⟨Or.inl z.1, z.2⟩)).trans ((if_neg (fun z => hn ⟨Or.inr z.1, z.2⟩)).trans (by rw [c239]; rfl)))
                  exact ⟨rfl, okF (okF (okF (okF hX))), (offNx_F (offNx_F (offNx_F (offNx_F (offNx_0 X) (by decide)) (by decide)) (by decide)) (by decide)), ((pF_k (by decide)).trans ((pF_k (by decide)).trans pF_at)), pF_at.trans (congrArg nI ((eN_sg h256 c155 c72).trans (if_neg hn)).symm), ((pF_k (by decide)).trans pF_at).trans (congrArg nI (e14).symm), (fun z => absurd z (by rw [e14]; decide)), (fun z => absurd z (by rw [e14]; decide))⟩
                · refine J_aload_n (i := 0) d_R_nextToken_285 rfl rfl ?_
                  refine J_iload_n (i := 1) d_R_nextToken_286 rfl rfl ?_
                  refine J_bipush (v := nI 60) d_R_nextToken_287 rfl ?_
                  refine N_icmp_ne (tgt := 296) d_R_nextToken_289 (by decide) (by omega) (by omega) (fun c289 => ?_) (fun c289 => ?_)
                  · refine J_iconst (v := nI 5) d_R_nextToken_296 rfl ?_
                    refine M_put d_R_nextToken_297 p_R_158 rfl rfl rfl rfl ?_
                    refine J_aload_n (i := 0) d_R_nextToken_300 rfl rfl ?_
                    refine J_dup d_R_nextToken_301 rfl ?_
                    refine M_get (x := (nI ((sk B p) + 1))) d_R_nextToken_302 f_R_149 rfl rfl rfl ?_
                    refine J_iconst (v := nI 1) d_R_nextToken_305 rfl ?_
                    refine N_iadd d_R_nextToken_306 ?_
                    refine M_put d_R_nextToken_307 p_R_149 rfl rfl rfl rfl ?_
                    refine M_vr d_R_nextToken_310 rfl ?_
                    have e14 : tR B (sk B p) = 5 := (tR_s h256 c72 c155).trans ((if_neg (by omega)).trans (if_pos ⟨by omega, by omega⟩))
                    exact ⟨rfl, okF (okF (okF (okF (okF (okF hX))))), (offNx_F (offNx_F (offNx_F (offNx_F (offNx_F (offNx_F (offNx_0 X) (by decide)) (by decide)) (by decide)) (by decide)) (by decide)) (by decide)), ((pF_k (by decide)).trans ((pF_k (by decide)).trans ((pF_k (by decide)).trans ((pF_k (by decide)).trans pF_at)))), pF_at.trans (congrArg nI ((eN_sg h256 c155 c72).trans (if_pos ⟨by omega, by omega⟩)).symm), ((pF_k (by decide)).trans pF_at).trans (congrArg nI ((tR_s h256 c72 c155).trans ((if_neg (by omega)).trans (if_pos ⟨by omega, by omega⟩))).symm), (fun z => absurd z (by rw [e14]; decide)), (fun z => absurd z (by rw [e14]; decide))⟩
                  · refine J_iconst (v := nI 4) d_R_nextToken_292 rfl ?_
                    refine J_goto (tgt := 297) d_R_nextToken_293 (by decide) ?_
                    refine M_put d_R_nextToken_297 p_R_158 rfl rfl rfl rfl ?_
                    refine J_aload_n (i := 0) d_R_nextToken_300 rfl rfl ?_
                    refine J_dup d_R_nextToken_301 rfl ?_
                    refine M_get (x := (nI ((sk B p) + 1))) d_R_nextToken_302 f_R_149 rfl rfl rfl ?_
                    refine J_iconst (v := nI 1) d_R_nextToken_305 rfl ?_
                    refine N_iadd d_R_nextToken_306 ?_
                    refine M_put d_R_nextToken_307 p_R_149 rfl rfl rfl rfl ?_
                    refine M_vr d_R_nextToken_310 rfl ?_
                    have e14 : tR B (sk B p) = 4 := (tR_s h256 c72 c155).trans (if_pos ⟨by omega, by omega⟩)
                    exact ⟨rfl, okF (okF (okF (okF (okF (okF hX))))), (offNx_F (offNx_F (offNx_F (offNx_F (offNx_F (offNx_F (offNx_0 X) (by decide)) (by decide)) (by decide)) (by decide)) (by decide)) (by decide)), ((pF_k (by decide)).trans ((pF_k (by decide)).trans ((pF_k (by decide)).trans ((pF_k (by decide)).trans pF_at)))), pF_at.trans (congrArg nI ((eN_sg h256 c155 c72).trans (if_pos ⟨by omega, by omega⟩)).symm), ((pF_k (by decide)).trans pF_at).trans (congrArg nI ((tR_s h256 c72 c155).trans (if_pos ⟨by omega, by omega⟩)).symm), (fun z => absurd z (by rw [e14]; decide)), (fun z => absurd z (by rw [e14]; decide))⟩
              · have hb2 := hB.2.2 (sk B p + 1) (by omega)
                refine J_aload_n (i := 0) d_R_nextToken_272 rfl rfl ?_
                refine J_aload_n (i := 0) d_R_nextToken_273 rfl rfl ?_
                refine M_get (x := (nI ((sk B p) + 1))) d_R_nextToken_274 f_R_149 rfl rfl rfl ?_
                refine CV_I (av := [.int (nI ((sk B p) + 1))]) d_R_nextToken_277 s_R_152 (M_rcv rfl (by decide) rfl) (S_R_byteAt_e (okF hX) hB (by repeat first | exact hV | refine RV_F ?_ (by decide) | refine RV_W ?_) (by omega) (by omega)) (by decide) rfl rfl (Nat.le_of_ble_eq_true rfl) ?_
                refine J_bipush (v := nI 61) d_R_nextToken_280 rfl ?_
                refine J_icmp_ne (tgt := 310) d_R_nextToken_282 (by decide) (fun c282 => ?_) (fun c282 => absurd c282 (by decide))
                refine M_vr d_R_nextToken_310 rfl ?_
                have hn : ¬ ((B (sk B p) = 60 ∨ B (sk B p) = 62) ∧ B (sk B p + 1) = 61) := by rw [hB.2.2 (sk B p + 1) (by omega)]; omega
                have e14 : tR B (sk B p) = 3 := (tR_s h256 c72 c155).trans ((if_neg (fun z => hn ⟨Or.inl z.1, z.2⟩)).trans ((if_neg (fun z => hn ⟨Or.inr z.1, z.2⟩)).trans (by rw [c239]; rfl)))
                exact ⟨rfl, okF (okF (okF (okF hX))), (offNx_F (offNx_F (offNx_F (offNx_F (offNx_0 X) (by decide)) (by decide)) (by decide)) (by decide)), ((pF_k (by decide)).trans ((pF_k (by decide)).trans pF_at)), pF_at.trans (congrArg nI ((eN_sg h256 c155 c72).trans (if_neg hn)).symm), ((pF_k (by decide)).trans pF_at).trans (congrArg nI (e14).symm), (fun z => absurd z (by rw [e14]; decide)), (fun z => absurd z (by rw [e14]; decide))⟩
        · refine J_iload_n (i := 1) d_R_nextToken_242 rfl rfl ?_
          refine J_goto (tgt := 247) d_R_nextToken_243 (by decide) ?_
          refine M_put d_R_nextToken_247 p_R_158 rfl rfl rfl rfl ?_
          refine J_aload_n (i := 0) d_R_nextToken_250 rfl rfl ?_
          refine J_dup d_R_nextToken_251 rfl ?_
          refine M_get (x := (nI (sk B p))) d_R_nextToken_252 f_R_149 rfl rfl (by first | exact pF_at | exact (pF_k (by decide)).trans pF_at | exact (pF_k (by decide)).trans ((pF_k (by decide)).trans pF_at)) ?_
          refine J_iconst (v := nI 1) d_R_nextToken_255 rfl ?_
          refine N_iadd d_R_nextToken_256 ?_
          refine M_put d_R_nextToken_257 p_R_149 rfl rfl rfl rfl ?_
          refine J_iload_n (i := 1) d_R_nextToken_260 rfl rfl ?_
          refine J_bipush (v := nI 60) d_R_nextToken_261 rfl ?_
          refine N_icmp_eq (tgt := 272) d_R_nextToken_263 (by decide) (by omega) (by omega) (fun c263 => ?_) (fun c263 => ?_)
          · by_cases h61 : sk B p + 1 < m
            · have hb2 := hB.2.1 (sk B p + 1) (by omega)
              refine J_aload_n (i := 0) d_R_nextToken_272 rfl rfl ?_
              refine J_aload_n (i := 0) d_R_nextToken_273 rfl rfl ?_
              refine M_get (x := (nI ((sk B p) + 1))) d_R_nextToken_274 f_R_149 rfl rfl rfl ?_
              refine CV_N (av := [.int (nI ((sk B p) + 1))]) d_R_nextToken_277 s_R_152 (M_rcv rfl (by decide) rfl) (S_R_byteAt_n (okF hX) hB (by repeat first | exact hV | refine RV_F ?_ (by decide) | refine RV_W ?_) (by omega)) (by decide) rfl rfl (Nat.le_of_ble_eq_true rfl) ?_
              refine J_bipush (v := nI 61) d_R_nextToken_280 rfl ?_
              refine N_icmp_ne (tgt := 310) d_R_nextToken_282 (by decide) (by omega) (by omega) (fun c282 => ?_) (fun c282 => ?_)
              · refine M_vr d_R_nextToken_310 rfl ?_
                have hn : ¬ ((B (sk B p) = 60 ∨ B (sk B p) = 62) ∧ B (sk B p + 1) = 61) := by omega
                have e14 : tR B (sk B p) = B (sk B p) := (tR_s h256 c72 c155).trans ((if_neg (fun z => hn ⟨Or.inl z.1, z.2⟩)).trans ((if_neg (fun z => hn ⟨Or.inr z.1, z.2⟩)).trans (by rw [c239]; rfl)))
                exact ⟨rfl, okF (okF (okF (okF hX))), (offNx_F (offNx_F (offNx_F (offNx_F (offNx_0 X) (by decide)) (by decide)) (by decide)) (by decide)), ((pF_k (by decide)).trans ((pF_k (by decide)).trans pF_at)), pF_at.trans (congrArg nI ((eN_sg h256 c155 c72).trans (if_neg hn)).symm), ((pF_k (by decide)).trans pF_at).trans (congrArg nI (e14).symm), (fun z => absurd z (by rw [e14]; exact (sg_12 c239).1)), (fun z => absurd z (by rw [e14]; exact (sg_12 c239).2))⟩
              · refine J_aload_n (i := 0) d_R_nextToken_285 rfl rfl ?_
                refine J_iload_n (i := 1) d_R_nextToken_286 rfl rfl ?_
                refine J_bipush (v := nI 60) d_R_nextToken_287 rfl ?_
                refine N_icmp_ne (tgt := 296) d_R_nextToken_289 (by decide) (by omega) (by omega) (fun c289 => ?_) (fun c289 => ?_)
                · refine J_iconst (v := nI 5) d_R_nextToken_296 rfl ?_
                  refine M_put d_R_nextToken_297 p_R_158 rfl rfl rfl rfl ?_
                  refine J_aload_n (i := 0) d_R_nextToken_300 rfl rfl ?_
                  refine J_dup d_R_nextToken_301 rfl ?_
                  refine M_get (x := (nI ((sk B p) + 1))) d_R_nextToken_302 f_R_149 rfl rfl rfl ?_
                  refine J_iconst (v := nI 1) d_R_nextToken_305 rfl ?_
                  refine N_iadd d_R_nextToken_306 ?_
                  refine M_put d_R_nextToken_307 p_R_149 rfl rfl rfl rfl ?_
                  refine M_vr d_R_nextToken_310 rfl ?_
                  have e14 : tR B (sk B p) = 5 := (tR_s h256 c72 c155).trans ((if_neg (by omega)).trans (if_pos ⟨by omega, by omega⟩))
                  exact ⟨rfl, okF (okF (okF (okF (okF (okF hX))))), (offNx_F (offNx_F (offNx_F (offNx_F (offNx_F (offNx_F (offNx_0 X) (by decide)) (by decide)) (by decide)) (by decide)) (by decide)) (by decide)), ((pF_k (by decide)).trans ((pF_k (by decide)).trans ((pF_k (by decide)).trans ((pF_k (by decide)).trans pF_at)))), pF_at.trans (congrArg nI ((eN_sg h256 c155 c72).trans (if_pos ⟨by omega, by omega⟩)).symm), ((pF_k (by decide)).trans pF_at).trans (congrArg nI ((tR_s h256 c72 c155).trans ((if_neg (by omega)).trans (if_pos ⟨by omega, by omega⟩))).symm), (fun z => absurd z (by rw [e14]; decide)), (fun z => absurd z (by rw [e14]; decide))⟩
                · refine J_iconst (v := nI 4) d_R_nextToken_292 rfl ?_
                  refine J_goto (tgt := 297) d_R_nextToken_293 (by decide) ?_
                  refine M_put d_R_nextToken_297 p_R_158 rfl rfl rfl rfl ?_
                  refine J_aload_n (i := 0) d_R_nextToken_300 rfl rfl ?_
                  refine J_dup d_R_nextToken_301 rfl ?_
                  refine M_get (x := (nI ((sk B p) + 1))) d_R_nextToken_302 f_R_149 rfl rfl rfl ?_
                  refine J_iconst (v := nI 1) d_R_nextToken_305 rfl ?_
                  refine N_iadd d_R_nextToken_306 ?_
                  refine M_put d_R_nextToken_307 p_R_149 rfl rfl rfl rfl ?_
                  refine M_vr d_R_nextToken_310 rfl ?_
                  have e14 : tR B (sk B p) = 4 := (tR_s h256 c72 c155).trans (if_pos ⟨by omega, by omega⟩)
                  exact ⟨rfl, okF (okF (okF (okF (okF (okF hX))))), (offNx_F (offNx_F (offNx_F (offNx_F (offNx_F (offNx_F (offNx_0 X) (by decide)) (by decide)) (by decide)) (by decide)) (by decide)) (by decide)), ((pF_k (by decide)).trans ((pF_k (by decide)).trans ((pF_k (by decide)).trans ((pF_k (by decide)).trans pF_at)))), pF_at.trans (congrArg nI ((eN_sg h256 c155 c72).trans (if_pos ⟨by omega, by omega⟩)).symm), ((pF_k (by decide)).trans pF_at).trans (congrArg nI ((tR_s h256 c72 c155).trans (if_pos ⟨by omega, by omega⟩)).symm), (fun z => absurd z (by rw [e14]; decide)), (fun z => absurd z (by rw [e14]; decide))⟩
            · have hb2 := hB.2.2 (sk B p + 1) (by omega)
              refine J_aload_n (i := 0) d_R_nextToken_272 rfl rfl ?_
              refine J_aload_n (i := 0) d_R_nextToken_273 rfl rfl ?_
              refine M_get (x := (nI ((sk B p) + 1))) d_R_nextToken_274 f_R_149 rfl rfl rfl ?_
              refine CV_I (av := [.int (nI ((sk B p) + 1))]) d_R_nextToken_277 s_R_152 (M_rcv rfl (by decide) rfl) (S_R_byteAt_e (okF hX) hB (by repeat first | exact hV | refine RV_F ?_ (by decide) | refine RV_W ?_) (by omega) (by omega)) (by decide) rfl rfl (Nat.le_of_ble_eq_true rfl) ?_
              refine J_bipush (v := nI 61) d_R_nextToken_280 rfl ?_
              refine J_icmp_ne (tgt := 310) d_R_nextToken_282 (by decide) (fun c282 => ?_) (fun c282 => absurd c282 (by decide))
              refine M_vr d_R_nextToken_310 rfl ?_
              have hn : ¬ ((B (sk B p) = 60 ∨ B (sk B p) = 62) ∧ B (sk B p + 1) = 61) := by rw [hB.2.2 (sk B p + 1) (by omega)]; omega
              have e14 : tR B (sk B p) = B (sk B p) := (tR_s h256 c72 c155).trans ((if_neg (fun z => hn ⟨Or.inl z.1, z.2⟩)).trans ((if_neg (fun z => hn ⟨Or.inr z.1, z.2⟩)).trans (by rw [c239]; rfl)))
              exact ⟨rfl, okF (okF (okF (okF hX))), (offNx_F (offNx_F (offNx_F (offNx_F (offNx_0 X) (by decide)) (by decide)) (by decide)) (by decide)), ((pF_k (by decide)).trans ((pF_k (by decide)).trans pF_at)), pF_at.trans (congrArg nI ((eN_sg h256 c155 c72).trans (if_neg hn)).symm), ((pF_k (by decide)).trans pF_at).trans (congrArg nI (e14).symm), (fun z => absurd z (by rw [e14]; exact (sg_12 c239).1)), (fun z => absurd z (by rw [e14]; exact (sg_12 c239).2))⟩
          · refine J_iload_n (i := 1) d_R_nextToken_266 rfl rfl ?_
            refine J_bipush (v := nI 62) d_R_nextToken_267 rfl ?_
            refine N_icmp_ne (tgt := 310) d_R_nextToken_269 (by decide) (by omega) (by omega) (fun c269 => ?_) (fun c269 => ?_)
            · refine M_vr d_R_nextToken_310 rfl ?_
              have hn : ¬ ((B (sk B p) = 60 ∨ B (sk B p) = 62) ∧ B (sk B p + 1) = 61) := by omega
              have e14 : tR B (sk B p) = B (sk B p) := (tR_s h256 c72 c155).trans ((if_neg (fun z => hn ⟨Or.inl z.1, z.2⟩)).trans ((if_neg (fun z => hn ⟨Or.inr z.1, z.2⟩)).trans (by rw [c239]; rfl)))
              exact ⟨rfl, okF (okF (okF (okF hX))), (offNx_F (offNx_F (offNx_F (offNx_F (offNx_0 X) (by decide)) (by decide)) (by decide)) (by decide)), ((pF_k (by decide)).trans ((pF_k (by decide)).trans pF_at)), pF_at.trans (congrArg nI ((eN_sg h256 c155 c72).trans (if_neg hn)).symm), ((pF_k (by decide)).trans pF_at).trans (congrArg nI (e14).symm), (fun z => absurd z (by rw [e14]; exact (sg_12 c239).1)), (fun z => absurd z (by rw [e14]; exact (sg_12 c239).2))⟩
            · by_cases h61 : sk B p + 1 < m
              · have hb2 := hB.2.1 (sk B p + 1) (by omega)
                refine J_aload_n (i := 0) d_R_nextToken_272 rfl rfl ?_
                refine J_aload_n (i := 0) d_R_nextToken_273 rfl rfl ?_
                refine M_get (x := (nI ((sk B p) + 1))) d_R_nextToken_274 f_R_149 rfl rfl rfl ?_
                refine CV_N (av := [.int (nI ((sk B p) + 1))]) d_R_nextToken_277 s_R_152 (M_rcv rfl (by decide) rfl) (S_R_byteAt_n (okF hX) hB (by repeat first | exact hV | refine RV_F ?_ (by decide) | refine RV_W ?_) (by omega)) (by decide) rfl rfl (Nat.le_of_ble_eq_true rfl) ?_
                refine J_bipush (v := nI 61) d_R_nextToken_280 rfl ?_
                refine N_icmp_ne (tgt := 310) d_R_nextToken_282 (by decide) (by omega) (by omega) (fun c282 => ?_) (fun c282 => ?_)
                · refine M_vr d_R_nextToken_310 rfl ?_
                  have hn : ¬ ((B (sk B p) = 60 ∨ B (sk B p) = 62) ∧ B (sk B p + 1) = 61) := by omega
                  have e14 : tR B (sk B p) = B (sk B p) := (tR_s h256 c72 c155).trans ((if_neg (fun z => hn ⟨Or.inl z.1, z.2⟩)).trans ((if_neg (fun z => hn ⟨Or.inr z.1, z.2⟩)).trans (by rw [c239]; rfl)))
                  exact ⟨rfl, okF (okF (okF (okF hX))), (offNx_F (offNx_F (offNx_F (offNx_F (offNx_0 X) (by decide)) (by decide)) (by decide)) (by decide)), ((pF_k (by decide)).trans ((pF_k (by decide)).trans pF_at)), pF_at.trans (congrArg nI ((eN_sg h256 c155 c72).trans (if_neg hn)).symm), ((pF_k (by decide)).trans pF_at).trans (congrArg nI (e14).symm), (fun z => absurd z (by rw [e14]; exact (sg_12 c239).1)), (fun z => absurd z (by rw [e14]; exact (sg_12 c239).2))⟩
                · refine J_aload_n (i := 0) d_R_nextToken_285 rfl rfl ?_
                  refine J_iload_n (i := 1) d_R_nextToken_286 rfl rfl ?_
                  refine J_bipush (v := nI 60) d_R_nextToken_287 rfl ?_
                  refine N_icmp_ne (tgt := 296) d_R_nextToken_289 (by decide) (by omega) (by omega) (fun c289 => ?_) (fun c289 => ?_)
                  · refine J_iconst (v := nI 5) d_R_nextToken_296 rfl ?_
                    refine M_put d_R_nextToken_297 p_R_158 rfl rfl rfl rfl ?_
                    refine J_aload_n (i := 0) d_R_nextToken_300 rfl rfl ?_
                    refine J_dup d_R_nextToken_301 rfl ?_
                    refine M_get (x := (nI ((sk B p) + 1))) d_R_nextToken_302 f_R_149 rfl rfl rfl ?_
                    refine J_iconst (v := nI 1) d_R_nextToken_305 rfl ?_
                    refine N_iadd d_R_nextToken_306 ?_
                    refine M_put d_R_nextToken_307 p_R_149 rfl rfl rfl rfl ?_
                    refine M_vr d_R_nextToken_310 rfl ?_
                    have e14 : tR B (sk B p) = 5 := (tR_s h256 c72 c155).trans ((if_neg (by omega)).trans (if_pos ⟨by omega, by omega⟩))
                    exact ⟨rfl, okF (okF (okF (okF (okF (okF hX))))), (offNx_F (offNx_F (offNx_F (offNx_F (offNx_F (offNx_F (offNx_0 X) (by decide)) (by decide)) (by decide)) (by decide)) (by decide)) (by decide)), ((pF_k (by decide)).trans ((pF_k (by decide)).trans ((pF_k (by decide)).trans ((pF_k (by decide)).trans pF_at)))), pF_at.trans (congrArg nI ((eN_sg h256 c155 c72).trans (if_pos ⟨by omega, by omega⟩)).symm), ((pF_k (by decide)).trans pF_at).trans (congrArg nI ((tR_s h256 c72 c155).trans ((if_neg (by omega)).trans (if_pos ⟨by omega, by omega⟩))).symm), (fun z => absurd z (by rw [e14]; decide)), (fun z => absurd z (by rw [e14]; decide))⟩
                  · refine J_iconst (v := nI 4) d_R_nextToken_292 rfl ?_
                    refine J_goto (tgt := 297) d_R_nextToken_293 (by decide) ?_
                    refine M_put d_R_nextToken_297 p_R_158 rfl rfl rfl rfl ?_
                    refine J_aload_n (i := 0) d_R_nextToken_300 rfl rfl ?_
                    refine J_dup d_R_nextToken_301 rfl ?_
                    refine M_get (x := (nI ((sk B p) + 1))) d_R_nextToken_302 f_R_149 rfl rfl rfl ?_
                    refine J_iconst (v := nI 1) d_R_nextToken_305 rfl ?_
                    refine N_iadd d_R_nextToken_306 ?_
                    refine M_put d_R_nextToken_307 p_R_149 rfl rfl rfl rfl ?_
                    refine M_vr d_R_nextToken_310 rfl ?_
                    have e14 : tR B (sk B p) = 4 := (tR_s h256 c72 c155).trans (if_pos ⟨by omega, by omega⟩)
                    exact ⟨rfl, okF (okF (okF (okF (okF (okF hX))))), (offNx_F (offNx_F (offNx_F (offNx_F (offNx_F (offNx_F (offNx_0 X) (by decide)) (by decide)) (by decide)) (by decide)) (by decide)) (by decide)), ((pF_k (by decide)).trans ((pF_k (by decide)).trans ((pF_k (by decide)).trans ((pF_k (by decide)).trans pF_at)))), pF_at.trans (congrArg nI ((eN_sg h256 c155 c72).trans (if_pos ⟨by omega, by omega⟩)).symm), ((pF_k (by decide)).trans pF_at).trans (congrArg nI ((tR_s h256 c72 c155).trans (if_pos ⟨by omega, by omega⟩)).symm), (fun z => absurd z (by rw [e14]; decide)), (fun z => absurd z (by rw [e14]; decide))⟩
              · have hb2 := hB.2.2 (sk B p + 1) (by omega)
                refine J_aload_n (i := 0) d_R_nextToken_272 rfl rfl ?_
                refine J_aload_n (i := 0) d_R_nextToken_273 rfl rfl ?_
                refine M_get (x := (nI ((sk B p) + 1))) d_R_nextToken_274 f_R_149 rfl rfl rfl ?_
                refine CV_I (av := [.int (nI ((sk B p) + 1))]) d_R_nextToken_277 s_R_152 (M_rcv rfl (by decide) rfl) (S_R_byteAt_e (okF hX) hB (by repeat first | exact hV | refine RV_F ?_ (by decide) | refine RV_W ?_) (by omega) (by omega)) (by decide) rfl rfl (Nat.le_of_ble_eq_true rfl) ?_
                refine J_bipush (v := nI 61) d_R_nextToken_280 rfl ?_
                refine J_icmp_ne (tgt := 310) d_R_nextToken_282 (by decide) (fun c282 => ?_) (fun c282 => absurd c282 (by decide))
                refine M_vr d_R_nextToken_310 rfl ?_
                have hn : ¬ ((B (sk B p) = 60 ∨ B (sk B p) = 62) ∧ B (sk B p + 1) = 61) := by rw [hB.2.2 (sk B p + 1) (by omega)]; omega
                have e14 : tR B (sk B p) = B (sk B p) := (tR_s h256 c72 c155).trans ((if_neg (fun z => hn ⟨Or.inl z.1, z.2⟩)).trans ((if_neg (fun z => hn ⟨Or.inr z.1, z.2⟩)).trans (by rw [c239]; rfl)))
                exact ⟨rfl, okF (okF (okF (okF hX))), (offNx_F (offNx_F (offNx_F (offNx_F (offNx_0 X) (by decide)) (by decide)) (by decide)) (by decide)), ((pF_k (by decide)).trans ((pF_k (by decide)).trans pF_at)), pF_at.trans (congrArg nI ((eN_sg h256 c155 c72).trans (if_neg hn)).symm), ((pF_k (by decide)).trans pF_at).trans (congrArg nI (e14).symm), (fun z => absurd z (by rw [e14]; exact (sg_12 c239).1)), (fun z => absurd z (by rw [e14]; exact (sg_12 c239).2))⟩
      · refine J_aload_n (i := 0) d_R_nextToken_158 rfl rfl ?_
        refine J_iconst (v := nI 2) d_R_nextToken_159 rfl ?_
        refine M_put d_R_nextToken_160 p_R_158 rfl rfl rfl rfl ?_
        refine J_aload_n (i := 0) d_R_nextToken_163 rfl rfl ?_
        refine J_lconst (v := 0) d_R_nextToken_164 rfl ?_
        refine M_putW d_R_nextToken_165 p_R_171 rfl ?_
        have e12 : (pW (pF (pF (pF X 244 12 (nI (sk B p))) 244 13 (nI (sk B p))) 244 14 (nI 2)) 0).1 244 12 = nI (sk B p) := (show (pF (pF (pF X 244 12 (nI (sk B p))) 244 13 (nI (sk B p))) 244 14 (nI 2)).1 244 12 = nI (sk B p) from ((pF_k (by decide)).trans ((pF_k (by decide)).trans pF_at)))
        refine (lp_nt_word (Z := (pF (pF (pF X 244 12 (nI (sk B p))) 244 13 (nI (sk B p))) 244 14 (nI 2))) (okF (okF (okF hX))) hB (by repeat first | exact hV | refine RV_F ?_ (by decide) | refine RV_W ?_) hqm ?_ (m - sk B p) (sk B p) 0 rfl (Nat.le_refl _) hqm rfl (by rw [Nat.sub_self]; rfl)).eq rfl rfl (congrArg hm (pF_same e12).symm)
        refine M_vr d_R_nextToken_310 rfl ?_
        exact ⟨rfl, okF (okF (okF (okF hX))), (offNx_F (offNx_W (offNx_F (offNx_F (offNx_F (offNx_0 X) (by decide)) (by decide)) (by decide))) (by decide)), ((pF_k (by decide)).trans (show (pF (pF (pF X 244 12 (nI (sk B p))) 244 13 (nI (sk B p))) 244 14 (nI 2)).1 244 13 = nI (sk B p) from ((pF_k (by decide)).trans pF_at))), pF_at.trans (congrArg nI (eN_w h256 c155).symm), ((pF_k (by decide)).trans (show (pF (pF (pF X 244 12 (nI (sk B p))) 244 13 (nI (sk B p))) 244 14 (nI 2)).1 244 14 = nI 2 from pF_at)).trans (congrArg nI (tR_2 h256 c72 c155).symm), (fun z => absurd z (by rw [tR_2 h256 c72 c155]; decide)), (fun _ => rfl)⟩
    · refine J_aload_n (i := 0) d_R_nextToken_75 rfl rfl ?_
      refine J_iconst (v := nI 1) d_R_nextToken_76 rfl ?_
      refine M_put d_R_nextToken_77 p_R_158 rfl rfl rfl rfl ?_
      refine J_aload_n (i := 0) d_R_nextToken_80 rfl rfl ?_
      refine J_iconst (v := nI 0) d_R_nextToken_81 rfl ?_
      refine M_put d_R_nextToken_82 p_R_164 rfl rfl rfl rfl ?_
      have e12 : (pF (pF (pF (pF X 244 12 (nI (sk B p))) 244 13 (nI (sk B p))) 244 14 (nI 1)) 244 15 (nI 0)).1 244 12 = nI (sk B p) := ((pF_k (by decide)).trans ((pF_k (by decide)).trans ((pF_k (by decide)).trans pF_at)))
      refine (lp_nt_digit (Z := (pF (pF (pF X 244 12 (nI (sk B p))) 244 13 (nI (sk B p))) 244 14 (nI 1))) (okF (okF (okF hX))) hB (by repeat first | exact hV | refine RV_F ?_ (by decide) | refine RV_W ?_) hqm ?_ (m - sk B p) (sk B p) 0 rfl (Nat.le_refl _) hqm rfl (by rw [Nat.sub_self]; rfl) (fun i hi => absurd hi (by omega))).eq rfl rfl (congrArg hm (pF_same e12).symm)
      refine M_vr d_R_nextToken_310 rfl ?_
      exact ⟨rfl, okF (okF (okF (okF (okF hX)))), (offNx_F (offNx_F (offNx_F (offNx_F (offNx_F (offNx_0 X) (by decide)) (by decide)) (by decide)) (by decide)) (by decide)), ((pF_k (by decide)).trans ((pF_k (by decide)).trans ((pF_k (by decide)).trans pF_at))), pF_at.trans (congrArg nI (eN_d h256 c72).symm), ((pF_k (by decide)).trans ((pF_k (by decide)).trans pF_at)).trans (congrArg nI (tR_1 h256 c72).symm), (fun _ => ((pF_k (by decide)).trans pF_at)), (fun z => absurd z (by rw [tR_1 h256 c72]; decide))⟩
  · have h256 : B (sk B p) = 256 := hB.2.2 _ (by omega)
    refine J_aload_n (i := 0) d_R_nextToken_39 rfl rfl ?_
    refine J_aload_n (i := 0) d_R_nextToken_40 rfl rfl ?_
    refine M_get (x := (nI (sk B p))) d_R_nextToken_41 f_R_149 rfl rfl (by first | exact pF_at | exact (pF_k (by decide)).trans pF_at | exact (pF_k (by decide)).trans ((pF_k (by decide)).trans pF_at)) ?_
    refine M_put d_R_nextToken_44 p_R_155 rfl rfl rfl rfl ?_
    refine J_aload_n (i := 0) d_R_nextToken_47 rfl rfl ?_
    refine J_aload_n (i := 0) d_R_nextToken_48 rfl rfl ?_
    refine M_get (x := (nI (sk B p))) d_R_nextToken_49 f_R_149 rfl rfl (by first | exact pF_at | exact (pF_k (by decide)).trans pF_at | exact (pF_k (by decide)).trans ((pF_k (by decide)).trans pF_at)) ?_
    refine CV_I (av := [.int (nI (sk B p))]) d_R_nextToken_52 s_R_152 (M_rcv rfl (by decide) rfl) (S_R_byteAt_e (okF hX) hB (by repeat first | exact hV | refine RV_F ?_ (by decide) | refine RV_W ?_) (by omega) (by omega)) (by decide) rfl rfl (Nat.le_of_ble_eq_true rfl) ?_
    refine J_istore_n (i := 1) (L1 := [some (.ref 244), some (.int (-1))]) d_R_nextToken_55 rfl (by decide) rfl ?_
    refine J_iload_n (i := 1) d_R_nextToken_56 rfl rfl ?_
    refine J_if_ge (tgt := 68) d_R_nextToken_57 (by decide) (fun c57 => absurd c57 (by decide)) (fun c57 => ?_)
    refine J_aload_n (i := 0) d_R_nextToken_60 rfl rfl ?_
    refine J_iconst (v := nI 0) d_R_nextToken_61 rfl ?_
    refine M_put d_R_nextToken_62 p_R_158 rfl rfl rfl rfl ?_
    refine J_goto (tgt := 310) d_R_nextToken_65 (by decide) ?_
    refine M_vr d_R_nextToken_310 rfl ?_
    exact ⟨rfl, okF (okF (okF hX)), (offNx_F (offNx_F (offNx_F (offNx_0 X) (by decide)) (by decide)) (by decide)), ((pF_k (by decide)).trans pF_at), ((pF_k (by decide)).trans ((pF_k (by decide)).trans pF_at)).trans (congrArg nI (eN_0 h256).symm), pF_at.trans (congrArg nI (tR_0 h256).symm), (fun z => absurd z (by rw [tR_0 h256]; decide)), (fun z => absurd z (by rw [tR_0 h256]; decide))⟩
