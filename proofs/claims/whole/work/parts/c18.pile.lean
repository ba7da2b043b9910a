theorem emR_F {X : Mem} {t c k : Nat} {a v : Int32} (h : k ≠ 18) : (emR X t c a v).1 244 k = X.1 244 k := pF_k h
theorem emR_8 {X : Mem} {t c : Nat} {a v : Int32} : (emR X t c a v).1 244 18 = nI (c + 1) := pF_at
theorem emR_A {X : Mem} {t c b : Nat} {a v : Int32} (h : b ≠ 251) : (emR X t c a v).2.1 b = X.2.1 b := if_neg h
theorem lp_R_settle {d : Nat} {X : Mem} {t r c0 : Nat} {Q : Option Value → Mem → Prop} (hd : 1 ≤ d) (ht : t < 4) (hr7 : r < 10) : ∀ (P : List Nat) (m : Nat) (K : Kd) (Y : Mem), Ok Y → offM t c0 X Y → MSR Y t P m K → ctQ P ≤ m → m < 100 → K.length + P.length ≤ 300 → c0 ≤ K.length → P.length ≤ 150 → (∀ Z, Ok Z → offM t c0 X Z → MSR Z t (stl r P m K).1 (stl r P m K).2.1 (stl r P m K).2.2 → Q none Z) → JM d m_R_settle Q 0 [some (.ref 244), some (.int (nI r))] [] Y
  | [], m, K, Y, hY, hof, hM, hct, hm, hl, hc, hp, kx => by
    obtain ⟨⟨g22, gP⟩, g23, g18, g17, g⟩ := hM
    have g22 : Y.1 244 22 = nI 0 := g22
    refine J_aload_n (i := 0) d_R_settle_0 rfl rfl ?_
    refine M_get (x := (nI 0)) d_R_settle_1 f_R_213 rfl rfl g22 ?_
    refine N_if_le (tgt := 93) d_R_settle_4 (by decide) (by omega) (fun c4 => ?_) (fun c4 => absurd c4 (by decide))
    refine M_vr d_R_settle_93 rfl ?_
    exact kx Y hY hof ⟨⟨g22, gP⟩, g23, g18, g17, g⟩
  | a :: P, m, K, Y, hY, hof, hM, hct, hm, hl, hc, hp, kx => by
    have hM2 := hM
    obtain ⟨⟨g22, h1, h2, h3⟩, g23, g18, g17, g⟩ := hM
    have g22 : Y.1 244 22 = nI (P.length + 1) := g22
    have hl : K.length + (P.length + 1) ≤ 300 := hl
    have hl2 : P.length + 1 ≤ 150 := hp
    have hct : ctP a + ctQ P ≤ m := hct
    have hr := rkP_le a
    refine J_aload_n (i := 0) d_R_settle_0 rfl rfl ?_
    refine M_get (x := (nI (P.length + 1))) d_R_settle_1 f_R_213 rfl rfl g22 ?_
    refine N_if_le (tgt := 93) d_R_settle_4 (by decide) (by omega) (fun c4 => absurd c4 (by omega)) (fun c4 => ?_)
    refine J_aload_n (i := 0) d_R_settle_7 rfl rfl ?_
    refine M_getR (b := 254) d_R_settle_8 f_R_44 rfl rfl rfl ?_
    refine J_aload_n (i := 0) d_R_settle_11 rfl rfl ?_
    refine M_get (x := (nI (P.length + 1))) d_R_settle_12 f_R_213 rfl rfl g22 ?_
    refine J_iconst (v := nI 1) d_R_settle_15 rfl ?_
    refine N_isub d_R_settle_16 (by omega) ?_
    refine N_iald (x := (nI a)) d_R_settle_17 rfl (by omega) (ltL hY (a := 254) (n := 160) (by decide) rfl (by omega)) h1 ?_
    refine CS_N (av := [.int (nI a)]) d_R_settle_18 s_R_216 (S_R_rank h2) (by omega) rfl rfl (Nat.le_of_ble_eq_true rfl) ?_
    refine J_iload_n (i := 1) d_R_settle_21 rfl rfl ?_
    refine N_icmp_lt (tgt := 93) d_R_settle_22 (by decide) (by omega) (by omega) (fun c22 => ?_) (fun c22 => ?_)
    · refine M_vr d_R_settle_93 rfl ?_
      rw [show stl r (a :: P) m K = (a :: P, (m, K)) from if_neg (by omega)] at kx
      exact kx Y hY hof hM2
    · refine J_aload_n (i := 0) d_R_settle_25 rfl rfl ?_
      refine J_dup d_R_settle_26 rfl ?_
      refine M_get (x := (nI (P.length + 1))) d_R_settle_27 f_R_213 rfl rfl g22 ?_
      refine J_iconst (v := nI 1) d_R_settle_30 rfl ?_
      refine N_isub d_R_settle_31 (by omega) ?_
      refine M_put d_R_settle_32 p_R_213 rfl rfl rfl rfl ?_
      refine J_aload_n (i := 0) d_R_settle_35 rfl rfl ?_
      refine J_aload_n (i := 0) d_R_settle_36 rfl rfl ?_
      refine M_getR (b := 254) d_R_settle_37 f_R_44 rfl rfl rfl ?_
      refine J_aload_n (i := 0) d_R_settle_40 rfl rfl ?_
      refine M_get (x := (nI ((P.length + 1) - 1))) d_R_settle_41 f_R_213 rfl rfl rfl ?_
      refine N_iald (x := (nI a)) d_R_settle_44 rfl (by omega) (ltL hY (a := 254) (n := 160) (by decide) rfl (by omega)) h1 ?_
      refine J_iconst (v := nI 0) d_R_settle_45 rfl ?_
      refine CV_V (av := [.int (nI a), .int (nI 0)]) d_R_settle_46 s_R_219 (M_rcv rfl (by decide) rfl) (S_R_emit (X := (pF Y 244 22 (nI (P.length + 1 - 1)))) (t := t) (c := K.length) (okF hY) ((pF_k (by decide)).trans g17) ((pF_k (by decide)).trans g18) ht (by omega)) (by omega) rfl rfl (Nat.le_of_ble_eq_true rfl) ?_
      refine J_aload_n (i := 0) d_R_settle_49 rfl rfl ?_
      refine M_getR (b := 254) d_R_settle_50 f_R_44 rfl rfl rfl ?_
      refine J_aload_n (i := 0) d_R_settle_53 rfl rfl ?_
      refine M_get (x := (nI (P.length + 1 - 1))) d_R_settle_54 f_R_213 rfl rfl ((emR_F (by decide)).trans pF_at) ?_
      refine N_iald (x := (nI a)) d_R_settle_57 rfl (by omega) (ltL (emR_Ok (okF hY)) (a := 254) (n := 160) (by decide) rfl (by omega)) h1 ?_
      refine CS_N (av := [.int (nI a)]) d_R_settle_58 s_R_216 (S_R_rank h2) (by omega) rfl rfl (Nat.le_of_ble_eq_true rfl) ?_
      refine J_bipush (v := nI 7) d_R_settle_61 rfl ?_
      refine N_icmp_eq (tgt := 80) d_R_settle_63 (by decide) (by omega) (by omega) (fun c63 => ?_) (fun c63 => ?_)
      · have hc1 : ctP a = 1 := if_pos (by omega)
        refine J_aload_n (i := 0) d_R_settle_80 rfl rfl ?_
        refine J_dup d_R_settle_81 rfl ?_
        refine M_get (x := (nI m)) d_R_settle_82 f_R_223 rfl rfl ((emR_F (by decide)).trans ((pF_k (by decide)).trans g23)) ?_
        refine J_iconst (v := nI 1) d_R_settle_85 rfl ?_
        refine N_isub d_R_settle_86 (by omega) ?_
        refine M_put d_R_settle_87 p_R_223 rfl rfl rfl rfl ?_
        refine J_goto (tgt := 0) d_R_settle_90 (by decide) ?_
        refine lp_R_settle hd ht hr7 P (m - ctP a) ((a, 0) :: K) (pF (emR (pF Y 244 22 (nI (P.length + 1 - 1))) t K.length (nI a) (nI 0)) 244 23 (nI (m - 1))) (okF (emR_Ok (okF hY))) (offM_t hof (offM_t (offM_F (Or.inr (Or.inl rfl))) (offM_t (offM_E (by omega)) (offM_F (c := K.length) (Or.inr (Or.inr rfl))) (Nat.le_refl _)) (Nat.le_refl _)) (by omega)) ⟨⟨?_, PL_e (X := Y) (Y := (pF (emR (pF Y 244 22 (nI (P.length + 1 - 1))) t K.length (nI a) (nI 0)) 244 23 (nI (m - 1)))) (emR_A (X := (pF Y 244 22 (nI (P.length + 1 - 1)))) (t := t) (c := K.length) (a := nI a) (v := nI 0) (b := 254) (by decide)) h3⟩, ?_, ?_, ?_, ?_⟩ (by omega) (by omega) (by show K.length + 1 + P.length ≤ 300; omega) (by show c0 ≤ K.length + 1; omega) (by omega) ?_
        · exact ((pF_k (by decide)).trans ((emR_F (by decide)).trans pF_at))
        · rw [hc1]; exact pF_at
        · exact ((pF_k (by decide)).trans emR_8)
        · exact ((pF_k (by decide)).trans ((emR_F (by decide)).trans ((pF_k (by decide)).trans g17)))
        · exact EC_e (X := (emR (pF Y 244 22 (nI (P.length + 1 - 1))) t K.length (nI a) (nI 0))) (fun _ _ => rfl) (EC_E (X := (pF Y 244 22 (nI (P.length + 1 - 1)))) (K := K) (a := a) (v := 0) (okF hY) ht (by omega) (EC_e (X := Y) (fun _ _ => rfl) g))
        · rw [show stl r (a :: P) m K = stl r P (m - ctP a) ((a, 0) :: K) from if_pos (by omega)] at kx
          exact kx
      · refine J_aload_n (i := 0) d_R_settle_66 rfl rfl ?_
        refine M_getR (b := 254) d_R_settle_67 f_R_44 rfl rfl rfl ?_
        refine J_aload_n (i := 0) d_R_settle_70 rfl rfl ?_
        refine M_get (x := (nI (P.length + 1 - 1))) d_R_settle_71 f_R_213 rfl rfl ((emR_F (by decide)).trans pF_at) ?_
        refine N_iald (x := (nI a)) d_R_settle_74 rfl (by omega) (ltL (emR_Ok (okF hY)) (a := 254) (n := 160) (by decide) rfl (by omega)) h1 ?_
        refine J_bipush (v := nI 20) d_R_settle_75 rfl ?_
        refine N_icmp_ne (tgt := 0) d_R_settle_77 (by decide) (by omega) (by omega) (fun c77 => ?_) (fun c77 => ?_)
        · have hc1 : ctP a = 0 := if_neg (by omega)
          refine lp_R_settle hd ht hr7 P (m - ctP a) ((a, 0) :: K) (emR (pF Y 244 22 (nI (P.length + 1 - 1))) t K.length (nI a) (nI 0)) (emR_Ok (okF hY)) (offM_t hof (offM_t (offM_F (Or.inr (Or.inl rfl))) (offM_E (by omega)) (Nat.le_refl _)) (by omega)) ⟨⟨?_, PL_e (X := Y) (Y := (emR (pF Y 244 22 (nI (P.length + 1 - 1))) t K.length (nI a) (nI 0))) (emR_A (X := (pF Y 244 22 (nI (P.length + 1 - 1)))) (t := t) (c := K.length) (a := nI a) (v := nI 0) (b := 254) (by decide)) h3⟩, ?_, ?_, ?_, ?_⟩ (by omega) (by omega) (by show K.length + 1 + P.length ≤ 300; omega) (by show c0 ≤ K.length + 1; omega) (by omega) ?_
          · exact (((emR_F (by decide)).trans pF_at))
          · rw [hc1]; exact ((emR_F (by decide)).trans ((pF_k (by decide)).trans g23))
          · exact (emR_8)
          · exact (((emR_F (by decide)).trans ((pF_k (by decide)).trans g17)))
          · exact EC_e (X := (emR (pF Y 244 22 (nI (P.length + 1 - 1))) t K.length (nI a) (nI 0))) (fun _ _ => rfl) (EC_E (X := (pF Y 244 22 (nI (P.length + 1 - 1)))) (K := K) (a := a) (v := 0) (okF hY) ht (by omega) (EC_e (X := Y) (fun _ _ => rfl) g))
          · rw [show stl r (a :: P) m K = stl r P (m - ctP a) ((a, 0) :: K) from if_pos (by omega)] at kx
            exact kx
        · have hc1 : ctP a = 1 := if_pos (by omega)
          refine J_aload_n (i := 0) d_R_settle_80 rfl rfl ?_
          refine J_dup d_R_settle_81 rfl ?_
          refine M_get (x := (nI m)) d_R_settle_82 f_R_223 rfl rfl ((emR_F (by decide)).trans ((pF_k (by decide)).trans g23)) ?_
          refine J_iconst (v := nI 1) d_R_settle_85 rfl ?_
          refine N_isub d_R_settle_86 (by omega) ?_
          refine M_put d_R_settle_87 p_R_223 rfl rfl rfl rfl ?_
          refine J_goto (tgt := 0) d_R_settle_90 (by decide) ?_
          refine lp_R_settle hd ht hr7 P (m - ctP a) ((a, 0) :: K) (pF (emR (pF Y 244 22 (nI (P.length + 1 - 1))) t K.length (nI a) (nI 0)) 244 23 (nI (m - 1))) (okF (emR_Ok (okF hY))) (offM_t hof (offM_t (offM_F (Or.inr (Or.inl rfl))) (offM_t (offM_E (by omega)) (offM_F (c := K.length) (Or.inr (Or.inr rfl))) (Nat.le_refl _)) (Nat.le_refl _)) (by omega)) ⟨⟨?_, PL_e (X := Y) (Y := (pF (emR (pF Y 244 22 (nI (P.length + 1 - 1))) t K.length (nI a) (nI 0)) 244 23 (nI (m - 1)))) (emR_A (X := (pF Y 244 22 (nI (P.length + 1 - 1)))) (t := t) (c := K.length) (a := nI a) (v := nI 0) (b := 254) (by decide)) h3⟩, ?_, ?_, ?_, ?_⟩ (by omega) (by omega) (by show K.length + 1 + P.length ≤ 300; omega) (by show c0 ≤ K.length + 1; omega) (by omega) ?_
          · exact ((pF_k (by decide)).trans ((emR_F (by decide)).trans pF_at))
          · rw [hc1]; exact pF_at
          · exact ((pF_k (by decide)).trans emR_8)
          · exact ((pF_k (by decide)).trans ((emR_F (by decide)).trans ((pF_k (by decide)).trans g17)))
          · exact EC_e (X := (emR (pF Y 244 22 (nI (P.length + 1 - 1))) t K.length (nI a) (nI 0))) (fun _ _ => rfl) (EC_E (X := (pF Y 244 22 (nI (P.length + 1 - 1)))) (K := K) (a := a) (v := 0) (okF hY) ht (by omega) (EC_e (X := Y) (fun _ _ => rfl) g))
          · rw [show stl r (a :: P) m K = stl r P (m - ctP a) ((a, 0) :: K) from if_pos (by omega)] at kx
            exact kx
theorem S_R_settle {X : Mem} {t r m : Nat} {P : List Nat} {K : Kd} (hX : Ok X) (ht : t < 4) (hr7 : r < 10) (hM : MSR X t P m K) (hct : ctQ P ≤ m) (hm : m < 100) (hl : K.length + P.length ≤ 300) (hp : P.length ≤ 150) : CM 1 m_R_settle [.ref 244, .int (nI r)] X (fun q Y => q = none ∧ Ok Y ∧ offM t K.length X Y ∧ MSR Y t (stl r P m K).1 (stl r P m K).2.1 (stl r P m K).2.2) := by
  refine CM_of (L := [some (.ref 244), some (.int (nI r))]) 0 ok_R_settle (fun _ => Nat.le_of_ble_eq_true rfl) rfl ?_
  exact lp_R_settle (Nat.le_refl 1) ht hr7 P m K X hX (offM_0 t K.length X) hM hct hm hl (Nat.le_refl _) hp (fun Z h1 h2 h3 => ⟨rfl, h1, h2, h3⟩)
