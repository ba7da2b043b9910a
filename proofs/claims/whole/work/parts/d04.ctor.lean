theorem lyX_o {Y : Mem} {T : LyT} {b : Nat} (h1 : b ≠ 250) (h2 : b ≠ 248) (h3 : b ≠ 247) : (lyX Y T).2.1 b = Y.2.1 b := (if_neg h1).trans ((if_neg h2).trans (if_neg h3))
def bcV (j : Nat) : Int32 := oI (SOFL.getD (9 * pbN (ONEL.getD (j % 20) 0) (j / 20) + pbN (OTHL.getD (j % 20) 0) (j / 20)) 0)
def bcF (i : Nat) : Nat → Int32 := fun j => if j < i then bcV j else 0
theorem bcF_up {i : Nat} {v : Int32} (hv : v = bcV i) : (ofF 160 (bcF i)).set i v = ofF 160 (bcF (i + 1)) := by
  rw [ofF_set]
  refine ofF_cong (fun j _ => ?_)
  show (if j = i then v else (if j < i then bcV j else 0)) = (if j < i + 1 then bcV j else 0)
  by_cases c : j = i
  · rw [if_pos c, if_pos (by omega), c, hv]
  · rw [if_neg c]
    by_cases c2 : j < i
    · rw [if_pos c2, if_pos (by omega)]
    · rw [if_neg c2, if_neg (by omega)]
theorem bcV_e {w s : Nat} (hs : s < 20) : oI (SOFL.getD (9 * pbN (ONEL.getD s 0) w + pbN (OTHL.getD s 0) w) 0) = bcV (20 * w + s) := by
  unfold bcV
  rw [show (20 * w + s) % 20 = s by omega, show (20 * w + s) / 20 = w by omega]
theorem bc_all : ofF 160 (bcF 160) = BECL.map nI := by decide +kernel
theorem one_9 : ∀ s, s < 20 → ONEL.getD s 0 < 9 ∧ OTHL.getD s 0 < 9 := by decide +kernel
theorem lp_R_init3 {Z : Mem} {Q : Option Value → Mem → Prop} (hZ : OkL Z) (h1 : ∀ j, (Z.2.1 247).getD j 0 = nI (ONEL.getD j 0)) (h2 : ∀ j, (Z.2.1 248).getD j 0 = nI (OTHL.getD j 0)) (h3 : ∀ j, (Z.2.1 250).getD j 0 = oI (SOFL.getD j 0)) {w : Nat} (hw : w < 8) (kx : ∀ z, JM 2 m_R_init Q 411 [some (.ref 244), some (.int (nI w)), z] [] (pA Z 249 (ofF 160 (bcF (20 * w + 20))))) : ∀ (n s : Nat), s + n = 20 → JM 2 m_R_init Q 359 [some (.ref 244), some (.int (nI w)), some (.int (nI s))] [] (pA Z 249 (ofF 160 (bcF (20 * w + s)))) := by
  intro n
  induction n with
  | zero =>
    intro s hs
    have h20 : s = 20 := by omega
    subst h20
    refine J_iload_n (i := 2) d_R_init_359 rfl rfl ?_
    refine J_bipush (v := nI 20) d_R_init_360 rfl ?_
    refine N_icmp_ge (tgt := 411) d_R_init_362 (by decide) (by omega) (by omega) (fun c362 => ?_) (fun c362 => absurd c362 (by omega))
    exact kx _
  | succ n ih =>
    intro s hs
    have hk : OkL (pA Z 249 (ofF 160 (bcF (20 * w + s)))) := okK hZ (by rw [ofF_len]; exact (hZ.1 249 (by decide)).symm)
    have ob := one_9 s (by omega)
    have p1 := pb_lt _ ob.1 w hw
    have p2 := pb_lt _ ob.2 w hw
    refine J_iload_n (i := 2) d_R_init_359 rfl rfl ?_
    refine J_bipush (v := nI 20) d_R_init_360 rfl ?_
    refine N_icmp_ge (tgt := 411) d_R_init_362 (by decide) (by omega) (by omega) (fun c362 => absurd c362 (by omega)) (fun c362 => ?_)
    refine J_aload_n (i := 0) d_R_init_365 rfl rfl ?_
    refine M_getR (b := 249) d_R_init_366 f_R_22 rfl rfl rfl ?_
    refine J_bipush (v := nI 20) d_R_init_369 rfl ?_
    refine J_iload_n (i := 1) d_R_init_371 rfl rfl ?_
    refine N_imul d_R_init_372 ?_
    refine J_iload_n (i := 2) d_R_init_373 rfl rfl ?_
    refine N_iadd d_R_init_374 ?_
    refine J_aload_n (i := 0) d_R_init_375 rfl rfl ?_
    refine M_getR (b := 250) d_R_init_376 f_R_25 rfl rfl rfl ?_
    refine J_bipush (v := nI 9) d_R_init_379 rfl ?_
    refine J_aload_n (i := 0) d_R_init_381 rfl rfl ?_
    refine M_getR (b := 247) d_R_init_382 f_R_16 rfl rfl rfl ?_
    refine J_iload_n (i := 2) d_R_init_385 rfl rfl ?_
    refine N_iald (x := (nI (ONEL.getD s 0))) d_R_init_386 rfl (by omega) (ltK hk (a := 247) (n := 20) (by decide) rfl (by omega)) (h1 s) ?_
    refine J_iload_n (i := 1) d_R_init_387 rfl rfl ?_
    refine CS_N (av := [.int (nI (ONEL.getD s 0)), .int (nI w)]) d_R_init_388 s_R_81 (S_R_pointBy (p := (ONEL.getD s 0)) (w := w) ob.1 (by omega)) (by decide) rfl rfl (Nat.le_of_ble_eq_true rfl) ?_
    refine N_imul d_R_init_391 ?_
    refine J_aload_n (i := 0) d_R_init_392 rfl rfl ?_
    refine M_getR (b := 248) d_R_init_393 f_R_19 rfl rfl rfl ?_
    refine J_iload_n (i := 2) d_R_init_396 rfl rfl ?_
    refine N_iald (x := (nI (OTHL.getD s 0))) d_R_init_397 rfl (by omega) (ltK hk (a := 248) (n := 20) (by decide) rfl (by omega)) (h2 s) ?_
    refine J_iload_n (i := 1) d_R_init_398 rfl rfl ?_
    refine CS_N (av := [.int (nI (OTHL.getD s 0)), .int (nI w)]) d_R_init_399 s_R_81 (S_R_pointBy (p := (OTHL.getD s 0)) (w := w) ob.2 (by omega)) (by decide) rfl rfl (Nat.le_of_ble_eq_true rfl) ?_
    refine N_iadd d_R_init_402 ?_
    refine N_iald (x := (oI (SOFL.getD ((9 * (pbN (ONEL.getD s 0) w)) + (pbN (OTHL.getD s 0) w)) 0))) d_R_init_403 rfl (by omega) (ltK hk (a := 250) (n := 81) (by decide) rfl (by omega)) (h3 _) ?_
    refine N_iast d_R_init_404 rfl (by decide) (by omega) (ltK hk (a := 249) (n := 160) (by decide) rfl (by omega)) ?_
    refine N_iinc (a := s) (c := 1) (L1 := [some (.ref 244), some (.int (nI w)), some (.int (nI (s + 1)))]) d_R_init_405 rfl rfl (by decide) rfl ?_
    refine J_goto (tgt := 359) d_R_init_408 (by decide) ?_
    rw [pA2 (bcF_up (bcV_e (by omega)))]
    exact ih (s + 1) (by omega)
theorem lp_R_init4 {Z : Mem} {Q : Option Value → Mem → Prop} (hZ : OkL Z) (h1 : ∀ j, (Z.2.1 247).getD j 0 = nI (ONEL.getD j 0)) (h2 : ∀ j, (Z.2.1 248).getD j 0 = nI (OTHL.getD j 0)) (h3 : ∀ j, (Z.2.1 250).getD j 0 = oI (SOFL.getD j 0)) (kx : ∀ z z2, JM 2 m_R_init Q 417 [some (.ref 244), z, z2] [] (pA Z 249 (ofF 160 (bcF 160)))) : ∀ (n w : Nat) (z2 : Option Value), w + n = 8 → JM 2 m_R_init Q 351 [some (.ref 244), some (.int (nI w)), z2] [] (pA Z 249 (ofF 160 (bcF (20 * w)))) := by
  intro n
  induction n with
  | zero =>
    intro w z2 hw
    have h8 : w = 8 := by omega
    subst h8
    refine J_iload_n (i := 1) d_R_init_351 rfl rfl ?_
    refine J_bipush (v := nI 8) d_R_init_352 rfl ?_
    refine N_icmp_ge (tgt := 417) d_R_init_354 (by decide) (by omega) (by omega) (fun c354 => ?_) (fun c354 => absurd c354 (by omega))
    exact kx _ _
  | succ n ih =>
    intro w z2 hw
    refine J_iload_n (i := 1) d_R_init_351 rfl rfl ?_
    refine J_bipush (v := nI 8) d_R_init_352 rfl ?_
    refine N_icmp_ge (tgt := 417) d_R_init_354 (by decide) (by omega) (by omega) (fun c354 => absurd c354 (by omega)) (fun c354 => ?_)
    refine J_iconst (v := nI 0) d_R_init_357 rfl ?_
    refine J_istore_n (i := 2) (L1 := [some (.ref 244), some (.int (nI w)), some (.int (nI 0))]) d_R_init_358 rfl (by decide) rfl ?_
    refine lp_R_init3 hZ h1 h2 h3 (show w < 8 by omega) (fun z => ?_) 20 0 rfl
    refine N_iinc (a := w) (c := 1) (L1 := [some (.ref 244), some (.int (nI (w + 1))), z]) d_R_init_411 rfl rfl (by decide) rfl ?_
    refine J_goto (tgt := 351) d_R_init_414 (by decide) ?_
    rw [show 20 * w + 20 = 20 * (w + 1) by omega]
    exact ih (w + 1) z (by omega)
def rX (X : Mem) : Mem := pA (pA (lyX (pA X 245 (ofF 1217 r00)) (ONEL.map nI, (OTHL.map nI, SOFL.map oI))) 249 (BECL.map nI)) 246 (ofF 1217 r00)
theorem rX_ok {X : Mem} (hX : OkL X) (hc : X.2.1 1 = POL.map nI ∧ X.2.1 2 = MVL.map nI ∧ X.2.1 4 = WBL.map nI ∧ X.2.1 6 = SBL.map nI) : Ok (pA (lyX (pA X 245 (ofF 1217 r00)) (ONEL.map nI, (OTHL.map nI, SOFL.map oI))) 249 (BECL.map nI)) := by
  have h1 : OkL (pA X 245 (ofF 1217 r00)) := okK hX (by rw [ofF_len]; exact (hX.1 245 (by decide)).symm)
  have h2 : OkL (lyX (pA X 245 (ofF 1217 r00)) (ONEL.map nI, (OTHL.map nI, SOFL.map oI))) := okL_ly h1 ⟨by decide, by decide, by decide⟩
  have h3 : OkL (pA (lyX (pA X 245 (ofF 1217 r00)) (ONEL.map nI, (OTHL.map nI, SOFL.map oI))) 249 (BECL.map nI)) := okK h2 (by
    show (BECL.map nI).length = (X.2.1 249).length
    rw [hX.1 249 (by decide)]
    rfl)
  exact ⟨h3.1, h3.2, hc.1, hc.2.1, hc.2.2.1, hc.2.2.2, rfl, rfl, rfl, rfl⟩
theorem K_fa {d : Nat} {M : MInfo} {fc fs : Nat} {Q : Option Value → MH → Prop} {pc : Nat} {L : MLoc} {st : List Value} {k1 ci f k t N n s : Nat} {C R : List MCell} {vs : List Value} {aT : ArrayType} {ty ty2 : FieldType} (hk : C.length = k) (h8 : 8 ≤ k) (hd : decode M.2.1 pc = .ok (.newarray aT, 2)) (hw : Cond.arrayClass ty ∈ ALLW) (hty : newarray.typeOf aT = ty) (hat : aty t = some ty) (hdf : defaultValue ty = .int 0) (hN : N < 3000) (hbyt : N * componentBytes ty ≤ 536870912) (hd2 : decode M.2.1 (pc + 2) = .ok (.putfield k1, 3)) (hi0 : M.1.name = "<init>") (hf : FPF M.2.2.2.2 k1 ci f ty2) (hn : narrow ty2 (.ref n) = .ref n) (hfit : fits ty2 (.ref n) = true) (hb1 : n + 1 ≤ fc) (hb2 : s + N ≤ fs) (kk : J d M fc fs Q (pc + 2 + 3) L st (n + 1, (s + N, C ++ ([(ci, .inl (vs.set f (.ref n)))] ++ (R ++ [(t, .inr (.inl (List.replicate N 0)))]))))) : J d M fc fs Q pc L (.int (nI N) :: .ref k :: st) (n, (s, C ++ ([(ci, .inl vs)] ++ R))) := by
  refine K_arr (l' := [(ci, .inl vs)] ++ (R ++ [(t, .inr (.inl (List.replicate N 0)))])) hd hw hty hat hdf hN hbyt rfl rfl hb1 hb2 (List.append_assoc _ _ _) ?_
  exact K_putF (i := 0) hk h8 hd2 hi0 hf rfl rfl hn hfit rfl rfl kk
theorem K_faL {d : Nat} {M : MInfo} {fc fs : Nat} {Q : Option Value → MH → Prop} {pc : Nat} {L : MLoc} {st : List Value} {k1 ci f k N n s : Nat} {C R : List MCell} {vs : List Value} {ty2 : FieldType} (hk : C.length = k) (h8 : 8 ≤ k) (hd : decode M.2.1 pc = .ok (.newarray .long, 2)) (hN : N < 3000) (hbyt : N * componentBytes .long ≤ 536870912) (hd2 : decode M.2.1 (pc + 2) = .ok (.putfield k1, 3)) (hi0 : M.1.name = "<init>") (hf : FPF M.2.2.2.2 k1 ci f ty2) (hn : narrow ty2 (.ref n) = .ref n) (hfit : fits ty2 (.ref n) = true) (hb1 : n + 1 ≤ fc) (hb2 : s + N ≤ fs) (kk : J d M fc fs Q (pc + 2 + 3) L st (n + 1, (s + N, C ++ ([(ci, .inl (vs.set f (.ref n)))] ++ (R ++ [(21, .inr (.inr (List.replicate N 0)))]))))) : J d M fc fs Q pc L (.int (nI N) :: .ref k :: st) (n, (s, C ++ ([(ci, .inl vs)] ++ R))) := by
  refine K_arrL (l' := [(ci, .inl vs)] ++ (R ++ [(21, .inr (.inr (List.replicate N 0)))])) hd hN hbyt rfl rfl hb1 hb2 (List.append_assoc _ _ _) ?_
  exact K_putF (i := 0) hk h8 hd2 hi0 hf rfl rfl hn hfit rfl rfl kk
theorem K_pi {d : Nat} {M : MInfo} {fc fs : Nat} {Q : Option Value → MH → Prop} {pc : Nat} {L : MLoc} {st : List Value} {k1 ci f k n s : Nat} {C R : List MCell} {vs : List Value} {v : Value} {ty : FieldType} (hk : C.length = k) (h8 : 8 ≤ k) (hd : decode M.2.1 pc = .ok (.putfield k1, 3)) (hf : FP M.2.2.2.2 k1 ci f ty) (hn : narrow ty v = v) (hfit : fits ty v = true) (kk : J d M fc fs Q (pc + 3) L st (n, (s, C ++ ([(ci, .inl (vs.set f v))] ++ R)))) : J d M fc fs Q pc L (v :: .ref k :: st) (n, (s, C ++ ([(ci, .inl vs)] ++ R))) :=
  K_put (i := 0) hk h8 hd hf rfl rfl hn hfit rfl rfl kk
theorem sg_R {C : List MCell} {s : Nat} {Q : Option Value → MH → Prop} (hk : C.length = 244) (h8 : 8 ≤ 244) (hs : s = 5886) (kx : J 2 m_R_init 263 13716 Q 173 [some (.ref 244), none, none] [] (263, (s + 7830, C ++ modelC))) : J 2 m_R_init 263 13716 Q 0 [some (.ref 244), none, none] [] (245, (s, C ++ [(8, .inl [.null, .null, .null, .null, .null, .null, .null, .null, .null, .int 0, .int 0, .int 0, .int 0, .int 0, .int 0, .int 0, .long 0, .int 0, .int 0, .int 0, .null, .null, .int 0, .int 0, .int 0, .int 0, .int 0, .null, .null, .null, .int 0, .int 0, .null, .null, .null, .null, .int 0])])) := by
  refine J_aload_n (i := 0) d_R_init_0 rfl rfl ?_
  refine J_objInit d_R_init_1 w_R_1 w_objInit_i w_objInit_c (by decide) (Nat.le_of_ble_eq_true rfl) ?_
  refine J.eq (h1 := (245, (s, C ++ ([(8, .inl [.null, .null, .null, .null, .null, .null, .null, .null, .null, .int 0, .int 0, .int 0, .int 0, .int 0, .int 0, .int 0, .long 0, .int 0, .int 0, .int 0, .null, .null, .int 0, .int 0, .int 0, .int 0, .int 0, .null, .null, .null, .int 0, .int 0, .null, .null, .null, .null, .int 0])] ++ [])))) ?_ rfl rfl rfl
  refine J_aload_n (i := 0) d_R_init_4 rfl rfl ?_
  refine J_sipush (v := nI 1217) d_R_init_5 rfl ?_
  refine K_fa hk h8 d_R_init_8 w_arr_int rfl (t := 20) rfl rfl (by decide) (by decide) d_R_init_10 rfl p_R_7 rfl rfl (by omega) (by omega) ?_
  refine J_aload_n (i := 0) d_R_init_13 rfl rfl ?_
  refine J_sipush (v := nI 1217) d_R_init_14 rfl ?_
  refine K_fa hk h8 d_R_init_17 w_arr_int rfl (t := 20) rfl rfl (by decide) (by decide) d_R_init_19 rfl p_R_13 rfl rfl (by omega) (by omega) ?_
  refine J_aload_n (i := 0) d_R_init_22 rfl rfl ?_
  refine J_bipush (v := nI 20) d_R_init_23 rfl ?_
  refine K_fa hk h8 d_R_init_25 w_arr_int rfl (t := 20) rfl rfl (by decide) (by decide) d_R_init_27 rfl p_R_16 rfl rfl (by omega) (by omega) ?_
  refine J_aload_n (i := 0) d_R_init_30 rfl rfl ?_
  refine J_bipush (v := nI 20) d_R_init_31 rfl ?_
  refine K_fa hk h8 d_R_init_33 w_arr_int rfl (t := 20) rfl rfl (by decide) (by decide) d_R_init_35 rfl p_R_19 rfl rfl (by omega) (by omega) ?_
  refine J_aload_n (i := 0) d_R_init_38 rfl rfl ?_
  refine J_sipush (v := nI 160) d_R_init_39 rfl ?_
  refine K_fa hk h8 d_R_init_42 w_arr_int rfl (t := 20) rfl rfl (by decide) (by decide) d_R_init_44 rfl p_R_22 rfl rfl (by omega) (by omega) ?_
  refine J_aload_n (i := 0) d_R_init_47 rfl rfl ?_
  refine J_bipush (v := nI 81) d_R_init_48 rfl ?_
  refine K_fa hk h8 d_R_init_50 w_arr_int rfl (t := 20) rfl rfl (by decide) (by decide) d_R_init_52 rfl p_R_25 rfl rfl (by omega) (by omega) ?_
  refine J_aload_n (i := 0) d_R_init_55 rfl rfl ?_
  refine J_sipush (v := nI 2724) d_R_init_56 rfl ?_
  refine K_fa hk h8 d_R_init_59 w_arr_int rfl (t := 20) rfl rfl (by decide) (by decide) d_R_init_61 rfl p_R_28 rfl rfl (by omega) (by omega) ?_
  refine J_aload_n (i := 0) d_R_init_64 rfl rfl ?_
  refine J_bipush (v := nI 21) d_R_init_65 rfl ?_
  refine K_fa hk h8 d_R_init_67 w_arr_int rfl (t := 20) rfl rfl (by decide) (by decide) d_R_init_69 rfl p_R_31 rfl rfl (by omega) (by omega) ?_
  refine J_aload_n (i := 0) d_R_init_72 rfl rfl ?_
  refine J_sipush (v := nI 300) d_R_init_73 rfl ?_
  refine K_fa hk h8 d_R_init_76 w_arr_int rfl (t := 20) rfl rfl (by decide) (by decide) d_R_init_78 rfl p_R_34 rfl rfl (by omega) (by omega) ?_
  refine J_aload_n (i := 0) d_R_init_81 rfl rfl ?_
  refine J_iconst (v := (-1)) d_R_init_82 rfl ?_
  refine K_pi hk h8 d_R_init_83 p_R_37 rfl rfl ?_
  refine J_aload_n (i := 0) d_R_init_86 rfl rfl ?_
  refine J_iconst (v := (-1)) d_R_init_87 rfl ?_
  refine K_pi hk h8 d_R_init_88 p_R_41 rfl rfl ?_
  refine J_aload_n (i := 0) d_R_init_91 rfl rfl ?_
  refine J_sipush (v := nI 160) d_R_init_92 rfl ?_
  refine K_fa hk h8 d_R_init_95 w_arr_int rfl (t := 20) rfl rfl (by decide) (by decide) d_R_init_97 rfl p_R_44 rfl rfl (by omega) (by omega) ?_
  refine J_aload_n (i := 0) d_R_init_100 rfl rfl ?_
  refine J_sipush (v := nI 160) d_R_init_101 rfl ?_
  refine K_fa hk h8 d_R_init_104 w_arr_int rfl (t := 20) rfl rfl (by decide) (by decide) d_R_init_106 rfl p_R_47 rfl rfl (by omega) (by omega) ?_
  refine J_aload_n (i := 0) d_R_init_109 rfl rfl ?_
  refine J_bipush (v := nI 7) d_R_init_110 rfl ?_
  refine K_fa hk h8 d_R_init_112 w_arr_int rfl (t := 20) rfl rfl (by decide) (by decide) d_R_init_114 rfl p_R_50 rfl rfl (by omega) (by omega) ?_
  refine J_aload_n (i := 0) d_R_init_117 rfl rfl ?_
  refine J_sipush (v := nI 330) d_R_init_118 rfl ?_
  refine K_faL hk h8 d_R_init_121 (by decide) (by decide) d_R_init_123 rfl p_R_53 rfl rfl (by omega) (by omega) ?_
  refine J_aload_n (i := 0) d_R_init_126 rfl rfl ?_
  refine J_sipush (v := nI 330) d_R_init_127 rfl ?_
  refine K_fa hk h8 d_R_init_130 w_arr_boolean rfl (t := 22) rfl rfl (by decide) (by decide) d_R_init_132 rfl p_R_57 rfl rfl (by omega) (by omega) ?_
  refine J_aload_n (i := 0) d_R_init_135 rfl rfl ?_
  refine J_iconst (v := nI 1) d_R_init_136 rfl ?_
  refine J.eq (st1 := [.int (b2i true), .ref 244]) ?_ rfl rfl rfl
  refine K_pi hk h8 d_R_init_137 p_R_61 b2i_nar b2i_fit ?_
  refine J_aload_n (i := 0) d_R_init_140 rfl rfl ?_
  refine J_bipush (v := nI 18) d_R_init_141 rfl ?_
  refine K_fa hk h8 d_R_init_143 w_arr_int rfl (t := 20) rfl rfl (by decide) (by decide) d_R_init_145 rfl p_R_65 rfl rfl (by omega) (by omega) ?_
  refine J_aload_n (i := 0) d_R_init_148 rfl rfl ?_
  refine J_bipush (v := nI 21) d_R_init_149 rfl ?_
  refine K_faL hk h8 d_R_init_151 (by decide) (by decide) d_R_init_153 rfl p_R_68 rfl rfl (by omega) (by omega) ?_
  refine J_aload_n (i := 0) d_R_init_156 rfl rfl ?_
  refine J_sipush (v := nI 1024) d_R_init_157 rfl ?_
  refine K_fa hk h8 d_R_init_160 w_arr_boolean rfl (t := 22) rfl rfl (by decide) (by decide) d_R_init_162 rfl p_R_71 rfl rfl (by omega) (by omega) ?_
  refine J_aload_n (i := 0) d_R_init_165 rfl rfl ?_
  refine J_bipush (v := nI 20) d_R_init_166 rfl ?_
  refine K_fa hk h8 d_R_init_168 w_arr_int rfl (t := 20) rfl rfl (by decide) (by decide) d_R_init_170 rfl p_R_74 rfl rfl (by omega) (by omega) ?_
  refine J.eq kx rfl rfl ?_
  refine Prod.ext rfl (Prod.ext (by show s + 1217 + 1217 + 20 + 20 + 160 + 81 + 2724 + 21 + 300 + 160 + 160 + 7 + 330 + 330 + 18 + 21 + 1024 + 20 = s + 7830; omega) (congrArg (fun l => C ++ l) ?_))
  rfl

theorem ct_R_init {C : List MCell} {s : Nat} {X : Mem} (hk : C.length = 244) (hs : s = 5886) (hX : (244 + 19, (s + 7830, C ++ modelC)) = hm X) (hO : OkL X) (hc : X.2.1 1 = POL.map nI ∧ X.2.1 2 = MVL.map nI ∧ X.2.1 4 = WBL.map nI ∧ X.2.1 6 = SBL.map nI) (hA : X.2.1 245 = List.replicate 1217 0) (h46 : X.2.1 246 = List.replicate 1217 0) (h47 : X.2.1 247 = List.replicate 20 0) (h48 : X.2.1 248 = List.replicate 20 0) (h49 : X.2.1 249 = List.replicate 160 0) (hS : X.2.1 250 = List.replicate 81 0) : Call 2 m_R_init [.ref 244] (245, (s, C ++ [(8, .inl [.null, .null, .null, .null, .null, .null, .null, .null, .null, .int 0, .int 0, .int 0, .int 0, .int 0, .int 0, .int 0, .long 0, .int 0, .int 0, .int 0, .null, .null, .int 0, .int 0, .int 0, .int 0, .int 0, .null, .null, .null, .int 0, .int 0, .null, .null, .null, .null, .int 0])])) 263 13716 (QM (fun r Y => r = none ∧ Y = rX X)) := by
  have h8 : 8 ≤ 244 := by decide
  refine Call_of (L := [some (.ref 244), none, none]) 2 ok_R_init (fun _ => Nat.le_of_ble_eq_true rfl) (show 245 ≤ 263 by decide) (show s ≤ 13716 by omega) rfl ?_
  refine sg_R hk h8 hs ?_
  refine J.eq (h1 := hm X) ?_ rfl rfl hX
  refine J_aload_n (i := 0) d_R_init_173 rfl rfl ?_
  refine M_getR (b := 245) d_R_init_174 f_R_7 rfl rfl rfl ?_
  refine J_bipush (v := nI 7) d_R_init_177 rfl ?_
  refine J_sipush (v := nI 431) d_R_init_179 rfl ?_
  refine N_iast d_R_init_182 rfl (by decide) (by omega) (ltK hO (a := 245) (n := 1217) (by decide) rfl (by omega)) ?_
  refine J_aload_n (i := 0) d_R_init_183 rfl rfl ?_
  refine M_getR (b := 245) d_R_init_184 f_R_7 rfl rfl rfl ?_
  refine J_iconst (v := nI 2) d_R_init_187 rfl ?_
  refine J_iconst (v := (-1)) d_R_init_188 rfl ?_
  refine N_iast d_R_init_189 rfl (by decide) (by omega) (ltK (okKS hO) (a := 245) (n := 1217) (by decide) rfl (by omega)) ?_
  refine J_iconst (v := nI 0) d_R_init_190 rfl ?_
  refine J_istore_n (i := 1) (L1 := [some (.ref 244), some (.int (nI 0)), none]) d_R_init_191 rfl (by decide) rfl ?_

  have e1 : (pA (pA X 245 ((X.2.1 245).set 7 (nI 431))) 245 (((pA X 245 ((X.2.1 245).set 7 (nI 431))).2.1 245).set 2 (-1))) = (pA X 245 (ofF 1217 r00)) := by
    rw [pA_pA, pA_at, hA, r00_e]
  rw [e1]
  have hO1 : OkL (pA X 245 (ofF 1217 r00)) := okK hO (by rw [ofF_len]; exact (hO.1 245 (by decide)).symm)
  have e2 : (pA X 245 (ofF 1217 r00)) = pA (pA X 245 (ofF 1217 r00)) 250 (ofF 81 (sfI 0)) := by
    have e : ((pA X 245 (ofF 1217 r00))).2.1 250 = ofF 81 (sfI 0) := (show X.2.1 250 = ofF 81 (sfI 0) by rw [hS, rep_F]; rfl)
    exact Prod.ext rfl (Prod.ext (funext fun b => by
      show ((pA X 245 (ofF 1217 r00))).2.1 b = if b = 250 then ofF 81 (sfI 0) else ((pA X 245 (ofF 1217 r00))).2.1 b
      by_cases h : b = 250
      · rw [if_pos h, h, e]
      · rw [if_neg h]) rfl)
  rw [e2]
  refine lp_R_init1 hO1 (fun z => ?_) 81 0 rfl
  have e3 : pA (pA X 245 (ofF 1217 r00)) 250 (ofF 81 (sfI 81)) = lyX (pA X 245 (ofF 1217 r00)) (List.replicate 20 0, (List.replicate 20 0, ofF 81 (sfI 81))) := Prod.ext rfl (Prod.ext (funext fun b => by
    show (if b = 250 then ofF 81 (sfI 81) else ((pA X 245 (ofF 1217 r00))).2.1 b) = if b = 250 then ofF 81 (sfI 81) else if b = 248 then List.replicate 20 0 else if b = 247 then List.replicate 20 0 else ((pA X 245 (ofF 1217 r00))).2.1 b
    by_cases h : b = 250
    · rw [if_pos h, if_pos h]
    · rw [if_neg h, if_neg h]
      by_cases h2 : b = 248
      · rw [if_pos h2, h2]
        exact h48
      · rw [if_neg h2]
        by_cases h3 : b = 247
        · rw [if_pos h3, h3]
          exact h47
        · rw [if_neg h3]) rfl)
  rw [e3]
  refine lp_R_init2 hO1 ⟨by decide, by decide, by decide⟩ (fun z => ?_)
  rw [ly20_e]
  have hO2 : OkL (lyX (pA X 245 (ofF 1217 r00)) (ONEL.map nI, (OTHL.map nI, SOFL.map oI))) := okL_ly hO1 ⟨by decide, by decide, by decide⟩
  have e4 : (lyX (pA X 245 (ofF 1217 r00)) (ONEL.map nI, (OTHL.map nI, SOFL.map oI))) = pA (lyX (pA X 245 (ofF 1217 r00)) (ONEL.map nI, (OTHL.map nI, SOFL.map oI))) 249 (ofF 160 (bcF (20 * 0))) := Prod.ext rfl (Prod.ext (funext fun b => by
    show ((lyX (pA X 245 (ofF 1217 r00)) (ONEL.map nI, (OTHL.map nI, SOFL.map oI)))).2.1 b = if b = 249 then ofF 160 (bcF (20 * 0)) else ((lyX (pA X 245 (ofF 1217 r00)) (ONEL.map nI, (OTHL.map nI, SOFL.map oI)))).2.1 b
    by_cases h : b = 249
    · rw [if_pos h, h]
      exact (show X.2.1 249 = _ by rw [h49, rep_F]; rfl)
    · rw [if_neg h]) rfl)
  refine J_iconst (v := nI 0) d_R_init_349 rfl ?_
  refine J_istore_n (i := 1) (L1 := [some (.ref 244), some (.int (nI 0)), none]) d_R_init_350 rfl (by decide) rfl ?_
  rw [e4]
  refine lp_R_init4 hO2 (fun j => gD_map rfl) (fun j => gD_map rfl) (fun j => gD_map rfl) (fun z z2 => ?_) 8 0 none rfl
  rw [bc_all]
  refine J_aload_n (i := 0) d_R_init_417 rfl rfl ?_
  refine M_getR (b := 245) d_R_init_418 f_R_7 rfl rfl rfl ?_
  refine J_aload_n (i := 0) d_R_init_421 rfl rfl ?_
  refine M_getR (b := 246) d_R_init_422 f_R_13 rfl rfl rfl ?_
  have hA9 : (pA (lyX (pA X 245 (ofF 1217 r00)) (ONEL.map nI, (OTHL.map nI, SOFL.map oI))) 249 (BECL.map nI)).2.1 245 = ofF 1217 r00 := (pA_b (by decide)).trans ((lyX_o (by decide) (by decide) (by decide)).trans pA_at)
  have hB9 : (pA (lyX (pA X 245 (ofF 1217 r00)) (ONEL.map nI, (OTHL.map nI, SOFL.map oI))) 249 (BECL.map nI)).2.1 246 = ofF 1217 (fun _ => 0) := (pA_b (by decide)).trans ((lyX_o (by decide) (by decide) (by decide)).trans ((pA_b (by decide)).trans (h46.trans rep_F)))
  refine CS_V (av := [.ref 245, .ref 246]) d_R_init_425 s_R_85 (S_R_copy_i (q := fun _ => 0) (f := r00) (rX_ok hO hc) hA9 hB9) (by decide) rfl rfl (Nat.le_of_ble_eq_true rfl) ?_
  refine M_vr d_R_init_428 rfl ?_
  exact ⟨rfl, rfl⟩

