theorem nI_bits (v : Int32) : v = nI v.toBitVec.toNat := by
  apply Int32.toBitVec_inj.mp
  apply BitVec.eq_of_toNat_eq
  show v.toBitVec.toNat = (BitVec.ofNat 32 v.toBitVec.toNat).toNat
  rw [BitVec.toNat_ofNat, Nat.mod_eq_of_lt v.toBitVec.isLt]
theorem and_63 (v : Int32) : ∃ k, k < 64 ∧ v &&& nI 63 = nI k := by
  refine ⟨v.toBitVec.toNat &&& 63, Nat.lt_of_le_of_lt Nat.and_le_right (by decide), ?_⟩
  rw [← fa_and, ← nI_bits]
theorem sb_6 : ∀ k, k < 6 → (nI k - nI 6).toInt = (k : Int) - 6 := by decide
theorem lt_6 {k i : Nat} (hk : k ≤ 3072) (hi : i ≤ 4000) : nI k - nI 6 < nI i ↔ k < i + 6 := by
  have e : (nI k - nI 6).toInt = (k : Int) - 6 := by
    rcases Nat.lt_or_ge k 6 with c | c
    · exact sb_6 k c
    · rw [pk_sub c, nI_int (by omega)]
      omega
  rw [Int32.lt_iff_toInt_lt, e, nI_int (by omega)]
  omega
theorem lw_loop {scr : List Int32} (hl : scr.length ≤ 3072) {Q : Option Value → Mem → Prop} (kq : ∀ Y, Q (some (.int (b2i true))) Y) : ∀ (m i : Nat) (X : Mem) (s : Sg), scr.length ≤ i + m → i ≤ 3078 → LwS scr X s → JM 75 m_W_law Q 18 [some (.ref 0), some (.ref 8), some (.ref 244), some (.int (nI i))] [] X := by
  intro m
  induction m with
  | zero =>
    intro i X s hm hi h
    have h0 : X.2.1 0 = scr := h.2.2.2.2
    have hX := h.1
    refine J_iload_n (i := 3) d_W_law_18 rfl rfl ?_
    refine J_aload_n (i := 0) d_W_law_19 rfl rfl ?_
    refine M_ilen (n := scr.length) d_W_law_20 (by decide) (by rw [h0]) ?_
    refine J_bipush (v := nI 6) d_W_law_21 rfl ?_
    refine J_isub d_W_law_23 ?_
    refine J_icmp_gt (tgt := 1599) d_W_law_24 (by decide) (fun c24 => ?_) (fun c24 => absurd c24 (fun z => z ((lt_6 hl (by omega)).mpr (by omega))))
    refine J_iconst (v := nI 1) d_W_law_1599 rfl ?_
    refine J.eq (st1 := [.int (b2i true)]) ?_ rfl rfl rfl
    refine M_ir d_W_law_1600 rfl b2i_nar ?_
    exact kq X
  | succ m ih =>
    intro i X s hm hi h
    have h0 : X.2.1 0 = scr := h.2.2.2.2
    have hX := h.1
    by_cases hb : scr.length < i + 6
    · refine J_iload_n (i := 3) d_W_law_18 rfl rfl ?_
      refine J_aload_n (i := 0) d_W_law_19 rfl rfl ?_
      refine M_ilen (n := scr.length) d_W_law_20 (by decide) (by rw [h0]) ?_
      refine J_bipush (v := nI 6) d_W_law_21 rfl ?_
      refine J_isub d_W_law_23 ?_
      refine J_icmp_gt (tgt := 1599) d_W_law_24 (by decide) (fun c24 => ?_) (fun c24 => absurd c24 (fun z => z ((lt_6 hl (by omega)).mpr hb)))
      refine J_iconst (v := nI 1) d_W_law_1599 rfl ?_
      refine J.eq (st1 := [.int (b2i true)]) ?_ rfl rfl rfl
      refine M_ir d_W_law_1600 rfl b2i_nar ?_
      exact kq X
    · have kx : ∀ Y s', LwS scr Y s' → JM 75 m_W_law Q 1593 [some (.ref 0), some (.ref 8), some (.ref 244), some (.int (nI i))] [] Y := fun Y s' h' => by
        refine N_iinc (a := i) (c := 6) (L1 := [some (.ref 0), some (.ref 8), some (.ref 244), some (.int (nI (i + 6)))]) d_W_law_1593 rfl rfl (by decide) rfl ?_
        refine J_goto (tgt := 18) d_W_law_1596 (by decide) ?_
        exact ih (i + 6) Y s' (by omega) (by omega) h'
      refine J_iload_n (i := 3) d_W_law_18 rfl rfl ?_
      refine J_aload_n (i := 0) d_W_law_19 rfl rfl ?_
      refine M_ilen (n := scr.length) d_W_law_20 (by decide) (by rw [h0]) ?_
      refine J_bipush (v := nI 6) d_W_law_21 rfl ?_
      refine J_isub d_W_law_23 ?_
      refine J_icmp_gt (tgt := 1599) d_W_law_24 (by decide) (fun c24 => absurd c24 (fun z => hb ((lt_6 hl (by omega)).mp z))) (fun c24 => ?_)
      refine J_aload_n (i := 0) d_W_law_27 rfl rfl ?_
      refine J_iload_n (i := 3) d_W_law_28 rfl rfl ?_
      refine N_iald (x := (scr.getD i 0)) d_W_law_29 rfl (by omega) (by rw [h0]; omega) (by rw [h0]) ?_
      refine J_bipush (v := nI 63) d_W_law_30 rfl ?_
      refine J_iand d_W_law_32 ?_
      obtain ⟨kk, hk, ek⟩ := and_63 (scr.getD i 0)
      rw [ek]
      by_cases hk48 : kk < 48
      · have hc : kk = 0 ∨ kk = 1 ∨ kk = 2 ∨ kk = 3 ∨ kk = 4 ∨ kk = 5 ∨ kk = 6 ∨ kk = 7 ∨ kk = 8 ∨ kk = 9 ∨ kk = 10 ∨ kk = 11 ∨ kk = 12 ∨ kk = 13 ∨ kk = 14 ∨ kk = 15 ∨ kk = 16 ∨ kk = 17 ∨ kk = 18 ∨ kk = 19 ∨ kk = 20 ∨ kk = 21 ∨ kk = 22 ∨ kk = 23 ∨ kk = 24 ∨ kk = 25 ∨ kk = 26 ∨ kk = 27 ∨ kk = 28 ∨ kk = 29 ∨ kk = 30 ∨ kk = 31 ∨ kk = 32 ∨ kk = 33 ∨ kk = 34 ∨ kk = 35 ∨ kk = 36 ∨ kk = 37 ∨ kk = 38 ∨ kk = 39 ∨ kk = 40 ∨ kk = 41 ∨ kk = 42 ∨ kk = 43 ∨ kk = 44 ∨ kk = 45 ∨ kk = 46 ∨ kk = 47 := by omega
        rcases hc with rfl | rfl | rfl | rfl | rfl | rfl | rfl | rfl | rfl | rfl | rfl | rfl | rfl | rfl | rfl | rfl | rfl | rfl | rfl | rfl | rfl | rfl | rfl | rfl | rfl | rfl | rfl | rfl | rfl | rfl | rfl | rfl | rfl | rfl | rfl | rfl | rfl | rfl | rfl | rfl | rfl | rfl | rfl | rfl | rfl | rfl | rfl | rfl
        · refine J_tableIn (off := 207) (tgt := 240) d_W_law_33 (by decide) (by decide) (by decide) (by decide) ?_
          exact lw_mark (by omega) hl h kx
        · refine J_tableIn (off := 230) (tgt := 263) d_W_law_33 (by decide) (by decide) (by decide) (by decide) ?_
          exact lw_feed (by omega) hl h kx
        · refine J_tableIn (off := 293) (tgt := 326) d_W_law_33 (by decide) (by decide) (by decide) (by decide) ?_
          exact lw_end (by omega) hl h kx
        · refine J_tableIn (off := 316) (tgt := 349) d_W_law_33 (by decide) (by decide) (by decide) (by decide) ?_
          exact lw_text (by omega) hl h kx
        · refine J_tableIn (off := 329) (tgt := 362) d_W_law_33 (by decide) (by decide) (by decide) (by decide) ?_
          exact lw_fault (by omega) hl h kx
        · refine J_tableIn (off := 352) (tgt := 385) d_W_law_33 (by decide) (by decide) (by decide) (by decide) ?_
          exact lw_by (by omega) hl h kx
        · refine J_tableIn (off := 375) (tgt := 408) d_W_law_33 (by decide) (by decide) (by decide) (by decide) ?_
          exact lw_add (by omega) hl h kx
        · refine J_tableIn (off := 408) (tgt := 441) d_W_law_33 (by decide) (by decide) (by decide) (by decide) ?_
          exact lw_rub (by omega) hl h kx
        · refine J_tableIn (off := 441) (tgt := 474) d_W_law_33 (by decide) (by decide) (by decide) (by decide) ?_
          exact lw_renew (by omega) hl h kx
        · refine J_tableIn (off := 464) (tgt := 497) d_W_law_33 (by decide) (by decide) (by decide) (by decide) ?_
          exact lw_year (by omega) hl h kx
        · refine J_tableIn (off := 487) (tgt := 520) d_W_law_33 (by decide) (by decide) (by decide) (by decide) ?_
          exact lw_played (by omega) hl h kx
        · refine J_tableIn (off := 510) (tgt := 543) d_W_law_33 (by decide) (by decide) (by decide) (by decide) ?_
          exact lw_ages (by omega) hl h kx
        · refine J_tableIn (off := 543) (tgt := 576) d_W_law_33 (by decide) (by decide) (by decide) (by decide) ?_
          exact lw_undo (by omega) hl h kx
        · refine J_tableIn (off := 556) (tgt := 589) d_W_law_33 (by decide) (by decide) (by decide) (by decide) ?_
          exact lw_of (by omega) hl h kx
        · refine J_tableIn (off := 589) (tgt := 622) d_W_law_33 (by decide) (by decide) (by decide) (by decide) ?_
          exact lw_wears (by omega) hl h kx
        · refine J_tableIn (off := 622) (tgt := 655) d_W_law_33 (by decide) (by decide) (by decide) (by decide) ?_
          exact lw_is (by omega) hl h kx
        · refine J_tableIn (off := 645) (tgt := 678) d_W_law_33 (by decide) (by decide) (by decide) (by decide) ?_
          exact lw_book (by omega) hl h kx
        · refine J_tableIn (off := 678) (tgt := 711) d_W_law_33 (by decide) (by decide) (by decide) (by decide) ?_
          exact lw_foretold (by omega) hl h kx
        · refine J_tableIn (off := 711) (tgt := 744) d_W_law_33 (by decide) (by decide) (by decide) (by decide) ?_
          exact lw_drawn (by omega) hl h kx
        · refine J_tableIn (off := 744) (tgt := 777) d_W_law_33 (by decide) (by decide) (by decide) (by decide) ?_
          exact lw_turned (by omega) hl h kx
        · refine J_tableIn (off := 777) (tgt := 810) d_W_law_33 (by decide) (by decide) (by decide) (by decide) ?_
          exact lw_joined (by omega) hl h kx
        · refine J_tableIn (off := 810) (tgt := 843) d_W_law_33 (by decide) (by decide) (by decide) (by decide) ?_
          exact lw_own (by omega) hl h kx
        · refine J_tableIn (off := 833) (tgt := 866) d_W_law_33 (by decide) (by decide) (by decide) (by decide) ?_
          exact lw_least (by omega) hl h kx
        · refine J_tableIn (off := 856) (tgt := 889) d_W_law_33 (by decide) (by decide) (by decide) (by decide) ?_
          exact lw_pens (by omega) hl h kx
        · refine J_tableIn (off := 879) (tgt := 912) d_W_law_33 (by decide) (by decide) (by decide) (by decide) ?_
          exact lw_trail (by omega) hl h kx
        · refine J_tableIn (off := 912) (tgt := 945) d_W_law_33 (by decide) (by decide) (by decide) (by decide) ?_
          exact lw_rim (by omega) hl h kx
        · refine J_tableIn (off := 935) (tgt := 968) d_W_law_33 (by decide) (by decide) (by decide) (by decide) ?_
          exact lw_alike (by omega) hl h kx
        · refine J_tableIn (off := 968) (tgt := 1001) d_W_law_33 (by decide) (by decide) (by decide) (by decide) ?_
          exact lw_way (by omega) hl h kx
        · refine J_tableIn (off := 1001) (tgt := 1034) d_W_law_33 (by decide) (by decide) (by decide) (by decide) ?_
          exact lw_made (by omega) hl h kx
        · refine J_tableIn (off := 1060) (tgt := 1093) d_W_law_33 (by decide) (by decide) (by decide) (by decide) ?_
          exact lw_clash (by omega) hl h kx
        · refine J_tableIn (off := 1109) (tgt := 1142) d_W_law_33 (by decide) (by decide) (by decide) (by decide) ?_
          exact lw_chain (by omega) hl h kx
        · refine J_tableIn (off := 1152) (tgt := 1185) d_W_law_33 (by decide) (by decide) (by decide) (by decide) ?_
          exact lw_free (by omega) hl h kx
        · refine J_tableIn (off := 1185) (tgt := 1218) d_W_law_33 (by decide) (by decide) (by decide) (by decide) ?_
          exact lw_kinds (by omega) hl h kx
        · refine J_tableIn (off := 1209) (tgt := 1242) d_W_law_33 (by decide) (by decide) (by decide) (by decide) ?_
          exact lw_witness (by omega) hl h kx
        · refine J_tableIn (off := 1258) (tgt := 1291) d_W_law_33 (by decide) (by decide) (by decide) (by decide) ?_
          exact lw_which (by omega) hl h kx
        · refine J_tableIn (off := 1271) (tgt := 1304) d_W_law_33 (by decide) (by decide) (by decide) (by decide) ?_
          exact lw_ways (by omega) hl h kx
        · refine J_tableIn (off := 1294) (tgt := 1327) d_W_law_33 (by decide) (by decide) (by decide) (by decide) ?_
          exact lw_ask (by omega) hl h kx
        · refine J_tableIn (off := 1307) (tgt := 1340) d_W_law_33 (by decide) (by decide) (by decide) (by decide) ?_
          exact lw_game (by omega) hl h kx
        · refine J_tableIn (off := 1340) (tgt := 1373) d_W_law_33 (by decide) (by decide) (by decide) (by decide) ?_
          exact lw_play (by omega) hl h kx
        · refine J_tableIn (off := 1373) (tgt := 1406) d_W_law_33 (by decide) (by decide) (by decide) (by decide) ?_
          exact lw_apart (by omega) hl h kx
        · refine J_tableIn (off := 1406) (tgt := 1439) d_W_law_33 (by decide) (by decide) (by decide) (by decide) ?_
          exact lw_said (by omega) hl h kx
        · refine J_tableIn (off := 1449) (tgt := 1482) d_W_law_33 (by decide) (by decide) (by decide) (by decide) ?_
          exact lw_whose (by omega) hl h kx
        · refine J_tableIn (off := 1462) (tgt := 1495) d_W_law_33 (by decide) (by decide) (by decide) (by decide) ?_
          exact lw_richest (by omega) hl h kx
        · refine J_tableIn (off := 1475) (tgt := 1508) d_W_law_33 (by decide) (by decide) (by decide) (by decide) ?_
          exact lw_worn (by omega) hl h kx
        · refine J_tableIn (off := 1488) (tgt := 1521) d_W_law_33 (by decide) (by decide) (by decide) (by decide) ?_
          exact lw_ledger (by omega) hl h kx
        · refine J_tableIn (off := 1511) (tgt := 1544) d_W_law_33 (by decide) (by decide) (by decide) (by decide) ?_
          exact lw_image (by omega) hl h kx
        · refine J_tableIn (off := 1524) (tgt := 1557) d_W_law_33 (by decide) (by decide) (by decide) (by decide) ?_
          exact lw_back (by omega) hl h kx
        · refine J_tableIn (off := 1537) (tgt := 1570) d_W_law_33 (by decide) (by decide) (by decide) (by decide) ?_
          exact lw_about (by omega) hl h kx
      · refine J_tableOut (tgt := 1593) d_W_law_33 (Or.inr (by rw [nI_int (by omega)]; omega)) (by decide) ?_
        exact kx X s h
