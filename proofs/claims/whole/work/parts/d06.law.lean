theorem int_inj : ∀ {xs ys : List Int32}, xs.map Value.int = ys.map Value.int → xs = ys
  | [], [], _ => rfl
  | [], _ :: _, h => by cases h
  | _ :: _, [], h => by cases h
  | x :: xs, y :: ys, h => by
    have h1 := (List.cons.inj h).1
    have h2 := int_inj (List.cons.inj h).2
    cases h1
    rw [h2]
/-- what stood before the run began is as it was -/
def OldEq (h h1 : MH) : Prop := ∀ xs ys : List Int32, h.2.2[0]? = some (20, .inr (.inl xs)) → h1.2.2[0]? = some (20, .inr (.inl ys)) → ys = xs
theorem old_eq {G : GC} {s : State} {h h1 : MH} {H H1 : Heap} {locs locs1 : List Loc} (hb : ∀ k, k < 8 → G.2.1 k < gb G) (hR : Rl G s h H) (hS : va_S (gA G) G.1 H locs) (hR1 : Rl G s h1 H1) (hS1 : va_S (gA G) G.1 H1 locs1) : OldEq h h1 := by
  intro xs ys e e1
  obtain ⟨ty, cell, a1, a2, a3, a4, a5⟩ := hR.2.2.2 0 _ e
  obtain ⟨ty1, cell1, b1, b2, b3, b4, b5⟩ := hR1.2.2.2 0 _ e1
  have h0 : gr G 0 < G.1.size := hb 0 (by decide)
  have hn : ¬ gA G (gr G 0) := Nat.not_le.mpr h0
  have q : H[gr G 0]? = H1[gr G 0]? := (hS.2.1 _ h0 hn).trans (hS1.2.1 _ h0 hn).symm
  rw [a2, b2] at q
  cases q
  exact int_inj (b5.symm.trans a5)
theorem J_callVO {d : Nat} {M : MInfo} {fc fs : Nat} {Q : Option Value → MH → Prop} {pc : Nat} {L : MLoc} {st : List Value} {h : MH} {d1 k1 n b : Nat} {M1 : MInfo} {av rest : List Value} {nc ns : Nat} {Q1 : Option Value → MH → Prop} (hd : decode M.2.1 pc = .ok (.invokevirtual k1, 3)) (hsite : SV M.2.2.2.2 k1 n M1) (hrc : Rcv M1.1.cls b h) (hc : Call d1 M1 (.ref b :: av) h nc ns Q1) (hdd : d1 + 1 ≤ d) (hst : st = av.reverse ++ .ref b :: rest) (hn : av.length = n) (hcat : (rest.map fun v => v.category).sum ≤ 8) (f1 : nc ≤ fc) (f2 : ns ≤ fs) (k : ∀ (r : Option Value) (h1 : MH), Q1 r h1 → OldEq h h1 → J d M fc fs Q (pc + 3) L (r.toList ++ rest) h1) : J d M fc fs Q pc L st h := by
  subst hst
  refine J_k (Q1 := fun r h1 => Q1 r h1 ∧ OldEq h h1) (st1 := fun r => r.toList ++ rest) hc.1 hc.2.1 f1 f2 (fun G p l e R s m args below meth c H locs cells slots QQ ls hC hl hR hS b1 b2 w => ?_) (fun r h1 q => k r h1 q.1 q.2)
  obtain ⟨hok, s1, s2, s4, s3⟩ := hsite
  have hts := hC.2.2.2.2.1
  have hrm := room_of hok hdd hC.2.2.2.2.2.2.2.1 hC.2.2.2.2.2.2.2.2
  rw [rev_up]
  refine W_call (va_runV (C := M1.1.cls) (b := gr G b) (As := av.map (up G)) (rest := rest.map (up G)) (Ts := ALLW) ⟨hC.1, hC.2.1, hC.2.2.1, hC.2.2.2.1, hts⟩ (hc.2.2 l G) ⟨⟨rfl, rfl, hrm.1, hrm.2, aw_warm hts hok.1, List.mem_cons_self, hts _ hok.1, hts _ hok.2.1, hok.2.2.1, len_of s3, hts _ s1⟩, hts _ s2, hts _ s4⟩ ⟨PcM_blind, hrc.cell hC.2.2.2.2.2.2.1 hR hS, fun U hU hW => PcM_of hC.2.2.2.2.2.2.1 hR hS hU hW⟩ rfl (by rw [List.length_map]; exact hn) hl.1 rfl (mon0 hcat) hd ⟨b1, b2⟩) hS (fun r h1 H1 locs1 hQ z1 z2 hR1 hS1 => ?_)
  rw [rl_up]
  exact w r h1 H1 locs1 ⟨hQ, old_eq hC.2.2.2.2.2.2.1.2.2.1 hR hS hR1 hS1⟩ z1 z2 hR1 hS1
theorem M_callVO {d : Nat} {M : MInfo} {Q : Option Value → Mem → Prop} {pc : Nat} {L : MLoc} {st : List Value} {X : Mem} {d1 k1 n b : Nat} {M1 : MInfo} {av rest : List Value} {Q1 : Option Value → Mem → Prop} (hd : decode M.2.1 pc = .ok (.invokevirtual k1, 3)) (hsite : SV M.2.2.2.2 k1 n M1) (hrc : Rcv M1.1.cls b (hm X)) (hc : CM d1 M1 (.ref b :: av) X Q1) (hdd : d1 + 1 ≤ d) (hst : st = av.reverse ++ .ref b :: rest) (hn : av.length = n) (hcat : (rest.map fun v => v.category).sum ≤ 8) (k : ∀ r Y, Q1 r Y → Y.2.1 0 = X.2.1 0 → JM d M Q (pc + 3) L (r.toList ++ rest) Y) : JM d M Q pc L st X :=
  J_callVO hd hsite hrc hc hdd hst hn hcat (Nat.le_refl _) (Nat.le_refl _) (fun r h1 ⟨Y, e, q⟩ ho => by
    subst e
    exact k r Y q (ho (X.2.1 0) (Y.2.1 0) (by rw [cellsM_get (by decide), cellM_i (t := 20) rfl (Or.inl rfl)]) (by rw [cellsM_get (by decide), cellM_i (t := 20) rfl (Or.inl rfl)])))
/-- what holds where the law's loop begins anew -/
def LwS (scr : List Int32) (X : Mem) (s : Sg) : Prop := Ok X ∧ (CI X s ∧ (RI X s ∧ (WFs s ∧ X.2.1 0 = scr)))
theorem N_O_text {X : Mem} {s : Sg} (hX : Ok X) (hC : CI X s) (hw : WFs s) : CM 73 m_O_text [.ref 8] X (fun q Y => q = some (.int (txF s)) ∧ (pC X (txS s) Y ∧ WFs (txS s))) := CM.imp (S_O_textN hX hC hw rfl) (fun q Y h => ⟨h.1, h.2.1, by
  by_cases h4 : tn (s.1 1) = 4
  · rw [show txS s = s from if_pos h4]
    exact hw
  · have hb := (wf_n hw.1 (j := 1) (by decide) (by decide)).2
    have hb : tn (s.1 1) ≤ 4 := hb
    exact WF_txS hw (h.2.2 (by omega))⟩)
theorem N_R_text {X : Mem} {s : Sg} (hX : Ok X) (hC : RI X s) (hw : WFs s) : CM 12 m_R_text [.ref 244] X (fun q Y => q = some (.int (txF s)) ∧ pR X (txS s) Y) := S_R_textN hX hC hw rfl
theorem lw_mark {scr : List Int32} {X : Mem} {s : Sg} {i : Nat} {Q : Option Value → Mem → Prop} (hi : i + 6 ≤ scr.length) (hl : scr.length ≤ 3072) (h : LwS scr X s) (kx : ∀ Y s', LwS scr Y s' → JM 75 m_W_law Q 1593 [some (.ref 0), some (.ref 8), some (.ref 244), some (.int (nI i))] [] Y) : JM 75 m_W_law Q 240 [some (.ref 0), some (.ref 8), some (.ref 244), some (.int (nI i))] [] X := by
  obtain ⟨hX, hC, hR, hw, h0⟩ := h
  refine J_aload_n (i := 1) d_W_law_240 rfl rfl ?_
  refine J_aload_n (i := 0) d_W_law_241 rfl rfl ?_
  refine J_iload_n (i := 3) d_W_law_242 rfl rfl ?_
  refine J_iconst (v := nI 1) d_W_law_243 rfl ?_
  refine N_iadd d_W_law_244 ?_
  refine N_iald (x := (scr.getD (i + 1) 0)) d_W_law_245 rfl (by omega) (by rw [h0]; omega) (by rw [h0]) ?_
  refine M_callVO (av := [.int (scr.getD (i + 1) 0)]) d_W_law_246 s_W_13 (M_rcv rfl (by decide) rfl) (N_O_mark hX hC hw) (by decide) rfl rfl (Nat.le_of_ble_eq_true rfl) (fun r1 Y1 hq1 e1 => ?_)
  obtain ⟨rfl, hX1, hC1, hs1⟩ := hq1
  have hR1 := RI_r hs1 hR
  have h01 : Y1.2.1 0 = scr := e1.trans h0
  refine J_aload_n (i := 2) d_W_law_249 rfl rfl ?_
  refine J_aload_n (i := 0) d_W_law_250 rfl rfl ?_
  refine J_iload_n (i := 3) d_W_law_251 rfl rfl ?_
  refine J_iconst (v := nI 1) d_W_law_252 rfl ?_
  refine N_iadd d_W_law_253 ?_
  refine N_iald (x := (scr.getD (i + 1) 0)) d_W_law_254 rfl (by omega) (by rw [h01]; omega) (by rw [h01]) ?_
  refine M_callVO (av := [.int (scr.getD (i + 1) 0)]) d_W_law_255 s_W_17 (M_rcv rfl (by decide) rfl) (N_R_mark hX1 hR1 hw) (by decide) rfl rfl (Nat.le_of_ble_eq_true rfl) (fun r2 Y2 hq2 e2 => ?_)
  obtain ⟨rfl, hX2, hR2, hs2⟩ := hq2
  have hC2 := CI_c hs2 hC1
  refine J_icmp_eq (tgt := 1593) d_W_law_258 (by decide) (fun c258 => ?_) (fun c258 => absurd c258 (fun z => z rfl))
  exact kx Y2 _ ⟨hX2, hC2, hR2, WF_markS hw, e2.trans h01⟩

theorem lw_feed {scr : List Int32} {X : Mem} {s : Sg} {i : Nat} {Q : Option Value → Mem → Prop} (hi : i + 6 ≤ scr.length) (hl : scr.length ≤ 3072) (h : LwS scr X s) (kx : ∀ Y s', LwS scr Y s' → JM 75 m_W_law Q 1593 [some (.ref 0), some (.ref 8), some (.ref 244), some (.int (nI i))] [] Y) : JM 75 m_W_law Q 263 [some (.ref 0), some (.ref 8), some (.ref 244), some (.int (nI i))] [] X := by
  obtain ⟨hX, hC, hR, hw, h0⟩ := h
  refine J_aload_n (i := 1) d_W_law_263 rfl rfl ?_
  refine J_aload_n (i := 0) d_W_law_264 rfl rfl ?_
  refine J_iload_n (i := 3) d_W_law_265 rfl rfl ?_
  refine J_iconst (v := nI 1) d_W_law_266 rfl ?_
  refine N_iadd d_W_law_267 ?_
  refine N_iald (x := (scr.getD (i + 1) 0)) d_W_law_268 rfl (by omega) (by rw [h0]; omega) (by rw [h0]) ?_
  refine J_aload_n (i := 0) d_W_law_269 rfl rfl ?_
  refine J_iload_n (i := 3) d_W_law_270 rfl rfl ?_
  refine J_iconst (v := nI 2) d_W_law_271 rfl ?_
  refine N_iadd d_W_law_272 ?_
  refine N_iald (x := (scr.getD (i + 2) 0)) d_W_law_273 rfl (by omega) (by rw [h0]; omega) (by rw [h0]) ?_
  refine J_aload_n (i := 0) d_W_law_274 rfl rfl ?_
  refine J_iload_n (i := 3) d_W_law_275 rfl rfl ?_
  refine J_iconst (v := nI 3) d_W_law_276 rfl ?_
  refine N_iadd d_W_law_277 ?_
  refine N_iald (x := (scr.getD (i + 3) 0)) d_W_law_278 rfl (by omega) (by rw [h0]; omega) (by rw [h0]) ?_
  refine J_aload_n (i := 0) d_W_law_279 rfl rfl ?_
  refine J_iload_n (i := 3) d_W_law_280 rfl rfl ?_
  refine J_iconst (v := nI 4) d_W_law_281 rfl ?_
  refine N_iadd d_W_law_282 ?_
  refine N_iald (x := (scr.getD (i + 4) 0)) d_W_law_283 rfl (by omega) (by rw [h0]; omega) (by rw [h0]) ?_
  refine J_aload_n (i := 0) d_W_law_284 rfl rfl ?_
  refine J_iload_n (i := 3) d_W_law_285 rfl rfl ?_
  refine J_iconst (v := nI 5) d_W_law_286 rfl ?_
  refine N_iadd d_W_law_287 ?_
  refine N_iald (x := (scr.getD (i + 5) 0)) d_W_law_288 rfl (by omega) (by rw [h0]; omega) (by rw [h0]) ?_
  refine M_callVO (av := [.int (scr.getD (i + 1) 0), .int (scr.getD (i + 2) 0), .int (scr.getD (i + 3) 0), .int (scr.getD (i + 4) 0), .int (scr.getD (i + 5) 0)]) d_W_law_289 s_W_18 (M_rcv rfl (by decide) rfl) (N_O_feed hX hC hw) (by decide) rfl rfl (Nat.le_of_ble_eq_true rfl) (fun r1 Y1 hq1 e1 => ?_)
  obtain ⟨rfl, hX1, hC1, hs1⟩ := hq1
  have hR1 := RI_r hs1 hR
  have h01 : Y1.2.1 0 = scr := e1.trans h0
  refine J_aload_n (i := 2) d_W_law_292 rfl rfl ?_
  refine J_aload_n (i := 0) d_W_law_293 rfl rfl ?_
  refine J_iload_n (i := 3) d_W_law_294 rfl rfl ?_
  refine J_iconst (v := nI 1) d_W_law_295 rfl ?_
  refine N_iadd d_W_law_296 ?_
  refine N_iald (x := (scr.getD (i + 1) 0)) d_W_law_297 rfl (by omega) (by rw [h01]; omega) (by rw [h01]) ?_
  refine J_aload_n (i := 0) d_W_law_298 rfl rfl ?_
  refine J_iload_n (i := 3) d_W_law_299 rfl rfl ?_
  refine J_iconst (v := nI 2) d_W_law_300 rfl ?_
  refine N_iadd d_W_law_301 ?_
  refine N_iald (x := (scr.getD (i + 2) 0)) d_W_law_302 rfl (by omega) (by rw [h01]; omega) (by rw [h01]) ?_
  refine J_aload_n (i := 0) d_W_law_303 rfl rfl ?_
  refine J_iload_n (i := 3) d_W_law_304 rfl rfl ?_
  refine J_iconst (v := nI 3) d_W_law_305 rfl ?_
  refine N_iadd d_W_law_306 ?_
  refine N_iald (x := (scr.getD (i + 3) 0)) d_W_law_307 rfl (by omega) (by rw [h01]; omega) (by rw [h01]) ?_
  refine J_aload_n (i := 0) d_W_law_308 rfl rfl ?_
  refine J_iload_n (i := 3) d_W_law_309 rfl rfl ?_
  refine J_iconst (v := nI 4) d_W_law_310 rfl ?_
  refine N_iadd d_W_law_311 ?_
  refine N_iald (x := (scr.getD (i + 4) 0)) d_W_law_312 rfl (by omega) (by rw [h01]; omega) (by rw [h01]) ?_
  refine J_aload_n (i := 0) d_W_law_313 rfl rfl ?_
  refine J_iload_n (i := 3) d_W_law_314 rfl rfl ?_
  refine J_iconst (v := nI 5) d_W_law_315 rfl ?_
  refine N_iadd d_W_law_316 ?_
  refine N_iald (x := (scr.getD (i + 5) 0)) d_W_law_317 rfl (by omega) (by rw [h01]; omega) (by rw [h01]) ?_
  refine M_callVO (av := [.int (scr.getD (i + 1) 0), .int (scr.getD (i + 2) 0), .int (scr.getD (i + 3) 0), .int (scr.getD (i + 4) 0), .int (scr.getD (i + 5) 0)]) d_W_law_318 s_W_22 (M_rcv rfl (by decide) rfl) (N_R_feed hX1 hR1 hw) (by decide) rfl rfl (Nat.le_of_ble_eq_true rfl) (fun r2 Y2 hq2 e2 => ?_)
  obtain ⟨rfl, hX2, hR2, hs2⟩ := hq2
  have hC2 := CI_c hs2 hC1
  refine J_icmp_eq (tgt := 1593) d_W_law_321 (by decide) (fun c321 => ?_) (fun c321 => absurd c321 (fun z => z rfl))
  exact kx Y2 _ ⟨hX2, hC2, hR2, WF_fdS hw, e2.trans h01⟩

theorem lw_end {scr : List Int32} {X : Mem} {s : Sg} {i : Nat} {Q : Option Value → Mem → Prop} (hi : i + 6 ≤ scr.length) (hl : scr.length ≤ 3072) (h : LwS scr X s) (kx : ∀ Y s', LwS scr Y s' → JM 75 m_W_law Q 1593 [some (.ref 0), some (.ref 8), some (.ref 244), some (.int (nI i))] [] Y) : JM 75 m_W_law Q 326 [some (.ref 0), some (.ref 8), some (.ref 244), some (.int (nI i))] [] X := by
  obtain ⟨hX, hC, hR, hw, h0⟩ := h
  refine J_aload_n (i := 1) d_W_law_326 rfl rfl ?_
  refine J_aload_n (i := 0) d_W_law_327 rfl rfl ?_
  refine J_iload_n (i := 3) d_W_law_328 rfl rfl ?_
  refine J_iconst (v := nI 1) d_W_law_329 rfl ?_
  refine N_iadd d_W_law_330 ?_
  refine N_iald (x := (scr.getD (i + 1) 0)) d_W_law_331 rfl (by omega) (by rw [h0]; omega) (by rw [h0]) ?_
  refine M_callVO (av := [.int (scr.getD (i + 1) 0)]) d_W_law_332 s_W_23 (M_rcv rfl (by decide) rfl) (N_O_end hX hC hw) (by decide) rfl rfl (Nat.le_of_ble_eq_true rfl) (fun r1 Y1 hq1 e1 => ?_)
  obtain ⟨rfl, hX1, hC1, hs1⟩ := hq1
  have hR1 := RI_r hs1 hR
  have h01 : Y1.2.1 0 = scr := e1.trans h0
  refine J_aload_n (i := 2) d_W_law_335 rfl rfl ?_
  refine J_aload_n (i := 0) d_W_law_336 rfl rfl ?_
  refine J_iload_n (i := 3) d_W_law_337 rfl rfl ?_
  refine J_iconst (v := nI 1) d_W_law_338 rfl ?_
  refine N_iadd d_W_law_339 ?_
  refine N_iald (x := (scr.getD (i + 1) 0)) d_W_law_340 rfl (by omega) (by rw [h01]; omega) (by rw [h01]) ?_
  refine M_callVO (av := [.int (scr.getD (i + 1) 0)]) d_W_law_341 s_W_26 (M_rcv rfl (by decide) rfl) (N_R_end hX1 hR1 hw) (by decide) rfl rfl (Nat.le_of_ble_eq_true rfl) (fun r2 Y2 hq2 e2 => ?_)
  obtain ⟨rfl, hX2, hR2, hs2⟩ := hq2
  have hC2 := CI_c hs2 hC1
  refine J_icmp_eq (tgt := 1593) d_W_law_344 (by decide) (fun c344 => ?_) (fun c344 => absurd c344 (fun z => z rfl))
  exact kx Y2 _ ⟨hX2, hC2, hR2, WF_endS hw, e2.trans h01⟩

theorem lw_text {scr : List Int32} {X : Mem} {s : Sg} {i : Nat} {Q : Option Value → Mem → Prop} (hi : i + 6 ≤ scr.length) (hl : scr.length ≤ 3072) (h : LwS scr X s) (kx : ∀ Y s', LwS scr Y s' → JM 75 m_W_law Q 1593 [some (.ref 0), some (.ref 8), some (.ref 244), some (.int (nI i))] [] Y) : JM 75 m_W_law Q 349 [some (.ref 0), some (.ref 8), some (.ref 244), some (.int (nI i))] [] X := by
  obtain ⟨hX, hC, hR, hw, h0⟩ := h
  refine J_aload_n (i := 1) d_W_law_349 rfl rfl ?_
  refine M_callVO (av := []) d_W_law_350 s_W_27 (M_rcv rfl (by decide) rfl) (N_O_text hX hC hw) (by decide) rfl rfl (Nat.le_of_ble_eq_true rfl) (fun r1 Y1 hq1 e1 => ?_)
  obtain ⟨rfl, ⟨hX1, hC1, hs1⟩, hw1⟩ := hq1
  have hR1 := RI_r hs1 hR
  have h01 : Y1.2.1 0 = scr := e1.trans h0
  refine J_aload_n (i := 2) d_W_law_353 rfl rfl ?_
  refine M_callVO (av := []) d_W_law_354 s_W_31 (M_rcv rfl (by decide) rfl) (N_R_text hX1 hR1 hw) (by decide) rfl rfl (Nat.le_of_ble_eq_true rfl) (fun r2 Y2 hq2 e2 => ?_)
  obtain ⟨rfl, hX2, hR2, hs2⟩ := hq2
  have hC2 := CI_c hs2 hC1
  refine J_icmp_eq (tgt := 1593) d_W_law_357 (by decide) (fun c357 => ?_) (fun c357 => absurd c357 (fun z => z rfl))
  exact kx Y2 _ ⟨hX2, hC2, hR2, hw1, e2.trans h01⟩

theorem lw_fault {scr : List Int32} {X : Mem} {s : Sg} {i : Nat} {Q : Option Value → Mem → Prop} (hi : i + 6 ≤ scr.length) (hl : scr.length ≤ 3072) (h : LwS scr X s) (kx : ∀ Y s', LwS scr Y s' → JM 75 m_W_law Q 1593 [some (.ref 0), some (.ref 8), some (.ref 244), some (.int (nI i))] [] Y) : JM 75 m_W_law Q 362 [some (.ref 0), some (.ref 8), some (.ref 244), some (.int (nI i))] [] X := by
  obtain ⟨hX, hC, hR, hw, h0⟩ := h
  refine J_aload_n (i := 1) d_W_law_362 rfl rfl ?_
  refine J_aload_n (i := 0) d_W_law_363 rfl rfl ?_
  refine J_iload_n (i := 3) d_W_law_364 rfl rfl ?_
  refine J_iconst (v := nI 1) d_W_law_365 rfl ?_
  refine N_iadd d_W_law_366 ?_
  refine N_iald (x := (scr.getD (i + 1) 0)) d_W_law_367 rfl (by omega) (by rw [h0]; omega) (by rw [h0]) ?_
  refine M_callVO (av := [.int (scr.getD (i + 1) 0)]) d_W_law_368 s_W_32 (M_rcv rfl (by decide) rfl) (N_O_fault hX hC hw) (by decide) rfl rfl (Nat.le_of_ble_eq_true rfl) (fun r1 Y1 hq1 e1 => ?_)
  obtain ⟨rfl, hX1, hC1, hs1⟩ := hq1
  have hR1 := RI_r hs1 hR
  have h01 : Y1.2.1 0 = scr := e1.trans h0
  refine J_aload_n (i := 2) d_W_law_371 rfl rfl ?_
  refine J_aload_n (i := 0) d_W_law_372 rfl rfl ?_
  refine J_iload_n (i := 3) d_W_law_373 rfl rfl ?_
  refine J_iconst (v := nI 1) d_W_law_374 rfl ?_
  refine N_iadd d_W_law_375 ?_
  refine N_iald (x := (scr.getD (i + 1) 0)) d_W_law_376 rfl (by omega) (by rw [h01]; omega) (by rw [h01]) ?_
  refine M_callVO (av := [.int (scr.getD (i + 1) 0)]) d_W_law_377 s_W_35 (M_rcv rfl (by decide) rfl) (N_R_fault hX1 hR1 hw) (by decide) rfl rfl (Nat.le_of_ble_eq_true rfl) (fun r2 Y2 hq2 e2 => ?_)
  obtain ⟨rfl, hX2, hR2, hs2⟩ := hq2
  have hC2 := CI_c hs2 hC1
  refine J_icmp_eq (tgt := 1593) d_W_law_380 (by decide) (fun c380 => ?_) (fun c380 => absurd c380 (fun z => z rfl))
  exact kx Y2 _ ⟨hX2, hC2, hR2, hw, e2.trans h01⟩

theorem lw_by {scr : List Int32} {X : Mem} {s : Sg} {i : Nat} {Q : Option Value → Mem → Prop} (hi : i + 6 ≤ scr.length) (hl : scr.length ≤ 3072) (h : LwS scr X s) (kx : ∀ Y s', LwS scr Y s' → JM 75 m_W_law Q 1593 [some (.ref 0), some (.ref 8), some (.ref 244), some (.int (nI i))] [] Y) : JM 75 m_W_law Q 385 [some (.ref 0), some (.ref 8), some (.ref 244), some (.int (nI i))] [] X := by
  obtain ⟨hX, hC, hR, hw, h0⟩ := h
  refine J_aload_n (i := 1) d_W_law_385 rfl rfl ?_
  refine J_aload_n (i := 0) d_W_law_386 rfl rfl ?_
  refine J_iload_n (i := 3) d_W_law_387 rfl rfl ?_
  refine J_iconst (v := nI 1) d_W_law_388 rfl ?_
  refine N_iadd d_W_law_389 ?_
  refine N_iald (x := (scr.getD (i + 1) 0)) d_W_law_390 rfl (by omega) (by rw [h0]; omega) (by rw [h0]) ?_
  refine M_callVO (av := [.int (scr.getD (i + 1) 0)]) d_W_law_391 s_W_36 (M_rcv rfl (by decide) rfl) (N_O_by hX hC hw) (by decide) rfl rfl (Nat.le_of_ble_eq_true rfl) (fun r1 Y1 hq1 e1 => ?_)
  obtain ⟨rfl, hX1, hC1, hs1⟩ := hq1
  have hR1 := RI_r hs1 hR
  have h01 : Y1.2.1 0 = scr := e1.trans h0
  refine J_aload_n (i := 2) d_W_law_394 rfl rfl ?_
  refine J_aload_n (i := 0) d_W_law_395 rfl rfl ?_
  refine J_iload_n (i := 3) d_W_law_396 rfl rfl ?_
  refine J_iconst (v := nI 1) d_W_law_397 rfl ?_
  refine N_iadd d_W_law_398 ?_
  refine N_iald (x := (scr.getD (i + 1) 0)) d_W_law_399 rfl (by omega) (by rw [h01]; omega) (by rw [h01]) ?_
  refine M_callVO (av := [.int (scr.getD (i + 1) 0)]) d_W_law_400 s_W_40 (M_rcv rfl (by decide) rfl) (N_R_by hX1 hR1 hw) (by decide) rfl rfl (Nat.le_of_ble_eq_true rfl) (fun r2 Y2 hq2 e2 => ?_)
  obtain ⟨rfl, hX2, hR2, hs2⟩ := hq2
  have hC2 := CI_c hs2 hC1
  refine J_icmp_eq (tgt := 1593) d_W_law_403 (by decide) (fun c403 => ?_) (fun c403 => absurd c403 (fun z => z rfl))
  exact kx Y2 _ ⟨hX2, hC2, hR2, WF_byS hw, e2.trans h01⟩

theorem lw_add {scr : List Int32} {X : Mem} {s : Sg} {i : Nat} {Q : Option Value → Mem → Prop} (hi : i + 6 ≤ scr.length) (hl : scr.length ≤ 3072) (h : LwS scr X s) (kx : ∀ Y s', LwS scr Y s' → JM 75 m_W_law Q 1593 [some (.ref 0), some (.ref 8), some (.ref 244), some (.int (nI i))] [] Y) : JM 75 m_W_law Q 408 [some (.ref 0), some (.ref 8), some (.ref 244), some (.int (nI i))] [] X := by
  obtain ⟨hX, hC, hR, hw, h0⟩ := h
  refine J_aload_n (i := 1) d_W_law_408 rfl rfl ?_
  refine J_aload_n (i := 0) d_W_law_409 rfl rfl ?_
  refine J_iload_n (i := 3) d_W_law_410 rfl rfl ?_
  refine J_iconst (v := nI 1) d_W_law_411 rfl ?_
  refine N_iadd d_W_law_412 ?_
  refine N_iald (x := (scr.getD (i + 1) 0)) d_W_law_413 rfl (by omega) (by rw [h0]; omega) (by rw [h0]) ?_
  refine J_aload_n (i := 0) d_W_law_414 rfl rfl ?_
  refine J_iload_n (i := 3) d_W_law_415 rfl rfl ?_
  refine J_iconst (v := nI 2) d_W_law_416 rfl ?_
  refine N_iadd d_W_law_417 ?_
  refine N_iald (x := (scr.getD (i + 2) 0)) d_W_law_418 rfl (by omega) (by rw [h0]; omega) (by rw [h0]) ?_
  refine M_callVO (av := [.int (scr.getD (i + 1) 0), .int (scr.getD (i + 2) 0)]) d_W_law_419 s_W_41 (M_rcv rfl (by decide) rfl) (N_O_add hX hC hw) (by decide) rfl rfl (Nat.le_of_ble_eq_true rfl) (fun r1 Y1 hq1 e1 => ?_)
  obtain ⟨rfl, hX1, hC1, hs1⟩ := hq1
  have hR1 := RI_r hs1 hR
  have h01 : Y1.2.1 0 = scr := e1.trans h0
  refine J_aload_n (i := 2) d_W_law_422 rfl rfl ?_
  refine J_aload_n (i := 0) d_W_law_423 rfl rfl ?_
  refine J_iload_n (i := 3) d_W_law_424 rfl rfl ?_
  refine J_iconst (v := nI 1) d_W_law_425 rfl ?_
  refine N_iadd d_W_law_426 ?_
  refine N_iald (x := (scr.getD (i + 1) 0)) d_W_law_427 rfl (by omega) (by rw [h01]; omega) (by rw [h01]) ?_
  refine J_aload_n (i := 0) d_W_law_428 rfl rfl ?_
  refine J_iload_n (i := 3) d_W_law_429 rfl rfl ?_
  refine J_iconst (v := nI 2) d_W_law_430 rfl ?_
  refine N_iadd d_W_law_431 ?_
  refine N_iald (x := (scr.getD (i + 2) 0)) d_W_law_432 rfl (by omega) (by rw [h01]; omega) (by rw [h01]) ?_
  refine M_callVO (av := [.int (scr.getD (i + 1) 0), .int (scr.getD (i + 2) 0)]) d_W_law_433 s_W_45 (M_rcv rfl (by decide) rfl) (N_R_add hX1 hR1 hw) (by decide) rfl rfl (Nat.le_of_ble_eq_true rfl) (fun r2 Y2 hq2 e2 => ?_)
  obtain ⟨rfl, hX2, hR2, hs2⟩ := hq2
  have hC2 := CI_c hs2 hC1
  refine J_icmp_eq (tgt := 1593) d_W_law_436 (by decide) (fun c436 => ?_) (fun c436 => absurd c436 (fun z => z rfl))
  exact kx Y2 _ ⟨hX2, hC2, hR2, WF_chO hw, e2.trans h01⟩

theorem lw_rub {scr : List Int32} {X : Mem} {s : Sg} {i : Nat} {Q : Option Value → Mem → Prop} (hi : i + 6 ≤ scr.length) (hl : scr.length ≤ 3072) (h : LwS scr X s) (kx : ∀ Y s', LwS scr Y s' → JM 75 m_W_law Q 1593 [some (.ref 0), some (.ref 8), some (.ref 244), some (.int (nI i))] [] Y) : JM 75 m_W_law Q 441 [some (.ref 0), some (.ref 8), some (.ref 244), some (.int (nI i))] [] X := by
  obtain ⟨hX, hC, hR, hw, h0⟩ := h
  refine J_aload_n (i := 1) d_W_law_441 rfl rfl ?_
  refine J_aload_n (i := 0) d_W_law_442 rfl rfl ?_
  refine J_iload_n (i := 3) d_W_law_443 rfl rfl ?_
  refine J_iconst (v := nI 1) d_W_law_444 rfl ?_
  refine N_iadd d_W_law_445 ?_
  refine N_iald (x := (scr.getD (i + 1) 0)) d_W_law_446 rfl (by omega) (by rw [h0]; omega) (by rw [h0]) ?_
  refine J_aload_n (i := 0) d_W_law_447 rfl rfl ?_
  refine J_iload_n (i := 3) d_W_law_448 rfl rfl ?_
  refine J_iconst (v := nI 2) d_W_law_449 rfl ?_
  refine N_iadd d_W_law_450 ?_
  refine N_iald (x := (scr.getD (i + 2) 0)) d_W_law_451 rfl (by omega) (by rw [h0]; omega) (by rw [h0]) ?_
  refine M_callVO (av := [.int (scr.getD (i + 1) 0), .int (scr.getD (i + 2) 0)]) d_W_law_452 s_W_46 (M_rcv rfl (by decide) rfl) (N_O_rub hX hC hw) (by decide) rfl rfl (Nat.le_of_ble_eq_true rfl) (fun r1 Y1 hq1 e1 => ?_)
  obtain ⟨rfl, hX1, hC1, hs1⟩ := hq1
  have hR1 := RI_r hs1 hR
  have h01 : Y1.2.1 0 = scr := e1.trans h0
  refine J_aload_n (i := 2) d_W_law_455 rfl rfl ?_
  refine J_aload_n (i := 0) d_W_law_456 rfl rfl ?_
  refine J_iload_n (i := 3) d_W_law_457 rfl rfl ?_
  refine J_iconst (v := nI 1) d_W_law_458 rfl ?_
  refine N_iadd d_W_law_459 ?_
  refine N_iald (x := (scr.getD (i + 1) 0)) d_W_law_460 rfl (by omega) (by rw [h01]; omega) (by rw [h01]) ?_
  refine J_aload_n (i := 0) d_W_law_461 rfl rfl ?_
  refine J_iload_n (i := 3) d_W_law_462 rfl rfl ?_
  refine J_iconst (v := nI 2) d_W_law_463 rfl ?_
  refine N_iadd d_W_law_464 ?_
  refine N_iald (x := (scr.getD (i + 2) 0)) d_W_law_465 rfl (by omega) (by rw [h01]; omega) (by rw [h01]) ?_
  refine M_callVO (av := [.int (scr.getD (i + 1) 0), .int (scr.getD (i + 2) 0)]) d_W_law_466 s_W_49 (M_rcv rfl (by decide) rfl) (N_R_rub hX1 hR1 hw) (by decide) rfl rfl (Nat.le_of_ble_eq_true rfl) (fun r2 Y2 hq2 e2 => ?_)
  obtain ⟨rfl, hX2, hR2, hs2⟩ := hq2
  have hC2 := CI_c hs2 hC1
  refine J_icmp_eq (tgt := 1593) d_W_law_469 (by decide) (fun c469 => ?_) (fun c469 => absurd c469 (fun z => z rfl))
  exact kx Y2 _ ⟨hX2, hC2, hR2, WF_chO hw, e2.trans h01⟩

theorem lw_renew {scr : List Int32} {X : Mem} {s : Sg} {i : Nat} {Q : Option Value → Mem → Prop} (hi : i + 6 ≤ scr.length) (hl : scr.length ≤ 3072) (h : LwS scr X s) (kx : ∀ Y s', LwS scr Y s' → JM 75 m_W_law Q 1593 [some (.ref 0), some (.ref 8), some (.ref 244), some (.int (nI i))] [] Y) : JM 75 m_W_law Q 474 [some (.ref 0), some (.ref 8), some (.ref 244), some (.int (nI i))] [] X := by
  obtain ⟨hX, hC, hR, hw, h0⟩ := h
  refine J_aload_n (i := 1) d_W_law_474 rfl rfl ?_
  refine J_aload_n (i := 0) d_W_law_475 rfl rfl ?_
  refine J_iload_n (i := 3) d_W_law_476 rfl rfl ?_
  refine J_iconst (v := nI 1) d_W_law_477 rfl ?_
  refine N_iadd d_W_law_478 ?_
  refine N_iald (x := (scr.getD (i + 1) 0)) d_W_law_479 rfl (by omega) (by rw [h0]; omega) (by rw [h0]) ?_
  refine M_callVO (av := [.int (scr.getD (i + 1) 0)]) d_W_law_480 s_W_50 (M_rcv rfl (by decide) rfl) (N_O_renew hX hC hw) (by decide) rfl rfl (Nat.le_of_ble_eq_true rfl) (fun r1 Y1 hq1 e1 => ?_)
  obtain ⟨rfl, hX1, hC1, hs1⟩ := hq1
  have hR1 := RI_r hs1 hR
  have h01 : Y1.2.1 0 = scr := e1.trans h0
  refine J_aload_n (i := 2) d_W_law_483 rfl rfl ?_
  refine J_aload_n (i := 0) d_W_law_484 rfl rfl ?_
  refine J_iload_n (i := 3) d_W_law_485 rfl rfl ?_
  refine J_iconst (v := nI 1) d_W_law_486 rfl ?_
  refine N_iadd d_W_law_487 ?_
  refine N_iald (x := (scr.getD (i + 1) 0)) d_W_law_488 rfl (by omega) (by rw [h01]; omega) (by rw [h01]) ?_
  refine M_callVO (av := [.int (scr.getD (i + 1) 0)]) d_W_law_489 s_W_53 (M_rcv rfl (by decide) rfl) (N_R_renew hX1 hR1 hw) (by decide) rfl rfl (Nat.le_of_ble_eq_true rfl) (fun r2 Y2 hq2 e2 => ?_)
  obtain ⟨rfl, hX2, hR2, hs2⟩ := hq2
  have hC2 := CI_c hs2 hC1
  refine J_icmp_eq (tgt := 1593) d_W_law_492 (by decide) (fun c492 => ?_) (fun c492 => absurd c492 (fun z => z rfl))
  exact kx Y2 _ ⟨hX2, hC2, hR2, WF_rnO hw, e2.trans h01⟩

theorem lw_year {scr : List Int32} {X : Mem} {s : Sg} {i : Nat} {Q : Option Value → Mem → Prop} (hi : i + 6 ≤ scr.length) (hl : scr.length ≤ 3072) (h : LwS scr X s) (kx : ∀ Y s', LwS scr Y s' → JM 75 m_W_law Q 1593 [some (.ref 0), some (.ref 8), some (.ref 244), some (.int (nI i))] [] Y) : JM 75 m_W_law Q 497 [some (.ref 0), some (.ref 8), some (.ref 244), some (.int (nI i))] [] X := by
  obtain ⟨hX, hC, hR, hw, h0⟩ := h
  refine J_aload_n (i := 1) d_W_law_497 rfl rfl ?_
  refine J_aload_n (i := 0) d_W_law_498 rfl rfl ?_
  refine J_iload_n (i := 3) d_W_law_499 rfl rfl ?_
  refine J_iconst (v := nI 1) d_W_law_500 rfl ?_
  refine N_iadd d_W_law_501 ?_
  refine N_iald (x := (scr.getD (i + 1) 0)) d_W_law_502 rfl (by omega) (by rw [h0]; omega) (by rw [h0]) ?_
  refine M_callVO (av := [.int (scr.getD (i + 1) 0)]) d_W_law_503 s_W_54 (M_rcv rfl (by decide) rfl) (N_O_year hX hC hw) (by decide) rfl rfl (Nat.le_of_ble_eq_true rfl) (fun r1 Y1 hq1 e1 => ?_)
  obtain ⟨rfl, hX1, hC1, hs1⟩ := hq1
  have hR1 := RI_r hs1 hR
  have h01 : Y1.2.1 0 = scr := e1.trans h0
  refine J_aload_n (i := 2) d_W_law_506 rfl rfl ?_
  refine J_aload_n (i := 0) d_W_law_507 rfl rfl ?_
  refine J_iload_n (i := 3) d_W_law_508 rfl rfl ?_
  refine J_iconst (v := nI 1) d_W_law_509 rfl ?_
  refine N_iadd d_W_law_510 ?_
  refine N_iald (x := (scr.getD (i + 1) 0)) d_W_law_511 rfl (by omega) (by rw [h01]; omega) (by rw [h01]) ?_
  refine M_callVO (av := [.int (scr.getD (i + 1) 0)]) d_W_law_512 s_W_57 (M_rcv rfl (by decide) rfl) (N_R_year hX1 hR1 hw) (by decide) rfl rfl (Nat.le_of_ble_eq_true rfl) (fun r2 Y2 hq2 e2 => ?_)
  obtain ⟨rfl, hX2, hR2, hs2⟩ := hq2
  have hC2 := CI_c hs2 hC1
  refine J_icmp_eq (tgt := 1593) d_W_law_515 (by decide) (fun c515 => ?_) (fun c515 => absurd c515 (fun z => z rfl))
  exact kx Y2 _ ⟨hX2, hC2, hR2, WF_yrO hw, e2.trans h01⟩

theorem lw_played {scr : List Int32} {X : Mem} {s : Sg} {i : Nat} {Q : Option Value → Mem → Prop} (hi : i + 6 ≤ scr.length) (hl : scr.length ≤ 3072) (h : LwS scr X s) (kx : ∀ Y s', LwS scr Y s' → JM 75 m_W_law Q 1593 [some (.ref 0), some (.ref 8), some (.ref 244), some (.int (nI i))] [] Y) : JM 75 m_W_law Q 520 [some (.ref 0), some (.ref 8), some (.ref 244), some (.int (nI i))] [] X := by
  obtain ⟨hX, hC, hR, hw, h0⟩ := h
  refine J_aload_n (i := 1) d_W_law_520 rfl rfl ?_
  refine J_aload_n (i := 0) d_W_law_521 rfl rfl ?_
  refine J_iload_n (i := 3) d_W_law_522 rfl rfl ?_
  refine J_iconst (v := nI 1) d_W_law_523 rfl ?_
  refine N_iadd d_W_law_524 ?_
  refine N_iald (x := (scr.getD (i + 1) 0)) d_W_law_525 rfl (by omega) (by rw [h0]; omega) (by rw [h0]) ?_
  refine M_callVO (av := [.int (scr.getD (i + 1) 0)]) d_W_law_526 s_W_58 (M_rcv rfl (by decide) rfl) (N_O_played hX hC hw) (by decide) rfl rfl (Nat.le_of_ble_eq_true rfl) (fun r1 Y1 hq1 e1 => ?_)
  obtain ⟨rfl, hX1, hC1, hs1⟩ := hq1
  have hR1 := RI_r hs1 hR
  have h01 : Y1.2.1 0 = scr := e1.trans h0
  refine J_aload_n (i := 2) d_W_law_529 rfl rfl ?_
  refine J_aload_n (i := 0) d_W_law_530 rfl rfl ?_
  refine J_iload_n (i := 3) d_W_law_531 rfl rfl ?_
  refine J_iconst (v := nI 1) d_W_law_532 rfl ?_
  refine N_iadd d_W_law_533 ?_
  refine N_iald (x := (scr.getD (i + 1) 0)) d_W_law_534 rfl (by omega) (by rw [h01]; omega) (by rw [h01]) ?_
  refine M_callVO (av := [.int (scr.getD (i + 1) 0)]) d_W_law_535 s_W_61 (M_rcv rfl (by decide) rfl) (N_R_played hX1 hR1 hw) (by decide) rfl rfl (Nat.le_of_ble_eq_true rfl) (fun r2 Y2 hq2 e2 => ?_)
  obtain ⟨rfl, hX2, hR2, hs2⟩ := hq2
  have hC2 := CI_c hs2 hC1
  refine J_icmp_eq (tgt := 1593) d_W_law_538 (by decide) (fun c538 => ?_) (fun c538 => absurd c538 (fun z => z rfl))
  exact kx Y2 _ ⟨hX2, hC2, hR2, WF_plC hw, e2.trans h01⟩

theorem lw_ages {scr : List Int32} {X : Mem} {s : Sg} {i : Nat} {Q : Option Value → Mem → Prop} (hi : i + 6 ≤ scr.length) (hl : scr.length ≤ 3072) (h : LwS scr X s) (kx : ∀ Y s', LwS scr Y s' → JM 75 m_W_law Q 1593 [some (.ref 0), some (.ref 8), some (.ref 244), some (.int (nI i))] [] Y) : JM 75 m_W_law Q 543 [some (.ref 0), some (.ref 8), some (.ref 244), some (.int (nI i))] [] X := by
  obtain ⟨hX, hC, hR, hw, h0⟩ := h
  refine J_aload_n (i := 1) d_W_law_543 rfl rfl ?_
  refine J_aload_n (i := 0) d_W_law_544 rfl rfl ?_
  refine J_iload_n (i := 3) d_W_law_545 rfl rfl ?_
  refine J_iconst (v := nI 1) d_W_law_546 rfl ?_
  refine N_iadd d_W_law_547 ?_
  refine N_iald (x := (scr.getD (i + 1) 0)) d_W_law_548 rfl (by omega) (by rw [h0]; omega) (by rw [h0]) ?_
  refine J_aload_n (i := 0) d_W_law_549 rfl rfl ?_
  refine J_iload_n (i := 3) d_W_law_550 rfl rfl ?_
  refine J_iconst (v := nI 2) d_W_law_551 rfl ?_
  refine N_iadd d_W_law_552 ?_
  refine N_iald (x := (scr.getD (i + 2) 0)) d_W_law_553 rfl (by omega) (by rw [h0]; omega) (by rw [h0]) ?_
  refine M_callVO (av := [.int (scr.getD (i + 1) 0), .int (scr.getD (i + 2) 0)]) d_W_law_554 s_W_62 (M_rcv rfl (by decide) rfl) (N_O_ages hX hC hw) (by decide) rfl rfl (Nat.le_of_ble_eq_true rfl) (fun r1 Y1 hq1 e1 => ?_)
  obtain ⟨rfl, hX1, hC1, hs1⟩ := hq1
  have hR1 := RI_r hs1 hR
  have h01 : Y1.2.1 0 = scr := e1.trans h0
  refine J_aload_n (i := 2) d_W_law_557 rfl rfl ?_
  refine J_aload_n (i := 0) d_W_law_558 rfl rfl ?_
  refine J_iload_n (i := 3) d_W_law_559 rfl rfl ?_
  refine J_iconst (v := nI 1) d_W_law_560 rfl ?_
  refine N_iadd d_W_law_561 ?_
  refine N_iald (x := (scr.getD (i + 1) 0)) d_W_law_562 rfl (by omega) (by rw [h01]; omega) (by rw [h01]) ?_
  refine J_aload_n (i := 0) d_W_law_563 rfl rfl ?_
  refine J_iload_n (i := 3) d_W_law_564 rfl rfl ?_
  refine J_iconst (v := nI 2) d_W_law_565 rfl ?_
  refine N_iadd d_W_law_566 ?_
  refine N_iald (x := (scr.getD (i + 2) 0)) d_W_law_567 rfl (by omega) (by rw [h01]; omega) (by rw [h01]) ?_
  refine M_callVO (av := [.int (scr.getD (i + 1) 0), .int (scr.getD (i + 2) 0)]) d_W_law_568 s_W_66 (M_rcv rfl (by decide) rfl) (N_R_ages hX1 hR1 hw) (by decide) rfl rfl (Nat.le_of_ble_eq_true rfl) (fun r2 Y2 hq2 e2 => ?_)
  obtain ⟨rfl, hX2, hR2, hs2⟩ := hq2
  have hC2 := CI_c hs2 hC1
  refine J_icmp_eq (tgt := 1593) d_W_law_571 (by decide) (fun c571 => ?_) (fun c571 => absurd c571 (fun z => z rfl))
  exact kx Y2 _ ⟨hX2, hC2, hR2, WF_agO hw, e2.trans h01⟩

theorem lw_undo {scr : List Int32} {X : Mem} {s : Sg} {i : Nat} {Q : Option Value → Mem → Prop} (hi : i + 6 ≤ scr.length) (hl : scr.length ≤ 3072) (h : LwS scr X s) (kx : ∀ Y s', LwS scr Y s' → JM 75 m_W_law Q 1593 [some (.ref 0), some (.ref 8), some (.ref 244), some (.int (nI i))] [] Y) : JM 75 m_W_law Q 576 [some (.ref 0), some (.ref 8), some (.ref 244), some (.int (nI i))] [] X := by
  obtain ⟨hX, hC, hR, hw, h0⟩ := h
  refine J_aload_n (i := 1) d_W_law_576 rfl rfl ?_
  refine M_callVO (av := []) d_W_law_577 s_W_67 (M_rcv rfl (by decide) rfl) (N_O_undo hX hC hw) (by decide) rfl rfl (Nat.le_of_ble_eq_true rfl) (fun r1 Y1 hq1 e1 => ?_)
  obtain ⟨rfl, hX1, hC1, hs1⟩ := hq1
  have hR1 := RI_r hs1 hR
  have h01 : Y1.2.1 0 = scr := e1.trans h0
  refine J_aload_n (i := 2) d_W_law_580 rfl rfl ?_
  refine M_callVO (av := []) d_W_law_581 s_W_70 (M_rcv rfl (by decide) rfl) (N_R_undo hX1 hR1 hw) (by decide) rfl rfl (Nat.le_of_ble_eq_true rfl) (fun r2 Y2 hq2 e2 => ?_)
  obtain ⟨rfl, hX2, hR2, hs2⟩ := hq2
  have hC2 := CI_c hs2 hC1
  refine J_icmp_eq (tgt := 1593) d_W_law_584 (by decide) (fun c584 => ?_) (fun c584 => absurd c584 (fun z => z rfl))
  exact kx Y2 _ ⟨hX2, hC2, hR2, WF_udO hw, e2.trans h01⟩

theorem lw_of {scr : List Int32} {X : Mem} {s : Sg} {i : Nat} {Q : Option Value → Mem → Prop} (hi : i + 6 ≤ scr.length) (hl : scr.length ≤ 3072) (h : LwS scr X s) (kx : ∀ Y s', LwS scr Y s' → JM 75 m_W_law Q 1593 [some (.ref 0), some (.ref 8), some (.ref 244), some (.int (nI i))] [] Y) : JM 75 m_W_law Q 589 [some (.ref 0), some (.ref 8), some (.ref 244), some (.int (nI i))] [] X := by
  obtain ⟨hX, hC, hR, hw, h0⟩ := h
  refine J_aload_n (i := 1) d_W_law_589 rfl rfl ?_
  refine J_aload_n (i := 0) d_W_law_590 rfl rfl ?_
  refine J_iload_n (i := 3) d_W_law_591 rfl rfl ?_
  refine J_iconst (v := nI 1) d_W_law_592 rfl ?_
  refine N_iadd d_W_law_593 ?_
  refine N_iald (x := (scr.getD (i + 1) 0)) d_W_law_594 rfl (by omega) (by rw [h0]; omega) (by rw [h0]) ?_
  refine J_aload_n (i := 0) d_W_law_595 rfl rfl ?_
  refine J_iload_n (i := 3) d_W_law_596 rfl rfl ?_
  refine J_iconst (v := nI 2) d_W_law_597 rfl ?_
  refine N_iadd d_W_law_598 ?_
  refine N_iald (x := (scr.getD (i + 2) 0)) d_W_law_599 rfl (by omega) (by rw [h0]; omega) (by rw [h0]) ?_
  refine M_callVO (av := [.int (scr.getD (i + 1) 0), .int (scr.getD (i + 2) 0)]) d_W_law_600 s_W_71 (M_rcv rfl (by decide) rfl) (N_O_of hX hC hw) (by decide) rfl rfl (Nat.le_of_ble_eq_true rfl) (fun r1 Y1 hq1 e1 => ?_)
  obtain ⟨rfl, hX1, hC1, hs1⟩ := hq1
  have hR1 := RI_r hs1 hR
  have h01 : Y1.2.1 0 = scr := e1.trans h0
  refine J_aload_n (i := 2) d_W_law_603 rfl rfl ?_
  refine J_aload_n (i := 0) d_W_law_604 rfl rfl ?_
  refine J_iload_n (i := 3) d_W_law_605 rfl rfl ?_
  refine J_iconst (v := nI 1) d_W_law_606 rfl ?_
  refine N_iadd d_W_law_607 ?_
  refine N_iald (x := (scr.getD (i + 1) 0)) d_W_law_608 rfl (by omega) (by rw [h01]; omega) (by rw [h01]) ?_
  refine J_aload_n (i := 0) d_W_law_609 rfl rfl ?_
  refine J_iload_n (i := 3) d_W_law_610 rfl rfl ?_
  refine J_iconst (v := nI 2) d_W_law_611 rfl ?_
  refine N_iadd d_W_law_612 ?_
  refine N_iald (x := (scr.getD (i + 2) 0)) d_W_law_613 rfl (by omega) (by rw [h01]; omega) (by rw [h01]) ?_
  refine M_callVO (av := [.int (scr.getD (i + 1) 0), .int (scr.getD (i + 2) 0)]) d_W_law_614 s_W_74 (M_rcv rfl (by decide) rfl) (N_R_of hX1 hR1 hw) (by decide) rfl rfl (Nat.le_of_ble_eq_true rfl) (fun r2 Y2 hq2 e2 => ?_)
  obtain ⟨rfl, hX2, hR2, hs2⟩ := hq2
  have hC2 := CI_c hs2 hC1
  refine J_icmp_eq (tgt := 1593) d_W_law_617 (by decide) (fun c617 => ?_) (fun c617 => absurd c617 (fun z => z rfl))
  exact kx Y2 _ ⟨hX2, hC2, hR2, hw, e2.trans h01⟩

theorem lw_wears {scr : List Int32} {X : Mem} {s : Sg} {i : Nat} {Q : Option Value → Mem → Prop} (hi : i + 6 ≤ scr.length) (hl : scr.length ≤ 3072) (h : LwS scr X s) (kx : ∀ Y s', LwS scr Y s' → JM 75 m_W_law Q 1593 [some (.ref 0), some (.ref 8), some (.ref 244), some (.int (nI i))] [] Y) : JM 75 m_W_law Q 622 [some (.ref 0), some (.ref 8), some (.ref 244), some (.int (nI i))] [] X := by
  obtain ⟨hX, hC, hR, hw, h0⟩ := h
  refine J_aload_n (i := 1) d_W_law_622 rfl rfl ?_
  refine J_aload_n (i := 0) d_W_law_623 rfl rfl ?_
  refine J_iload_n (i := 3) d_W_law_624 rfl rfl ?_
  refine J_iconst (v := nI 1) d_W_law_625 rfl ?_
  refine N_iadd d_W_law_626 ?_
  refine N_iald (x := (scr.getD (i + 1) 0)) d_W_law_627 rfl (by omega) (by rw [h0]; omega) (by rw [h0]) ?_
  refine J_aload_n (i := 0) d_W_law_628 rfl rfl ?_
  refine J_iload_n (i := 3) d_W_law_629 rfl rfl ?_
  refine J_iconst (v := nI 2) d_W_law_630 rfl ?_
  refine N_iadd d_W_law_631 ?_
  refine N_iald (x := (scr.getD (i + 2) 0)) d_W_law_632 rfl (by omega) (by rw [h0]; omega) (by rw [h0]) ?_
  refine M_callVO (av := [.int (scr.getD (i + 1) 0), .int (scr.getD (i + 2) 0)]) d_W_law_633 s_W_75 (M_rcv rfl (by decide) rfl) (N_O_wears hX hC hw) (by decide) rfl rfl (Nat.le_of_ble_eq_true rfl) (fun r1 Y1 hq1 e1 => ?_)
  obtain ⟨rfl, hX1, hC1, hs1⟩ := hq1
  have hR1 := RI_r hs1 hR
  have h01 : Y1.2.1 0 = scr := e1.trans h0
  refine J_aload_n (i := 2) d_W_law_636 rfl rfl ?_
  refine J_aload_n (i := 0) d_W_law_637 rfl rfl ?_
  refine J_iload_n (i := 3) d_W_law_638 rfl rfl ?_
  refine J_iconst (v := nI 1) d_W_law_639 rfl ?_
  refine N_iadd d_W_law_640 ?_
  refine N_iald (x := (scr.getD (i + 1) 0)) d_W_law_641 rfl (by omega) (by rw [h01]; omega) (by rw [h01]) ?_
  refine J_aload_n (i := 0) d_W_law_642 rfl rfl ?_
  refine J_iload_n (i := 3) d_W_law_643 rfl rfl ?_
  refine J_iconst (v := nI 2) d_W_law_644 rfl ?_
  refine N_iadd d_W_law_645 ?_
  refine N_iald (x := (scr.getD (i + 2) 0)) d_W_law_646 rfl (by omega) (by rw [h01]; omega) (by rw [h01]) ?_
  refine M_callVO (av := [.int (scr.getD (i + 1) 0), .int (scr.getD (i + 2) 0)]) d_W_law_647 s_W_78 (M_rcv rfl (by decide) rfl) (N_R_wears hX1 hR1 hw) (by decide) rfl rfl (Nat.le_of_ble_eq_true rfl) (fun r2 Y2 hq2 e2 => ?_)
  obtain ⟨rfl, hX2, hR2, hs2⟩ := hq2
  have hC2 := CI_c hs2 hC1
  refine J_icmp_eq (tgt := 1593) d_W_law_650 (by decide) (fun c650 => ?_) (fun c650 => absurd c650 (fun z => z rfl))
  exact kx Y2 _ ⟨hX2, hC2, hR2, hw, e2.trans h01⟩

theorem lw_is {scr : List Int32} {X : Mem} {s : Sg} {i : Nat} {Q : Option Value → Mem → Prop} (hi : i + 6 ≤ scr.length) (hl : scr.length ≤ 3072) (h : LwS scr X s) (kx : ∀ Y s', LwS scr Y s' → JM 75 m_W_law Q 1593 [some (.ref 0), some (.ref 8), some (.ref 244), some (.int (nI i))] [] Y) : JM 75 m_W_law Q 655 [some (.ref 0), some (.ref 8), some (.ref 244), some (.int (nI i))] [] X := by
  obtain ⟨hX, hC, hR, hw, h0⟩ := h
  refine J_aload_n (i := 1) d_W_law_655 rfl rfl ?_
  refine J_aload_n (i := 0) d_W_law_656 rfl rfl ?_
  refine J_iload_n (i := 3) d_W_law_657 rfl rfl ?_
  refine J_iconst (v := nI 1) d_W_law_658 rfl ?_
  refine N_iadd d_W_law_659 ?_
  refine N_iald (x := (scr.getD (i + 1) 0)) d_W_law_660 rfl (by omega) (by rw [h0]; omega) (by rw [h0]) ?_
  refine M_callVO (av := [.int (scr.getD (i + 1) 0)]) d_W_law_661 s_W_79 (M_rcv rfl (by decide) rfl) (N_O_is hX hC hw) (by decide) rfl rfl (Nat.le_of_ble_eq_true rfl) (fun r1 Y1 hq1 e1 => ?_)
  obtain ⟨rfl, hX1, hC1, hs1⟩ := hq1
  have hR1 := RI_r hs1 hR
  have h01 : Y1.2.1 0 = scr := e1.trans h0
  refine J_aload_n (i := 2) d_W_law_664 rfl rfl ?_
  refine J_aload_n (i := 0) d_W_law_665 rfl rfl ?_
  refine J_iload_n (i := 3) d_W_law_666 rfl rfl ?_
  refine J_iconst (v := nI 1) d_W_law_667 rfl ?_
  refine N_iadd d_W_law_668 ?_
  refine N_iald (x := (scr.getD (i + 1) 0)) d_W_law_669 rfl (by omega) (by rw [h01]; omega) (by rw [h01]) ?_
  refine M_callVO (av := [.int (scr.getD (i + 1) 0)]) d_W_law_670 s_W_82 (M_rcv rfl (by decide) rfl) (N_R_is hX1 hR1 hw) (by decide) rfl rfl (Nat.le_of_ble_eq_true rfl) (fun r2 Y2 hq2 e2 => ?_)
  obtain ⟨rfl, hX2, hR2, hs2⟩ := hq2
  have hC2 := CI_c hs2 hC1
  refine J_icmp_eq (tgt := 1593) d_W_law_673 (by decide) (fun c673 => ?_) (fun c673 => absurd c673 (fun z => z rfl))
  exact kx Y2 _ ⟨hX2, hC2, hR2, hw, e2.trans h01⟩

theorem lw_book {scr : List Int32} {X : Mem} {s : Sg} {i : Nat} {Q : Option Value → Mem → Prop} (hi : i + 6 ≤ scr.length) (hl : scr.length ≤ 3072) (h : LwS scr X s) (kx : ∀ Y s', LwS scr Y s' → JM 75 m_W_law Q 1593 [some (.ref 0), some (.ref 8), some (.ref 244), some (.int (nI i))] [] Y) : JM 75 m_W_law Q 678 [some (.ref 0), some (.ref 8), some (.ref 244), some (.int (nI i))] [] X := by
  obtain ⟨hX, hC, hR, hw, h0⟩ := h
  refine J_aload_n (i := 1) d_W_law_678 rfl rfl ?_
  refine J_aload_n (i := 0) d_W_law_679 rfl rfl ?_
  refine J_iload_n (i := 3) d_W_law_680 rfl rfl ?_
  refine J_iconst (v := nI 1) d_W_law_681 rfl ?_
  refine N_iadd d_W_law_682 ?_
  refine N_iald (x := (scr.getD (i + 1) 0)) d_W_law_683 rfl (by omega) (by rw [h0]; omega) (by rw [h0]) ?_
  refine J_aload_n (i := 0) d_W_law_684 rfl rfl ?_
  refine J_iload_n (i := 3) d_W_law_685 rfl rfl ?_
  refine J_iconst (v := nI 2) d_W_law_686 rfl ?_
  refine N_iadd d_W_law_687 ?_
  refine N_iald (x := (scr.getD (i + 2) 0)) d_W_law_688 rfl (by omega) (by rw [h0]; omega) (by rw [h0]) ?_
  refine M_callVO (av := [.int (scr.getD (i + 1) 0), .int (scr.getD (i + 2) 0)]) d_W_law_689 s_W_83 (M_rcv rfl (by decide) rfl) (N_O_book hX hC hw) (by decide) rfl rfl (Nat.le_of_ble_eq_true rfl) (fun r1 Y1 hq1 e1 => ?_)
  obtain ⟨rfl, hX1, hC1, hs1⟩ := hq1
  have hR1 := RI_r hs1 hR
  have h01 : Y1.2.1 0 = scr := e1.trans h0
  refine J_aload_n (i := 2) d_W_law_692 rfl rfl ?_
  refine J_aload_n (i := 0) d_W_law_693 rfl rfl ?_
  refine J_iload_n (i := 3) d_W_law_694 rfl rfl ?_
  refine J_iconst (v := nI 1) d_W_law_695 rfl ?_
  refine N_iadd d_W_law_696 ?_
  refine N_iald (x := (scr.getD (i + 1) 0)) d_W_law_697 rfl (by omega) (by rw [h01]; omega) (by rw [h01]) ?_
  refine J_aload_n (i := 0) d_W_law_698 rfl rfl ?_
  refine J_iload_n (i := 3) d_W_law_699 rfl rfl ?_
  refine J_iconst (v := nI 2) d_W_law_700 rfl ?_
  refine N_iadd d_W_law_701 ?_
  refine N_iald (x := (scr.getD (i + 2) 0)) d_W_law_702 rfl (by omega) (by rw [h01]; omega) (by rw [h01]) ?_
  refine M_callVO (av := [.int (scr.getD (i + 1) 0), .int (scr.getD (i + 2) 0)]) d_W_law_703 s_W_86 (M_rcv rfl (by decide) rfl) (N_R_book hX1 hR1 hw) (by decide) rfl rfl (Nat.le_of_ble_eq_true rfl) (fun r2 Y2 hq2 e2 => ?_)
  obtain ⟨rfl, hX2, hR2, hs2⟩ := hq2
  have hC2 := CI_c hs2 hC1
  refine J_icmp_eq (tgt := 1593) d_W_law_706 (by decide) (fun c706 => ?_) (fun c706 => absurd c706 (fun z => z rfl))
  exact kx Y2 _ ⟨hX2, hC2, hR2, hw, e2.trans h01⟩

theorem lw_foretold {scr : List Int32} {X : Mem} {s : Sg} {i : Nat} {Q : Option Value → Mem → Prop} (hi : i + 6 ≤ scr.length) (hl : scr.length ≤ 3072) (h : LwS scr X s) (kx : ∀ Y s', LwS scr Y s' → JM 75 m_W_law Q 1593 [some (.ref 0), some (.ref 8), some (.ref 244), some (.int (nI i))] [] Y) : JM 75 m_W_law Q 711 [some (.ref 0), some (.ref 8), some (.ref 244), some (.int (nI i))] [] X := by
  obtain ⟨hX, hC, hR, hw, h0⟩ := h
  refine J_aload_n (i := 1) d_W_law_711 rfl rfl ?_
  refine J_aload_n (i := 0) d_W_law_712 rfl rfl ?_
  refine J_iload_n (i := 3) d_W_law_713 rfl rfl ?_
  refine J_iconst (v := nI 1) d_W_law_714 rfl ?_
  refine N_iadd d_W_law_715 ?_
  refine N_iald (x := (scr.getD (i + 1) 0)) d_W_law_716 rfl (by omega) (by rw [h0]; omega) (by rw [h0]) ?_
  refine J_aload_n (i := 0) d_W_law_717 rfl rfl ?_
  refine J_iload_n (i := 3) d_W_law_718 rfl rfl ?_
  refine J_iconst (v := nI 2) d_W_law_719 rfl ?_
  refine N_iadd d_W_law_720 ?_
  refine N_iald (x := (scr.getD (i + 2) 0)) d_W_law_721 rfl (by omega) (by rw [h0]; omega) (by rw [h0]) ?_
  refine M_callVO (av := [.int (scr.getD (i + 1) 0), .int (scr.getD (i + 2) 0)]) d_W_law_722 s_W_87 (M_rcv rfl (by decide) rfl) (N_O_foretold hX hC hw) (by decide) rfl rfl (Nat.le_of_ble_eq_true rfl) (fun r1 Y1 hq1 e1 => ?_)
  obtain ⟨rfl, hX1, hC1, hs1⟩ := hq1
  have hR1 := RI_r hs1 hR
  have h01 : Y1.2.1 0 = scr := e1.trans h0
  refine J_aload_n (i := 2) d_W_law_725 rfl rfl ?_
  refine J_aload_n (i := 0) d_W_law_726 rfl rfl ?_
  refine J_iload_n (i := 3) d_W_law_727 rfl rfl ?_
  refine J_iconst (v := nI 1) d_W_law_728 rfl ?_
  refine N_iadd d_W_law_729 ?_
  refine N_iald (x := (scr.getD (i + 1) 0)) d_W_law_730 rfl (by omega) (by rw [h01]; omega) (by rw [h01]) ?_
  refine J_aload_n (i := 0) d_W_law_731 rfl rfl ?_
  refine J_iload_n (i := 3) d_W_law_732 rfl rfl ?_
  refine J_iconst (v := nI 2) d_W_law_733 rfl ?_
  refine N_iadd d_W_law_734 ?_
  refine N_iald (x := (scr.getD (i + 2) 0)) d_W_law_735 rfl (by omega) (by rw [h01]; omega) (by rw [h01]) ?_
  refine M_callVO (av := [.int (scr.getD (i + 1) 0), .int (scr.getD (i + 2) 0)]) d_W_law_736 s_W_90 (M_rcv rfl (by decide) rfl) (N_R_foretold hX1 hR1 hw) (by decide) rfl rfl (Nat.le_of_ble_eq_true rfl) (fun r2 Y2 hq2 e2 => ?_)
  obtain ⟨rfl, hX2, hR2, hs2⟩ := hq2
  have hC2 := CI_c hs2 hC1
  refine J_icmp_eq (tgt := 1593) d_W_law_739 (by decide) (fun c739 => ?_) (fun c739 => absurd c739 (fun z => z rfl))
  exact kx Y2 _ ⟨hX2, hC2, hR2, hw, e2.trans h01⟩

theorem lw_drawn {scr : List Int32} {X : Mem} {s : Sg} {i : Nat} {Q : Option Value → Mem → Prop} (hi : i + 6 ≤ scr.length) (hl : scr.length ≤ 3072) (h : LwS scr X s) (kx : ∀ Y s', LwS scr Y s' → JM 75 m_W_law Q 1593 [some (.ref 0), some (.ref 8), some (.ref 244), some (.int (nI i))] [] Y) : JM 75 m_W_law Q 744 [some (.ref 0), some (.ref 8), some (.ref 244), some (.int (nI i))] [] X := by
  obtain ⟨hX, hC, hR, hw, h0⟩ := h
  refine J_aload_n (i := 1) d_W_law_744 rfl rfl ?_
  refine J_aload_n (i := 0) d_W_law_745 rfl rfl ?_
  refine J_iload_n (i := 3) d_W_law_746 rfl rfl ?_
  refine J_iconst (v := nI 1) d_W_law_747 rfl ?_
  refine N_iadd d_W_law_748 ?_
  refine N_iald (x := (scr.getD (i + 1) 0)) d_W_law_749 rfl (by omega) (by rw [h0]; omega) (by rw [h0]) ?_
  refine J_aload_n (i := 0) d_W_law_750 rfl rfl ?_
  refine J_iload_n (i := 3) d_W_law_751 rfl rfl ?_
  refine J_iconst (v := nI 2) d_W_law_752 rfl ?_
  refine N_iadd d_W_law_753 ?_
  refine N_iald (x := (scr.getD (i + 2) 0)) d_W_law_754 rfl (by omega) (by rw [h0]; omega) (by rw [h0]) ?_
  refine M_callVO (av := [.int (scr.getD (i + 1) 0), .int (scr.getD (i + 2) 0)]) d_W_law_755 s_W_91 (M_rcv rfl (by decide) rfl) (N_O_drawn hX hC hw) (by decide) rfl rfl (Nat.le_of_ble_eq_true rfl) (fun r1 Y1 hq1 e1 => ?_)
  obtain ⟨rfl, hX1, hC1, hs1⟩ := hq1
  have hR1 := RI_r hs1 hR
  have h01 : Y1.2.1 0 = scr := e1.trans h0
  refine J_aload_n (i := 2) d_W_law_758 rfl rfl ?_
  refine J_aload_n (i := 0) d_W_law_759 rfl rfl ?_
  refine J_iload_n (i := 3) d_W_law_760 rfl rfl ?_
  refine J_iconst (v := nI 1) d_W_law_761 rfl ?_
  refine N_iadd d_W_law_762 ?_
  refine N_iald (x := (scr.getD (i + 1) 0)) d_W_law_763 rfl (by omega) (by rw [h01]; omega) (by rw [h01]) ?_
  refine J_aload_n (i := 0) d_W_law_764 rfl rfl ?_
  refine J_iload_n (i := 3) d_W_law_765 rfl rfl ?_
  refine J_iconst (v := nI 2) d_W_law_766 rfl ?_
  refine N_iadd d_W_law_767 ?_
  refine N_iald (x := (scr.getD (i + 2) 0)) d_W_law_768 rfl (by omega) (by rw [h01]; omega) (by rw [h01]) ?_
  refine M_callVO (av := [.int (scr.getD (i + 1) 0), .int (scr.getD (i + 2) 0)]) d_W_law_769 s_W_94 (M_rcv rfl (by decide) rfl) (N_R_drawn hX1 hR1 hw) (by decide) rfl rfl (Nat.le_of_ble_eq_true rfl) (fun r2 Y2 hq2 e2 => ?_)
  obtain ⟨rfl, hX2, hR2, hs2⟩ := hq2
  have hC2 := CI_c hs2 hC1
  refine J_icmp_eq (tgt := 1593) d_W_law_772 (by decide) (fun c772 => ?_) (fun c772 => absurd c772 (fun z => z rfl))
  exact kx Y2 _ ⟨hX2, hC2, hR2, hw, e2.trans h01⟩

theorem lw_turned {scr : List Int32} {X : Mem} {s : Sg} {i : Nat} {Q : Option Value → Mem → Prop} (hi : i + 6 ≤ scr.length) (hl : scr.length ≤ 3072) (h : LwS scr X s) (kx : ∀ Y s', LwS scr Y s' → JM 75 m_W_law Q 1593 [some (.ref 0), some (.ref 8), some (.ref 244), some (.int (nI i))] [] Y) : JM 75 m_W_law Q 777 [some (.ref 0), some (.ref 8), some (.ref 244), some (.int (nI i))] [] X := by
  obtain ⟨hX, hC, hR, hw, h0⟩ := h
  refine J_aload_n (i := 1) d_W_law_777 rfl rfl ?_
  refine J_aload_n (i := 0) d_W_law_778 rfl rfl ?_
  refine J_iload_n (i := 3) d_W_law_779 rfl rfl ?_
  refine J_iconst (v := nI 1) d_W_law_780 rfl ?_
  refine N_iadd d_W_law_781 ?_
  refine N_iald (x := (scr.getD (i + 1) 0)) d_W_law_782 rfl (by omega) (by rw [h0]; omega) (by rw [h0]) ?_
  refine J_aload_n (i := 0) d_W_law_783 rfl rfl ?_
  refine J_iload_n (i := 3) d_W_law_784 rfl rfl ?_
  refine J_iconst (v := nI 2) d_W_law_785 rfl ?_
  refine N_iadd d_W_law_786 ?_
  refine N_iald (x := (scr.getD (i + 2) 0)) d_W_law_787 rfl (by omega) (by rw [h0]; omega) (by rw [h0]) ?_
  refine M_callVO (av := [.int (scr.getD (i + 1) 0), .int (scr.getD (i + 2) 0)]) d_W_law_788 s_W_95 (M_rcv rfl (by decide) rfl) (N_O_turned hX hC hw) (by decide) rfl rfl (Nat.le_of_ble_eq_true rfl) (fun r1 Y1 hq1 e1 => ?_)
  obtain ⟨rfl, hX1, hC1, hs1⟩ := hq1
  have hR1 := RI_r hs1 hR
  have h01 : Y1.2.1 0 = scr := e1.trans h0
  refine J_aload_n (i := 2) d_W_law_791 rfl rfl ?_
  refine J_aload_n (i := 0) d_W_law_792 rfl rfl ?_
  refine J_iload_n (i := 3) d_W_law_793 rfl rfl ?_
  refine J_iconst (v := nI 1) d_W_law_794 rfl ?_
  refine N_iadd d_W_law_795 ?_
  refine N_iald (x := (scr.getD (i + 1) 0)) d_W_law_796 rfl (by omega) (by rw [h01]; omega) (by rw [h01]) ?_
  refine J_aload_n (i := 0) d_W_law_797 rfl rfl ?_
  refine J_iload_n (i := 3) d_W_law_798 rfl rfl ?_
  refine J_iconst (v := nI 2) d_W_law_799 rfl ?_
  refine N_iadd d_W_law_800 ?_
  refine N_iald (x := (scr.getD (i + 2) 0)) d_W_law_801 rfl (by omega) (by rw [h01]; omega) (by rw [h01]) ?_
  refine M_callVO (av := [.int (scr.getD (i + 1) 0), .int (scr.getD (i + 2) 0)]) d_W_law_802 s_W_98 (M_rcv rfl (by decide) rfl) (N_R_turned hX1 hR1 hw) (by decide) rfl rfl (Nat.le_of_ble_eq_true rfl) (fun r2 Y2 hq2 e2 => ?_)
  obtain ⟨rfl, hX2, hR2, hs2⟩ := hq2
  have hC2 := CI_c hs2 hC1
  refine J_icmp_eq (tgt := 1593) d_W_law_805 (by decide) (fun c805 => ?_) (fun c805 => absurd c805 (fun z => z rfl))
  exact kx Y2 _ ⟨hX2, hC2, hR2, hw, e2.trans h01⟩

theorem lw_joined {scr : List Int32} {X : Mem} {s : Sg} {i : Nat} {Q : Option Value → Mem → Prop} (hi : i + 6 ≤ scr.length) (hl : scr.length ≤ 3072) (h : LwS scr X s) (kx : ∀ Y s', LwS scr Y s' → JM 75 m_W_law Q 1593 [some (.ref 0), some (.ref 8), some (.ref 244), some (.int (nI i))] [] Y) : JM 75 m_W_law Q 810 [some (.ref 0), some (.ref 8), some (.ref 244), some (.int (nI i))] [] X := by
  obtain ⟨hX, hC, hR, hw, h0⟩ := h
  refine J_aload_n (i := 1) d_W_law_810 rfl rfl ?_
  refine J_aload_n (i := 0) d_W_law_811 rfl rfl ?_
  refine J_iload_n (i := 3) d_W_law_812 rfl rfl ?_
  refine J_iconst (v := nI 1) d_W_law_813 rfl ?_
  refine N_iadd d_W_law_814 ?_
  refine N_iald (x := (scr.getD (i + 1) 0)) d_W_law_815 rfl (by omega) (by rw [h0]; omega) (by rw [h0]) ?_
  refine J_aload_n (i := 0) d_W_law_816 rfl rfl ?_
  refine J_iload_n (i := 3) d_W_law_817 rfl rfl ?_
  refine J_iconst (v := nI 2) d_W_law_818 rfl ?_
  refine N_iadd d_W_law_819 ?_
  refine N_iald (x := (scr.getD (i + 2) 0)) d_W_law_820 rfl (by omega) (by rw [h0]; omega) (by rw [h0]) ?_
  refine M_callVO (av := [.int (scr.getD (i + 1) 0), .int (scr.getD (i + 2) 0)]) d_W_law_821 s_W_99 (M_rcv rfl (by decide) rfl) (N_O_joined hX hC hw) (by decide) rfl rfl (Nat.le_of_ble_eq_true rfl) (fun r1 Y1 hq1 e1 => ?_)
  obtain ⟨rfl, hX1, hC1, hs1⟩ := hq1
  have hR1 := RI_r hs1 hR
  have h01 : Y1.2.1 0 = scr := e1.trans h0
  refine J_aload_n (i := 2) d_W_law_824 rfl rfl ?_
  refine J_aload_n (i := 0) d_W_law_825 rfl rfl ?_
  refine J_iload_n (i := 3) d_W_law_826 rfl rfl ?_
  refine J_iconst (v := nI 1) d_W_law_827 rfl ?_
  refine N_iadd d_W_law_828 ?_
  refine N_iald (x := (scr.getD (i + 1) 0)) d_W_law_829 rfl (by omega) (by rw [h01]; omega) (by rw [h01]) ?_
  refine J_aload_n (i := 0) d_W_law_830 rfl rfl ?_
  refine J_iload_n (i := 3) d_W_law_831 rfl rfl ?_
  refine J_iconst (v := nI 2) d_W_law_832 rfl ?_
  refine N_iadd d_W_law_833 ?_
  refine N_iald (x := (scr.getD (i + 2) 0)) d_W_law_834 rfl (by omega) (by rw [h01]; omega) (by rw [h01]) ?_
  refine M_callVO (av := [.int (scr.getD (i + 1) 0), .int (scr.getD (i + 2) 0)]) d_W_law_835 s_W_102 (M_rcv rfl (by decide) rfl) (N_R_joined hX1 hR1 hw) (by decide) rfl rfl (Nat.le_of_ble_eq_true rfl) (fun r2 Y2 hq2 e2 => ?_)
  obtain ⟨rfl, hX2, hR2, hs2⟩ := hq2
  have hC2 := CI_c hs2 hC1
  refine J_icmp_eq (tgt := 1593) d_W_law_838 (by decide) (fun c838 => ?_) (fun c838 => absurd c838 (fun z => z rfl))
  exact kx Y2 _ ⟨hX2, hC2, hR2, hw, e2.trans h01⟩

theorem lw_own {scr : List Int32} {X : Mem} {s : Sg} {i : Nat} {Q : Option Value → Mem → Prop} (hi : i + 6 ≤ scr.length) (hl : scr.length ≤ 3072) (h : LwS scr X s) (kx : ∀ Y s', LwS scr Y s' → JM 75 m_W_law Q 1593 [some (.ref 0), some (.ref 8), some (.ref 244), some (.int (nI i))] [] Y) : JM 75 m_W_law Q 843 [some (.ref 0), some (.ref 8), some (.ref 244), some (.int (nI i))] [] X := by
  obtain ⟨hX, hC, hR, hw, h0⟩ := h
  refine J_aload_n (i := 1) d_W_law_843 rfl rfl ?_
  refine J_aload_n (i := 0) d_W_law_844 rfl rfl ?_
  refine J_iload_n (i := 3) d_W_law_845 rfl rfl ?_
  refine J_iconst (v := nI 1) d_W_law_846 rfl ?_
  refine N_iadd d_W_law_847 ?_
  refine N_iald (x := (scr.getD (i + 1) 0)) d_W_law_848 rfl (by omega) (by rw [h0]; omega) (by rw [h0]) ?_
  refine M_callVO (av := [.int (scr.getD (i + 1) 0)]) d_W_law_849 s_W_103 (M_rcv rfl (by decide) rfl) (N_O_own hX hC hw) (by decide) rfl rfl (Nat.le_of_ble_eq_true rfl) (fun r1 Y1 hq1 e1 => ?_)
  obtain ⟨rfl, hX1, hC1, hs1⟩ := hq1
  have hR1 := RI_r hs1 hR
  have h01 : Y1.2.1 0 = scr := e1.trans h0
  refine J_aload_n (i := 2) d_W_law_852 rfl rfl ?_
  refine J_aload_n (i := 0) d_W_law_853 rfl rfl ?_
  refine J_iload_n (i := 3) d_W_law_854 rfl rfl ?_
  refine J_iconst (v := nI 1) d_W_law_855 rfl ?_
  refine N_iadd d_W_law_856 ?_
  refine N_iald (x := (scr.getD (i + 1) 0)) d_W_law_857 rfl (by omega) (by rw [h01]; omega) (by rw [h01]) ?_
  refine M_callVO (av := [.int (scr.getD (i + 1) 0)]) d_W_law_858 s_W_106 (M_rcv rfl (by decide) rfl) (N_R_own hX1 hR1 hw) (by decide) rfl rfl (Nat.le_of_ble_eq_true rfl) (fun r2 Y2 hq2 e2 => ?_)
  obtain ⟨rfl, hX2, hR2, hs2⟩ := hq2
  have hC2 := CI_c hs2 hC1
  refine J_icmp_eq (tgt := 1593) d_W_law_861 (by decide) (fun c861 => ?_) (fun c861 => absurd c861 (fun z => z rfl))
  exact kx Y2 _ ⟨hX2, hC2, hR2, hw, e2.trans h01⟩

theorem lw_least {scr : List Int32} {X : Mem} {s : Sg} {i : Nat} {Q : Option Value → Mem → Prop} (hi : i + 6 ≤ scr.length) (hl : scr.length ≤ 3072) (h : LwS scr X s) (kx : ∀ Y s', LwS scr Y s' → JM 75 m_W_law Q 1593 [some (.ref 0), some (.ref 8), some (.ref 244), some (.int (nI i))] [] Y) : JM 75 m_W_law Q 866 [some (.ref 0), some (.ref 8), some (.ref 244), some (.int (nI i))] [] X := by
  obtain ⟨hX, hC, hR, hw, h0⟩ := h
  refine J_aload_n (i := 1) d_W_law_866 rfl rfl ?_
  refine J_aload_n (i := 0) d_W_law_867 rfl rfl ?_
  refine J_iload_n (i := 3) d_W_law_868 rfl rfl ?_
  refine J_iconst (v := nI 1) d_W_law_869 rfl ?_
  refine N_iadd d_W_law_870 ?_
  refine N_iald (x := (scr.getD (i + 1) 0)) d_W_law_871 rfl (by omega) (by rw [h0]; omega) (by rw [h0]) ?_
  refine M_callVO (av := [.int (scr.getD (i + 1) 0)]) d_W_law_872 s_W_107 (M_rcv rfl (by decide) rfl) (N_O_least hX hC hw) (by decide) rfl rfl (Nat.le_of_ble_eq_true rfl) (fun r1 Y1 hq1 e1 => ?_)
  obtain ⟨rfl, hX1, hC1, hs1⟩ := hq1
  have hR1 := RI_r hs1 hR
  have h01 : Y1.2.1 0 = scr := e1.trans h0
  refine J_aload_n (i := 2) d_W_law_875 rfl rfl ?_
  refine J_aload_n (i := 0) d_W_law_876 rfl rfl ?_
  refine J_iload_n (i := 3) d_W_law_877 rfl rfl ?_
  refine J_iconst (v := nI 1) d_W_law_878 rfl ?_
  refine N_iadd d_W_law_879 ?_
  refine N_iald (x := (scr.getD (i + 1) 0)) d_W_law_880 rfl (by omega) (by rw [h01]; omega) (by rw [h01]) ?_
  refine M_callVO (av := [.int (scr.getD (i + 1) 0)]) d_W_law_881 s_W_110 (M_rcv rfl (by decide) rfl) (N_R_least hX1 hR1 hw) (by decide) rfl rfl (Nat.le_of_ble_eq_true rfl) (fun r2 Y2 hq2 e2 => ?_)
  obtain ⟨rfl, hX2, hR2, hs2⟩ := hq2
  have hC2 := CI_c hs2 hC1
  refine J_icmp_eq (tgt := 1593) d_W_law_884 (by decide) (fun c884 => ?_) (fun c884 => absurd c884 (fun z => z rfl))
  exact kx Y2 _ ⟨hX2, hC2, hR2, hw, e2.trans h01⟩

theorem lw_pens {scr : List Int32} {X : Mem} {s : Sg} {i : Nat} {Q : Option Value → Mem → Prop} (hi : i + 6 ≤ scr.length) (hl : scr.length ≤ 3072) (h : LwS scr X s) (kx : ∀ Y s', LwS scr Y s' → JM 75 m_W_law Q 1593 [some (.ref 0), some (.ref 8), some (.ref 244), some (.int (nI i))] [] Y) : JM 75 m_W_law Q 889 [some (.ref 0), some (.ref 8), some (.ref 244), some (.int (nI i))] [] X := by
  obtain ⟨hX, hC, hR, hw, h0⟩ := h
  refine J_aload_n (i := 1) d_W_law_889 rfl rfl ?_
  refine J_aload_n (i := 0) d_W_law_890 rfl rfl ?_
  refine J_iload_n (i := 3) d_W_law_891 rfl rfl ?_
  refine J_iconst (v := nI 1) d_W_law_892 rfl ?_
  refine N_iadd d_W_law_893 ?_
  refine N_iald (x := (scr.getD (i + 1) 0)) d_W_law_894 rfl (by omega) (by rw [h0]; omega) (by rw [h0]) ?_
  refine M_callVO (av := [.int (scr.getD (i + 1) 0)]) d_W_law_895 s_W_111 (M_rcv rfl (by decide) rfl) (N_O_pens hX hC hw) (by decide) rfl rfl (Nat.le_of_ble_eq_true rfl) (fun r1 Y1 hq1 e1 => ?_)
  obtain ⟨rfl, hX1, hC1, hs1⟩ := hq1
  have hR1 := RI_r hs1 hR
  have h01 : Y1.2.1 0 = scr := e1.trans h0
  refine J_aload_n (i := 2) d_W_law_898 rfl rfl ?_
  refine J_aload_n (i := 0) d_W_law_899 rfl rfl ?_
  refine J_iload_n (i := 3) d_W_law_900 rfl rfl ?_
  refine J_iconst (v := nI 1) d_W_law_901 rfl ?_
  refine N_iadd d_W_law_902 ?_
  refine N_iald (x := (scr.getD (i + 1) 0)) d_W_law_903 rfl (by omega) (by rw [h01]; omega) (by rw [h01]) ?_
  refine M_callVO (av := [.int (scr.getD (i + 1) 0)]) d_W_law_904 s_W_114 (M_rcv rfl (by decide) rfl) (N_R_pens hX1 hR1 hw) (by decide) rfl rfl (Nat.le_of_ble_eq_true rfl) (fun r2 Y2 hq2 e2 => ?_)
  obtain ⟨rfl, hX2, hR2, hs2⟩ := hq2
  have hC2 := CI_c hs2 hC1
  refine J_icmp_eq (tgt := 1593) d_W_law_907 (by decide) (fun c907 => ?_) (fun c907 => absurd c907 (fun z => z rfl))
  exact kx Y2 _ ⟨hX2, hC2, hR2, hw, e2.trans h01⟩

theorem lw_trail {scr : List Int32} {X : Mem} {s : Sg} {i : Nat} {Q : Option Value → Mem → Prop} (hi : i + 6 ≤ scr.length) (hl : scr.length ≤ 3072) (h : LwS scr X s) (kx : ∀ Y s', LwS scr Y s' → JM 75 m_W_law Q 1593 [some (.ref 0), some (.ref 8), some (.ref 244), some (.int (nI i))] [] Y) : JM 75 m_W_law Q 912 [some (.ref 0), some (.ref 8), some (.ref 244), some (.int (nI i))] [] X := by
  obtain ⟨hX, hC, hR, hw, h0⟩ := h
  refine J_aload_n (i := 1) d_W_law_912 rfl rfl ?_
  refine J_aload_n (i := 0) d_W_law_913 rfl rfl ?_
  refine J_iload_n (i := 3) d_W_law_914 rfl rfl ?_
  refine J_iconst (v := nI 1) d_W_law_915 rfl ?_
  refine N_iadd d_W_law_916 ?_
  refine N_iald (x := (scr.getD (i + 1) 0)) d_W_law_917 rfl (by omega) (by rw [h0]; omega) (by rw [h0]) ?_
  refine J_aload_n (i := 0) d_W_law_918 rfl rfl ?_
  refine J_iload_n (i := 3) d_W_law_919 rfl rfl ?_
  refine J_iconst (v := nI 2) d_W_law_920 rfl ?_
  refine N_iadd d_W_law_921 ?_
  refine N_iald (x := (scr.getD (i + 2) 0)) d_W_law_922 rfl (by omega) (by rw [h0]; omega) (by rw [h0]) ?_
  refine M_callVO (av := [.int (scr.getD (i + 1) 0), .int (scr.getD (i + 2) 0)]) d_W_law_923 s_W_115 (M_rcv rfl (by decide) rfl) (N_O_trail hX hC hw) (by decide) rfl rfl (Nat.le_of_ble_eq_true rfl) (fun r1 Y1 hq1 e1 => ?_)
  obtain ⟨rfl, hX1, hC1, hs1⟩ := hq1
  have hR1 := RI_r hs1 hR
  have h01 : Y1.2.1 0 = scr := e1.trans h0
  refine J_aload_n (i := 2) d_W_law_926 rfl rfl ?_
  refine J_aload_n (i := 0) d_W_law_927 rfl rfl ?_
  refine J_iload_n (i := 3) d_W_law_928 rfl rfl ?_
  refine J_iconst (v := nI 1) d_W_law_929 rfl ?_
  refine N_iadd d_W_law_930 ?_
  refine N_iald (x := (scr.getD (i + 1) 0)) d_W_law_931 rfl (by omega) (by rw [h01]; omega) (by rw [h01]) ?_
  refine J_aload_n (i := 0) d_W_law_932 rfl rfl ?_
  refine J_iload_n (i := 3) d_W_law_933 rfl rfl ?_
  refine J_iconst (v := nI 2) d_W_law_934 rfl ?_
  refine N_iadd d_W_law_935 ?_
  refine N_iald (x := (scr.getD (i + 2) 0)) d_W_law_936 rfl (by omega) (by rw [h01]; omega) (by rw [h01]) ?_
  refine M_callVO (av := [.int (scr.getD (i + 1) 0), .int (scr.getD (i + 2) 0)]) d_W_law_937 s_W_118 (M_rcv rfl (by decide) rfl) (N_R_trail hX1 hR1 hw) (by decide) rfl rfl (Nat.le_of_ble_eq_true rfl) (fun r2 Y2 hq2 e2 => ?_)
  obtain ⟨rfl, hX2, hR2, hs2⟩ := hq2
  have hC2 := CI_c hs2 hC1
  refine J_icmp_eq (tgt := 1593) d_W_law_940 (by decide) (fun c940 => ?_) (fun c940 => absurd c940 (fun z => z rfl))
  exact kx Y2 _ ⟨hX2, hC2, hR2, hw, e2.trans h01⟩

theorem lw_rim {scr : List Int32} {X : Mem} {s : Sg} {i : Nat} {Q : Option Value → Mem → Prop} (hi : i + 6 ≤ scr.length) (hl : scr.length ≤ 3072) (h : LwS scr X s) (kx : ∀ Y s', LwS scr Y s' → JM 75 m_W_law Q 1593 [some (.ref 0), some (.ref 8), some (.ref 244), some (.int (nI i))] [] Y) : JM 75 m_W_law Q 945 [some (.ref 0), some (.ref 8), some (.ref 244), some (.int (nI i))] [] X := by
  obtain ⟨hX, hC, hR, hw, h0⟩ := h
  refine J_aload_n (i := 1) d_W_law_945 rfl rfl ?_
  refine J_aload_n (i := 0) d_W_law_946 rfl rfl ?_
  refine J_iload_n (i := 3) d_W_law_947 rfl rfl ?_
  refine J_iconst (v := nI 1) d_W_law_948 rfl ?_
  refine N_iadd d_W_law_949 ?_
  refine N_iald (x := (scr.getD (i + 1) 0)) d_W_law_950 rfl (by omega) (by rw [h0]; omega) (by rw [h0]) ?_
  refine M_callVO (av := [.int (scr.getD (i + 1) 0)]) d_W_law_951 s_W_119 (M_rcv rfl (by decide) rfl) (N_O_rim hX hC hw) (by decide) rfl rfl (Nat.le_of_ble_eq_true rfl) (fun r1 Y1 hq1 e1 => ?_)
  obtain ⟨rfl, hX1, hC1, hs1⟩ := hq1
  have hR1 := RI_r hs1 hR
  have h01 : Y1.2.1 0 = scr := e1.trans h0
  refine J_aload_n (i := 2) d_W_law_954 rfl rfl ?_
  refine J_aload_n (i := 0) d_W_law_955 rfl rfl ?_
  refine J_iload_n (i := 3) d_W_law_956 rfl rfl ?_
  refine J_iconst (v := nI 1) d_W_law_957 rfl ?_
  refine N_iadd d_W_law_958 ?_
  refine N_iald (x := (scr.getD (i + 1) 0)) d_W_law_959 rfl (by omega) (by rw [h01]; omega) (by rw [h01]) ?_
  refine M_callVO (av := [.int (scr.getD (i + 1) 0)]) d_W_law_960 s_W_122 (M_rcv rfl (by decide) rfl) (N_R_rim hX1 hR1 hw) (by decide) rfl rfl (Nat.le_of_ble_eq_true rfl) (fun r2 Y2 hq2 e2 => ?_)
  obtain ⟨rfl, hX2, hR2, hs2⟩ := hq2
  have hC2 := CI_c hs2 hC1
  refine J_icmp_eq (tgt := 1593) d_W_law_963 (by decide) (fun c963 => ?_) (fun c963 => absurd c963 (fun z => z rfl))
  exact kx Y2 _ ⟨hX2, hC2, hR2, hw, e2.trans h01⟩

theorem lw_alike {scr : List Int32} {X : Mem} {s : Sg} {i : Nat} {Q : Option Value → Mem → Prop} (hi : i + 6 ≤ scr.length) (hl : scr.length ≤ 3072) (h : LwS scr X s) (kx : ∀ Y s', LwS scr Y s' → JM 75 m_W_law Q 1593 [some (.ref 0), some (.ref 8), some (.ref 244), some (.int (nI i))] [] Y) : JM 75 m_W_law Q 968 [some (.ref 0), some (.ref 8), some (.ref 244), some (.int (nI i))] [] X := by
  obtain ⟨hX, hC, hR, hw, h0⟩ := h
  refine J_aload_n (i := 1) d_W_law_968 rfl rfl ?_
  refine J_aload_n (i := 0) d_W_law_969 rfl rfl ?_
  refine J_iload_n (i := 3) d_W_law_970 rfl rfl ?_
  refine J_iconst (v := nI 1) d_W_law_971 rfl ?_
  refine N_iadd d_W_law_972 ?_
  refine N_iald (x := (scr.getD (i + 1) 0)) d_W_law_973 rfl (by omega) (by rw [h0]; omega) (by rw [h0]) ?_
  refine J_aload_n (i := 0) d_W_law_974 rfl rfl ?_
  refine J_iload_n (i := 3) d_W_law_975 rfl rfl ?_
  refine J_iconst (v := nI 2) d_W_law_976 rfl ?_
  refine N_iadd d_W_law_977 ?_
  refine N_iald (x := (scr.getD (i + 2) 0)) d_W_law_978 rfl (by omega) (by rw [h0]; omega) (by rw [h0]) ?_
  refine M_callVO (av := [.int (scr.getD (i + 1) 0), .int (scr.getD (i + 2) 0)]) d_W_law_979 s_W_123 (M_rcv rfl (by decide) rfl) (N_O_alike hX hC hw) (by decide) rfl rfl (Nat.le_of_ble_eq_true rfl) (fun r1 Y1 hq1 e1 => ?_)
  obtain ⟨rfl, hX1, hC1, hs1⟩ := hq1
  have hR1 := RI_r hs1 hR
  have h01 : Y1.2.1 0 = scr := e1.trans h0
  refine J_aload_n (i := 2) d_W_law_982 rfl rfl ?_
  refine J_aload_n (i := 0) d_W_law_983 rfl rfl ?_
  refine J_iload_n (i := 3) d_W_law_984 rfl rfl ?_
  refine J_iconst (v := nI 1) d_W_law_985 rfl ?_
  refine N_iadd d_W_law_986 ?_
  refine N_iald (x := (scr.getD (i + 1) 0)) d_W_law_987 rfl (by omega) (by rw [h01]; omega) (by rw [h01]) ?_
  refine J_aload_n (i := 0) d_W_law_988 rfl rfl ?_
  refine J_iload_n (i := 3) d_W_law_989 rfl rfl ?_
  refine J_iconst (v := nI 2) d_W_law_990 rfl ?_
  refine N_iadd d_W_law_991 ?_
  refine N_iald (x := (scr.getD (i + 2) 0)) d_W_law_992 rfl (by omega) (by rw [h01]; omega) (by rw [h01]) ?_
  refine M_callVO (av := [.int (scr.getD (i + 1) 0), .int (scr.getD (i + 2) 0)]) d_W_law_993 s_W_126 (M_rcv rfl (by decide) rfl) (N_R_alike hX1 hR1 hw) (by decide) rfl rfl (Nat.le_of_ble_eq_true rfl) (fun r2 Y2 hq2 e2 => ?_)
  obtain ⟨rfl, hX2, hR2, hs2⟩ := hq2
  have hC2 := CI_c hs2 hC1
  refine J_icmp_eq (tgt := 1593) d_W_law_996 (by decide) (fun c996 => ?_) (fun c996 => absurd c996 (fun z => z rfl))
  exact kx Y2 _ ⟨hX2, hC2, hR2, hw, e2.trans h01⟩

theorem lw_way {scr : List Int32} {X : Mem} {s : Sg} {i : Nat} {Q : Option Value → Mem → Prop} (hi : i + 6 ≤ scr.length) (hl : scr.length ≤ 3072) (h : LwS scr X s) (kx : ∀ Y s', LwS scr Y s' → JM 75 m_W_law Q 1593 [some (.ref 0), some (.ref 8), some (.ref 244), some (.int (nI i))] [] Y) : JM 75 m_W_law Q 1001 [some (.ref 0), some (.ref 8), some (.ref 244), some (.int (nI i))] [] X := by
  obtain ⟨hX, hC, hR, hw, h0⟩ := h
  refine J_aload_n (i := 1) d_W_law_1001 rfl rfl ?_
  refine J_aload_n (i := 0) d_W_law_1002 rfl rfl ?_
  refine J_iload_n (i := 3) d_W_law_1003 rfl rfl ?_
  refine J_iconst (v := nI 1) d_W_law_1004 rfl ?_
  refine N_iadd d_W_law_1005 ?_
  refine N_iald (x := (scr.getD (i + 1) 0)) d_W_law_1006 rfl (by omega) (by rw [h0]; omega) (by rw [h0]) ?_
  refine J_aload_n (i := 0) d_W_law_1007 rfl rfl ?_
  refine J_iload_n (i := 3) d_W_law_1008 rfl rfl ?_
  refine J_iconst (v := nI 2) d_W_law_1009 rfl ?_
  refine N_iadd d_W_law_1010 ?_
  refine N_iald (x := (scr.getD (i + 2) 0)) d_W_law_1011 rfl (by omega) (by rw [h0]; omega) (by rw [h0]) ?_
  refine M_callVO (av := [.int (scr.getD (i + 1) 0), .int (scr.getD (i + 2) 0)]) d_W_law_1012 s_W_127 (M_rcv rfl (by decide) rfl) (N_O_way hX hC hw) (by decide) rfl rfl (Nat.le_of_ble_eq_true rfl) (fun r1 Y1 hq1 e1 => ?_)
  obtain ⟨rfl, hX1, hC1, hs1⟩ := hq1
  have hR1 := RI_r hs1 hR
  have h01 : Y1.2.1 0 = scr := e1.trans h0
  refine J_aload_n (i := 2) d_W_law_1015 rfl rfl ?_
  refine J_aload_n (i := 0) d_W_law_1016 rfl rfl ?_
  refine J_iload_n (i := 3) d_W_law_1017 rfl rfl ?_
  refine J_iconst (v := nI 1) d_W_law_1018 rfl ?_
  refine N_iadd d_W_law_1019 ?_
  refine N_iald (x := (scr.getD (i + 1) 0)) d_W_law_1020 rfl (by omega) (by rw [h01]; omega) (by rw [h01]) ?_
  refine J_aload_n (i := 0) d_W_law_1021 rfl rfl ?_
  refine J_iload_n (i := 3) d_W_law_1022 rfl rfl ?_
  refine J_iconst (v := nI 2) d_W_law_1023 rfl ?_
  refine N_iadd d_W_law_1024 ?_
  refine N_iald (x := (scr.getD (i + 2) 0)) d_W_law_1025 rfl (by omega) (by rw [h01]; omega) (by rw [h01]) ?_
  refine M_callVO (av := [.int (scr.getD (i + 1) 0), .int (scr.getD (i + 2) 0)]) d_W_law_1026 s_W_130 (M_rcv rfl (by decide) rfl) (N_R_way hX1 hR1 hw) (by decide) rfl rfl (Nat.le_of_ble_eq_true rfl) (fun r2 Y2 hq2 e2 => ?_)
  obtain ⟨rfl, hX2, hR2, hs2⟩ := hq2
  have hC2 := CI_c hs2 hC1
  refine J_icmp_eq (tgt := 1593) d_W_law_1029 (by decide) (fun c1029 => ?_) (fun c1029 => absurd c1029 (fun z => z rfl))
  exact kx Y2 _ ⟨hX2, hC2, hR2, hw, e2.trans h01⟩

theorem lw_made {scr : List Int32} {X : Mem} {s : Sg} {i : Nat} {Q : Option Value → Mem → Prop} (hi : i + 6 ≤ scr.length) (hl : scr.length ≤ 3072) (h : LwS scr X s) (kx : ∀ Y s', LwS scr Y s' → JM 75 m_W_law Q 1593 [some (.ref 0), some (.ref 8), some (.ref 244), some (.int (nI i))] [] Y) : JM 75 m_W_law Q 1034 [some (.ref 0), some (.ref 8), some (.ref 244), some (.int (nI i))] [] X := by
  obtain ⟨hX, hC, hR, hw, h0⟩ := h
  refine J_aload_n (i := 1) d_W_law_1034 rfl rfl ?_
  refine J_aload_n (i := 0) d_W_law_1035 rfl rfl ?_
  refine J_iload_n (i := 3) d_W_law_1036 rfl rfl ?_
  refine J_iconst (v := nI 1) d_W_law_1037 rfl ?_
  refine N_iadd d_W_law_1038 ?_
  refine N_iald (x := (scr.getD (i + 1) 0)) d_W_law_1039 rfl (by omega) (by rw [h0]; omega) (by rw [h0]) ?_
  refine J_aload_n (i := 0) d_W_law_1040 rfl rfl ?_
  refine J_iload_n (i := 3) d_W_law_1041 rfl rfl ?_
  refine J_iconst (v := nI 2) d_W_law_1042 rfl ?_
  refine N_iadd d_W_law_1043 ?_
  refine N_iald (x := (scr.getD (i + 2) 0)) d_W_law_1044 rfl (by omega) (by rw [h0]; omega) (by rw [h0]) ?_
  refine J_aload_n (i := 0) d_W_law_1045 rfl rfl ?_
  refine J_iload_n (i := 3) d_W_law_1046 rfl rfl ?_
  refine J_iconst (v := nI 3) d_W_law_1047 rfl ?_
  refine N_iadd d_W_law_1048 ?_
  refine N_iald (x := (scr.getD (i + 3) 0)) d_W_law_1049 rfl (by omega) (by rw [h0]; omega) (by rw [h0]) ?_
  refine J_if_eq (tgt := 1057) d_W_law_1050 (by decide) (fun c1050 => ?_) (fun c1050 => ?_)
  · refine J_iconst (v := nI 0) d_W_law_1057 rfl ?_
    refine J.eq (st1 := [.int (b2i false), .int (scr.getD (i + 2) 0), .int (scr.getD (i + 1) 0), .ref 8]) ?_ rfl rfl rfl
    refine M_callVO (av := [.int (scr.getD (i + 1) 0), .int (scr.getD (i + 2) 0), .int (b2i false)]) d_W_law_1058 s_W_131 (M_rcv rfl (by decide) rfl) (N_O_made hX hC hw) (by decide) rfl rfl (Nat.le_of_ble_eq_true rfl) (fun r1 Y1 hq1 e1 => ?_)
    obtain ⟨rfl, hX1, hC1, hs1⟩ := hq1
    have hR1 := RI_r hs1 hR
    have h01 : Y1.2.1 0 = scr := e1.trans h0
    refine J_aload_n (i := 2) d_W_law_1061 rfl rfl ?_
    refine J_aload_n (i := 0) d_W_law_1062 rfl rfl ?_
    refine J_iload_n (i := 3) d_W_law_1063 rfl rfl ?_
    refine J_iconst (v := nI 1) d_W_law_1064 rfl ?_
    refine N_iadd d_W_law_1065 ?_
    refine N_iald (x := (scr.getD (i + 1) 0)) d_W_law_1066 rfl (by omega) (by rw [h01]; omega) (by rw [h01]) ?_
    refine J_aload_n (i := 0) d_W_law_1067 rfl rfl ?_
    refine J_iload_n (i := 3) d_W_law_1068 rfl rfl ?_
    refine J_iconst (v := nI 2) d_W_law_1069 rfl ?_
    refine N_iadd d_W_law_1070 ?_
    refine N_iald (x := (scr.getD (i + 2) 0)) d_W_law_1071 rfl (by omega) (by rw [h01]; omega) (by rw [h01]) ?_
    refine J_aload_n (i := 0) d_W_law_1072 rfl rfl ?_
    refine J_iload_n (i := 3) d_W_law_1073 rfl rfl ?_
    refine J_iconst (v := nI 3) d_W_law_1074 rfl ?_
    refine N_iadd d_W_law_1075 ?_
    refine N_iald (x := (scr.getD (i + 3) 0)) d_W_law_1076 rfl (by omega) (by rw [h01]; omega) (by rw [h01]) ?_
    refine J_if_eq (tgt := 1084) d_W_law_1077 (by decide) (fun c1077 => ?_) (fun c1077 => absurd c1077 (fun z => z c1050))
    refine J_iconst (v := nI 0) d_W_law_1084 rfl ?_
    refine J.eq (st1 := [.int (b2i false), .int (scr.getD (i + 2) 0), .int (scr.getD (i + 1) 0), .ref 244, .int (madeF (mOf s.1) (stOf s.1) (scr.getD (i + 1) 0) (scr.getD (i + 2) 0) false)]) ?_ rfl rfl rfl
    refine M_callVO (av := [.int (scr.getD (i + 1) 0), .int (scr.getD (i + 2) 0), .int (b2i false)]) d_W_law_1085 s_W_135 (M_rcv rfl (by decide) rfl) (N_R_made hX1 hR1 hw) (by decide) rfl rfl (Nat.le_of_ble_eq_true rfl) (fun r2 Y2 hq2 e2 => ?_)
    obtain ⟨rfl, hX2, hR2, hs2⟩ := hq2
    have hC2 := CI_c hs2 hC1
    refine J_icmp_eq (tgt := 1593) d_W_law_1088 (by decide) (fun c1088 => ?_) (fun c1088 => absurd c1088 (fun z => z rfl))
    exact kx Y2 _ ⟨hX2, hC2, hR2, hw, e2.trans h01⟩
  · refine J_iconst (v := nI 1) d_W_law_1053 rfl ?_
    refine J_goto (tgt := 1058) d_W_law_1054 (by decide) ?_
    refine J.eq (st1 := [.int (b2i true), .int (scr.getD (i + 2) 0), .int (scr.getD (i + 1) 0), .ref 8]) ?_ rfl rfl rfl
    refine M_callVO (av := [.int (scr.getD (i + 1) 0), .int (scr.getD (i + 2) 0), .int (b2i true)]) d_W_law_1058 s_W_131 (M_rcv rfl (by decide) rfl) (N_O_made hX hC hw) (by decide) rfl rfl (Nat.le_of_ble_eq_true rfl) (fun r1 Y1 hq1 e1 => ?_)
    obtain ⟨rfl, hX1, hC1, hs1⟩ := hq1
    have hR1 := RI_r hs1 hR
    have h01 : Y1.2.1 0 = scr := e1.trans h0
    refine J_aload_n (i := 2) d_W_law_1061 rfl rfl ?_
    refine J_aload_n (i := 0) d_W_law_1062 rfl rfl ?_
    refine J_iload_n (i := 3) d_W_law_1063 rfl rfl ?_
    refine J_iconst (v := nI 1) d_W_law_1064 rfl ?_
    refine N_iadd d_W_law_1065 ?_
    refine N_iald (x := (scr.getD (i + 1) 0)) d_W_law_1066 rfl (by omega) (by rw [h01]; omega) (by rw [h01]) ?_
    refine J_aload_n (i := 0) d_W_law_1067 rfl rfl ?_
    refine J_iload_n (i := 3) d_W_law_1068 rfl rfl ?_
    refine J_iconst (v := nI 2) d_W_law_1069 rfl ?_
    refine N_iadd d_W_law_1070 ?_
    refine N_iald (x := (scr.getD (i + 2) 0)) d_W_law_1071 rfl (by omega) (by rw [h01]; omega) (by rw [h01]) ?_
    refine J_aload_n (i := 0) d_W_law_1072 rfl rfl ?_
    refine J_iload_n (i := 3) d_W_law_1073 rfl rfl ?_
    refine J_iconst (v := nI 3) d_W_law_1074 rfl ?_
    refine N_iadd d_W_law_1075 ?_
    refine N_iald (x := (scr.getD (i + 3) 0)) d_W_law_1076 rfl (by omega) (by rw [h01]; omega) (by rw [h01]) ?_
    refine J_if_eq (tgt := 1084) d_W_law_1077 (by decide) (fun c1077 => absurd c1077 c1050) (fun c1077 => ?_)
    refine J_iconst (v := nI 1) d_W_law_1080 rfl ?_
    refine J_goto (tgt := 1085) d_W_law_1081 (by decide) ?_
    refine J.eq (st1 := [.int (b2i true), .int (scr.getD (i + 2) 0), .int (scr.getD (i + 1) 0), .ref 244, .int (madeF (mOf s.1) (stOf s.1) (scr.getD (i + 1) 0) (scr.getD (i + 2) 0) true)]) ?_ rfl rfl rfl
    refine M_callVO (av := [.int (scr.getD (i + 1) 0), .int (scr.getD (i + 2) 0), .int (b2i true)]) d_W_law_1085 s_W_135 (M_rcv rfl (by decide) rfl) (N_R_made hX1 hR1 hw) (by decide) rfl rfl (Nat.le_of_ble_eq_true rfl) (fun r2 Y2 hq2 e2 => ?_)
    obtain ⟨rfl, hX2, hR2, hs2⟩ := hq2
    have hC2 := CI_c hs2 hC1
    refine J_icmp_eq (tgt := 1593) d_W_law_1088 (by decide) (fun c1088 => ?_) (fun c1088 => absurd c1088 (fun z => z rfl))
    exact kx Y2 _ ⟨hX2, hC2, hR2, hw, e2.trans h01⟩

theorem lw_clash {scr : List Int32} {X : Mem} {s : Sg} {i : Nat} {Q : Option Value → Mem → Prop} (hi : i + 6 ≤ scr.length) (hl : scr.length ≤ 3072) (h : LwS scr X s) (kx : ∀ Y s', LwS scr Y s' → JM 75 m_W_law Q 1593 [some (.ref 0), some (.ref 8), some (.ref 244), some (.int (nI i))] [] Y) : JM 75 m_W_law Q 1093 [some (.ref 0), some (.ref 8), some (.ref 244), some (.int (nI i))] [] X := by
  obtain ⟨hX, hC, hR, hw, h0⟩ := h
  refine J_aload_n (i := 1) d_W_law_1093 rfl rfl ?_
  refine J_aload_n (i := 0) d_W_law_1094 rfl rfl ?_
  refine J_iload_n (i := 3) d_W_law_1095 rfl rfl ?_
  refine J_iconst (v := nI 1) d_W_law_1096 rfl ?_
  refine N_iadd d_W_law_1097 ?_
  refine N_iald (x := (scr.getD (i + 1) 0)) d_W_law_1098 rfl (by omega) (by rw [h0]; omega) (by rw [h0]) ?_
  refine J_aload_n (i := 0) d_W_law_1099 rfl rfl ?_
  refine J_iload_n (i := 3) d_W_law_1100 rfl rfl ?_
  refine J_iconst (v := nI 2) d_W_law_1101 rfl ?_
  refine N_iadd d_W_law_1102 ?_
  refine N_iald (x := (scr.getD (i + 2) 0)) d_W_law_1103 rfl (by omega) (by rw [h0]; omega) (by rw [h0]) ?_
  refine J_if_eq (tgt := 1111) d_W_law_1104 (by decide) (fun c1104 => ?_) (fun c1104 => ?_)
  · refine J_iconst (v := nI 0) d_W_law_1111 rfl ?_
    refine J.eq (st1 := [.int (b2i false), .int (scr.getD (i + 1) 0), .ref 8]) ?_ rfl rfl rfl
    refine M_callVO (av := [.int (scr.getD (i + 1) 0), .int (b2i false)]) d_W_law_1112 s_W_136 (M_rcv rfl (by decide) rfl) (N_O_clash hX hC hw) (by decide) rfl rfl (Nat.le_of_ble_eq_true rfl) (fun r1 Y1 hq1 e1 => ?_)
    obtain ⟨rfl, hX1, hC1, hs1⟩ := hq1
    have hR1 := RI_r hs1 hR
    have h01 : Y1.2.1 0 = scr := e1.trans h0
    refine J_aload_n (i := 2) d_W_law_1115 rfl rfl ?_
    refine J_aload_n (i := 0) d_W_law_1116 rfl rfl ?_
    refine J_iload_n (i := 3) d_W_law_1117 rfl rfl ?_
    refine J_iconst (v := nI 1) d_W_law_1118 rfl ?_
    refine N_iadd d_W_law_1119 ?_
    refine N_iald (x := (scr.getD (i + 1) 0)) d_W_law_1120 rfl (by omega) (by rw [h01]; omega) (by rw [h01]) ?_
    refine J_aload_n (i := 0) d_W_law_1121 rfl rfl ?_
    refine J_iload_n (i := 3) d_W_law_1122 rfl rfl ?_
    refine J_iconst (v := nI 2) d_W_law_1123 rfl ?_
    refine N_iadd d_W_law_1124 ?_
    refine N_iald (x := (scr.getD (i + 2) 0)) d_W_law_1125 rfl (by omega) (by rw [h01]; omega) (by rw [h01]) ?_
    refine J_if_eq (tgt := 1133) d_W_law_1126 (by decide) (fun c1126 => ?_) (fun c1126 => absurd c1126 (fun z => z c1104))
    refine J_iconst (v := nI 0) d_W_law_1133 rfl ?_
    refine J.eq (st1 := [.int (b2i false), .int (scr.getD (i + 1) 0), .ref 244, .int (clashF (mOf s.1) (rgOf s.1) (scr.getD (i + 1) 0) false)]) ?_ rfl rfl rfl
    refine M_callVO (av := [.int (scr.getD (i + 1) 0), .int (b2i false)]) d_W_law_1134 s_W_140 (M_rcv rfl (by decide) rfl) (N_R_clash hX1 hR1 hw) (by decide) rfl rfl (Nat.le_of_ble_eq_true rfl) (fun r2 Y2 hq2 e2 => ?_)
    obtain ⟨rfl, hX2, hR2, hs2⟩ := hq2
    have hC2 := CI_c hs2 hC1
    refine J_icmp_eq (tgt := 1593) d_W_law_1137 (by decide) (fun c1137 => ?_) (fun c1137 => absurd c1137 (fun z => z rfl))
    exact kx Y2 _ ⟨hX2, hC2, hR2, hw, e2.trans h01⟩
  · refine J_iconst (v := nI 1) d_W_law_1107 rfl ?_
    refine J_goto (tgt := 1112) d_W_law_1108 (by decide) ?_
    refine J.eq (st1 := [.int (b2i true), .int (scr.getD (i + 1) 0), .ref 8]) ?_ rfl rfl rfl
    refine M_callVO (av := [.int (scr.getD (i + 1) 0), .int (b2i true)]) d_W_law_1112 s_W_136 (M_rcv rfl (by decide) rfl) (N_O_clash hX hC hw) (by decide) rfl rfl (Nat.le_of_ble_eq_true rfl) (fun r1 Y1 hq1 e1 => ?_)
    obtain ⟨rfl, hX1, hC1, hs1⟩ := hq1
    have hR1 := RI_r hs1 hR
    have h01 : Y1.2.1 0 = scr := e1.trans h0
    refine J_aload_n (i := 2) d_W_law_1115 rfl rfl ?_
    refine J_aload_n (i := 0) d_W_law_1116 rfl rfl ?_
    refine J_iload_n (i := 3) d_W_law_1117 rfl rfl ?_
    refine J_iconst (v := nI 1) d_W_law_1118 rfl ?_
    refine N_iadd d_W_law_1119 ?_
    refine N_iald (x := (scr.getD (i + 1) 0)) d_W_law_1120 rfl (by omega) (by rw [h01]; omega) (by rw [h01]) ?_
    refine J_aload_n (i := 0) d_W_law_1121 rfl rfl ?_
    refine J_iload_n (i := 3) d_W_law_1122 rfl rfl ?_
    refine J_iconst (v := nI 2) d_W_law_1123 rfl ?_
    refine N_iadd d_W_law_1124 ?_
    refine N_iald (x := (scr.getD (i + 2) 0)) d_W_law_1125 rfl (by omega) (by rw [h01]; omega) (by rw [h01]) ?_
    refine J_if_eq (tgt := 1133) d_W_law_1126 (by decide) (fun c1126 => absurd c1126 c1104) (fun c1126 => ?_)
    refine J_iconst (v := nI 1) d_W_law_1129 rfl ?_
    refine J_goto (tgt := 1134) d_W_law_1130 (by decide) ?_
    refine J.eq (st1 := [.int (b2i true), .int (scr.getD (i + 1) 0), .ref 244, .int (clashF (mOf s.1) (rgOf s.1) (scr.getD (i + 1) 0) true)]) ?_ rfl rfl rfl
    refine M_callVO (av := [.int (scr.getD (i + 1) 0), .int (b2i true)]) d_W_law_1134 s_W_140 (M_rcv rfl (by decide) rfl) (N_R_clash hX1 hR1 hw) (by decide) rfl rfl (Nat.le_of_ble_eq_true rfl) (fun r2 Y2 hq2 e2 => ?_)
    obtain ⟨rfl, hX2, hR2, hs2⟩ := hq2
    have hC2 := CI_c hs2 hC1
    refine J_icmp_eq (tgt := 1593) d_W_law_1137 (by decide) (fun c1137 => ?_) (fun c1137 => absurd c1137 (fun z => z rfl))
    exact kx Y2 _ ⟨hX2, hC2, hR2, hw, e2.trans h01⟩

theorem lw_chain {scr : List Int32} {X : Mem} {s : Sg} {i : Nat} {Q : Option Value → Mem → Prop} (hi : i + 6 ≤ scr.length) (hl : scr.length ≤ 3072) (h : LwS scr X s) (kx : ∀ Y s', LwS scr Y s' → JM 75 m_W_law Q 1593 [some (.ref 0), some (.ref 8), some (.ref 244), some (.int (nI i))] [] Y) : JM 75 m_W_law Q 1142 [some (.ref 0), some (.ref 8), some (.ref 244), some (.int (nI i))] [] X := by
  obtain ⟨hX, hC, hR, hw, h0⟩ := h
  refine J_aload_n (i := 1) d_W_law_1142 rfl rfl ?_
  refine J_aload_n (i := 0) d_W_law_1143 rfl rfl ?_
  refine J_iload_n (i := 3) d_W_law_1144 rfl rfl ?_
  refine J_iconst (v := nI 1) d_W_law_1145 rfl ?_
  refine N_iadd d_W_law_1146 ?_
  refine N_iald (x := (scr.getD (i + 1) 0)) d_W_law_1147 rfl (by omega) (by rw [h0]; omega) (by rw [h0]) ?_
  refine J_aload_n (i := 0) d_W_law_1148 rfl rfl ?_
  refine J_iload_n (i := 3) d_W_law_1149 rfl rfl ?_
  refine J_iconst (v := nI 2) d_W_law_1150 rfl ?_
  refine N_iadd d_W_law_1151 ?_
  refine N_iald (x := (scr.getD (i + 2) 0)) d_W_law_1152 rfl (by omega) (by rw [h0]; omega) (by rw [h0]) ?_
  refine J_aload_n (i := 0) d_W_law_1153 rfl rfl ?_
  refine J_iload_n (i := 3) d_W_law_1154 rfl rfl ?_
  refine J_iconst (v := nI 3) d_W_law_1155 rfl ?_
  refine N_iadd d_W_law_1156 ?_
  refine N_iald (x := (scr.getD (i + 3) 0)) d_W_law_1157 rfl (by omega) (by rw [h0]; omega) (by rw [h0]) ?_
  refine M_callVO (av := [.int (scr.getD (i + 1) 0), .int (scr.getD (i + 2) 0), .int (scr.getD (i + 3) 0)]) d_W_law_1158 s_W_141 (M_rcv rfl (by decide) rfl) (N_O_chain hX hC hw) (by decide) rfl rfl (Nat.le_of_ble_eq_true rfl) (fun r1 Y1 hq1 e1 => ?_)
  obtain ⟨rfl, hX1, hC1, hs1⟩ := hq1
  have hR1 := RI_r hs1 hR
  have h01 : Y1.2.1 0 = scr := e1.trans h0
  refine J_aload_n (i := 2) d_W_law_1161 rfl rfl ?_
  refine J_aload_n (i := 0) d_W_law_1162 rfl rfl ?_
  refine J_iload_n (i := 3) d_W_law_1163 rfl rfl ?_
  refine J_iconst (v := nI 1) d_W_law_1164 rfl ?_
  refine N_iadd d_W_law_1165 ?_
  refine N_iald (x := (scr.getD (i + 1) 0)) d_W_law_1166 rfl (by omega) (by rw [h01]; omega) (by rw [h01]) ?_
  refine J_aload_n (i := 0) d_W_law_1167 rfl rfl ?_
  refine J_iload_n (i := 3) d_W_law_1168 rfl rfl ?_
  refine J_iconst (v := nI 2) d_W_law_1169 rfl ?_
  refine N_iadd d_W_law_1170 ?_
  refine N_iald (x := (scr.getD (i + 2) 0)) d_W_law_1171 rfl (by omega) (by rw [h01]; omega) (by rw [h01]) ?_
  refine J_aload_n (i := 0) d_W_law_1172 rfl rfl ?_
  refine J_iload_n (i := 3) d_W_law_1173 rfl rfl ?_
  refine J_iconst (v := nI 3) d_W_law_1174 rfl ?_
  refine N_iadd d_W_law_1175 ?_
  refine N_iald (x := (scr.getD (i + 3) 0)) d_W_law_1176 rfl (by omega) (by rw [h01]; omega) (by rw [h01]) ?_
  refine M_callVO (av := [.int (scr.getD (i + 1) 0), .int (scr.getD (i + 2) 0), .int (scr.getD (i + 3) 0)]) d_W_law_1177 s_W_145 (M_rcv rfl (by decide) rfl) (N_R_chain hX1 hR1 hw) (by decide) rfl rfl (Nat.le_of_ble_eq_true rfl) (fun r2 Y2 hq2 e2 => ?_)
  obtain ⟨rfl, hX2, hR2, hs2⟩ := hq2
  have hC2 := CI_c hs2 hC1
  refine J_icmp_eq (tgt := 1593) d_W_law_1180 (by decide) (fun c1180 => ?_) (fun c1180 => absurd c1180 (fun z => z rfl))
  exact kx Y2 _ ⟨hX2, hC2, hR2, hw, e2.trans h01⟩

theorem lw_free {scr : List Int32} {X : Mem} {s : Sg} {i : Nat} {Q : Option Value → Mem → Prop} (hi : i + 6 ≤ scr.length) (hl : scr.length ≤ 3072) (h : LwS scr X s) (kx : ∀ Y s', LwS scr Y s' → JM 75 m_W_law Q 1593 [some (.ref 0), some (.ref 8), some (.ref 244), some (.int (nI i))] [] Y) : JM 75 m_W_law Q 1185 [some (.ref 0), some (.ref 8), some (.ref 244), some (.int (nI i))] [] X := by
  obtain ⟨hX, hC, hR, hw, h0⟩ := h
  refine J_aload_n (i := 1) d_W_law_1185 rfl rfl ?_
  refine J_aload_n (i := 0) d_W_law_1186 rfl rfl ?_
  refine J_iload_n (i := 3) d_W_law_1187 rfl rfl ?_
  refine J_iconst (v := nI 1) d_W_law_1188 rfl ?_
  refine N_iadd d_W_law_1189 ?_
  refine N_iald (x := (scr.getD (i + 1) 0)) d_W_law_1190 rfl (by omega) (by rw [h0]; omega) (by rw [h0]) ?_
  refine J_aload_n (i := 0) d_W_law_1191 rfl rfl ?_
  refine J_iload_n (i := 3) d_W_law_1192 rfl rfl ?_
  refine J_iconst (v := nI 2) d_W_law_1193 rfl ?_
  refine N_iadd d_W_law_1194 ?_
  refine N_iald (x := (scr.getD (i + 2) 0)) d_W_law_1195 rfl (by omega) (by rw [h0]; omega) (by rw [h0]) ?_
  refine M_callVO (av := [.int (scr.getD (i + 1) 0), .int (scr.getD (i + 2) 0)]) d_W_law_1196 s_W_146 (M_rcv rfl (by decide) rfl) (N_O_free hX hC hw) (by decide) rfl rfl (Nat.le_of_ble_eq_true rfl) (fun r1 Y1 hq1 e1 => ?_)
  obtain ⟨rfl, hX1, hC1, hs1⟩ := hq1
  have hR1 := RI_r hs1 hR
  have h01 : Y1.2.1 0 = scr := e1.trans h0
  refine J_aload_n (i := 2) d_W_law_1199 rfl rfl ?_
  refine J_aload_n (i := 0) d_W_law_1200 rfl rfl ?_
  refine J_iload_n (i := 3) d_W_law_1201 rfl rfl ?_
  refine J_iconst (v := nI 1) d_W_law_1202 rfl ?_
  refine N_iadd d_W_law_1203 ?_
  refine N_iald (x := (scr.getD (i + 1) 0)) d_W_law_1204 rfl (by omega) (by rw [h01]; omega) (by rw [h01]) ?_
  refine J_aload_n (i := 0) d_W_law_1205 rfl rfl ?_
  refine J_iload_n (i := 3) d_W_law_1206 rfl rfl ?_
  refine J_iconst (v := nI 2) d_W_law_1207 rfl ?_
  refine N_iadd d_W_law_1208 ?_
  refine N_iald (x := (scr.getD (i + 2) 0)) d_W_law_1209 rfl (by omega) (by rw [h01]; omega) (by rw [h01]) ?_
  refine M_callVO (av := [.int (scr.getD (i + 1) 0), .int (scr.getD (i + 2) 0)]) d_W_law_1210 s_W_149 (M_rcv rfl (by decide) rfl) (N_R_free hX1 hR1 hw) (by decide) rfl rfl (Nat.le_of_ble_eq_true rfl) (fun r2 Y2 hq2 e2 => ?_)
  obtain ⟨rfl, hX2, hR2, hs2⟩ := hq2
  have hC2 := CI_c hs2 hC1
  refine J_icmp_eq (tgt := 1593) d_W_law_1213 (by decide) (fun c1213 => ?_) (fun c1213 => absurd c1213 (fun z => z rfl))
  exact kx Y2 _ ⟨hX2, hC2, hR2, hw, e2.trans h01⟩

theorem lw_kinds {scr : List Int32} {X : Mem} {s : Sg} {i : Nat} {Q : Option Value → Mem → Prop} (hi : i + 6 ≤ scr.length) (hl : scr.length ≤ 3072) (h : LwS scr X s) (kx : ∀ Y s', LwS scr Y s' → JM 75 m_W_law Q 1593 [some (.ref 0), some (.ref 8), some (.ref 244), some (.int (nI i))] [] Y) : JM 75 m_W_law Q 1218 [some (.ref 0), some (.ref 8), some (.ref 244), some (.int (nI i))] [] X := by
  obtain ⟨hX, hC, hR, hw, h0⟩ := h
  refine J_aload_n (i := 1) d_W_law_1218 rfl rfl ?_
  refine J_aload_n (i := 0) d_W_law_1219 rfl rfl ?_
  refine J_iload_n (i := 3) d_W_law_1220 rfl rfl ?_
  refine J_iconst (v := nI 1) d_W_law_1221 rfl ?_
  refine N_iadd d_W_law_1222 ?_
  refine N_iald (x := (scr.getD (i + 1) 0)) d_W_law_1223 rfl (by omega) (by rw [h0]; omega) (by rw [h0]) ?_
  refine M_callVO (av := [.int (scr.getD (i + 1) 0)]) d_W_law_1224 s_W_150 (M_rcv rfl (by decide) rfl) (N_O_kinds hX hC hw) (by decide) rfl rfl (Nat.le_of_ble_eq_true rfl) (fun r1 Y1 hq1 e1 => ?_)
  obtain ⟨rfl, hX1, hC1, hs1⟩ := hq1
  have hR1 := RI_r hs1 hR
  have h01 : Y1.2.1 0 = scr := e1.trans h0
  refine J_aload_n (i := 2) d_W_law_1227 rfl rfl ?_
  refine J_aload_n (i := 0) d_W_law_1228 rfl rfl ?_
  refine J_iload_n (i := 3) d_W_law_1229 rfl rfl ?_
  refine J_iconst (v := nI 1) d_W_law_1230 rfl ?_
  refine N_iadd d_W_law_1231 ?_
  refine N_iald (x := (scr.getD (i + 1) 0)) d_W_law_1232 rfl (by omega) (by rw [h01]; omega) (by rw [h01]) ?_
  refine M_callVO (av := [.int (scr.getD (i + 1) 0)]) d_W_law_1233 s_W_154 (M_rcv rfl (by decide) rfl) (N_R_kinds hX1 hR1 hw) (by decide) rfl rfl (Nat.le_of_ble_eq_true rfl) (fun r2 Y2 hq2 e2 => ?_)
  obtain ⟨rfl, hX2, hR2, hs2⟩ := hq2
  have hC2 := CI_c hs2 hC1
  refine J_lcmp d_W_law_1236 ?_
  refine J_if_eq (tgt := 1593) d_W_law_1237 (by decide) (fun c1237 => ?_) (fun c1237 => absurd c1237 (fun z => z (cmp_0.mpr rfl)))
  exact kx Y2 _ ⟨hX2, hC2, hR2, hw, e2.trans h01⟩

theorem lw_witness {scr : List Int32} {X : Mem} {s : Sg} {i : Nat} {Q : Option Value → Mem → Prop} (hi : i + 6 ≤ scr.length) (hl : scr.length ≤ 3072) (h : LwS scr X s) (kx : ∀ Y s', LwS scr Y s' → JM 75 m_W_law Q 1593 [some (.ref 0), some (.ref 8), some (.ref 244), some (.int (nI i))] [] Y) : JM 75 m_W_law Q 1242 [some (.ref 0), some (.ref 8), some (.ref 244), some (.int (nI i))] [] X := by
  obtain ⟨hX, hC, hR, hw, h0⟩ := h
  refine J_aload_n (i := 1) d_W_law_1242 rfl rfl ?_
  refine J_aload_n (i := 0) d_W_law_1243 rfl rfl ?_
  refine J_iload_n (i := 3) d_W_law_1244 rfl rfl ?_
  refine J_iconst (v := nI 1) d_W_law_1245 rfl ?_
  refine N_iadd d_W_law_1246 ?_
  refine N_iald (x := (scr.getD (i + 1) 0)) d_W_law_1247 rfl (by omega) (by rw [h0]; omega) (by rw [h0]) ?_
  refine J_aload_n (i := 0) d_W_law_1248 rfl rfl ?_
  refine J_iload_n (i := 3) d_W_law_1249 rfl rfl ?_
  refine J_iconst (v := nI 2) d_W_law_1250 rfl ?_
  refine N_iadd d_W_law_1251 ?_
  refine N_iald (x := (scr.getD (i + 2) 0)) d_W_law_1252 rfl (by omega) (by rw [h0]; omega) (by rw [h0]) ?_
  refine J_if_eq (tgt := 1260) d_W_law_1253 (by decide) (fun c1253 => ?_) (fun c1253 => ?_)
  · refine J_iconst (v := nI 0) d_W_law_1260 rfl ?_
    refine J.eq (st1 := [.int (b2i false), .int (scr.getD (i + 1) 0), .ref 8]) ?_ rfl rfl rfl
    refine M_callVO (av := [.int (scr.getD (i + 1) 0), .int (b2i false)]) d_W_law_1261 s_W_155 (M_rcv rfl (by decide) rfl) (N_O_witness hX hC hw) (by decide) rfl rfl (Nat.le_of_ble_eq_true rfl) (fun r1 Y1 hq1 e1 => ?_)
    obtain ⟨rfl, hX1, hC1, hs1⟩ := hq1
    have hR1 := RI_r hs1 hR
    have h01 : Y1.2.1 0 = scr := e1.trans h0
    refine J_aload_n (i := 2) d_W_law_1264 rfl rfl ?_
    refine J_aload_n (i := 0) d_W_law_1265 rfl rfl ?_
    refine J_iload_n (i := 3) d_W_law_1266 rfl rfl ?_
    refine J_iconst (v := nI 1) d_W_law_1267 rfl ?_
    refine N_iadd d_W_law_1268 ?_
    refine N_iald (x := (scr.getD (i + 1) 0)) d_W_law_1269 rfl (by omega) (by rw [h01]; omega) (by rw [h01]) ?_
    refine J_aload_n (i := 0) d_W_law_1270 rfl rfl ?_
    refine J_iload_n (i := 3) d_W_law_1271 rfl rfl ?_
    refine J_iconst (v := nI 2) d_W_law_1272 rfl ?_
    refine N_iadd d_W_law_1273 ?_
    refine N_iald (x := (scr.getD (i + 2) 0)) d_W_law_1274 rfl (by omega) (by rw [h01]; omega) (by rw [h01]) ?_
    refine J_if_eq (tgt := 1282) d_W_law_1275 (by decide) (fun c1275 => ?_) (fun c1275 => absurd c1275 (fun z => z c1253))
    refine J_iconst (v := nI 0) d_W_law_1282 rfl ?_
    refine J.eq (st1 := [.int (b2i false), .int (scr.getD (i + 1) 0), .ref 244, .int (witF (scr.getD (i + 1) 0) (tn (s.1 26)) (tn (s.1 27)))]) ?_ rfl rfl rfl
    refine M_callVO (av := [.int (scr.getD (i + 1) 0), .int (b2i false)]) d_W_law_1283 s_W_158 (M_rcv rfl (by decide) rfl) (N_R_witness hX1 hR1 hw) (by decide) rfl rfl (Nat.le_of_ble_eq_true rfl) (fun r2 Y2 hq2 e2 => ?_)
    obtain ⟨rfl, hX2, hR2, hs2⟩ := hq2
    have hC2 := CI_c hs2 hC1
    refine J_icmp_eq (tgt := 1593) d_W_law_1286 (by decide) (fun c1286 => ?_) (fun c1286 => absurd c1286 (fun z => z rfl))
    exact kx Y2 _ ⟨hX2, hC2, hR2, WF_witS hw, e2.trans h01⟩
  · refine J_iconst (v := nI 1) d_W_law_1256 rfl ?_
    refine J_goto (tgt := 1261) d_W_law_1257 (by decide) ?_
    refine J.eq (st1 := [.int (b2i true), .int (scr.getD (i + 1) 0), .ref 8]) ?_ rfl rfl rfl
    refine M_callVO (av := [.int (scr.getD (i + 1) 0), .int (b2i true)]) d_W_law_1261 s_W_155 (M_rcv rfl (by decide) rfl) (N_O_witness hX hC hw) (by decide) rfl rfl (Nat.le_of_ble_eq_true rfl) (fun r1 Y1 hq1 e1 => ?_)
    obtain ⟨rfl, hX1, hC1, hs1⟩ := hq1
    have hR1 := RI_r hs1 hR
    have h01 : Y1.2.1 0 = scr := e1.trans h0
    refine J_aload_n (i := 2) d_W_law_1264 rfl rfl ?_
    refine J_aload_n (i := 0) d_W_law_1265 rfl rfl ?_
    refine J_iload_n (i := 3) d_W_law_1266 rfl rfl ?_
    refine J_iconst (v := nI 1) d_W_law_1267 rfl ?_
    refine N_iadd d_W_law_1268 ?_
    refine N_iald (x := (scr.getD (i + 1) 0)) d_W_law_1269 rfl (by omega) (by rw [h01]; omega) (by rw [h01]) ?_
    refine J_aload_n (i := 0) d_W_law_1270 rfl rfl ?_
    refine J_iload_n (i := 3) d_W_law_1271 rfl rfl ?_
    refine J_iconst (v := nI 2) d_W_law_1272 rfl ?_
    refine N_iadd d_W_law_1273 ?_
    refine N_iald (x := (scr.getD (i + 2) 0)) d_W_law_1274 rfl (by omega) (by rw [h01]; omega) (by rw [h01]) ?_
    refine J_if_eq (tgt := 1282) d_W_law_1275 (by decide) (fun c1275 => absurd c1275 c1253) (fun c1275 => ?_)
    refine J_iconst (v := nI 1) d_W_law_1278 rfl ?_
    refine J_goto (tgt := 1283) d_W_law_1279 (by decide) ?_
    refine J.eq (st1 := [.int (b2i true), .int (scr.getD (i + 1) 0), .ref 244, .int (witF (scr.getD (i + 1) 0) (tn (s.1 26)) (tn (s.1 27)))]) ?_ rfl rfl rfl
    refine M_callVO (av := [.int (scr.getD (i + 1) 0), .int (b2i true)]) d_W_law_1283 s_W_158 (M_rcv rfl (by decide) rfl) (N_R_witness hX1 hR1 hw) (by decide) rfl rfl (Nat.le_of_ble_eq_true rfl) (fun r2 Y2 hq2 e2 => ?_)
    obtain ⟨rfl, hX2, hR2, hs2⟩ := hq2
    have hC2 := CI_c hs2 hC1
    refine J_icmp_eq (tgt := 1593) d_W_law_1286 (by decide) (fun c1286 => ?_) (fun c1286 => absurd c1286 (fun z => z rfl))
    exact kx Y2 _ ⟨hX2, hC2, hR2, WF_witS hw, e2.trans h01⟩

theorem lw_which {scr : List Int32} {X : Mem} {s : Sg} {i : Nat} {Q : Option Value → Mem → Prop} (hi : i + 6 ≤ scr.length) (hl : scr.length ≤ 3072) (h : LwS scr X s) (kx : ∀ Y s', LwS scr Y s' → JM 75 m_W_law Q 1593 [some (.ref 0), some (.ref 8), some (.ref 244), some (.int (nI i))] [] Y) : JM 75 m_W_law Q 1291 [some (.ref 0), some (.ref 8), some (.ref 244), some (.int (nI i))] [] X := by
  obtain ⟨hX, hC, hR, hw, h0⟩ := h
  refine J_aload_n (i := 1) d_W_law_1291 rfl rfl ?_
  refine M_callVO (av := []) d_W_law_1292 s_W_159 (M_rcv rfl (by decide) rfl) (N_O_which hX hC hw) (by decide) rfl rfl (Nat.le_of_ble_eq_true rfl) (fun r1 Y1 hq1 e1 => ?_)
  obtain ⟨rfl, hX1, hC1, hs1⟩ := hq1
  have hR1 := RI_r hs1 hR
  have h01 : Y1.2.1 0 = scr := e1.trans h0
  refine J_aload_n (i := 2) d_W_law_1295 rfl rfl ?_
  refine M_callVO (av := []) d_W_law_1296 s_W_162 (M_rcv rfl (by decide) rfl) (N_R_which hX1 hR1 hw) (by decide) rfl rfl (Nat.le_of_ble_eq_true rfl) (fun r2 Y2 hq2 e2 => ?_)
  obtain ⟨rfl, hX2, hR2, hs2⟩ := hq2
  have hC2 := CI_c hs2 hC1
  refine J_icmp_eq (tgt := 1593) d_W_law_1299 (by decide) (fun c1299 => ?_) (fun c1299 => absurd c1299 (fun z => z rfl))
  exact kx Y2 _ ⟨hX2, hC2, hR2, hw, e2.trans h01⟩

theorem lw_ways {scr : List Int32} {X : Mem} {s : Sg} {i : Nat} {Q : Option Value → Mem → Prop} (hi : i + 6 ≤ scr.length) (hl : scr.length ≤ 3072) (h : LwS scr X s) (kx : ∀ Y s', LwS scr Y s' → JM 75 m_W_law Q 1593 [some (.ref 0), some (.ref 8), some (.ref 244), some (.int (nI i))] [] Y) : JM 75 m_W_law Q 1304 [some (.ref 0), some (.ref 8), some (.ref 244), some (.int (nI i))] [] X := by
  obtain ⟨hX, hC, hR, hw, h0⟩ := h
  refine J_aload_n (i := 1) d_W_law_1304 rfl rfl ?_
  refine J_aload_n (i := 0) d_W_law_1305 rfl rfl ?_
  refine J_iload_n (i := 3) d_W_law_1306 rfl rfl ?_
  refine J_iconst (v := nI 1) d_W_law_1307 rfl ?_
  refine N_iadd d_W_law_1308 ?_
  refine N_iald (x := (scr.getD (i + 1) 0)) d_W_law_1309 rfl (by omega) (by rw [h0]; omega) (by rw [h0]) ?_
  refine M_callVO (av := [.int (scr.getD (i + 1) 0)]) d_W_law_1310 s_W_163 (M_rcv rfl (by decide) rfl) (N_O_ways hX hC hw) (by decide) rfl rfl (Nat.le_of_ble_eq_true rfl) (fun r1 Y1 hq1 e1 => ?_)
  obtain ⟨rfl, hX1, hC1, hs1⟩ := hq1
  have hR1 := RI_r hs1 hR
  have h01 : Y1.2.1 0 = scr := e1.trans h0
  refine J_aload_n (i := 2) d_W_law_1313 rfl rfl ?_
  refine J_aload_n (i := 0) d_W_law_1314 rfl rfl ?_
  refine J_iload_n (i := 3) d_W_law_1315 rfl rfl ?_
  refine J_iconst (v := nI 1) d_W_law_1316 rfl ?_
  refine N_iadd d_W_law_1317 ?_
  refine N_iald (x := (scr.getD (i + 1) 0)) d_W_law_1318 rfl (by omega) (by rw [h01]; omega) (by rw [h01]) ?_
  refine M_callVO (av := [.int (scr.getD (i + 1) 0)]) d_W_law_1319 s_W_166 (M_rcv rfl (by decide) rfl) (N_R_ways hX1 hR1 hw) (by decide) rfl rfl (Nat.le_of_ble_eq_true rfl) (fun r2 Y2 hq2 e2 => ?_)
  obtain ⟨rfl, hX2, hR2, hs2⟩ := hq2
  have hC2 := CI_c hs2 hC1
  refine J_icmp_eq (tgt := 1593) d_W_law_1322 (by decide) (fun c1322 => ?_) (fun c1322 => absurd c1322 (fun z => z rfl))
  exact kx Y2 _ ⟨hX2, hC2, hR2, hw, e2.trans h01⟩

theorem lw_ask {scr : List Int32} {X : Mem} {s : Sg} {i : Nat} {Q : Option Value → Mem → Prop} (hi : i + 6 ≤ scr.length) (hl : scr.length ≤ 3072) (h : LwS scr X s) (kx : ∀ Y s', LwS scr Y s' → JM 75 m_W_law Q 1593 [some (.ref 0), some (.ref 8), some (.ref 244), some (.int (nI i))] [] Y) : JM 75 m_W_law Q 1327 [some (.ref 0), some (.ref 8), some (.ref 244), some (.int (nI i))] [] X := by
  obtain ⟨hX, hC, hR, hw, h0⟩ := h
  refine J_aload_n (i := 1) d_W_law_1327 rfl rfl ?_
  refine M_callVO (av := []) d_W_law_1328 s_W_167 (M_rcv rfl (by decide) rfl) (N_O_ask hX hC hw) (by decide) rfl rfl (Nat.le_of_ble_eq_true rfl) (fun r1 Y1 hq1 e1 => ?_)
  obtain ⟨rfl, hX1, hC1, hs1⟩ := hq1
  have hR1 := RI_r hs1 hR
  have h01 : Y1.2.1 0 = scr := e1.trans h0
  refine J_aload_n (i := 2) d_W_law_1331 rfl rfl ?_
  refine M_callVO (av := []) d_W_law_1332 s_W_170 (M_rcv rfl (by decide) rfl) (N_R_ask hX1 hR1 hw) (by decide) rfl rfl (Nat.le_of_ble_eq_true rfl) (fun r2 Y2 hq2 e2 => ?_)
  obtain ⟨rfl, hX2, hR2, hs2⟩ := hq2
  have hC2 := CI_c hs2 hC1
  refine J_icmp_eq (tgt := 1593) d_W_law_1335 (by decide) (fun c1335 => ?_) (fun c1335 => absurd c1335 (fun z => z rfl))
  exact kx Y2 _ ⟨hX2, hC2, hR2, hw, e2.trans h01⟩

theorem lw_game {scr : List Int32} {X : Mem} {s : Sg} {i : Nat} {Q : Option Value → Mem → Prop} (hi : i + 6 ≤ scr.length) (hl : scr.length ≤ 3072) (h : LwS scr X s) (kx : ∀ Y s', LwS scr Y s' → JM 75 m_W_law Q 1593 [some (.ref 0), some (.ref 8), some (.ref 244), some (.int (nI i))] [] Y) : JM 75 m_W_law Q 1340 [some (.ref 0), some (.ref 8), some (.ref 244), some (.int (nI i))] [] X := by
  obtain ⟨hX, hC, hR, hw, h0⟩ := h
  refine J_aload_n (i := 1) d_W_law_1340 rfl rfl ?_
  refine J_aload_n (i := 0) d_W_law_1341 rfl rfl ?_
  refine J_iload_n (i := 3) d_W_law_1342 rfl rfl ?_
  refine J_iconst (v := nI 1) d_W_law_1343 rfl ?_
  refine N_iadd d_W_law_1344 ?_
  refine N_iald (x := (scr.getD (i + 1) 0)) d_W_law_1345 rfl (by omega) (by rw [h0]; omega) (by rw [h0]) ?_
  refine J_aload_n (i := 0) d_W_law_1346 rfl rfl ?_
  refine J_iload_n (i := 3) d_W_law_1347 rfl rfl ?_
  refine J_iconst (v := nI 2) d_W_law_1348 rfl ?_
  refine N_iadd d_W_law_1349 ?_
  refine N_iald (x := (scr.getD (i + 2) 0)) d_W_law_1350 rfl (by omega) (by rw [h0]; omega) (by rw [h0]) ?_
  refine M_callVO (av := [.int (scr.getD (i + 1) 0), .int (scr.getD (i + 2) 0)]) d_W_law_1351 s_W_171 (M_rcv rfl (by decide) rfl) (N_O_game hX hC hw) (by decide) rfl rfl (Nat.le_of_ble_eq_true rfl) (fun r1 Y1 hq1 e1 => ?_)
  obtain ⟨rfl, hX1, hC1, hs1⟩ := hq1
  have hR1 := RI_r hs1 hR
  have h01 : Y1.2.1 0 = scr := e1.trans h0
  refine J_aload_n (i := 2) d_W_law_1354 rfl rfl ?_
  refine J_aload_n (i := 0) d_W_law_1355 rfl rfl ?_
  refine J_iload_n (i := 3) d_W_law_1356 rfl rfl ?_
  refine J_iconst (v := nI 1) d_W_law_1357 rfl ?_
  refine N_iadd d_W_law_1358 ?_
  refine N_iald (x := (scr.getD (i + 1) 0)) d_W_law_1359 rfl (by omega) (by rw [h01]; omega) (by rw [h01]) ?_
  refine J_aload_n (i := 0) d_W_law_1360 rfl rfl ?_
  refine J_iload_n (i := 3) d_W_law_1361 rfl rfl ?_
  refine J_iconst (v := nI 2) d_W_law_1362 rfl ?_
  refine N_iadd d_W_law_1363 ?_
  refine N_iald (x := (scr.getD (i + 2) 0)) d_W_law_1364 rfl (by omega) (by rw [h01]; omega) (by rw [h01]) ?_
  refine M_callVO (av := [.int (scr.getD (i + 1) 0), .int (scr.getD (i + 2) 0)]) d_W_law_1365 s_W_174 (M_rcv rfl (by decide) rfl) (N_R_game hX1 hR1 hw) (by decide) rfl rfl (Nat.le_of_ble_eq_true rfl) (fun r2 Y2 hq2 e2 => ?_)
  obtain ⟨rfl, hX2, hR2, hs2⟩ := hq2
  have hC2 := CI_c hs2 hC1
  refine J_icmp_eq (tgt := 1593) d_W_law_1368 (by decide) (fun c1368 => ?_) (fun c1368 => absurd c1368 (fun z => z rfl))
  exact kx Y2 _ ⟨hX2, hC2, hR2, hw, e2.trans h01⟩

theorem lw_play {scr : List Int32} {X : Mem} {s : Sg} {i : Nat} {Q : Option Value → Mem → Prop} (hi : i + 6 ≤ scr.length) (hl : scr.length ≤ 3072) (h : LwS scr X s) (kx : ∀ Y s', LwS scr Y s' → JM 75 m_W_law Q 1593 [some (.ref 0), some (.ref 8), some (.ref 244), some (.int (nI i))] [] Y) : JM 75 m_W_law Q 1373 [some (.ref 0), some (.ref 8), some (.ref 244), some (.int (nI i))] [] X := by
  obtain ⟨hX, hC, hR, hw, h0⟩ := h
  refine J_aload_n (i := 1) d_W_law_1373 rfl rfl ?_
  refine J_aload_n (i := 0) d_W_law_1374 rfl rfl ?_
  refine J_iload_n (i := 3) d_W_law_1375 rfl rfl ?_
  refine J_iconst (v := nI 1) d_W_law_1376 rfl ?_
  refine N_iadd d_W_law_1377 ?_
  refine N_iald (x := (scr.getD (i + 1) 0)) d_W_law_1378 rfl (by omega) (by rw [h0]; omega) (by rw [h0]) ?_
  refine J_aload_n (i := 0) d_W_law_1379 rfl rfl ?_
  refine J_iload_n (i := 3) d_W_law_1380 rfl rfl ?_
  refine J_iconst (v := nI 2) d_W_law_1381 rfl ?_
  refine N_iadd d_W_law_1382 ?_
  refine N_iald (x := (scr.getD (i + 2) 0)) d_W_law_1383 rfl (by omega) (by rw [h0]; omega) (by rw [h0]) ?_
  refine M_callVO (av := [.int (scr.getD (i + 1) 0), .int (scr.getD (i + 2) 0)]) d_W_law_1384 s_W_175 (M_rcv rfl (by decide) rfl) (N_O_play hX hC hw) (by decide) rfl rfl (Nat.le_of_ble_eq_true rfl) (fun r1 Y1 hq1 e1 => ?_)
  obtain ⟨rfl, hX1, hC1, hs1⟩ := hq1
  have hR1 := RI_r hs1 hR
  have h01 : Y1.2.1 0 = scr := e1.trans h0
  refine J_aload_n (i := 2) d_W_law_1387 rfl rfl ?_
  refine J_aload_n (i := 0) d_W_law_1388 rfl rfl ?_
  refine J_iload_n (i := 3) d_W_law_1389 rfl rfl ?_
  refine J_iconst (v := nI 1) d_W_law_1390 rfl ?_
  refine N_iadd d_W_law_1391 ?_
  refine N_iald (x := (scr.getD (i + 1) 0)) d_W_law_1392 rfl (by omega) (by rw [h01]; omega) (by rw [h01]) ?_
  refine J_aload_n (i := 0) d_W_law_1393 rfl rfl ?_
  refine J_iload_n (i := 3) d_W_law_1394 rfl rfl ?_
  refine J_iconst (v := nI 2) d_W_law_1395 rfl ?_
  refine N_iadd d_W_law_1396 ?_
  refine N_iald (x := (scr.getD (i + 2) 0)) d_W_law_1397 rfl (by omega) (by rw [h01]; omega) (by rw [h01]) ?_
  refine M_callVO (av := [.int (scr.getD (i + 1) 0), .int (scr.getD (i + 2) 0)]) d_W_law_1398 s_W_178 (M_rcv rfl (by decide) rfl) (N_R_play hX1 hR1 hw) (by decide) rfl rfl (Nat.le_of_ble_eq_true rfl) (fun r2 Y2 hq2 e2 => ?_)
  obtain ⟨rfl, hX2, hR2, hs2⟩ := hq2
  have hC2 := CI_c hs2 hC1
  refine J_icmp_eq (tgt := 1593) d_W_law_1401 (by decide) (fun c1401 => ?_) (fun c1401 => absurd c1401 (fun z => z rfl))
  exact kx Y2 _ ⟨hX2, hC2, hR2, hw, e2.trans h01⟩

theorem lw_apart {scr : List Int32} {X : Mem} {s : Sg} {i : Nat} {Q : Option Value → Mem → Prop} (hi : i + 6 ≤ scr.length) (hl : scr.length ≤ 3072) (h : LwS scr X s) (kx : ∀ Y s', LwS scr Y s' → JM 75 m_W_law Q 1593 [some (.ref 0), some (.ref 8), some (.ref 244), some (.int (nI i))] [] Y) : JM 75 m_W_law Q 1406 [some (.ref 0), some (.ref 8), some (.ref 244), some (.int (nI i))] [] X := by
  obtain ⟨hX, hC, hR, hw, h0⟩ := h
  refine J_aload_n (i := 1) d_W_law_1406 rfl rfl ?_
  refine J_aload_n (i := 0) d_W_law_1407 rfl rfl ?_
  refine J_iload_n (i := 3) d_W_law_1408 rfl rfl ?_
  refine J_iconst (v := nI 1) d_W_law_1409 rfl ?_
  refine N_iadd d_W_law_1410 ?_
  refine N_iald (x := (scr.getD (i + 1) 0)) d_W_law_1411 rfl (by omega) (by rw [h0]; omega) (by rw [h0]) ?_
  refine J_aload_n (i := 0) d_W_law_1412 rfl rfl ?_
  refine J_iload_n (i := 3) d_W_law_1413 rfl rfl ?_
  refine J_iconst (v := nI 2) d_W_law_1414 rfl ?_
  refine N_iadd d_W_law_1415 ?_
  refine N_iald (x := (scr.getD (i + 2) 0)) d_W_law_1416 rfl (by omega) (by rw [h0]; omega) (by rw [h0]) ?_
  refine M_callVO (av := [.int (scr.getD (i + 1) 0), .int (scr.getD (i + 2) 0)]) d_W_law_1417 s_W_179 (M_rcv rfl (by decide) rfl) (N_O_apart hX hC hw) (by decide) rfl rfl (Nat.le_of_ble_eq_true rfl) (fun r1 Y1 hq1 e1 => ?_)
  obtain ⟨rfl, hX1, hC1, hs1⟩ := hq1
  have hR1 := RI_r hs1 hR
  have h01 : Y1.2.1 0 = scr := e1.trans h0
  refine J_aload_n (i := 2) d_W_law_1420 rfl rfl ?_
  refine J_aload_n (i := 0) d_W_law_1421 rfl rfl ?_
  refine J_iload_n (i := 3) d_W_law_1422 rfl rfl ?_
  refine J_iconst (v := nI 1) d_W_law_1423 rfl ?_
  refine N_iadd d_W_law_1424 ?_
  refine N_iald (x := (scr.getD (i + 1) 0)) d_W_law_1425 rfl (by omega) (by rw [h01]; omega) (by rw [h01]) ?_
  refine J_aload_n (i := 0) d_W_law_1426 rfl rfl ?_
  refine J_iload_n (i := 3) d_W_law_1427 rfl rfl ?_
  refine J_iconst (v := nI 2) d_W_law_1428 rfl ?_
  refine N_iadd d_W_law_1429 ?_
  refine N_iald (x := (scr.getD (i + 2) 0)) d_W_law_1430 rfl (by omega) (by rw [h01]; omega) (by rw [h01]) ?_
  refine M_callVO (av := [.int (scr.getD (i + 1) 0), .int (scr.getD (i + 2) 0)]) d_W_law_1431 s_W_182 (M_rcv rfl (by decide) rfl) (N_R_apart hX1 hR1 hw) (by decide) rfl rfl (Nat.le_of_ble_eq_true rfl) (fun r2 Y2 hq2 e2 => ?_)
  obtain ⟨rfl, hX2, hR2, hs2⟩ := hq2
  have hC2 := CI_c hs2 hC1
  refine J_icmp_eq (tgt := 1593) d_W_law_1434 (by decide) (fun c1434 => ?_) (fun c1434 => absurd c1434 (fun z => z rfl))
  exact kx Y2 _ ⟨hX2, hC2, hR2, hw, e2.trans h01⟩

theorem lw_said {scr : List Int32} {X : Mem} {s : Sg} {i : Nat} {Q : Option Value → Mem → Prop} (hi : i + 6 ≤ scr.length) (hl : scr.length ≤ 3072) (h : LwS scr X s) (kx : ∀ Y s', LwS scr Y s' → JM 75 m_W_law Q 1593 [some (.ref 0), some (.ref 8), some (.ref 244), some (.int (nI i))] [] Y) : JM 75 m_W_law Q 1439 [some (.ref 0), some (.ref 8), some (.ref 244), some (.int (nI i))] [] X := by
  obtain ⟨hX, hC, hR, hw, h0⟩ := h
  refine J_aload_n (i := 1) d_W_law_1439 rfl rfl ?_
  refine J_aload_n (i := 0) d_W_law_1440 rfl rfl ?_
  refine J_iload_n (i := 3) d_W_law_1441 rfl rfl ?_
  refine J_iconst (v := nI 1) d_W_law_1442 rfl ?_
  refine N_iadd d_W_law_1443 ?_
  refine N_iald (x := (scr.getD (i + 1) 0)) d_W_law_1444 rfl (by omega) (by rw [h0]; omega) (by rw [h0]) ?_
  refine J_aload_n (i := 0) d_W_law_1445 rfl rfl ?_
  refine J_iload_n (i := 3) d_W_law_1446 rfl rfl ?_
  refine J_iconst (v := nI 2) d_W_law_1447 rfl ?_
  refine N_iadd d_W_law_1448 ?_
  refine N_iald (x := (scr.getD (i + 2) 0)) d_W_law_1449 rfl (by omega) (by rw [h0]; omega) (by rw [h0]) ?_
  refine J_aload_n (i := 0) d_W_law_1450 rfl rfl ?_
  refine J_iload_n (i := 3) d_W_law_1451 rfl rfl ?_
  refine J_iconst (v := nI 3) d_W_law_1452 rfl ?_
  refine N_iadd d_W_law_1453 ?_
  refine N_iald (x := (scr.getD (i + 3) 0)) d_W_law_1454 rfl (by omega) (by rw [h0]; omega) (by rw [h0]) ?_
  refine M_callVO (av := [.int (scr.getD (i + 1) 0), .int (scr.getD (i + 2) 0), .int (scr.getD (i + 3) 0)]) d_W_law_1455 s_W_183 (M_rcv rfl (by decide) rfl) (N_O_said hX hC hw) (by decide) rfl rfl (Nat.le_of_ble_eq_true rfl) (fun r1 Y1 hq1 e1 => ?_)
  obtain ⟨rfl, hX1, hC1, hs1⟩ := hq1
  have hR1 := RI_r hs1 hR
  have h01 : Y1.2.1 0 = scr := e1.trans h0
  refine J_aload_n (i := 2) d_W_law_1458 rfl rfl ?_
  refine J_aload_n (i := 0) d_W_law_1459 rfl rfl ?_
  refine J_iload_n (i := 3) d_W_law_1460 rfl rfl ?_
  refine J_iconst (v := nI 1) d_W_law_1461 rfl ?_
  refine N_iadd d_W_law_1462 ?_
  refine N_iald (x := (scr.getD (i + 1) 0)) d_W_law_1463 rfl (by omega) (by rw [h01]; omega) (by rw [h01]) ?_
  refine J_aload_n (i := 0) d_W_law_1464 rfl rfl ?_
  refine J_iload_n (i := 3) d_W_law_1465 rfl rfl ?_
  refine J_iconst (v := nI 2) d_W_law_1466 rfl ?_
  refine N_iadd d_W_law_1467 ?_
  refine N_iald (x := (scr.getD (i + 2) 0)) d_W_law_1468 rfl (by omega) (by rw [h01]; omega) (by rw [h01]) ?_
  refine J_aload_n (i := 0) d_W_law_1469 rfl rfl ?_
  refine J_iload_n (i := 3) d_W_law_1470 rfl rfl ?_
  refine J_iconst (v := nI 3) d_W_law_1471 rfl ?_
  refine N_iadd d_W_law_1472 ?_
  refine N_iald (x := (scr.getD (i + 3) 0)) d_W_law_1473 rfl (by omega) (by rw [h01]; omega) (by rw [h01]) ?_
  refine M_callVO (av := [.int (scr.getD (i + 1) 0), .int (scr.getD (i + 2) 0), .int (scr.getD (i + 3) 0)]) d_W_law_1474 s_W_186 (M_rcv rfl (by decide) rfl) (N_R_said hX1 hR1 hw) (by decide) rfl rfl (Nat.le_of_ble_eq_true rfl) (fun r2 Y2 hq2 e2 => ?_)
  obtain ⟨rfl, hX2, hR2, hs2⟩ := hq2
  have hC2 := CI_c hs2 hC1
  refine J_icmp_eq (tgt := 1593) d_W_law_1477 (by decide) (fun c1477 => ?_) (fun c1477 => absurd c1477 (fun z => z rfl))
  exact kx Y2 _ ⟨hX2, hC2, hR2, WF_saidS hw, e2.trans h01⟩

theorem lw_whose {scr : List Int32} {X : Mem} {s : Sg} {i : Nat} {Q : Option Value → Mem → Prop} (hi : i + 6 ≤ scr.length) (hl : scr.length ≤ 3072) (h : LwS scr X s) (kx : ∀ Y s', LwS scr Y s' → JM 75 m_W_law Q 1593 [some (.ref 0), some (.ref 8), some (.ref 244), some (.int (nI i))] [] Y) : JM 75 m_W_law Q 1482 [some (.ref 0), some (.ref 8), some (.ref 244), some (.int (nI i))] [] X := by
  obtain ⟨hX, hC, hR, hw, h0⟩ := h
  refine J_aload_n (i := 1) d_W_law_1482 rfl rfl ?_
  refine M_callVO (av := []) d_W_law_1483 s_W_187 (M_rcv rfl (by decide) rfl) (N_O_whose hX hC hw) (by decide) rfl rfl (Nat.le_of_ble_eq_true rfl) (fun r1 Y1 hq1 e1 => ?_)
  obtain ⟨rfl, hX1, hC1, hs1⟩ := hq1
  have hR1 := RI_r hs1 hR
  have h01 : Y1.2.1 0 = scr := e1.trans h0
  refine J_aload_n (i := 2) d_W_law_1486 rfl rfl ?_
  refine M_callVO (av := []) d_W_law_1487 s_W_190 (M_rcv rfl (by decide) rfl) (N_R_whose hX1 hR1 hw) (by decide) rfl rfl (Nat.le_of_ble_eq_true rfl) (fun r2 Y2 hq2 e2 => ?_)
  obtain ⟨rfl, hX2, hR2, hs2⟩ := hq2
  have hC2 := CI_c hs2 hC1
  refine J_icmp_eq (tgt := 1593) d_W_law_1490 (by decide) (fun c1490 => ?_) (fun c1490 => absurd c1490 (fun z => z rfl))
  exact kx Y2 _ ⟨hX2, hC2, hR2, hw, e2.trans h01⟩

theorem lw_richest {scr : List Int32} {X : Mem} {s : Sg} {i : Nat} {Q : Option Value → Mem → Prop} (hi : i + 6 ≤ scr.length) (hl : scr.length ≤ 3072) (h : LwS scr X s) (kx : ∀ Y s', LwS scr Y s' → JM 75 m_W_law Q 1593 [some (.ref 0), some (.ref 8), some (.ref 244), some (.int (nI i))] [] Y) : JM 75 m_W_law Q 1495 [some (.ref 0), some (.ref 8), some (.ref 244), some (.int (nI i))] [] X := by
  obtain ⟨hX, hC, hR, hw, h0⟩ := h
  refine J_aload_n (i := 1) d_W_law_1495 rfl rfl ?_
  refine M_callVO (av := []) d_W_law_1496 s_W_191 (M_rcv rfl (by decide) rfl) (N_O_richest hX hC hw) (by decide) rfl rfl (Nat.le_of_ble_eq_true rfl) (fun r1 Y1 hq1 e1 => ?_)
  obtain ⟨rfl, hX1, hC1, hs1⟩ := hq1
  have hR1 := RI_r hs1 hR
  have h01 : Y1.2.1 0 = scr := e1.trans h0
  refine J_aload_n (i := 2) d_W_law_1499 rfl rfl ?_
  refine M_callVO (av := []) d_W_law_1500 s_W_194 (M_rcv rfl (by decide) rfl) (N_R_richest hX1 hR1 hw) (by decide) rfl rfl (Nat.le_of_ble_eq_true rfl) (fun r2 Y2 hq2 e2 => ?_)
  obtain ⟨rfl, hX2, hR2, hs2⟩ := hq2
  have hC2 := CI_c hs2 hC1
  refine J_icmp_eq (tgt := 1593) d_W_law_1503 (by decide) (fun c1503 => ?_) (fun c1503 => absurd c1503 (fun z => z rfl))
  exact kx Y2 _ ⟨hX2, hC2, hR2, hw, e2.trans h01⟩

theorem lw_worn {scr : List Int32} {X : Mem} {s : Sg} {i : Nat} {Q : Option Value → Mem → Prop} (hi : i + 6 ≤ scr.length) (hl : scr.length ≤ 3072) (h : LwS scr X s) (kx : ∀ Y s', LwS scr Y s' → JM 75 m_W_law Q 1593 [some (.ref 0), some (.ref 8), some (.ref 244), some (.int (nI i))] [] Y) : JM 75 m_W_law Q 1508 [some (.ref 0), some (.ref 8), some (.ref 244), some (.int (nI i))] [] X := by
  obtain ⟨hX, hC, hR, hw, h0⟩ := h
  refine J_aload_n (i := 1) d_W_law_1508 rfl rfl ?_
  refine M_callVO (av := []) d_W_law_1509 s_W_195 (M_rcv rfl (by decide) rfl) (N_O_worn hX hC hw) (by decide) rfl rfl (Nat.le_of_ble_eq_true rfl) (fun r1 Y1 hq1 e1 => ?_)
  obtain ⟨rfl, hX1, hC1, hs1⟩ := hq1
  have hR1 := RI_r hs1 hR
  have h01 : Y1.2.1 0 = scr := e1.trans h0
  refine J_aload_n (i := 2) d_W_law_1512 rfl rfl ?_
  refine M_callVO (av := []) d_W_law_1513 s_W_198 (M_rcv rfl (by decide) rfl) (N_R_worn hX1 hR1 hw) (by decide) rfl rfl (Nat.le_of_ble_eq_true rfl) (fun r2 Y2 hq2 e2 => ?_)
  obtain ⟨rfl, hX2, hR2, hs2⟩ := hq2
  have hC2 := CI_c hs2 hC1
  refine J_icmp_eq (tgt := 1593) d_W_law_1516 (by decide) (fun c1516 => ?_) (fun c1516 => absurd c1516 (fun z => z rfl))
  exact kx Y2 _ ⟨hX2, hC2, hR2, hw, e2.trans h01⟩

theorem lw_ledger {scr : List Int32} {X : Mem} {s : Sg} {i : Nat} {Q : Option Value → Mem → Prop} (hi : i + 6 ≤ scr.length) (hl : scr.length ≤ 3072) (h : LwS scr X s) (kx : ∀ Y s', LwS scr Y s' → JM 75 m_W_law Q 1593 [some (.ref 0), some (.ref 8), some (.ref 244), some (.int (nI i))] [] Y) : JM 75 m_W_law Q 1521 [some (.ref 0), some (.ref 8), some (.ref 244), some (.int (nI i))] [] X := by
  obtain ⟨hX, hC, hR, hw, h0⟩ := h
  refine J_aload_n (i := 1) d_W_law_1521 rfl rfl ?_
  refine J_aload_n (i := 0) d_W_law_1522 rfl rfl ?_
  refine J_iload_n (i := 3) d_W_law_1523 rfl rfl ?_
  refine J_iconst (v := nI 1) d_W_law_1524 rfl ?_
  refine N_iadd d_W_law_1525 ?_
  refine N_iald (x := (scr.getD (i + 1) 0)) d_W_law_1526 rfl (by omega) (by rw [h0]; omega) (by rw [h0]) ?_
  refine M_callVO (av := [.int (scr.getD (i + 1) 0)]) d_W_law_1527 s_W_199 (M_rcv rfl (by decide) rfl) (N_O_ledger hX hC hw) (by decide) rfl rfl (Nat.le_of_ble_eq_true rfl) (fun r1 Y1 hq1 e1 => ?_)
  obtain ⟨rfl, hX1, hC1, hs1⟩ := hq1
  have hR1 := RI_r hs1 hR
  have h01 : Y1.2.1 0 = scr := e1.trans h0
  refine J_aload_n (i := 2) d_W_law_1530 rfl rfl ?_
  refine J_aload_n (i := 0) d_W_law_1531 rfl rfl ?_
  refine J_iload_n (i := 3) d_W_law_1532 rfl rfl ?_
  refine J_iconst (v := nI 1) d_W_law_1533 rfl ?_
  refine N_iadd d_W_law_1534 ?_
  refine N_iald (x := (scr.getD (i + 1) 0)) d_W_law_1535 rfl (by omega) (by rw [h01]; omega) (by rw [h01]) ?_
  refine M_callVO (av := [.int (scr.getD (i + 1) 0)]) d_W_law_1536 s_W_202 (M_rcv rfl (by decide) rfl) (N_R_ledger hX1 hR1 hw) (by decide) rfl rfl (Nat.le_of_ble_eq_true rfl) (fun r2 Y2 hq2 e2 => ?_)
  obtain ⟨rfl, hX2, hR2, hs2⟩ := hq2
  have hC2 := CI_c hs2 hC1
  refine J_icmp_eq (tgt := 1593) d_W_law_1539 (by decide) (fun c1539 => ?_) (fun c1539 => absurd c1539 (fun z => z rfl))
  exact kx Y2 _ ⟨hX2, hC2, hR2, hw, e2.trans h01⟩

theorem lw_image {scr : List Int32} {X : Mem} {s : Sg} {i : Nat} {Q : Option Value → Mem → Prop} (hi : i + 6 ≤ scr.length) (hl : scr.length ≤ 3072) (h : LwS scr X s) (kx : ∀ Y s', LwS scr Y s' → JM 75 m_W_law Q 1593 [some (.ref 0), some (.ref 8), some (.ref 244), some (.int (nI i))] [] Y) : JM 75 m_W_law Q 1544 [some (.ref 0), some (.ref 8), some (.ref 244), some (.int (nI i))] [] X := by
  obtain ⟨hX, hC, hR, hw, h0⟩ := h
  refine J_aload_n (i := 1) d_W_law_1544 rfl rfl ?_
  refine M_callVO (av := []) d_W_law_1545 s_W_203 (M_rcv rfl (by decide) rfl) (N_O_image hX hC hw) (by decide) rfl rfl (Nat.le_of_ble_eq_true rfl) (fun r1 Y1 hq1 e1 => ?_)
  obtain ⟨rfl, hX1, hC1, hs1⟩ := hq1
  have hR1 := RI_r hs1 hR
  have h01 : Y1.2.1 0 = scr := e1.trans h0
  refine J_aload_n (i := 2) d_W_law_1548 rfl rfl ?_
  refine M_callVO (av := []) d_W_law_1549 s_W_206 (M_rcv rfl (by decide) rfl) (N_R_image hX1 hR1 hw) (by decide) rfl rfl (Nat.le_of_ble_eq_true rfl) (fun r2 Y2 hq2 e2 => ?_)
  obtain ⟨rfl, hX2, hR2, hs2⟩ := hq2
  have hC2 := CI_c hs2 hC1
  refine J_icmp_eq (tgt := 1593) d_W_law_1552 (by decide) (fun c1552 => ?_) (fun c1552 => absurd c1552 (fun z => z rfl))
  exact kx Y2 _ ⟨hX2, hC2, hR2, WF_im hw, e2.trans h01⟩

theorem lw_back {scr : List Int32} {X : Mem} {s : Sg} {i : Nat} {Q : Option Value → Mem → Prop} (hi : i + 6 ≤ scr.length) (hl : scr.length ≤ 3072) (h : LwS scr X s) (kx : ∀ Y s', LwS scr Y s' → JM 75 m_W_law Q 1593 [some (.ref 0), some (.ref 8), some (.ref 244), some (.int (nI i))] [] Y) : JM 75 m_W_law Q 1557 [some (.ref 0), some (.ref 8), some (.ref 244), some (.int (nI i))] [] X := by
  obtain ⟨hX, hC, hR, hw, h0⟩ := h
  refine J_aload_n (i := 1) d_W_law_1557 rfl rfl ?_
  refine M_callVO (av := []) d_W_law_1558 s_W_207 (M_rcv rfl (by decide) rfl) (N_O_back hX hC hw) (by decide) rfl rfl (Nat.le_of_ble_eq_true rfl) (fun r1 Y1 hq1 e1 => ?_)
  obtain ⟨rfl, hX1, hC1, hs1⟩ := hq1
  have hR1 := RI_r hs1 hR
  have h01 : Y1.2.1 0 = scr := e1.trans h0
  refine J_aload_n (i := 2) d_W_law_1561 rfl rfl ?_
  refine M_callVO (av := []) d_W_law_1562 s_W_210 (M_rcv rfl (by decide) rfl) (N_R_back hX1 hR1 hw) (by decide) rfl rfl (Nat.le_of_ble_eq_true rfl) (fun r2 Y2 hq2 e2 => ?_)
  obtain ⟨rfl, hX2, hR2, hs2⟩ := hq2
  have hC2 := CI_c hs2 hC1
  refine J_icmp_eq (tgt := 1593) d_W_law_1565 (by decide) (fun c1565 => ?_) (fun c1565 => absurd c1565 (fun z => z rfl))
  exact kx Y2 _ ⟨hX2, hC2, hR2, WF_bk hw, e2.trans h01⟩

theorem lw_about {scr : List Int32} {X : Mem} {s : Sg} {i : Nat} {Q : Option Value → Mem → Prop} (hi : i + 6 ≤ scr.length) (hl : scr.length ≤ 3072) (h : LwS scr X s) (kx : ∀ Y s', LwS scr Y s' → JM 75 m_W_law Q 1593 [some (.ref 0), some (.ref 8), some (.ref 244), some (.int (nI i))] [] Y) : JM 75 m_W_law Q 1570 [some (.ref 0), some (.ref 8), some (.ref 244), some (.int (nI i))] [] X := by
  obtain ⟨hX, hC, hR, hw, h0⟩ := h
  refine J_aload_n (i := 1) d_W_law_1570 rfl rfl ?_
  refine J_aload_n (i := 0) d_W_law_1571 rfl rfl ?_
  refine J_iload_n (i := 3) d_W_law_1572 rfl rfl ?_
  refine J_iconst (v := nI 1) d_W_law_1573 rfl ?_
  refine N_iadd d_W_law_1574 ?_
  refine N_iald (x := (scr.getD (i + 1) 0)) d_W_law_1575 rfl (by omega) (by rw [h0]; omega) (by rw [h0]) ?_
  refine M_callVO (av := [.int (scr.getD (i + 1) 0)]) d_W_law_1576 s_W_211 (M_rcv rfl (by decide) rfl) (N_O_about hX hC hw) (by decide) rfl rfl (Nat.le_of_ble_eq_true rfl) (fun r1 Y1 hq1 e1 => ?_)
  obtain ⟨rfl, hX1, hC1, hs1⟩ := hq1
  have hR1 := RI_r hs1 hR
  have h01 : Y1.2.1 0 = scr := e1.trans h0
  refine J_aload_n (i := 2) d_W_law_1579 rfl rfl ?_
  refine J_aload_n (i := 0) d_W_law_1580 rfl rfl ?_
  refine J_iload_n (i := 3) d_W_law_1581 rfl rfl ?_
  refine J_iconst (v := nI 1) d_W_law_1582 rfl ?_
  refine N_iadd d_W_law_1583 ?_
  refine N_iald (x := (scr.getD (i + 1) 0)) d_W_law_1584 rfl (by omega) (by rw [h01]; omega) (by rw [h01]) ?_
  refine M_callVO (av := [.int (scr.getD (i + 1) 0)]) d_W_law_1585 s_W_214 (M_rcv rfl (by decide) rfl) (N_R_about hX1 hR1 hw) (by decide) rfl rfl (Nat.le_of_ble_eq_true rfl) (fun r2 Y2 hq2 e2 => ?_)
  obtain ⟨rfl, hX2, hR2, hs2⟩ := hq2
  have hC2 := CI_c hs2 hC1
  refine J_icmp_eq (tgt := 1593) d_W_law_1588 (by decide) (fun c1588 => ?_) (fun c1588 => absurd c1588 (fun z => z rfl))
  exact kx Y2 _ ⟨hX2, hC2, hR2, hw, e2.trans h01⟩

