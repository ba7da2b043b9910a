/-- the same texts -/
def sm_ (s s' : Sg) : Prop := s'.2 = s.2 ∧ s'.1 1 = s.1 1
theorem sm_0 (s : Sg) : sm_ s s := ⟨rfl, rfl⟩
theorem sm_t {a b c : Sg} (h1 : sm_ a b) (h2 : sm_ b c) : sm_ a c := ⟨h2.1.trans h1.1, h2.2.trans h1.2⟩
theorem sm_g (s : Sg) (g : Nat → Int32) : sm_ s (setg s g) := ⟨rfl, row_o s.1 g (j := 1) (by decide) (by decide) (by decide)⟩
theorem sm_k (s : Sg) : sm_ s (hkp s) := ⟨rfl, kp_o s.1 (j := 1) (by decide) (by decide)⟩
theorem sm_mark {s : Sg} {v : Int32} : sm_ s (markS s v) := by
  unfold markS
  split
  · rename_i h
    have hm : mOf s.1 < 8 := by
      rw [mkOk, Bool.and_eq_true] at h
      exact of_decide_eq_true h.2
    exact ⟨rfl, mkR_o s.1 v (j := 1) (by decide) (by decide) hm⟩
  · exact sm_0 s
theorem sm_ch {s : Sg} {m k : Int32} {b : Bool} : sm_ s (chO s m k b) := by
  unfold chO
  split
  · exact sm_t (sm_k s) (sm_g _ _)
  · exact sm_0 s
theorem sm_rn {s : Sg} {m : Int32} : sm_ s (rnO s m) := by
  unfold rnO
  split
  · split
    · exact sm_0 s
    · exact sm_t (sm_k s) (sm_g _ _)
  · exact sm_0 s
theorem sm_yrs (s : Sg) (k : Nat) : sm_ s (yrs s k).1 := itr_inv (f := fun _ => yI) (fun _ (p : Sg × Nat) => sm_ s p.1) (sm_0 s) (fun k p hp => by
  unfold yI
  split
  · exact sm_t hp (sm_t (sm_k _) (sm_g _ _))
  · exact hp) k
theorem sm_dn {vb : Nat} {F W : Int32} {s : Sg} : sm_ s (dnS vb F W s) := by
  unfold dnS
  split
  · exact sm_mark
  · split
    · exact sm_ch
    · split
      · exact sm_ch
      · split
        · exact sm_rn
        · exact sm_0 s
theorem sm_pl {vb : Nat} {F W : Int32} {s : Sg} : sm_ s (plS vb F W s) := by
  unfold plS
  split
  · exact sm_yrs _ _
  · exact sm_dn
theorem WF_pl {vb : Nat} {F W : Int32} {s : Sg} (hw : WFs s) : WFs (plS vb F W s) := by
  unfold plS
  split
  · exact (yrs_ok hw _).1
  · exact WF_dn hw
theorem pl_cong {vb : Nat} {F F' W W' : Int32} {s : Sg} (hF : 2 ≤ vb → F = F') (hW : vb = 3 ∨ vb = 4 → W = W') : plB vb F W s = plB vb F' W' s ∧ plS vb F W s = plS vb F' W' s := by
  by_cases h2 : 2 ≤ vb
  · rw [hF h2]
    by_cases h3 : vb = 3 ∨ vb = 4
    · rw [hW h3]; exact ⟨rfl, rfl⟩
    · unfold plB plS dnB dnS
      rw [if_neg (show ¬ vb = 3 by omega), if_neg (show ¬ vb = 4 by omega), if_neg (show ¬ vb = 3 by omega), if_neg (show ¬ vb = 4 by omega), if_neg (show ¬ vb = 3 by omega), if_neg (show ¬ vb = 4 by omega), if_neg (show ¬ vb = 3 by omega), if_neg (show ¬ vb = 4 by omega)]
      exact ⟨rfl, rfl⟩
  · unfold plB plS dnB dnS
    rw [if_neg (show ¬ vb = 6 by omega), if_neg (show ¬ vb = 2 by omega), if_neg (show ¬ vb = 3 by omega), if_neg (show ¬ vb = 4 by omega), if_neg (show ¬ vb = 5 by omega), if_neg (show ¬ vb = 6 by omega), if_neg (show ¬ vb = 2 by omega), if_neg (show ¬ vb = 3 by omega), if_neg (show ¬ vb = 4 by omega), if_neg (show ¬ vb = 5 by omega), if_neg (show ¬ vb = 6 by omega), if_neg (show ¬ vb = 2 by omega), if_neg (show ¬ vb = 3 by omega), if_neg (show ¬ vb = 4 by omega), if_neg (show ¬ vb = 5 by omega), if_neg (show ¬ vb = 6 by omega), if_neg (show ¬ vb = 2 by omega), if_neg (show ¬ vb = 3 by omega), if_neg (show ¬ vb = 4 by omega), if_neg (show ¬ vb = 5 by omega)]
    exact ⟨rfl, rfl⟩
def cB (x : TX) (i : Nat) (s : Sg) : Bool := plB (x.2.2.2.1 i) (nI (x.2.2.2.2.1 i)) (nI (x.2.2.2.2.2 i)) s
def cS (x : TX) (i : Nat) (s : Sg) : Sg := plS (x.2.2.2.1 i) (nI (x.2.2.2.2.1 i)) (nI (x.2.2.2.2.2 i)) s
/-- the rest of a text played: k clauses from i on -/
def plL (x : TX) : Nat → Nat → Sg → Sg × Int32
  | 0, _, s => (s, -1)
  | k + 1, i, s => if cB x i s then plL x k (i + 1) (cS x i s) else (cS x i s, nI i)
theorem WF_plL {x : TX} : ∀ {k i : Nat} {s : Sg}, WFs s → WFs (plL x k i s).1
  | 0, _, _, hw => hw
  | k + 1, i, s, hw => by
    unfold plL
    split
    · exact WF_plL (WF_pl hw)
    · exact WF_pl hw
def plC (s : Sg) (v : Int32) : Sg × Int32 := if mkB (tn (s.1 1)) v then plL (s.2.2.2.2.2.2 (tn v)) (s.2.2.2.2.2.2 (tn v)).2.2.1 0 s else (s, -2)
theorem WF_plC {s : Sg} {v : Int32} (hw : WFs s) : WFs (plC s v).1 := by
  unfold plC
  split
  · exact WF_plL hw
  · exact hw
theorem lp_O_played {X : Mem} {s : Sg} {t : Nat} {x : TX} {Q : Option Value → Mem → Prop} (hw : WFs s) (ht : t < tn (s.1 1)) (hx : s.2.2.2.2.2.2 t = x) : ∀ (k i : Nat) (Y : Mem) (p : Sg) (z4 z5 z6 : Option Value), i + k = x.2.2.1 → WFs p → pC X p Y → sm_ s p → (kq : ∀ Z, pC X (plL x k i p).1 Z → Q (some (.int (plL x k i p).2)) Z) → JM 7 m_O_played Q 20 [some (.ref 8), some (.int (nI t)), some (.ref (txT t)), some (.int (nI i)), z4, z5, z6] [] Y := by
  have w1 := (wf_1 hw.1 (j := 1) (n := 4) (by decide) (by decide) (by decide)).2
  have hok : okT x := by rw [← hx]; exact hw.2.2.2.2 t ht
  have tk := (rf_txt t (by omega)).2.2
  have tf := txt_f tk
  have h24 := hok.1
  intro k
  induction k with
  | zero =>
    intro i Y p z4 z5 z6 hi hwp hY hsm kq
    obtain ⟨cw, q1, q2, q3, q4, q5⟩ := hY.2.1.2.2.2.2 t (by rw [hsm.2]; exact ht) (by omega)
    rw [hsm.1, hx] at q2 q3 q4 q5
    refine J_iload_n (i := 3) d_O_played_20 rfl rfl ?_
    refine J_aload_n (i := 2) d_O_played_21 rfl rfl ?_
    refine M_get (x := (nI x.2.2.1)) d_O_played_22 f_O_119 tk rfl q4 ?_
    refine N_icmp_ge (tgt := 127) d_O_played_25 (by decide) (by omega) (by omega) (fun c25 => ?_) (fun c25 => absurd c25 (by omega))
    refine J_iconst (v := (-1)) d_O_played_127 rfl ?_
    refine M_ir d_O_played_128 rfl rfl ?_
    exact kq _ hY
  | succ k ih =>
    intro i Y p z4 z5 z6 hi hwp hY hsm kq
    obtain ⟨cw, q1, q2, q3, q4, q5⟩ := hY.2.1.2.2.2.2 t (by rw [hsm.2]; exact ht) (by omega)
    rw [hsm.1, hx] at q2 q3 q4 q5
    obtain ⟨hv0, hFx, hWx⟩ := q5 i (by omega)
    have hvb := (hok.2.1 i (by omega)).1
    have hF2' : x.2.2.2.1 i = 2 → inR (nI (x.2.2.2.2.1 i)) 1048575 = true := fun q => by
      have := (hok.2.1 i (by omega)).2.1 q
      rw [inR_nI (by omega) (by decide)]; exact decide_eq_true (by omega)
    generalize hF0 : (Y.2.1 (txT t + 3)).getD i 0 = F at *
    generalize hW0 : (Y.2.1 (txT t + 4)).getD i 0 = W at *
    have hF2 : x.2.2.2.1 i = 2 → inR F 1048575 = true := fun q => by rw [hFx (by omega)]; exact hF2' q
    refine J_iload_n (i := 3) d_O_played_20 rfl rfl ?_
    refine J_aload_n (i := 2) d_O_played_21 rfl rfl ?_
    refine M_get (x := (nI x.2.2.1)) d_O_played_22 f_O_119 tk rfl q4 ?_
    refine N_icmp_ge (tgt := 127) d_O_played_25 (by decide) (by omega) (by omega) (fun c25 => absurd c25 (by omega)) (fun c25 => ?_)
    refine J_aload_n (i := 2) d_O_played_28 rfl rfl ?_
    refine M_getR (b := (txT t + 3)) d_O_played_29 f_O_122 tk rfl tf.1.2.2.1 ?_
    refine J_iload_n (i := 3) d_O_played_32 rfl rfl ?_
    refine N_iald (x := F) d_O_played_33 tf.2.1.2.2.1 (by omega) (show i < _ by rw [hY.1.1 _ (by omega), tf.2.2.1.2.2.1]; omega) hF0 ?_
    refine J_istore (L1 := [some (.ref 8), some (.int (nI t)), some (.ref (txT t)), some (.int (nI i)), some (.int F), z5, z6]) d_O_played_34 (by decide) rfl ?_
    refine J_aload_n (i := 2) d_O_played_36 rfl rfl ?_
    refine M_getR (b := (txT t + 2)) d_O_played_37 f_O_125 tk rfl tf.1.2.1 ?_
    refine J_iload_n (i := 3) d_O_played_40 rfl rfl ?_
    refine N_iald (x := (nI (x.2.2.2.1 i))) d_O_played_41 tf.2.1.2.1 (by omega) (show i < _ by rw [hY.1.1 _ (by omega), tf.2.2.1.2.1]; omega) hv0 ?_
    refine J_bipush (v := nI 6) d_O_played_42 rfl ?_
    refine N_icmp_ne (tgt := 94) d_O_played_44 (by decide) (by omega) (by omega) (fun c44 => ?_) (fun c44 => ?_)
    · refine J_aload_n (i := 0) d_O_played_94 rfl rfl ?_
      refine J_aload_n (i := 2) d_O_played_95 rfl rfl ?_
      refine M_getR (b := (txT t + 2)) d_O_played_96 f_O_125 tk rfl tf.1.2.1 ?_
      refine J_iload_n (i := 3) d_O_played_99 rfl rfl ?_
      refine N_iald (x := (nI (x.2.2.2.1 i))) d_O_played_100 tf.2.1.2.1 (by omega) (show i < _ by rw [hY.1.1 _ (by omega), tf.2.2.1.2.1]; omega) hv0 ?_
      refine J_iload d_O_played_101 rfl ?_
      refine J_aload_n (i := 2) d_O_played_103 rfl rfl ?_
      refine M_getR (b := (txT t + 4)) d_O_played_104 f_O_128 tk rfl tf.1.2.2.2 ?_
      refine J_iload_n (i := 3) d_O_played_107 rfl rfl ?_
      refine N_iald (x := W) d_O_played_108 tf.2.1.2.2.2 (by omega) (show i < _ by rw [hY.1.1 _ (by omega), tf.2.2.1.2.2.2]; omega) hW0 ?_
      have hcg := pl_cong (s := p) (F := F) (W := W) (F' := nI (x.2.2.2.2.1 i)) (W' := nI (x.2.2.2.2.2 i)) hFx hWx
      refine M_callV (av := [.int (nI (x.2.2.2.1 i)), .int F, .int W]) d_O_played_109 s_O_131 (M_rcv rfl (by decide) rfl) (S_O_isDone (vb := x.2.2.2.1 i) hY.1 hY.2.1 hwp (by omega) hF2) (by decide) rfl rfl (Nat.le_of_ble_eq_true rfl) (fun q Z hq => ?_)
      obtain ⟨rfl, hpZ⟩ := hq
      have eB : dnB (x.2.2.2.1 i) F W p = cB x i p := by rw [cB, ← hcg.1, plB, if_neg c44]
      have eS : dnS (x.2.2.2.1 i) F W p = cS x i p := by rw [cS, ← hcg.2, plS, if_neg c44]
      rw [eB]
      rw [eS] at hpZ
      refine J_istore (L1 := [some (.ref 8), some (.int (nI t)), some (.ref (txT t)), some (.int (nI i)), some (.int F), some (.int (b2i (cB x i p))), z6]) d_O_played_112 (by decide) rfl ?_
      refine J_iload d_O_played_114 rfl ?_
      refine B_if_ne (tgt := 121) d_O_played_116 (by decide) (fun c116 => ?_) (fun c116 => ?_)
      · refine N_iinc (a := i) (c := 1) (L1 := [some (.ref 8), some (.int (nI t)), some (.ref (txT t)), some (.int (nI (i + 1))), some (.int F), some (.int (b2i (cB x i p))), z6]) d_O_played_121 rfl rfl (by decide) rfl ?_
        refine J_goto (tgt := 20) d_O_played_124 (by decide) ?_
        have eB : cB x i p = true := c116
        have e : plL x (k + 1) i p = plL x k (i + 1) (cS x i p) := if_pos eB
        rw [e] at kq
        exact ih (i + 1) Z (cS x i p) _ _ _ (by omega) (WF_pl hwp) (pC_t hY hpZ) (sm_t hsm sm_pl) kq
      · refine J_iload_n (i := 3) d_O_played_119 rfl rfl ?_
        refine M_ir d_O_played_120 rfl rfl ?_
        have eB : cB x i p = false := c116
        have e : plL x (k + 1) i p = (cS x i p, nI i) := if_neg (by rw [eB]; decide)
        rw [e] at kq
        exact kq _ (pC_t hY hpZ)
    · have hF6 : F = nI (x.2.2.2.2.1 i) := hFx (by omega)
      subst hF6
      have h60 := (hok.2.1 i (by omega)).2.2.2.2 c44
      have hy9 := (yrs_ok hwp (x.2.2.2.2.1 i)).2
      have w6 := (wf_1 hwp.1 (j := 6) (n := 9999) (by decide) (by decide) (by decide)).2
      refine J_aload_n (i := 0) d_O_played_47 rfl rfl ?_
      refine M_getR (b := 18) d_O_played_48 f_O_48 rfl rfl rfl ?_
      refine M_getR (b := 19) d_O_played_51 f_O_110 rfl rfl rfl ?_
      refine M_get (x := (nI (tn (p.1 6)))) d_O_played_54 f_O_113 rfl rfl (hY.2.1.1.1.2.2.1.trans (wf_1 hwp.1 (j := 6) (n := 9999) (by decide) (by decide) (by decide)).1) ?_
      refine J_istore (L1 := [some (.ref 8), some (.int (nI t)), some (.ref (txT t)), some (.int (nI i)), some (.int (nI (x.2.2.2.2.1 i))), (clr z5), some (.int (nI (tn (p.1 6))))]) d_O_played_57 (by decide) rfl ?_
      refine J_aload_n (i := 0) d_O_played_59 rfl rfl ?_
      refine J_iload d_O_played_60 rfl ?_
      refine M_callV (av := [.int (nI (x.2.2.2.2.1 i))]) d_O_played_62 s_O_116 (M_rcv rfl (by decide) rfl) (S_O_passYears hY.1 hY.2.1 hwp (by omega)) (by decide) rfl rfl (Nat.le_of_ble_eq_true rfl) (fun q Z hq => ?_)
      obtain ⟨rfl, hpZ⟩ := hq
      have hwz := (yrs_ok hwp (x.2.2.2.2.1 i)).1
      refine J_pop d_O_played_65 rfl ?_
      refine J_aload_n (i := 0) d_O_played_66 rfl rfl ?_
      refine M_getR (b := 18) d_O_played_67 f_O_48 rfl rfl rfl ?_
      refine M_getR (b := 19) d_O_played_70 f_O_110 rfl rfl rfl ?_
      refine M_get (x := (nI (tn ((yrs p (x.2.2.2.2.1 i)).1.1 6)))) d_O_played_73 f_O_113 rfl rfl (hpZ.2.1.1.1.2.2.1.trans (wf_1 hwz.1 (j := 6) (n := 9999) (by decide) (by decide) (by decide)).1) ?_
      refine J_iload d_O_played_76 rfl ?_
      refine J_iload d_O_played_78 rfl ?_
      refine N_iadd d_O_played_80 ?_
      refine N_icmp_ne (tgt := 88) d_O_played_81 (by decide) (by omega) (by omega) (fun c81 => ?_) (fun c81 => ?_)
      · refine J_iconst (v := nI 0) d_O_played_88 rfl ?_
        refine J_istore (L1 := [some (.ref 8), some (.int (nI t)), some (.ref (txT t)), some (.int (nI i)), some (.int (nI (x.2.2.2.2.1 i))), some (.int (nI 0)), some (.int (nI (tn (p.1 6))))]) d_O_played_89 (by decide) rfl ?_
        refine J_goto (tgt := 114) d_O_played_91 (by decide) ?_
        refine J_iload d_O_played_114 rfl ?_
        refine N_if_ne (tgt := 121) d_O_played_116 (by decide) (by omega) (fun c116 => absurd c116 (by decide)) (fun c116 => ?_)
        refine J_iload_n (i := 3) d_O_played_119 rfl rfl ?_
        refine M_ir d_O_played_120 rfl rfl ?_
        have eB : cB x i p = false := by rw [cB, plB, if_pos c44, tn_nI (by omega)]; exact decide_eq_false (by omega)
        have eS : cS x i p = (yrs p (x.2.2.2.2.1 i)).1 := by rw [cS, plS, if_pos c44, tn_nI (by omega)]
        rw [← eS] at hpZ
        have e : plL x (k + 1) i p = (cS x i p, nI i) := if_neg (by rw [eB]; decide)
        rw [e] at kq
        exact kq _ (pC_t hY hpZ)
      · refine J_iconst (v := nI 1) d_O_played_84 rfl ?_
        refine J_goto (tgt := 89) d_O_played_85 (by decide) ?_
        refine J_istore (L1 := [some (.ref 8), some (.int (nI t)), some (.ref (txT t)), some (.int (nI i)), some (.int (nI (x.2.2.2.2.1 i))), some (.int (nI 1)), some (.int (nI (tn (p.1 6))))]) d_O_played_89 (by decide) rfl ?_
        refine J_goto (tgt := 114) d_O_played_91 (by decide) ?_
        refine J_iload d_O_played_114 rfl ?_
        refine N_if_ne (tgt := 121) d_O_played_116 (by decide) (by omega) (fun c116 => ?_) (fun c116 => absurd c116 (by decide))
        refine N_iinc (a := i) (c := 1) (L1 := [some (.ref 8), some (.int (nI t)), some (.ref (txT t)), some (.int (nI (i + 1))), some (.int (nI (x.2.2.2.2.1 i))), some (.int (nI 1)), some (.int (nI (tn (p.1 6))))]) d_O_played_121 rfl rfl (by decide) rfl ?_
        refine J_goto (tgt := 20) d_O_played_124 (by decide) ?_
        have eB : cB x i p = true := by rw [cB, plB, if_pos c44, tn_nI (by omega)]; exact decide_eq_true (by omega)
        have eS : cS x i p = (yrs p (x.2.2.2.2.1 i)).1 := by rw [cS, plS, if_pos c44, tn_nI (by omega)]
        rw [← eS] at hpZ
        have e : plL x (k + 1) i p = plL x k (i + 1) (cS x i p) := if_pos eB
        rw [e] at kq
        exact ih (i + 1) Z (cS x i p) _ _ _ (by omega) (WF_pl hwp) (pC_t hY hpZ) (sm_t hsm sm_pl) kq
theorem S_O_played {X : Mem} {s : Sg} {v : Int32} (hX : Ok X) (hC : CI X s) (hw : WFs s) : CM 7 m_O_played [.ref 8, .int v] X (fun q Y => q = some (.int (plC s v).2) ∧ pC X (plC s v).1 Y) := by
  refine CM_of (L := [some (.ref 8), some (.int v), none, none, none, none, none]) 5 ok_O_played (fun _ => Nat.le_of_ble_eq_true rfl) rfl ?_
  refine J_aload_n (i := 0) d_O_played_0 rfl rfl ?_
  refine J_iload_n (i := 1) d_O_played_1 rfl rfl ?_
  refine CV_B (av := [.int v]) d_O_played_2 s_O_97 (M_rcv rfl (by decide) rfl) (S_O_isText (v_CTx hC hw)) (by decide) rfl rfl (Nat.le_of_ble_eq_true rfl) ?_
  refine B_if_ne (tgt := 11) d_O_played_5 (by decide) (fun c5 => ?_) (fun c5 => ?_)
  · have w1 := (wf_1 hw.1 (j := 1) (n := 4) (by decide) (by decide) (by decide)).2
    obtain ⟨t, ht, rfl⟩ := mk_n (show tn (s.1 1) ≤ 8 by omega) c5
    have tv := tn_nI (show t < 2147483648 by omega)
    refine J_aload_n (i := 0) d_O_played_11 rfl rfl ?_
    refine M_getR (b := 10) d_O_played_12 f_O_25 rfl rfl rfl ?_
    refine J_iload_n (i := 1) d_O_played_15 rfl rfl ?_
    refine N_aald (b := (txT t)) (t := 35) d_O_played_16 rfl (by decide) (by omega) (rf_txt t (by omega)).2.1 (rf_txt t (by omega)).1 ?_
    refine J_astore_n (i := 2) (L1 := [some (.ref 8), some (.int (nI t)), some (.ref (txT t)), none, none, none, none]) d_O_played_17 rfl (by decide) rfl ?_
    refine J_iconst (v := nI 0) d_O_played_18 rfl ?_
    refine J_istore_n (i := 3) (L1 := [some (.ref 8), some (.int (nI t)), some (.ref (txT t)), some (.int (nI 0)), none, none, none]) d_O_played_19 rfl (by decide) rfl ?_
    have e : plC s (nI t) = plL (s.2.2.2.2.2.2 t) (s.2.2.2.2.2.2 t).2.2.1 0 s := by rw [plC, if_pos c5, tv]
    rw [e]
    exact lp_O_played hw ht rfl _ 0 X s _ _ _ (by omega) hw (pC_0 hX hC) (sm_0 s) (fun Z hZ => ⟨rfl, hZ⟩)
  · refine J_bipush (v := (-2)) d_O_played_8 rfl ?_
    refine M_ir d_O_played_10 rfl rfl ?_
    have e : plC s v = (s, -2) := by rw [plC, c5]; rfl
    exact ⟨by rw [e], by rw [e]; exact pC_0 hX hC⟩

theorem lp_R_played {X : Mem} {s : Sg} {t : Nat} {x : TX} {Q : Option Value → Mem → Prop} (hw : WFs s) (ht : t < tn (s.1 1)) (hx : s.2.2.2.2.2.2 t = x) : ∀ (k i : Nat) (Y : Mem) (p : Sg), i + k = x.2.2.1 → WFs p → pR X p Y → sm_ s p → (kq : ∀ Z, pR X (plL x k i p).1 Z → Q (some (.int (plL x k i p).2)) Z) → JM 9 m_R_played Q 21 [some (.ref 244), some (.int (nI t)), some (.int (nI i))] [] Y := by
  have w1 := (wf_1 hw.1 (j := 1) (n := 4) (by decide) (by decide) (by decide)).2
  have hok : okT x := by rw [← hx]; exact hw.2.2.2.2 t ht
  have h24 := hok.1
  intro k
  induction k with
  | zero =>
    intro i Y p hi hwp hY hsm kq
    obtain ⟨oc, vc, q1, q2, q3, q4, q5⟩ := hY.2.1.2.2.2.2 t (by rw [hsm.2]; exact ht) (by omega)
    rw [hsm.1, hx] at q2 q3 q4 q5
    refine J_iload_n (i := 2) d_R_played_21 rfl rfl ?_
    refine J_aload_n (i := 0) d_R_played_22 rfl rfl ?_
    refine M_getR (b := 251) d_R_played_23 f_R_28 rfl rfl rfl ?_
    refine J_sipush (v := nI 681) d_R_played_26 rfl ?_
    refine J_iload_n (i := 1) d_R_played_29 rfl rfl ?_
    refine N_imul d_R_played_30 ?_
    refine N_iald (x := (nI x.2.2.1)) d_R_played_31 rfl (by omega) (ltL hY.1 (a := 251) (n := 2724) (by decide) rfl (by omega)) (by rw [show 681 * t = 681 * t from rfl]; exact q2.2.2.1) ?_
    refine N_icmp_ge (tgt := 61) d_R_played_32 (by decide) (by omega) (by omega) (fun c32 => ?_) (fun c32 => absurd c32 (by omega))
    refine J_iconst (v := (-1)) d_R_played_61 rfl ?_
    refine M_ir d_R_played_62 rfl rfl ?_
    exact kq _ hY
  | succ k ih =>
    intro i Y p hi hwp hY hsm kq
    obtain ⟨oc, vc, q1, q2, q3, q4, q5⟩ := hY.2.1.2.2.2.2 t (by rw [hsm.2]; exact ht) (by omega)
    rw [hsm.1, hx] at q2 q3 q4 q5
    obtain ⟨hv0, hvb⟩ := q2.2.2.2 i (by omega)
    obtain ⟨hFx, hWx⟩ := q5 i (by omega)
    have hF2' : x.2.2.2.1 i = 2 → inR (nI (x.2.2.2.2.1 i)) 1048575 = true := fun q => by
      have := (hok.2.1 i (by omega)).2.1 q
      rw [inR_nI (by omega) (by decide)]; exact decide_eq_true (by omega)
    generalize hF0 : (Y.2.1 251).getD (681 * t + 1 + 3 * i + 1) 0 = F at *
    generalize hW0 : (Y.2.1 251).getD (681 * t + 1 + 3 * i + 2) 0 = W at *
    have hF2 : x.2.2.2.1 i = 2 → inR F 1048575 = true := fun q => by rw [hFx (by omega)]; exact hF2' q
    have hY6 : x.2.2.2.1 i = 6 → ∃ f, f ≤ 60 ∧ F = nI f := fun q => ⟨_, ((hok.2.1 i (by omega)).2.2.2.2 q).2, hFx (by omega)⟩
    refine J_iload_n (i := 2) d_R_played_21 rfl rfl ?_
    refine J_aload_n (i := 0) d_R_played_22 rfl rfl ?_
    refine M_getR (b := 251) d_R_played_23 f_R_28 rfl rfl rfl ?_
    refine J_sipush (v := nI 681) d_R_played_26 rfl ?_
    refine J_iload_n (i := 1) d_R_played_29 rfl rfl ?_
    refine N_imul d_R_played_30 ?_
    refine N_iald (x := (nI x.2.2.1)) d_R_played_31 rfl (by omega) (ltL hY.1 (a := 251) (n := 2724) (by decide) rfl (by omega)) (by rw [show 681 * t = 681 * t from rfl]; exact q2.2.2.1) ?_
    refine N_icmp_ge (tgt := 61) d_R_played_32 (by decide) (by omega) (by omega) (fun c32 => absurd c32 (by omega)) (fun c32 => ?_)
    refine J_aload_n (i := 0) d_R_played_35 rfl rfl ?_
    refine J_sipush (v := nI 681) d_R_played_36 rfl ?_
    refine J_iload_n (i := 1) d_R_played_39 rfl rfl ?_
    refine N_imul d_R_played_40 ?_
    refine J_iconst (v := nI 1) d_R_played_41 rfl ?_
    refine N_iadd d_R_played_42 ?_
    refine J_iconst (v := nI 3) d_R_played_43 rfl ?_
    refine J_iload_n (i := 2) d_R_played_44 rfl rfl ?_
    refine N_imul d_R_played_45 ?_
    refine N_iadd d_R_played_46 ?_
    have hcg := pl_cong (s := p) (F := F) (W := W) (F' := nI (x.2.2.2.2.1 i)) (W' := nI (x.2.2.2.2.2 i)) hFx hWx
    refine M_callV (av := [.int (nI (681 * t + 1 + 3 * i))]) d_R_played_47 s_R_440 (M_rcv rfl (by decide) rfl) (S_R_isPlayed (vb := x.2.2.2.1 i) hY.1 hY.2.1 hwp (by omega) hF2 hY6 (by omega) hv0 hF0 hW0) (by decide) rfl rfl (Nat.le_of_ble_eq_true rfl) (fun q Z hq => ?_)
    obtain ⟨rfl, hpZ⟩ := hq
    have eB : plB (x.2.2.2.1 i) F W p = cB x i p := hcg.1
    have eS : plS (x.2.2.2.1 i) F W p = cS x i p := hcg.2
    rw [eB]
    rw [eS] at hpZ
    refine B_if_ne (tgt := 55) d_R_played_50 (by decide) (fun c50 => ?_) (fun c50 => ?_)
    · refine N_iinc (a := i) (c := 1) (L1 := [some (.ref 244), some (.int (nI t)), some (.int (nI (i + 1)))]) d_R_played_55 rfl rfl (by decide) rfl ?_
      refine J_goto (tgt := 21) d_R_played_58 (by decide) ?_
      have e : plL x (k + 1) i p = plL x k (i + 1) (cS x i p) := if_pos c50
      rw [e] at kq
      exact ih (i + 1) Z (cS x i p) (by omega) (WF_pl hwp) (pR_t hY hpZ) (sm_t hsm sm_pl) kq
    · refine J_iload_n (i := 2) d_R_played_53 rfl rfl ?_
      refine M_ir d_R_played_54 rfl rfl ?_
      have e : plL x (k + 1) i p = (cS x i p, nI i) := if_neg (by rw [c50]; decide)
      rw [e] at kq
      exact kq _ (pR_t hY hpZ)
theorem S_R_played {X : Mem} {s : Sg} {v : Int32} (hX : Ok X) (hC : RI X s) (hw : WFs s) : CM 9 m_R_played [.ref 244, .int v] X (fun q Y => q = some (.int (plC s v).2) ∧ pR X (plC s v).1 Y) := by
  have w1 := (wf_1 hw.1 (j := 1) (n := 4) (by decide) (by decide) (by decide)).2
  refine CM_of (L := [some (.ref 244), some (.int v), none]) 1 ok_R_played (fun _ => Nat.le_of_ble_eq_true rfl) rfl ?_
  refine J_iload_n (i := 1) d_R_played_0 rfl rfl ?_
  refine J_iconst (v := nI 0) d_R_played_1 rfl ?_
  refine J_aload_n (i := 0) d_R_played_2 rfl rfl ?_
  refine M_getR (b := 245) d_R_played_3 f_R_7 rfl rfl rfl ?_
  refine J_iconst (v := nI 1) d_R_played_6 rfl ?_
  refine N_iald (x := (nI (tn (s.1 1)))) d_R_played_7 rfl (by omega) (ltL hX (a := 245) (n := 1217) (by decide) rfl (by omega)) ((ri_at hC (by decide)).trans (wf_1 hw.1 (j := 1) (n := 4) (by decide) (by decide) (by decide)).1) ?_
  refine J_iconst (v := nI 1) d_R_played_8 rfl ?_
  refine J_isub d_R_played_9 ?_
  refine CS_B (av := [.int v, .int (nI 0), .int (nI (tn (s.1 1)) - nI 1)]) d_R_played_10 s_R_89 (S_R_isIn) (by decide) rfl rfl (Nat.le_of_ble_eq_true rfl) ?_
  rw [mk_isIn (show tn (s.1 1) ≤ 8 by omega)]
  refine B_if_ne (tgt := 19) d_R_played_13 (by decide) (fun c13 => ?_) (fun c13 => ?_)
  · have w1 := (wf_1 hw.1 (j := 1) (n := 4) (by decide) (by decide) (by decide)).2
    obtain ⟨t, ht, rfl⟩ := mk_n (show tn (s.1 1) ≤ 8 by omega) c13
    have tv := tn_nI (show t < 2147483648 by omega)
    refine J_iconst (v := nI 0) d_R_played_19 rfl ?_
    refine J_istore_n (i := 2) (L1 := [some (.ref 244), some (.int (nI t)), some (.int (nI 0))]) d_R_played_20 rfl (by decide) rfl ?_
    have e : plC s (nI t) = plL (s.2.2.2.2.2.2 t) (s.2.2.2.2.2.2 t).2.2.1 0 s := by rw [plC, if_pos c13, tv]
    rw [e]
    exact lp_R_played hw ht rfl _ 0 X s (by omega) hw (pR_0 hX hC) (sm_0 s) (fun Z hZ => ⟨rfl, hZ⟩)
  · refine J_bipush (v := (-2)) d_R_played_16 rfl ?_
    refine M_ir d_R_played_18 rfl rfl ?_
    have e : plC s v = (s, -2) := by rw [plC, c13]; rfl
    exact ⟨by rw [e], by rw [e]; exact pR_0 hX hC⟩

