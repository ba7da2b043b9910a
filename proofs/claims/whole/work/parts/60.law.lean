/-- the code of a text of the reference -/
def TRw (X : Mem) (t : Nat) (oc vc : Nat → Nat) : Prop := t < 4 ∧ ∀ i, i < 300 → oc i < 64 → (X.2.1 251).getD (681 * t + 73 + 2 * i) 0 = nI (oc i) ∧ (X.2.1 251).getD (681 * t + 73 + 2 * i + 1) 0 = nI (vc i) ∧ oc i < 2147483648 ∧ vc i < 2147483648
theorem okRk {X : Mem} {l1 : List Int64} {l2 : List Int32} (h : Ok X) (h1 : l1.length = 330) (h2 : l2.length = 330) : Ok (rk2 X l1 l2) := okA (okL h (by rw [h1]; rfl)) rfl (by rw [h2]; exact (h.1 258 (by decide)).symm)
theorem rr_0 {X : Mem} {e : Env} {oc vc : Nat → Nat} {Q : Option Value → Mem → Prop} {t k x c i w to : Nat} {vs : List Int} {bs : List Bool} {l1 : List Int64} {l2 : List Int32} {z8 z9 : Option Value} (hX : Ok X) (hR : RE X e) (hN : NMv X e) (hO : okE e) (hT : TRw X t oc vc) (hk4 : k < 24) (hx : x = 681 * t + 1 + 3 * k) (hc : c = 681 * t + 73) (hto : (X.2.1 251).getD (x + 2) 0 = nI to) (hi : i < to) (hto3 : to ≤ 300) (hl1 : l1.length = 330) (hl2 : l2.length = 330) (hw : w ≤ 9999) (hk0 : oc i = 0) (hw0 : vc i = w) (hlv : (List.length vs) ≤ i) (hlb : (List.length bs) ≤ i) (hv : stkW vs l1) (hb : stkB bs l2) (kx : ∀ (l1 : List Int64) (l2 : List Int32) (z8 z9 : Option Value), l1.length = 330 → l2.length = 330 → stkW ((w : Int) :: vs) l1 → stkB bs l2 → JM 2 m_R_summedUp Q 38 [some (.ref 244), some (.int (nI t)), some (.int (nI k)), some (.int (nI x)), some (.int (nI c)), some (.int (nI (List.length ((w : Int) :: vs)))), some (.int (nI (List.length bs))), some (.int (nI (i + 1))), z8, z9] [] (rk2 X l1 l2)) : JM 2 m_R_summedUp Q 38 [some (.ref 244), some (.int (nI t)), some (.int (nI k)), some (.int (nI x)), some (.int (nI c)), some (.int (nI (List.length vs))), some (.int (nI (List.length bs))), some (.int (nI i)), z8, z9] [] (rk2 X l1 l2) := by
  have ht4 := hT.1
  have hm8 := hO.1
  have hoc := (hT.2 i (by omega) (by omega)).2.2.1
  have hvc := (hT.2 i (by omega) (by omega)).2.2.2
  have hX1 : Ok (rk2 X l1 l2) := okRk hX hl1 hl2
  refine J_iload d_R_summedUp_38 rfl ?_
  refine J_aload_n (i := 0) d_R_summedUp_40 rfl rfl ?_
  refine M_getR (b := 251) d_R_summedUp_41 f_R_28 rfl rfl rfl ?_
  refine J_iload_n (i := 3) d_R_summedUp_44 rfl rfl ?_
  refine J_iconst (v := nI 2) d_R_summedUp_45 rfl ?_
  refine N_iadd d_R_summedUp_46 ?_
  refine N_iald (x := (nI to)) d_R_summedUp_47 rfl (by omega) (ltL (okRk hX (by first | exact hl1 | (simp only [List.length_set]; exact hl1)) (by first | exact hl2 | (simp only [List.length_set]; exact hl2))) (a := 251) (n := 2724) (by decide) rfl (by omega)) hto ?_
  refine N_icmp_ge (tgt := 355) d_R_summedUp_48 (by decide) (by omega) (by omega) (fun c48 => absurd c48 (by omega)) (fun c48 => ?_)
  refine J_aload_n (i := 0) d_R_summedUp_51 rfl rfl ?_
  refine M_getR (b := 251) d_R_summedUp_52 f_R_28 rfl rfl rfl ?_
  refine J_iload d_R_summedUp_55 rfl ?_
  refine J_iconst (v := nI 2) d_R_summedUp_57 rfl ?_
  refine J_iload d_R_summedUp_58 rfl ?_
  refine N_imul d_R_summedUp_60 ?_
  refine N_iadd d_R_summedUp_61 ?_
  refine N_iald (x := (nI (oc i))) d_R_summedUp_62 rfl (by omega) (ltL (okRk hX (by first | exact hl1 | (simp only [List.length_set]; exact hl1)) (by first | exact hl2 | (simp only [List.length_set]; exact hl2))) (a := 251) (n := 2724) (by decide) rfl (by omega)) (by rw [hc]; exact (hT.2 i (by omega) (by omega)).1) ?_
  rw [hk0]
  refine J_istore (L1 := [some (.ref 244), some (.int (nI t)), some (.int (nI k)), some (.int (nI x)), some (.int (nI c)), some (.int (nI (List.length vs))), some (.int (nI (List.length bs))), some (.int (nI i)), some (.int (nI 0)), z9]) d_R_summedUp_63 (by decide) rfl ?_
  refine J_aload_n (i := 0) d_R_summedUp_65 rfl rfl ?_
  refine M_getR (b := 251) d_R_summedUp_66 f_R_28 rfl rfl rfl ?_
  refine J_iload d_R_summedUp_69 rfl ?_
  refine J_iconst (v := nI 2) d_R_summedUp_71 rfl ?_
  refine J_iload d_R_summedUp_72 rfl ?_
  refine N_imul d_R_summedUp_74 ?_
  refine N_iadd d_R_summedUp_75 ?_
  refine J_iconst (v := nI 1) d_R_summedUp_76 rfl ?_
  refine N_iadd d_R_summedUp_77 ?_
  refine N_iald (x := (nI (vc i))) d_R_summedUp_78 rfl (by omega) (ltL (okRk hX (by first | exact hl1 | (simp only [List.length_set]; exact hl1)) (by first | exact hl2 | (simp only [List.length_set]; exact hl2))) (a := 251) (n := 2724) (by decide) rfl (by omega)) (by rw [hc]; exact (hT.2 i (by omega) (by omega)).2.1) ?_
  rw [hw0]
  refine J_istore (L1 := [some (.ref 244), some (.int (nI t)), some (.int (nI k)), some (.int (nI x)), some (.int (nI c)), some (.int (nI (List.length vs))), some (.int (nI (List.length bs))), some (.int (nI i)), some (.int (nI 0)), some (.int (nI w))]) d_R_summedUp_79 (by decide) rfl ?_
  refine J_iload d_R_summedUp_81 rfl ?_
  refine J_iconst (v := nI 1) d_R_summedUp_83 rfl ?_
  refine N_icmp_gt (tgt := 119) d_R_summedUp_84 (by decide) (by omega) (by omega) (fun c84 => absurd c84 (by decide)) (fun c84 => ?_)
  refine J_aload_n (i := 0) d_R_summedUp_87 rfl rfl ?_
  refine M_getR (b := 257) d_R_summedUp_88 f_R_53 rfl rfl rfl ?_
  refine J_iload d_R_summedUp_91 rfl ?_
  refine J_iload d_R_summedUp_93 rfl ?_
  refine N_if_ne (tgt := 104) d_R_summedUp_95 (by decide) (by omega) (fun c95 => absurd c95 (by decide)) (fun c95 => ?_)
  refine J_iload d_R_summedUp_98 rfl ?_
  refine J_i2l d_R_summedUp_100 ?_
  refine J_goto (tgt := 112) d_R_summedUp_101 (by decide) ?_
  rw [nI_64 (v := w) (by omega)]
  refine N_last d_R_summedUp_112 rfl (by decide) (by omega) (ltLL (okRk hX (by first | exact hl1 | (simp only [List.length_set]; exact hl1)) (by first | exact hl2 | (simp only [List.length_set]; exact hl2))) (a := 257) (n := 330) rfl (by omega)) ?_
  rw [rk_L, show (rk2 X l1 l2).2.2.1 257 = l1 from rfl]
  refine N_iinc (a := (List.length vs)) (c := 1) (L1 := [some (.ref 244), some (.int (nI t)), some (.int (nI k)), some (.int (nI x)), some (.int (nI c)), some (.int (nI ((List.length vs) + 1))), some (.int (nI (List.length bs))), some (.int (nI i)), some (.int (nI 0)), some (.int (nI w))]) d_R_summedUp_113 rfl rfl (by decide) rfl ?_
  refine J_goto (tgt := 349) d_R_summedUp_116 (by decide) ?_
  refine N_iinc (a := i) (c := 1) (L1 := [some (.ref 244), some (.int (nI t)), some (.int (nI k)), some (.int (nI x)), some (.int (nI c)), some (.int (nI ((List.length vs) + 1))), some (.int (nI (List.length bs))), some (.int (nI (i + 1))), some (.int (nI 0)), some (.int (nI w))]) d_R_summedUp_349 rfl rfl (by decide) rfl ?_
  refine J_goto (tgt := 38) d_R_summedUp_352 (by decide) ?_
  exact kx _ _ _ _ (by first | exact hl1 | (simp only [List.length_set]; exact hl1)) (by first | exact hl2 | (simp only [List.length_set]; exact hl2)) (stw_push (by rw [hl1]; omega) hv) hb

theorem rr_1 {X : Mem} {e : Env} {oc vc : Nat → Nat} {Q : Option Value → Mem → Prop} {t k x c i w to : Nat} {vs : List Int} {bs : List Bool} {l1 : List Int64} {l2 : List Int32} {z8 z9 : Option Value} (hX : Ok X) (hR : RE X e) (hN : NMv X e) (hO : okE e) (hT : TRw X t oc vc) (hk4 : k < 24) (hx : x = 681 * t + 1 + 3 * k) (hc : c = 681 * t + 73) (hto : (X.2.1 251).getD (x + 2) 0 = nI to) (hi : i < to) (hto3 : to ≤ 300) (hl1 : l1.length = 330) (hl2 : l2.length = 330) (hw : w < 7) (hk0 : oc i = 1) (hw0 : vc i = w) (hlv : (List.length vs) ≤ i) (hlb : (List.length bs) ≤ i) (hv : stkW vs l1) (hb : stkB bs l2) (kx : ∀ (l1 : List Int64) (l2 : List Int32) (z8 z9 : Option Value), l1.length = 330 → l2.length = 330 → stkW (nmV e w :: vs) l1 → stkB bs l2 → JM 2 m_R_summedUp Q 38 [some (.ref 244), some (.int (nI t)), some (.int (nI k)), some (.int (nI x)), some (.int (nI c)), some (.int (nI (List.length (nmV e w :: vs)))), some (.int (nI (List.length bs))), some (.int (nI (i + 1))), z8, z9] [] (rk2 X l1 l2)) : JM 2 m_R_summedUp Q 38 [some (.ref 244), some (.int (nI t)), some (.int (nI k)), some (.int (nI x)), some (.int (nI c)), some (.int (nI (List.length vs))), some (.int (nI (List.length bs))), some (.int (nI i)), z8, z9] [] (rk2 X l1 l2) := by
  have ht4 := hT.1
  have hm8 := hO.1
  have hoc := (hT.2 i (by omega) (by omega)).2.2.1
  have hvc := (hT.2 i (by omega) (by omega)).2.2.2
  have hX1 : Ok (rk2 X l1 l2) := okRk hX hl1 hl2
  refine J_iload d_R_summedUp_38 rfl ?_
  refine J_aload_n (i := 0) d_R_summedUp_40 rfl rfl ?_
  refine M_getR (b := 251) d_R_summedUp_41 f_R_28 rfl rfl rfl ?_
  refine J_iload_n (i := 3) d_R_summedUp_44 rfl rfl ?_
  refine J_iconst (v := nI 2) d_R_summedUp_45 rfl ?_
  refine N_iadd d_R_summedUp_46 ?_
  refine N_iald (x := (nI to)) d_R_summedUp_47 rfl (by omega) (ltL (okRk hX (by first | exact hl1 | (simp only [List.length_set]; exact hl1)) (by first | exact hl2 | (simp only [List.length_set]; exact hl2))) (a := 251) (n := 2724) (by decide) rfl (by omega)) hto ?_
  refine N_icmp_ge (tgt := 355) d_R_summedUp_48 (by decide) (by omega) (by omega) (fun c48 => absurd c48 (by omega)) (fun c48 => ?_)
  refine J_aload_n (i := 0) d_R_summedUp_51 rfl rfl ?_
  refine M_getR (b := 251) d_R_summedUp_52 f_R_28 rfl rfl rfl ?_
  refine J_iload d_R_summedUp_55 rfl ?_
  refine J_iconst (v := nI 2) d_R_summedUp_57 rfl ?_
  refine J_iload d_R_summedUp_58 rfl ?_
  refine N_imul d_R_summedUp_60 ?_
  refine N_iadd d_R_summedUp_61 ?_
  refine N_iald (x := (nI (oc i))) d_R_summedUp_62 rfl (by omega) (ltL (okRk hX (by first | exact hl1 | (simp only [List.length_set]; exact hl1)) (by first | exact hl2 | (simp only [List.length_set]; exact hl2))) (a := 251) (n := 2724) (by decide) rfl (by omega)) (by rw [hc]; exact (hT.2 i (by omega) (by omega)).1) ?_
  rw [hk0]
  refine J_istore (L1 := [some (.ref 244), some (.int (nI t)), some (.int (nI k)), some (.int (nI x)), some (.int (nI c)), some (.int (nI (List.length vs))), some (.int (nI (List.length bs))), some (.int (nI i)), some (.int (nI 1)), z9]) d_R_summedUp_63 (by decide) rfl ?_
  refine J_aload_n (i := 0) d_R_summedUp_65 rfl rfl ?_
  refine M_getR (b := 251) d_R_summedUp_66 f_R_28 rfl rfl rfl ?_
  refine J_iload d_R_summedUp_69 rfl ?_
  refine J_iconst (v := nI 2) d_R_summedUp_71 rfl ?_
  refine J_iload d_R_summedUp_72 rfl ?_
  refine N_imul d_R_summedUp_74 ?_
  refine N_iadd d_R_summedUp_75 ?_
  refine J_iconst (v := nI 1) d_R_summedUp_76 rfl ?_
  refine N_iadd d_R_summedUp_77 ?_
  refine N_iald (x := (nI (vc i))) d_R_summedUp_78 rfl (by omega) (ltL (okRk hX (by first | exact hl1 | (simp only [List.length_set]; exact hl1)) (by first | exact hl2 | (simp only [List.length_set]; exact hl2))) (a := 251) (n := 2724) (by decide) rfl (by omega)) (by rw [hc]; exact (hT.2 i (by omega) (by omega)).2.1) ?_
  rw [hw0]
  refine J_istore (L1 := [some (.ref 244), some (.int (nI t)), some (.int (nI k)), some (.int (nI x)), some (.int (nI c)), some (.int (nI (List.length vs))), some (.int (nI (List.length bs))), some (.int (nI i)), some (.int (nI 1)), some (.int (nI w))]) d_R_summedUp_79 (by decide) rfl ?_
  refine J_iload d_R_summedUp_81 rfl ?_
  refine J_iconst (v := nI 1) d_R_summedUp_83 rfl ?_
  refine N_icmp_gt (tgt := 119) d_R_summedUp_84 (by decide) (by omega) (by omega) (fun c84 => absurd c84 (by decide)) (fun c84 => ?_)
  refine J_aload_n (i := 0) d_R_summedUp_87 rfl rfl ?_
  refine M_getR (b := 257) d_R_summedUp_88 f_R_53 rfl rfl rfl ?_
  refine J_iload d_R_summedUp_91 rfl ?_
  refine J_iload d_R_summedUp_93 rfl ?_
  refine N_if_ne (tgt := 104) d_R_summedUp_95 (by decide) (by omega) (fun c95 => ?_) (fun c95 => absurd c95 (by decide))
  refine J_aload_n (i := 0) d_R_summedUp_104 rfl rfl ?_
  refine M_getR (b := 256) d_R_summedUp_105 f_R_50 rfl rfl rfl ?_
  refine J_iload d_R_summedUp_108 rfl ?_
  refine N_iald (x := (jI (nmV e w))) d_R_summedUp_110 rfl (by omega) (ltL (okRk hX (by first | exact hl1 | (simp only [List.length_set]; exact hl1)) (by first | exact hl2 | (simp only [List.length_set]; exact hl2))) (a := 256) (n := 7) (by decide) rfl (by omega)) (hN w hw) ?_
  refine J_i2l d_R_summedUp_111 ?_
  rw [jI_64 (sm_I (nmV_sm (k := w) hO))]
  refine N_last d_R_summedUp_112 rfl (by decide) (by omega) (ltLL (okRk hX (by first | exact hl1 | (simp only [List.length_set]; exact hl1)) (by first | exact hl2 | (simp only [List.length_set]; exact hl2))) (a := 257) (n := 330) rfl (by omega)) ?_
  rw [rk_L, show (rk2 X l1 l2).2.2.1 257 = l1 from rfl]
  refine N_iinc (a := (List.length vs)) (c := 1) (L1 := [some (.ref 244), some (.int (nI t)), some (.int (nI k)), some (.int (nI x)), some (.int (nI c)), some (.int (nI ((List.length vs) + 1))), some (.int (nI (List.length bs))), some (.int (nI i)), some (.int (nI 1)), some (.int (nI w))]) d_R_summedUp_113 rfl rfl (by decide) rfl ?_
  refine J_goto (tgt := 349) d_R_summedUp_116 (by decide) ?_
  refine N_iinc (a := i) (c := 1) (L1 := [some (.ref 244), some (.int (nI t)), some (.int (nI k)), some (.int (nI x)), some (.int (nI c)), some (.int (nI ((List.length vs) + 1))), some (.int (nI (List.length bs))), some (.int (nI (i + 1))), some (.int (nI 1)), some (.int (nI w))]) d_R_summedUp_349 rfl rfl (by decide) rfl ?_
  refine J_goto (tgt := 38) d_R_summedUp_352 (by decide) ?_
  exact kx _ _ _ _ (by first | exact hl1 | (simp only [List.length_set]; exact hl1)) (by first | exact hl2 | (simp only [List.length_set]; exact hl2)) (stw_push (by rw [hl1]; omega) hv) hb

theorem rr_3t {X : Mem} {e : Env} {oc vc : Nat → Nat} {Q : Option Value → Mem → Prop} {t k x c i w to : Nat} {vs : List Int} {bs : List Bool} {l1 : List Int64} {l2 : List Int32} {z8 z9 : Option Value} (hX : Ok X) (hR : RE X e) (hN : NMv X e) (hO : okE e) (hT : TRw X t oc vc) (hk4 : k < 24) (hx : x = 681 * t + 1 + 3 * k) (hc : c = 681 * t + 73) (hto : (X.2.1 251).getD (x + 2) 0 = nI to) (hi : i < to) (hto3 : to ≤ 300) (hl1 : l1.length = 330) (hl2 : l2.length = 330) {a b : Int} {r : List Int} {u : List Bool} (hk0 : oc i = 3) (hlv : (List.length r + 1 + 1) ≤ i) (hlb : (List.length u + 1) ≤ i) (hv : stkW (b :: a :: r) l1) (hb : stkB (true :: u) l2) (kx : ∀ (l1 : List Int64) (l2 : List Int32) (z8 z9 : Option Value), l1.length = 330 → l2.length = 330 → stkW (a :: r) l1 → stkB u l2 → JM 2 m_R_summedUp Q 38 [some (.ref 244), some (.int (nI t)), some (.int (nI k)), some (.int (nI x)), some (.int (nI c)), some (.int (nI (List.length (a :: r)))), some (.int (nI (List.length u))), some (.int (nI (i + 1))), z8, z9] [] (rk2 X l1 l2)) : JM 2 m_R_summedUp Q 38 [some (.ref 244), some (.int (nI t)), some (.int (nI k)), some (.int (nI x)), some (.int (nI c)), some (.int (nI (List.length r + 1 + 1))), some (.int (nI (List.length u + 1))), some (.int (nI i)), z8, z9] [] (rk2 X l1 l2) := by
  have ht4 := hT.1
  have hm8 := hO.1
  have hoc := (hT.2 i (by omega) (by omega)).2.2.1
  have hvc := (hT.2 i (by omega) (by omega)).2.2.2
  have hX1 : Ok (rk2 X l1 l2) := okRk hX hl1 hl2
  refine J_iload d_R_summedUp_38 rfl ?_
  refine J_aload_n (i := 0) d_R_summedUp_40 rfl rfl ?_
  refine M_getR (b := 251) d_R_summedUp_41 f_R_28 rfl rfl rfl ?_
  refine J_iload_n (i := 3) d_R_summedUp_44 rfl rfl ?_
  refine J_iconst (v := nI 2) d_R_summedUp_45 rfl ?_
  refine N_iadd d_R_summedUp_46 ?_
  refine N_iald (x := (nI to)) d_R_summedUp_47 rfl (by omega) (ltL (okRk hX (by first | exact hl1 | (simp only [List.length_set]; exact hl1)) (by first | exact hl2 | (simp only [List.length_set]; exact hl2))) (a := 251) (n := 2724) (by decide) rfl (by omega)) hto ?_
  refine N_icmp_ge (tgt := 355) d_R_summedUp_48 (by decide) (by omega) (by omega) (fun c48 => absurd c48 (by omega)) (fun c48 => ?_)
  refine J_aload_n (i := 0) d_R_summedUp_51 rfl rfl ?_
  refine M_getR (b := 251) d_R_summedUp_52 f_R_28 rfl rfl rfl ?_
  refine J_iload d_R_summedUp_55 rfl ?_
  refine J_iconst (v := nI 2) d_R_summedUp_57 rfl ?_
  refine J_iload d_R_summedUp_58 rfl ?_
  refine N_imul d_R_summedUp_60 ?_
  refine N_iadd d_R_summedUp_61 ?_
  refine N_iald (x := (nI (oc i))) d_R_summedUp_62 rfl (by omega) (ltL (okRk hX (by first | exact hl1 | (simp only [List.length_set]; exact hl1)) (by first | exact hl2 | (simp only [List.length_set]; exact hl2))) (a := 251) (n := 2724) (by decide) rfl (by omega)) (by rw [hc]; exact (hT.2 i (by omega) (by omega)).1) ?_
  rw [hk0]
  refine J_istore (L1 := [some (.ref 244), some (.int (nI t)), some (.int (nI k)), some (.int (nI x)), some (.int (nI c)), some (.int (nI (List.length r + 1 + 1))), some (.int (nI (List.length u + 1))), some (.int (nI i)), some (.int (nI 3)), z9]) d_R_summedUp_63 (by decide) rfl ?_
  refine J_aload_n (i := 0) d_R_summedUp_65 rfl rfl ?_
  refine M_getR (b := 251) d_R_summedUp_66 f_R_28 rfl rfl rfl ?_
  refine J_iload d_R_summedUp_69 rfl ?_
  refine J_iconst (v := nI 2) d_R_summedUp_71 rfl ?_
  refine J_iload d_R_summedUp_72 rfl ?_
  refine N_imul d_R_summedUp_74 ?_
  refine N_iadd d_R_summedUp_75 ?_
  refine J_iconst (v := nI 1) d_R_summedUp_76 rfl ?_
  refine N_iadd d_R_summedUp_77 ?_
  refine N_iald (x := (nI (vc i))) d_R_summedUp_78 rfl (by omega) (ltL (okRk hX (by first | exact hl1 | (simp only [List.length_set]; exact hl1)) (by first | exact hl2 | (simp only [List.length_set]; exact hl2))) (a := 251) (n := 2724) (by decide) rfl (by omega)) (by rw [hc]; exact (hT.2 i (by omega) (by omega)).2.1) ?_
  refine J_istore (L1 := [some (.ref 244), some (.int (nI t)), some (.int (nI k)), some (.int (nI x)), some (.int (nI c)), some (.int (nI (List.length r + 1 + 1))), some (.int (nI (List.length u + 1))), some (.int (nI i)), some (.int (nI 3)), some (.int (nI (vc i)))]) d_R_summedUp_79 (by decide) rfl ?_
  refine J_iload d_R_summedUp_81 rfl ?_
  refine J_iconst (v := nI 1) d_R_summedUp_83 rfl ?_
  refine N_icmp_gt (tgt := 119) d_R_summedUp_84 (by decide) (by omega) (by omega) (fun c84 => ?_) (fun c84 => absurd c84 (by decide))
  refine J_iload d_R_summedUp_119 rfl ?_
  refine J_iconst (v := nI 3) d_R_summedUp_121 rfl ?_
  refine N_icmp_ne (tgt := 160) d_R_summedUp_122 (by decide) (by omega) (by omega) (fun c122 => absurd c122 (by decide)) (fun c122 => ?_)
  refine J_iinc (v := ((nI (List.length r + 1 + 1)) + (-1))) (L1 := [some (.ref 244), some (.int (nI t)), some (.int (nI k)), some (.int (nI x)), some (.int (nI c)), some (.int ((nI (List.length r + 1 + 1)) + (-1))), some (.int (nI (List.length u + 1))), some (.int (nI i)), some (.int (nI 3)), some (.int (nI (vc i)))]) d_R_summedUp_125 rfl rfl (by decide) rfl ?_
  rw [nI_dec]
  refine J_iinc (v := ((nI (List.length u + 1)) + (-1))) (L1 := [some (.ref 244), some (.int (nI t)), some (.int (nI k)), some (.int (nI x)), some (.int (nI c)), some (.int (nI (List.length r + 1))), some (.int ((nI (List.length u + 1)) + (-1))), some (.int (nI i)), some (.int (nI 3)), some (.int (nI (vc i)))]) d_R_summedUp_128 rfl rfl (by decide) rfl ?_
  rw [nI_dec]
  refine J_aload_n (i := 0) d_R_summedUp_131 rfl rfl ?_
  refine M_getR (b := 258) d_R_summedUp_132 f_R_57 rfl rfl rfl ?_
  refine J_iload d_R_summedUp_135 rfl ?_
  refine N_zald (x := (b2i true)) d_R_summedUp_137 rfl (by omega) (ltL (okRk hX (by first | exact hl1 | (simp only [List.length_set]; exact hl1)) (by first | exact hl2 | (simp only [List.length_set]; exact hl2))) (a := 258) (n := 330) (by decide) rfl (by omega)) (show l2.getD (List.length u) 0 = b2i true from hb.1) ?_
  refine B_if_ne (tgt := 349) d_R_summedUp_138 (by decide) (fun c138 => ?_) (fun c138 => absurd c138 (by decide))
  refine N_iinc (a := i) (c := 1) (L1 := [some (.ref 244), some (.int (nI t)), some (.int (nI k)), some (.int (nI x)), some (.int (nI c)), some (.int (nI (List.length r + 1))), some (.int (nI (List.length u))), some (.int (nI (i + 1))), some (.int (nI 3)), some (.int (nI (vc i)))]) d_R_summedUp_349 rfl rfl (by decide) rfl ?_
  refine J_goto (tgt := 38) d_R_summedUp_352 (by decide) ?_
  exact kx _ _ _ _ hl1 hl2 hv.2 hb.2

theorem rr_3f {X : Mem} {e : Env} {oc vc : Nat → Nat} {Q : Option Value → Mem → Prop} {t k x c i w to : Nat} {vs : List Int} {bs : List Bool} {l1 : List Int64} {l2 : List Int32} {z8 z9 : Option Value} (hX : Ok X) (hR : RE X e) (hN : NMv X e) (hO : okE e) (hT : TRw X t oc vc) (hk4 : k < 24) (hx : x = 681 * t + 1 + 3 * k) (hc : c = 681 * t + 73) (hto : (X.2.1 251).getD (x + 2) 0 = nI to) (hi : i < to) (hto3 : to ≤ 300) (hl1 : l1.length = 330) (hl2 : l2.length = 330) {a b : Int} {r : List Int} {u : List Bool} (hk0 : oc i = 3) (hlv : (List.length r + 1 + 1) ≤ i) (hlb : (List.length u + 1) ≤ i) (hv : stkW (b :: a :: r) l1) (hb : stkB (false :: u) l2) (kx : ∀ (l1 : List Int64) (l2 : List Int32) (z8 z9 : Option Value), l1.length = 330 → l2.length = 330 → stkW (b :: r) l1 → stkB u l2 → JM 2 m_R_summedUp Q 38 [some (.ref 244), some (.int (nI t)), some (.int (nI k)), some (.int (nI x)), some (.int (nI c)), some (.int (nI (List.length (b :: r)))), some (.int (nI (List.length u))), some (.int (nI (i + 1))), z8, z9] [] (rk2 X l1 l2)) : JM 2 m_R_summedUp Q 38 [some (.ref 244), some (.int (nI t)), some (.int (nI k)), some (.int (nI x)), some (.int (nI c)), some (.int (nI (List.length r + 1 + 1))), some (.int (nI (List.length u + 1))), some (.int (nI i)), z8, z9] [] (rk2 X l1 l2) := by
  have ht4 := hT.1
  have hm8 := hO.1
  have hoc := (hT.2 i (by omega) (by omega)).2.2.1
  have hvc := (hT.2 i (by omega) (by omega)).2.2.2
  have hX1 : Ok (rk2 X l1 l2) := okRk hX hl1 hl2
  refine J_iload d_R_summedUp_38 rfl ?_
  refine J_aload_n (i := 0) d_R_summedUp_40 rfl rfl ?_
  refine M_getR (b := 251) d_R_summedUp_41 f_R_28 rfl rfl rfl ?_
  refine J_iload_n (i := 3) d_R_summedUp_44 rfl rfl ?_
  refine J_iconst (v := nI 2) d_R_summedUp_45 rfl ?_
  refine N_iadd d_R_summedUp_46 ?_
  refine N_iald (x := (nI to)) d_R_summedUp_47 rfl (by omega) (ltL (okRk hX (by first | exact hl1 | (simp only [List.length_set]; exact hl1)) (by first | exact hl2 | (simp only [List.length_set]; exact hl2))) (a := 251) (n := 2724) (by decide) rfl (by omega)) hto ?_
  refine N_icmp_ge (tgt := 355) d_R_summedUp_48 (by decide) (by omega) (by omega) (fun c48 => absurd c48 (by omega)) (fun c48 => ?_)
  refine J_aload_n (i := 0) d_R_summedUp_51 rfl rfl ?_
  refine M_getR (b := 251) d_R_summedUp_52 f_R_28 rfl rfl rfl ?_
  refine J_iload d_R_summedUp_55 rfl ?_
  refine J_iconst (v := nI 2) d_R_summedUp_57 rfl ?_
  refine J_iload d_R_summedUp_58 rfl ?_
  refine N_imul d_R_summedUp_60 ?_
  refine N_iadd d_R_summedUp_61 ?_
  refine N_iald (x := (nI (oc i))) d_R_summedUp_62 rfl (by omega) (ltL (okRk hX (by first | exact hl1 | (simp only [List.length_set]; exact hl1)) (by first | exact hl2 | (simp only [List.length_set]; exact hl2))) (a := 251) (n := 2724) (by decide) rfl (by omega)) (by rw [hc]; exact (hT.2 i (by omega) (by omega)).1) ?_
  rw [hk0]
  refine J_istore (L1 := [some (.ref 244), some (.int (nI t)), some (.int (nI k)), some (.int (nI x)), some (.int (nI c)), some (.int (nI (List.length r + 1 + 1))), some (.int (nI (List.length u + 1))), some (.int (nI i)), some (.int (nI 3)), z9]) d_R_summedUp_63 (by decide) rfl ?_
  refine J_aload_n (i := 0) d_R_summedUp_65 rfl rfl ?_
  refine M_getR (b := 251) d_R_summedUp_66 f_R_28 rfl rfl rfl ?_
  refine J_iload d_R_summedUp_69 rfl ?_
  refine J_iconst (v := nI 2) d_R_summedUp_71 rfl ?_
  refine J_iload d_R_summedUp_72 rfl ?_
  refine N_imul d_R_summedUp_74 ?_
  refine N_iadd d_R_summedUp_75 ?_
  refine J_iconst (v := nI 1) d_R_summedUp_76 rfl ?_
  refine N_iadd d_R_summedUp_77 ?_
  refine N_iald (x := (nI (vc i))) d_R_summedUp_78 rfl (by omega) (ltL (okRk hX (by first | exact hl1 | (simp only [List.length_set]; exact hl1)) (by first | exact hl2 | (simp only [List.length_set]; exact hl2))) (a := 251) (n := 2724) (by decide) rfl (by omega)) (by rw [hc]; exact (hT.2 i (by omega) (by omega)).2.1) ?_
  refine J_istore (L1 := [some (.ref 244), some (.int (nI t)), some (.int (nI k)), some (.int (nI x)), some (.int (nI c)), some (.int (nI (List.length r + 1 + 1))), some (.int (nI (List.length u + 1))), some (.int (nI i)), some (.int (nI 3)), some (.int (nI (vc i)))]) d_R_summedUp_79 (by decide) rfl ?_
  refine J_iload d_R_summedUp_81 rfl ?_
  refine J_iconst (v := nI 1) d_R_summedUp_83 rfl ?_
  refine N_icmp_gt (tgt := 119) d_R_summedUp_84 (by decide) (by omega) (by omega) (fun c84 => ?_) (fun c84 => absurd c84 (by decide))
  refine J_iload d_R_summedUp_119 rfl ?_
  refine J_iconst (v := nI 3) d_R_summedUp_121 rfl ?_
  refine N_icmp_ne (tgt := 160) d_R_summedUp_122 (by decide) (by omega) (by omega) (fun c122 => absurd c122 (by decide)) (fun c122 => ?_)
  refine J_iinc (v := ((nI (List.length r + 1 + 1)) + (-1))) (L1 := [some (.ref 244), some (.int (nI t)), some (.int (nI k)), some (.int (nI x)), some (.int (nI c)), some (.int ((nI (List.length r + 1 + 1)) + (-1))), some (.int (nI (List.length u + 1))), some (.int (nI i)), some (.int (nI 3)), some (.int (nI (vc i)))]) d_R_summedUp_125 rfl rfl (by decide) rfl ?_
  rw [nI_dec]
  refine J_iinc (v := ((nI (List.length u + 1)) + (-1))) (L1 := [some (.ref 244), some (.int (nI t)), some (.int (nI k)), some (.int (nI x)), some (.int (nI c)), some (.int (nI (List.length r + 1))), some (.int ((nI (List.length u + 1)) + (-1))), some (.int (nI i)), some (.int (nI 3)), some (.int (nI (vc i)))]) d_R_summedUp_128 rfl rfl (by decide) rfl ?_
  rw [nI_dec]
  refine J_aload_n (i := 0) d_R_summedUp_131 rfl rfl ?_
  refine M_getR (b := 258) d_R_summedUp_132 f_R_57 rfl rfl rfl ?_
  refine J_iload d_R_summedUp_135 rfl ?_
  refine N_zald (x := (b2i false)) d_R_summedUp_137 rfl (by omega) (ltL (okRk hX (by first | exact hl1 | (simp only [List.length_set]; exact hl1)) (by first | exact hl2 | (simp only [List.length_set]; exact hl2))) (a := 258) (n := 330) (by decide) rfl (by omega)) (show l2.getD (List.length u) 0 = b2i false from hb.1) ?_
  refine B_if_ne (tgt := 349) d_R_summedUp_138 (by decide) (fun c138 => absurd c138 (by decide)) (fun c138 => ?_)
  refine J_aload_n (i := 0) d_R_summedUp_141 rfl rfl ?_
  refine M_getR (b := 257) d_R_summedUp_142 f_R_53 rfl rfl rfl ?_
  refine J_iload d_R_summedUp_145 rfl ?_
  refine J_iconst (v := nI 1) d_R_summedUp_147 rfl ?_
  refine N_isub d_R_summedUp_148 (by omega) ?_
  rw [Nat.add_sub_cancel]
  refine J_aload_n (i := 0) d_R_summedUp_149 rfl rfl ?_
  refine M_getR (b := 257) d_R_summedUp_150 f_R_53 rfl rfl rfl ?_
  refine J_iload d_R_summedUp_153 rfl ?_
  refine N_lald (x := (lI b)) d_R_summedUp_155 rfl (by omega) (ltLL (okRk hX (by first | exact hl1 | (simp only [List.length_set]; exact hl1)) (by first | exact hl2 | (simp only [List.length_set]; exact hl2))) (a := 257) (n := 330) rfl (by omega)) (show l1.getD (List.length r + 1) 0 = lI b from hv.1) ?_
  refine N_last d_R_summedUp_156 rfl (by decide) (by omega) (ltLL (okRk hX (by first | exact hl1 | (simp only [List.length_set]; exact hl1)) (by first | exact hl2 | (simp only [List.length_set]; exact hl2))) (a := 257) (n := 330) rfl (by omega)) ?_
  rw [rk_L, show (rk2 X l1 l2).2.2.1 257 = l1 from rfl]
  refine J_goto (tgt := 349) d_R_summedUp_157 (by decide) ?_
  refine N_iinc (a := i) (c := 1) (L1 := [some (.ref 244), some (.int (nI t)), some (.int (nI k)), some (.int (nI x)), some (.int (nI c)), some (.int (nI (List.length r + 1))), some (.int (nI (List.length u))), some (.int (nI (i + 1))), some (.int (nI 3)), some (.int (nI (vc i)))]) d_R_summedUp_349 rfl rfl (by decide) rfl ?_
  refine J_goto (tgt := 38) d_R_summedUp_352 (by decide) ?_
  exact kx _ _ _ _ (by first | exact hl1 | (simp only [List.length_set]; exact hl1)) (by first | exact hl2 | (simp only [List.length_set]; exact hl2)) (stw_push (by rw [hl1]; omega) hv.2.2) hb.2

theorem rr_5 {X : Mem} {e : Env} {oc vc : Nat → Nat} {Q : Option Value → Mem → Prop} {t k x c i w to : Nat} {vs : List Int} {bs : List Bool} {l1 : List Int64} {l2 : List Int32} {z8 z9 : Option Value} (hX : Ok X) (hR : RE X e) (hN : NMv X e) (hO : okE e) (hT : TRw X t oc vc) (hk4 : k < 24) (hx : x = 681 * t + 1 + 3 * k) (hc : c = 681 * t + 73) (hto : (X.2.1 251).getD (x + 2) 0 = nI to) (hi : i < to) (hto3 : to ≤ 300) (hl1 : l1.length = 330) (hl2 : l2.length = 330) {y : Int} {r : List Int} (hy : sm y) (hk0 : oc i = 5) (hlv : (List.length r + 1) ≤ i) (hlb : (List.length bs) ≤ i) (hv : stkW (y :: r) l1) (hb : stkB bs l2) (kx : ∀ (l1 : List Int64) (l2 : List Int32) (z8 z9 : Option Value), l1.length = 330 → l2.length = 330 → stkW ((-y) :: r) l1 → stkB bs l2 → JM 2 m_R_summedUp Q 38 [some (.ref 244), some (.int (nI t)), some (.int (nI k)), some (.int (nI x)), some (.int (nI c)), some (.int (nI (List.length ((-y) :: r)))), some (.int (nI (List.length bs))), some (.int (nI (i + 1))), z8, z9] [] (rk2 X l1 l2)) : JM 2 m_R_summedUp Q 38 [some (.ref 244), some (.int (nI t)), some (.int (nI k)), some (.int (nI x)), some (.int (nI c)), some (.int (nI (List.length r + 1))), some (.int (nI (List.length bs))), some (.int (nI i)), z8, z9] [] (rk2 X l1 l2) := by
  have ht4 := hT.1
  have hm8 := hO.1
  have hoc := (hT.2 i (by omega) (by omega)).2.2.1
  have hvc := (hT.2 i (by omega) (by omega)).2.2.2
  have hX1 : Ok (rk2 X l1 l2) := okRk hX hl1 hl2
  refine J_iload d_R_summedUp_38 rfl ?_
  refine J_aload_n (i := 0) d_R_summedUp_40 rfl rfl ?_
  refine M_getR (b := 251) d_R_summedUp_41 f_R_28 rfl rfl rfl ?_
  refine J_iload_n (i := 3) d_R_summedUp_44 rfl rfl ?_
  refine J_iconst (v := nI 2) d_R_summedUp_45 rfl ?_
  refine N_iadd d_R_summedUp_46 ?_
  refine N_iald (x := (nI to)) d_R_summedUp_47 rfl (by omega) (ltL (okRk hX (by first | exact hl1 | (simp only [List.length_set]; exact hl1)) (by first | exact hl2 | (simp only [List.length_set]; exact hl2))) (a := 251) (n := 2724) (by decide) rfl (by omega)) hto ?_
  refine N_icmp_ge (tgt := 355) d_R_summedUp_48 (by decide) (by omega) (by omega) (fun c48 => absurd c48 (by omega)) (fun c48 => ?_)
  refine J_aload_n (i := 0) d_R_summedUp_51 rfl rfl ?_
  refine M_getR (b := 251) d_R_summedUp_52 f_R_28 rfl rfl rfl ?_
  refine J_iload d_R_summedUp_55 rfl ?_
  refine J_iconst (v := nI 2) d_R_summedUp_57 rfl ?_
  refine J_iload d_R_summedUp_58 rfl ?_
  refine N_imul d_R_summedUp_60 ?_
  refine N_iadd d_R_summedUp_61 ?_
  refine N_iald (x := (nI (oc i))) d_R_summedUp_62 rfl (by omega) (ltL (okRk hX (by first | exact hl1 | (simp only [List.length_set]; exact hl1)) (by first | exact hl2 | (simp only [List.length_set]; exact hl2))) (a := 251) (n := 2724) (by decide) rfl (by omega)) (by rw [hc]; exact (hT.2 i (by omega) (by omega)).1) ?_
  rw [hk0]
  refine J_istore (L1 := [some (.ref 244), some (.int (nI t)), some (.int (nI k)), some (.int (nI x)), some (.int (nI c)), some (.int (nI (List.length r + 1))), some (.int (nI (List.length bs))), some (.int (nI i)), some (.int (nI 5)), z9]) d_R_summedUp_63 (by decide) rfl ?_
  refine J_aload_n (i := 0) d_R_summedUp_65 rfl rfl ?_
  refine M_getR (b := 251) d_R_summedUp_66 f_R_28 rfl rfl rfl ?_
  refine J_iload d_R_summedUp_69 rfl ?_
  refine J_iconst (v := nI 2) d_R_summedUp_71 rfl ?_
  refine J_iload d_R_summedUp_72 rfl ?_
  refine N_imul d_R_summedUp_74 ?_
  refine N_iadd d_R_summedUp_75 ?_
  refine J_iconst (v := nI 1) d_R_summedUp_76 rfl ?_
  refine N_iadd d_R_summedUp_77 ?_
  refine N_iald (x := (nI (vc i))) d_R_summedUp_78 rfl (by omega) (ltL (okRk hX (by first | exact hl1 | (simp only [List.length_set]; exact hl1)) (by first | exact hl2 | (simp only [List.length_set]; exact hl2))) (a := 251) (n := 2724) (by decide) rfl (by omega)) (by rw [hc]; exact (hT.2 i (by omega) (by omega)).2.1) ?_
  refine J_istore (L1 := [some (.ref 244), some (.int (nI t)), some (.int (nI k)), some (.int (nI x)), some (.int (nI c)), some (.int (nI (List.length r + 1))), some (.int (nI (List.length bs))), some (.int (nI i)), some (.int (nI 5)), some (.int (nI (vc i)))]) d_R_summedUp_79 (by decide) rfl ?_
  refine J_iload d_R_summedUp_81 rfl ?_
  refine J_iconst (v := nI 1) d_R_summedUp_83 rfl ?_
  refine N_icmp_gt (tgt := 119) d_R_summedUp_84 (by decide) (by omega) (by omega) (fun c84 => ?_) (fun c84 => absurd c84 (by decide))
  refine J_iload d_R_summedUp_119 rfl ?_
  refine J_iconst (v := nI 3) d_R_summedUp_121 rfl ?_
  refine N_icmp_ne (tgt := 160) d_R_summedUp_122 (by decide) (by omega) (by omega) (fun c122 => ?_) (fun c122 => absurd c122 (by decide))
  refine J_iload d_R_summedUp_160 rfl ?_
  refine J_iconst (v := nI 5) d_R_summedUp_162 rfl ?_
  refine N_icmp_gt (tgt := 193) d_R_summedUp_163 (by decide) (by omega) (by omega) (fun c163 => absurd c163 (by decide)) (fun c163 => ?_)
  refine J_aload_n (i := 0) d_R_summedUp_166 rfl rfl ?_
  refine M_getR (b := 257) d_R_summedUp_167 f_R_53 rfl rfl rfl ?_
  refine J_iload d_R_summedUp_170 rfl ?_
  refine J_iconst (v := nI 1) d_R_summedUp_172 rfl ?_
  refine N_isub d_R_summedUp_173 (by omega) ?_
  rw [Nat.add_sub_cancel]
  refine J_aload_n (i := 0) d_R_summedUp_174 rfl rfl ?_
  refine J_iload d_R_summedUp_175 rfl ?_
  refine J_aload_n (i := 0) d_R_summedUp_177 rfl rfl ?_
  refine M_getR (b := 257) d_R_summedUp_178 f_R_53 rfl rfl rfl ?_
  refine J_iload d_R_summedUp_181 rfl ?_
  refine J_iconst (v := nI 1) d_R_summedUp_183 rfl ?_
  refine N_isub d_R_summedUp_184 (by omega) ?_
  rw [Nat.add_sub_cancel]
  refine N_lald (x := (lI y)) d_R_summedUp_185 rfl (by omega) (ltLL (okRk hX (by first | exact hl1 | (simp only [List.length_set]; exact hl1)) (by first | exact hl2 | (simp only [List.length_set]; exact hl2))) (a := 257) (n := 330) rfl (by omega)) (show l1.getD (List.length r) 0 = lI y from hv.1) ?_
  refine CV_L (av := [.int (nI 5), .long (lI y)]) d_R_summedUp_186 s_R_340 (M_rcv rfl (by decide) rfl) (S_R_ofOne_5) (by decide) rfl rfl (Nat.le_of_ble_eq_true rfl) ?_
  refine N_last d_R_summedUp_189 rfl (by decide) (by omega) (ltLL (okRk hX (by first | exact hl1 | (simp only [List.length_set]; exact hl1)) (by first | exact hl2 | (simp only [List.length_set]; exact hl2))) (a := 257) (n := 330) rfl (by omega)) ?_
  rw [rk_L, show (rk2 X l1 l2).2.2.1 257 = l1 from rfl]
  refine J_goto (tgt := 349) d_R_summedUp_190 (by decide) ?_
  refine N_iinc (a := i) (c := 1) (L1 := [some (.ref 244), some (.int (nI t)), some (.int (nI k)), some (.int (nI x)), some (.int (nI c)), some (.int (nI (List.length r + 1))), some (.int (nI (List.length bs))), some (.int (nI (i + 1))), some (.int (nI 5)), some (.int (nI (vc i)))]) d_R_summedUp_349 rfl rfl (by decide) rfl ?_
  refine J_goto (tgt := 38) d_R_summedUp_352 (by decide) ?_
  exact kx _ _ _ _ (by first | exact hl1 | (simp only [List.length_set]; exact hl1)) (by first | exact hl2 | (simp only [List.length_set]; exact hl2)) (stw_push (by rw [hl1]; omega) hv.2) hb

theorem rr_4 {X : Mem} {e : Env} {oc vc : Nat → Nat} {Q : Option Value → Mem → Prop} {t k x c i w to : Nat} {vs : List Int} {bs : List Bool} {l1 : List Int64} {l2 : List Int32} {z8 z9 : Option Value} (hX : Ok X) (hR : RE X e) (hN : NMv X e) (hO : okE e) (hT : TRw X t oc vc) (hk4 : k < 24) (hx : x = 681 * t + 1 + 3 * k) (hc : c = 681 * t + 73) (hto : (X.2.1 251).getD (x + 2) 0 = nI to) (hi : i < to) (hto3 : to ≤ 300) (hl1 : l1.length = 330) (hl2 : l2.length = 330) {y : Int} {r : List Int} (hy : sm y) (hk0 : oc i = 4) (hlv : (List.length r + 1) ≤ i) (hlb : (List.length bs) ≤ i) (hv : stkW (y :: r) l1) (hb : stkB bs l2) (kx : ∀ (l1 : List Int64) (l2 : List Int32) (z8 z9 : Option Value), l1.length = 330 → l2.length = 330 → stkW ((szV e y) :: r) l1 → stkB bs l2 → JM 2 m_R_summedUp Q 38 [some (.ref 244), some (.int (nI t)), some (.int (nI k)), some (.int (nI x)), some (.int (nI c)), some (.int (nI (List.length ((szV e y) :: r)))), some (.int (nI (List.length bs))), some (.int (nI (i + 1))), z8, z9] [] (rk2 X l1 l2)) : JM 2 m_R_summedUp Q 38 [some (.ref 244), some (.int (nI t)), some (.int (nI k)), some (.int (nI x)), some (.int (nI c)), some (.int (nI (List.length r + 1))), some (.int (nI (List.length bs))), some (.int (nI i)), z8, z9] [] (rk2 X l1 l2) := by
  have ht4 := hT.1
  have hm8 := hO.1
  have hoc := (hT.2 i (by omega) (by omega)).2.2.1
  have hvc := (hT.2 i (by omega) (by omega)).2.2.2
  have hX1 : Ok (rk2 X l1 l2) := okRk hX hl1 hl2
  refine J_iload d_R_summedUp_38 rfl ?_
  refine J_aload_n (i := 0) d_R_summedUp_40 rfl rfl ?_
  refine M_getR (b := 251) d_R_summedUp_41 f_R_28 rfl rfl rfl ?_
  refine J_iload_n (i := 3) d_R_summedUp_44 rfl rfl ?_
  refine J_iconst (v := nI 2) d_R_summedUp_45 rfl ?_
  refine N_iadd d_R_summedUp_46 ?_
  refine N_iald (x := (nI to)) d_R_summedUp_47 rfl (by omega) (ltL (okRk hX (by first | exact hl1 | (simp only [List.length_set]; exact hl1)) (by first | exact hl2 | (simp only [List.length_set]; exact hl2))) (a := 251) (n := 2724) (by decide) rfl (by omega)) hto ?_
  refine N_icmp_ge (tgt := 355) d_R_summedUp_48 (by decide) (by omega) (by omega) (fun c48 => absurd c48 (by omega)) (fun c48 => ?_)
  refine J_aload_n (i := 0) d_R_summedUp_51 rfl rfl ?_
  refine M_getR (b := 251) d_R_summedUp_52 f_R_28 rfl rfl rfl ?_
  refine J_iload d_R_summedUp_55 rfl ?_
  refine J_iconst (v := nI 2) d_R_summedUp_57 rfl ?_
  refine J_iload d_R_summedUp_58 rfl ?_
  refine N_imul d_R_summedUp_60 ?_
  refine N_iadd d_R_summedUp_61 ?_
  refine N_iald (x := (nI (oc i))) d_R_summedUp_62 rfl (by omega) (ltL (okRk hX (by first | exact hl1 | (simp only [List.length_set]; exact hl1)) (by first | exact hl2 | (simp only [List.length_set]; exact hl2))) (a := 251) (n := 2724) (by decide) rfl (by omega)) (by rw [hc]; exact (hT.2 i (by omega) (by omega)).1) ?_
  rw [hk0]
  refine J_istore (L1 := [some (.ref 244), some (.int (nI t)), some (.int (nI k)), some (.int (nI x)), some (.int (nI c)), some (.int (nI (List.length r + 1))), some (.int (nI (List.length bs))), some (.int (nI i)), some (.int (nI 4)), z9]) d_R_summedUp_63 (by decide) rfl ?_
  refine J_aload_n (i := 0) d_R_summedUp_65 rfl rfl ?_
  refine M_getR (b := 251) d_R_summedUp_66 f_R_28 rfl rfl rfl ?_
  refine J_iload d_R_summedUp_69 rfl ?_
  refine J_iconst (v := nI 2) d_R_summedUp_71 rfl ?_
  refine J_iload d_R_summedUp_72 rfl ?_
  refine N_imul d_R_summedUp_74 ?_
  refine N_iadd d_R_summedUp_75 ?_
  refine J_iconst (v := nI 1) d_R_summedUp_76 rfl ?_
  refine N_iadd d_R_summedUp_77 ?_
  refine N_iald (x := (nI (vc i))) d_R_summedUp_78 rfl (by omega) (ltL (okRk hX (by first | exact hl1 | (simp only [List.length_set]; exact hl1)) (by first | exact hl2 | (simp only [List.length_set]; exact hl2))) (a := 251) (n := 2724) (by decide) rfl (by omega)) (by rw [hc]; exact (hT.2 i (by omega) (by omega)).2.1) ?_
  refine J_istore (L1 := [some (.ref 244), some (.int (nI t)), some (.int (nI k)), some (.int (nI x)), some (.int (nI c)), some (.int (nI (List.length r + 1))), some (.int (nI (List.length bs))), some (.int (nI i)), some (.int (nI 4)), some (.int (nI (vc i)))]) d_R_summedUp_79 (by decide) rfl ?_
  refine J_iload d_R_summedUp_81 rfl ?_
  refine J_iconst (v := nI 1) d_R_summedUp_83 rfl ?_
  refine N_icmp_gt (tgt := 119) d_R_summedUp_84 (by decide) (by omega) (by omega) (fun c84 => ?_) (fun c84 => absurd c84 (by decide))
  refine J_iload d_R_summedUp_119 rfl ?_
  refine J_iconst (v := nI 3) d_R_summedUp_121 rfl ?_
  refine N_icmp_ne (tgt := 160) d_R_summedUp_122 (by decide) (by omega) (by omega) (fun c122 => ?_) (fun c122 => absurd c122 (by decide))
  refine J_iload d_R_summedUp_160 rfl ?_
  refine J_iconst (v := nI 5) d_R_summedUp_162 rfl ?_
  refine N_icmp_gt (tgt := 193) d_R_summedUp_163 (by decide) (by omega) (by omega) (fun c163 => absurd c163 (by decide)) (fun c163 => ?_)
  refine J_aload_n (i := 0) d_R_summedUp_166 rfl rfl ?_
  refine M_getR (b := 257) d_R_summedUp_167 f_R_53 rfl rfl rfl ?_
  refine J_iload d_R_summedUp_170 rfl ?_
  refine J_iconst (v := nI 1) d_R_summedUp_172 rfl ?_
  refine N_isub d_R_summedUp_173 (by omega) ?_
  rw [Nat.add_sub_cancel]
  refine J_aload_n (i := 0) d_R_summedUp_174 rfl rfl ?_
  refine J_iload d_R_summedUp_175 rfl ?_
  refine J_aload_n (i := 0) d_R_summedUp_177 rfl rfl ?_
  refine M_getR (b := 257) d_R_summedUp_178 f_R_53 rfl rfl rfl ?_
  refine J_iload d_R_summedUp_181 rfl ?_
  refine J_iconst (v := nI 1) d_R_summedUp_183 rfl ?_
  refine N_isub d_R_summedUp_184 (by omega) ?_
  rw [Nat.add_sub_cancel]
  refine N_lald (x := (lI y)) d_R_summedUp_185 rfl (by omega) (ltLL (okRk hX (by first | exact hl1 | (simp only [List.length_set]; exact hl1)) (by first | exact hl2 | (simp only [List.length_set]; exact hl2))) (a := 257) (n := 330) rfl (by omega)) (show l1.getD (List.length r) 0 = lI y from hv.1) ?_
  refine CV_L (av := [.int (nI 4), .long (lI y)]) d_R_summedUp_186 s_R_340 (M_rcv rfl (by decide) rfl) (S_R_ofOne_4 hX1 hR hN hO hy) (by decide) rfl rfl (Nat.le_of_ble_eq_true rfl) ?_
  refine N_last d_R_summedUp_189 rfl (by decide) (by omega) (ltLL (okRk hX (by first | exact hl1 | (simp only [List.length_set]; exact hl1)) (by first | exact hl2 | (simp only [List.length_set]; exact hl2))) (a := 257) (n := 330) rfl (by omega)) ?_
  rw [rk_L, show (rk2 X l1 l2).2.2.1 257 = l1 from rfl]
  refine J_goto (tgt := 349) d_R_summedUp_190 (by decide) ?_
  refine N_iinc (a := i) (c := 1) (L1 := [some (.ref 244), some (.int (nI t)), some (.int (nI k)), some (.int (nI x)), some (.int (nI c)), some (.int (nI (List.length r + 1))), some (.int (nI (List.length bs))), some (.int (nI (i + 1))), some (.int (nI 4)), some (.int (nI (vc i)))]) d_R_summedUp_349 rfl rfl (by decide) rfl ?_
  refine J_goto (tgt := 38) d_R_summedUp_352 (by decide) ?_
  exact kx _ _ _ _ (by first | exact hl1 | (simp only [List.length_set]; exact hl1)) (by first | exact hl2 | (simp only [List.length_set]; exact hl2)) (stw_push (by rw [hl1]; omega) hv.2) hb

theorem rr_2 {X : Mem} {e : Env} {oc vc : Nat → Nat} {Q : Option Value → Mem → Prop} {t k x c i w to : Nat} {vs : List Int} {bs : List Bool} {l1 : List Int64} {l2 : List Int32} {z8 z9 : Option Value} (hX : Ok X) (hR : RE X e) (hN : NMv X e) (hO : okE e) (hT : TRw X t oc vc) (hk4 : k < 24) (hx : x = 681 * t + 1 + 3 * k) (hc : c = 681 * t + 73) (hto : (X.2.1 251).getD (x + 2) 0 = nI to) (hi : i < to) (hto3 : to ≤ 300) (hl1 : l1.length = 330) (hl2 : l2.length = 330) {y : Int} {r : List Int} (hy : sm y) (hk0 : oc i = 2) (hlv : (List.length r + 1) ≤ i) (hlb : (List.length bs) ≤ i) (hv : stkW (y :: r) l1) (hb : stkB bs l2) (kx : ∀ (l1 : List Int64) (l2 : List Int32) (z8 z9 : Option Value), l1.length = 330 → l2.length = 330 → stkW ((hsV e y) :: r) l1 → stkB bs l2 → JM 2 m_R_summedUp Q 38 [some (.ref 244), some (.int (nI t)), some (.int (nI k)), some (.int (nI x)), some (.int (nI c)), some (.int (nI (List.length ((hsV e y) :: r)))), some (.int (nI (List.length bs))), some (.int (nI (i + 1))), z8, z9] [] (rk2 X l1 l2)) : JM 2 m_R_summedUp Q 38 [some (.ref 244), some (.int (nI t)), some (.int (nI k)), some (.int (nI x)), some (.int (nI c)), some (.int (nI (List.length r + 1))), some (.int (nI (List.length bs))), some (.int (nI i)), z8, z9] [] (rk2 X l1 l2) := by
  have ht4 := hT.1
  have hm8 := hO.1
  have hoc := (hT.2 i (by omega) (by omega)).2.2.1
  have hvc := (hT.2 i (by omega) (by omega)).2.2.2
  have hX1 : Ok (rk2 X l1 l2) := okRk hX hl1 hl2
  refine J_iload d_R_summedUp_38 rfl ?_
  refine J_aload_n (i := 0) d_R_summedUp_40 rfl rfl ?_
  refine M_getR (b := 251) d_R_summedUp_41 f_R_28 rfl rfl rfl ?_
  refine J_iload_n (i := 3) d_R_summedUp_44 rfl rfl ?_
  refine J_iconst (v := nI 2) d_R_summedUp_45 rfl ?_
  refine N_iadd d_R_summedUp_46 ?_
  refine N_iald (x := (nI to)) d_R_summedUp_47 rfl (by omega) (ltL (okRk hX (by first | exact hl1 | (simp only [List.length_set]; exact hl1)) (by first | exact hl2 | (simp only [List.length_set]; exact hl2))) (a := 251) (n := 2724) (by decide) rfl (by omega)) hto ?_
  refine N_icmp_ge (tgt := 355) d_R_summedUp_48 (by decide) (by omega) (by omega) (fun c48 => absurd c48 (by omega)) (fun c48 => ?_)
  refine J_aload_n (i := 0) d_R_summedUp_51 rfl rfl ?_
  refine M_getR (b := 251) d_R_summedUp_52 f_R_28 rfl rfl rfl ?_
  refine J_iload d_R_summedUp_55 rfl ?_
  refine J_iconst (v := nI 2) d_R_summedUp_57 rfl ?_
  refine J_iload d_R_summedUp_58 rfl ?_
  refine N_imul d_R_summedUp_60 ?_
  refine N_iadd d_R_summedUp_61 ?_
  refine N_iald (x := (nI (oc i))) d_R_summedUp_62 rfl (by omega) (ltL (okRk hX (by first | exact hl1 | (simp only [List.length_set]; exact hl1)) (by first | exact hl2 | (simp only [List.length_set]; exact hl2))) (a := 251) (n := 2724) (by decide) rfl (by omega)) (by rw [hc]; exact (hT.2 i (by omega) (by omega)).1) ?_
  rw [hk0]
  refine J_istore (L1 := [some (.ref 244), some (.int (nI t)), some (.int (nI k)), some (.int (nI x)), some (.int (nI c)), some (.int (nI (List.length r + 1))), some (.int (nI (List.length bs))), some (.int (nI i)), some (.int (nI 2)), z9]) d_R_summedUp_63 (by decide) rfl ?_
  refine J_aload_n (i := 0) d_R_summedUp_65 rfl rfl ?_
  refine M_getR (b := 251) d_R_summedUp_66 f_R_28 rfl rfl rfl ?_
  refine J_iload d_R_summedUp_69 rfl ?_
  refine J_iconst (v := nI 2) d_R_summedUp_71 rfl ?_
  refine J_iload d_R_summedUp_72 rfl ?_
  refine N_imul d_R_summedUp_74 ?_
  refine N_iadd d_R_summedUp_75 ?_
  refine J_iconst (v := nI 1) d_R_summedUp_76 rfl ?_
  refine N_iadd d_R_summedUp_77 ?_
  refine N_iald (x := (nI (vc i))) d_R_summedUp_78 rfl (by omega) (ltL (okRk hX (by first | exact hl1 | (simp only [List.length_set]; exact hl1)) (by first | exact hl2 | (simp only [List.length_set]; exact hl2))) (a := 251) (n := 2724) (by decide) rfl (by omega)) (by rw [hc]; exact (hT.2 i (by omega) (by omega)).2.1) ?_
  refine J_istore (L1 := [some (.ref 244), some (.int (nI t)), some (.int (nI k)), some (.int (nI x)), some (.int (nI c)), some (.int (nI (List.length r + 1))), some (.int (nI (List.length bs))), some (.int (nI i)), some (.int (nI 2)), some (.int (nI (vc i)))]) d_R_summedUp_79 (by decide) rfl ?_
  refine J_iload d_R_summedUp_81 rfl ?_
  refine J_iconst (v := nI 1) d_R_summedUp_83 rfl ?_
  refine N_icmp_gt (tgt := 119) d_R_summedUp_84 (by decide) (by omega) (by omega) (fun c84 => ?_) (fun c84 => absurd c84 (by decide))
  refine J_iload d_R_summedUp_119 rfl ?_
  refine J_iconst (v := nI 3) d_R_summedUp_121 rfl ?_
  refine N_icmp_ne (tgt := 160) d_R_summedUp_122 (by decide) (by omega) (by omega) (fun c122 => ?_) (fun c122 => absurd c122 (by decide))
  refine J_iload d_R_summedUp_160 rfl ?_
  refine J_iconst (v := nI 5) d_R_summedUp_162 rfl ?_
  refine N_icmp_gt (tgt := 193) d_R_summedUp_163 (by decide) (by omega) (by omega) (fun c163 => absurd c163 (by decide)) (fun c163 => ?_)
  refine J_aload_n (i := 0) d_R_summedUp_166 rfl rfl ?_
  refine M_getR (b := 257) d_R_summedUp_167 f_R_53 rfl rfl rfl ?_
  refine J_iload d_R_summedUp_170 rfl ?_
  refine J_iconst (v := nI 1) d_R_summedUp_172 rfl ?_
  refine N_isub d_R_summedUp_173 (by omega) ?_
  rw [Nat.add_sub_cancel]
  refine J_aload_n (i := 0) d_R_summedUp_174 rfl rfl ?_
  refine J_iload d_R_summedUp_175 rfl ?_
  refine J_aload_n (i := 0) d_R_summedUp_177 rfl rfl ?_
  refine M_getR (b := 257) d_R_summedUp_178 f_R_53 rfl rfl rfl ?_
  refine J_iload d_R_summedUp_181 rfl ?_
  refine J_iconst (v := nI 1) d_R_summedUp_183 rfl ?_
  refine N_isub d_R_summedUp_184 (by omega) ?_
  rw [Nat.add_sub_cancel]
  refine N_lald (x := (lI y)) d_R_summedUp_185 rfl (by omega) (ltLL (okRk hX (by first | exact hl1 | (simp only [List.length_set]; exact hl1)) (by first | exact hl2 | (simp only [List.length_set]; exact hl2))) (a := 257) (n := 330) rfl (by omega)) (show l1.getD (List.length r) 0 = lI y from hv.1) ?_
  refine CV_L (av := [.int (nI 2), .long (lI y)]) d_R_summedUp_186 s_R_340 (M_rcv rfl (by decide) rfl) (S_R_ofOne_2 hX1 hR hN hO hy) (by decide) rfl rfl (Nat.le_of_ble_eq_true rfl) ?_
  refine N_last d_R_summedUp_189 rfl (by decide) (by omega) (ltLL (okRk hX (by first | exact hl1 | (simp only [List.length_set]; exact hl1)) (by first | exact hl2 | (simp only [List.length_set]; exact hl2))) (a := 257) (n := 330) rfl (by omega)) ?_
  rw [rk_L, show (rk2 X l1 l2).2.2.1 257 = l1 from rfl]
  refine J_goto (tgt := 349) d_R_summedUp_190 (by decide) ?_
  refine N_iinc (a := i) (c := 1) (L1 := [some (.ref 244), some (.int (nI t)), some (.int (nI k)), some (.int (nI x)), some (.int (nI c)), some (.int (nI (List.length r + 1))), some (.int (nI (List.length bs))), some (.int (nI (i + 1))), some (.int (nI 2)), some (.int (nI (vc i)))]) d_R_summedUp_349 rfl rfl (by decide) rfl ?_
  refine J_goto (tgt := 38) d_R_summedUp_352 (by decide) ?_
  exact kx _ _ _ _ (by first | exact hl1 | (simp only [List.length_set]; exact hl1)) (by first | exact hl2 | (simp only [List.length_set]; exact hl2)) (stw_push (by rw [hl1]; omega) hv.2) hb

theorem rr_6 {X : Mem} {e : Env} {oc vc : Nat → Nat} {Q : Option Value → Mem → Prop} {t k x c i w to : Nat} {vs : List Int} {bs : List Bool} {l1 : List Int64} {l2 : List Int32} {z8 z9 : Option Value} (hX : Ok X) (hR : RE X e) (hN : NMv X e) (hO : okE e) (hT : TRw X t oc vc) (hk4 : k < 24) (hx : x = 681 * t + 1 + 3 * k) (hc : c = 681 * t + 73) (hto : (X.2.1 251).getD (x + 2) 0 = nI to) (hi : i < to) (hto3 : to ≤ 300) (hl1 : l1.length = 330) (hl2 : l2.length = 330) {a y : Int} {r : List Int} (ha : sm a) (hy : sm y) (hk0 : oc i = 6) (hlv : (List.length r + 1 + 1) ≤ i) (hlb : (List.length bs) ≤ i) (hv : stkW (y :: a :: r) l1) (hb : stkB bs l2) (kx : ∀ (l1 : List Int64) (l2 : List Int32) (z8 z9 : Option Value), l1.length = 330 → l2.length = 330 → stkW (ar2 6 a y :: r) l1 → stkB bs l2 → JM 2 m_R_summedUp Q 38 [some (.ref 244), some (.int (nI t)), some (.int (nI k)), some (.int (nI x)), some (.int (nI c)), some (.int (nI (List.length (ar2 6 a y :: r)))), some (.int (nI (List.length bs))), some (.int (nI (i + 1))), z8, z9] [] (rk2 X l1 l2)) : JM 2 m_R_summedUp Q 38 [some (.ref 244), some (.int (nI t)), some (.int (nI k)), some (.int (nI x)), some (.int (nI c)), some (.int (nI (List.length r + 1 + 1))), some (.int (nI (List.length bs))), some (.int (nI i)), z8, z9] [] (rk2 X l1 l2) := by
  have ht4 := hT.1
  have hm8 := hO.1
  have hoc := (hT.2 i (by omega) (by omega)).2.2.1
  have hvc := (hT.2 i (by omega) (by omega)).2.2.2
  have hX1 : Ok (rk2 X l1 l2) := okRk hX hl1 hl2
  refine J_iload d_R_summedUp_38 rfl ?_
  refine J_aload_n (i := 0) d_R_summedUp_40 rfl rfl ?_
  refine M_getR (b := 251) d_R_summedUp_41 f_R_28 rfl rfl rfl ?_
  refine J_iload_n (i := 3) d_R_summedUp_44 rfl rfl ?_
  refine J_iconst (v := nI 2) d_R_summedUp_45 rfl ?_
  refine N_iadd d_R_summedUp_46 ?_
  refine N_iald (x := (nI to)) d_R_summedUp_47 rfl (by omega) (ltL (okRk hX (by first | exact hl1 | (simp only [List.length_set]; exact hl1)) (by first | exact hl2 | (simp only [List.length_set]; exact hl2))) (a := 251) (n := 2724) (by decide) rfl (by omega)) hto ?_
  refine N_icmp_ge (tgt := 355) d_R_summedUp_48 (by decide) (by omega) (by omega) (fun c48 => absurd c48 (by omega)) (fun c48 => ?_)
  refine J_aload_n (i := 0) d_R_summedUp_51 rfl rfl ?_
  refine M_getR (b := 251) d_R_summedUp_52 f_R_28 rfl rfl rfl ?_
  refine J_iload d_R_summedUp_55 rfl ?_
  refine J_iconst (v := nI 2) d_R_summedUp_57 rfl ?_
  refine J_iload d_R_summedUp_58 rfl ?_
  refine N_imul d_R_summedUp_60 ?_
  refine N_iadd d_R_summedUp_61 ?_
  refine N_iald (x := (nI (oc i))) d_R_summedUp_62 rfl (by omega) (ltL (okRk hX (by first | exact hl1 | (simp only [List.length_set]; exact hl1)) (by first | exact hl2 | (simp only [List.length_set]; exact hl2))) (a := 251) (n := 2724) (by decide) rfl (by omega)) (by rw [hc]; exact (hT.2 i (by omega) (by omega)).1) ?_
  rw [hk0]
  refine J_istore (L1 := [some (.ref 244), some (.int (nI t)), some (.int (nI k)), some (.int (nI x)), some (.int (nI c)), some (.int (nI (List.length r + 1 + 1))), some (.int (nI (List.length bs))), some (.int (nI i)), some (.int (nI 6)), z9]) d_R_summedUp_63 (by decide) rfl ?_
  refine J_aload_n (i := 0) d_R_summedUp_65 rfl rfl ?_
  refine M_getR (b := 251) d_R_summedUp_66 f_R_28 rfl rfl rfl ?_
  refine J_iload d_R_summedUp_69 rfl ?_
  refine J_iconst (v := nI 2) d_R_summedUp_71 rfl ?_
  refine J_iload d_R_summedUp_72 rfl ?_
  refine N_imul d_R_summedUp_74 ?_
  refine N_iadd d_R_summedUp_75 ?_
  refine J_iconst (v := nI 1) d_R_summedUp_76 rfl ?_
  refine N_iadd d_R_summedUp_77 ?_
  refine N_iald (x := (nI (vc i))) d_R_summedUp_78 rfl (by omega) (ltL (okRk hX (by first | exact hl1 | (simp only [List.length_set]; exact hl1)) (by first | exact hl2 | (simp only [List.length_set]; exact hl2))) (a := 251) (n := 2724) (by decide) rfl (by omega)) (by rw [hc]; exact (hT.2 i (by omega) (by omega)).2.1) ?_
  refine J_istore (L1 := [some (.ref 244), some (.int (nI t)), some (.int (nI k)), some (.int (nI x)), some (.int (nI c)), some (.int (nI (List.length r + 1 + 1))), some (.int (nI (List.length bs))), some (.int (nI i)), some (.int (nI 6)), some (.int (nI (vc i)))]) d_R_summedUp_79 (by decide) rfl ?_
  refine J_iload d_R_summedUp_81 rfl ?_
  refine J_iconst (v := nI 1) d_R_summedUp_83 rfl ?_
  refine N_icmp_gt (tgt := 119) d_R_summedUp_84 (by decide) (by omega) (by omega) (fun c84 => ?_) (fun c84 => absurd c84 (by decide))
  refine J_iload d_R_summedUp_119 rfl ?_
  refine J_iconst (v := nI 3) d_R_summedUp_121 rfl ?_
  refine N_icmp_ne (tgt := 160) d_R_summedUp_122 (by decide) (by omega) (by omega) (fun c122 => ?_) (fun c122 => absurd c122 (by decide))
  refine J_iload d_R_summedUp_160 rfl ?_
  refine J_iconst (v := nI 5) d_R_summedUp_162 rfl ?_
  refine N_icmp_gt (tgt := 193) d_R_summedUp_163 (by decide) (by omega) (by omega) (fun c163 => ?_) (fun c163 => absurd c163 (by decide))
  refine J_iload d_R_summedUp_193 rfl ?_
  refine J_bipush (v := nI 10) d_R_summedUp_195 rfl ?_
  refine N_icmp_ge (tgt := 236) d_R_summedUp_197 (by decide) (by omega) (by omega) (fun c197 => absurd c197 (by decide)) (fun c197 => ?_)
  refine J_iinc (v := ((nI (List.length r + 1 + 1)) + (-1))) (L1 := [some (.ref 244), some (.int (nI t)), some (.int (nI k)), some (.int (nI x)), some (.int (nI c)), some (.int ((nI (List.length r + 1 + 1)) + (-1))), some (.int (nI (List.length bs))), some (.int (nI i)), some (.int (nI 6)), some (.int (nI (vc i)))]) d_R_summedUp_200 rfl rfl (by decide) rfl ?_
  rw [nI_dec]
  refine J_aload_n (i := 0) d_R_summedUp_203 rfl rfl ?_
  refine M_getR (b := 257) d_R_summedUp_204 f_R_53 rfl rfl rfl ?_
  refine J_iload d_R_summedUp_207 rfl ?_
  refine J_iconst (v := nI 1) d_R_summedUp_209 rfl ?_
  refine N_isub d_R_summedUp_210 (by omega) ?_
  rw [Nat.add_sub_cancel]
  refine J_iload d_R_summedUp_211 rfl ?_
  refine J_aload_n (i := 0) d_R_summedUp_213 rfl rfl ?_
  refine M_getR (b := 257) d_R_summedUp_214 f_R_53 rfl rfl rfl ?_
  refine J_iload d_R_summedUp_217 rfl ?_
  refine J_iconst (v := nI 1) d_R_summedUp_219 rfl ?_
  refine N_isub d_R_summedUp_220 (by omega) ?_
  rw [Nat.add_sub_cancel]
  refine N_lald (x := (lI a)) d_R_summedUp_221 rfl (by omega) (ltLL (okRk hX (by first | exact hl1 | (simp only [List.length_set]; exact hl1)) (by first | exact hl2 | (simp only [List.length_set]; exact hl2))) (a := 257) (n := 330) rfl (by omega)) (show l1.getD (List.length r) 0 = lI a from hv.2.1) ?_
  refine J_aload_n (i := 0) d_R_summedUp_222 rfl rfl ?_
  refine M_getR (b := 257) d_R_summedUp_223 f_R_53 rfl rfl rfl ?_
  refine J_iload d_R_summedUp_226 rfl ?_
  refine N_lald (x := (lI y)) d_R_summedUp_228 rfl (by omega) (ltLL (okRk hX (by first | exact hl1 | (simp only [List.length_set]; exact hl1)) (by first | exact hl2 | (simp only [List.length_set]; exact hl2))) (a := 257) (n := 330) rfl (by omega)) (show l1.getD (List.length r + 1) 0 = lI y from hv.1) ?_
  refine CS_L (av := [.int (nI 6), .long (lI a), .long (lI y)]) d_R_summedUp_229 s_R_344 (S_R_two_6 ha hy) (by decide) rfl rfl (Nat.le_of_ble_eq_true rfl) ?_
  refine N_last d_R_summedUp_232 rfl (by decide) (by omega) (ltLL (okRk hX (by first | exact hl1 | (simp only [List.length_set]; exact hl1)) (by first | exact hl2 | (simp only [List.length_set]; exact hl2))) (a := 257) (n := 330) rfl (by omega)) ?_
  rw [rk_L, show (rk2 X l1 l2).2.2.1 257 = l1 from rfl]
  refine J_goto (tgt := 349) d_R_summedUp_233 (by decide) ?_
  refine N_iinc (a := i) (c := 1) (L1 := [some (.ref 244), some (.int (nI t)), some (.int (nI k)), some (.int (nI x)), some (.int (nI c)), some (.int (nI (List.length r + 1))), some (.int (nI (List.length bs))), some (.int (nI (i + 1))), some (.int (nI 6)), some (.int (nI (vc i)))]) d_R_summedUp_349 rfl rfl (by decide) rfl ?_
  refine J_goto (tgt := 38) d_R_summedUp_352 (by decide) ?_
  exact kx _ _ _ _ (by first | exact hl1 | (simp only [List.length_set]; exact hl1)) (by first | exact hl2 | (simp only [List.length_set]; exact hl2)) (stw_push (by rw [hl1]; omega) hv.2.2) hb

theorem rr_7 {X : Mem} {e : Env} {oc vc : Nat → Nat} {Q : Option Value → Mem → Prop} {t k x c i w to : Nat} {vs : List Int} {bs : List Bool} {l1 : List Int64} {l2 : List Int32} {z8 z9 : Option Value} (hX : Ok X) (hR : RE X e) (hN : NMv X e) (hO : okE e) (hT : TRw X t oc vc) (hk4 : k < 24) (hx : x = 681 * t + 1 + 3 * k) (hc : c = 681 * t + 73) (hto : (X.2.1 251).getD (x + 2) 0 = nI to) (hi : i < to) (hto3 : to ≤ 300) (hl1 : l1.length = 330) (hl2 : l2.length = 330) {a y : Int} {r : List Int} (ha : sm a) (hy : sm y) (hk0 : oc i = 7) (hlv : (List.length r + 1 + 1) ≤ i) (hlb : (List.length bs) ≤ i) (hv : stkW (y :: a :: r) l1) (hb : stkB bs l2) (kx : ∀ (l1 : List Int64) (l2 : List Int32) (z8 z9 : Option Value), l1.length = 330 → l2.length = 330 → stkW (ar2 7 a y :: r) l1 → stkB bs l2 → JM 2 m_R_summedUp Q 38 [some (.ref 244), some (.int (nI t)), some (.int (nI k)), some (.int (nI x)), some (.int (nI c)), some (.int (nI (List.length (ar2 7 a y :: r)))), some (.int (nI (List.length bs))), some (.int (nI (i + 1))), z8, z9] [] (rk2 X l1 l2)) : JM 2 m_R_summedUp Q 38 [some (.ref 244), some (.int (nI t)), some (.int (nI k)), some (.int (nI x)), some (.int (nI c)), some (.int (nI (List.length r + 1 + 1))), some (.int (nI (List.length bs))), some (.int (nI i)), z8, z9] [] (rk2 X l1 l2) := by
  have ht4 := hT.1
  have hm8 := hO.1
  have hoc := (hT.2 i (by omega) (by omega)).2.2.1
  have hvc := (hT.2 i (by omega) (by omega)).2.2.2
  have hX1 : Ok (rk2 X l1 l2) := okRk hX hl1 hl2
  refine J_iload d_R_summedUp_38 rfl ?_
  refine J_aload_n (i := 0) d_R_summedUp_40 rfl rfl ?_
  refine M_getR (b := 251) d_R_summedUp_41 f_R_28 rfl rfl rfl ?_
  refine J_iload_n (i := 3) d_R_summedUp_44 rfl rfl ?_
  refine J_iconst (v := nI 2) d_R_summedUp_45 rfl ?_
  refine N_iadd d_R_summedUp_46 ?_
  refine N_iald (x := (nI to)) d_R_summedUp_47 rfl (by omega) (ltL (okRk hX (by first | exact hl1 | (simp only [List.length_set]; exact hl1)) (by first | exact hl2 | (simp only [List.length_set]; exact hl2))) (a := 251) (n := 2724) (by decide) rfl (by omega)) hto ?_
  refine N_icmp_ge (tgt := 355) d_R_summedUp_48 (by decide) (by omega) (by omega) (fun c48 => absurd c48 (by omega)) (fun c48 => ?_)
  refine J_aload_n (i := 0) d_R_summedUp_51 rfl rfl ?_
  refine M_getR (b := 251) d_R_summedUp_52 f_R_28 rfl rfl rfl ?_
  refine J_iload d_R_summedUp_55 rfl ?_
  refine J_iconst (v := nI 2) d_R_summedUp_57 rfl ?_
  refine J_iload d_R_summedUp_58 rfl ?_
  refine N_imul d_R_summedUp_60 ?_
  refine N_iadd d_R_summedUp_61 ?_
  refine N_iald (x := (nI (oc i))) d_R_summedUp_62 rfl (by omega) (ltL (okRk hX (by first | exact hl1 | (simp only [List.length_set]; exact hl1)) (by first | exact hl2 | (simp only [List.length_set]; exact hl2))) (a := 251) (n := 2724) (by decide) rfl (by omega)) (by rw [hc]; exact (hT.2 i (by omega) (by omega)).1) ?_
  rw [hk0]
  refine J_istore (L1 := [some (.ref 244), some (.int (nI t)), some (.int (nI k)), some (.int (nI x)), some (.int (nI c)), some (.int (nI (List.length r + 1 + 1))), some (.int (nI (List.length bs))), some (.int (nI i)), some (.int (nI 7)), z9]) d_R_summedUp_63 (by decide) rfl ?_
  refine J_aload_n (i := 0) d_R_summedUp_65 rfl rfl ?_
  refine M_getR (b := 251) d_R_summedUp_66 f_R_28 rfl rfl rfl ?_
  refine J_iload d_R_summedUp_69 rfl ?_
  refine J_iconst (v := nI 2) d_R_summedUp_71 rfl ?_
  refine J_iload d_R_summedUp_72 rfl ?_
  refine N_imul d_R_summedUp_74 ?_
  refine N_iadd d_R_summedUp_75 ?_
  refine J_iconst (v := nI 1) d_R_summedUp_76 rfl ?_
  refine N_iadd d_R_summedUp_77 ?_
  refine N_iald (x := (nI (vc i))) d_R_summedUp_78 rfl (by omega) (ltL (okRk hX (by first | exact hl1 | (simp only [List.length_set]; exact hl1)) (by first | exact hl2 | (simp only [List.length_set]; exact hl2))) (a := 251) (n := 2724) (by decide) rfl (by omega)) (by rw [hc]; exact (hT.2 i (by omega) (by omega)).2.1) ?_
  refine J_istore (L1 := [some (.ref 244), some (.int (nI t)), some (.int (nI k)), some (.int (nI x)), some (.int (nI c)), some (.int (nI (List.length r + 1 + 1))), some (.int (nI (List.length bs))), some (.int (nI i)), some (.int (nI 7)), some (.int (nI (vc i)))]) d_R_summedUp_79 (by decide) rfl ?_
  refine J_iload d_R_summedUp_81 rfl ?_
  refine J_iconst (v := nI 1) d_R_summedUp_83 rfl ?_
  refine N_icmp_gt (tgt := 119) d_R_summedUp_84 (by decide) (by omega) (by omega) (fun c84 => ?_) (fun c84 => absurd c84 (by decide))
  refine J_iload d_R_summedUp_119 rfl ?_
  refine J_iconst (v := nI 3) d_R_summedUp_121 rfl ?_
  refine N_icmp_ne (tgt := 160) d_R_summedUp_122 (by decide) (by omega) (by omega) (fun c122 => ?_) (fun c122 => absurd c122 (by decide))
  refine J_iload d_R_summedUp_160 rfl ?_
  refine J_iconst (v := nI 5) d_R_summedUp_162 rfl ?_
  refine N_icmp_gt (tgt := 193) d_R_summedUp_163 (by decide) (by omega) (by omega) (fun c163 => ?_) (fun c163 => absurd c163 (by decide))
  refine J_iload d_R_summedUp_193 rfl ?_
  refine J_bipush (v := nI 10) d_R_summedUp_195 rfl ?_
  refine N_icmp_ge (tgt := 236) d_R_summedUp_197 (by decide) (by omega) (by omega) (fun c197 => absurd c197 (by decide)) (fun c197 => ?_)
  refine J_iinc (v := ((nI (List.length r + 1 + 1)) + (-1))) (L1 := [some (.ref 244), some (.int (nI t)), some (.int (nI k)), some (.int (nI x)), some (.int (nI c)), some (.int ((nI (List.length r + 1 + 1)) + (-1))), some (.int (nI (List.length bs))), some (.int (nI i)), some (.int (nI 7)), some (.int (nI (vc i)))]) d_R_summedUp_200 rfl rfl (by decide) rfl ?_
  rw [nI_dec]
  refine J_aload_n (i := 0) d_R_summedUp_203 rfl rfl ?_
  refine M_getR (b := 257) d_R_summedUp_204 f_R_53 rfl rfl rfl ?_
  refine J_iload d_R_summedUp_207 rfl ?_
  refine J_iconst (v := nI 1) d_R_summedUp_209 rfl ?_
  refine N_isub d_R_summedUp_210 (by omega) ?_
  rw [Nat.add_sub_cancel]
  refine J_iload d_R_summedUp_211 rfl ?_
  refine J_aload_n (i := 0) d_R_summedUp_213 rfl rfl ?_
  refine M_getR (b := 257) d_R_summedUp_214 f_R_53 rfl rfl rfl ?_
  refine J_iload d_R_summedUp_217 rfl ?_
  refine J_iconst (v := nI 1) d_R_summedUp_219 rfl ?_
  refine N_isub d_R_summedUp_220 (by omega) ?_
  rw [Nat.add_sub_cancel]
  refine N_lald (x := (lI a)) d_R_summedUp_221 rfl (by omega) (ltLL (okRk hX (by first | exact hl1 | (simp only [List.length_set]; exact hl1)) (by first | exact hl2 | (simp only [List.length_set]; exact hl2))) (a := 257) (n := 330) rfl (by omega)) (show l1.getD (List.length r) 0 = lI a from hv.2.1) ?_
  refine J_aload_n (i := 0) d_R_summedUp_222 rfl rfl ?_
  refine M_getR (b := 257) d_R_summedUp_223 f_R_53 rfl rfl rfl ?_
  refine J_iload d_R_summedUp_226 rfl ?_
  refine N_lald (x := (lI y)) d_R_summedUp_228 rfl (by omega) (ltLL (okRk hX (by first | exact hl1 | (simp only [List.length_set]; exact hl1)) (by first | exact hl2 | (simp only [List.length_set]; exact hl2))) (a := 257) (n := 330) rfl (by omega)) (show l1.getD (List.length r + 1) 0 = lI y from hv.1) ?_
  refine CS_L (av := [.int (nI 7), .long (lI a), .long (lI y)]) d_R_summedUp_229 s_R_344 (S_R_two_7 ha hy) (by decide) rfl rfl (Nat.le_of_ble_eq_true rfl) ?_
  refine N_last d_R_summedUp_232 rfl (by decide) (by omega) (ltLL (okRk hX (by first | exact hl1 | (simp only [List.length_set]; exact hl1)) (by first | exact hl2 | (simp only [List.length_set]; exact hl2))) (a := 257) (n := 330) rfl (by omega)) ?_
  rw [rk_L, show (rk2 X l1 l2).2.2.1 257 = l1 from rfl]
  refine J_goto (tgt := 349) d_R_summedUp_233 (by decide) ?_
  refine N_iinc (a := i) (c := 1) (L1 := [some (.ref 244), some (.int (nI t)), some (.int (nI k)), some (.int (nI x)), some (.int (nI c)), some (.int (nI (List.length r + 1))), some (.int (nI (List.length bs))), some (.int (nI (i + 1))), some (.int (nI 7)), some (.int (nI (vc i)))]) d_R_summedUp_349 rfl rfl (by decide) rfl ?_
  refine J_goto (tgt := 38) d_R_summedUp_352 (by decide) ?_
  exact kx _ _ _ _ (by first | exact hl1 | (simp only [List.length_set]; exact hl1)) (by first | exact hl2 | (simp only [List.length_set]; exact hl2)) (stw_push (by rw [hl1]; omega) hv.2.2) hb

theorem rr_8 {X : Mem} {e : Env} {oc vc : Nat → Nat} {Q : Option Value → Mem → Prop} {t k x c i w to : Nat} {vs : List Int} {bs : List Bool} {l1 : List Int64} {l2 : List Int32} {z8 z9 : Option Value} (hX : Ok X) (hR : RE X e) (hN : NMv X e) (hO : okE e) (hT : TRw X t oc vc) (hk4 : k < 24) (hx : x = 681 * t + 1 + 3 * k) (hc : c = 681 * t + 73) (hto : (X.2.1 251).getD (x + 2) 0 = nI to) (hi : i < to) (hto3 : to ≤ 300) (hl1 : l1.length = 330) (hl2 : l2.length = 330) {a y : Int} {r : List Int} (ha : sm a) (hy : sm y) (hk0 : oc i = 8) (hlv : (List.length r + 1 + 1) ≤ i) (hlb : (List.length bs) ≤ i) (hv : stkW (y :: a :: r) l1) (hb : stkB bs l2) (kx : ∀ (l1 : List Int64) (l2 : List Int32) (z8 z9 : Option Value), l1.length = 330 → l2.length = 330 → stkW (ar2 8 a y :: r) l1 → stkB bs l2 → JM 2 m_R_summedUp Q 38 [some (.ref 244), some (.int (nI t)), some (.int (nI k)), some (.int (nI x)), some (.int (nI c)), some (.int (nI (List.length (ar2 8 a y :: r)))), some (.int (nI (List.length bs))), some (.int (nI (i + 1))), z8, z9] [] (rk2 X l1 l2)) : JM 2 m_R_summedUp Q 38 [some (.ref 244), some (.int (nI t)), some (.int (nI k)), some (.int (nI x)), some (.int (nI c)), some (.int (nI (List.length r + 1 + 1))), some (.int (nI (List.length bs))), some (.int (nI i)), z8, z9] [] (rk2 X l1 l2) := by
  have ht4 := hT.1
  have hm8 := hO.1
  have hoc := (hT.2 i (by omega) (by omega)).2.2.1
  have hvc := (hT.2 i (by omega) (by omega)).2.2.2
  have hX1 : Ok (rk2 X l1 l2) := okRk hX hl1 hl2
  refine J_iload d_R_summedUp_38 rfl ?_
  refine J_aload_n (i := 0) d_R_summedUp_40 rfl rfl ?_
  refine M_getR (b := 251) d_R_summedUp_41 f_R_28 rfl rfl rfl ?_
  refine J_iload_n (i := 3) d_R_summedUp_44 rfl rfl ?_
  refine J_iconst (v := nI 2) d_R_summedUp_45 rfl ?_
  refine N_iadd d_R_summedUp_46 ?_
  refine N_iald (x := (nI to)) d_R_summedUp_47 rfl (by omega) (ltL (okRk hX (by first | exact hl1 | (simp only [List.length_set]; exact hl1)) (by first | exact hl2 | (simp only [List.length_set]; exact hl2))) (a := 251) (n := 2724) (by decide) rfl (by omega)) hto ?_
  refine N_icmp_ge (tgt := 355) d_R_summedUp_48 (by decide) (by omega) (by omega) (fun c48 => absurd c48 (by omega)) (fun c48 => ?_)
  refine J_aload_n (i := 0) d_R_summedUp_51 rfl rfl ?_
  refine M_getR (b := 251) d_R_summedUp_52 f_R_28 rfl rfl rfl ?_
  refine J_iload d_R_summedUp_55 rfl ?_
  refine J_iconst (v := nI 2) d_R_summedUp_57 rfl ?_
  refine J_iload d_R_summedUp_58 rfl ?_
  refine N_imul d_R_summedUp_60 ?_
  refine N_iadd d_R_summedUp_61 ?_
  refine N_iald (x := (nI (oc i))) d_R_summedUp_62 rfl (by omega) (ltL (okRk hX (by first | exact hl1 | (simp only [List.length_set]; exact hl1)) (by first | exact hl2 | (simp only [List.length_set]; exact hl2))) (a := 251) (n := 2724) (by decide) rfl (by omega)) (by rw [hc]; exact (hT.2 i (by omega) (by omega)).1) ?_
  rw [hk0]
  refine J_istore (L1 := [some (.ref 244), some (.int (nI t)), some (.int (nI k)), some (.int (nI x)), some (.int (nI c)), some (.int (nI (List.length r + 1 + 1))), some (.int (nI (List.length bs))), some (.int (nI i)), some (.int (nI 8)), z9]) d_R_summedUp_63 (by decide) rfl ?_
  refine J_aload_n (i := 0) d_R_summedUp_65 rfl rfl ?_
  refine M_getR (b := 251) d_R_summedUp_66 f_R_28 rfl rfl rfl ?_
  refine J_iload d_R_summedUp_69 rfl ?_
  refine J_iconst (v := nI 2) d_R_summedUp_71 rfl ?_
  refine J_iload d_R_summedUp_72 rfl ?_
  refine N_imul d_R_summedUp_74 ?_
  refine N_iadd d_R_summedUp_75 ?_
  refine J_iconst (v := nI 1) d_R_summedUp_76 rfl ?_
  refine N_iadd d_R_summedUp_77 ?_
  refine N_iald (x := (nI (vc i))) d_R_summedUp_78 rfl (by omega) (ltL (okRk hX (by first | exact hl1 | (simp only [List.length_set]; exact hl1)) (by first | exact hl2 | (simp only [List.length_set]; exact hl2))) (a := 251) (n := 2724) (by decide) rfl (by omega)) (by rw [hc]; exact (hT.2 i (by omega) (by omega)).2.1) ?_
  refine J_istore (L1 := [some (.ref 244), some (.int (nI t)), some (.int (nI k)), some (.int (nI x)), some (.int (nI c)), some (.int (nI (List.length r + 1 + 1))), some (.int (nI (List.length bs))), some (.int (nI i)), some (.int (nI 8)), some (.int (nI (vc i)))]) d_R_summedUp_79 (by decide) rfl ?_
  refine J_iload d_R_summedUp_81 rfl ?_
  refine J_iconst (v := nI 1) d_R_summedUp_83 rfl ?_
  refine N_icmp_gt (tgt := 119) d_R_summedUp_84 (by decide) (by omega) (by omega) (fun c84 => ?_) (fun c84 => absurd c84 (by decide))
  refine J_iload d_R_summedUp_119 rfl ?_
  refine J_iconst (v := nI 3) d_R_summedUp_121 rfl ?_
  refine N_icmp_ne (tgt := 160) d_R_summedUp_122 (by decide) (by omega) (by omega) (fun c122 => ?_) (fun c122 => absurd c122 (by decide))
  refine J_iload d_R_summedUp_160 rfl ?_
  refine J_iconst (v := nI 5) d_R_summedUp_162 rfl ?_
  refine N_icmp_gt (tgt := 193) d_R_summedUp_163 (by decide) (by omega) (by omega) (fun c163 => ?_) (fun c163 => absurd c163 (by decide))
  refine J_iload d_R_summedUp_193 rfl ?_
  refine J_bipush (v := nI 10) d_R_summedUp_195 rfl ?_
  refine N_icmp_ge (tgt := 236) d_R_summedUp_197 (by decide) (by omega) (by omega) (fun c197 => absurd c197 (by decide)) (fun c197 => ?_)
  refine J_iinc (v := ((nI (List.length r + 1 + 1)) + (-1))) (L1 := [some (.ref 244), some (.int (nI t)), some (.int (nI k)), some (.int (nI x)), some (.int (nI c)), some (.int ((nI (List.length r + 1 + 1)) + (-1))), some (.int (nI (List.length bs))), some (.int (nI i)), some (.int (nI 8)), some (.int (nI (vc i)))]) d_R_summedUp_200 rfl rfl (by decide) rfl ?_
  rw [nI_dec]
  refine J_aload_n (i := 0) d_R_summedUp_203 rfl rfl ?_
  refine M_getR (b := 257) d_R_summedUp_204 f_R_53 rfl rfl rfl ?_
  refine J_iload d_R_summedUp_207 rfl ?_
  refine J_iconst (v := nI 1) d_R_summedUp_209 rfl ?_
  refine N_isub d_R_summedUp_210 (by omega) ?_
  rw [Nat.add_sub_cancel]
  refine J_iload d_R_summedUp_211 rfl ?_
  refine J_aload_n (i := 0) d_R_summedUp_213 rfl rfl ?_
  refine M_getR (b := 257) d_R_summedUp_214 f_R_53 rfl rfl rfl ?_
  refine J_iload d_R_summedUp_217 rfl ?_
  refine J_iconst (v := nI 1) d_R_summedUp_219 rfl ?_
  refine N_isub d_R_summedUp_220 (by omega) ?_
  rw [Nat.add_sub_cancel]
  refine N_lald (x := (lI a)) d_R_summedUp_221 rfl (by omega) (ltLL (okRk hX (by first | exact hl1 | (simp only [List.length_set]; exact hl1)) (by first | exact hl2 | (simp only [List.length_set]; exact hl2))) (a := 257) (n := 330) rfl (by omega)) (show l1.getD (List.length r) 0 = lI a from hv.2.1) ?_
  refine J_aload_n (i := 0) d_R_summedUp_222 rfl rfl ?_
  refine M_getR (b := 257) d_R_summedUp_223 f_R_53 rfl rfl rfl ?_
  refine J_iload d_R_summedUp_226 rfl ?_
  refine N_lald (x := (lI y)) d_R_summedUp_228 rfl (by omega) (ltLL (okRk hX (by first | exact hl1 | (simp only [List.length_set]; exact hl1)) (by first | exact hl2 | (simp only [List.length_set]; exact hl2))) (a := 257) (n := 330) rfl (by omega)) (show l1.getD (List.length r + 1) 0 = lI y from hv.1) ?_
  refine CS_L (av := [.int (nI 8), .long (lI a), .long (lI y)]) d_R_summedUp_229 s_R_344 (S_R_two_8 ha hy) (by decide) rfl rfl (Nat.le_of_ble_eq_true rfl) ?_
  refine N_last d_R_summedUp_232 rfl (by decide) (by omega) (ltLL (okRk hX (by first | exact hl1 | (simp only [List.length_set]; exact hl1)) (by first | exact hl2 | (simp only [List.length_set]; exact hl2))) (a := 257) (n := 330) rfl (by omega)) ?_
  rw [rk_L, show (rk2 X l1 l2).2.2.1 257 = l1 from rfl]
  refine J_goto (tgt := 349) d_R_summedUp_233 (by decide) ?_
  refine N_iinc (a := i) (c := 1) (L1 := [some (.ref 244), some (.int (nI t)), some (.int (nI k)), some (.int (nI x)), some (.int (nI c)), some (.int (nI (List.length r + 1))), some (.int (nI (List.length bs))), some (.int (nI (i + 1))), some (.int (nI 8)), some (.int (nI (vc i)))]) d_R_summedUp_349 rfl rfl (by decide) rfl ?_
  refine J_goto (tgt := 38) d_R_summedUp_352 (by decide) ?_
  exact kx _ _ _ _ (by first | exact hl1 | (simp only [List.length_set]; exact hl1)) (by first | exact hl2 | (simp only [List.length_set]; exact hl2)) (stw_push (by rw [hl1]; omega) hv.2.2) hb

theorem rr_9 {X : Mem} {e : Env} {oc vc : Nat → Nat} {Q : Option Value → Mem → Prop} {t k x c i w to : Nat} {vs : List Int} {bs : List Bool} {l1 : List Int64} {l2 : List Int32} {z8 z9 : Option Value} (hX : Ok X) (hR : RE X e) (hN : NMv X e) (hO : okE e) (hT : TRw X t oc vc) (hk4 : k < 24) (hx : x = 681 * t + 1 + 3 * k) (hc : c = 681 * t + 73) (hto : (X.2.1 251).getD (x + 2) 0 = nI to) (hi : i < to) (hto3 : to ≤ 300) (hl1 : l1.length = 330) (hl2 : l2.length = 330) {a y : Int} {r : List Int} (ha : sm a) (hy : sm y) (hk0 : oc i = 9) (hlv : (List.length r + 1 + 1) ≤ i) (hlb : (List.length bs) ≤ i) (hv : stkW (y :: a :: r) l1) (hb : stkB bs l2) (kx : ∀ (l1 : List Int64) (l2 : List Int32) (z8 z9 : Option Value), l1.length = 330 → l2.length = 330 → stkW (ar2 9 a y :: r) l1 → stkB bs l2 → JM 2 m_R_summedUp Q 38 [some (.ref 244), some (.int (nI t)), some (.int (nI k)), some (.int (nI x)), some (.int (nI c)), some (.int (nI (List.length (ar2 9 a y :: r)))), some (.int (nI (List.length bs))), some (.int (nI (i + 1))), z8, z9] [] (rk2 X l1 l2)) : JM 2 m_R_summedUp Q 38 [some (.ref 244), some (.int (nI t)), some (.int (nI k)), some (.int (nI x)), some (.int (nI c)), some (.int (nI (List.length r + 1 + 1))), some (.int (nI (List.length bs))), some (.int (nI i)), z8, z9] [] (rk2 X l1 l2) := by
  have ht4 := hT.1
  have hm8 := hO.1
  have hoc := (hT.2 i (by omega) (by omega)).2.2.1
  have hvc := (hT.2 i (by omega) (by omega)).2.2.2
  have hX1 : Ok (rk2 X l1 l2) := okRk hX hl1 hl2
  refine J_iload d_R_summedUp_38 rfl ?_
  refine J_aload_n (i := 0) d_R_summedUp_40 rfl rfl ?_
  refine M_getR (b := 251) d_R_summedUp_41 f_R_28 rfl rfl rfl ?_
  refine J_iload_n (i := 3) d_R_summedUp_44 rfl rfl ?_
  refine J_iconst (v := nI 2) d_R_summedUp_45 rfl ?_
  refine N_iadd d_R_summedUp_46 ?_
  refine N_iald (x := (nI to)) d_R_summedUp_47 rfl (by omega) (ltL (okRk hX (by first | exact hl1 | (simp only [List.length_set]; exact hl1)) (by first | exact hl2 | (simp only [List.length_set]; exact hl2))) (a := 251) (n := 2724) (by decide) rfl (by omega)) hto ?_
  refine N_icmp_ge (tgt := 355) d_R_summedUp_48 (by decide) (by omega) (by omega) (fun c48 => absurd c48 (by omega)) (fun c48 => ?_)
  refine J_aload_n (i := 0) d_R_summedUp_51 rfl rfl ?_
  refine M_getR (b := 251) d_R_summedUp_52 f_R_28 rfl rfl rfl ?_
  refine J_iload d_R_summedUp_55 rfl ?_
  refine J_iconst (v := nI 2) d_R_summedUp_57 rfl ?_
  refine J_iload d_R_summedUp_58 rfl ?_
  refine N_imul d_R_summedUp_60 ?_
  refine N_iadd d_R_summedUp_61 ?_
  refine N_iald (x := (nI (oc i))) d_R_summedUp_62 rfl (by omega) (ltL (okRk hX (by first | exact hl1 | (simp only [List.length_set]; exact hl1)) (by first | exact hl2 | (simp only [List.length_set]; exact hl2))) (a := 251) (n := 2724) (by decide) rfl (by omega)) (by rw [hc]; exact (hT.2 i (by omega) (by omega)).1) ?_
  rw [hk0]
  refine J_istore (L1 := [some (.ref 244), some (.int (nI t)), some (.int (nI k)), some (.int (nI x)), some (.int (nI c)), some (.int (nI (List.length r + 1 + 1))), some (.int (nI (List.length bs))), some (.int (nI i)), some (.int (nI 9)), z9]) d_R_summedUp_63 (by decide) rfl ?_
  refine J_aload_n (i := 0) d_R_summedUp_65 rfl rfl ?_
  refine M_getR (b := 251) d_R_summedUp_66 f_R_28 rfl rfl rfl ?_
  refine J_iload d_R_summedUp_69 rfl ?_
  refine J_iconst (v := nI 2) d_R_summedUp_71 rfl ?_
  refine J_iload d_R_summedUp_72 rfl ?_
  refine N_imul d_R_summedUp_74 ?_
  refine N_iadd d_R_summedUp_75 ?_
  refine J_iconst (v := nI 1) d_R_summedUp_76 rfl ?_
  refine N_iadd d_R_summedUp_77 ?_
  refine N_iald (x := (nI (vc i))) d_R_summedUp_78 rfl (by omega) (ltL (okRk hX (by first | exact hl1 | (simp only [List.length_set]; exact hl1)) (by first | exact hl2 | (simp only [List.length_set]; exact hl2))) (a := 251) (n := 2724) (by decide) rfl (by omega)) (by rw [hc]; exact (hT.2 i (by omega) (by omega)).2.1) ?_
  refine J_istore (L1 := [some (.ref 244), some (.int (nI t)), some (.int (nI k)), some (.int (nI x)), some (.int (nI c)), some (.int (nI (List.length r + 1 + 1))), some (.int (nI (List.length bs))), some (.int (nI i)), some (.int (nI 9)), some (.int (nI (vc i)))]) d_R_summedUp_79 (by decide) rfl ?_
  refine J_iload d_R_summedUp_81 rfl ?_
  refine J_iconst (v := nI 1) d_R_summedUp_83 rfl ?_
  refine N_icmp_gt (tgt := 119) d_R_summedUp_84 (by decide) (by omega) (by omega) (fun c84 => ?_) (fun c84 => absurd c84 (by decide))
  refine J_iload d_R_summedUp_119 rfl ?_
  refine J_iconst (v := nI 3) d_R_summedUp_121 rfl ?_
  refine N_icmp_ne (tgt := 160) d_R_summedUp_122 (by decide) (by omega) (by omega) (fun c122 => ?_) (fun c122 => absurd c122 (by decide))
  refine J_iload d_R_summedUp_160 rfl ?_
  refine J_iconst (v := nI 5) d_R_summedUp_162 rfl ?_
  refine N_icmp_gt (tgt := 193) d_R_summedUp_163 (by decide) (by omega) (by omega) (fun c163 => ?_) (fun c163 => absurd c163 (by decide))
  refine J_iload d_R_summedUp_193 rfl ?_
  refine J_bipush (v := nI 10) d_R_summedUp_195 rfl ?_
  refine N_icmp_ge (tgt := 236) d_R_summedUp_197 (by decide) (by omega) (by omega) (fun c197 => absurd c197 (by decide)) (fun c197 => ?_)
  refine J_iinc (v := ((nI (List.length r + 1 + 1)) + (-1))) (L1 := [some (.ref 244), some (.int (nI t)), some (.int (nI k)), some (.int (nI x)), some (.int (nI c)), some (.int ((nI (List.length r + 1 + 1)) + (-1))), some (.int (nI (List.length bs))), some (.int (nI i)), some (.int (nI 9)), some (.int (nI (vc i)))]) d_R_summedUp_200 rfl rfl (by decide) rfl ?_
  rw [nI_dec]
  refine J_aload_n (i := 0) d_R_summedUp_203 rfl rfl ?_
  refine M_getR (b := 257) d_R_summedUp_204 f_R_53 rfl rfl rfl ?_
  refine J_iload d_R_summedUp_207 rfl ?_
  refine J_iconst (v := nI 1) d_R_summedUp_209 rfl ?_
  refine N_isub d_R_summedUp_210 (by omega) ?_
  rw [Nat.add_sub_cancel]
  refine J_iload d_R_summedUp_211 rfl ?_
  refine J_aload_n (i := 0) d_R_summedUp_213 rfl rfl ?_
  refine M_getR (b := 257) d_R_summedUp_214 f_R_53 rfl rfl rfl ?_
  refine J_iload d_R_summedUp_217 rfl ?_
  refine J_iconst (v := nI 1) d_R_summedUp_219 rfl ?_
  refine N_isub d_R_summedUp_220 (by omega) ?_
  rw [Nat.add_sub_cancel]
  refine N_lald (x := (lI a)) d_R_summedUp_221 rfl (by omega) (ltLL (okRk hX (by first | exact hl1 | (simp only [List.length_set]; exact hl1)) (by first | exact hl2 | (simp only [List.length_set]; exact hl2))) (a := 257) (n := 330) rfl (by omega)) (show l1.getD (List.length r) 0 = lI a from hv.2.1) ?_
  refine J_aload_n (i := 0) d_R_summedUp_222 rfl rfl ?_
  refine M_getR (b := 257) d_R_summedUp_223 f_R_53 rfl rfl rfl ?_
  refine J_iload d_R_summedUp_226 rfl ?_
  refine N_lald (x := (lI y)) d_R_summedUp_228 rfl (by omega) (ltLL (okRk hX (by first | exact hl1 | (simp only [List.length_set]; exact hl1)) (by first | exact hl2 | (simp only [List.length_set]; exact hl2))) (a := 257) (n := 330) rfl (by omega)) (show l1.getD (List.length r + 1) 0 = lI y from hv.1) ?_
  refine CS_L (av := [.int (nI 9), .long (lI a), .long (lI y)]) d_R_summedUp_229 s_R_344 (S_R_two_9 ha hy) (by decide) rfl rfl (Nat.le_of_ble_eq_true rfl) ?_
  refine N_last d_R_summedUp_232 rfl (by decide) (by omega) (ltLL (okRk hX (by first | exact hl1 | (simp only [List.length_set]; exact hl1)) (by first | exact hl2 | (simp only [List.length_set]; exact hl2))) (a := 257) (n := 330) rfl (by omega)) ?_
  rw [rk_L, show (rk2 X l1 l2).2.2.1 257 = l1 from rfl]
  refine J_goto (tgt := 349) d_R_summedUp_233 (by decide) ?_
  refine N_iinc (a := i) (c := 1) (L1 := [some (.ref 244), some (.int (nI t)), some (.int (nI k)), some (.int (nI x)), some (.int (nI c)), some (.int (nI (List.length r + 1))), some (.int (nI (List.length bs))), some (.int (nI (i + 1))), some (.int (nI 9)), some (.int (nI (vc i)))]) d_R_summedUp_349 rfl rfl (by decide) rfl ?_
  refine J_goto (tgt := 38) d_R_summedUp_352 (by decide) ?_
  exact kx _ _ _ _ (by first | exact hl1 | (simp only [List.length_set]; exact hl1)) (by first | exact hl2 | (simp only [List.length_set]; exact hl2)) (stw_push (by rw [hl1]; omega) hv.2.2) hb

theorem rr_10 {X : Mem} {e : Env} {oc vc : Nat → Nat} {Q : Option Value → Mem → Prop} {t k x c i w to : Nat} {vs : List Int} {bs : List Bool} {l1 : List Int64} {l2 : List Int32} {z8 z9 : Option Value} (hX : Ok X) (hR : RE X e) (hN : NMv X e) (hO : okE e) (hT : TRw X t oc vc) (hk4 : k < 24) (hx : x = 681 * t + 1 + 3 * k) (hc : c = 681 * t + 73) (hto : (X.2.1 251).getD (x + 2) 0 = nI to) (hi : i < to) (hto3 : to ≤ 300) (hl1 : l1.length = 330) (hl2 : l2.length = 330) {a y : Int} {r : List Int} (ha : sm a) (hy : sm y) (hk0 : oc i = 10) (hlv : (List.length r + 1 + 1) ≤ i) (hlb : (List.length bs) ≤ i) (hv : stkW (y :: a :: r) l1) (hb : stkB bs l2) (kx : ∀ (l1 : List Int64) (l2 : List Int32) (z8 z9 : Option Value), l1.length = 330 → l2.length = 330 → stkW r l1 → stkB (cp2 10 a y :: bs) l2 → JM 2 m_R_summedUp Q 38 [some (.ref 244), some (.int (nI t)), some (.int (nI k)), some (.int (nI x)), some (.int (nI c)), some (.int (nI (List.length r))), some (.int (nI (List.length (cp2 10 a y :: bs)))), some (.int (nI (i + 1))), z8, z9] [] (rk2 X l1 l2)) : JM 2 m_R_summedUp Q 38 [some (.ref 244), some (.int (nI t)), some (.int (nI k)), some (.int (nI x)), some (.int (nI c)), some (.int (nI (List.length r + 1 + 1))), some (.int (nI (List.length bs))), some (.int (nI i)), z8, z9] [] (rk2 X l1 l2) := by
  have ht4 := hT.1
  have hm8 := hO.1
  have hoc := (hT.2 i (by omega) (by omega)).2.2.1
  have hvc := (hT.2 i (by omega) (by omega)).2.2.2
  have hX1 : Ok (rk2 X l1 l2) := okRk hX hl1 hl2
  refine J_iload d_R_summedUp_38 rfl ?_
  refine J_aload_n (i := 0) d_R_summedUp_40 rfl rfl ?_
  refine M_getR (b := 251) d_R_summedUp_41 f_R_28 rfl rfl rfl ?_
  refine J_iload_n (i := 3) d_R_summedUp_44 rfl rfl ?_
  refine J_iconst (v := nI 2) d_R_summedUp_45 rfl ?_
  refine N_iadd d_R_summedUp_46 ?_
  refine N_iald (x := (nI to)) d_R_summedUp_47 rfl (by omega) (ltL (okRk hX (by first | exact hl1 | (simp only [List.length_set]; exact hl1)) (by first | exact hl2 | (simp only [List.length_set]; exact hl2))) (a := 251) (n := 2724) (by decide) rfl (by omega)) hto ?_
  refine N_icmp_ge (tgt := 355) d_R_summedUp_48 (by decide) (by omega) (by omega) (fun c48 => absurd c48 (by omega)) (fun c48 => ?_)
  refine J_aload_n (i := 0) d_R_summedUp_51 rfl rfl ?_
  refine M_getR (b := 251) d_R_summedUp_52 f_R_28 rfl rfl rfl ?_
  refine J_iload d_R_summedUp_55 rfl ?_
  refine J_iconst (v := nI 2) d_R_summedUp_57 rfl ?_
  refine J_iload d_R_summedUp_58 rfl ?_
  refine N_imul d_R_summedUp_60 ?_
  refine N_iadd d_R_summedUp_61 ?_
  refine N_iald (x := (nI (oc i))) d_R_summedUp_62 rfl (by omega) (ltL (okRk hX (by first | exact hl1 | (simp only [List.length_set]; exact hl1)) (by first | exact hl2 | (simp only [List.length_set]; exact hl2))) (a := 251) (n := 2724) (by decide) rfl (by omega)) (by rw [hc]; exact (hT.2 i (by omega) (by omega)).1) ?_
  rw [hk0]
  refine J_istore (L1 := [some (.ref 244), some (.int (nI t)), some (.int (nI k)), some (.int (nI x)), some (.int (nI c)), some (.int (nI (List.length r + 1 + 1))), some (.int (nI (List.length bs))), some (.int (nI i)), some (.int (nI 10)), z9]) d_R_summedUp_63 (by decide) rfl ?_
  refine J_aload_n (i := 0) d_R_summedUp_65 rfl rfl ?_
  refine M_getR (b := 251) d_R_summedUp_66 f_R_28 rfl rfl rfl ?_
  refine J_iload d_R_summedUp_69 rfl ?_
  refine J_iconst (v := nI 2) d_R_summedUp_71 rfl ?_
  refine J_iload d_R_summedUp_72 rfl ?_
  refine N_imul d_R_summedUp_74 ?_
  refine N_iadd d_R_summedUp_75 ?_
  refine J_iconst (v := nI 1) d_R_summedUp_76 rfl ?_
  refine N_iadd d_R_summedUp_77 ?_
  refine N_iald (x := (nI (vc i))) d_R_summedUp_78 rfl (by omega) (ltL (okRk hX (by first | exact hl1 | (simp only [List.length_set]; exact hl1)) (by first | exact hl2 | (simp only [List.length_set]; exact hl2))) (a := 251) (n := 2724) (by decide) rfl (by omega)) (by rw [hc]; exact (hT.2 i (by omega) (by omega)).2.1) ?_
  refine J_istore (L1 := [some (.ref 244), some (.int (nI t)), some (.int (nI k)), some (.int (nI x)), some (.int (nI c)), some (.int (nI (List.length r + 1 + 1))), some (.int (nI (List.length bs))), some (.int (nI i)), some (.int (nI 10)), some (.int (nI (vc i)))]) d_R_summedUp_79 (by decide) rfl ?_
  refine J_iload d_R_summedUp_81 rfl ?_
  refine J_iconst (v := nI 1) d_R_summedUp_83 rfl ?_
  refine N_icmp_gt (tgt := 119) d_R_summedUp_84 (by decide) (by omega) (by omega) (fun c84 => ?_) (fun c84 => absurd c84 (by decide))
  refine J_iload d_R_summedUp_119 rfl ?_
  refine J_iconst (v := nI 3) d_R_summedUp_121 rfl ?_
  refine N_icmp_ne (tgt := 160) d_R_summedUp_122 (by decide) (by omega) (by omega) (fun c122 => ?_) (fun c122 => absurd c122 (by decide))
  refine J_iload d_R_summedUp_160 rfl ?_
  refine J_iconst (v := nI 5) d_R_summedUp_162 rfl ?_
  refine N_icmp_gt (tgt := 193) d_R_summedUp_163 (by decide) (by omega) (by omega) (fun c163 => ?_) (fun c163 => absurd c163 (by decide))
  refine J_iload d_R_summedUp_193 rfl ?_
  refine J_bipush (v := nI 10) d_R_summedUp_195 rfl ?_
  refine N_icmp_ge (tgt := 236) d_R_summedUp_197 (by decide) (by omega) (by omega) (fun c197 => ?_) (fun c197 => absurd c197 (by decide))
  refine J_iload d_R_summedUp_236 rfl ?_
  refine J_bipush (v := nI 20) d_R_summedUp_238 rfl ?_
  refine N_icmp_ge (tgt := 280) d_R_summedUp_240 (by decide) (by omega) (by omega) (fun c240 => absurd c240 (by decide)) (fun c240 => ?_)
  refine J_iinc (v := ((nI (List.length r + 1 + 1)) + (-2))) (L1 := [some (.ref 244), some (.int (nI t)), some (.int (nI k)), some (.int (nI x)), some (.int (nI c)), some (.int ((nI (List.length r + 1 + 1)) + (-2))), some (.int (nI (List.length bs))), some (.int (nI i)), some (.int (nI 10)), some (.int (nI (vc i)))]) d_R_summedUp_243 rfl rfl (by decide) rfl ?_
  rw [nI_dec2]
  refine J_aload_n (i := 0) d_R_summedUp_246 rfl rfl ?_
  refine M_getR (b := 258) d_R_summedUp_247 f_R_57 rfl rfl rfl ?_
  refine J_iload d_R_summedUp_250 rfl ?_
  refine J_iload d_R_summedUp_252 rfl ?_
  refine J_aload_n (i := 0) d_R_summedUp_254 rfl rfl ?_
  refine M_getR (b := 257) d_R_summedUp_255 f_R_53 rfl rfl rfl ?_
  refine J_iload d_R_summedUp_258 rfl ?_
  refine N_lald (x := (lI a)) d_R_summedUp_260 rfl (by omega) (ltLL (okRk hX (by first | exact hl1 | (simp only [List.length_set]; exact hl1)) (by first | exact hl2 | (simp only [List.length_set]; exact hl2))) (a := 257) (n := 330) rfl (by omega)) (show l1.getD (List.length r) 0 = lI a from hv.2.1) ?_
  refine J_aload_n (i := 0) d_R_summedUp_261 rfl rfl ?_
  refine M_getR (b := 257) d_R_summedUp_262 f_R_53 rfl rfl rfl ?_
  refine J_iload d_R_summedUp_265 rfl ?_
  refine J_iconst (v := nI 1) d_R_summedUp_267 rfl ?_
  refine N_iadd d_R_summedUp_268 ?_
  refine N_lald (x := (lI y)) d_R_summedUp_269 rfl (by omega) (ltLL (okRk hX (by first | exact hl1 | (simp only [List.length_set]; exact hl1)) (by first | exact hl2 | (simp only [List.length_set]; exact hl2))) (a := 257) (n := 330) rfl (by omega)) (show l1.getD (List.length r + 1) 0 = lI y from hv.1) ?_
  refine CS_B (av := [.int (nI 10), .long (lI a), .long (lI y)]) d_R_summedUp_270 s_R_348 (S_R_isAsked_10 ha hy) (by decide) rfl rfl (Nat.le_of_ble_eq_true rfl) ?_
  refine N_zast d_R_summedUp_273 rfl (by decide) (by omega) (ltL (okRk hX (by first | exact hl1 | (simp only [List.length_set]; exact hl1)) (by first | exact hl2 | (simp only [List.length_set]; exact hl2))) (a := 258) (n := 330) (by decide) rfl (by omega)) ?_
  rw [rk_A, show (rk2 X l1 l2).2.1 258 = l2 from rfl]
  refine N_iinc (a := (List.length bs)) (c := 1) (L1 := [some (.ref 244), some (.int (nI t)), some (.int (nI k)), some (.int (nI x)), some (.int (nI c)), some (.int (nI (List.length r))), some (.int (nI ((List.length bs) + 1))), some (.int (nI i)), some (.int (nI 10)), some (.int (nI (vc i)))]) d_R_summedUp_274 rfl rfl (by decide) rfl ?_
  refine J_goto (tgt := 349) d_R_summedUp_277 (by decide) ?_
  refine N_iinc (a := i) (c := 1) (L1 := [some (.ref 244), some (.int (nI t)), some (.int (nI k)), some (.int (nI x)), some (.int (nI c)), some (.int (nI (List.length r))), some (.int (nI ((List.length bs) + 1))), some (.int (nI (i + 1))), some (.int (nI 10)), some (.int (nI (vc i)))]) d_R_summedUp_349 rfl rfl (by decide) rfl ?_
  refine J_goto (tgt := 38) d_R_summedUp_352 (by decide) ?_
  exact kx _ _ _ _ (by first | exact hl1 | (simp only [List.length_set]; exact hl1)) (by first | exact hl2 | (simp only [List.length_set]; exact hl2)) hv.2.2 (stb_push (by rw [hl2]; omega) hb)

theorem rr_11 {X : Mem} {e : Env} {oc vc : Nat → Nat} {Q : Option Value → Mem → Prop} {t k x c i w to : Nat} {vs : List Int} {bs : List Bool} {l1 : List Int64} {l2 : List Int32} {z8 z9 : Option Value} (hX : Ok X) (hR : RE X e) (hN : NMv X e) (hO : okE e) (hT : TRw X t oc vc) (hk4 : k < 24) (hx : x = 681 * t + 1 + 3 * k) (hc : c = 681 * t + 73) (hto : (X.2.1 251).getD (x + 2) 0 = nI to) (hi : i < to) (hto3 : to ≤ 300) (hl1 : l1.length = 330) (hl2 : l2.length = 330) {a y : Int} {r : List Int} (ha : sm a) (hy : sm y) (hk0 : oc i = 11) (hlv : (List.length r + 1 + 1) ≤ i) (hlb : (List.length bs) ≤ i) (hv : stkW (y :: a :: r) l1) (hb : stkB bs l2) (kx : ∀ (l1 : List Int64) (l2 : List Int32) (z8 z9 : Option Value), l1.length = 330 → l2.length = 330 → stkW r l1 → stkB (cp2 11 a y :: bs) l2 → JM 2 m_R_summedUp Q 38 [some (.ref 244), some (.int (nI t)), some (.int (nI k)), some (.int (nI x)), some (.int (nI c)), some (.int (nI (List.length r))), some (.int (nI (List.length (cp2 11 a y :: bs)))), some (.int (nI (i + 1))), z8, z9] [] (rk2 X l1 l2)) : JM 2 m_R_summedUp Q 38 [some (.ref 244), some (.int (nI t)), some (.int (nI k)), some (.int (nI x)), some (.int (nI c)), some (.int (nI (List.length r + 1 + 1))), some (.int (nI (List.length bs))), some (.int (nI i)), z8, z9] [] (rk2 X l1 l2) := by
  have ht4 := hT.1
  have hm8 := hO.1
  have hoc := (hT.2 i (by omega) (by omega)).2.2.1
  have hvc := (hT.2 i (by omega) (by omega)).2.2.2
  have hX1 : Ok (rk2 X l1 l2) := okRk hX hl1 hl2
  refine J_iload d_R_summedUp_38 rfl ?_
  refine J_aload_n (i := 0) d_R_summedUp_40 rfl rfl ?_
  refine M_getR (b := 251) d_R_summedUp_41 f_R_28 rfl rfl rfl ?_
  refine J_iload_n (i := 3) d_R_summedUp_44 rfl rfl ?_
  refine J_iconst (v := nI 2) d_R_summedUp_45 rfl ?_
  refine N_iadd d_R_summedUp_46 ?_
  refine N_iald (x := (nI to)) d_R_summedUp_47 rfl (by omega) (ltL (okRk hX (by first | exact hl1 | (simp only [List.length_set]; exact hl1)) (by first | exact hl2 | (simp only [List.length_set]; exact hl2))) (a := 251) (n := 2724) (by decide) rfl (by omega)) hto ?_
  refine N_icmp_ge (tgt := 355) d_R_summedUp_48 (by decide) (by omega) (by omega) (fun c48 => absurd c48 (by omega)) (fun c48 => ?_)
  refine J_aload_n (i := 0) d_R_summedUp_51 rfl rfl ?_
  refine M_getR (b := 251) d_R_summedUp_52 f_R_28 rfl rfl rfl ?_
  refine J_iload d_R_summedUp_55 rfl ?_
  refine J_iconst (v := nI 2) d_R_summedUp_57 rfl ?_
  refine J_iload d_R_summedUp_58 rfl ?_
  refine N_imul d_R_summedUp_60 ?_
  refine N_iadd d_R_summedUp_61 ?_
  refine N_iald (x := (nI (oc i))) d_R_summedUp_62 rfl (by omega) (ltL (okRk hX (by first | exact hl1 | (simp only [List.length_set]; exact hl1)) (by first | exact hl2 | (simp only [List.length_set]; exact hl2))) (a := 251) (n := 2724) (by decide) rfl (by omega)) (by rw [hc]; exact (hT.2 i (by omega) (by omega)).1) ?_
  rw [hk0]
  refine J_istore (L1 := [some (.ref 244), some (.int (nI t)), some (.int (nI k)), some (.int (nI x)), some (.int (nI c)), some (.int (nI (List.length r + 1 + 1))), some (.int (nI (List.length bs))), some (.int (nI i)), some (.int (nI 11)), z9]) d_R_summedUp_63 (by decide) rfl ?_
  refine J_aload_n (i := 0) d_R_summedUp_65 rfl rfl ?_
  refine M_getR (b := 251) d_R_summedUp_66 f_R_28 rfl rfl rfl ?_
  refine J_iload d_R_summedUp_69 rfl ?_
  refine J_iconst (v := nI 2) d_R_summedUp_71 rfl ?_
  refine J_iload d_R_summedUp_72 rfl ?_
  refine N_imul d_R_summedUp_74 ?_
  refine N_iadd d_R_summedUp_75 ?_
  refine J_iconst (v := nI 1) d_R_summedUp_76 rfl ?_
  refine N_iadd d_R_summedUp_77 ?_
  refine N_iald (x := (nI (vc i))) d_R_summedUp_78 rfl (by omega) (ltL (okRk hX (by first | exact hl1 | (simp only [List.length_set]; exact hl1)) (by first | exact hl2 | (simp only [List.length_set]; exact hl2))) (a := 251) (n := 2724) (by decide) rfl (by omega)) (by rw [hc]; exact (hT.2 i (by omega) (by omega)).2.1) ?_
  refine J_istore (L1 := [some (.ref 244), some (.int (nI t)), some (.int (nI k)), some (.int (nI x)), some (.int (nI c)), some (.int (nI (List.length r + 1 + 1))), some (.int (nI (List.length bs))), some (.int (nI i)), some (.int (nI 11)), some (.int (nI (vc i)))]) d_R_summedUp_79 (by decide) rfl ?_
  refine J_iload d_R_summedUp_81 rfl ?_
  refine J_iconst (v := nI 1) d_R_summedUp_83 rfl ?_
  refine N_icmp_gt (tgt := 119) d_R_summedUp_84 (by decide) (by omega) (by omega) (fun c84 => ?_) (fun c84 => absurd c84 (by decide))
  refine J_iload d_R_summedUp_119 rfl ?_
  refine J_iconst (v := nI 3) d_R_summedUp_121 rfl ?_
  refine N_icmp_ne (tgt := 160) d_R_summedUp_122 (by decide) (by omega) (by omega) (fun c122 => ?_) (fun c122 => absurd c122 (by decide))
  refine J_iload d_R_summedUp_160 rfl ?_
  refine J_iconst (v := nI 5) d_R_summedUp_162 rfl ?_
  refine N_icmp_gt (tgt := 193) d_R_summedUp_163 (by decide) (by omega) (by omega) (fun c163 => ?_) (fun c163 => absurd c163 (by decide))
  refine J_iload d_R_summedUp_193 rfl ?_
  refine J_bipush (v := nI 10) d_R_summedUp_195 rfl ?_
  refine N_icmp_ge (tgt := 236) d_R_summedUp_197 (by decide) (by omega) (by omega) (fun c197 => ?_) (fun c197 => absurd c197 (by decide))
  refine J_iload d_R_summedUp_236 rfl ?_
  refine J_bipush (v := nI 20) d_R_summedUp_238 rfl ?_
  refine N_icmp_ge (tgt := 280) d_R_summedUp_240 (by decide) (by omega) (by omega) (fun c240 => absurd c240 (by decide)) (fun c240 => ?_)
  refine J_iinc (v := ((nI (List.length r + 1 + 1)) + (-2))) (L1 := [some (.ref 244), some (.int (nI t)), some (.int (nI k)), some (.int (nI x)), some (.int (nI c)), some (.int ((nI (List.length r + 1 + 1)) + (-2))), some (.int (nI (List.length bs))), some (.int (nI i)), some (.int (nI 11)), some (.int (nI (vc i)))]) d_R_summedUp_243 rfl rfl (by decide) rfl ?_
  rw [nI_dec2]
  refine J_aload_n (i := 0) d_R_summedUp_246 rfl rfl ?_
  refine M_getR (b := 258) d_R_summedUp_247 f_R_57 rfl rfl rfl ?_
  refine J_iload d_R_summedUp_250 rfl ?_
  refine J_iload d_R_summedUp_252 rfl ?_
  refine J_aload_n (i := 0) d_R_summedUp_254 rfl rfl ?_
  refine M_getR (b := 257) d_R_summedUp_255 f_R_53 rfl rfl rfl ?_
  refine J_iload d_R_summedUp_258 rfl ?_
  refine N_lald (x := (lI a)) d_R_summedUp_260 rfl (by omega) (ltLL (okRk hX (by first | exact hl1 | (simp only [List.length_set]; exact hl1)) (by first | exact hl2 | (simp only [List.length_set]; exact hl2))) (a := 257) (n := 330) rfl (by omega)) (show l1.getD (List.length r) 0 = lI a from hv.2.1) ?_
  refine J_aload_n (i := 0) d_R_summedUp_261 rfl rfl ?_
  refine M_getR (b := 257) d_R_summedUp_262 f_R_53 rfl rfl rfl ?_
  refine J_iload d_R_summedUp_265 rfl ?_
  refine J_iconst (v := nI 1) d_R_summedUp_267 rfl ?_
  refine N_iadd d_R_summedUp_268 ?_
  refine N_lald (x := (lI y)) d_R_summedUp_269 rfl (by omega) (ltLL (okRk hX (by first | exact hl1 | (simp only [List.length_set]; exact hl1)) (by first | exact hl2 | (simp only [List.length_set]; exact hl2))) (a := 257) (n := 330) rfl (by omega)) (show l1.getD (List.length r + 1) 0 = lI y from hv.1) ?_
  refine CS_B (av := [.int (nI 11), .long (lI a), .long (lI y)]) d_R_summedUp_270 s_R_348 (S_R_isAsked_11 ha hy) (by decide) rfl rfl (Nat.le_of_ble_eq_true rfl) ?_
  refine N_zast d_R_summedUp_273 rfl (by decide) (by omega) (ltL (okRk hX (by first | exact hl1 | (simp only [List.length_set]; exact hl1)) (by first | exact hl2 | (simp only [List.length_set]; exact hl2))) (a := 258) (n := 330) (by decide) rfl (by omega)) ?_
  rw [rk_A, show (rk2 X l1 l2).2.1 258 = l2 from rfl]
  refine N_iinc (a := (List.length bs)) (c := 1) (L1 := [some (.ref 244), some (.int (nI t)), some (.int (nI k)), some (.int (nI x)), some (.int (nI c)), some (.int (nI (List.length r))), some (.int (nI ((List.length bs) + 1))), some (.int (nI i)), some (.int (nI 11)), some (.int (nI (vc i)))]) d_R_summedUp_274 rfl rfl (by decide) rfl ?_
  refine J_goto (tgt := 349) d_R_summedUp_277 (by decide) ?_
  refine N_iinc (a := i) (c := 1) (L1 := [some (.ref 244), some (.int (nI t)), some (.int (nI k)), some (.int (nI x)), some (.int (nI c)), some (.int (nI (List.length r))), some (.int (nI ((List.length bs) + 1))), some (.int (nI (i + 1))), some (.int (nI 11)), some (.int (nI (vc i)))]) d_R_summedUp_349 rfl rfl (by decide) rfl ?_
  refine J_goto (tgt := 38) d_R_summedUp_352 (by decide) ?_
  exact kx _ _ _ _ (by first | exact hl1 | (simp only [List.length_set]; exact hl1)) (by first | exact hl2 | (simp only [List.length_set]; exact hl2)) hv.2.2 (stb_push (by rw [hl2]; omega) hb)

theorem rr_12 {X : Mem} {e : Env} {oc vc : Nat → Nat} {Q : Option Value → Mem → Prop} {t k x c i w to : Nat} {vs : List Int} {bs : List Bool} {l1 : List Int64} {l2 : List Int32} {z8 z9 : Option Value} (hX : Ok X) (hR : RE X e) (hN : NMv X e) (hO : okE e) (hT : TRw X t oc vc) (hk4 : k < 24) (hx : x = 681 * t + 1 + 3 * k) (hc : c = 681 * t + 73) (hto : (X.2.1 251).getD (x + 2) 0 = nI to) (hi : i < to) (hto3 : to ≤ 300) (hl1 : l1.length = 330) (hl2 : l2.length = 330) {a y : Int} {r : List Int} (ha : sm a) (hy : sm y) (hk0 : oc i = 12) (hlv : (List.length r + 1 + 1) ≤ i) (hlb : (List.length bs) ≤ i) (hv : stkW (y :: a :: r) l1) (hb : stkB bs l2) (kx : ∀ (l1 : List Int64) (l2 : List Int32) (z8 z9 : Option Value), l1.length = 330 → l2.length = 330 → stkW r l1 → stkB (cp2 12 a y :: bs) l2 → JM 2 m_R_summedUp Q 38 [some (.ref 244), some (.int (nI t)), some (.int (nI k)), some (.int (nI x)), some (.int (nI c)), some (.int (nI (List.length r))), some (.int (nI (List.length (cp2 12 a y :: bs)))), some (.int (nI (i + 1))), z8, z9] [] (rk2 X l1 l2)) : JM 2 m_R_summedUp Q 38 [some (.ref 244), some (.int (nI t)), some (.int (nI k)), some (.int (nI x)), some (.int (nI c)), some (.int (nI (List.length r + 1 + 1))), some (.int (nI (List.length bs))), some (.int (nI i)), z8, z9] [] (rk2 X l1 l2) := by
  have ht4 := hT.1
  have hm8 := hO.1
  have hoc := (hT.2 i (by omega) (by omega)).2.2.1
  have hvc := (hT.2 i (by omega) (by omega)).2.2.2
  have hX1 : Ok (rk2 X l1 l2) := okRk hX hl1 hl2
  refine J_iload d_R_summedUp_38 rfl ?_
  refine J_aload_n (i := 0) d_R_summedUp_40 rfl rfl ?_
  refine M_getR (b := 251) d_R_summedUp_41 f_R_28 rfl rfl rfl ?_
  refine J_iload_n (i := 3) d_R_summedUp_44 rfl rfl ?_
  refine J_iconst (v := nI 2) d_R_summedUp_45 rfl ?_
  refine N_iadd d_R_summedUp_46 ?_
  refine N_iald (x := (nI to)) d_R_summedUp_47 rfl (by omega) (ltL (okRk hX (by first | exact hl1 | (simp only [List.length_set]; exact hl1)) (by first | exact hl2 | (simp only [List.length_set]; exact hl2))) (a := 251) (n := 2724) (by decide) rfl (by omega)) hto ?_
  refine N_icmp_ge (tgt := 355) d_R_summedUp_48 (by decide) (by omega) (by omega) (fun c48 => absurd c48 (by omega)) (fun c48 => ?_)
  refine J_aload_n (i := 0) d_R_summedUp_51 rfl rfl ?_
  refine M_getR (b := 251) d_R_summedUp_52 f_R_28 rfl rfl rfl ?_
  refine J_iload d_R_summedUp_55 rfl ?_
  refine J_iconst (v := nI 2) d_R_summedUp_57 rfl ?_
  refine J_iload d_R_summedUp_58 rfl ?_
  refine N_imul d_R_summedUp_60 ?_
  refine N_iadd d_R_summedUp_61 ?_
  refine N_iald (x := (nI (oc i))) d_R_summedUp_62 rfl (by omega) (ltL (okRk hX (by first | exact hl1 | (simp only [List.length_set]; exact hl1)) (by first | exact hl2 | (simp only [List.length_set]; exact hl2))) (a := 251) (n := 2724) (by decide) rfl (by omega)) (by rw [hc]; exact (hT.2 i (by omega) (by omega)).1) ?_
  rw [hk0]
  refine J_istore (L1 := [some (.ref 244), some (.int (nI t)), some (.int (nI k)), some (.int (nI x)), some (.int (nI c)), some (.int (nI (List.length r + 1 + 1))), some (.int (nI (List.length bs))), some (.int (nI i)), some (.int (nI 12)), z9]) d_R_summedUp_63 (by decide) rfl ?_
  refine J_aload_n (i := 0) d_R_summedUp_65 rfl rfl ?_
  refine M_getR (b := 251) d_R_summedUp_66 f_R_28 rfl rfl rfl ?_
  refine J_iload d_R_summedUp_69 rfl ?_
  refine J_iconst (v := nI 2) d_R_summedUp_71 rfl ?_
  refine J_iload d_R_summedUp_72 rfl ?_
  refine N_imul d_R_summedUp_74 ?_
  refine N_iadd d_R_summedUp_75 ?_
  refine J_iconst (v := nI 1) d_R_summedUp_76 rfl ?_
  refine N_iadd d_R_summedUp_77 ?_
  refine N_iald (x := (nI (vc i))) d_R_summedUp_78 rfl (by omega) (ltL (okRk hX (by first | exact hl1 | (simp only [List.length_set]; exact hl1)) (by first | exact hl2 | (simp only [List.length_set]; exact hl2))) (a := 251) (n := 2724) (by decide) rfl (by omega)) (by rw [hc]; exact (hT.2 i (by omega) (by omega)).2.1) ?_
  refine J_istore (L1 := [some (.ref 244), some (.int (nI t)), some (.int (nI k)), some (.int (nI x)), some (.int (nI c)), some (.int (nI (List.length r + 1 + 1))), some (.int (nI (List.length bs))), some (.int (nI i)), some (.int (nI 12)), some (.int (nI (vc i)))]) d_R_summedUp_79 (by decide) rfl ?_
  refine J_iload d_R_summedUp_81 rfl ?_
  refine J_iconst (v := nI 1) d_R_summedUp_83 rfl ?_
  refine N_icmp_gt (tgt := 119) d_R_summedUp_84 (by decide) (by omega) (by omega) (fun c84 => ?_) (fun c84 => absurd c84 (by decide))
  refine J_iload d_R_summedUp_119 rfl ?_
  refine J_iconst (v := nI 3) d_R_summedUp_121 rfl ?_
  refine N_icmp_ne (tgt := 160) d_R_summedUp_122 (by decide) (by omega) (by omega) (fun c122 => ?_) (fun c122 => absurd c122 (by decide))
  refine J_iload d_R_summedUp_160 rfl ?_
  refine J_iconst (v := nI 5) d_R_summedUp_162 rfl ?_
  refine N_icmp_gt (tgt := 193) d_R_summedUp_163 (by decide) (by omega) (by omega) (fun c163 => ?_) (fun c163 => absurd c163 (by decide))
  refine J_iload d_R_summedUp_193 rfl ?_
  refine J_bipush (v := nI 10) d_R_summedUp_195 rfl ?_
  refine N_icmp_ge (tgt := 236) d_R_summedUp_197 (by decide) (by omega) (by omega) (fun c197 => ?_) (fun c197 => absurd c197 (by decide))
  refine J_iload d_R_summedUp_236 rfl ?_
  refine J_bipush (v := nI 20) d_R_summedUp_238 rfl ?_
  refine N_icmp_ge (tgt := 280) d_R_summedUp_240 (by decide) (by omega) (by omega) (fun c240 => absurd c240 (by decide)) (fun c240 => ?_)
  refine J_iinc (v := ((nI (List.length r + 1 + 1)) + (-2))) (L1 := [some (.ref 244), some (.int (nI t)), some (.int (nI k)), some (.int (nI x)), some (.int (nI c)), some (.int ((nI (List.length r + 1 + 1)) + (-2))), some (.int (nI (List.length bs))), some (.int (nI i)), some (.int (nI 12)), some (.int (nI (vc i)))]) d_R_summedUp_243 rfl rfl (by decide) rfl ?_
  rw [nI_dec2]
  refine J_aload_n (i := 0) d_R_summedUp_246 rfl rfl ?_
  refine M_getR (b := 258) d_R_summedUp_247 f_R_57 rfl rfl rfl ?_
  refine J_iload d_R_summedUp_250 rfl ?_
  refine J_iload d_R_summedUp_252 rfl ?_
  refine J_aload_n (i := 0) d_R_summedUp_254 rfl rfl ?_
  refine M_getR (b := 257) d_R_summedUp_255 f_R_53 rfl rfl rfl ?_
  refine J_iload d_R_summedUp_258 rfl ?_
  refine N_lald (x := (lI a)) d_R_summedUp_260 rfl (by omega) (ltLL (okRk hX (by first | exact hl1 | (simp only [List.length_set]; exact hl1)) (by first | exact hl2 | (simp only [List.length_set]; exact hl2))) (a := 257) (n := 330) rfl (by omega)) (show l1.getD (List.length r) 0 = lI a from hv.2.1) ?_
  refine J_aload_n (i := 0) d_R_summedUp_261 rfl rfl ?_
  refine M_getR (b := 257) d_R_summedUp_262 f_R_53 rfl rfl rfl ?_
  refine J_iload d_R_summedUp_265 rfl ?_
  refine J_iconst (v := nI 1) d_R_summedUp_267 rfl ?_
  refine N_iadd d_R_summedUp_268 ?_
  refine N_lald (x := (lI y)) d_R_summedUp_269 rfl (by omega) (ltLL (okRk hX (by first | exact hl1 | (simp only [List.length_set]; exact hl1)) (by first | exact hl2 | (simp only [List.length_set]; exact hl2))) (a := 257) (n := 330) rfl (by omega)) (show l1.getD (List.length r + 1) 0 = lI y from hv.1) ?_
  refine CS_B (av := [.int (nI 12), .long (lI a), .long (lI y)]) d_R_summedUp_270 s_R_348 (S_R_isAsked_12 ha hy) (by decide) rfl rfl (Nat.le_of_ble_eq_true rfl) ?_
  refine N_zast d_R_summedUp_273 rfl (by decide) (by omega) (ltL (okRk hX (by first | exact hl1 | (simp only [List.length_set]; exact hl1)) (by first | exact hl2 | (simp only [List.length_set]; exact hl2))) (a := 258) (n := 330) (by decide) rfl (by omega)) ?_
  rw [rk_A, show (rk2 X l1 l2).2.1 258 = l2 from rfl]
  refine N_iinc (a := (List.length bs)) (c := 1) (L1 := [some (.ref 244), some (.int (nI t)), some (.int (nI k)), some (.int (nI x)), some (.int (nI c)), some (.int (nI (List.length r))), some (.int (nI ((List.length bs) + 1))), some (.int (nI i)), some (.int (nI 12)), some (.int (nI (vc i)))]) d_R_summedUp_274 rfl rfl (by decide) rfl ?_
  refine J_goto (tgt := 349) d_R_summedUp_277 (by decide) ?_
  refine N_iinc (a := i) (c := 1) (L1 := [some (.ref 244), some (.int (nI t)), some (.int (nI k)), some (.int (nI x)), some (.int (nI c)), some (.int (nI (List.length r))), some (.int (nI ((List.length bs) + 1))), some (.int (nI (i + 1))), some (.int (nI 12)), some (.int (nI (vc i)))]) d_R_summedUp_349 rfl rfl (by decide) rfl ?_
  refine J_goto (tgt := 38) d_R_summedUp_352 (by decide) ?_
  exact kx _ _ _ _ (by first | exact hl1 | (simp only [List.length_set]; exact hl1)) (by first | exact hl2 | (simp only [List.length_set]; exact hl2)) hv.2.2 (stb_push (by rw [hl2]; omega) hb)

theorem rr_13 {X : Mem} {e : Env} {oc vc : Nat → Nat} {Q : Option Value → Mem → Prop} {t k x c i w to : Nat} {vs : List Int} {bs : List Bool} {l1 : List Int64} {l2 : List Int32} {z8 z9 : Option Value} (hX : Ok X) (hR : RE X e) (hN : NMv X e) (hO : okE e) (hT : TRw X t oc vc) (hk4 : k < 24) (hx : x = 681 * t + 1 + 3 * k) (hc : c = 681 * t + 73) (hto : (X.2.1 251).getD (x + 2) 0 = nI to) (hi : i < to) (hto3 : to ≤ 300) (hl1 : l1.length = 330) (hl2 : l2.length = 330) {a y : Int} {r : List Int} (ha : sm a) (hy : sm y) (hk0 : oc i = 13) (hlv : (List.length r + 1 + 1) ≤ i) (hlb : (List.length bs) ≤ i) (hv : stkW (y :: a :: r) l1) (hb : stkB bs l2) (kx : ∀ (l1 : List Int64) (l2 : List Int32) (z8 z9 : Option Value), l1.length = 330 → l2.length = 330 → stkW r l1 → stkB (cp2 13 a y :: bs) l2 → JM 2 m_R_summedUp Q 38 [some (.ref 244), some (.int (nI t)), some (.int (nI k)), some (.int (nI x)), some (.int (nI c)), some (.int (nI (List.length r))), some (.int (nI (List.length (cp2 13 a y :: bs)))), some (.int (nI (i + 1))), z8, z9] [] (rk2 X l1 l2)) : JM 2 m_R_summedUp Q 38 [some (.ref 244), some (.int (nI t)), some (.int (nI k)), some (.int (nI x)), some (.int (nI c)), some (.int (nI (List.length r + 1 + 1))), some (.int (nI (List.length bs))), some (.int (nI i)), z8, z9] [] (rk2 X l1 l2) := by
  have ht4 := hT.1
  have hm8 := hO.1
  have hoc := (hT.2 i (by omega) (by omega)).2.2.1
  have hvc := (hT.2 i (by omega) (by omega)).2.2.2
  have hX1 : Ok (rk2 X l1 l2) := okRk hX hl1 hl2
  refine J_iload d_R_summedUp_38 rfl ?_
  refine J_aload_n (i := 0) d_R_summedUp_40 rfl rfl ?_
  refine M_getR (b := 251) d_R_summedUp_41 f_R_28 rfl rfl rfl ?_
  refine J_iload_n (i := 3) d_R_summedUp_44 rfl rfl ?_
  refine J_iconst (v := nI 2) d_R_summedUp_45 rfl ?_
  refine N_iadd d_R_summedUp_46 ?_
  refine N_iald (x := (nI to)) d_R_summedUp_47 rfl (by omega) (ltL (okRk hX (by first | exact hl1 | (simp only [List.length_set]; exact hl1)) (by first | exact hl2 | (simp only [List.length_set]; exact hl2))) (a := 251) (n := 2724) (by decide) rfl (by omega)) hto ?_
  refine N_icmp_ge (tgt := 355) d_R_summedUp_48 (by decide) (by omega) (by omega) (fun c48 => absurd c48 (by omega)) (fun c48 => ?_)
  refine J_aload_n (i := 0) d_R_summedUp_51 rfl rfl ?_
  refine M_getR (b := 251) d_R_summedUp_52 f_R_28 rfl rfl rfl ?_
  refine J_iload d_R_summedUp_55 rfl ?_
  refine J_iconst (v := nI 2) d_R_summedUp_57 rfl ?_
  refine J_iload d_R_summedUp_58 rfl ?_
  refine N_imul d_R_summedUp_60 ?_
  refine N_iadd d_R_summedUp_61 ?_
  refine N_iald (x := (nI (oc i))) d_R_summedUp_62 rfl (by omega) (ltL (okRk hX (by first | exact hl1 | (simp only [List.length_set]; exact hl1)) (by first | exact hl2 | (simp only [List.length_set]; exact hl2))) (a := 251) (n := 2724) (by decide) rfl (by omega)) (by rw [hc]; exact (hT.2 i (by omega) (by omega)).1) ?_
  rw [hk0]
  refine J_istore (L1 := [some (.ref 244), some (.int (nI t)), some (.int (nI k)), some (.int (nI x)), some (.int (nI c)), some (.int (nI (List.length r + 1 + 1))), some (.int (nI (List.length bs))), some (.int (nI i)), some (.int (nI 13)), z9]) d_R_summedUp_63 (by decide) rfl ?_
  refine J_aload_n (i := 0) d_R_summedUp_65 rfl rfl ?_
  refine M_getR (b := 251) d_R_summedUp_66 f_R_28 rfl rfl rfl ?_
  refine J_iload d_R_summedUp_69 rfl ?_
  refine J_iconst (v := nI 2) d_R_summedUp_71 rfl ?_
  refine J_iload d_R_summedUp_72 rfl ?_
  refine N_imul d_R_summedUp_74 ?_
  refine N_iadd d_R_summedUp_75 ?_
  refine J_iconst (v := nI 1) d_R_summedUp_76 rfl ?_
  refine N_iadd d_R_summedUp_77 ?_
  refine N_iald (x := (nI (vc i))) d_R_summedUp_78 rfl (by omega) (ltL (okRk hX (by first | exact hl1 | (simp only [List.length_set]; exact hl1)) (by first | exact hl2 | (simp only [List.length_set]; exact hl2))) (a := 251) (n := 2724) (by decide) rfl (by omega)) (by rw [hc]; exact (hT.2 i (by omega) (by omega)).2.1) ?_
  refine J_istore (L1 := [some (.ref 244), some (.int (nI t)), some (.int (nI k)), some (.int (nI x)), some (.int (nI c)), some (.int (nI (List.length r + 1 + 1))), some (.int (nI (List.length bs))), some (.int (nI i)), some (.int (nI 13)), some (.int (nI (vc i)))]) d_R_summedUp_79 (by decide) rfl ?_
  refine J_iload d_R_summedUp_81 rfl ?_
  refine J_iconst (v := nI 1) d_R_summedUp_83 rfl ?_
  refine N_icmp_gt (tgt := 119) d_R_summedUp_84 (by decide) (by omega) (by omega) (fun c84 => ?_) (fun c84 => absurd c84 (by decide))
  refine J_iload d_R_summedUp_119 rfl ?_
  refine J_iconst (v := nI 3) d_R_summedUp_121 rfl ?_
  refine N_icmp_ne (tgt := 160) d_R_summedUp_122 (by decide) (by omega) (by omega) (fun c122 => ?_) (fun c122 => absurd c122 (by decide))
  refine J_iload d_R_summedUp_160 rfl ?_
  refine J_iconst (v := nI 5) d_R_summedUp_162 rfl ?_
  refine N_icmp_gt (tgt := 193) d_R_summedUp_163 (by decide) (by omega) (by omega) (fun c163 => ?_) (fun c163 => absurd c163 (by decide))
  refine J_iload d_R_summedUp_193 rfl ?_
  refine J_bipush (v := nI 10) d_R_summedUp_195 rfl ?_
  refine N_icmp_ge (tgt := 236) d_R_summedUp_197 (by decide) (by omega) (by omega) (fun c197 => ?_) (fun c197 => absurd c197 (by decide))
  refine J_iload d_R_summedUp_236 rfl ?_
  refine J_bipush (v := nI 20) d_R_summedUp_238 rfl ?_
  refine N_icmp_ge (tgt := 280) d_R_summedUp_240 (by decide) (by omega) (by omega) (fun c240 => absurd c240 (by decide)) (fun c240 => ?_)
  refine J_iinc (v := ((nI (List.length r + 1 + 1)) + (-2))) (L1 := [some (.ref 244), some (.int (nI t)), some (.int (nI k)), some (.int (nI x)), some (.int (nI c)), some (.int ((nI (List.length r + 1 + 1)) + (-2))), some (.int (nI (List.length bs))), some (.int (nI i)), some (.int (nI 13)), some (.int (nI (vc i)))]) d_R_summedUp_243 rfl rfl (by decide) rfl ?_
  rw [nI_dec2]
  refine J_aload_n (i := 0) d_R_summedUp_246 rfl rfl ?_
  refine M_getR (b := 258) d_R_summedUp_247 f_R_57 rfl rfl rfl ?_
  refine J_iload d_R_summedUp_250 rfl ?_
  refine J_iload d_R_summedUp_252 rfl ?_
  refine J_aload_n (i := 0) d_R_summedUp_254 rfl rfl ?_
  refine M_getR (b := 257) d_R_summedUp_255 f_R_53 rfl rfl rfl ?_
  refine J_iload d_R_summedUp_258 rfl ?_
  refine N_lald (x := (lI a)) d_R_summedUp_260 rfl (by omega) (ltLL (okRk hX (by first | exact hl1 | (simp only [List.length_set]; exact hl1)) (by first | exact hl2 | (simp only [List.length_set]; exact hl2))) (a := 257) (n := 330) rfl (by omega)) (show l1.getD (List.length r) 0 = lI a from hv.2.1) ?_
  refine J_aload_n (i := 0) d_R_summedUp_261 rfl rfl ?_
  refine M_getR (b := 257) d_R_summedUp_262 f_R_53 rfl rfl rfl ?_
  refine J_iload d_R_summedUp_265 rfl ?_
  refine J_iconst (v := nI 1) d_R_summedUp_267 rfl ?_
  refine N_iadd d_R_summedUp_268 ?_
  refine N_lald (x := (lI y)) d_R_summedUp_269 rfl (by omega) (ltLL (okRk hX (by first | exact hl1 | (simp only [List.length_set]; exact hl1)) (by first | exact hl2 | (simp only [List.length_set]; exact hl2))) (a := 257) (n := 330) rfl (by omega)) (show l1.getD (List.length r + 1) 0 = lI y from hv.1) ?_
  refine CS_B (av := [.int (nI 13), .long (lI a), .long (lI y)]) d_R_summedUp_270 s_R_348 (S_R_isAsked_13 ha hy) (by decide) rfl rfl (Nat.le_of_ble_eq_true rfl) ?_
  refine N_zast d_R_summedUp_273 rfl (by decide) (by omega) (ltL (okRk hX (by first | exact hl1 | (simp only [List.length_set]; exact hl1)) (by first | exact hl2 | (simp only [List.length_set]; exact hl2))) (a := 258) (n := 330) (by decide) rfl (by omega)) ?_
  rw [rk_A, show (rk2 X l1 l2).2.1 258 = l2 from rfl]
  refine N_iinc (a := (List.length bs)) (c := 1) (L1 := [some (.ref 244), some (.int (nI t)), some (.int (nI k)), some (.int (nI x)), some (.int (nI c)), some (.int (nI (List.length r))), some (.int (nI ((List.length bs) + 1))), some (.int (nI i)), some (.int (nI 13)), some (.int (nI (vc i)))]) d_R_summedUp_274 rfl rfl (by decide) rfl ?_
  refine J_goto (tgt := 349) d_R_summedUp_277 (by decide) ?_
  refine N_iinc (a := i) (c := 1) (L1 := [some (.ref 244), some (.int (nI t)), some (.int (nI k)), some (.int (nI x)), some (.int (nI c)), some (.int (nI (List.length r))), some (.int (nI ((List.length bs) + 1))), some (.int (nI (i + 1))), some (.int (nI 13)), some (.int (nI (vc i)))]) d_R_summedUp_349 rfl rfl (by decide) rfl ?_
  refine J_goto (tgt := 38) d_R_summedUp_352 (by decide) ?_
  exact kx _ _ _ _ (by first | exact hl1 | (simp only [List.length_set]; exact hl1)) (by first | exact hl2 | (simp only [List.length_set]; exact hl2)) hv.2.2 (stb_push (by rw [hl2]; omega) hb)

theorem rr_14 {X : Mem} {e : Env} {oc vc : Nat → Nat} {Q : Option Value → Mem → Prop} {t k x c i w to : Nat} {vs : List Int} {bs : List Bool} {l1 : List Int64} {l2 : List Int32} {z8 z9 : Option Value} (hX : Ok X) (hR : RE X e) (hN : NMv X e) (hO : okE e) (hT : TRw X t oc vc) (hk4 : k < 24) (hx : x = 681 * t + 1 + 3 * k) (hc : c = 681 * t + 73) (hto : (X.2.1 251).getD (x + 2) 0 = nI to) (hi : i < to) (hto3 : to ≤ 300) (hl1 : l1.length = 330) (hl2 : l2.length = 330) {a y : Int} {r : List Int} (ha : sm a) (hy : sm y) (hk0 : oc i = 14) (hlv : (List.length r + 1 + 1) ≤ i) (hlb : (List.length bs) ≤ i) (hv : stkW (y :: a :: r) l1) (hb : stkB bs l2) (kx : ∀ (l1 : List Int64) (l2 : List Int32) (z8 z9 : Option Value), l1.length = 330 → l2.length = 330 → stkW r l1 → stkB (cp2 14 a y :: bs) l2 → JM 2 m_R_summedUp Q 38 [some (.ref 244), some (.int (nI t)), some (.int (nI k)), some (.int (nI x)), some (.int (nI c)), some (.int (nI (List.length r))), some (.int (nI (List.length (cp2 14 a y :: bs)))), some (.int (nI (i + 1))), z8, z9] [] (rk2 X l1 l2)) : JM 2 m_R_summedUp Q 38 [some (.ref 244), some (.int (nI t)), some (.int (nI k)), some (.int (nI x)), some (.int (nI c)), some (.int (nI (List.length r + 1 + 1))), some (.int (nI (List.length bs))), some (.int (nI i)), z8, z9] [] (rk2 X l1 l2) := by
  have ht4 := hT.1
  have hm8 := hO.1
  have hoc := (hT.2 i (by omega) (by omega)).2.2.1
  have hvc := (hT.2 i (by omega) (by omega)).2.2.2
  have hX1 : Ok (rk2 X l1 l2) := okRk hX hl1 hl2
  refine J_iload d_R_summedUp_38 rfl ?_
  refine J_aload_n (i := 0) d_R_summedUp_40 rfl rfl ?_
  refine M_getR (b := 251) d_R_summedUp_41 f_R_28 rfl rfl rfl ?_
  refine J_iload_n (i := 3) d_R_summedUp_44 rfl rfl ?_
  refine J_iconst (v := nI 2) d_R_summedUp_45 rfl ?_
  refine N_iadd d_R_summedUp_46 ?_
  refine N_iald (x := (nI to)) d_R_summedUp_47 rfl (by omega) (ltL (okRk hX (by first | exact hl1 | (simp only [List.length_set]; exact hl1)) (by first | exact hl2 | (simp only [List.length_set]; exact hl2))) (a := 251) (n := 2724) (by decide) rfl (by omega)) hto ?_
  refine N_icmp_ge (tgt := 355) d_R_summedUp_48 (by decide) (by omega) (by omega) (fun c48 => absurd c48 (by omega)) (fun c48 => ?_)
  refine J_aload_n (i := 0) d_R_summedUp_51 rfl rfl ?_
  refine M_getR (b := 251) d_R_summedUp_52 f_R_28 rfl rfl rfl ?_
  refine J_iload d_R_summedUp_55 rfl ?_
  refine J_iconst (v := nI 2) d_R_summedUp_57 rfl ?_
  refine J_iload d_R_summedUp_58 rfl ?_
  refine N_imul d_R_summedUp_60 ?_
  refine N_iadd d_R_summedUp_61 ?_
  refine N_iald (x := (nI (oc i))) d_R_summedUp_62 rfl (by omega) (ltL (okRk hX (by first | exact hl1 | (simp only [List.length_set]; exact hl1)) (by first | exact hl2 | (simp only [List.length_set]; exact hl2))) (a := 251) (n := 2724) (by decide) rfl (by omega)) (by rw [hc]; exact (hT.2 i (by omega) (by omega)).1) ?_
  rw [hk0]
  refine J_istore (L1 := [some (.ref 244), some (.int (nI t)), some (.int (nI k)), some (.int (nI x)), some (.int (nI c)), some (.int (nI (List.length r + 1 + 1))), some (.int (nI (List.length bs))), some (.int (nI i)), some (.int (nI 14)), z9]) d_R_summedUp_63 (by decide) rfl ?_
  refine J_aload_n (i := 0) d_R_summedUp_65 rfl rfl ?_
  refine M_getR (b := 251) d_R_summedUp_66 f_R_28 rfl rfl rfl ?_
  refine J_iload d_R_summedUp_69 rfl ?_
  refine J_iconst (v := nI 2) d_R_summedUp_71 rfl ?_
  refine J_iload d_R_summedUp_72 rfl ?_
  refine N_imul d_R_summedUp_74 ?_
  refine N_iadd d_R_summedUp_75 ?_
  refine J_iconst (v := nI 1) d_R_summedUp_76 rfl ?_
  refine N_iadd d_R_summedUp_77 ?_
  refine N_iald (x := (nI (vc i))) d_R_summedUp_78 rfl (by omega) (ltL (okRk hX (by first | exact hl1 | (simp only [List.length_set]; exact hl1)) (by first | exact hl2 | (simp only [List.length_set]; exact hl2))) (a := 251) (n := 2724) (by decide) rfl (by omega)) (by rw [hc]; exact (hT.2 i (by omega) (by omega)).2.1) ?_
  refine J_istore (L1 := [some (.ref 244), some (.int (nI t)), some (.int (nI k)), some (.int (nI x)), some (.int (nI c)), some (.int (nI (List.length r + 1 + 1))), some (.int (nI (List.length bs))), some (.int (nI i)), some (.int (nI 14)), some (.int (nI (vc i)))]) d_R_summedUp_79 (by decide) rfl ?_
  refine J_iload d_R_summedUp_81 rfl ?_
  refine J_iconst (v := nI 1) d_R_summedUp_83 rfl ?_
  refine N_icmp_gt (tgt := 119) d_R_summedUp_84 (by decide) (by omega) (by omega) (fun c84 => ?_) (fun c84 => absurd c84 (by decide))
  refine J_iload d_R_summedUp_119 rfl ?_
  refine J_iconst (v := nI 3) d_R_summedUp_121 rfl ?_
  refine N_icmp_ne (tgt := 160) d_R_summedUp_122 (by decide) (by omega) (by omega) (fun c122 => ?_) (fun c122 => absurd c122 (by decide))
  refine J_iload d_R_summedUp_160 rfl ?_
  refine J_iconst (v := nI 5) d_R_summedUp_162 rfl ?_
  refine N_icmp_gt (tgt := 193) d_R_summedUp_163 (by decide) (by omega) (by omega) (fun c163 => ?_) (fun c163 => absurd c163 (by decide))
  refine J_iload d_R_summedUp_193 rfl ?_
  refine J_bipush (v := nI 10) d_R_summedUp_195 rfl ?_
  refine N_icmp_ge (tgt := 236) d_R_summedUp_197 (by decide) (by omega) (by omega) (fun c197 => ?_) (fun c197 => absurd c197 (by decide))
  refine J_iload d_R_summedUp_236 rfl ?_
  refine J_bipush (v := nI 20) d_R_summedUp_238 rfl ?_
  refine N_icmp_ge (tgt := 280) d_R_summedUp_240 (by decide) (by omega) (by omega) (fun c240 => absurd c240 (by decide)) (fun c240 => ?_)
  refine J_iinc (v := ((nI (List.length r + 1 + 1)) + (-2))) (L1 := [some (.ref 244), some (.int (nI t)), some (.int (nI k)), some (.int (nI x)), some (.int (nI c)), some (.int ((nI (List.length r + 1 + 1)) + (-2))), some (.int (nI (List.length bs))), some (.int (nI i)), some (.int (nI 14)), some (.int (nI (vc i)))]) d_R_summedUp_243 rfl rfl (by decide) rfl ?_
  rw [nI_dec2]
  refine J_aload_n (i := 0) d_R_summedUp_246 rfl rfl ?_
  refine M_getR (b := 258) d_R_summedUp_247 f_R_57 rfl rfl rfl ?_
  refine J_iload d_R_summedUp_250 rfl ?_
  refine J_iload d_R_summedUp_252 rfl ?_
  refine J_aload_n (i := 0) d_R_summedUp_254 rfl rfl ?_
  refine M_getR (b := 257) d_R_summedUp_255 f_R_53 rfl rfl rfl ?_
  refine J_iload d_R_summedUp_258 rfl ?_
  refine N_lald (x := (lI a)) d_R_summedUp_260 rfl (by omega) (ltLL (okRk hX (by first | exact hl1 | (simp only [List.length_set]; exact hl1)) (by first | exact hl2 | (simp only [List.length_set]; exact hl2))) (a := 257) (n := 330) rfl (by omega)) (show l1.getD (List.length r) 0 = lI a from hv.2.1) ?_
  refine J_aload_n (i := 0) d_R_summedUp_261 rfl rfl ?_
  refine M_getR (b := 257) d_R_summedUp_262 f_R_53 rfl rfl rfl ?_
  refine J_iload d_R_summedUp_265 rfl ?_
  refine J_iconst (v := nI 1) d_R_summedUp_267 rfl ?_
  refine N_iadd d_R_summedUp_268 ?_
  refine N_lald (x := (lI y)) d_R_summedUp_269 rfl (by omega) (ltLL (okRk hX (by first | exact hl1 | (simp only [List.length_set]; exact hl1)) (by first | exact hl2 | (simp only [List.length_set]; exact hl2))) (a := 257) (n := 330) rfl (by omega)) (show l1.getD (List.length r + 1) 0 = lI y from hv.1) ?_
  refine CS_B (av := [.int (nI 14), .long (lI a), .long (lI y)]) d_R_summedUp_270 s_R_348 (S_R_isAsked_14 ha hy) (by decide) rfl rfl (Nat.le_of_ble_eq_true rfl) ?_
  refine N_zast d_R_summedUp_273 rfl (by decide) (by omega) (ltL (okRk hX (by first | exact hl1 | (simp only [List.length_set]; exact hl1)) (by first | exact hl2 | (simp only [List.length_set]; exact hl2))) (a := 258) (n := 330) (by decide) rfl (by omega)) ?_
  rw [rk_A, show (rk2 X l1 l2).2.1 258 = l2 from rfl]
  refine N_iinc (a := (List.length bs)) (c := 1) (L1 := [some (.ref 244), some (.int (nI t)), some (.int (nI k)), some (.int (nI x)), some (.int (nI c)), some (.int (nI (List.length r))), some (.int (nI ((List.length bs) + 1))), some (.int (nI i)), some (.int (nI 14)), some (.int (nI (vc i)))]) d_R_summedUp_274 rfl rfl (by decide) rfl ?_
  refine J_goto (tgt := 349) d_R_summedUp_277 (by decide) ?_
  refine N_iinc (a := i) (c := 1) (L1 := [some (.ref 244), some (.int (nI t)), some (.int (nI k)), some (.int (nI x)), some (.int (nI c)), some (.int (nI (List.length r))), some (.int (nI ((List.length bs) + 1))), some (.int (nI (i + 1))), some (.int (nI 14)), some (.int (nI (vc i)))]) d_R_summedUp_349 rfl rfl (by decide) rfl ?_
  refine J_goto (tgt := 38) d_R_summedUp_352 (by decide) ?_
  exact kx _ _ _ _ (by first | exact hl1 | (simp only [List.length_set]; exact hl1)) (by first | exact hl2 | (simp only [List.length_set]; exact hl2)) hv.2.2 (stb_push (by rw [hl2]; omega) hb)

theorem rr_15 {X : Mem} {e : Env} {oc vc : Nat → Nat} {Q : Option Value → Mem → Prop} {t k x c i w to : Nat} {vs : List Int} {bs : List Bool} {l1 : List Int64} {l2 : List Int32} {z8 z9 : Option Value} (hX : Ok X) (hR : RE X e) (hN : NMv X e) (hO : okE e) (hT : TRw X t oc vc) (hk4 : k < 24) (hx : x = 681 * t + 1 + 3 * k) (hc : c = 681 * t + 73) (hto : (X.2.1 251).getD (x + 2) 0 = nI to) (hi : i < to) (hto3 : to ≤ 300) (hl1 : l1.length = 330) (hl2 : l2.length = 330) {a y : Int} {r : List Int} (ha : sm a) (hy : sm y) (hk0 : oc i = 15) (hlv : (List.length r + 1 + 1) ≤ i) (hlb : (List.length bs) ≤ i) (hv : stkW (y :: a :: r) l1) (hb : stkB bs l2) (kx : ∀ (l1 : List Int64) (l2 : List Int32) (z8 z9 : Option Value), l1.length = 330 → l2.length = 330 → stkW r l1 → stkB (cp2 15 a y :: bs) l2 → JM 2 m_R_summedUp Q 38 [some (.ref 244), some (.int (nI t)), some (.int (nI k)), some (.int (nI x)), some (.int (nI c)), some (.int (nI (List.length r))), some (.int (nI (List.length (cp2 15 a y :: bs)))), some (.int (nI (i + 1))), z8, z9] [] (rk2 X l1 l2)) : JM 2 m_R_summedUp Q 38 [some (.ref 244), some (.int (nI t)), some (.int (nI k)), some (.int (nI x)), some (.int (nI c)), some (.int (nI (List.length r + 1 + 1))), some (.int (nI (List.length bs))), some (.int (nI i)), z8, z9] [] (rk2 X l1 l2) := by
  have ht4 := hT.1
  have hm8 := hO.1
  have hoc := (hT.2 i (by omega) (by omega)).2.2.1
  have hvc := (hT.2 i (by omega) (by omega)).2.2.2
  have hX1 : Ok (rk2 X l1 l2) := okRk hX hl1 hl2
  refine J_iload d_R_summedUp_38 rfl ?_
  refine J_aload_n (i := 0) d_R_summedUp_40 rfl rfl ?_
  refine M_getR (b := 251) d_R_summedUp_41 f_R_28 rfl rfl rfl ?_
  refine J_iload_n (i := 3) d_R_summedUp_44 rfl rfl ?_
  refine J_iconst (v := nI 2) d_R_summedUp_45 rfl ?_
  refine N_iadd d_R_summedUp_46 ?_
  refine N_iald (x := (nI to)) d_R_summedUp_47 rfl (by omega) (ltL (okRk hX (by first | exact hl1 | (simp only [List.length_set]; exact hl1)) (by first | exact hl2 | (simp only [List.length_set]; exact hl2))) (a := 251) (n := 2724) (by decide) rfl (by omega)) hto ?_
  refine N_icmp_ge (tgt := 355) d_R_summedUp_48 (by decide) (by omega) (by omega) (fun c48 => absurd c48 (by omega)) (fun c48 => ?_)
  refine J_aload_n (i := 0) d_R_summedUp_51 rfl rfl ?_
  refine M_getR (b := 251) d_R_summedUp_52 f_R_28 rfl rfl rfl ?_
  refine J_iload d_R_summedUp_55 rfl ?_
  refine J_iconst (v := nI 2) d_R_summedUp_57 rfl ?_
  refine J_iload d_R_summedUp_58 rfl ?_
  refine N_imul d_R_summedUp_60 ?_
  refine N_iadd d_R_summedUp_61 ?_
  refine N_iald (x := (nI (oc i))) d_R_summedUp_62 rfl (by omega) (ltL (okRk hX (by first | exact hl1 | (simp only [List.length_set]; exact hl1)) (by first | exact hl2 | (simp only [List.length_set]; exact hl2))) (a := 251) (n := 2724) (by decide) rfl (by omega)) (by rw [hc]; exact (hT.2 i (by omega) (by omega)).1) ?_
  rw [hk0]
  refine J_istore (L1 := [some (.ref 244), some (.int (nI t)), some (.int (nI k)), some (.int (nI x)), some (.int (nI c)), some (.int (nI (List.length r + 1 + 1))), some (.int (nI (List.length bs))), some (.int (nI i)), some (.int (nI 15)), z9]) d_R_summedUp_63 (by decide) rfl ?_
  refine J_aload_n (i := 0) d_R_summedUp_65 rfl rfl ?_
  refine M_getR (b := 251) d_R_summedUp_66 f_R_28 rfl rfl rfl ?_
  refine J_iload d_R_summedUp_69 rfl ?_
  refine J_iconst (v := nI 2) d_R_summedUp_71 rfl ?_
  refine J_iload d_R_summedUp_72 rfl ?_
  refine N_imul d_R_summedUp_74 ?_
  refine N_iadd d_R_summedUp_75 ?_
  refine J_iconst (v := nI 1) d_R_summedUp_76 rfl ?_
  refine N_iadd d_R_summedUp_77 ?_
  refine N_iald (x := (nI (vc i))) d_R_summedUp_78 rfl (by omega) (ltL (okRk hX (by first | exact hl1 | (simp only [List.length_set]; exact hl1)) (by first | exact hl2 | (simp only [List.length_set]; exact hl2))) (a := 251) (n := 2724) (by decide) rfl (by omega)) (by rw [hc]; exact (hT.2 i (by omega) (by omega)).2.1) ?_
  refine J_istore (L1 := [some (.ref 244), some (.int (nI t)), some (.int (nI k)), some (.int (nI x)), some (.int (nI c)), some (.int (nI (List.length r + 1 + 1))), some (.int (nI (List.length bs))), some (.int (nI i)), some (.int (nI 15)), some (.int (nI (vc i)))]) d_R_summedUp_79 (by decide) rfl ?_
  refine J_iload d_R_summedUp_81 rfl ?_
  refine J_iconst (v := nI 1) d_R_summedUp_83 rfl ?_
  refine N_icmp_gt (tgt := 119) d_R_summedUp_84 (by decide) (by omega) (by omega) (fun c84 => ?_) (fun c84 => absurd c84 (by decide))
  refine J_iload d_R_summedUp_119 rfl ?_
  refine J_iconst (v := nI 3) d_R_summedUp_121 rfl ?_
  refine N_icmp_ne (tgt := 160) d_R_summedUp_122 (by decide) (by omega) (by omega) (fun c122 => ?_) (fun c122 => absurd c122 (by decide))
  refine J_iload d_R_summedUp_160 rfl ?_
  refine J_iconst (v := nI 5) d_R_summedUp_162 rfl ?_
  refine N_icmp_gt (tgt := 193) d_R_summedUp_163 (by decide) (by omega) (by omega) (fun c163 => ?_) (fun c163 => absurd c163 (by decide))
  refine J_iload d_R_summedUp_193 rfl ?_
  refine J_bipush (v := nI 10) d_R_summedUp_195 rfl ?_
  refine N_icmp_ge (tgt := 236) d_R_summedUp_197 (by decide) (by omega) (by omega) (fun c197 => ?_) (fun c197 => absurd c197 (by decide))
  refine J_iload d_R_summedUp_236 rfl ?_
  refine J_bipush (v := nI 20) d_R_summedUp_238 rfl ?_
  refine N_icmp_ge (tgt := 280) d_R_summedUp_240 (by decide) (by omega) (by omega) (fun c240 => absurd c240 (by decide)) (fun c240 => ?_)
  refine J_iinc (v := ((nI (List.length r + 1 + 1)) + (-2))) (L1 := [some (.ref 244), some (.int (nI t)), some (.int (nI k)), some (.int (nI x)), some (.int (nI c)), some (.int ((nI (List.length r + 1 + 1)) + (-2))), some (.int (nI (List.length bs))), some (.int (nI i)), some (.int (nI 15)), some (.int (nI (vc i)))]) d_R_summedUp_243 rfl rfl (by decide) rfl ?_
  rw [nI_dec2]
  refine J_aload_n (i := 0) d_R_summedUp_246 rfl rfl ?_
  refine M_getR (b := 258) d_R_summedUp_247 f_R_57 rfl rfl rfl ?_
  refine J_iload d_R_summedUp_250 rfl ?_
  refine J_iload d_R_summedUp_252 rfl ?_
  refine J_aload_n (i := 0) d_R_summedUp_254 rfl rfl ?_
  refine M_getR (b := 257) d_R_summedUp_255 f_R_53 rfl rfl rfl ?_
  refine J_iload d_R_summedUp_258 rfl ?_
  refine N_lald (x := (lI a)) d_R_summedUp_260 rfl (by omega) (ltLL (okRk hX (by first | exact hl1 | (simp only [List.length_set]; exact hl1)) (by first | exact hl2 | (simp only [List.length_set]; exact hl2))) (a := 257) (n := 330) rfl (by omega)) (show l1.getD (List.length r) 0 = lI a from hv.2.1) ?_
  refine J_aload_n (i := 0) d_R_summedUp_261 rfl rfl ?_
  refine M_getR (b := 257) d_R_summedUp_262 f_R_53 rfl rfl rfl ?_
  refine J_iload d_R_summedUp_265 rfl ?_
  refine J_iconst (v := nI 1) d_R_summedUp_267 rfl ?_
  refine N_iadd d_R_summedUp_268 ?_
  refine N_lald (x := (lI y)) d_R_summedUp_269 rfl (by omega) (ltLL (okRk hX (by first | exact hl1 | (simp only [List.length_set]; exact hl1)) (by first | exact hl2 | (simp only [List.length_set]; exact hl2))) (a := 257) (n := 330) rfl (by omega)) (show l1.getD (List.length r + 1) 0 = lI y from hv.1) ?_
  refine CS_B (av := [.int (nI 15), .long (lI a), .long (lI y)]) d_R_summedUp_270 s_R_348 (S_R_isAsked_15 ha hy) (by decide) rfl rfl (Nat.le_of_ble_eq_true rfl) ?_
  refine N_zast d_R_summedUp_273 rfl (by decide) (by omega) (ltL (okRk hX (by first | exact hl1 | (simp only [List.length_set]; exact hl1)) (by first | exact hl2 | (simp only [List.length_set]; exact hl2))) (a := 258) (n := 330) (by decide) rfl (by omega)) ?_
  rw [rk_A, show (rk2 X l1 l2).2.1 258 = l2 from rfl]
  refine N_iinc (a := (List.length bs)) (c := 1) (L1 := [some (.ref 244), some (.int (nI t)), some (.int (nI k)), some (.int (nI x)), some (.int (nI c)), some (.int (nI (List.length r))), some (.int (nI ((List.length bs) + 1))), some (.int (nI i)), some (.int (nI 15)), some (.int (nI (vc i)))]) d_R_summedUp_274 rfl rfl (by decide) rfl ?_
  refine J_goto (tgt := 349) d_R_summedUp_277 (by decide) ?_
  refine N_iinc (a := i) (c := 1) (L1 := [some (.ref 244), some (.int (nI t)), some (.int (nI k)), some (.int (nI x)), some (.int (nI c)), some (.int (nI (List.length r))), some (.int (nI ((List.length bs) + 1))), some (.int (nI (i + 1))), some (.int (nI 15)), some (.int (nI (vc i)))]) d_R_summedUp_349 rfl rfl (by decide) rfl ?_
  refine J_goto (tgt := 38) d_R_summedUp_352 (by decide) ?_
  exact kx _ _ _ _ (by first | exact hl1 | (simp only [List.length_set]; exact hl1)) (by first | exact hl2 | (simp only [List.length_set]; exact hl2)) hv.2.2 (stb_push (by rw [hl2]; omega) hb)

theorem rr_20 {X : Mem} {e : Env} {oc vc : Nat → Nat} {Q : Option Value → Mem → Prop} {t k x c i w to : Nat} {vs : List Int} {bs : List Bool} {l1 : List Int64} {l2 : List Int32} {z8 z9 : Option Value} (hX : Ok X) (hR : RE X e) (hN : NMv X e) (hO : okE e) (hT : TRw X t oc vc) (hk4 : k < 24) (hx : x = 681 * t + 1 + 3 * k) (hc : c = 681 * t + 73) (hto : (X.2.1 251).getD (x + 2) 0 = nI to) (hi : i < to) (hto3 : to ≤ 300) (hl1 : l1.length = 330) (hl2 : l2.length = 330) {d : Bool} {u : List Bool} (hk0 : oc i = 20) (hlv : (List.length vs) ≤ i) (hlb : (List.length u + 1) ≤ i) (hv : stkW vs l1) (hb : stkB (d :: u) l2) (kx : ∀ (l1 : List Int64) (l2 : List Int32) (z8 z9 : Option Value), l1.length = 330 → l2.length = 330 → stkW vs l1 → stkB ((!d) :: u) l2 → JM 2 m_R_summedUp Q 38 [some (.ref 244), some (.int (nI t)), some (.int (nI k)), some (.int (nI x)), some (.int (nI c)), some (.int (nI (List.length vs))), some (.int (nI (List.length ((!d) :: u)))), some (.int (nI (i + 1))), z8, z9] [] (rk2 X l1 l2)) : JM 2 m_R_summedUp Q 38 [some (.ref 244), some (.int (nI t)), some (.int (nI k)), some (.int (nI x)), some (.int (nI c)), some (.int (nI (List.length vs))), some (.int (nI (List.length u + 1))), some (.int (nI i)), z8, z9] [] (rk2 X l1 l2) := by
  have ht4 := hT.1
  have hm8 := hO.1
  have hoc := (hT.2 i (by omega) (by omega)).2.2.1
  have hvc := (hT.2 i (by omega) (by omega)).2.2.2
  have hX1 : Ok (rk2 X l1 l2) := okRk hX hl1 hl2
  refine J_iload d_R_summedUp_38 rfl ?_
  refine J_aload_n (i := 0) d_R_summedUp_40 rfl rfl ?_
  refine M_getR (b := 251) d_R_summedUp_41 f_R_28 rfl rfl rfl ?_
  refine J_iload_n (i := 3) d_R_summedUp_44 rfl rfl ?_
  refine J_iconst (v := nI 2) d_R_summedUp_45 rfl ?_
  refine N_iadd d_R_summedUp_46 ?_
  refine N_iald (x := (nI to)) d_R_summedUp_47 rfl (by omega) (ltL (okRk hX (by first | exact hl1 | (simp only [List.length_set]; exact hl1)) (by first | exact hl2 | (simp only [List.length_set]; exact hl2))) (a := 251) (n := 2724) (by decide) rfl (by omega)) hto ?_
  refine N_icmp_ge (tgt := 355) d_R_summedUp_48 (by decide) (by omega) (by omega) (fun c48 => absurd c48 (by omega)) (fun c48 => ?_)
  refine J_aload_n (i := 0) d_R_summedUp_51 rfl rfl ?_
  refine M_getR (b := 251) d_R_summedUp_52 f_R_28 rfl rfl rfl ?_
  refine J_iload d_R_summedUp_55 rfl ?_
  refine J_iconst (v := nI 2) d_R_summedUp_57 rfl ?_
  refine J_iload d_R_summedUp_58 rfl ?_
  refine N_imul d_R_summedUp_60 ?_
  refine N_iadd d_R_summedUp_61 ?_
  refine N_iald (x := (nI (oc i))) d_R_summedUp_62 rfl (by omega) (ltL (okRk hX (by first | exact hl1 | (simp only [List.length_set]; exact hl1)) (by first | exact hl2 | (simp only [List.length_set]; exact hl2))) (a := 251) (n := 2724) (by decide) rfl (by omega)) (by rw [hc]; exact (hT.2 i (by omega) (by omega)).1) ?_
  rw [hk0]
  refine J_istore (L1 := [some (.ref 244), some (.int (nI t)), some (.int (nI k)), some (.int (nI x)), some (.int (nI c)), some (.int (nI (List.length vs))), some (.int (nI (List.length u + 1))), some (.int (nI i)), some (.int (nI 20)), z9]) d_R_summedUp_63 (by decide) rfl ?_
  refine J_aload_n (i := 0) d_R_summedUp_65 rfl rfl ?_
  refine M_getR (b := 251) d_R_summedUp_66 f_R_28 rfl rfl rfl ?_
  refine J_iload d_R_summedUp_69 rfl ?_
  refine J_iconst (v := nI 2) d_R_summedUp_71 rfl ?_
  refine J_iload d_R_summedUp_72 rfl ?_
  refine N_imul d_R_summedUp_74 ?_
  refine N_iadd d_R_summedUp_75 ?_
  refine J_iconst (v := nI 1) d_R_summedUp_76 rfl ?_
  refine N_iadd d_R_summedUp_77 ?_
  refine N_iald (x := (nI (vc i))) d_R_summedUp_78 rfl (by omega) (ltL (okRk hX (by first | exact hl1 | (simp only [List.length_set]; exact hl1)) (by first | exact hl2 | (simp only [List.length_set]; exact hl2))) (a := 251) (n := 2724) (by decide) rfl (by omega)) (by rw [hc]; exact (hT.2 i (by omega) (by omega)).2.1) ?_
  refine J_istore (L1 := [some (.ref 244), some (.int (nI t)), some (.int (nI k)), some (.int (nI x)), some (.int (nI c)), some (.int (nI (List.length vs))), some (.int (nI (List.length u + 1))), some (.int (nI i)), some (.int (nI 20)), some (.int (nI (vc i)))]) d_R_summedUp_79 (by decide) rfl ?_
  refine J_iload d_R_summedUp_81 rfl ?_
  refine J_iconst (v := nI 1) d_R_summedUp_83 rfl ?_
  refine N_icmp_gt (tgt := 119) d_R_summedUp_84 (by decide) (by omega) (by omega) (fun c84 => ?_) (fun c84 => absurd c84 (by decide))
  refine J_iload d_R_summedUp_119 rfl ?_
  refine J_iconst (v := nI 3) d_R_summedUp_121 rfl ?_
  refine N_icmp_ne (tgt := 160) d_R_summedUp_122 (by decide) (by omega) (by omega) (fun c122 => ?_) (fun c122 => absurd c122 (by decide))
  refine J_iload d_R_summedUp_160 rfl ?_
  refine J_iconst (v := nI 5) d_R_summedUp_162 rfl ?_
  refine N_icmp_gt (tgt := 193) d_R_summedUp_163 (by decide) (by omega) (by omega) (fun c163 => ?_) (fun c163 => absurd c163 (by decide))
  refine J_iload d_R_summedUp_193 rfl ?_
  refine J_bipush (v := nI 10) d_R_summedUp_195 rfl ?_
  refine N_icmp_ge (tgt := 236) d_R_summedUp_197 (by decide) (by omega) (by omega) (fun c197 => ?_) (fun c197 => absurd c197 (by decide))
  refine J_iload d_R_summedUp_236 rfl ?_
  refine J_bipush (v := nI 20) d_R_summedUp_238 rfl ?_
  refine N_icmp_ge (tgt := 280) d_R_summedUp_240 (by decide) (by omega) (by omega) (fun c240 => ?_) (fun c240 => absurd c240 (by decide))
  refine J_iload d_R_summedUp_280 rfl ?_
  refine J_bipush (v := nI 20) d_R_summedUp_282 rfl ?_
  refine N_icmp_ne (tgt := 316) d_R_summedUp_284 (by decide) (by omega) (by omega) (fun c284 => absurd c284 (by decide)) (fun c284 => ?_)
  refine J_aload_n (i := 0) d_R_summedUp_287 rfl rfl ?_
  refine M_getR (b := 258) d_R_summedUp_288 f_R_57 rfl rfl rfl ?_
  refine J_iload d_R_summedUp_291 rfl ?_
  refine J_iconst (v := nI 1) d_R_summedUp_293 rfl ?_
  refine N_isub d_R_summedUp_294 (by omega) ?_
  rw [Nat.add_sub_cancel]
  refine J_aload_n (i := 0) d_R_summedUp_295 rfl rfl ?_
  refine M_getR (b := 258) d_R_summedUp_296 f_R_57 rfl rfl rfl ?_
  refine J_iload d_R_summedUp_299 rfl ?_
  refine J_iconst (v := nI 1) d_R_summedUp_301 rfl ?_
  refine N_isub d_R_summedUp_302 (by omega) ?_
  rw [Nat.add_sub_cancel]
  refine N_zald (x := (b2i d)) d_R_summedUp_303 rfl (by omega) (ltL (okRk hX (by first | exact hl1 | (simp only [List.length_set]; exact hl1)) (by first | exact hl2 | (simp only [List.length_set]; exact hl2))) (a := 258) (n := 330) (by decide) rfl (by omega)) (show l2.getD (List.length u) 0 = b2i d from hb.1) ?_
  refine B_if_ne (tgt := 311) d_R_summedUp_304 (by decide) (fun c304 => ?_) (fun c304 => ?_)
  · refine J_iconst (v := nI 0) d_R_summedUp_311 rfl ?_
    refine J.eq (st1 := [.int (b2i false), .int (nI (List.length u)), .ref 258]) ?_ rfl rfl rfl
    refine N_zast d_R_summedUp_312 rfl (by decide) (by omega) (ltL (okRk hX (by first | exact hl1 | (simp only [List.length_set]; exact hl1)) (by first | exact hl2 | (simp only [List.length_set]; exact hl2))) (a := 258) (n := 330) (by decide) rfl (by omega)) ?_
    rw [rk_A, show (rk2 X l1 l2).2.1 258 = l2 from rfl]
    refine J_goto (tgt := 349) d_R_summedUp_313 (by decide) ?_
    refine N_iinc (a := i) (c := 1) (L1 := [some (.ref 244), some (.int (nI t)), some (.int (nI k)), some (.int (nI x)), some (.int (nI c)), some (.int (nI (List.length vs))), some (.int (nI (List.length u + 1))), some (.int (nI (i + 1))), some (.int (nI 20)), some (.int (nI (vc i)))]) d_R_summedUp_349 rfl rfl (by decide) rfl ?_
    refine J_goto (tgt := 38) d_R_summedUp_352 (by decide) ?_
    obtain rfl := c304
    exact kx _ _ _ _ (by first | exact hl1 | (simp only [List.length_set]; exact hl1)) (by first | exact hl2 | (simp only [List.length_set]; exact hl2)) hv (stb_push (by rw [hl2]; omega) hb.2)
  · refine J_iconst (v := nI 1) d_R_summedUp_307 rfl ?_
    refine J_goto (tgt := 312) d_R_summedUp_308 (by decide) ?_
    refine J.eq (st1 := [.int (b2i true), .int (nI (List.length u)), .ref 258]) ?_ rfl rfl rfl
    refine N_zast d_R_summedUp_312 rfl (by decide) (by omega) (ltL (okRk hX (by first | exact hl1 | (simp only [List.length_set]; exact hl1)) (by first | exact hl2 | (simp only [List.length_set]; exact hl2))) (a := 258) (n := 330) (by decide) rfl (by omega)) ?_
    rw [rk_A, show (rk2 X l1 l2).2.1 258 = l2 from rfl]
    refine J_goto (tgt := 349) d_R_summedUp_313 (by decide) ?_
    refine N_iinc (a := i) (c := 1) (L1 := [some (.ref 244), some (.int (nI t)), some (.int (nI k)), some (.int (nI x)), some (.int (nI c)), some (.int (nI (List.length vs))), some (.int (nI (List.length u + 1))), some (.int (nI (i + 1))), some (.int (nI 20)), some (.int (nI (vc i)))]) d_R_summedUp_349 rfl rfl (by decide) rfl ?_
    refine J_goto (tgt := 38) d_R_summedUp_352 (by decide) ?_
    obtain rfl := c304
    exact kx _ _ _ _ (by first | exact hl1 | (simp only [List.length_set]; exact hl1)) (by first | exact hl2 | (simp only [List.length_set]; exact hl2)) hv (stb_push (by rw [hl2]; omega) hb.2)

theorem rr_21 {X : Mem} {e : Env} {oc vc : Nat → Nat} {Q : Option Value → Mem → Prop} {t k x c i w to : Nat} {vs : List Int} {bs : List Bool} {l1 : List Int64} {l2 : List Int32} {z8 z9 : Option Value} (hX : Ok X) (hR : RE X e) (hN : NMv X e) (hO : okE e) (hT : TRw X t oc vc) (hk4 : k < 24) (hx : x = 681 * t + 1 + 3 * k) (hc : c = 681 * t + 73) (hto : (X.2.1 251).getD (x + 2) 0 = nI to) (hi : i < to) (hto3 : to ≤ 300) (hl1 : l1.length = 330) (hl2 : l2.length = 330) {d f : Bool} {u : List Bool} (hk0 : oc i = 21) (hlv : (List.length vs) ≤ i) (hlb : (List.length u + 1 + 1) ≤ i) (hv : stkW vs l1) (hb : stkB (f :: d :: u) l2) (kx : ∀ (l1 : List Int64) (l2 : List Int32) (z8 z9 : Option Value), l1.length = 330 → l2.length = 330 → stkW vs l1 → stkB ((d && f) :: u) l2 → JM 2 m_R_summedUp Q 38 [some (.ref 244), some (.int (nI t)), some (.int (nI k)), some (.int (nI x)), some (.int (nI c)), some (.int (nI (List.length vs))), some (.int (nI (List.length ((d && f) :: u)))), some (.int (nI (i + 1))), z8, z9] [] (rk2 X l1 l2)) : JM 2 m_R_summedUp Q 38 [some (.ref 244), some (.int (nI t)), some (.int (nI k)), some (.int (nI x)), some (.int (nI c)), some (.int (nI (List.length vs))), some (.int (nI (List.length u + 1 + 1))), some (.int (nI i)), z8, z9] [] (rk2 X l1 l2) := by
  have ht4 := hT.1
  have hm8 := hO.1
  have hoc := (hT.2 i (by omega) (by omega)).2.2.1
  have hvc := (hT.2 i (by omega) (by omega)).2.2.2
  have hX1 : Ok (rk2 X l1 l2) := okRk hX hl1 hl2
  refine J_iload d_R_summedUp_38 rfl ?_
  refine J_aload_n (i := 0) d_R_summedUp_40 rfl rfl ?_
  refine M_getR (b := 251) d_R_summedUp_41 f_R_28 rfl rfl rfl ?_
  refine J_iload_n (i := 3) d_R_summedUp_44 rfl rfl ?_
  refine J_iconst (v := nI 2) d_R_summedUp_45 rfl ?_
  refine N_iadd d_R_summedUp_46 ?_
  refine N_iald (x := (nI to)) d_R_summedUp_47 rfl (by omega) (ltL (okRk hX (by first | exact hl1 | (simp only [List.length_set]; exact hl1)) (by first | exact hl2 | (simp only [List.length_set]; exact hl2))) (a := 251) (n := 2724) (by decide) rfl (by omega)) hto ?_
  refine N_icmp_ge (tgt := 355) d_R_summedUp_48 (by decide) (by omega) (by omega) (fun c48 => absurd c48 (by omega)) (fun c48 => ?_)
  refine J_aload_n (i := 0) d_R_summedUp_51 rfl rfl ?_
  refine M_getR (b := 251) d_R_summedUp_52 f_R_28 rfl rfl rfl ?_
  refine J_iload d_R_summedUp_55 rfl ?_
  refine J_iconst (v := nI 2) d_R_summedUp_57 rfl ?_
  refine J_iload d_R_summedUp_58 rfl ?_
  refine N_imul d_R_summedUp_60 ?_
  refine N_iadd d_R_summedUp_61 ?_
  refine N_iald (x := (nI (oc i))) d_R_summedUp_62 rfl (by omega) (ltL (okRk hX (by first | exact hl1 | (simp only [List.length_set]; exact hl1)) (by first | exact hl2 | (simp only [List.length_set]; exact hl2))) (a := 251) (n := 2724) (by decide) rfl (by omega)) (by rw [hc]; exact (hT.2 i (by omega) (by omega)).1) ?_
  rw [hk0]
  refine J_istore (L1 := [some (.ref 244), some (.int (nI t)), some (.int (nI k)), some (.int (nI x)), some (.int (nI c)), some (.int (nI (List.length vs))), some (.int (nI (List.length u + 1 + 1))), some (.int (nI i)), some (.int (nI 21)), z9]) d_R_summedUp_63 (by decide) rfl ?_
  refine J_aload_n (i := 0) d_R_summedUp_65 rfl rfl ?_
  refine M_getR (b := 251) d_R_summedUp_66 f_R_28 rfl rfl rfl ?_
  refine J_iload d_R_summedUp_69 rfl ?_
  refine J_iconst (v := nI 2) d_R_summedUp_71 rfl ?_
  refine J_iload d_R_summedUp_72 rfl ?_
  refine N_imul d_R_summedUp_74 ?_
  refine N_iadd d_R_summedUp_75 ?_
  refine J_iconst (v := nI 1) d_R_summedUp_76 rfl ?_
  refine N_iadd d_R_summedUp_77 ?_
  refine N_iald (x := (nI (vc i))) d_R_summedUp_78 rfl (by omega) (ltL (okRk hX (by first | exact hl1 | (simp only [List.length_set]; exact hl1)) (by first | exact hl2 | (simp only [List.length_set]; exact hl2))) (a := 251) (n := 2724) (by decide) rfl (by omega)) (by rw [hc]; exact (hT.2 i (by omega) (by omega)).2.1) ?_
  refine J_istore (L1 := [some (.ref 244), some (.int (nI t)), some (.int (nI k)), some (.int (nI x)), some (.int (nI c)), some (.int (nI (List.length vs))), some (.int (nI (List.length u + 1 + 1))), some (.int (nI i)), some (.int (nI 21)), some (.int (nI (vc i)))]) d_R_summedUp_79 (by decide) rfl ?_
  refine J_iload d_R_summedUp_81 rfl ?_
  refine J_iconst (v := nI 1) d_R_summedUp_83 rfl ?_
  refine N_icmp_gt (tgt := 119) d_R_summedUp_84 (by decide) (by omega) (by omega) (fun c84 => ?_) (fun c84 => absurd c84 (by decide))
  refine J_iload d_R_summedUp_119 rfl ?_
  refine J_iconst (v := nI 3) d_R_summedUp_121 rfl ?_
  refine N_icmp_ne (tgt := 160) d_R_summedUp_122 (by decide) (by omega) (by omega) (fun c122 => ?_) (fun c122 => absurd c122 (by decide))
  refine J_iload d_R_summedUp_160 rfl ?_
  refine J_iconst (v := nI 5) d_R_summedUp_162 rfl ?_
  refine N_icmp_gt (tgt := 193) d_R_summedUp_163 (by decide) (by omega) (by omega) (fun c163 => ?_) (fun c163 => absurd c163 (by decide))
  refine J_iload d_R_summedUp_193 rfl ?_
  refine J_bipush (v := nI 10) d_R_summedUp_195 rfl ?_
  refine N_icmp_ge (tgt := 236) d_R_summedUp_197 (by decide) (by omega) (by omega) (fun c197 => ?_) (fun c197 => absurd c197 (by decide))
  refine J_iload d_R_summedUp_236 rfl ?_
  refine J_bipush (v := nI 20) d_R_summedUp_238 rfl ?_
  refine N_icmp_ge (tgt := 280) d_R_summedUp_240 (by decide) (by omega) (by omega) (fun c240 => ?_) (fun c240 => absurd c240 (by decide))
  refine J_iload d_R_summedUp_280 rfl ?_
  refine J_bipush (v := nI 20) d_R_summedUp_282 rfl ?_
  refine N_icmp_ne (tgt := 316) d_R_summedUp_284 (by decide) (by omega) (by omega) (fun c284 => ?_) (fun c284 => absurd c284 (by decide))
  refine J_iinc (v := ((nI (List.length u + 1 + 1)) + (-1))) (L1 := [some (.ref 244), some (.int (nI t)), some (.int (nI k)), some (.int (nI x)), some (.int (nI c)), some (.int (nI (List.length vs))), some (.int ((nI (List.length u + 1 + 1)) + (-1))), some (.int (nI i)), some (.int (nI 21)), some (.int (nI (vc i)))]) d_R_summedUp_316 rfl rfl (by decide) rfl ?_
  rw [nI_dec]
  refine J_aload_n (i := 0) d_R_summedUp_319 rfl rfl ?_
  refine M_getR (b := 258) d_R_summedUp_320 f_R_57 rfl rfl rfl ?_
  refine J_iload d_R_summedUp_323 rfl ?_
  refine J_iconst (v := nI 1) d_R_summedUp_325 rfl ?_
  refine N_isub d_R_summedUp_326 (by omega) ?_
  rw [Nat.add_sub_cancel]
  refine J_iload d_R_summedUp_327 rfl ?_
  refine J_aload_n (i := 0) d_R_summedUp_329 rfl rfl ?_
  refine M_getR (b := 258) d_R_summedUp_330 f_R_57 rfl rfl rfl ?_
  refine J_iload d_R_summedUp_333 rfl ?_
  refine J_iconst (v := nI 1) d_R_summedUp_335 rfl ?_
  refine N_isub d_R_summedUp_336 (by omega) ?_
  rw [Nat.add_sub_cancel]
  refine N_zald (x := (b2i d)) d_R_summedUp_337 rfl (by omega) (ltL (okRk hX (by first | exact hl1 | (simp only [List.length_set]; exact hl1)) (by first | exact hl2 | (simp only [List.length_set]; exact hl2))) (a := 258) (n := 330) (by decide) rfl (by omega)) (show l2.getD (List.length u) 0 = b2i d from hb.2.1) ?_
  refine J_aload_n (i := 0) d_R_summedUp_338 rfl rfl ?_
  refine M_getR (b := 258) d_R_summedUp_339 f_R_57 rfl rfl rfl ?_
  refine J_iload d_R_summedUp_342 rfl ?_
  refine N_zald (x := (b2i f)) d_R_summedUp_344 rfl (by omega) (ltL (okRk hX (by first | exact hl1 | (simp only [List.length_set]; exact hl1)) (by first | exact hl2 | (simp only [List.length_set]; exact hl2))) (a := 258) (n := 330) (by decide) rfl (by omega)) (show l2.getD (List.length u + 1) 0 = b2i f from hb.1) ?_
  refine CS_B (av := [.int (nI 21), .int (b2i d), .int (b2i f)]) d_R_summedUp_345 s_R_352 S_R_joinedTruth_21 (by decide) rfl rfl (Nat.le_of_ble_eq_true rfl) ?_
  refine N_zast d_R_summedUp_348 rfl (by decide) (by omega) (ltL (okRk hX (by first | exact hl1 | (simp only [List.length_set]; exact hl1)) (by first | exact hl2 | (simp only [List.length_set]; exact hl2))) (a := 258) (n := 330) (by decide) rfl (by omega)) ?_
  rw [rk_A, show (rk2 X l1 l2).2.1 258 = l2 from rfl]
  refine N_iinc (a := i) (c := 1) (L1 := [some (.ref 244), some (.int (nI t)), some (.int (nI k)), some (.int (nI x)), some (.int (nI c)), some (.int (nI (List.length vs))), some (.int (nI (List.length u + 1))), some (.int (nI (i + 1))), some (.int (nI 21)), some (.int (nI (vc i)))]) d_R_summedUp_349 rfl rfl (by decide) rfl ?_
  refine J_goto (tgt := 38) d_R_summedUp_352 (by decide) ?_
  exact kx _ _ _ _ (by first | exact hl1 | (simp only [List.length_set]; exact hl1)) (by first | exact hl2 | (simp only [List.length_set]; exact hl2)) hv (stb_push (by rw [hl2]; omega) hb.2.2)

theorem rr_22 {X : Mem} {e : Env} {oc vc : Nat → Nat} {Q : Option Value → Mem → Prop} {t k x c i w to : Nat} {vs : List Int} {bs : List Bool} {l1 : List Int64} {l2 : List Int32} {z8 z9 : Option Value} (hX : Ok X) (hR : RE X e) (hN : NMv X e) (hO : okE e) (hT : TRw X t oc vc) (hk4 : k < 24) (hx : x = 681 * t + 1 + 3 * k) (hc : c = 681 * t + 73) (hto : (X.2.1 251).getD (x + 2) 0 = nI to) (hi : i < to) (hto3 : to ≤ 300) (hl1 : l1.length = 330) (hl2 : l2.length = 330) {d f : Bool} {u : List Bool} (hk0 : oc i = 22) (hlv : (List.length vs) ≤ i) (hlb : (List.length u + 1 + 1) ≤ i) (hv : stkW vs l1) (hb : stkB (f :: d :: u) l2) (kx : ∀ (l1 : List Int64) (l2 : List Int32) (z8 z9 : Option Value), l1.length = 330 → l2.length = 330 → stkW vs l1 → stkB ((d || f) :: u) l2 → JM 2 m_R_summedUp Q 38 [some (.ref 244), some (.int (nI t)), some (.int (nI k)), some (.int (nI x)), some (.int (nI c)), some (.int (nI (List.length vs))), some (.int (nI (List.length ((d || f) :: u)))), some (.int (nI (i + 1))), z8, z9] [] (rk2 X l1 l2)) : JM 2 m_R_summedUp Q 38 [some (.ref 244), some (.int (nI t)), some (.int (nI k)), some (.int (nI x)), some (.int (nI c)), some (.int (nI (List.length vs))), some (.int (nI (List.length u + 1 + 1))), some (.int (nI i)), z8, z9] [] (rk2 X l1 l2) := by
  have ht4 := hT.1
  have hm8 := hO.1
  have hoc := (hT.2 i (by omega) (by omega)).2.2.1
  have hvc := (hT.2 i (by omega) (by omega)).2.2.2
  have hX1 : Ok (rk2 X l1 l2) := okRk hX hl1 hl2
  refine J_iload d_R_summedUp_38 rfl ?_
  refine J_aload_n (i := 0) d_R_summedUp_40 rfl rfl ?_
  refine M_getR (b := 251) d_R_summedUp_41 f_R_28 rfl rfl rfl ?_
  refine J_iload_n (i := 3) d_R_summedUp_44 rfl rfl ?_
  refine J_iconst (v := nI 2) d_R_summedUp_45 rfl ?_
  refine N_iadd d_R_summedUp_46 ?_
  refine N_iald (x := (nI to)) d_R_summedUp_47 rfl (by omega) (ltL (okRk hX (by first | exact hl1 | (simp only [List.length_set]; exact hl1)) (by first | exact hl2 | (simp only [List.length_set]; exact hl2))) (a := 251) (n := 2724) (by decide) rfl (by omega)) hto ?_
  refine N_icmp_ge (tgt := 355) d_R_summedUp_48 (by decide) (by omega) (by omega) (fun c48 => absurd c48 (by omega)) (fun c48 => ?_)
  refine J_aload_n (i := 0) d_R_summedUp_51 rfl rfl ?_
  refine M_getR (b := 251) d_R_summedUp_52 f_R_28 rfl rfl rfl ?_
  refine J_iload d_R_summedUp_55 rfl ?_
  refine J_iconst (v := nI 2) d_R_summedUp_57 rfl ?_
  refine J_iload d_R_summedUp_58 rfl ?_
  refine N_imul d_R_summedUp_60 ?_
  refine N_iadd d_R_summedUp_61 ?_
  refine N_iald (x := (nI (oc i))) d_R_summedUp_62 rfl (by omega) (ltL (okRk hX (by first | exact hl1 | (simp only [List.length_set]; exact hl1)) (by first | exact hl2 | (simp only [List.length_set]; exact hl2))) (a := 251) (n := 2724) (by decide) rfl (by omega)) (by rw [hc]; exact (hT.2 i (by omega) (by omega)).1) ?_
  rw [hk0]
  refine J_istore (L1 := [some (.ref 244), some (.int (nI t)), some (.int (nI k)), some (.int (nI x)), some (.int (nI c)), some (.int (nI (List.length vs))), some (.int (nI (List.length u + 1 + 1))), some (.int (nI i)), some (.int (nI 22)), z9]) d_R_summedUp_63 (by decide) rfl ?_
  refine J_aload_n (i := 0) d_R_summedUp_65 rfl rfl ?_
  refine M_getR (b := 251) d_R_summedUp_66 f_R_28 rfl rfl rfl ?_
  refine J_iload d_R_summedUp_69 rfl ?_
  refine J_iconst (v := nI 2) d_R_summedUp_71 rfl ?_
  refine J_iload d_R_summedUp_72 rfl ?_
  refine N_imul d_R_summedUp_74 ?_
  refine N_iadd d_R_summedUp_75 ?_
  refine J_iconst (v := nI 1) d_R_summedUp_76 rfl ?_
  refine N_iadd d_R_summedUp_77 ?_
  refine N_iald (x := (nI (vc i))) d_R_summedUp_78 rfl (by omega) (ltL (okRk hX (by first | exact hl1 | (simp only [List.length_set]; exact hl1)) (by first | exact hl2 | (simp only [List.length_set]; exact hl2))) (a := 251) (n := 2724) (by decide) rfl (by omega)) (by rw [hc]; exact (hT.2 i (by omega) (by omega)).2.1) ?_
  refine J_istore (L1 := [some (.ref 244), some (.int (nI t)), some (.int (nI k)), some (.int (nI x)), some (.int (nI c)), some (.int (nI (List.length vs))), some (.int (nI (List.length u + 1 + 1))), some (.int (nI i)), some (.int (nI 22)), some (.int (nI (vc i)))]) d_R_summedUp_79 (by decide) rfl ?_
  refine J_iload d_R_summedUp_81 rfl ?_
  refine J_iconst (v := nI 1) d_R_summedUp_83 rfl ?_
  refine N_icmp_gt (tgt := 119) d_R_summedUp_84 (by decide) (by omega) (by omega) (fun c84 => ?_) (fun c84 => absurd c84 (by decide))
  refine J_iload d_R_summedUp_119 rfl ?_
  refine J_iconst (v := nI 3) d_R_summedUp_121 rfl ?_
  refine N_icmp_ne (tgt := 160) d_R_summedUp_122 (by decide) (by omega) (by omega) (fun c122 => ?_) (fun c122 => absurd c122 (by decide))
  refine J_iload d_R_summedUp_160 rfl ?_
  refine J_iconst (v := nI 5) d_R_summedUp_162 rfl ?_
  refine N_icmp_gt (tgt := 193) d_R_summedUp_163 (by decide) (by omega) (by omega) (fun c163 => ?_) (fun c163 => absurd c163 (by decide))
  refine J_iload d_R_summedUp_193 rfl ?_
  refine J_bipush (v := nI 10) d_R_summedUp_195 rfl ?_
  refine N_icmp_ge (tgt := 236) d_R_summedUp_197 (by decide) (by omega) (by omega) (fun c197 => ?_) (fun c197 => absurd c197 (by decide))
  refine J_iload d_R_summedUp_236 rfl ?_
  refine J_bipush (v := nI 20) d_R_summedUp_238 rfl ?_
  refine N_icmp_ge (tgt := 280) d_R_summedUp_240 (by decide) (by omega) (by omega) (fun c240 => ?_) (fun c240 => absurd c240 (by decide))
  refine J_iload d_R_summedUp_280 rfl ?_
  refine J_bipush (v := nI 20) d_R_summedUp_282 rfl ?_
  refine N_icmp_ne (tgt := 316) d_R_summedUp_284 (by decide) (by omega) (by omega) (fun c284 => ?_) (fun c284 => absurd c284 (by decide))
  refine J_iinc (v := ((nI (List.length u + 1 + 1)) + (-1))) (L1 := [some (.ref 244), some (.int (nI t)), some (.int (nI k)), some (.int (nI x)), some (.int (nI c)), some (.int (nI (List.length vs))), some (.int ((nI (List.length u + 1 + 1)) + (-1))), some (.int (nI i)), some (.int (nI 22)), some (.int (nI (vc i)))]) d_R_summedUp_316 rfl rfl (by decide) rfl ?_
  rw [nI_dec]
  refine J_aload_n (i := 0) d_R_summedUp_319 rfl rfl ?_
  refine M_getR (b := 258) d_R_summedUp_320 f_R_57 rfl rfl rfl ?_
  refine J_iload d_R_summedUp_323 rfl ?_
  refine J_iconst (v := nI 1) d_R_summedUp_325 rfl ?_
  refine N_isub d_R_summedUp_326 (by omega) ?_
  rw [Nat.add_sub_cancel]
  refine J_iload d_R_summedUp_327 rfl ?_
  refine J_aload_n (i := 0) d_R_summedUp_329 rfl rfl ?_
  refine M_getR (b := 258) d_R_summedUp_330 f_R_57 rfl rfl rfl ?_
  refine J_iload d_R_summedUp_333 rfl ?_
  refine J_iconst (v := nI 1) d_R_summedUp_335 rfl ?_
  refine N_isub d_R_summedUp_336 (by omega) ?_
  rw [Nat.add_sub_cancel]
  refine N_zald (x := (b2i d)) d_R_summedUp_337 rfl (by omega) (ltL (okRk hX (by first | exact hl1 | (simp only [List.length_set]; exact hl1)) (by first | exact hl2 | (simp only [List.length_set]; exact hl2))) (a := 258) (n := 330) (by decide) rfl (by omega)) (show l2.getD (List.length u) 0 = b2i d from hb.2.1) ?_
  refine J_aload_n (i := 0) d_R_summedUp_338 rfl rfl ?_
  refine M_getR (b := 258) d_R_summedUp_339 f_R_57 rfl rfl rfl ?_
  refine J_iload d_R_summedUp_342 rfl ?_
  refine N_zald (x := (b2i f)) d_R_summedUp_344 rfl (by omega) (ltL (okRk hX (by first | exact hl1 | (simp only [List.length_set]; exact hl1)) (by first | exact hl2 | (simp only [List.length_set]; exact hl2))) (a := 258) (n := 330) (by decide) rfl (by omega)) (show l2.getD (List.length u + 1) 0 = b2i f from hb.1) ?_
  refine CS_B (av := [.int (nI 22), .int (b2i d), .int (b2i f)]) d_R_summedUp_345 s_R_352 S_R_joinedTruth_22 (by decide) rfl rfl (Nat.le_of_ble_eq_true rfl) ?_
  refine N_zast d_R_summedUp_348 rfl (by decide) (by omega) (ltL (okRk hX (by first | exact hl1 | (simp only [List.length_set]; exact hl1)) (by first | exact hl2 | (simp only [List.length_set]; exact hl2))) (a := 258) (n := 330) (by decide) rfl (by omega)) ?_
  rw [rk_A, show (rk2 X l1 l2).2.1 258 = l2 from rfl]
  refine N_iinc (a := i) (c := 1) (L1 := [some (.ref 244), some (.int (nI t)), some (.int (nI k)), some (.int (nI x)), some (.int (nI c)), some (.int (nI (List.length vs))), some (.int (nI (List.length u + 1))), some (.int (nI (i + 1))), some (.int (nI 22)), some (.int (nI (vc i)))]) d_R_summedUp_349 rfl rfl (by decide) rfl ?_
  refine J_goto (tgt := 38) d_R_summedUp_352 (by decide) ?_
  exact kx _ _ _ _ (by first | exact hl1 | (simp only [List.length_set]; exact hl1)) (by first | exact hl2 | (simp only [List.length_set]; exact hl2)) hv (stb_push (by rw [hl2]; omega) hb.2.2)

