theorem okSk {X : Mem} {s : List Int} {l : List Int32} (hX : Ok X) (hl : l.length = 300) : Ok (skX X s l) := okA (okF hX) rfl (by rw [hl]; exact (hX.1 17 (by decide)).symm)
theorem run_45 {X : Mem} {a T : Nat} {e : Env} {cw : Nat → Nat} {Q : Option Value → Mem → Prop} {fm to en p w : Nat} {s : List Int} {l : List Int32} {z9 z10 z11 : Option Value} (hX : Ok X) (hE : CE X a e) (hO : okE e) (hT : TC X T cw) (hl : l.length = 300) (hp : p < en) (hen : en ≤ 300) (hk0 : cw p % 64 = 45) (hw0 : cw p / 64 = w) (hsl : (List.length s) ≤ p) (hk : stkL s l) (kx : ∀ (l : List Int32) (z9 z10 z11 : Option Value), l.length = 300 → stkL ((w : Int) :: s) l → JM 3 m_L_run Q 19 [some (.ref 16), some (.ref T), some (.int (nI fm)), some (.int (nI to)), some (.ref a), some (.int (nI e.2.2.2.2.1)), some (.int (jI e.2.2.2.2.2)), some (.int (nI en)), some (.int (nI (p + 1))), z9, z10, z11] [] (skX X ((w : Int) :: s) l)) : JM 3 m_L_run Q 19 [some (.ref 16), some (.ref T), some (.int (nI fm)), some (.int (nI to)), some (.ref a), some (.int (nI e.2.2.2.2.1)), some (.int (jI e.2.2.2.2.2)), some (.int (nI en)), some (.int (nI p)), z9, z10, z11] [] (skX X s l) := by
  have hT5 := (txt_f hT.1).2.2.2.2
  have hm8 := hO.1
  have hmk := hO.2.1
  have hst := hO.2.2.1 e.2.2.2.2.1 (by omega)
  have hcw := (hT.2 p (by omega) (by omega)).2
  have hX1 : Ok (skX X s l) := okSk hX hl
  refine J_iload d_L_run_19 rfl ?_
  refine N_if_lt (tgt := 269) d_L_run_21 (by decide) (by omega) ?_
  refine J_iload d_L_run_24 rfl ?_
  refine J_iload d_L_run_26 rfl ?_
  refine N_icmp_ge (tgt := 269) d_L_run_28 (by decide) (by omega) (by omega) (fun c28 => absurd c28 (by omega)) (fun c28 => ?_)
  refine J_aload_n (i := 1) d_L_run_31 rfl rfl ?_
  refine M_getR (b := (T + 1)) d_L_run_32 f_L_64 hT.1 rfl (txt_f hT.1).1.1 ?_
  refine J_iload d_L_run_35 rfl ?_
  refine N_iald (x := (nI (cw p))) d_L_run_37 (txt_f hT.1).2.1.1 (by omega) (ltL hX1 (a := T + 1) (n := 300) (by omega) (txt_f hT.1).2.2.1.1 (by omega)) (show ((skX X s l).2.1 (T + 1)).getD p 0 = nI (cw p) from by rw [show (skX X s l).2.1 (T + 1) = X.2.1 (T + 1) from if_neg (by omega)]; exact (hT.2 p (by omega) (by omega)).1) ?_
  refine J_bipush (v := nI 64) d_L_run_38 rfl ?_
  refine N_irem d_L_run_40 (by omega) (by omega) (by omega) ?_
  rw [hk0]
  refine J_istore (L1 := [some (.ref 16), some (.ref T), some (.int (nI fm)), some (.int (nI to)), some (.ref a), some (.int (nI e.2.2.2.2.1)), some (.int (jI e.2.2.2.2.2)), some (.int (nI en)), some (.int (nI p)), some (.int (nI 45)), z10, z11]) d_L_run_41 (by decide) rfl ?_
  refine J_aload_n (i := 1) d_L_run_43 rfl rfl ?_
  refine M_getR (b := (T + 1)) d_L_run_44 f_L_64 hT.1 rfl (txt_f hT.1).1.1 ?_
  refine J_iload d_L_run_47 rfl ?_
  refine N_iald (x := (nI (cw p))) d_L_run_49 (txt_f hT.1).2.1.1 (by omega) (ltL hX1 (a := T + 1) (n := 300) (by omega) (txt_f hT.1).2.2.1.1 (by omega)) (show ((skX X s l).2.1 (T + 1)).getD p 0 = nI (cw p) from by rw [show (skX X s l).2.1 (T + 1) = X.2.1 (T + 1) from if_neg (by omega)]; exact (hT.2 p (by omega) (by omega)).1) ?_
  refine J_bipush (v := nI 64) d_L_run_50 rfl ?_
  refine N_idiv d_L_run_52 (by omega) (by omega) (by omega) ?_
  rw [hw0]
  refine J_istore (L1 := [some (.ref 16), some (.ref T), some (.int (nI fm)), some (.int (nI to)), some (.ref a), some (.int (nI e.2.2.2.2.1)), some (.int (jI e.2.2.2.2.2)), some (.int (nI en)), some (.int (nI p)), some (.int (nI 45)), some (.int (nI w)), z11]) d_L_run_53 (by decide) rfl ?_
  refine J_iload d_L_run_55 rfl ?_
  refine J_bipush (v := nI 45) d_L_run_57 rfl ?_
  refine N_icmp_ne (tgt := 71) d_L_run_59 (by decide) (by omega) (by omega) (fun c59 => absurd c59 (by decide)) (fun c59 => ?_)
  refine J_aload_n (i := 0) d_L_run_62 rfl rfl ?_
  refine J_iload d_L_run_63 rfl ?_
  rw [← jI_n]
  refine CV_V (av := [.int (jI (w : Int))]) d_L_run_65 s_L_67 (M_rcv rfl (by decide) rfl) (S_L_push (X := X) (s := s) (l := l) hX hl (by first | omega | (simp only [List.length_cons] at *; omega))) (by omega) rfl rfl (Nat.le_of_ble_eq_true rfl) ?_
  refine J_goto (tgt := 263) d_L_run_68 (by decide) ?_
  refine N_iinc (a := p) (c := 1) (L1 := [some (.ref 16), some (.ref T), some (.int (nI fm)), some (.int (nI to)), some (.ref a), some (.int (nI e.2.2.2.2.1)), some (.int (jI e.2.2.2.2.2)), some (.int (nI en)), some (.int (nI (p + 1))), some (.int (nI 45)), some (.int (nI w)), z11]) d_L_run_263 rfl rfl (by decide) rfl ?_
  refine J_goto (tgt := 19) d_L_run_266 (by decide) ?_
  exact kx _ _ _ _ (by rw [List.length_set]; exact hl) (stk_push (by first | omega | (simp only [List.length_cons] at *; omega)) hk)

theorem run_31 {X : Mem} {a T : Nat} {e : Env} {cw : Nat → Nat} {Q : Option Value → Mem → Prop} {fm to en p w : Nat} {s : List Int} {l : List Int32} {z9 z10 z11 : Option Value} (hX : Ok X) (hE : CE X a e) (hO : okE e) (hT : TC X T cw) (hl : l.length = 300) (hp : p < en) (hen : en ≤ 300) (hk0 : cw p % 64 = 31) (hsl : (List.length s) ≤ p) (hk : stkL s l) (kx : ∀ (l : List Int32) (z9 z10 z11 : Option Value), l.length = 300 → stkL (nmV e 6 :: s) l → JM 3 m_L_run Q 19 [some (.ref 16), some (.ref T), some (.int (nI fm)), some (.int (nI to)), some (.ref a), some (.int (nI e.2.2.2.2.1)), some (.int (jI e.2.2.2.2.2)), some (.int (nI en)), some (.int (nI (p + 1))), z9, z10, z11] [] (skX X (nmV e 6 :: s) l)) : JM 3 m_L_run Q 19 [some (.ref 16), some (.ref T), some (.int (nI fm)), some (.int (nI to)), some (.ref a), some (.int (nI e.2.2.2.2.1)), some (.int (jI e.2.2.2.2.2)), some (.int (nI en)), some (.int (nI p)), z9, z10, z11] [] (skX X s l) := by
  have hT5 := (txt_f hT.1).2.2.2.2
  have hm8 := hO.1
  have hmk := hO.2.1
  have hst := hO.2.2.1 e.2.2.2.2.1 (by omega)
  have hcw := (hT.2 p (by omega) (by omega)).2
  have hX1 : Ok (skX X s l) := okSk hX hl
  refine J_iload d_L_run_19 rfl ?_
  refine N_if_lt (tgt := 269) d_L_run_21 (by decide) (by omega) ?_
  refine J_iload d_L_run_24 rfl ?_
  refine J_iload d_L_run_26 rfl ?_
  refine N_icmp_ge (tgt := 269) d_L_run_28 (by decide) (by omega) (by omega) (fun c28 => absurd c28 (by omega)) (fun c28 => ?_)
  refine J_aload_n (i := 1) d_L_run_31 rfl rfl ?_
  refine M_getR (b := (T + 1)) d_L_run_32 f_L_64 hT.1 rfl (txt_f hT.1).1.1 ?_
  refine J_iload d_L_run_35 rfl ?_
  refine N_iald (x := (nI (cw p))) d_L_run_37 (txt_f hT.1).2.1.1 (by omega) (ltL hX1 (a := T + 1) (n := 300) (by omega) (txt_f hT.1).2.2.1.1 (by omega)) (show ((skX X s l).2.1 (T + 1)).getD p 0 = nI (cw p) from by rw [show (skX X s l).2.1 (T + 1) = X.2.1 (T + 1) from if_neg (by omega)]; exact (hT.2 p (by omega) (by omega)).1) ?_
  refine J_bipush (v := nI 64) d_L_run_38 rfl ?_
  refine N_irem d_L_run_40 (by omega) (by omega) (by omega) ?_
  rw [hk0]
  refine J_istore (L1 := [some (.ref 16), some (.ref T), some (.int (nI fm)), some (.int (nI to)), some (.ref a), some (.int (nI e.2.2.2.2.1)), some (.int (jI e.2.2.2.2.2)), some (.int (nI en)), some (.int (nI p)), some (.int (nI 31)), z10, z11]) d_L_run_41 (by decide) rfl ?_
  refine J_aload_n (i := 1) d_L_run_43 rfl rfl ?_
  refine M_getR (b := (T + 1)) d_L_run_44 f_L_64 hT.1 rfl (txt_f hT.1).1.1 ?_
  refine J_iload d_L_run_47 rfl ?_
  refine N_iald (x := (nI (cw p))) d_L_run_49 (txt_f hT.1).2.1.1 (by omega) (ltL hX1 (a := T + 1) (n := 300) (by omega) (txt_f hT.1).2.2.1.1 (by omega)) (show ((skX X s l).2.1 (T + 1)).getD p 0 = nI (cw p) from by rw [show (skX X s l).2.1 (T + 1) = X.2.1 (T + 1) from if_neg (by omega)]; exact (hT.2 p (by omega) (by omega)).1) ?_
  refine J_bipush (v := nI 64) d_L_run_50 rfl ?_
  refine N_idiv d_L_run_52 (by omega) (by omega) (by omega) ?_
  refine J_istore (L1 := [some (.ref 16), some (.ref T), some (.int (nI fm)), some (.int (nI to)), some (.ref a), some (.int (nI e.2.2.2.2.1)), some (.int (jI e.2.2.2.2.2)), some (.int (nI en)), some (.int (nI p)), some (.int (nI 31)), some (.int (nI ((cw p) / 64))), z11]) d_L_run_53 (by decide) rfl ?_
  refine J_iload d_L_run_55 rfl ?_
  refine J_bipush (v := nI 45) d_L_run_57 rfl ?_
  refine N_icmp_ne (tgt := 71) d_L_run_59 (by decide) (by omega) (by omega) (fun c59 => ?_) (fun c59 => absurd c59 (by decide))
  refine J_iload d_L_run_71 rfl ?_
  refine J_bipush (v := nI 31) d_L_run_73 rfl ?_
  refine N_icmp_ne (tgt := 96) d_L_run_75 (by decide) (by omega) (by omega) (fun c75 => absurd c75 (by decide)) (fun c75 => ?_)
  refine J_aload_n (i := 0) d_L_run_78 rfl rfl ?_
  refine J_aload d_L_run_79 rfl ?_
  refine M_getR (b := (a + 1)) d_L_run_81 f_L_44 hE.1 rfl (now_f hE.1).1 ?_
  refine J_iload d_L_run_84 rfl ?_
  refine N_iald (x := (nI (e.2.1 e.2.2.2.2.1))) d_L_run_86 (now_f hE.1).2.2.1 (by omega) (ltL hX1 (a := a + 1) (n := 8) (by omega) (now_f hE.1).2.2.2.2.1 (by omega)) ((CE_sk hE).2.2.1 e.2.2.2.2.1 (by omega)) ?_
  refine CS_N (av := [.int (nI (e.2.1 e.2.2.2.2.1))]) d_L_run_87 s_L_71 (S_K_countPieces hX1 hst) (by omega) rfl rfl (Nat.le_of_ble_eq_true rfl) ?_
  rw [← jI_n]
  refine CV_V (av := [.int (jI (pic (e.2.1 e.2.2.2.2.1) : Int))]) d_L_run_90 s_L_67 (M_rcv rfl (by decide) rfl) (S_L_push (X := X) (s := s) (l := l) hX hl (by first | omega | (simp only [List.length_cons] at *; omega))) (by omega) rfl rfl (Nat.le_of_ble_eq_true rfl) ?_
  refine J_goto (tgt := 263) d_L_run_93 (by decide) ?_
  refine N_iinc (a := p) (c := 1) (L1 := [some (.ref 16), some (.ref T), some (.int (nI fm)), some (.int (nI to)), some (.ref a), some (.int (nI e.2.2.2.2.1)), some (.int (jI e.2.2.2.2.2)), some (.int (nI en)), some (.int (nI (p + 1))), some (.int (nI 31)), some (.int (nI ((cw p) / 64))), z11]) d_L_run_263 rfl rfl (by decide) rfl ?_
  refine J_goto (tgt := 19) d_L_run_266 (by decide) ?_
  exact kx _ _ _ _ (by rw [List.length_set]; exact hl) (stk_push (by first | omega | (simp only [List.length_cons] at *; omega)) hk)

theorem run_6 {X : Mem} {a T : Nat} {e : Env} {cw : Nat → Nat} {Q : Option Value → Mem → Prop} {fm to en p w : Nat} {s : List Int} {l : List Int32} {z9 z10 z11 : Option Value} (hX : Ok X) (hE : CE X a e) (hO : okE e) (hT : TC X T cw) (hl : l.length = 300) (hp : p < en) (hen : en ≤ 300) (hk0 : cw p % 64 = 6) (hsl : (List.length s) ≤ p) (hk : stkL s l) (kx : ∀ (l : List Int32) (z9 z10 z11 : Option Value), l.length = 300 → stkL (nmV e 0 :: s) l → JM 3 m_L_run Q 19 [some (.ref 16), some (.ref T), some (.int (nI fm)), some (.int (nI to)), some (.ref a), some (.int (nI e.2.2.2.2.1)), some (.int (jI e.2.2.2.2.2)), some (.int (nI en)), some (.int (nI (p + 1))), z9, z10, z11] [] (skX X (nmV e 0 :: s) l)) : JM 3 m_L_run Q 19 [some (.ref 16), some (.ref T), some (.int (nI fm)), some (.int (nI to)), some (.ref a), some (.int (nI e.2.2.2.2.1)), some (.int (jI e.2.2.2.2.2)), some (.int (nI en)), some (.int (nI p)), z9, z10, z11] [] (skX X s l) := by
  have hT5 := (txt_f hT.1).2.2.2.2
  have hm8 := hO.1
  have hmk := hO.2.1
  have hst := hO.2.2.1 e.2.2.2.2.1 (by omega)
  have hcw := (hT.2 p (by omega) (by omega)).2
  have hX1 : Ok (skX X s l) := okSk hX hl
  refine J_iload d_L_run_19 rfl ?_
  refine N_if_lt (tgt := 269) d_L_run_21 (by decide) (by omega) ?_
  refine J_iload d_L_run_24 rfl ?_
  refine J_iload d_L_run_26 rfl ?_
  refine N_icmp_ge (tgt := 269) d_L_run_28 (by decide) (by omega) (by omega) (fun c28 => absurd c28 (by omega)) (fun c28 => ?_)
  refine J_aload_n (i := 1) d_L_run_31 rfl rfl ?_
  refine M_getR (b := (T + 1)) d_L_run_32 f_L_64 hT.1 rfl (txt_f hT.1).1.1 ?_
  refine J_iload d_L_run_35 rfl ?_
  refine N_iald (x := (nI (cw p))) d_L_run_37 (txt_f hT.1).2.1.1 (by omega) (ltL hX1 (a := T + 1) (n := 300) (by omega) (txt_f hT.1).2.2.1.1 (by omega)) (show ((skX X s l).2.1 (T + 1)).getD p 0 = nI (cw p) from by rw [show (skX X s l).2.1 (T + 1) = X.2.1 (T + 1) from if_neg (by omega)]; exact (hT.2 p (by omega) (by omega)).1) ?_
  refine J_bipush (v := nI 64) d_L_run_38 rfl ?_
  refine N_irem d_L_run_40 (by omega) (by omega) (by omega) ?_
  rw [hk0]
  refine J_istore (L1 := [some (.ref 16), some (.ref T), some (.int (nI fm)), some (.int (nI to)), some (.ref a), some (.int (nI e.2.2.2.2.1)), some (.int (jI e.2.2.2.2.2)), some (.int (nI en)), some (.int (nI p)), some (.int (nI 6)), z10, z11]) d_L_run_41 (by decide) rfl ?_
  refine J_aload_n (i := 1) d_L_run_43 rfl rfl ?_
  refine M_getR (b := (T + 1)) d_L_run_44 f_L_64 hT.1 rfl (txt_f hT.1).1.1 ?_
  refine J_iload d_L_run_47 rfl ?_
  refine N_iald (x := (nI (cw p))) d_L_run_49 (txt_f hT.1).2.1.1 (by omega) (ltL hX1 (a := T + 1) (n := 300) (by omega) (txt_f hT.1).2.2.1.1 (by omega)) (show ((skX X s l).2.1 (T + 1)).getD p 0 = nI (cw p) from by rw [show (skX X s l).2.1 (T + 1) = X.2.1 (T + 1) from if_neg (by omega)]; exact (hT.2 p (by omega) (by omega)).1) ?_
  refine J_bipush (v := nI 64) d_L_run_50 rfl ?_
  refine N_idiv d_L_run_52 (by omega) (by omega) (by omega) ?_
  refine J_istore (L1 := [some (.ref 16), some (.ref T), some (.int (nI fm)), some (.int (nI to)), some (.ref a), some (.int (nI e.2.2.2.2.1)), some (.int (jI e.2.2.2.2.2)), some (.int (nI en)), some (.int (nI p)), some (.int (nI 6)), some (.int (nI ((cw p) / 64))), z11]) d_L_run_53 (by decide) rfl ?_
  refine J_iload d_L_run_55 rfl ?_
  refine J_bipush (v := nI 45) d_L_run_57 rfl ?_
  refine N_icmp_ne (tgt := 71) d_L_run_59 (by decide) (by omega) (by omega) (fun c59 => ?_) (fun c59 => absurd c59 (by decide))
  refine J_iload d_L_run_71 rfl ?_
  refine J_bipush (v := nI 31) d_L_run_73 rfl ?_
  refine N_icmp_ne (tgt := 96) d_L_run_75 (by decide) (by omega) (by omega) (fun c75 => ?_) (fun c75 => absurd c75 (by decide))
  refine J_iload d_L_run_96 rfl ?_
  refine J_bipush (v := nI 20) d_L_run_98 rfl ?_
  refine N_icmp_eq (tgt := 110) d_L_run_100 (by decide) (by omega) (by omega) (fun c100 => absurd c100 (by decide)) (fun c100 => ?_)
  refine J_iload d_L_run_103 rfl ?_
  refine J_bipush (v := nI 21) d_L_run_105 rfl ?_
  refine N_icmp_ne (tgt := 155) d_L_run_107 (by decide) (by omega) (by omega) (fun c107 => ?_) (fun c107 => absurd c107 (by decide))
  refine J_iload d_L_run_155 rfl ?_
  refine J_bipush (v := nI 17) d_L_run_157 rfl ?_
  refine N_icmp_eq (tgt := 183) d_L_run_159 (by decide) (by omega) (by omega) (fun c159 => absurd c159 (by decide)) (fun c159 => ?_)
  refine J_iload d_L_run_162 rfl ?_
  refine J_bipush (v := nI 18) d_L_run_164 rfl ?_
  refine N_icmp_eq (tgt := 183) d_L_run_166 (by decide) (by omega) (by omega) (fun c166 => absurd c166 (by decide)) (fun c166 => ?_)
  refine J_iload d_L_run_169 rfl ?_
  refine J_bipush (v := nI 48) d_L_run_171 rfl ?_
  refine N_icmp_eq (tgt := 183) d_L_run_173 (by decide) (by omega) (by omega) (fun c173 => absurd c173 (by decide)) (fun c173 => ?_)
  refine J_iload d_L_run_176 rfl ?_
  refine J_bipush (v := nI 25) d_L_run_178 rfl ?_
  refine N_icmp_ne (tgt := 203) d_L_run_180 (by decide) (by omega) (by omega) (fun c180 => ?_) (fun c180 => absurd c180 (by decide))
  refine J_iload d_L_run_203 rfl ?_
  refine J_bipush (v := nI 6) d_L_run_205 rfl ?_
  refine N_icmp_eq (tgt := 224) d_L_run_207 (by decide) (by omega) (by omega) (fun c207 => ?_) (fun c207 => absurd c207 (by decide))
  refine J_aload_n (i := 0) d_L_run_224 rfl rfl ?_
  refine J_iload d_L_run_225 rfl ?_
  refine J_aload d_L_run_227 rfl ?_
  refine J_iload d_L_run_229 rfl ?_
  refine J_iload d_L_run_231 rfl ?_
  refine CS_I (av := [.int (nI 6), .ref a, .int (nI e.2.2.2.2.1), .int (jI e.2.2.2.2.2)]) d_L_run_233 s_L_84 (S_L_named_6 hX1 (CE_sk hE) hO) (by omega) rfl rfl (Nat.le_of_ble_eq_true rfl) ?_
  refine CV_V (av := [.int (jI (nmV e 0))]) d_L_run_236 s_L_67 (M_rcv rfl (by decide) rfl) (S_L_push (X := X) (s := s) (l := l) hX hl (by first | omega | (simp only [List.length_cons] at *; omega))) (by omega) rfl rfl (Nat.le_of_ble_eq_true rfl) ?_
  refine J_goto (tgt := 263) d_L_run_239 (by decide) ?_
  refine N_iinc (a := p) (c := 1) (L1 := [some (.ref 16), some (.ref T), some (.int (nI fm)), some (.int (nI to)), some (.ref a), some (.int (nI e.2.2.2.2.1)), some (.int (jI e.2.2.2.2.2)), some (.int (nI en)), some (.int (nI (p + 1))), some (.int (nI 6)), some (.int (nI ((cw p) / 64))), z11]) d_L_run_263 rfl rfl (by decide) rfl ?_
  refine J_goto (tgt := 19) d_L_run_266 (by decide) ?_
  exact kx _ _ _ _ (by rw [List.length_set]; exact hl) (stk_push (by first | omega | (simp only [List.length_cons] at *; omega)) hk)

theorem run_26 {X : Mem} {a T : Nat} {e : Env} {cw : Nat → Nat} {Q : Option Value → Mem → Prop} {fm to en p w : Nat} {s : List Int} {l : List Int32} {z9 z10 z11 : Option Value} (hX : Ok X) (hE : CE X a e) (hO : okE e) (hT : TC X T cw) (hl : l.length = 300) (hp : p < en) (hen : en ≤ 300) (hk0 : cw p % 64 = 26) (hsl : (List.length s) ≤ p) (hk : stkL s l) (kx : ∀ (l : List Int32) (z9 z10 z11 : Option Value), l.length = 300 → stkL (nmV e 1 :: s) l → JM 3 m_L_run Q 19 [some (.ref 16), some (.ref T), some (.int (nI fm)), some (.int (nI to)), some (.ref a), some (.int (nI e.2.2.2.2.1)), some (.int (jI e.2.2.2.2.2)), some (.int (nI en)), some (.int (nI (p + 1))), z9, z10, z11] [] (skX X (nmV e 1 :: s) l)) : JM 3 m_L_run Q 19 [some (.ref 16), some (.ref T), some (.int (nI fm)), some (.int (nI to)), some (.ref a), some (.int (nI e.2.2.2.2.1)), some (.int (jI e.2.2.2.2.2)), some (.int (nI en)), some (.int (nI p)), z9, z10, z11] [] (skX X s l) := by
  have hT5 := (txt_f hT.1).2.2.2.2
  have hm8 := hO.1
  have hmk := hO.2.1
  have hst := hO.2.2.1 e.2.2.2.2.1 (by omega)
  have hcw := (hT.2 p (by omega) (by omega)).2
  have hX1 : Ok (skX X s l) := okSk hX hl
  refine J_iload d_L_run_19 rfl ?_
  refine N_if_lt (tgt := 269) d_L_run_21 (by decide) (by omega) ?_
  refine J_iload d_L_run_24 rfl ?_
  refine J_iload d_L_run_26 rfl ?_
  refine N_icmp_ge (tgt := 269) d_L_run_28 (by decide) (by omega) (by omega) (fun c28 => absurd c28 (by omega)) (fun c28 => ?_)
  refine J_aload_n (i := 1) d_L_run_31 rfl rfl ?_
  refine M_getR (b := (T + 1)) d_L_run_32 f_L_64 hT.1 rfl (txt_f hT.1).1.1 ?_
  refine J_iload d_L_run_35 rfl ?_
  refine N_iald (x := (nI (cw p))) d_L_run_37 (txt_f hT.1).2.1.1 (by omega) (ltL hX1 (a := T + 1) (n := 300) (by omega) (txt_f hT.1).2.2.1.1 (by omega)) (show ((skX X s l).2.1 (T + 1)).getD p 0 = nI (cw p) from by rw [show (skX X s l).2.1 (T + 1) = X.2.1 (T + 1) from if_neg (by omega)]; exact (hT.2 p (by omega) (by omega)).1) ?_
  refine J_bipush (v := nI 64) d_L_run_38 rfl ?_
  refine N_irem d_L_run_40 (by omega) (by omega) (by omega) ?_
  rw [hk0]
  refine J_istore (L1 := [some (.ref 16), some (.ref T), some (.int (nI fm)), some (.int (nI to)), some (.ref a), some (.int (nI e.2.2.2.2.1)), some (.int (jI e.2.2.2.2.2)), some (.int (nI en)), some (.int (nI p)), some (.int (nI 26)), z10, z11]) d_L_run_41 (by decide) rfl ?_
  refine J_aload_n (i := 1) d_L_run_43 rfl rfl ?_
  refine M_getR (b := (T + 1)) d_L_run_44 f_L_64 hT.1 rfl (txt_f hT.1).1.1 ?_
  refine J_iload d_L_run_47 rfl ?_
  refine N_iald (x := (nI (cw p))) d_L_run_49 (txt_f hT.1).2.1.1 (by omega) (ltL hX1 (a := T + 1) (n := 300) (by omega) (txt_f hT.1).2.2.1.1 (by omega)) (show ((skX X s l).2.1 (T + 1)).getD p 0 = nI (cw p) from by rw [show (skX X s l).2.1 (T + 1) = X.2.1 (T + 1) from if_neg (by omega)]; exact (hT.2 p (by omega) (by omega)).1) ?_
  refine J_bipush (v := nI 64) d_L_run_50 rfl ?_
  refine N_idiv d_L_run_52 (by omega) (by omega) (by omega) ?_
  refine J_istore (L1 := [some (.ref 16), some (.ref T), some (.int (nI fm)), some (.int (nI to)), some (.ref a), some (.int (nI e.2.2.2.2.1)), some (.int (jI e.2.2.2.2.2)), some (.int (nI en)), some (.int (nI p)), some (.int (nI 26)), some (.int (nI ((cw p) / 64))), z11]) d_L_run_53 (by decide) rfl ?_
  refine J_iload d_L_run_55 rfl ?_
  refine J_bipush (v := nI 45) d_L_run_57 rfl ?_
  refine N_icmp_ne (tgt := 71) d_L_run_59 (by decide) (by omega) (by omega) (fun c59 => ?_) (fun c59 => absurd c59 (by decide))
  refine J_iload d_L_run_71 rfl ?_
  refine J_bipush (v := nI 31) d_L_run_73 rfl ?_
  refine N_icmp_ne (tgt := 96) d_L_run_75 (by decide) (by omega) (by omega) (fun c75 => ?_) (fun c75 => absurd c75 (by decide))
  refine J_iload d_L_run_96 rfl ?_
  refine J_bipush (v := nI 20) d_L_run_98 rfl ?_
  refine N_icmp_eq (tgt := 110) d_L_run_100 (by decide) (by omega) (by omega) (fun c100 => absurd c100 (by decide)) (fun c100 => ?_)
  refine J_iload d_L_run_103 rfl ?_
  refine J_bipush (v := nI 21) d_L_run_105 rfl ?_
  refine N_icmp_ne (tgt := 155) d_L_run_107 (by decide) (by omega) (by omega) (fun c107 => ?_) (fun c107 => absurd c107 (by decide))
  refine J_iload d_L_run_155 rfl ?_
  refine J_bipush (v := nI 17) d_L_run_157 rfl ?_
  refine N_icmp_eq (tgt := 183) d_L_run_159 (by decide) (by omega) (by omega) (fun c159 => absurd c159 (by decide)) (fun c159 => ?_)
  refine J_iload d_L_run_162 rfl ?_
  refine J_bipush (v := nI 18) d_L_run_164 rfl ?_
  refine N_icmp_eq (tgt := 183) d_L_run_166 (by decide) (by omega) (by omega) (fun c166 => absurd c166 (by decide)) (fun c166 => ?_)
  refine J_iload d_L_run_169 rfl ?_
  refine J_bipush (v := nI 48) d_L_run_171 rfl ?_
  refine N_icmp_eq (tgt := 183) d_L_run_173 (by decide) (by omega) (by omega) (fun c173 => absurd c173 (by decide)) (fun c173 => ?_)
  refine J_iload d_L_run_176 rfl ?_
  refine J_bipush (v := nI 25) d_L_run_178 rfl ?_
  refine N_icmp_ne (tgt := 203) d_L_run_180 (by decide) (by omega) (by omega) (fun c180 => ?_) (fun c180 => absurd c180 (by decide))
  refine J_iload d_L_run_203 rfl ?_
  refine J_bipush (v := nI 6) d_L_run_205 rfl ?_
  refine N_icmp_eq (tgt := 224) d_L_run_207 (by decide) (by omega) (by omega) (fun c207 => absurd c207 (by decide)) (fun c207 => ?_)
  refine J_iload d_L_run_210 rfl ?_
  refine J_bipush (v := nI 26) d_L_run_212 rfl ?_
  refine N_icmp_lt (tgt := 242) d_L_run_214 (by decide) (by omega) (by omega) (fun c214 => absurd c214 (by decide)) (fun c214 => ?_)
  refine J_iload d_L_run_217 rfl ?_
  refine J_bipush (v := nI 30) d_L_run_219 rfl ?_
  refine N_icmp_gt (tgt := 242) d_L_run_221 (by decide) (by omega) (by omega) (fun c221 => absurd c221 (by decide)) (fun c221 => ?_)
  refine J_aload_n (i := 0) d_L_run_224 rfl rfl ?_
  refine J_iload d_L_run_225 rfl ?_
  refine J_aload d_L_run_227 rfl ?_
  refine J_iload d_L_run_229 rfl ?_
  refine J_iload d_L_run_231 rfl ?_
  refine CS_I (av := [.int (nI 26), .ref a, .int (nI e.2.2.2.2.1), .int (jI e.2.2.2.2.2)]) d_L_run_233 s_L_84 (S_L_named_26 hX1 (CE_sk hE) hO) (by omega) rfl rfl (Nat.le_of_ble_eq_true rfl) ?_
  refine CV_V (av := [.int (jI (nmV e 1))]) d_L_run_236 s_L_67 (M_rcv rfl (by decide) rfl) (S_L_push (X := X) (s := s) (l := l) hX hl (by first | omega | (simp only [List.length_cons] at *; omega))) (by omega) rfl rfl (Nat.le_of_ble_eq_true rfl) ?_
  refine J_goto (tgt := 263) d_L_run_239 (by decide) ?_
  refine N_iinc (a := p) (c := 1) (L1 := [some (.ref 16), some (.ref T), some (.int (nI fm)), some (.int (nI to)), some (.ref a), some (.int (nI e.2.2.2.2.1)), some (.int (jI e.2.2.2.2.2)), some (.int (nI en)), some (.int (nI (p + 1))), some (.int (nI 26)), some (.int (nI ((cw p) / 64))), z11]) d_L_run_263 rfl rfl (by decide) rfl ?_
  refine J_goto (tgt := 19) d_L_run_266 (by decide) ?_
  exact kx _ _ _ _ (by rw [List.length_set]; exact hl) (stk_push (by first | omega | (simp only [List.length_cons] at *; omega)) hk)

theorem run_27 {X : Mem} {a T : Nat} {e : Env} {cw : Nat → Nat} {Q : Option Value → Mem → Prop} {fm to en p w : Nat} {s : List Int} {l : List Int32} {z9 z10 z11 : Option Value} (hX : Ok X) (hE : CE X a e) (hO : okE e) (hT : TC X T cw) (hl : l.length = 300) (hp : p < en) (hen : en ≤ 300) (hk0 : cw p % 64 = 27) (hsl : (List.length s) ≤ p) (hk : stkL s l) (kx : ∀ (l : List Int32) (z9 z10 z11 : Option Value), l.length = 300 → stkL (nmV e 2 :: s) l → JM 3 m_L_run Q 19 [some (.ref 16), some (.ref T), some (.int (nI fm)), some (.int (nI to)), some (.ref a), some (.int (nI e.2.2.2.2.1)), some (.int (jI e.2.2.2.2.2)), some (.int (nI en)), some (.int (nI (p + 1))), z9, z10, z11] [] (skX X (nmV e 2 :: s) l)) : JM 3 m_L_run Q 19 [some (.ref 16), some (.ref T), some (.int (nI fm)), some (.int (nI to)), some (.ref a), some (.int (nI e.2.2.2.2.1)), some (.int (jI e.2.2.2.2.2)), some (.int (nI en)), some (.int (nI p)), z9, z10, z11] [] (skX X s l) := by
  have hT5 := (txt_f hT.1).2.2.2.2
  have hm8 := hO.1
  have hmk := hO.2.1
  have hst := hO.2.2.1 e.2.2.2.2.1 (by omega)
  have hcw := (hT.2 p (by omega) (by omega)).2
  have hX1 : Ok (skX X s l) := okSk hX hl
  refine J_iload d_L_run_19 rfl ?_
  refine N_if_lt (tgt := 269) d_L_run_21 (by decide) (by omega) ?_
  refine J_iload d_L_run_24 rfl ?_
  refine J_iload d_L_run_26 rfl ?_
  refine N_icmp_ge (tgt := 269) d_L_run_28 (by decide) (by omega) (by omega) (fun c28 => absurd c28 (by omega)) (fun c28 => ?_)
  refine J_aload_n (i := 1) d_L_run_31 rfl rfl ?_
  refine M_getR (b := (T + 1)) d_L_run_32 f_L_64 hT.1 rfl (txt_f hT.1).1.1 ?_
  refine J_iload d_L_run_35 rfl ?_
  refine N_iald (x := (nI (cw p))) d_L_run_37 (txt_f hT.1).2.1.1 (by omega) (ltL hX1 (a := T + 1) (n := 300) (by omega) (txt_f hT.1).2.2.1.1 (by omega)) (show ((skX X s l).2.1 (T + 1)).getD p 0 = nI (cw p) from by rw [show (skX X s l).2.1 (T + 1) = X.2.1 (T + 1) from if_neg (by omega)]; exact (hT.2 p (by omega) (by omega)).1) ?_
  refine J_bipush (v := nI 64) d_L_run_38 rfl ?_
  refine N_irem d_L_run_40 (by omega) (by omega) (by omega) ?_
  rw [hk0]
  refine J_istore (L1 := [some (.ref 16), some (.ref T), some (.int (nI fm)), some (.int (nI to)), some (.ref a), some (.int (nI e.2.2.2.2.1)), some (.int (jI e.2.2.2.2.2)), some (.int (nI en)), some (.int (nI p)), some (.int (nI 27)), z10, z11]) d_L_run_41 (by decide) rfl ?_
  refine J_aload_n (i := 1) d_L_run_43 rfl rfl ?_
  refine M_getR (b := (T + 1)) d_L_run_44 f_L_64 hT.1 rfl (txt_f hT.1).1.1 ?_
  refine J_iload d_L_run_47 rfl ?_
  refine N_iald (x := (nI (cw p))) d_L_run_49 (txt_f hT.1).2.1.1 (by omega) (ltL hX1 (a := T + 1) (n := 300) (by omega) (txt_f hT.1).2.2.1.1 (by omega)) (show ((skX X s l).2.1 (T + 1)).getD p 0 = nI (cw p) from by rw [show (skX X s l).2.1 (T + 1) = X.2.1 (T + 1) from if_neg (by omega)]; exact (hT.2 p (by omega) (by omega)).1) ?_
  refine J_bipush (v := nI 64) d_L_run_50 rfl ?_
  refine N_idiv d_L_run_52 (by omega) (by omega) (by omega) ?_
  refine J_istore (L1 := [some (.ref 16), some (.ref T), some (.int (nI fm)), some (.int (nI to)), some (.ref a), some (.int (nI e.2.2.2.2.1)), some (.int (jI e.2.2.2.2.2)), some (.int (nI en)), some (.int (nI p)), some (.int (nI 27)), some (.int (nI ((cw p) / 64))), z11]) d_L_run_53 (by decide) rfl ?_
  refine J_iload d_L_run_55 rfl ?_
  refine J_bipush (v := nI 45) d_L_run_57 rfl ?_
  refine N_icmp_ne (tgt := 71) d_L_run_59 (by decide) (by omega) (by omega) (fun c59 => ?_) (fun c59 => absurd c59 (by decide))
  refine J_iload d_L_run_71 rfl ?_
  refine J_bipush (v := nI 31) d_L_run_73 rfl ?_
  refine N_icmp_ne (tgt := 96) d_L_run_75 (by decide) (by omega) (by omega) (fun c75 => ?_) (fun c75 => absurd c75 (by decide))
  refine J_iload d_L_run_96 rfl ?_
  refine J_bipush (v := nI 20) d_L_run_98 rfl ?_
  refine N_icmp_eq (tgt := 110) d_L_run_100 (by decide) (by omega) (by omega) (fun c100 => absurd c100 (by decide)) (fun c100 => ?_)
  refine J_iload d_L_run_103 rfl ?_
  refine J_bipush (v := nI 21) d_L_run_105 rfl ?_
  refine N_icmp_ne (tgt := 155) d_L_run_107 (by decide) (by omega) (by omega) (fun c107 => ?_) (fun c107 => absurd c107 (by decide))
  refine J_iload d_L_run_155 rfl ?_
  refine J_bipush (v := nI 17) d_L_run_157 rfl ?_
  refine N_icmp_eq (tgt := 183) d_L_run_159 (by decide) (by omega) (by omega) (fun c159 => absurd c159 (by decide)) (fun c159 => ?_)
  refine J_iload d_L_run_162 rfl ?_
  refine J_bipush (v := nI 18) d_L_run_164 rfl ?_
  refine N_icmp_eq (tgt := 183) d_L_run_166 (by decide) (by omega) (by omega) (fun c166 => absurd c166 (by decide)) (fun c166 => ?_)
  refine J_iload d_L_run_169 rfl ?_
  refine J_bipush (v := nI 48) d_L_run_171 rfl ?_
  refine N_icmp_eq (tgt := 183) d_L_run_173 (by decide) (by omega) (by omega) (fun c173 => absurd c173 (by decide)) (fun c173 => ?_)
  refine J_iload d_L_run_176 rfl ?_
  refine J_bipush (v := nI 25) d_L_run_178 rfl ?_
  refine N_icmp_ne (tgt := 203) d_L_run_180 (by decide) (by omega) (by omega) (fun c180 => ?_) (fun c180 => absurd c180 (by decide))
  refine J_iload d_L_run_203 rfl ?_
  refine J_bipush (v := nI 6) d_L_run_205 rfl ?_
  refine N_icmp_eq (tgt := 224) d_L_run_207 (by decide) (by omega) (by omega) (fun c207 => absurd c207 (by decide)) (fun c207 => ?_)
  refine J_iload d_L_run_210 rfl ?_
  refine J_bipush (v := nI 26) d_L_run_212 rfl ?_
  refine N_icmp_lt (tgt := 242) d_L_run_214 (by decide) (by omega) (by omega) (fun c214 => absurd c214 (by decide)) (fun c214 => ?_)
  refine J_iload d_L_run_217 rfl ?_
  refine J_bipush (v := nI 30) d_L_run_219 rfl ?_
  refine N_icmp_gt (tgt := 242) d_L_run_221 (by decide) (by omega) (by omega) (fun c221 => absurd c221 (by decide)) (fun c221 => ?_)
  refine J_aload_n (i := 0) d_L_run_224 rfl rfl ?_
  refine J_iload d_L_run_225 rfl ?_
  refine J_aload d_L_run_227 rfl ?_
  refine J_iload d_L_run_229 rfl ?_
  refine J_iload d_L_run_231 rfl ?_
  refine CS_I (av := [.int (nI 27), .ref a, .int (nI e.2.2.2.2.1), .int (jI e.2.2.2.2.2)]) d_L_run_233 s_L_84 (S_L_named_27 hX1 (CE_sk hE) hO) (by omega) rfl rfl (Nat.le_of_ble_eq_true rfl) ?_
  refine CV_V (av := [.int (jI (nmV e 2))]) d_L_run_236 s_L_67 (M_rcv rfl (by decide) rfl) (S_L_push (X := X) (s := s) (l := l) hX hl (by first | omega | (simp only [List.length_cons] at *; omega))) (by omega) rfl rfl (Nat.le_of_ble_eq_true rfl) ?_
  refine J_goto (tgt := 263) d_L_run_239 (by decide) ?_
  refine N_iinc (a := p) (c := 1) (L1 := [some (.ref 16), some (.ref T), some (.int (nI fm)), some (.int (nI to)), some (.ref a), some (.int (nI e.2.2.2.2.1)), some (.int (jI e.2.2.2.2.2)), some (.int (nI en)), some (.int (nI (p + 1))), some (.int (nI 27)), some (.int (nI ((cw p) / 64))), z11]) d_L_run_263 rfl rfl (by decide) rfl ?_
  refine J_goto (tgt := 19) d_L_run_266 (by decide) ?_
  exact kx _ _ _ _ (by rw [List.length_set]; exact hl) (stk_push (by first | omega | (simp only [List.length_cons] at *; omega)) hk)

theorem run_28 {X : Mem} {a T : Nat} {e : Env} {cw : Nat → Nat} {Q : Option Value → Mem → Prop} {fm to en p w : Nat} {s : List Int} {l : List Int32} {z9 z10 z11 : Option Value} (hX : Ok X) (hE : CE X a e) (hO : okE e) (hT : TC X T cw) (hl : l.length = 300) (hp : p < en) (hen : en ≤ 300) (hk0 : cw p % 64 = 28) (hsl : (List.length s) ≤ p) (hk : stkL s l) (kx : ∀ (l : List Int32) (z9 z10 z11 : Option Value), l.length = 300 → stkL (nmV e 3 :: s) l → JM 3 m_L_run Q 19 [some (.ref 16), some (.ref T), some (.int (nI fm)), some (.int (nI to)), some (.ref a), some (.int (nI e.2.2.2.2.1)), some (.int (jI e.2.2.2.2.2)), some (.int (nI en)), some (.int (nI (p + 1))), z9, z10, z11] [] (skX X (nmV e 3 :: s) l)) : JM 3 m_L_run Q 19 [some (.ref 16), some (.ref T), some (.int (nI fm)), some (.int (nI to)), some (.ref a), some (.int (nI e.2.2.2.2.1)), some (.int (jI e.2.2.2.2.2)), some (.int (nI en)), some (.int (nI p)), z9, z10, z11] [] (skX X s l) := by
  have hT5 := (txt_f hT.1).2.2.2.2
  have hm8 := hO.1
  have hmk := hO.2.1
  have hst := hO.2.2.1 e.2.2.2.2.1 (by omega)
  have hcw := (hT.2 p (by omega) (by omega)).2
  have hX1 : Ok (skX X s l) := okSk hX hl
  refine J_iload d_L_run_19 rfl ?_
  refine N_if_lt (tgt := 269) d_L_run_21 (by decide) (by omega) ?_
  refine J_iload d_L_run_24 rfl ?_
  refine J_iload d_L_run_26 rfl ?_
  refine N_icmp_ge (tgt := 269) d_L_run_28 (by decide) (by omega) (by omega) (fun c28 => absurd c28 (by omega)) (fun c28 => ?_)
  refine J_aload_n (i := 1) d_L_run_31 rfl rfl ?_
  refine M_getR (b := (T + 1)) d_L_run_32 f_L_64 hT.1 rfl (txt_f hT.1).1.1 ?_
  refine J_iload d_L_run_35 rfl ?_
  refine N_iald (x := (nI (cw p))) d_L_run_37 (txt_f hT.1).2.1.1 (by omega) (ltL hX1 (a := T + 1) (n := 300) (by omega) (txt_f hT.1).2.2.1.1 (by omega)) (show ((skX X s l).2.1 (T + 1)).getD p 0 = nI (cw p) from by rw [show (skX X s l).2.1 (T + 1) = X.2.1 (T + 1) from if_neg (by omega)]; exact (hT.2 p (by omega) (by omega)).1) ?_
  refine J_bipush (v := nI 64) d_L_run_38 rfl ?_
  refine N_irem d_L_run_40 (by omega) (by omega) (by omega) ?_
  rw [hk0]
  refine J_istore (L1 := [some (.ref 16), some (.ref T), some (.int (nI fm)), some (.int (nI to)), some (.ref a), some (.int (nI e.2.2.2.2.1)), some (.int (jI e.2.2.2.2.2)), some (.int (nI en)), some (.int (nI p)), some (.int (nI 28)), z10, z11]) d_L_run_41 (by decide) rfl ?_
  refine J_aload_n (i := 1) d_L_run_43 rfl rfl ?_
  refine M_getR (b := (T + 1)) d_L_run_44 f_L_64 hT.1 rfl (txt_f hT.1).1.1 ?_
  refine J_iload d_L_run_47 rfl ?_
  refine N_iald (x := (nI (cw p))) d_L_run_49 (txt_f hT.1).2.1.1 (by omega) (ltL hX1 (a := T + 1) (n := 300) (by omega) (txt_f hT.1).2.2.1.1 (by omega)) (show ((skX X s l).2.1 (T + 1)).getD p 0 = nI (cw p) from by rw [show (skX X s l).2.1 (T + 1) = X.2.1 (T + 1) from if_neg (by omega)]; exact (hT.2 p (by omega) (by omega)).1) ?_
  refine J_bipush (v := nI 64) d_L_run_50 rfl ?_
  refine N_idiv d_L_run_52 (by omega) (by omega) (by omega) ?_
  refine J_istore (L1 := [some (.ref 16), some (.ref T), some (.int (nI fm)), some (.int (nI to)), some (.ref a), some (.int (nI e.2.2.2.2.1)), some (.int (jI e.2.2.2.2.2)), some (.int (nI en)), some (.int (nI p)), some (.int (nI 28)), some (.int (nI ((cw p) / 64))), z11]) d_L_run_53 (by decide) rfl ?_
  refine J_iload d_L_run_55 rfl ?_
  refine J_bipush (v := nI 45) d_L_run_57 rfl ?_
  refine N_icmp_ne (tgt := 71) d_L_run_59 (by decide) (by omega) (by omega) (fun c59 => ?_) (fun c59 => absurd c59 (by decide))
  refine J_iload d_L_run_71 rfl ?_
  refine J_bipush (v := nI 31) d_L_run_73 rfl ?_
  refine N_icmp_ne (tgt := 96) d_L_run_75 (by decide) (by omega) (by omega) (fun c75 => ?_) (fun c75 => absurd c75 (by decide))
  refine J_iload d_L_run_96 rfl ?_
  refine J_bipush (v := nI 20) d_L_run_98 rfl ?_
  refine N_icmp_eq (tgt := 110) d_L_run_100 (by decide) (by omega) (by omega) (fun c100 => absurd c100 (by decide)) (fun c100 => ?_)
  refine J_iload d_L_run_103 rfl ?_
  refine J_bipush (v := nI 21) d_L_run_105 rfl ?_
  refine N_icmp_ne (tgt := 155) d_L_run_107 (by decide) (by omega) (by omega) (fun c107 => ?_) (fun c107 => absurd c107 (by decide))
  refine J_iload d_L_run_155 rfl ?_
  refine J_bipush (v := nI 17) d_L_run_157 rfl ?_
  refine N_icmp_eq (tgt := 183) d_L_run_159 (by decide) (by omega) (by omega) (fun c159 => absurd c159 (by decide)) (fun c159 => ?_)
  refine J_iload d_L_run_162 rfl ?_
  refine J_bipush (v := nI 18) d_L_run_164 rfl ?_
  refine N_icmp_eq (tgt := 183) d_L_run_166 (by decide) (by omega) (by omega) (fun c166 => absurd c166 (by decide)) (fun c166 => ?_)
  refine J_iload d_L_run_169 rfl ?_
  refine J_bipush (v := nI 48) d_L_run_171 rfl ?_
  refine N_icmp_eq (tgt := 183) d_L_run_173 (by decide) (by omega) (by omega) (fun c173 => absurd c173 (by decide)) (fun c173 => ?_)
  refine J_iload d_L_run_176 rfl ?_
  refine J_bipush (v := nI 25) d_L_run_178 rfl ?_
  refine N_icmp_ne (tgt := 203) d_L_run_180 (by decide) (by omega) (by omega) (fun c180 => ?_) (fun c180 => absurd c180 (by decide))
  refine J_iload d_L_run_203 rfl ?_
  refine J_bipush (v := nI 6) d_L_run_205 rfl ?_
  refine N_icmp_eq (tgt := 224) d_L_run_207 (by decide) (by omega) (by omega) (fun c207 => absurd c207 (by decide)) (fun c207 => ?_)
  refine J_iload d_L_run_210 rfl ?_
  refine J_bipush (v := nI 26) d_L_run_212 rfl ?_
  refine N_icmp_lt (tgt := 242) d_L_run_214 (by decide) (by omega) (by omega) (fun c214 => absurd c214 (by decide)) (fun c214 => ?_)
  refine J_iload d_L_run_217 rfl ?_
  refine J_bipush (v := nI 30) d_L_run_219 rfl ?_
  refine N_icmp_gt (tgt := 242) d_L_run_221 (by decide) (by omega) (by omega) (fun c221 => absurd c221 (by decide)) (fun c221 => ?_)
  refine J_aload_n (i := 0) d_L_run_224 rfl rfl ?_
  refine J_iload d_L_run_225 rfl ?_
  refine J_aload d_L_run_227 rfl ?_
  refine J_iload d_L_run_229 rfl ?_
  refine J_iload d_L_run_231 rfl ?_
  refine CS_I (av := [.int (nI 28), .ref a, .int (nI e.2.2.2.2.1), .int (jI e.2.2.2.2.2)]) d_L_run_233 s_L_84 (S_L_named_28 hX1 (CE_sk hE) hO) (by omega) rfl rfl (Nat.le_of_ble_eq_true rfl) ?_
  refine CV_V (av := [.int (jI (nmV e 3))]) d_L_run_236 s_L_67 (M_rcv rfl (by decide) rfl) (S_L_push (X := X) (s := s) (l := l) hX hl (by first | omega | (simp only [List.length_cons] at *; omega))) (by omega) rfl rfl (Nat.le_of_ble_eq_true rfl) ?_
  refine J_goto (tgt := 263) d_L_run_239 (by decide) ?_
  refine N_iinc (a := p) (c := 1) (L1 := [some (.ref 16), some (.ref T), some (.int (nI fm)), some (.int (nI to)), some (.ref a), some (.int (nI e.2.2.2.2.1)), some (.int (jI e.2.2.2.2.2)), some (.int (nI en)), some (.int (nI (p + 1))), some (.int (nI 28)), some (.int (nI ((cw p) / 64))), z11]) d_L_run_263 rfl rfl (by decide) rfl ?_
  refine J_goto (tgt := 19) d_L_run_266 (by decide) ?_
  exact kx _ _ _ _ (by rw [List.length_set]; exact hl) (stk_push (by first | omega | (simp only [List.length_cons] at *; omega)) hk)

theorem run_29 {X : Mem} {a T : Nat} {e : Env} {cw : Nat → Nat} {Q : Option Value → Mem → Prop} {fm to en p w : Nat} {s : List Int} {l : List Int32} {z9 z10 z11 : Option Value} (hX : Ok X) (hE : CE X a e) (hO : okE e) (hT : TC X T cw) (hl : l.length = 300) (hp : p < en) (hen : en ≤ 300) (hk0 : cw p % 64 = 29) (hsl : (List.length s) ≤ p) (hk : stkL s l) (kx : ∀ (l : List Int32) (z9 z10 z11 : Option Value), l.length = 300 → stkL (nmV e 4 :: s) l → JM 3 m_L_run Q 19 [some (.ref 16), some (.ref T), some (.int (nI fm)), some (.int (nI to)), some (.ref a), some (.int (nI e.2.2.2.2.1)), some (.int (jI e.2.2.2.2.2)), some (.int (nI en)), some (.int (nI (p + 1))), z9, z10, z11] [] (skX X (nmV e 4 :: s) l)) : JM 3 m_L_run Q 19 [some (.ref 16), some (.ref T), some (.int (nI fm)), some (.int (nI to)), some (.ref a), some (.int (nI e.2.2.2.2.1)), some (.int (jI e.2.2.2.2.2)), some (.int (nI en)), some (.int (nI p)), z9, z10, z11] [] (skX X s l) := by
  have hT5 := (txt_f hT.1).2.2.2.2
  have hm8 := hO.1
  have hmk := hO.2.1
  have hst := hO.2.2.1 e.2.2.2.2.1 (by omega)
  have hcw := (hT.2 p (by omega) (by omega)).2
  have hX1 : Ok (skX X s l) := okSk hX hl
  refine J_iload d_L_run_19 rfl ?_
  refine N_if_lt (tgt := 269) d_L_run_21 (by decide) (by omega) ?_
  refine J_iload d_L_run_24 rfl ?_
  refine J_iload d_L_run_26 rfl ?_
  refine N_icmp_ge (tgt := 269) d_L_run_28 (by decide) (by omega) (by omega) (fun c28 => absurd c28 (by omega)) (fun c28 => ?_)
  refine J_aload_n (i := 1) d_L_run_31 rfl rfl ?_
  refine M_getR (b := (T + 1)) d_L_run_32 f_L_64 hT.1 rfl (txt_f hT.1).1.1 ?_
  refine J_iload d_L_run_35 rfl ?_
  refine N_iald (x := (nI (cw p))) d_L_run_37 (txt_f hT.1).2.1.1 (by omega) (ltL hX1 (a := T + 1) (n := 300) (by omega) (txt_f hT.1).2.2.1.1 (by omega)) (show ((skX X s l).2.1 (T + 1)).getD p 0 = nI (cw p) from by rw [show (skX X s l).2.1 (T + 1) = X.2.1 (T + 1) from if_neg (by omega)]; exact (hT.2 p (by omega) (by omega)).1) ?_
  refine J_bipush (v := nI 64) d_L_run_38 rfl ?_
  refine N_irem d_L_run_40 (by omega) (by omega) (by omega) ?_
  rw [hk0]
  refine J_istore (L1 := [some (.ref 16), some (.ref T), some (.int (nI fm)), some (.int (nI to)), some (.ref a), some (.int (nI e.2.2.2.2.1)), some (.int (jI e.2.2.2.2.2)), some (.int (nI en)), some (.int (nI p)), some (.int (nI 29)), z10, z11]) d_L_run_41 (by decide) rfl ?_
  refine J_aload_n (i := 1) d_L_run_43 rfl rfl ?_
  refine M_getR (b := (T + 1)) d_L_run_44 f_L_64 hT.1 rfl (txt_f hT.1).1.1 ?_
  refine J_iload d_L_run_47 rfl ?_
  refine N_iald (x := (nI (cw p))) d_L_run_49 (txt_f hT.1).2.1.1 (by omega) (ltL hX1 (a := T + 1) (n := 300) (by omega) (txt_f hT.1).2.2.1.1 (by omega)) (show ((skX X s l).2.1 (T + 1)).getD p 0 = nI (cw p) from by rw [show (skX X s l).2.1 (T + 1) = X.2.1 (T + 1) from if_neg (by omega)]; exact (hT.2 p (by omega) (by omega)).1) ?_
  refine J_bipush (v := nI 64) d_L_run_50 rfl ?_
  refine N_idiv d_L_run_52 (by omega) (by omega) (by omega) ?_
  refine J_istore (L1 := [some (.ref 16), some (.ref T), some (.int (nI fm)), some (.int (nI to)), some (.ref a), some (.int (nI e.2.2.2.2.1)), some (.int (jI e.2.2.2.2.2)), some (.int (nI en)), some (.int (nI p)), some (.int (nI 29)), some (.int (nI ((cw p) / 64))), z11]) d_L_run_53 (by decide) rfl ?_
  refine J_iload d_L_run_55 rfl ?_
  refine J_bipush (v := nI 45) d_L_run_57 rfl ?_
  refine N_icmp_ne (tgt := 71) d_L_run_59 (by decide) (by omega) (by omega) (fun c59 => ?_) (fun c59 => absurd c59 (by decide))
  refine J_iload d_L_run_71 rfl ?_
  refine J_bipush (v := nI 31) d_L_run_73 rfl ?_
  refine N_icmp_ne (tgt := 96) d_L_run_75 (by decide) (by omega) (by omega) (fun c75 => ?_) (fun c75 => absurd c75 (by decide))
  refine J_iload d_L_run_96 rfl ?_
  refine J_bipush (v := nI 20) d_L_run_98 rfl ?_
  refine N_icmp_eq (tgt := 110) d_L_run_100 (by decide) (by omega) (by omega) (fun c100 => absurd c100 (by decide)) (fun c100 => ?_)
  refine J_iload d_L_run_103 rfl ?_
  refine J_bipush (v := nI 21) d_L_run_105 rfl ?_
  refine N_icmp_ne (tgt := 155) d_L_run_107 (by decide) (by omega) (by omega) (fun c107 => ?_) (fun c107 => absurd c107 (by decide))
  refine J_iload d_L_run_155 rfl ?_
  refine J_bipush (v := nI 17) d_L_run_157 rfl ?_
  refine N_icmp_eq (tgt := 183) d_L_run_159 (by decide) (by omega) (by omega) (fun c159 => absurd c159 (by decide)) (fun c159 => ?_)
  refine J_iload d_L_run_162 rfl ?_
  refine J_bipush (v := nI 18) d_L_run_164 rfl ?_
  refine N_icmp_eq (tgt := 183) d_L_run_166 (by decide) (by omega) (by omega) (fun c166 => absurd c166 (by decide)) (fun c166 => ?_)
  refine J_iload d_L_run_169 rfl ?_
  refine J_bipush (v := nI 48) d_L_run_171 rfl ?_
  refine N_icmp_eq (tgt := 183) d_L_run_173 (by decide) (by omega) (by omega) (fun c173 => absurd c173 (by decide)) (fun c173 => ?_)
  refine J_iload d_L_run_176 rfl ?_
  refine J_bipush (v := nI 25) d_L_run_178 rfl ?_
  refine N_icmp_ne (tgt := 203) d_L_run_180 (by decide) (by omega) (by omega) (fun c180 => ?_) (fun c180 => absurd c180 (by decide))
  refine J_iload d_L_run_203 rfl ?_
  refine J_bipush (v := nI 6) d_L_run_205 rfl ?_
  refine N_icmp_eq (tgt := 224) d_L_run_207 (by decide) (by omega) (by omega) (fun c207 => absurd c207 (by decide)) (fun c207 => ?_)
  refine J_iload d_L_run_210 rfl ?_
  refine J_bipush (v := nI 26) d_L_run_212 rfl ?_
  refine N_icmp_lt (tgt := 242) d_L_run_214 (by decide) (by omega) (by omega) (fun c214 => absurd c214 (by decide)) (fun c214 => ?_)
  refine J_iload d_L_run_217 rfl ?_
  refine J_bipush (v := nI 30) d_L_run_219 rfl ?_
  refine N_icmp_gt (tgt := 242) d_L_run_221 (by decide) (by omega) (by omega) (fun c221 => absurd c221 (by decide)) (fun c221 => ?_)
  refine J_aload_n (i := 0) d_L_run_224 rfl rfl ?_
  refine J_iload d_L_run_225 rfl ?_
  refine J_aload d_L_run_227 rfl ?_
  refine J_iload d_L_run_229 rfl ?_
  refine J_iload d_L_run_231 rfl ?_
  refine CS_I (av := [.int (nI 29), .ref a, .int (nI e.2.2.2.2.1), .int (jI e.2.2.2.2.2)]) d_L_run_233 s_L_84 (S_L_named_29 hX1 (CE_sk hE) hO) (by omega) rfl rfl (Nat.le_of_ble_eq_true rfl) ?_
  refine CV_V (av := [.int (jI (nmV e 4))]) d_L_run_236 s_L_67 (M_rcv rfl (by decide) rfl) (S_L_push (X := X) (s := s) (l := l) hX hl (by first | omega | (simp only [List.length_cons] at *; omega))) (by omega) rfl rfl (Nat.le_of_ble_eq_true rfl) ?_
  refine J_goto (tgt := 263) d_L_run_239 (by decide) ?_
  refine N_iinc (a := p) (c := 1) (L1 := [some (.ref 16), some (.ref T), some (.int (nI fm)), some (.int (nI to)), some (.ref a), some (.int (nI e.2.2.2.2.1)), some (.int (jI e.2.2.2.2.2)), some (.int (nI en)), some (.int (nI (p + 1))), some (.int (nI 29)), some (.int (nI ((cw p) / 64))), z11]) d_L_run_263 rfl rfl (by decide) rfl ?_
  refine J_goto (tgt := 19) d_L_run_266 (by decide) ?_
  exact kx _ _ _ _ (by rw [List.length_set]; exact hl) (stk_push (by first | omega | (simp only [List.length_cons] at *; omega)) hk)

theorem run_30 {X : Mem} {a T : Nat} {e : Env} {cw : Nat → Nat} {Q : Option Value → Mem → Prop} {fm to en p w : Nat} {s : List Int} {l : List Int32} {z9 z10 z11 : Option Value} (hX : Ok X) (hE : CE X a e) (hO : okE e) (hT : TC X T cw) (hl : l.length = 300) (hp : p < en) (hen : en ≤ 300) (hk0 : cw p % 64 = 30) (hsl : (List.length s) ≤ p) (hk : stkL s l) (kx : ∀ (l : List Int32) (z9 z10 z11 : Option Value), l.length = 300 → stkL (nmV e 5 :: s) l → JM 3 m_L_run Q 19 [some (.ref 16), some (.ref T), some (.int (nI fm)), some (.int (nI to)), some (.ref a), some (.int (nI e.2.2.2.2.1)), some (.int (jI e.2.2.2.2.2)), some (.int (nI en)), some (.int (nI (p + 1))), z9, z10, z11] [] (skX X (nmV e 5 :: s) l)) : JM 3 m_L_run Q 19 [some (.ref 16), some (.ref T), some (.int (nI fm)), some (.int (nI to)), some (.ref a), some (.int (nI e.2.2.2.2.1)), some (.int (jI e.2.2.2.2.2)), some (.int (nI en)), some (.int (nI p)), z9, z10, z11] [] (skX X s l) := by
  have hT5 := (txt_f hT.1).2.2.2.2
  have hm8 := hO.1
  have hmk := hO.2.1
  have hst := hO.2.2.1 e.2.2.2.2.1 (by omega)
  have hcw := (hT.2 p (by omega) (by omega)).2
  have hX1 : Ok (skX X s l) := okSk hX hl
  refine J_iload d_L_run_19 rfl ?_
  refine N_if_lt (tgt := 269) d_L_run_21 (by decide) (by omega) ?_
  refine J_iload d_L_run_24 rfl ?_
  refine J_iload d_L_run_26 rfl ?_
  refine N_icmp_ge (tgt := 269) d_L_run_28 (by decide) (by omega) (by omega) (fun c28 => absurd c28 (by omega)) (fun c28 => ?_)
  refine J_aload_n (i := 1) d_L_run_31 rfl rfl ?_
  refine M_getR (b := (T + 1)) d_L_run_32 f_L_64 hT.1 rfl (txt_f hT.1).1.1 ?_
  refine J_iload d_L_run_35 rfl ?_
  refine N_iald (x := (nI (cw p))) d_L_run_37 (txt_f hT.1).2.1.1 (by omega) (ltL hX1 (a := T + 1) (n := 300) (by omega) (txt_f hT.1).2.2.1.1 (by omega)) (show ((skX X s l).2.1 (T + 1)).getD p 0 = nI (cw p) from by rw [show (skX X s l).2.1 (T + 1) = X.2.1 (T + 1) from if_neg (by omega)]; exact (hT.2 p (by omega) (by omega)).1) ?_
  refine J_bipush (v := nI 64) d_L_run_38 rfl ?_
  refine N_irem d_L_run_40 (by omega) (by omega) (by omega) ?_
  rw [hk0]
  refine J_istore (L1 := [some (.ref 16), some (.ref T), some (.int (nI fm)), some (.int (nI to)), some (.ref a), some (.int (nI e.2.2.2.2.1)), some (.int (jI e.2.2.2.2.2)), some (.int (nI en)), some (.int (nI p)), some (.int (nI 30)), z10, z11]) d_L_run_41 (by decide) rfl ?_
  refine J_aload_n (i := 1) d_L_run_43 rfl rfl ?_
  refine M_getR (b := (T + 1)) d_L_run_44 f_L_64 hT.1 rfl (txt_f hT.1).1.1 ?_
  refine J_iload d_L_run_47 rfl ?_
  refine N_iald (x := (nI (cw p))) d_L_run_49 (txt_f hT.1).2.1.1 (by omega) (ltL hX1 (a := T + 1) (n := 300) (by omega) (txt_f hT.1).2.2.1.1 (by omega)) (show ((skX X s l).2.1 (T + 1)).getD p 0 = nI (cw p) from by rw [show (skX X s l).2.1 (T + 1) = X.2.1 (T + 1) from if_neg (by omega)]; exact (hT.2 p (by omega) (by omega)).1) ?_
  refine J_bipush (v := nI 64) d_L_run_50 rfl ?_
  refine N_idiv d_L_run_52 (by omega) (by omega) (by omega) ?_
  refine J_istore (L1 := [some (.ref 16), some (.ref T), some (.int (nI fm)), some (.int (nI to)), some (.ref a), some (.int (nI e.2.2.2.2.1)), some (.int (jI e.2.2.2.2.2)), some (.int (nI en)), some (.int (nI p)), some (.int (nI 30)), some (.int (nI ((cw p) / 64))), z11]) d_L_run_53 (by decide) rfl ?_
  refine J_iload d_L_run_55 rfl ?_
  refine J_bipush (v := nI 45) d_L_run_57 rfl ?_
  refine N_icmp_ne (tgt := 71) d_L_run_59 (by decide) (by omega) (by omega) (fun c59 => ?_) (fun c59 => absurd c59 (by decide))
  refine J_iload d_L_run_71 rfl ?_
  refine J_bipush (v := nI 31) d_L_run_73 rfl ?_
  refine N_icmp_ne (tgt := 96) d_L_run_75 (by decide) (by omega) (by omega) (fun c75 => ?_) (fun c75 => absurd c75 (by decide))
  refine J_iload d_L_run_96 rfl ?_
  refine J_bipush (v := nI 20) d_L_run_98 rfl ?_
  refine N_icmp_eq (tgt := 110) d_L_run_100 (by decide) (by omega) (by omega) (fun c100 => absurd c100 (by decide)) (fun c100 => ?_)
  refine J_iload d_L_run_103 rfl ?_
  refine J_bipush (v := nI 21) d_L_run_105 rfl ?_
  refine N_icmp_ne (tgt := 155) d_L_run_107 (by decide) (by omega) (by omega) (fun c107 => ?_) (fun c107 => absurd c107 (by decide))
  refine J_iload d_L_run_155 rfl ?_
  refine J_bipush (v := nI 17) d_L_run_157 rfl ?_
  refine N_icmp_eq (tgt := 183) d_L_run_159 (by decide) (by omega) (by omega) (fun c159 => absurd c159 (by decide)) (fun c159 => ?_)
  refine J_iload d_L_run_162 rfl ?_
  refine J_bipush (v := nI 18) d_L_run_164 rfl ?_
  refine N_icmp_eq (tgt := 183) d_L_run_166 (by decide) (by omega) (by omega) (fun c166 => absurd c166 (by decide)) (fun c166 => ?_)
  refine J_iload d_L_run_169 rfl ?_
  refine J_bipush (v := nI 48) d_L_run_171 rfl ?_
  refine N_icmp_eq (tgt := 183) d_L_run_173 (by decide) (by omega) (by omega) (fun c173 => absurd c173 (by decide)) (fun c173 => ?_)
  refine J_iload d_L_run_176 rfl ?_
  refine J_bipush (v := nI 25) d_L_run_178 rfl ?_
  refine N_icmp_ne (tgt := 203) d_L_run_180 (by decide) (by omega) (by omega) (fun c180 => ?_) (fun c180 => absurd c180 (by decide))
  refine J_iload d_L_run_203 rfl ?_
  refine J_bipush (v := nI 6) d_L_run_205 rfl ?_
  refine N_icmp_eq (tgt := 224) d_L_run_207 (by decide) (by omega) (by omega) (fun c207 => absurd c207 (by decide)) (fun c207 => ?_)
  refine J_iload d_L_run_210 rfl ?_
  refine J_bipush (v := nI 26) d_L_run_212 rfl ?_
  refine N_icmp_lt (tgt := 242) d_L_run_214 (by decide) (by omega) (by omega) (fun c214 => absurd c214 (by decide)) (fun c214 => ?_)
  refine J_iload d_L_run_217 rfl ?_
  refine J_bipush (v := nI 30) d_L_run_219 rfl ?_
  refine N_icmp_gt (tgt := 242) d_L_run_221 (by decide) (by omega) (by omega) (fun c221 => absurd c221 (by decide)) (fun c221 => ?_)
  refine J_aload_n (i := 0) d_L_run_224 rfl rfl ?_
  refine J_iload d_L_run_225 rfl ?_
  refine J_aload d_L_run_227 rfl ?_
  refine J_iload d_L_run_229 rfl ?_
  refine J_iload d_L_run_231 rfl ?_
  refine CS_I (av := [.int (nI 30), .ref a, .int (nI e.2.2.2.2.1), .int (jI e.2.2.2.2.2)]) d_L_run_233 s_L_84 (S_L_named_30 hX1 (CE_sk hE) hO) (by omega) rfl rfl (Nat.le_of_ble_eq_true rfl) ?_
  refine CV_V (av := [.int (jI (nmV e 5))]) d_L_run_236 s_L_67 (M_rcv rfl (by decide) rfl) (S_L_push (X := X) (s := s) (l := l) hX hl (by first | omega | (simp only [List.length_cons] at *; omega))) (by omega) rfl rfl (Nat.le_of_ble_eq_true rfl) ?_
  refine J_goto (tgt := 263) d_L_run_239 (by decide) ?_
  refine N_iinc (a := p) (c := 1) (L1 := [some (.ref 16), some (.ref T), some (.int (nI fm)), some (.int (nI to)), some (.ref a), some (.int (nI e.2.2.2.2.1)), some (.int (jI e.2.2.2.2.2)), some (.int (nI en)), some (.int (nI (p + 1))), some (.int (nI 30)), some (.int (nI ((cw p) / 64))), z11]) d_L_run_263 rfl rfl (by decide) rfl ?_
  refine J_goto (tgt := 19) d_L_run_266 (by decide) ?_
  exact kx _ _ _ _ (by rw [List.length_set]; exact hl) (stk_push (by first | omega | (simp only [List.length_cons] at *; omega)) hk)

theorem leap_eq {p w : Nat} (h : p < w) (hw : w < 2147483648) : max p (w - 1) + 1 = w := by omega
theorem run_21 {X : Mem} {a T : Nat} {e : Env} {cw : Nat → Nat} {Q : Option Value → Mem → Prop} {fm to en p w : Nat} {s : List Int} {l : List Int32} {z9 z10 z11 : Option Value} (hX : Ok X) (hE : CE X a e) (hO : okE e) (hT : TC X T cw) (hl : l.length = 300) (hp : p < en) (hen : en ≤ 300) (hpw : p < w) (hk0 : cw p % 64 = 21) (hw0 : cw p / 64 = w) (hsl : (List.length s) ≤ p) (hk : stkL s l) (kx : ∀ (l : List Int32) (z9 z10 z11 : Option Value), l.length = 300 → stkL s l → JM 3 m_L_run Q 19 [some (.ref 16), some (.ref T), some (.int (nI fm)), some (.int (nI to)), some (.ref a), some (.int (nI e.2.2.2.2.1)), some (.int (jI e.2.2.2.2.2)), some (.int (nI en)), some (.int (nI w)), z9, z10, z11] [] (skX X s l)) : JM 3 m_L_run Q 19 [some (.ref 16), some (.ref T), some (.int (nI fm)), some (.int (nI to)), some (.ref a), some (.int (nI e.2.2.2.2.1)), some (.int (jI e.2.2.2.2.2)), some (.int (nI en)), some (.int (nI p)), z9, z10, z11] [] (skX X s l) := by
  have hT5 := (txt_f hT.1).2.2.2.2
  have hm8 := hO.1
  have hmk := hO.2.1
  have hst := hO.2.2.1 e.2.2.2.2.1 (by omega)
  have hcw := (hT.2 p (by omega) (by omega)).2
  have hX1 : Ok (skX X s l) := okSk hX hl
  have hw9 : w < 2147483648 := by rw [← hw0]; exact Nat.lt_of_le_of_lt (Nat.div_le_self _ _) hcw
  refine J_iload d_L_run_19 rfl ?_
  refine N_if_lt (tgt := 269) d_L_run_21 (by decide) (by omega) ?_
  refine J_iload d_L_run_24 rfl ?_
  refine J_iload d_L_run_26 rfl ?_
  refine N_icmp_ge (tgt := 269) d_L_run_28 (by decide) (by omega) (by omega) (fun c28 => absurd c28 (by omega)) (fun c28 => ?_)
  refine J_aload_n (i := 1) d_L_run_31 rfl rfl ?_
  refine M_getR (b := (T + 1)) d_L_run_32 f_L_64 hT.1 rfl (txt_f hT.1).1.1 ?_
  refine J_iload d_L_run_35 rfl ?_
  refine N_iald (x := (nI (cw p))) d_L_run_37 (txt_f hT.1).2.1.1 (by omega) (ltL hX1 (a := T + 1) (n := 300) (by omega) (txt_f hT.1).2.2.1.1 (by omega)) (show ((skX X s l).2.1 (T + 1)).getD p 0 = nI (cw p) from by rw [show (skX X s l).2.1 (T + 1) = X.2.1 (T + 1) from if_neg (by omega)]; exact (hT.2 p (by omega) (by omega)).1) ?_
  refine J_bipush (v := nI 64) d_L_run_38 rfl ?_
  refine N_irem d_L_run_40 (by omega) (by omega) (by omega) ?_
  rw [hk0]
  refine J_istore (L1 := [some (.ref 16), some (.ref T), some (.int (nI fm)), some (.int (nI to)), some (.ref a), some (.int (nI e.2.2.2.2.1)), some (.int (jI e.2.2.2.2.2)), some (.int (nI en)), some (.int (nI p)), some (.int (nI 21)), z10, z11]) d_L_run_41 (by decide) rfl ?_
  refine J_aload_n (i := 1) d_L_run_43 rfl rfl ?_
  refine M_getR (b := (T + 1)) d_L_run_44 f_L_64 hT.1 rfl (txt_f hT.1).1.1 ?_
  refine J_iload d_L_run_47 rfl ?_
  refine N_iald (x := (nI (cw p))) d_L_run_49 (txt_f hT.1).2.1.1 (by omega) (ltL hX1 (a := T + 1) (n := 300) (by omega) (txt_f hT.1).2.2.1.1 (by omega)) (show ((skX X s l).2.1 (T + 1)).getD p 0 = nI (cw p) from by rw [show (skX X s l).2.1 (T + 1) = X.2.1 (T + 1) from if_neg (by omega)]; exact (hT.2 p (by omega) (by omega)).1) ?_
  refine J_bipush (v := nI 64) d_L_run_50 rfl ?_
  refine N_idiv d_L_run_52 (by omega) (by omega) (by omega) ?_
  rw [hw0]
  refine J_istore (L1 := [some (.ref 16), some (.ref T), some (.int (nI fm)), some (.int (nI to)), some (.ref a), some (.int (nI e.2.2.2.2.1)), some (.int (jI e.2.2.2.2.2)), some (.int (nI en)), some (.int (nI p)), some (.int (nI 21)), some (.int (nI w)), z11]) d_L_run_53 (by decide) rfl ?_
  refine J_iload d_L_run_55 rfl ?_
  refine J_bipush (v := nI 45) d_L_run_57 rfl ?_
  refine N_icmp_ne (tgt := 71) d_L_run_59 (by decide) (by omega) (by omega) (fun c59 => ?_) (fun c59 => absurd c59 (by decide))
  refine J_iload d_L_run_71 rfl ?_
  refine J_bipush (v := nI 31) d_L_run_73 rfl ?_
  refine N_icmp_ne (tgt := 96) d_L_run_75 (by decide) (by omega) (by omega) (fun c75 => ?_) (fun c75 => absurd c75 (by decide))
  refine J_iload d_L_run_96 rfl ?_
  refine J_bipush (v := nI 20) d_L_run_98 rfl ?_
  refine N_icmp_eq (tgt := 110) d_L_run_100 (by decide) (by omega) (by omega) (fun c100 => absurd c100 (by decide)) (fun c100 => ?_)
  refine J_iload d_L_run_103 rfl ?_
  refine J_bipush (v := nI 21) d_L_run_105 rfl ?_
  refine N_icmp_ne (tgt := 155) d_L_run_107 (by decide) (by omega) (by omega) (fun c107 => absurd c107 (by decide)) (fun c107 => ?_)
  refine J_iload d_L_run_110 rfl ?_
  refine J_bipush (v := nI 21) d_L_run_112 rfl ?_
  refine N_icmp_eq (tgt := 124) d_L_run_114 (by decide) (by omega) (by omega) (fun c114 => ?_) (fun c114 => absurd c114 (by decide))
  refine J_iconst (v := nI 1) d_L_run_124 rfl ?_
  refine J_goto (tgt := 129) d_L_run_125 (by decide) ?_
  refine J_istore (L1 := [some (.ref 16), some (.ref T), some (.int (nI fm)), some (.int (nI to)), some (.ref a), some (.int (nI e.2.2.2.2.1)), some (.int (jI e.2.2.2.2.2)), some (.int (nI en)), some (.int (nI p)), some (.int (nI 21)), some (.int (nI w)), some (.int (nI 1))]) d_L_run_129 (by decide) rfl ?_
  refine J_iload d_L_run_131 rfl ?_
  refine N_if_eq (tgt := 148) d_L_run_133 (by decide) (by omega) (fun c133 => absurd c133 (by decide)) (fun c133 => ?_)
  refine J_iload d_L_run_136 rfl ?_
  refine J_iload d_L_run_138 rfl ?_
  refine J_iconst (v := nI 1) d_L_run_140 rfl ?_
  refine N_isub d_L_run_141 (by omega) ?_
  refine J_mmax d_L_run_142 w_L_38 w_math_max_s w_mathInit w_math_max_c (by omega) (Nat.le_of_ble_eq_true rfl) ?_
  refine I_ton (n := max p (w - 1)) (nI_max (by omega) (by omega)) ?_
  refine J_goto (tgt := 150) d_L_run_145 (by decide) ?_
  refine J_istore (L1 := [some (.ref 16), some (.ref T), some (.int (nI fm)), some (.int (nI to)), some (.ref a), some (.int (nI e.2.2.2.2.1)), some (.int (jI e.2.2.2.2.2)), some (.int (nI en)), some (.int (nI (max p (w - 1)))), some (.int (nI 21)), some (.int (nI w)), some (.int (nI 1))]) d_L_run_150 (by decide) rfl ?_
  refine J_goto (tgt := 263) d_L_run_152 (by decide) ?_
  refine N_iinc (a := (max p (w - 1))) (c := 1) (L1 := [some (.ref 16), some (.ref T), some (.int (nI fm)), some (.int (nI to)), some (.ref a), some (.int (nI e.2.2.2.2.1)), some (.int (jI e.2.2.2.2.2)), some (.int (nI en)), some (.int (nI ((max p (w - 1)) + 1))), some (.int (nI 21)), some (.int (nI w)), some (.int (nI 1))]) d_L_run_263 rfl rfl (by decide) rfl ?_
  refine J_goto (tgt := 19) d_L_run_266 (by decide) ?_
  exact (kx _ _ _ _ hl hk).eq (by rw [show max p (w - 1) + 1 = w by omega]) rfl rfl

theorem run_20z {X : Mem} {a T : Nat} {e : Env} {cw : Nat → Nat} {Q : Option Value → Mem → Prop} {fm to en p w : Nat} {s : List Int} {l : List Int32} {z9 z10 z11 : Option Value} (hX : Ok X) (hE : CE X a e) (hO : okE e) (hT : TC X T cw) (hl : l.length = 300) (hp : p < en) (hen : en ≤ 300) {t : List Int} (hpw : p < w) (hk0 : cw p % 64 = 20) (hw0 : cw p / 64 = w) (hsl : (List.length (0 :: t)) ≤ p) (hk : stkL (0 :: t) l) (kx : ∀ (l : List Int32) (z9 z10 z11 : Option Value), l.length = 300 → stkL t l → JM 3 m_L_run Q 19 [some (.ref 16), some (.ref T), some (.int (nI fm)), some (.int (nI to)), some (.ref a), some (.int (nI e.2.2.2.2.1)), some (.int (jI e.2.2.2.2.2)), some (.int (nI en)), some (.int (nI w)), z9, z10, z11] [] (skX X t l)) : JM 3 m_L_run Q 19 [some (.ref 16), some (.ref T), some (.int (nI fm)), some (.int (nI to)), some (.ref a), some (.int (nI e.2.2.2.2.1)), some (.int (jI e.2.2.2.2.2)), some (.int (nI en)), some (.int (nI p)), z9, z10, z11] [] (skX X (0 :: t) l) := by
  have hT5 := (txt_f hT.1).2.2.2.2
  have hm8 := hO.1
  have hmk := hO.2.1
  have hst := hO.2.2.1 e.2.2.2.2.1 (by omega)
  have hcw := (hT.2 p (by omega) (by omega)).2
  have hX1 : Ok (skX X (0 :: t) l) := okSk hX hl
  have hw9 : w < 2147483648 := by rw [← hw0]; exact Nat.lt_of_le_of_lt (Nat.div_le_self _ _) hcw
  refine J_iload d_L_run_19 rfl ?_
  refine N_if_lt (tgt := 269) d_L_run_21 (by decide) (by omega) ?_
  refine J_iload d_L_run_24 rfl ?_
  refine J_iload d_L_run_26 rfl ?_
  refine N_icmp_ge (tgt := 269) d_L_run_28 (by decide) (by omega) (by omega) (fun c28 => absurd c28 (by omega)) (fun c28 => ?_)
  refine J_aload_n (i := 1) d_L_run_31 rfl rfl ?_
  refine M_getR (b := (T + 1)) d_L_run_32 f_L_64 hT.1 rfl (txt_f hT.1).1.1 ?_
  refine J_iload d_L_run_35 rfl ?_
  refine N_iald (x := (nI (cw p))) d_L_run_37 (txt_f hT.1).2.1.1 (by omega) (ltL hX1 (a := T + 1) (n := 300) (by omega) (txt_f hT.1).2.2.1.1 (by omega)) (show ((skX X (0 :: t) l).2.1 (T + 1)).getD p 0 = nI (cw p) from by rw [show (skX X (0 :: t) l).2.1 (T + 1) = X.2.1 (T + 1) from if_neg (by omega)]; exact (hT.2 p (by omega) (by omega)).1) ?_
  refine J_bipush (v := nI 64) d_L_run_38 rfl ?_
  refine N_irem d_L_run_40 (by omega) (by omega) (by omega) ?_
  rw [hk0]
  refine J_istore (L1 := [some (.ref 16), some (.ref T), some (.int (nI fm)), some (.int (nI to)), some (.ref a), some (.int (nI e.2.2.2.2.1)), some (.int (jI e.2.2.2.2.2)), some (.int (nI en)), some (.int (nI p)), some (.int (nI 20)), z10, z11]) d_L_run_41 (by decide) rfl ?_
  refine J_aload_n (i := 1) d_L_run_43 rfl rfl ?_
  refine M_getR (b := (T + 1)) d_L_run_44 f_L_64 hT.1 rfl (txt_f hT.1).1.1 ?_
  refine J_iload d_L_run_47 rfl ?_
  refine N_iald (x := (nI (cw p))) d_L_run_49 (txt_f hT.1).2.1.1 (by omega) (ltL hX1 (a := T + 1) (n := 300) (by omega) (txt_f hT.1).2.2.1.1 (by omega)) (show ((skX X (0 :: t) l).2.1 (T + 1)).getD p 0 = nI (cw p) from by rw [show (skX X (0 :: t) l).2.1 (T + 1) = X.2.1 (T + 1) from if_neg (by omega)]; exact (hT.2 p (by omega) (by omega)).1) ?_
  refine J_bipush (v := nI 64) d_L_run_50 rfl ?_
  refine N_idiv d_L_run_52 (by omega) (by omega) (by omega) ?_
  rw [hw0]
  refine J_istore (L1 := [some (.ref 16), some (.ref T), some (.int (nI fm)), some (.int (nI to)), some (.ref a), some (.int (nI e.2.2.2.2.1)), some (.int (jI e.2.2.2.2.2)), some (.int (nI en)), some (.int (nI p)), some (.int (nI 20)), some (.int (nI w)), z11]) d_L_run_53 (by decide) rfl ?_
  refine J_iload d_L_run_55 rfl ?_
  refine J_bipush (v := nI 45) d_L_run_57 rfl ?_
  refine N_icmp_ne (tgt := 71) d_L_run_59 (by decide) (by omega) (by omega) (fun c59 => ?_) (fun c59 => absurd c59 (by decide))
  refine J_iload d_L_run_71 rfl ?_
  refine J_bipush (v := nI 31) d_L_run_73 rfl ?_
  refine N_icmp_ne (tgt := 96) d_L_run_75 (by decide) (by omega) (by omega) (fun c75 => ?_) (fun c75 => absurd c75 (by decide))
  refine J_iload d_L_run_96 rfl ?_
  refine J_bipush (v := nI 20) d_L_run_98 rfl ?_
  refine N_icmp_eq (tgt := 110) d_L_run_100 (by decide) (by omega) (by omega) (fun c100 => ?_) (fun c100 => absurd c100 (by decide))
  refine J_iload d_L_run_110 rfl ?_
  refine J_bipush (v := nI 21) d_L_run_112 rfl ?_
  refine N_icmp_eq (tgt := 124) d_L_run_114 (by decide) (by omega) (by omega) (fun c114 => absurd c114 (by decide)) (fun c114 => ?_)
  refine J_aload_n (i := 0) d_L_run_117 rfl rfl ?_
  refine CV_I (av := []) d_L_run_118 s_L_76 (M_rcv rfl (by decide) rfl) (S_L_pop1 (X := X) (s := t) (l := l) (v := 0) hX hl hk (by first | omega | (simp only [List.length_cons] at *; omega))) (by omega) rfl rfl (Nat.le_of_ble_eq_true rfl) ?_
  rw [show jI 0 = nI 0 from rfl]
  refine N_if_ne (tgt := 128) d_L_run_121 (by decide) (by omega) (fun c121 => absurd c121 (by decide)) (fun c121 => ?_)
  refine J_iconst (v := nI 1) d_L_run_124 rfl ?_
  refine J_goto (tgt := 129) d_L_run_125 (by decide) ?_
  refine J_istore (L1 := [some (.ref 16), some (.ref T), some (.int (nI fm)), some (.int (nI to)), some (.ref a), some (.int (nI e.2.2.2.2.1)), some (.int (jI e.2.2.2.2.2)), some (.int (nI en)), some (.int (nI p)), some (.int (nI 20)), some (.int (nI w)), some (.int (nI 1))]) d_L_run_129 (by decide) rfl ?_
  refine J_iload d_L_run_131 rfl ?_
  refine N_if_eq (tgt := 148) d_L_run_133 (by decide) (by omega) (fun c133 => absurd c133 (by decide)) (fun c133 => ?_)
  refine J_iload d_L_run_136 rfl ?_
  refine J_iload d_L_run_138 rfl ?_
  refine J_iconst (v := nI 1) d_L_run_140 rfl ?_
  refine N_isub d_L_run_141 (by omega) ?_
  refine J_mmax d_L_run_142 w_L_38 w_math_max_s w_mathInit w_math_max_c (by omega) (Nat.le_of_ble_eq_true rfl) ?_
  refine I_ton (n := max p (w - 1)) (nI_max (by omega) (by omega)) ?_
  refine J_goto (tgt := 150) d_L_run_145 (by decide) ?_
  refine J_istore (L1 := [some (.ref 16), some (.ref T), some (.int (nI fm)), some (.int (nI to)), some (.ref a), some (.int (nI e.2.2.2.2.1)), some (.int (jI e.2.2.2.2.2)), some (.int (nI en)), some (.int (nI (max p (w - 1)))), some (.int (nI 20)), some (.int (nI w)), some (.int (nI 1))]) d_L_run_150 (by decide) rfl ?_
  refine J_goto (tgt := 263) d_L_run_152 (by decide) ?_
  refine N_iinc (a := (max p (w - 1))) (c := 1) (L1 := [some (.ref 16), some (.ref T), some (.int (nI fm)), some (.int (nI to)), some (.ref a), some (.int (nI e.2.2.2.2.1)), some (.int (jI e.2.2.2.2.2)), some (.int (nI en)), some (.int (nI ((max p (w - 1)) + 1))), some (.int (nI 20)), some (.int (nI w)), some (.int (nI 1))]) d_L_run_263 rfl rfl (by decide) rfl ?_
  refine J_goto (tgt := 19) d_L_run_266 (by decide) ?_
  exact (kx _ _ _ _ hl hk.2).eq (by rw [show max p (w - 1) + 1 = w by omega]) rfl rfl

theorem run_20o {X : Mem} {a T : Nat} {e : Env} {cw : Nat → Nat} {Q : Option Value → Mem → Prop} {fm to en p w : Nat} {s : List Int} {l : List Int32} {z9 z10 z11 : Option Value} (hX : Ok X) (hE : CE X a e) (hO : okE e) (hT : TC X T cw) (hl : l.length = 300) (hp : p < en) (hen : en ≤ 300) {t : List Int} (hk0 : cw p % 64 = 20) (hw0 : cw p / 64 = w) (hsl : (List.length (1 :: t)) ≤ p) (hk : stkL (1 :: t) l) (kx : ∀ (l : List Int32) (z9 z10 z11 : Option Value), l.length = 300 → stkL t l → JM 3 m_L_run Q 19 [some (.ref 16), some (.ref T), some (.int (nI fm)), some (.int (nI to)), some (.ref a), some (.int (nI e.2.2.2.2.1)), some (.int (jI e.2.2.2.2.2)), some (.int (nI en)), some (.int (nI (p + 1))), z9, z10, z11] [] (skX X t l)) : JM 3 m_L_run Q 19 [some (.ref 16), some (.ref T), some (.int (nI fm)), some (.int (nI to)), some (.ref a), some (.int (nI e.2.2.2.2.1)), some (.int (jI e.2.2.2.2.2)), some (.int (nI en)), some (.int (nI p)), z9, z10, z11] [] (skX X (1 :: t) l) := by
  have hT5 := (txt_f hT.1).2.2.2.2
  have hm8 := hO.1
  have hmk := hO.2.1
  have hst := hO.2.2.1 e.2.2.2.2.1 (by omega)
  have hcw := (hT.2 p (by omega) (by omega)).2
  have hX1 : Ok (skX X (1 :: t) l) := okSk hX hl
  refine J_iload d_L_run_19 rfl ?_
  refine N_if_lt (tgt := 269) d_L_run_21 (by decide) (by omega) ?_
  refine J_iload d_L_run_24 rfl ?_
  refine J_iload d_L_run_26 rfl ?_
  refine N_icmp_ge (tgt := 269) d_L_run_28 (by decide) (by omega) (by omega) (fun c28 => absurd c28 (by omega)) (fun c28 => ?_)
  refine J_aload_n (i := 1) d_L_run_31 rfl rfl ?_
  refine M_getR (b := (T + 1)) d_L_run_32 f_L_64 hT.1 rfl (txt_f hT.1).1.1 ?_
  refine J_iload d_L_run_35 rfl ?_
  refine N_iald (x := (nI (cw p))) d_L_run_37 (txt_f hT.1).2.1.1 (by omega) (ltL hX1 (a := T + 1) (n := 300) (by omega) (txt_f hT.1).2.2.1.1 (by omega)) (show ((skX X (1 :: t) l).2.1 (T + 1)).getD p 0 = nI (cw p) from by rw [show (skX X (1 :: t) l).2.1 (T + 1) = X.2.1 (T + 1) from if_neg (by omega)]; exact (hT.2 p (by omega) (by omega)).1) ?_
  refine J_bipush (v := nI 64) d_L_run_38 rfl ?_
  refine N_irem d_L_run_40 (by omega) (by omega) (by omega) ?_
  rw [hk0]
  refine J_istore (L1 := [some (.ref 16), some (.ref T), some (.int (nI fm)), some (.int (nI to)), some (.ref a), some (.int (nI e.2.2.2.2.1)), some (.int (jI e.2.2.2.2.2)), some (.int (nI en)), some (.int (nI p)), some (.int (nI 20)), z10, z11]) d_L_run_41 (by decide) rfl ?_
  refine J_aload_n (i := 1) d_L_run_43 rfl rfl ?_
  refine M_getR (b := (T + 1)) d_L_run_44 f_L_64 hT.1 rfl (txt_f hT.1).1.1 ?_
  refine J_iload d_L_run_47 rfl ?_
  refine N_iald (x := (nI (cw p))) d_L_run_49 (txt_f hT.1).2.1.1 (by omega) (ltL hX1 (a := T + 1) (n := 300) (by omega) (txt_f hT.1).2.2.1.1 (by omega)) (show ((skX X (1 :: t) l).2.1 (T + 1)).getD p 0 = nI (cw p) from by rw [show (skX X (1 :: t) l).2.1 (T + 1) = X.2.1 (T + 1) from if_neg (by omega)]; exact (hT.2 p (by omega) (by omega)).1) ?_
  refine J_bipush (v := nI 64) d_L_run_50 rfl ?_
  refine N_idiv d_L_run_52 (by omega) (by omega) (by omega) ?_
  rw [hw0]
  refine J_istore (L1 := [some (.ref 16), some (.ref T), some (.int (nI fm)), some (.int (nI to)), some (.ref a), some (.int (nI e.2.2.2.2.1)), some (.int (jI e.2.2.2.2.2)), some (.int (nI en)), some (.int (nI p)), some (.int (nI 20)), some (.int (nI w)), z11]) d_L_run_53 (by decide) rfl ?_
  refine J_iload d_L_run_55 rfl ?_
  refine J_bipush (v := nI 45) d_L_run_57 rfl ?_
  refine N_icmp_ne (tgt := 71) d_L_run_59 (by decide) (by omega) (by omega) (fun c59 => ?_) (fun c59 => absurd c59 (by decide))
  refine J_iload d_L_run_71 rfl ?_
  refine J_bipush (v := nI 31) d_L_run_73 rfl ?_
  refine N_icmp_ne (tgt := 96) d_L_run_75 (by decide) (by omega) (by omega) (fun c75 => ?_) (fun c75 => absurd c75 (by decide))
  refine J_iload d_L_run_96 rfl ?_
  refine J_bipush (v := nI 20) d_L_run_98 rfl ?_
  refine N_icmp_eq (tgt := 110) d_L_run_100 (by decide) (by omega) (by omega) (fun c100 => ?_) (fun c100 => absurd c100 (by decide))
  refine J_iload d_L_run_110 rfl ?_
  refine J_bipush (v := nI 21) d_L_run_112 rfl ?_
  refine N_icmp_eq (tgt := 124) d_L_run_114 (by decide) (by omega) (by omega) (fun c114 => absurd c114 (by decide)) (fun c114 => ?_)
  refine J_aload_n (i := 0) d_L_run_117 rfl rfl ?_
  refine CV_I (av := []) d_L_run_118 s_L_76 (M_rcv rfl (by decide) rfl) (S_L_pop1 (X := X) (s := t) (l := l) (v := 1) hX hl hk (by first | omega | (simp only [List.length_cons] at *; omega))) (by omega) rfl rfl (Nat.le_of_ble_eq_true rfl) ?_
  rw [show jI 1 = nI 1 from rfl]
  refine N_if_ne (tgt := 128) d_L_run_121 (by decide) (by omega) (fun c121 => ?_) (fun c121 => absurd c121 (by decide))
  refine J_iconst (v := nI 0) d_L_run_128 rfl ?_
  refine J_istore (L1 := [some (.ref 16), some (.ref T), some (.int (nI fm)), some (.int (nI to)), some (.ref a), some (.int (nI e.2.2.2.2.1)), some (.int (jI e.2.2.2.2.2)), some (.int (nI en)), some (.int (nI p)), some (.int (nI 20)), some (.int (nI w)), some (.int (nI 0))]) d_L_run_129 (by decide) rfl ?_
  refine J_iload d_L_run_131 rfl ?_
  refine N_if_eq (tgt := 148) d_L_run_133 (by decide) (by omega) (fun c133 => ?_) (fun c133 => absurd c133 (by decide))
  refine J_iload d_L_run_148 rfl ?_
  refine J_istore (L1 := [some (.ref 16), some (.ref T), some (.int (nI fm)), some (.int (nI to)), some (.ref a), some (.int (nI e.2.2.2.2.1)), some (.int (jI e.2.2.2.2.2)), some (.int (nI en)), some (.int (nI p)), some (.int (nI 20)), some (.int (nI w)), some (.int (nI 0))]) d_L_run_150 (by decide) rfl ?_
  refine J_goto (tgt := 263) d_L_run_152 (by decide) ?_
  refine N_iinc (a := p) (c := 1) (L1 := [some (.ref 16), some (.ref T), some (.int (nI fm)), some (.int (nI to)), some (.ref a), some (.int (nI e.2.2.2.2.1)), some (.int (jI e.2.2.2.2.2)), some (.int (nI en)), some (.int (nI (p + 1))), some (.int (nI 20)), some (.int (nI w)), some (.int (nI 0))]) d_L_run_263 rfl rfl (by decide) rfl ?_
  refine J_goto (tgt := 19) d_L_run_266 (by decide) ?_
  exact kx _ _ _ _ hl hk.2

theorem run_17 {X : Mem} {a T : Nat} {e : Env} {cw : Nat → Nat} {Q : Option Value → Mem → Prop} {fm to en p w : Nat} {s : List Int} {l : List Int32} {z9 z10 z11 : Option Value} (hX : Ok X) (hE : CE X a e) (hO : okE e) (hT : TC X T cw) (hl : l.length = 300) (hp : p < en) (hen : en ≤ 300) {v : Int} {t : List Int} (hv : sm v) (hk0 : cw p % 64 = 17) (hsl : (List.length (v :: t)) ≤ p) (hk : stkL (v :: t) l) (kx : ∀ (l : List Int32) (z9 z10 z11 : Option Value), l.length = 300 → stkL ((szV e v) :: t) l → JM 3 m_L_run Q 19 [some (.ref 16), some (.ref T), some (.int (nI fm)), some (.int (nI to)), some (.ref a), some (.int (nI e.2.2.2.2.1)), some (.int (jI e.2.2.2.2.2)), some (.int (nI en)), some (.int (nI (p + 1))), z9, z10, z11] [] (skX X ((szV e v) :: t) l)) : JM 3 m_L_run Q 19 [some (.ref 16), some (.ref T), some (.int (nI fm)), some (.int (nI to)), some (.ref a), some (.int (nI e.2.2.2.2.1)), some (.int (jI e.2.2.2.2.2)), some (.int (nI en)), some (.int (nI p)), z9, z10, z11] [] (skX X (v :: t) l) := by
  have hT5 := (txt_f hT.1).2.2.2.2
  have hm8 := hO.1
  have hmk := hO.2.1
  have hst := hO.2.2.1 e.2.2.2.2.1 (by omega)
  have hcw := (hT.2 p (by omega) (by omega)).2
  have hX1 : Ok (skX X (v :: t) l) := okSk hX hl
  have hX1t : Ok (skX X t l) := okSk hX hl
  refine J_iload d_L_run_19 rfl ?_
  refine N_if_lt (tgt := 269) d_L_run_21 (by decide) (by omega) ?_
  refine J_iload d_L_run_24 rfl ?_
  refine J_iload d_L_run_26 rfl ?_
  refine N_icmp_ge (tgt := 269) d_L_run_28 (by decide) (by omega) (by omega) (fun c28 => absurd c28 (by omega)) (fun c28 => ?_)
  refine J_aload_n (i := 1) d_L_run_31 rfl rfl ?_
  refine M_getR (b := (T + 1)) d_L_run_32 f_L_64 hT.1 rfl (txt_f hT.1).1.1 ?_
  refine J_iload d_L_run_35 rfl ?_
  refine N_iald (x := (nI (cw p))) d_L_run_37 (txt_f hT.1).2.1.1 (by omega) (ltL hX1 (a := T + 1) (n := 300) (by omega) (txt_f hT.1).2.2.1.1 (by omega)) (show ((skX X (v :: t) l).2.1 (T + 1)).getD p 0 = nI (cw p) from by rw [show (skX X (v :: t) l).2.1 (T + 1) = X.2.1 (T + 1) from if_neg (by omega)]; exact (hT.2 p (by omega) (by omega)).1) ?_
  refine J_bipush (v := nI 64) d_L_run_38 rfl ?_
  refine N_irem d_L_run_40 (by omega) (by omega) (by omega) ?_
  rw [hk0]
  refine J_istore (L1 := [some (.ref 16), some (.ref T), some (.int (nI fm)), some (.int (nI to)), some (.ref a), some (.int (nI e.2.2.2.2.1)), some (.int (jI e.2.2.2.2.2)), some (.int (nI en)), some (.int (nI p)), some (.int (nI 17)), z10, z11]) d_L_run_41 (by decide) rfl ?_
  refine J_aload_n (i := 1) d_L_run_43 rfl rfl ?_
  refine M_getR (b := (T + 1)) d_L_run_44 f_L_64 hT.1 rfl (txt_f hT.1).1.1 ?_
  refine J_iload d_L_run_47 rfl ?_
  refine N_iald (x := (nI (cw p))) d_L_run_49 (txt_f hT.1).2.1.1 (by omega) (ltL hX1 (a := T + 1) (n := 300) (by omega) (txt_f hT.1).2.2.1.1 (by omega)) (show ((skX X (v :: t) l).2.1 (T + 1)).getD p 0 = nI (cw p) from by rw [show (skX X (v :: t) l).2.1 (T + 1) = X.2.1 (T + 1) from if_neg (by omega)]; exact (hT.2 p (by omega) (by omega)).1) ?_
  refine J_bipush (v := nI 64) d_L_run_50 rfl ?_
  refine N_idiv d_L_run_52 (by omega) (by omega) (by omega) ?_
  refine J_istore (L1 := [some (.ref 16), some (.ref T), some (.int (nI fm)), some (.int (nI to)), some (.ref a), some (.int (nI e.2.2.2.2.1)), some (.int (jI e.2.2.2.2.2)), some (.int (nI en)), some (.int (nI p)), some (.int (nI 17)), some (.int (nI ((cw p) / 64))), z11]) d_L_run_53 (by decide) rfl ?_
  refine J_iload d_L_run_55 rfl ?_
  refine J_bipush (v := nI 45) d_L_run_57 rfl ?_
  refine N_icmp_ne (tgt := 71) d_L_run_59 (by decide) (by omega) (by omega) (fun c59 => ?_) (fun c59 => absurd c59 (by decide))
  refine J_iload d_L_run_71 rfl ?_
  refine J_bipush (v := nI 31) d_L_run_73 rfl ?_
  refine N_icmp_ne (tgt := 96) d_L_run_75 (by decide) (by omega) (by omega) (fun c75 => ?_) (fun c75 => absurd c75 (by decide))
  refine J_iload d_L_run_96 rfl ?_
  refine J_bipush (v := nI 20) d_L_run_98 rfl ?_
  refine N_icmp_eq (tgt := 110) d_L_run_100 (by decide) (by omega) (by omega) (fun c100 => absurd c100 (by decide)) (fun c100 => ?_)
  refine J_iload d_L_run_103 rfl ?_
  refine J_bipush (v := nI 21) d_L_run_105 rfl ?_
  refine N_icmp_ne (tgt := 155) d_L_run_107 (by decide) (by omega) (by omega) (fun c107 => ?_) (fun c107 => absurd c107 (by decide))
  refine J_iload d_L_run_155 rfl ?_
  refine J_bipush (v := nI 17) d_L_run_157 rfl ?_
  refine N_icmp_eq (tgt := 183) d_L_run_159 (by decide) (by omega) (by omega) (fun c159 => ?_) (fun c159 => absurd c159 (by decide))
  refine J_aload_n (i := 0) d_L_run_183 rfl rfl ?_
  refine J_iload d_L_run_184 rfl ?_
  refine J_aload_n (i := 0) d_L_run_186 rfl rfl ?_
  refine CV_I (av := []) d_L_run_187 s_L_76 (M_rcv rfl (by decide) rfl) (S_L_pop1 (X := X) (s := t) (l := l) (v := v) hX hl hk (by first | omega | (simp only [List.length_cons] at *; omega))) (by omega) rfl rfl (Nat.le_of_ble_eq_true rfl) ?_
  refine J_aload d_L_run_190 rfl ?_
  refine J_iload d_L_run_192 rfl ?_
  refine CS_I (av := [.int (nI 17), .int (jI v), .ref a, .int (nI e.2.2.2.2.1)]) d_L_run_194 s_L_80 (S_L_ofOne_17 hX1t (CE_sk hE) hO hv) (by omega) rfl rfl (Nat.le_of_ble_eq_true rfl) ?_
  refine CV_V (av := [.int (jI (szV e v))]) d_L_run_197 s_L_67 (M_rcv rfl (by decide) rfl) (S_L_push (X := X) (s := t) (l := l) hX hl (by first | omega | (simp only [List.length_cons] at *; omega))) (by omega) rfl rfl (Nat.le_of_ble_eq_true rfl) ?_
  refine J_goto (tgt := 263) d_L_run_200 (by decide) ?_
  refine N_iinc (a := p) (c := 1) (L1 := [some (.ref 16), some (.ref T), some (.int (nI fm)), some (.int (nI to)), some (.ref a), some (.int (nI e.2.2.2.2.1)), some (.int (jI e.2.2.2.2.2)), some (.int (nI en)), some (.int (nI (p + 1))), some (.int (nI 17)), some (.int (nI ((cw p) / 64))), z11]) d_L_run_263 rfl rfl (by decide) rfl ?_
  refine J_goto (tgt := 19) d_L_run_266 (by decide) ?_
  exact kx _ _ _ _ (by rw [List.length_set]; exact hl) (stk_push (by first | omega | (simp only [List.length_cons] at *; omega)) hk.2)

theorem run_18 {X : Mem} {a T : Nat} {e : Env} {cw : Nat → Nat} {Q : Option Value → Mem → Prop} {fm to en p w : Nat} {s : List Int} {l : List Int32} {z9 z10 z11 : Option Value} (hX : Ok X) (hE : CE X a e) (hO : okE e) (hT : TC X T cw) (hl : l.length = 300) (hp : p < en) (hen : en ≤ 300) {v : Int} {t : List Int} (hv : sm v) (hk0 : cw p % 64 = 18) (hsl : (List.length (v :: t)) ≤ p) (hk : stkL (v :: t) l) (kx : ∀ (l : List Int32) (z9 z10 z11 : Option Value), l.length = 300 → stkL ((hsV e v) :: t) l → JM 3 m_L_run Q 19 [some (.ref 16), some (.ref T), some (.int (nI fm)), some (.int (nI to)), some (.ref a), some (.int (nI e.2.2.2.2.1)), some (.int (jI e.2.2.2.2.2)), some (.int (nI en)), some (.int (nI (p + 1))), z9, z10, z11] [] (skX X ((hsV e v) :: t) l)) : JM 3 m_L_run Q 19 [some (.ref 16), some (.ref T), some (.int (nI fm)), some (.int (nI to)), some (.ref a), some (.int (nI e.2.2.2.2.1)), some (.int (jI e.2.2.2.2.2)), some (.int (nI en)), some (.int (nI p)), z9, z10, z11] [] (skX X (v :: t) l) := by
  have hT5 := (txt_f hT.1).2.2.2.2
  have hm8 := hO.1
  have hmk := hO.2.1
  have hst := hO.2.2.1 e.2.2.2.2.1 (by omega)
  have hcw := (hT.2 p (by omega) (by omega)).2
  have hX1 : Ok (skX X (v :: t) l) := okSk hX hl
  have hX1t : Ok (skX X t l) := okSk hX hl
  refine J_iload d_L_run_19 rfl ?_
  refine N_if_lt (tgt := 269) d_L_run_21 (by decide) (by omega) ?_
  refine J_iload d_L_run_24 rfl ?_
  refine J_iload d_L_run_26 rfl ?_
  refine N_icmp_ge (tgt := 269) d_L_run_28 (by decide) (by omega) (by omega) (fun c28 => absurd c28 (by omega)) (fun c28 => ?_)
  refine J_aload_n (i := 1) d_L_run_31 rfl rfl ?_
  refine M_getR (b := (T + 1)) d_L_run_32 f_L_64 hT.1 rfl (txt_f hT.1).1.1 ?_
  refine J_iload d_L_run_35 rfl ?_
  refine N_iald (x := (nI (cw p))) d_L_run_37 (txt_f hT.1).2.1.1 (by omega) (ltL hX1 (a := T + 1) (n := 300) (by omega) (txt_f hT.1).2.2.1.1 (by omega)) (show ((skX X (v :: t) l).2.1 (T + 1)).getD p 0 = nI (cw p) from by rw [show (skX X (v :: t) l).2.1 (T + 1) = X.2.1 (T + 1) from if_neg (by omega)]; exact (hT.2 p (by omega) (by omega)).1) ?_
  refine J_bipush (v := nI 64) d_L_run_38 rfl ?_
  refine N_irem d_L_run_40 (by omega) (by omega) (by omega) ?_
  rw [hk0]
  refine J_istore (L1 := [some (.ref 16), some (.ref T), some (.int (nI fm)), some (.int (nI to)), some (.ref a), some (.int (nI e.2.2.2.2.1)), some (.int (jI e.2.2.2.2.2)), some (.int (nI en)), some (.int (nI p)), some (.int (nI 18)), z10, z11]) d_L_run_41 (by decide) rfl ?_
  refine J_aload_n (i := 1) d_L_run_43 rfl rfl ?_
  refine M_getR (b := (T + 1)) d_L_run_44 f_L_64 hT.1 rfl (txt_f hT.1).1.1 ?_
  refine J_iload d_L_run_47 rfl ?_
  refine N_iald (x := (nI (cw p))) d_L_run_49 (txt_f hT.1).2.1.1 (by omega) (ltL hX1 (a := T + 1) (n := 300) (by omega) (txt_f hT.1).2.2.1.1 (by omega)) (show ((skX X (v :: t) l).2.1 (T + 1)).getD p 0 = nI (cw p) from by rw [show (skX X (v :: t) l).2.1 (T + 1) = X.2.1 (T + 1) from if_neg (by omega)]; exact (hT.2 p (by omega) (by omega)).1) ?_
  refine J_bipush (v := nI 64) d_L_run_50 rfl ?_
  refine N_idiv d_L_run_52 (by omega) (by omega) (by omega) ?_
  refine J_istore (L1 := [some (.ref 16), some (.ref T), some (.int (nI fm)), some (.int (nI to)), some (.ref a), some (.int (nI e.2.2.2.2.1)), some (.int (jI e.2.2.2.2.2)), some (.int (nI en)), some (.int (nI p)), some (.int (nI 18)), some (.int (nI ((cw p) / 64))), z11]) d_L_run_53 (by decide) rfl ?_
  refine J_iload d_L_run_55 rfl ?_
  refine J_bipush (v := nI 45) d_L_run_57 rfl ?_
  refine N_icmp_ne (tgt := 71) d_L_run_59 (by decide) (by omega) (by omega) (fun c59 => ?_) (fun c59 => absurd c59 (by decide))
  refine J_iload d_L_run_71 rfl ?_
  refine J_bipush (v := nI 31) d_L_run_73 rfl ?_
  refine N_icmp_ne (tgt := 96) d_L_run_75 (by decide) (by omega) (by omega) (fun c75 => ?_) (fun c75 => absurd c75 (by decide))
  refine J_iload d_L_run_96 rfl ?_
  refine J_bipush (v := nI 20) d_L_run_98 rfl ?_
  refine N_icmp_eq (tgt := 110) d_L_run_100 (by decide) (by omega) (by omega) (fun c100 => absurd c100 (by decide)) (fun c100 => ?_)
  refine J_iload d_L_run_103 rfl ?_
  refine J_bipush (v := nI 21) d_L_run_105 rfl ?_
  refine N_icmp_ne (tgt := 155) d_L_run_107 (by decide) (by omega) (by omega) (fun c107 => ?_) (fun c107 => absurd c107 (by decide))
  refine J_iload d_L_run_155 rfl ?_
  refine J_bipush (v := nI 17) d_L_run_157 rfl ?_
  refine N_icmp_eq (tgt := 183) d_L_run_159 (by decide) (by omega) (by omega) (fun c159 => absurd c159 (by decide)) (fun c159 => ?_)
  refine J_iload d_L_run_162 rfl ?_
  refine J_bipush (v := nI 18) d_L_run_164 rfl ?_
  refine N_icmp_eq (tgt := 183) d_L_run_166 (by decide) (by omega) (by omega) (fun c166 => ?_) (fun c166 => absurd c166 (by decide))
  refine J_aload_n (i := 0) d_L_run_183 rfl rfl ?_
  refine J_iload d_L_run_184 rfl ?_
  refine J_aload_n (i := 0) d_L_run_186 rfl rfl ?_
  refine CV_I (av := []) d_L_run_187 s_L_76 (M_rcv rfl (by decide) rfl) (S_L_pop1 (X := X) (s := t) (l := l) (v := v) hX hl hk (by first | omega | (simp only [List.length_cons] at *; omega))) (by omega) rfl rfl (Nat.le_of_ble_eq_true rfl) ?_
  refine J_aload d_L_run_190 rfl ?_
  refine J_iload d_L_run_192 rfl ?_
  refine CS_I (av := [.int (nI 18), .int (jI v), .ref a, .int (nI e.2.2.2.2.1)]) d_L_run_194 s_L_80 (S_L_ofOne_18 hX1t (CE_sk hE) hO hv) (by omega) rfl rfl (Nat.le_of_ble_eq_true rfl) ?_
  refine CV_V (av := [.int (jI (hsV e v))]) d_L_run_197 s_L_67 (M_rcv rfl (by decide) rfl) (S_L_push (X := X) (s := t) (l := l) hX hl (by first | omega | (simp only [List.length_cons] at *; omega))) (by omega) rfl rfl (Nat.le_of_ble_eq_true rfl) ?_
  refine J_goto (tgt := 263) d_L_run_200 (by decide) ?_
  refine N_iinc (a := p) (c := 1) (L1 := [some (.ref 16), some (.ref T), some (.int (nI fm)), some (.int (nI to)), some (.ref a), some (.int (nI e.2.2.2.2.1)), some (.int (jI e.2.2.2.2.2)), some (.int (nI en)), some (.int (nI (p + 1))), some (.int (nI 18)), some (.int (nI ((cw p) / 64))), z11]) d_L_run_263 rfl rfl (by decide) rfl ?_
  refine J_goto (tgt := 19) d_L_run_266 (by decide) ?_
  exact kx _ _ _ _ (by rw [List.length_set]; exact hl) (stk_push (by first | omega | (simp only [List.length_cons] at *; omega)) hk.2)

theorem run_25 {X : Mem} {a T : Nat} {e : Env} {cw : Nat → Nat} {Q : Option Value → Mem → Prop} {fm to en p w : Nat} {s : List Int} {l : List Int32} {z9 z10 z11 : Option Value} (hX : Ok X) (hE : CE X a e) (hO : okE e) (hT : TC X T cw) (hl : l.length = 300) (hp : p < en) (hen : en ≤ 300) {v : Int} {t : List Int} (hv : sm v) (hk0 : cw p % 64 = 25) (hsl : (List.length (v :: t)) ≤ p) (hk : stkL (v :: t) l) (kx : ∀ (l : List Int32) (z9 z10 z11 : Option Value), l.length = 300 → stkL ((1 - v) :: t) l → JM 3 m_L_run Q 19 [some (.ref 16), some (.ref T), some (.int (nI fm)), some (.int (nI to)), some (.ref a), some (.int (nI e.2.2.2.2.1)), some (.int (jI e.2.2.2.2.2)), some (.int (nI en)), some (.int (nI (p + 1))), z9, z10, z11] [] (skX X ((1 - v) :: t) l)) : JM 3 m_L_run Q 19 [some (.ref 16), some (.ref T), some (.int (nI fm)), some (.int (nI to)), some (.ref a), some (.int (nI e.2.2.2.2.1)), some (.int (jI e.2.2.2.2.2)), some (.int (nI en)), some (.int (nI p)), z9, z10, z11] [] (skX X (v :: t) l) := by
  have hT5 := (txt_f hT.1).2.2.2.2
  have hm8 := hO.1
  have hmk := hO.2.1
  have hst := hO.2.2.1 e.2.2.2.2.1 (by omega)
  have hcw := (hT.2 p (by omega) (by omega)).2
  have hX1 : Ok (skX X (v :: t) l) := okSk hX hl
  have hX1t : Ok (skX X t l) := okSk hX hl
  refine J_iload d_L_run_19 rfl ?_
  refine N_if_lt (tgt := 269) d_L_run_21 (by decide) (by omega) ?_
  refine J_iload d_L_run_24 rfl ?_
  refine J_iload d_L_run_26 rfl ?_
  refine N_icmp_ge (tgt := 269) d_L_run_28 (by decide) (by omega) (by omega) (fun c28 => absurd c28 (by omega)) (fun c28 => ?_)
  refine J_aload_n (i := 1) d_L_run_31 rfl rfl ?_
  refine M_getR (b := (T + 1)) d_L_run_32 f_L_64 hT.1 rfl (txt_f hT.1).1.1 ?_
  refine J_iload d_L_run_35 rfl ?_
  refine N_iald (x := (nI (cw p))) d_L_run_37 (txt_f hT.1).2.1.1 (by omega) (ltL hX1 (a := T + 1) (n := 300) (by omega) (txt_f hT.1).2.2.1.1 (by omega)) (show ((skX X (v :: t) l).2.1 (T + 1)).getD p 0 = nI (cw p) from by rw [show (skX X (v :: t) l).2.1 (T + 1) = X.2.1 (T + 1) from if_neg (by omega)]; exact (hT.2 p (by omega) (by omega)).1) ?_
  refine J_bipush (v := nI 64) d_L_run_38 rfl ?_
  refine N_irem d_L_run_40 (by omega) (by omega) (by omega) ?_
  rw [hk0]
  refine J_istore (L1 := [some (.ref 16), some (.ref T), some (.int (nI fm)), some (.int (nI to)), some (.ref a), some (.int (nI e.2.2.2.2.1)), some (.int (jI e.2.2.2.2.2)), some (.int (nI en)), some (.int (nI p)), some (.int (nI 25)), z10, z11]) d_L_run_41 (by decide) rfl ?_
  refine J_aload_n (i := 1) d_L_run_43 rfl rfl ?_
  refine M_getR (b := (T + 1)) d_L_run_44 f_L_64 hT.1 rfl (txt_f hT.1).1.1 ?_
  refine J_iload d_L_run_47 rfl ?_
  refine N_iald (x := (nI (cw p))) d_L_run_49 (txt_f hT.1).2.1.1 (by omega) (ltL hX1 (a := T + 1) (n := 300) (by omega) (txt_f hT.1).2.2.1.1 (by omega)) (show ((skX X (v :: t) l).2.1 (T + 1)).getD p 0 = nI (cw p) from by rw [show (skX X (v :: t) l).2.1 (T + 1) = X.2.1 (T + 1) from if_neg (by omega)]; exact (hT.2 p (by omega) (by omega)).1) ?_
  refine J_bipush (v := nI 64) d_L_run_50 rfl ?_
  refine N_idiv d_L_run_52 (by omega) (by omega) (by omega) ?_
  refine J_istore (L1 := [some (.ref 16), some (.ref T), some (.int (nI fm)), some (.int (nI to)), some (.ref a), some (.int (nI e.2.2.2.2.1)), some (.int (jI e.2.2.2.2.2)), some (.int (nI en)), some (.int (nI p)), some (.int (nI 25)), some (.int (nI ((cw p) / 64))), z11]) d_L_run_53 (by decide) rfl ?_
  refine J_iload d_L_run_55 rfl ?_
  refine J_bipush (v := nI 45) d_L_run_57 rfl ?_
  refine N_icmp_ne (tgt := 71) d_L_run_59 (by decide) (by omega) (by omega) (fun c59 => ?_) (fun c59 => absurd c59 (by decide))
  refine J_iload d_L_run_71 rfl ?_
  refine J_bipush (v := nI 31) d_L_run_73 rfl ?_
  refine N_icmp_ne (tgt := 96) d_L_run_75 (by decide) (by omega) (by omega) (fun c75 => ?_) (fun c75 => absurd c75 (by decide))
  refine J_iload d_L_run_96 rfl ?_
  refine J_bipush (v := nI 20) d_L_run_98 rfl ?_
  refine N_icmp_eq (tgt := 110) d_L_run_100 (by decide) (by omega) (by omega) (fun c100 => absurd c100 (by decide)) (fun c100 => ?_)
  refine J_iload d_L_run_103 rfl ?_
  refine J_bipush (v := nI 21) d_L_run_105 rfl ?_
  refine N_icmp_ne (tgt := 155) d_L_run_107 (by decide) (by omega) (by omega) (fun c107 => ?_) (fun c107 => absurd c107 (by decide))
  refine J_iload d_L_run_155 rfl ?_
  refine J_bipush (v := nI 17) d_L_run_157 rfl ?_
  refine N_icmp_eq (tgt := 183) d_L_run_159 (by decide) (by omega) (by omega) (fun c159 => absurd c159 (by decide)) (fun c159 => ?_)
  refine J_iload d_L_run_162 rfl ?_
  refine J_bipush (v := nI 18) d_L_run_164 rfl ?_
  refine N_icmp_eq (tgt := 183) d_L_run_166 (by decide) (by omega) (by omega) (fun c166 => absurd c166 (by decide)) (fun c166 => ?_)
  refine J_iload d_L_run_169 rfl ?_
  refine J_bipush (v := nI 48) d_L_run_171 rfl ?_
  refine N_icmp_eq (tgt := 183) d_L_run_173 (by decide) (by omega) (by omega) (fun c173 => absurd c173 (by decide)) (fun c173 => ?_)
  refine J_iload d_L_run_176 rfl ?_
  refine J_bipush (v := nI 25) d_L_run_178 rfl ?_
  refine N_icmp_ne (tgt := 203) d_L_run_180 (by decide) (by omega) (by omega) (fun c180 => absurd c180 (by decide)) (fun c180 => ?_)
  refine J_aload_n (i := 0) d_L_run_183 rfl rfl ?_
  refine J_iload d_L_run_184 rfl ?_
  refine J_aload_n (i := 0) d_L_run_186 rfl rfl ?_
  refine CV_I (av := []) d_L_run_187 s_L_76 (M_rcv rfl (by decide) rfl) (S_L_pop1 (X := X) (s := t) (l := l) (v := v) hX hl hk (by first | omega | (simp only [List.length_cons] at *; omega))) (by omega) rfl rfl (Nat.le_of_ble_eq_true rfl) ?_
  refine J_aload d_L_run_190 rfl ?_
  refine J_iload d_L_run_192 rfl ?_
  refine CS_I (av := [.int (nI 25), .int (jI v), .ref a, .int (nI e.2.2.2.2.1)]) d_L_run_194 s_L_80 (S_L_ofOne_25) (by omega) rfl rfl (Nat.le_of_ble_eq_true rfl) ?_
  refine CV_V (av := [.int (jI (1 - v))]) d_L_run_197 s_L_67 (M_rcv rfl (by decide) rfl) (S_L_push (X := X) (s := t) (l := l) hX hl (by first | omega | (simp only [List.length_cons] at *; omega))) (by omega) rfl rfl (Nat.le_of_ble_eq_true rfl) ?_
  refine J_goto (tgt := 263) d_L_run_200 (by decide) ?_
  refine N_iinc (a := p) (c := 1) (L1 := [some (.ref 16), some (.ref T), some (.int (nI fm)), some (.int (nI to)), some (.ref a), some (.int (nI e.2.2.2.2.1)), some (.int (jI e.2.2.2.2.2)), some (.int (nI en)), some (.int (nI (p + 1))), some (.int (nI 25)), some (.int (nI ((cw p) / 64))), z11]) d_L_run_263 rfl rfl (by decide) rfl ?_
  refine J_goto (tgt := 19) d_L_run_266 (by decide) ?_
  exact kx _ _ _ _ (by rw [List.length_set]; exact hl) (stk_push (by first | omega | (simp only [List.length_cons] at *; omega)) hk.2)

theorem run_48 {X : Mem} {a T : Nat} {e : Env} {cw : Nat → Nat} {Q : Option Value → Mem → Prop} {fm to en p w : Nat} {s : List Int} {l : List Int32} {z9 z10 z11 : Option Value} (hX : Ok X) (hE : CE X a e) (hO : okE e) (hT : TC X T cw) (hl : l.length = 300) (hp : p < en) (hen : en ≤ 300) {v : Int} {t : List Int} (hv : sm v) (hk0 : cw p % 64 = 48) (hsl : (List.length (v :: t)) ≤ p) (hk : stkL (v :: t) l) (kx : ∀ (l : List Int32) (z9 z10 z11 : Option Value), l.length = 300 → stkL ((-v) :: t) l → JM 3 m_L_run Q 19 [some (.ref 16), some (.ref T), some (.int (nI fm)), some (.int (nI to)), some (.ref a), some (.int (nI e.2.2.2.2.1)), some (.int (jI e.2.2.2.2.2)), some (.int (nI en)), some (.int (nI (p + 1))), z9, z10, z11] [] (skX X ((-v) :: t) l)) : JM 3 m_L_run Q 19 [some (.ref 16), some (.ref T), some (.int (nI fm)), some (.int (nI to)), some (.ref a), some (.int (nI e.2.2.2.2.1)), some (.int (jI e.2.2.2.2.2)), some (.int (nI en)), some (.int (nI p)), z9, z10, z11] [] (skX X (v :: t) l) := by
  have hT5 := (txt_f hT.1).2.2.2.2
  have hm8 := hO.1
  have hmk := hO.2.1
  have hst := hO.2.2.1 e.2.2.2.2.1 (by omega)
  have hcw := (hT.2 p (by omega) (by omega)).2
  have hX1 : Ok (skX X (v :: t) l) := okSk hX hl
  have hX1t : Ok (skX X t l) := okSk hX hl
  refine J_iload d_L_run_19 rfl ?_
  refine N_if_lt (tgt := 269) d_L_run_21 (by decide) (by omega) ?_
  refine J_iload d_L_run_24 rfl ?_
  refine J_iload d_L_run_26 rfl ?_
  refine N_icmp_ge (tgt := 269) d_L_run_28 (by decide) (by omega) (by omega) (fun c28 => absurd c28 (by omega)) (fun c28 => ?_)
  refine J_aload_n (i := 1) d_L_run_31 rfl rfl ?_
  refine M_getR (b := (T + 1)) d_L_run_32 f_L_64 hT.1 rfl (txt_f hT.1).1.1 ?_
  refine J_iload d_L_run_35 rfl ?_
  refine N_iald (x := (nI (cw p))) d_L_run_37 (txt_f hT.1).2.1.1 (by omega) (ltL hX1 (a := T + 1) (n := 300) (by omega) (txt_f hT.1).2.2.1.1 (by omega)) (show ((skX X (v :: t) l).2.1 (T + 1)).getD p 0 = nI (cw p) from by rw [show (skX X (v :: t) l).2.1 (T + 1) = X.2.1 (T + 1) from if_neg (by omega)]; exact (hT.2 p (by omega) (by omega)).1) ?_
  refine J_bipush (v := nI 64) d_L_run_38 rfl ?_
  refine N_irem d_L_run_40 (by omega) (by omega) (by omega) ?_
  rw [hk0]
  refine J_istore (L1 := [some (.ref 16), some (.ref T), some (.int (nI fm)), some (.int (nI to)), some (.ref a), some (.int (nI e.2.2.2.2.1)), some (.int (jI e.2.2.2.2.2)), some (.int (nI en)), some (.int (nI p)), some (.int (nI 48)), z10, z11]) d_L_run_41 (by decide) rfl ?_
  refine J_aload_n (i := 1) d_L_run_43 rfl rfl ?_
  refine M_getR (b := (T + 1)) d_L_run_44 f_L_64 hT.1 rfl (txt_f hT.1).1.1 ?_
  refine J_iload d_L_run_47 rfl ?_
  refine N_iald (x := (nI (cw p))) d_L_run_49 (txt_f hT.1).2.1.1 (by omega) (ltL hX1 (a := T + 1) (n := 300) (by omega) (txt_f hT.1).2.2.1.1 (by omega)) (show ((skX X (v :: t) l).2.1 (T + 1)).getD p 0 = nI (cw p) from by rw [show (skX X (v :: t) l).2.1 (T + 1) = X.2.1 (T + 1) from if_neg (by omega)]; exact (hT.2 p (by omega) (by omega)).1) ?_
  refine J_bipush (v := nI 64) d_L_run_50 rfl ?_
  refine N_idiv d_L_run_52 (by omega) (by omega) (by omega) ?_
  refine J_istore (L1 := [some (.ref 16), some (.ref T), some (.int (nI fm)), some (.int (nI to)), some (.ref a), some (.int (nI e.2.2.2.2.1)), some (.int (jI e.2.2.2.2.2)), some (.int (nI en)), some (.int (nI p)), some (.int (nI 48)), some (.int (nI ((cw p) / 64))), z11]) d_L_run_53 (by decide) rfl ?_
  refine J_iload d_L_run_55 rfl ?_
  refine J_bipush (v := nI 45) d_L_run_57 rfl ?_
  refine N_icmp_ne (tgt := 71) d_L_run_59 (by decide) (by omega) (by omega) (fun c59 => ?_) (fun c59 => absurd c59 (by decide))
  refine J_iload d_L_run_71 rfl ?_
  refine J_bipush (v := nI 31) d_L_run_73 rfl ?_
  refine N_icmp_ne (tgt := 96) d_L_run_75 (by decide) (by omega) (by omega) (fun c75 => ?_) (fun c75 => absurd c75 (by decide))
  refine J_iload d_L_run_96 rfl ?_
  refine J_bipush (v := nI 20) d_L_run_98 rfl ?_
  refine N_icmp_eq (tgt := 110) d_L_run_100 (by decide) (by omega) (by omega) (fun c100 => absurd c100 (by decide)) (fun c100 => ?_)
  refine J_iload d_L_run_103 rfl ?_
  refine J_bipush (v := nI 21) d_L_run_105 rfl ?_
  refine N_icmp_ne (tgt := 155) d_L_run_107 (by decide) (by omega) (by omega) (fun c107 => ?_) (fun c107 => absurd c107 (by decide))
  refine J_iload d_L_run_155 rfl ?_
  refine J_bipush (v := nI 17) d_L_run_157 rfl ?_
  refine N_icmp_eq (tgt := 183) d_L_run_159 (by decide) (by omega) (by omega) (fun c159 => absurd c159 (by decide)) (fun c159 => ?_)
  refine J_iload d_L_run_162 rfl ?_
  refine J_bipush (v := nI 18) d_L_run_164 rfl ?_
  refine N_icmp_eq (tgt := 183) d_L_run_166 (by decide) (by omega) (by omega) (fun c166 => absurd c166 (by decide)) (fun c166 => ?_)
  refine J_iload d_L_run_169 rfl ?_
  refine J_bipush (v := nI 48) d_L_run_171 rfl ?_
  refine N_icmp_eq (tgt := 183) d_L_run_173 (by decide) (by omega) (by omega) (fun c173 => ?_) (fun c173 => absurd c173 (by decide))
  refine J_aload_n (i := 0) d_L_run_183 rfl rfl ?_
  refine J_iload d_L_run_184 rfl ?_
  refine J_aload_n (i := 0) d_L_run_186 rfl rfl ?_
  refine CV_I (av := []) d_L_run_187 s_L_76 (M_rcv rfl (by decide) rfl) (S_L_pop1 (X := X) (s := t) (l := l) (v := v) hX hl hk (by first | omega | (simp only [List.length_cons] at *; omega))) (by omega) rfl rfl (Nat.le_of_ble_eq_true rfl) ?_
  refine J_aload d_L_run_190 rfl ?_
  refine J_iload d_L_run_192 rfl ?_
  refine CS_I (av := [.int (nI 48), .int (jI v), .ref a, .int (nI e.2.2.2.2.1)]) d_L_run_194 s_L_80 (S_L_ofOne_48) (by omega) rfl rfl (Nat.le_of_ble_eq_true rfl) ?_
  refine CV_V (av := [.int (jI (-v))]) d_L_run_197 s_L_67 (M_rcv rfl (by decide) rfl) (S_L_push (X := X) (s := t) (l := l) hX hl (by first | omega | (simp only [List.length_cons] at *; omega))) (by omega) rfl rfl (Nat.le_of_ble_eq_true rfl) ?_
  refine J_goto (tgt := 263) d_L_run_200 (by decide) ?_
  refine N_iinc (a := p) (c := 1) (L1 := [some (.ref 16), some (.ref T), some (.int (nI fm)), some (.int (nI to)), some (.ref a), some (.int (nI e.2.2.2.2.1)), some (.int (jI e.2.2.2.2.2)), some (.int (nI en)), some (.int (nI (p + 1))), some (.int (nI 48)), some (.int (nI ((cw p) / 64))), z11]) d_L_run_263 rfl rfl (by decide) rfl ?_
  refine J_goto (tgt := 19) d_L_run_266 (by decide) ?_
  exact kx _ _ _ _ (by rw [List.length_set]; exact hl) (stk_push (by first | omega | (simp only [List.length_cons] at *; omega)) hk.2)

theorem run_36 {X : Mem} {a T : Nat} {e : Env} {cw : Nat → Nat} {Q : Option Value → Mem → Prop} {fm to en p w : Nat} {s : List Int} {l : List Int32} {z9 z10 z11 : Option Value} (hX : Ok X) (hE : CE X a e) (hO : okE e) (hT : TC X T cw) (hl : l.length = 300) (hp : p < en) (hen : en ≤ 300) {x y : Int} {t : List Int} (hx : sm x) (hy : sm y) (hk0 : cw p % 64 = 36) (hsl : (List.length (y :: (x :: t))) ≤ p) (hk : stkL (y :: (x :: t)) l) (kx : ∀ (l : List Int32) (z9 z10 z11 : Option Value), l.length = 300 → stkL ((ar2 6 x y) :: t) l → JM 3 m_L_run Q 19 [some (.ref 16), some (.ref T), some (.int (nI fm)), some (.int (nI to)), some (.ref a), some (.int (nI e.2.2.2.2.1)), some (.int (jI e.2.2.2.2.2)), some (.int (nI en)), some (.int (nI (p + 1))), z9, z10, z11] [] (skX X ((ar2 6 x y) :: t) l)) : JM 3 m_L_run Q 19 [some (.ref 16), some (.ref T), some (.int (nI fm)), some (.int (nI to)), some (.ref a), some (.int (nI e.2.2.2.2.1)), some (.int (jI e.2.2.2.2.2)), some (.int (nI en)), some (.int (nI p)), z9, z10, z11] [] (skX X (y :: (x :: t)) l) := by
  have hT5 := (txt_f hT.1).2.2.2.2
  have hm8 := hO.1
  have hmk := hO.2.1
  have hst := hO.2.2.1 e.2.2.2.2.1 (by omega)
  have hcw := (hT.2 p (by omega) (by omega)).2
  have hX1 : Ok (skX X (y :: (x :: t)) l) := okSk hX hl
  refine J_iload d_L_run_19 rfl ?_
  refine N_if_lt (tgt := 269) d_L_run_21 (by decide) (by omega) ?_
  refine J_iload d_L_run_24 rfl ?_
  refine J_iload d_L_run_26 rfl ?_
  refine N_icmp_ge (tgt := 269) d_L_run_28 (by decide) (by omega) (by omega) (fun c28 => absurd c28 (by omega)) (fun c28 => ?_)
  refine J_aload_n (i := 1) d_L_run_31 rfl rfl ?_
  refine M_getR (b := (T + 1)) d_L_run_32 f_L_64 hT.1 rfl (txt_f hT.1).1.1 ?_
  refine J_iload d_L_run_35 rfl ?_
  refine N_iald (x := (nI (cw p))) d_L_run_37 (txt_f hT.1).2.1.1 (by omega) (ltL hX1 (a := T + 1) (n := 300) (by omega) (txt_f hT.1).2.2.1.1 (by omega)) (show ((skX X (y :: (x :: t)) l).2.1 (T + 1)).getD p 0 = nI (cw p) from by rw [show (skX X (y :: (x :: t)) l).2.1 (T + 1) = X.2.1 (T + 1) from if_neg (by omega)]; exact (hT.2 p (by omega) (by omega)).1) ?_
  refine J_bipush (v := nI 64) d_L_run_38 rfl ?_
  refine N_irem d_L_run_40 (by omega) (by omega) (by omega) ?_
  rw [hk0]
  refine J_istore (L1 := [some (.ref 16), some (.ref T), some (.int (nI fm)), some (.int (nI to)), some (.ref a), some (.int (nI e.2.2.2.2.1)), some (.int (jI e.2.2.2.2.2)), some (.int (nI en)), some (.int (nI p)), some (.int (nI 36)), z10, z11]) d_L_run_41 (by decide) rfl ?_
  refine J_aload_n (i := 1) d_L_run_43 rfl rfl ?_
  refine M_getR (b := (T + 1)) d_L_run_44 f_L_64 hT.1 rfl (txt_f hT.1).1.1 ?_
  refine J_iload d_L_run_47 rfl ?_
  refine N_iald (x := (nI (cw p))) d_L_run_49 (txt_f hT.1).2.1.1 (by omega) (ltL hX1 (a := T + 1) (n := 300) (by omega) (txt_f hT.1).2.2.1.1 (by omega)) (show ((skX X (y :: (x :: t)) l).2.1 (T + 1)).getD p 0 = nI (cw p) from by rw [show (skX X (y :: (x :: t)) l).2.1 (T + 1) = X.2.1 (T + 1) from if_neg (by omega)]; exact (hT.2 p (by omega) (by omega)).1) ?_
  refine J_bipush (v := nI 64) d_L_run_50 rfl ?_
  refine N_idiv d_L_run_52 (by omega) (by omega) (by omega) ?_
  refine J_istore (L1 := [some (.ref 16), some (.ref T), some (.int (nI fm)), some (.int (nI to)), some (.ref a), some (.int (nI e.2.2.2.2.1)), some (.int (jI e.2.2.2.2.2)), some (.int (nI en)), some (.int (nI p)), some (.int (nI 36)), some (.int (nI ((cw p) / 64))), z11]) d_L_run_53 (by decide) rfl ?_
  refine J_iload d_L_run_55 rfl ?_
  refine J_bipush (v := nI 45) d_L_run_57 rfl ?_
  refine N_icmp_ne (tgt := 71) d_L_run_59 (by decide) (by omega) (by omega) (fun c59 => ?_) (fun c59 => absurd c59 (by decide))
  refine J_iload d_L_run_71 rfl ?_
  refine J_bipush (v := nI 31) d_L_run_73 rfl ?_
  refine N_icmp_ne (tgt := 96) d_L_run_75 (by decide) (by omega) (by omega) (fun c75 => ?_) (fun c75 => absurd c75 (by decide))
  refine J_iload d_L_run_96 rfl ?_
  refine J_bipush (v := nI 20) d_L_run_98 rfl ?_
  refine N_icmp_eq (tgt := 110) d_L_run_100 (by decide) (by omega) (by omega) (fun c100 => absurd c100 (by decide)) (fun c100 => ?_)
  refine J_iload d_L_run_103 rfl ?_
  refine J_bipush (v := nI 21) d_L_run_105 rfl ?_
  refine N_icmp_ne (tgt := 155) d_L_run_107 (by decide) (by omega) (by omega) (fun c107 => ?_) (fun c107 => absurd c107 (by decide))
  refine J_iload d_L_run_155 rfl ?_
  refine J_bipush (v := nI 17) d_L_run_157 rfl ?_
  refine N_icmp_eq (tgt := 183) d_L_run_159 (by decide) (by omega) (by omega) (fun c159 => absurd c159 (by decide)) (fun c159 => ?_)
  refine J_iload d_L_run_162 rfl ?_
  refine J_bipush (v := nI 18) d_L_run_164 rfl ?_
  refine N_icmp_eq (tgt := 183) d_L_run_166 (by decide) (by omega) (by omega) (fun c166 => absurd c166 (by decide)) (fun c166 => ?_)
  refine J_iload d_L_run_169 rfl ?_
  refine J_bipush (v := nI 48) d_L_run_171 rfl ?_
  refine N_icmp_eq (tgt := 183) d_L_run_173 (by decide) (by omega) (by omega) (fun c173 => absurd c173 (by decide)) (fun c173 => ?_)
  refine J_iload d_L_run_176 rfl ?_
  refine J_bipush (v := nI 25) d_L_run_178 rfl ?_
  refine N_icmp_ne (tgt := 203) d_L_run_180 (by decide) (by omega) (by omega) (fun c180 => ?_) (fun c180 => absurd c180 (by decide))
  refine J_iload d_L_run_203 rfl ?_
  refine J_bipush (v := nI 6) d_L_run_205 rfl ?_
  refine N_icmp_eq (tgt := 224) d_L_run_207 (by decide) (by omega) (by omega) (fun c207 => absurd c207 (by decide)) (fun c207 => ?_)
  refine J_iload d_L_run_210 rfl ?_
  refine J_bipush (v := nI 26) d_L_run_212 rfl ?_
  refine N_icmp_lt (tgt := 242) d_L_run_214 (by decide) (by omega) (by omega) (fun c214 => absurd c214 (by decide)) (fun c214 => ?_)
  refine J_iload d_L_run_217 rfl ?_
  refine J_bipush (v := nI 30) d_L_run_219 rfl ?_
  refine N_icmp_gt (tgt := 242) d_L_run_221 (by decide) (by omega) (by omega) (fun c221 => ?_) (fun c221 => absurd c221 (by decide))
  refine J_aload_n (i := 0) d_L_run_242 rfl rfl ?_
  refine CV_I (av := []) d_L_run_243 s_L_76 (M_rcv rfl (by decide) rfl) (S_L_pop1 (X := X) (s := (x :: t)) (l := l) (v := y) hX hl hk (by first | omega | (simp only [List.length_cons] at *; omega))) (by omega) rfl rfl (Nat.le_of_ble_eq_true rfl) ?_
  refine J_istore (L1 := [some (.ref 16), some (.ref T), some (.int (nI fm)), some (.int (nI to)), some (.ref a), some (.int (nI e.2.2.2.2.1)), some (.int (jI e.2.2.2.2.2)), some (.int (nI en)), some (.int (nI p)), some (.int (nI 36)), some (.int (nI ((cw p) / 64))), some (.int (jI y))]) d_L_run_246 (by decide) rfl ?_
  refine J_aload_n (i := 0) d_L_run_248 rfl rfl ?_
  refine J_iload d_L_run_249 rfl ?_
  refine J_aload_n (i := 0) d_L_run_251 rfl rfl ?_
  refine CV_I (av := []) d_L_run_252 s_L_76 (M_rcv rfl (by decide) rfl) (S_L_pop1 (X := X) (s := t) (l := l) (v := x) hX hl hk.2 (by first | omega | (simp only [List.length_cons] at *; omega))) (by omega) rfl rfl (Nat.le_of_ble_eq_true rfl) ?_
  refine J_iload d_L_run_255 rfl ?_
  refine CS_I (av := [.int (nI 36), .int (jI x), .int (jI y)]) d_L_run_257 s_L_88 (S_L_ofTwo_36 hx hy) (by omega) rfl rfl (Nat.le_of_ble_eq_true rfl) ?_
  refine CV_V (av := [.int (jI (ar2 6 x y))]) d_L_run_260 s_L_67 (M_rcv rfl (by decide) rfl) (S_L_push (X := X) (s := t) (l := l) hX hl (by first | omega | (simp only [List.length_cons] at *; omega))) (by omega) rfl rfl (Nat.le_of_ble_eq_true rfl) ?_
  refine N_iinc (a := p) (c := 1) (L1 := [some (.ref 16), some (.ref T), some (.int (nI fm)), some (.int (nI to)), some (.ref a), some (.int (nI e.2.2.2.2.1)), some (.int (jI e.2.2.2.2.2)), some (.int (nI en)), some (.int (nI (p + 1))), some (.int (nI 36)), some (.int (nI ((cw p) / 64))), some (.int (jI y))]) d_L_run_263 rfl rfl (by decide) rfl ?_
  refine J_goto (tgt := 19) d_L_run_266 (by decide) ?_
  exact kx _ _ _ _ (by rw [List.length_set]; exact hl) (stk_push (by first | omega | (simp only [List.length_cons] at *; omega)) hk.2.2)

theorem run_37 {X : Mem} {a T : Nat} {e : Env} {cw : Nat → Nat} {Q : Option Value → Mem → Prop} {fm to en p w : Nat} {s : List Int} {l : List Int32} {z9 z10 z11 : Option Value} (hX : Ok X) (hE : CE X a e) (hO : okE e) (hT : TC X T cw) (hl : l.length = 300) (hp : p < en) (hen : en ≤ 300) {x y : Int} {t : List Int} (hx : sm x) (hy : sm y) (hk0 : cw p % 64 = 37) (hsl : (List.length (y :: (x :: t))) ≤ p) (hk : stkL (y :: (x :: t)) l) (kx : ∀ (l : List Int32) (z9 z10 z11 : Option Value), l.length = 300 → stkL ((ar2 7 x y) :: t) l → JM 3 m_L_run Q 19 [some (.ref 16), some (.ref T), some (.int (nI fm)), some (.int (nI to)), some (.ref a), some (.int (nI e.2.2.2.2.1)), some (.int (jI e.2.2.2.2.2)), some (.int (nI en)), some (.int (nI (p + 1))), z9, z10, z11] [] (skX X ((ar2 7 x y) :: t) l)) : JM 3 m_L_run Q 19 [some (.ref 16), some (.ref T), some (.int (nI fm)), some (.int (nI to)), some (.ref a), some (.int (nI e.2.2.2.2.1)), some (.int (jI e.2.2.2.2.2)), some (.int (nI en)), some (.int (nI p)), z9, z10, z11] [] (skX X (y :: (x :: t)) l) := by
  have hT5 := (txt_f hT.1).2.2.2.2
  have hm8 := hO.1
  have hmk := hO.2.1
  have hst := hO.2.2.1 e.2.2.2.2.1 (by omega)
  have hcw := (hT.2 p (by omega) (by omega)).2
  have hX1 : Ok (skX X (y :: (x :: t)) l) := okSk hX hl
  refine J_iload d_L_run_19 rfl ?_
  refine N_if_lt (tgt := 269) d_L_run_21 (by decide) (by omega) ?_
  refine J_iload d_L_run_24 rfl ?_
  refine J_iload d_L_run_26 rfl ?_
  refine N_icmp_ge (tgt := 269) d_L_run_28 (by decide) (by omega) (by omega) (fun c28 => absurd c28 (by omega)) (fun c28 => ?_)
  refine J_aload_n (i := 1) d_L_run_31 rfl rfl ?_
  refine M_getR (b := (T + 1)) d_L_run_32 f_L_64 hT.1 rfl (txt_f hT.1).1.1 ?_
  refine J_iload d_L_run_35 rfl ?_
  refine N_iald (x := (nI (cw p))) d_L_run_37 (txt_f hT.1).2.1.1 (by omega) (ltL hX1 (a := T + 1) (n := 300) (by omega) (txt_f hT.1).2.2.1.1 (by omega)) (show ((skX X (y :: (x :: t)) l).2.1 (T + 1)).getD p 0 = nI (cw p) from by rw [show (skX X (y :: (x :: t)) l).2.1 (T + 1) = X.2.1 (T + 1) from if_neg (by omega)]; exact (hT.2 p (by omega) (by omega)).1) ?_
  refine J_bipush (v := nI 64) d_L_run_38 rfl ?_
  refine N_irem d_L_run_40 (by omega) (by omega) (by omega) ?_
  rw [hk0]
  refine J_istore (L1 := [some (.ref 16), some (.ref T), some (.int (nI fm)), some (.int (nI to)), some (.ref a), some (.int (nI e.2.2.2.2.1)), some (.int (jI e.2.2.2.2.2)), some (.int (nI en)), some (.int (nI p)), some (.int (nI 37)), z10, z11]) d_L_run_41 (by decide) rfl ?_
  refine J_aload_n (i := 1) d_L_run_43 rfl rfl ?_
  refine M_getR (b := (T + 1)) d_L_run_44 f_L_64 hT.1 rfl (txt_f hT.1).1.1 ?_
  refine J_iload d_L_run_47 rfl ?_
  refine N_iald (x := (nI (cw p))) d_L_run_49 (txt_f hT.1).2.1.1 (by omega) (ltL hX1 (a := T + 1) (n := 300) (by omega) (txt_f hT.1).2.2.1.1 (by omega)) (show ((skX X (y :: (x :: t)) l).2.1 (T + 1)).getD p 0 = nI (cw p) from by rw [show (skX X (y :: (x :: t)) l).2.1 (T + 1) = X.2.1 (T + 1) from if_neg (by omega)]; exact (hT.2 p (by omega) (by omega)).1) ?_
  refine J_bipush (v := nI 64) d_L_run_50 rfl ?_
  refine N_idiv d_L_run_52 (by omega) (by omega) (by omega) ?_
  refine J_istore (L1 := [some (.ref 16), some (.ref T), some (.int (nI fm)), some (.int (nI to)), some (.ref a), some (.int (nI e.2.2.2.2.1)), some (.int (jI e.2.2.2.2.2)), some (.int (nI en)), some (.int (nI p)), some (.int (nI 37)), some (.int (nI ((cw p) / 64))), z11]) d_L_run_53 (by decide) rfl ?_
  refine J_iload d_L_run_55 rfl ?_
  refine J_bipush (v := nI 45) d_L_run_57 rfl ?_
  refine N_icmp_ne (tgt := 71) d_L_run_59 (by decide) (by omega) (by omega) (fun c59 => ?_) (fun c59 => absurd c59 (by decide))
  refine J_iload d_L_run_71 rfl ?_
  refine J_bipush (v := nI 31) d_L_run_73 rfl ?_
  refine N_icmp_ne (tgt := 96) d_L_run_75 (by decide) (by omega) (by omega) (fun c75 => ?_) (fun c75 => absurd c75 (by decide))
  refine J_iload d_L_run_96 rfl ?_
  refine J_bipush (v := nI 20) d_L_run_98 rfl ?_
  refine N_icmp_eq (tgt := 110) d_L_run_100 (by decide) (by omega) (by omega) (fun c100 => absurd c100 (by decide)) (fun c100 => ?_)
  refine J_iload d_L_run_103 rfl ?_
  refine J_bipush (v := nI 21) d_L_run_105 rfl ?_
  refine N_icmp_ne (tgt := 155) d_L_run_107 (by decide) (by omega) (by omega) (fun c107 => ?_) (fun c107 => absurd c107 (by decide))
  refine J_iload d_L_run_155 rfl ?_
  refine J_bipush (v := nI 17) d_L_run_157 rfl ?_
  refine N_icmp_eq (tgt := 183) d_L_run_159 (by decide) (by omega) (by omega) (fun c159 => absurd c159 (by decide)) (fun c159 => ?_)
  refine J_iload d_L_run_162 rfl ?_
  refine J_bipush (v := nI 18) d_L_run_164 rfl ?_
  refine N_icmp_eq (tgt := 183) d_L_run_166 (by decide) (by omega) (by omega) (fun c166 => absurd c166 (by decide)) (fun c166 => ?_)
  refine J_iload d_L_run_169 rfl ?_
  refine J_bipush (v := nI 48) d_L_run_171 rfl ?_
  refine N_icmp_eq (tgt := 183) d_L_run_173 (by decide) (by omega) (by omega) (fun c173 => absurd c173 (by decide)) (fun c173 => ?_)
  refine J_iload d_L_run_176 rfl ?_
  refine J_bipush (v := nI 25) d_L_run_178 rfl ?_
  refine N_icmp_ne (tgt := 203) d_L_run_180 (by decide) (by omega) (by omega) (fun c180 => ?_) (fun c180 => absurd c180 (by decide))
  refine J_iload d_L_run_203 rfl ?_
  refine J_bipush (v := nI 6) d_L_run_205 rfl ?_
  refine N_icmp_eq (tgt := 224) d_L_run_207 (by decide) (by omega) (by omega) (fun c207 => absurd c207 (by decide)) (fun c207 => ?_)
  refine J_iload d_L_run_210 rfl ?_
  refine J_bipush (v := nI 26) d_L_run_212 rfl ?_
  refine N_icmp_lt (tgt := 242) d_L_run_214 (by decide) (by omega) (by omega) (fun c214 => absurd c214 (by decide)) (fun c214 => ?_)
  refine J_iload d_L_run_217 rfl ?_
  refine J_bipush (v := nI 30) d_L_run_219 rfl ?_
  refine N_icmp_gt (tgt := 242) d_L_run_221 (by decide) (by omega) (by omega) (fun c221 => ?_) (fun c221 => absurd c221 (by decide))
  refine J_aload_n (i := 0) d_L_run_242 rfl rfl ?_
  refine CV_I (av := []) d_L_run_243 s_L_76 (M_rcv rfl (by decide) rfl) (S_L_pop1 (X := X) (s := (x :: t)) (l := l) (v := y) hX hl hk (by first | omega | (simp only [List.length_cons] at *; omega))) (by omega) rfl rfl (Nat.le_of_ble_eq_true rfl) ?_
  refine J_istore (L1 := [some (.ref 16), some (.ref T), some (.int (nI fm)), some (.int (nI to)), some (.ref a), some (.int (nI e.2.2.2.2.1)), some (.int (jI e.2.2.2.2.2)), some (.int (nI en)), some (.int (nI p)), some (.int (nI 37)), some (.int (nI ((cw p) / 64))), some (.int (jI y))]) d_L_run_246 (by decide) rfl ?_
  refine J_aload_n (i := 0) d_L_run_248 rfl rfl ?_
  refine J_iload d_L_run_249 rfl ?_
  refine J_aload_n (i := 0) d_L_run_251 rfl rfl ?_
  refine CV_I (av := []) d_L_run_252 s_L_76 (M_rcv rfl (by decide) rfl) (S_L_pop1 (X := X) (s := t) (l := l) (v := x) hX hl hk.2 (by first | omega | (simp only [List.length_cons] at *; omega))) (by omega) rfl rfl (Nat.le_of_ble_eq_true rfl) ?_
  refine J_iload d_L_run_255 rfl ?_
  refine CS_I (av := [.int (nI 37), .int (jI x), .int (jI y)]) d_L_run_257 s_L_88 (S_L_ofTwo_37 hx hy) (by omega) rfl rfl (Nat.le_of_ble_eq_true rfl) ?_
  refine CV_V (av := [.int (jI (ar2 7 x y))]) d_L_run_260 s_L_67 (M_rcv rfl (by decide) rfl) (S_L_push (X := X) (s := t) (l := l) hX hl (by first | omega | (simp only [List.length_cons] at *; omega))) (by omega) rfl rfl (Nat.le_of_ble_eq_true rfl) ?_
  refine N_iinc (a := p) (c := 1) (L1 := [some (.ref 16), some (.ref T), some (.int (nI fm)), some (.int (nI to)), some (.ref a), some (.int (nI e.2.2.2.2.1)), some (.int (jI e.2.2.2.2.2)), some (.int (nI en)), some (.int (nI (p + 1))), some (.int (nI 37)), some (.int (nI ((cw p) / 64))), some (.int (jI y))]) d_L_run_263 rfl rfl (by decide) rfl ?_
  refine J_goto (tgt := 19) d_L_run_266 (by decide) ?_
  exact kx _ _ _ _ (by rw [List.length_set]; exact hl) (stk_push (by first | omega | (simp only [List.length_cons] at *; omega)) hk.2.2)

theorem run_38 {X : Mem} {a T : Nat} {e : Env} {cw : Nat → Nat} {Q : Option Value → Mem → Prop} {fm to en p w : Nat} {s : List Int} {l : List Int32} {z9 z10 z11 : Option Value} (hX : Ok X) (hE : CE X a e) (hO : okE e) (hT : TC X T cw) (hl : l.length = 300) (hp : p < en) (hen : en ≤ 300) {x y : Int} {t : List Int} (hx : sm x) (hy : sm y) (hk0 : cw p % 64 = 38) (hsl : (List.length (y :: (x :: t))) ≤ p) (hk : stkL (y :: (x :: t)) l) (kx : ∀ (l : List Int32) (z9 z10 z11 : Option Value), l.length = 300 → stkL ((ar2 8 x y) :: t) l → JM 3 m_L_run Q 19 [some (.ref 16), some (.ref T), some (.int (nI fm)), some (.int (nI to)), some (.ref a), some (.int (nI e.2.2.2.2.1)), some (.int (jI e.2.2.2.2.2)), some (.int (nI en)), some (.int (nI (p + 1))), z9, z10, z11] [] (skX X ((ar2 8 x y) :: t) l)) : JM 3 m_L_run Q 19 [some (.ref 16), some (.ref T), some (.int (nI fm)), some (.int (nI to)), some (.ref a), some (.int (nI e.2.2.2.2.1)), some (.int (jI e.2.2.2.2.2)), some (.int (nI en)), some (.int (nI p)), z9, z10, z11] [] (skX X (y :: (x :: t)) l) := by
  have hT5 := (txt_f hT.1).2.2.2.2
  have hm8 := hO.1
  have hmk := hO.2.1
  have hst := hO.2.2.1 e.2.2.2.2.1 (by omega)
  have hcw := (hT.2 p (by omega) (by omega)).2
  have hX1 : Ok (skX X (y :: (x :: t)) l) := okSk hX hl
  refine J_iload d_L_run_19 rfl ?_
  refine N_if_lt (tgt := 269) d_L_run_21 (by decide) (by omega) ?_
  refine J_iload d_L_run_24 rfl ?_
  refine J_iload d_L_run_26 rfl ?_
  refine N_icmp_ge (tgt := 269) d_L_run_28 (by decide) (by omega) (by omega) (fun c28 => absurd c28 (by omega)) (fun c28 => ?_)
  refine J_aload_n (i := 1) d_L_run_31 rfl rfl ?_
  refine M_getR (b := (T + 1)) d_L_run_32 f_L_64 hT.1 rfl (txt_f hT.1).1.1 ?_
  refine J_iload d_L_run_35 rfl ?_
  refine N_iald (x := (nI (cw p))) d_L_run_37 (txt_f hT.1).2.1.1 (by omega) (ltL hX1 (a := T + 1) (n := 300) (by omega) (txt_f hT.1).2.2.1.1 (by omega)) (show ((skX X (y :: (x :: t)) l).2.1 (T + 1)).getD p 0 = nI (cw p) from by rw [show (skX X (y :: (x :: t)) l).2.1 (T + 1) = X.2.1 (T + 1) from if_neg (by omega)]; exact (hT.2 p (by omega) (by omega)).1) ?_
  refine J_bipush (v := nI 64) d_L_run_38 rfl ?_
  refine N_irem d_L_run_40 (by omega) (by omega) (by omega) ?_
  rw [hk0]
  refine J_istore (L1 := [some (.ref 16), some (.ref T), some (.int (nI fm)), some (.int (nI to)), some (.ref a), some (.int (nI e.2.2.2.2.1)), some (.int (jI e.2.2.2.2.2)), some (.int (nI en)), some (.int (nI p)), some (.int (nI 38)), z10, z11]) d_L_run_41 (by decide) rfl ?_
  refine J_aload_n (i := 1) d_L_run_43 rfl rfl ?_
  refine M_getR (b := (T + 1)) d_L_run_44 f_L_64 hT.1 rfl (txt_f hT.1).1.1 ?_
  refine J_iload d_L_run_47 rfl ?_
  refine N_iald (x := (nI (cw p))) d_L_run_49 (txt_f hT.1).2.1.1 (by omega) (ltL hX1 (a := T + 1) (n := 300) (by omega) (txt_f hT.1).2.2.1.1 (by omega)) (show ((skX X (y :: (x :: t)) l).2.1 (T + 1)).getD p 0 = nI (cw p) from by rw [show (skX X (y :: (x :: t)) l).2.1 (T + 1) = X.2.1 (T + 1) from if_neg (by omega)]; exact (hT.2 p (by omega) (by omega)).1) ?_
  refine J_bipush (v := nI 64) d_L_run_50 rfl ?_
  refine N_idiv d_L_run_52 (by omega) (by omega) (by omega) ?_
  refine J_istore (L1 := [some (.ref 16), some (.ref T), some (.int (nI fm)), some (.int (nI to)), some (.ref a), some (.int (nI e.2.2.2.2.1)), some (.int (jI e.2.2.2.2.2)), some (.int (nI en)), some (.int (nI p)), some (.int (nI 38)), some (.int (nI ((cw p) / 64))), z11]) d_L_run_53 (by decide) rfl ?_
  refine J_iload d_L_run_55 rfl ?_
  refine J_bipush (v := nI 45) d_L_run_57 rfl ?_
  refine N_icmp_ne (tgt := 71) d_L_run_59 (by decide) (by omega) (by omega) (fun c59 => ?_) (fun c59 => absurd c59 (by decide))
  refine J_iload d_L_run_71 rfl ?_
  refine J_bipush (v := nI 31) d_L_run_73 rfl ?_
  refine N_icmp_ne (tgt := 96) d_L_run_75 (by decide) (by omega) (by omega) (fun c75 => ?_) (fun c75 => absurd c75 (by decide))
  refine J_iload d_L_run_96 rfl ?_
  refine J_bipush (v := nI 20) d_L_run_98 rfl ?_
  refine N_icmp_eq (tgt := 110) d_L_run_100 (by decide) (by omega) (by omega) (fun c100 => absurd c100 (by decide)) (fun c100 => ?_)
  refine J_iload d_L_run_103 rfl ?_
  refine J_bipush (v := nI 21) d_L_run_105 rfl ?_
  refine N_icmp_ne (tgt := 155) d_L_run_107 (by decide) (by omega) (by omega) (fun c107 => ?_) (fun c107 => absurd c107 (by decide))
  refine J_iload d_L_run_155 rfl ?_
  refine J_bipush (v := nI 17) d_L_run_157 rfl ?_
  refine N_icmp_eq (tgt := 183) d_L_run_159 (by decide) (by omega) (by omega) (fun c159 => absurd c159 (by decide)) (fun c159 => ?_)
  refine J_iload d_L_run_162 rfl ?_
  refine J_bipush (v := nI 18) d_L_run_164 rfl ?_
  refine N_icmp_eq (tgt := 183) d_L_run_166 (by decide) (by omega) (by omega) (fun c166 => absurd c166 (by decide)) (fun c166 => ?_)
  refine J_iload d_L_run_169 rfl ?_
  refine J_bipush (v := nI 48) d_L_run_171 rfl ?_
  refine N_icmp_eq (tgt := 183) d_L_run_173 (by decide) (by omega) (by omega) (fun c173 => absurd c173 (by decide)) (fun c173 => ?_)
  refine J_iload d_L_run_176 rfl ?_
  refine J_bipush (v := nI 25) d_L_run_178 rfl ?_
  refine N_icmp_ne (tgt := 203) d_L_run_180 (by decide) (by omega) (by omega) (fun c180 => ?_) (fun c180 => absurd c180 (by decide))
  refine J_iload d_L_run_203 rfl ?_
  refine J_bipush (v := nI 6) d_L_run_205 rfl ?_
  refine N_icmp_eq (tgt := 224) d_L_run_207 (by decide) (by omega) (by omega) (fun c207 => absurd c207 (by decide)) (fun c207 => ?_)
  refine J_iload d_L_run_210 rfl ?_
  refine J_bipush (v := nI 26) d_L_run_212 rfl ?_
  refine N_icmp_lt (tgt := 242) d_L_run_214 (by decide) (by omega) (by omega) (fun c214 => absurd c214 (by decide)) (fun c214 => ?_)
  refine J_iload d_L_run_217 rfl ?_
  refine J_bipush (v := nI 30) d_L_run_219 rfl ?_
  refine N_icmp_gt (tgt := 242) d_L_run_221 (by decide) (by omega) (by omega) (fun c221 => ?_) (fun c221 => absurd c221 (by decide))
  refine J_aload_n (i := 0) d_L_run_242 rfl rfl ?_
  refine CV_I (av := []) d_L_run_243 s_L_76 (M_rcv rfl (by decide) rfl) (S_L_pop1 (X := X) (s := (x :: t)) (l := l) (v := y) hX hl hk (by first | omega | (simp only [List.length_cons] at *; omega))) (by omega) rfl rfl (Nat.le_of_ble_eq_true rfl) ?_
  refine J_istore (L1 := [some (.ref 16), some (.ref T), some (.int (nI fm)), some (.int (nI to)), some (.ref a), some (.int (nI e.2.2.2.2.1)), some (.int (jI e.2.2.2.2.2)), some (.int (nI en)), some (.int (nI p)), some (.int (nI 38)), some (.int (nI ((cw p) / 64))), some (.int (jI y))]) d_L_run_246 (by decide) rfl ?_
  refine J_aload_n (i := 0) d_L_run_248 rfl rfl ?_
  refine J_iload d_L_run_249 rfl ?_
  refine J_aload_n (i := 0) d_L_run_251 rfl rfl ?_
  refine CV_I (av := []) d_L_run_252 s_L_76 (M_rcv rfl (by decide) rfl) (S_L_pop1 (X := X) (s := t) (l := l) (v := x) hX hl hk.2 (by first | omega | (simp only [List.length_cons] at *; omega))) (by omega) rfl rfl (Nat.le_of_ble_eq_true rfl) ?_
  refine J_iload d_L_run_255 rfl ?_
  refine CS_I (av := [.int (nI 38), .int (jI x), .int (jI y)]) d_L_run_257 s_L_88 (S_L_ofTwo_38 hx hy) (by omega) rfl rfl (Nat.le_of_ble_eq_true rfl) ?_
  refine CV_V (av := [.int (jI (ar2 8 x y))]) d_L_run_260 s_L_67 (M_rcv rfl (by decide) rfl) (S_L_push (X := X) (s := t) (l := l) hX hl (by first | omega | (simp only [List.length_cons] at *; omega))) (by omega) rfl rfl (Nat.le_of_ble_eq_true rfl) ?_
  refine N_iinc (a := p) (c := 1) (L1 := [some (.ref 16), some (.ref T), some (.int (nI fm)), some (.int (nI to)), some (.ref a), some (.int (nI e.2.2.2.2.1)), some (.int (jI e.2.2.2.2.2)), some (.int (nI en)), some (.int (nI (p + 1))), some (.int (nI 38)), some (.int (nI ((cw p) / 64))), some (.int (jI y))]) d_L_run_263 rfl rfl (by decide) rfl ?_
  refine J_goto (tgt := 19) d_L_run_266 (by decide) ?_
  exact kx _ _ _ _ (by rw [List.length_set]; exact hl) (stk_push (by first | omega | (simp only [List.length_cons] at *; omega)) hk.2.2)

theorem run_39 {X : Mem} {a T : Nat} {e : Env} {cw : Nat → Nat} {Q : Option Value → Mem → Prop} {fm to en p w : Nat} {s : List Int} {l : List Int32} {z9 z10 z11 : Option Value} (hX : Ok X) (hE : CE X a e) (hO : okE e) (hT : TC X T cw) (hl : l.length = 300) (hp : p < en) (hen : en ≤ 300) {x y : Int} {t : List Int} (hx : sm x) (hy : sm y) (hk0 : cw p % 64 = 39) (hsl : (List.length (y :: (x :: t))) ≤ p) (hk : stkL (y :: (x :: t)) l) (kx : ∀ (l : List Int32) (z9 z10 z11 : Option Value), l.length = 300 → stkL ((ar2 9 x y) :: t) l → JM 3 m_L_run Q 19 [some (.ref 16), some (.ref T), some (.int (nI fm)), some (.int (nI to)), some (.ref a), some (.int (nI e.2.2.2.2.1)), some (.int (jI e.2.2.2.2.2)), some (.int (nI en)), some (.int (nI (p + 1))), z9, z10, z11] [] (skX X ((ar2 9 x y) :: t) l)) : JM 3 m_L_run Q 19 [some (.ref 16), some (.ref T), some (.int (nI fm)), some (.int (nI to)), some (.ref a), some (.int (nI e.2.2.2.2.1)), some (.int (jI e.2.2.2.2.2)), some (.int (nI en)), some (.int (nI p)), z9, z10, z11] [] (skX X (y :: (x :: t)) l) := by
  have hT5 := (txt_f hT.1).2.2.2.2
  have hm8 := hO.1
  have hmk := hO.2.1
  have hst := hO.2.2.1 e.2.2.2.2.1 (by omega)
  have hcw := (hT.2 p (by omega) (by omega)).2
  have hX1 : Ok (skX X (y :: (x :: t)) l) := okSk hX hl
  refine J_iload d_L_run_19 rfl ?_
  refine N_if_lt (tgt := 269) d_L_run_21 (by decide) (by omega) ?_
  refine J_iload d_L_run_24 rfl ?_
  refine J_iload d_L_run_26 rfl ?_
  refine N_icmp_ge (tgt := 269) d_L_run_28 (by decide) (by omega) (by omega) (fun c28 => absurd c28 (by omega)) (fun c28 => ?_)
  refine J_aload_n (i := 1) d_L_run_31 rfl rfl ?_
  refine M_getR (b := (T + 1)) d_L_run_32 f_L_64 hT.1 rfl (txt_f hT.1).1.1 ?_
  refine J_iload d_L_run_35 rfl ?_
  refine N_iald (x := (nI (cw p))) d_L_run_37 (txt_f hT.1).2.1.1 (by omega) (ltL hX1 (a := T + 1) (n := 300) (by omega) (txt_f hT.1).2.2.1.1 (by omega)) (show ((skX X (y :: (x :: t)) l).2.1 (T + 1)).getD p 0 = nI (cw p) from by rw [show (skX X (y :: (x :: t)) l).2.1 (T + 1) = X.2.1 (T + 1) from if_neg (by omega)]; exact (hT.2 p (by omega) (by omega)).1) ?_
  refine J_bipush (v := nI 64) d_L_run_38 rfl ?_
  refine N_irem d_L_run_40 (by omega) (by omega) (by omega) ?_
  rw [hk0]
  refine J_istore (L1 := [some (.ref 16), some (.ref T), some (.int (nI fm)), some (.int (nI to)), some (.ref a), some (.int (nI e.2.2.2.2.1)), some (.int (jI e.2.2.2.2.2)), some (.int (nI en)), some (.int (nI p)), some (.int (nI 39)), z10, z11]) d_L_run_41 (by decide) rfl ?_
  refine J_aload_n (i := 1) d_L_run_43 rfl rfl ?_
  refine M_getR (b := (T + 1)) d_L_run_44 f_L_64 hT.1 rfl (txt_f hT.1).1.1 ?_
  refine J_iload d_L_run_47 rfl ?_
  refine N_iald (x := (nI (cw p))) d_L_run_49 (txt_f hT.1).2.1.1 (by omega) (ltL hX1 (a := T + 1) (n := 300) (by omega) (txt_f hT.1).2.2.1.1 (by omega)) (show ((skX X (y :: (x :: t)) l).2.1 (T + 1)).getD p 0 = nI (cw p) from by rw [show (skX X (y :: (x :: t)) l).2.1 (T + 1) = X.2.1 (T + 1) from if_neg (by omega)]; exact (hT.2 p (by omega) (by omega)).1) ?_
  refine J_bipush (v := nI 64) d_L_run_50 rfl ?_
  refine N_idiv d_L_run_52 (by omega) (by omega) (by omega) ?_
  refine J_istore (L1 := [some (.ref 16), some (.ref T), some (.int (nI fm)), some (.int (nI to)), some (.ref a), some (.int (nI e.2.2.2.2.1)), some (.int (jI e.2.2.2.2.2)), some (.int (nI en)), some (.int (nI p)), some (.int (nI 39)), some (.int (nI ((cw p) / 64))), z11]) d_L_run_53 (by decide) rfl ?_
  refine J_iload d_L_run_55 rfl ?_
  refine J_bipush (v := nI 45) d_L_run_57 rfl ?_
  refine N_icmp_ne (tgt := 71) d_L_run_59 (by decide) (by omega) (by omega) (fun c59 => ?_) (fun c59 => absurd c59 (by decide))
  refine J_iload d_L_run_71 rfl ?_
  refine J_bipush (v := nI 31) d_L_run_73 rfl ?_
  refine N_icmp_ne (tgt := 96) d_L_run_75 (by decide) (by omega) (by omega) (fun c75 => ?_) (fun c75 => absurd c75 (by decide))
  refine J_iload d_L_run_96 rfl ?_
  refine J_bipush (v := nI 20) d_L_run_98 rfl ?_
  refine N_icmp_eq (tgt := 110) d_L_run_100 (by decide) (by omega) (by omega) (fun c100 => absurd c100 (by decide)) (fun c100 => ?_)
  refine J_iload d_L_run_103 rfl ?_
  refine J_bipush (v := nI 21) d_L_run_105 rfl ?_
  refine N_icmp_ne (tgt := 155) d_L_run_107 (by decide) (by omega) (by omega) (fun c107 => ?_) (fun c107 => absurd c107 (by decide))
  refine J_iload d_L_run_155 rfl ?_
  refine J_bipush (v := nI 17) d_L_run_157 rfl ?_
  refine N_icmp_eq (tgt := 183) d_L_run_159 (by decide) (by omega) (by omega) (fun c159 => absurd c159 (by decide)) (fun c159 => ?_)
  refine J_iload d_L_run_162 rfl ?_
  refine J_bipush (v := nI 18) d_L_run_164 rfl ?_
  refine N_icmp_eq (tgt := 183) d_L_run_166 (by decide) (by omega) (by omega) (fun c166 => absurd c166 (by decide)) (fun c166 => ?_)
  refine J_iload d_L_run_169 rfl ?_
  refine J_bipush (v := nI 48) d_L_run_171 rfl ?_
  refine N_icmp_eq (tgt := 183) d_L_run_173 (by decide) (by omega) (by omega) (fun c173 => absurd c173 (by decide)) (fun c173 => ?_)
  refine J_iload d_L_run_176 rfl ?_
  refine J_bipush (v := nI 25) d_L_run_178 rfl ?_
  refine N_icmp_ne (tgt := 203) d_L_run_180 (by decide) (by omega) (by omega) (fun c180 => ?_) (fun c180 => absurd c180 (by decide))
  refine J_iload d_L_run_203 rfl ?_
  refine J_bipush (v := nI 6) d_L_run_205 rfl ?_
  refine N_icmp_eq (tgt := 224) d_L_run_207 (by decide) (by omega) (by omega) (fun c207 => absurd c207 (by decide)) (fun c207 => ?_)
  refine J_iload d_L_run_210 rfl ?_
  refine J_bipush (v := nI 26) d_L_run_212 rfl ?_
  refine N_icmp_lt (tgt := 242) d_L_run_214 (by decide) (by omega) (by omega) (fun c214 => absurd c214 (by decide)) (fun c214 => ?_)
  refine J_iload d_L_run_217 rfl ?_
  refine J_bipush (v := nI 30) d_L_run_219 rfl ?_
  refine N_icmp_gt (tgt := 242) d_L_run_221 (by decide) (by omega) (by omega) (fun c221 => ?_) (fun c221 => absurd c221 (by decide))
  refine J_aload_n (i := 0) d_L_run_242 rfl rfl ?_
  refine CV_I (av := []) d_L_run_243 s_L_76 (M_rcv rfl (by decide) rfl) (S_L_pop1 (X := X) (s := (x :: t)) (l := l) (v := y) hX hl hk (by first | omega | (simp only [List.length_cons] at *; omega))) (by omega) rfl rfl (Nat.le_of_ble_eq_true rfl) ?_
  refine J_istore (L1 := [some (.ref 16), some (.ref T), some (.int (nI fm)), some (.int (nI to)), some (.ref a), some (.int (nI e.2.2.2.2.1)), some (.int (jI e.2.2.2.2.2)), some (.int (nI en)), some (.int (nI p)), some (.int (nI 39)), some (.int (nI ((cw p) / 64))), some (.int (jI y))]) d_L_run_246 (by decide) rfl ?_
  refine J_aload_n (i := 0) d_L_run_248 rfl rfl ?_
  refine J_iload d_L_run_249 rfl ?_
  refine J_aload_n (i := 0) d_L_run_251 rfl rfl ?_
  refine CV_I (av := []) d_L_run_252 s_L_76 (M_rcv rfl (by decide) rfl) (S_L_pop1 (X := X) (s := t) (l := l) (v := x) hX hl hk.2 (by first | omega | (simp only [List.length_cons] at *; omega))) (by omega) rfl rfl (Nat.le_of_ble_eq_true rfl) ?_
  refine J_iload d_L_run_255 rfl ?_
  refine CS_I (av := [.int (nI 39), .int (jI x), .int (jI y)]) d_L_run_257 s_L_88 (S_L_ofTwo_39 hx hy) (by omega) rfl rfl (Nat.le_of_ble_eq_true rfl) ?_
  refine CV_V (av := [.int (jI (ar2 9 x y))]) d_L_run_260 s_L_67 (M_rcv rfl (by decide) rfl) (S_L_push (X := X) (s := t) (l := l) hX hl (by first | omega | (simp only [List.length_cons] at *; omega))) (by omega) rfl rfl (Nat.le_of_ble_eq_true rfl) ?_
  refine N_iinc (a := p) (c := 1) (L1 := [some (.ref 16), some (.ref T), some (.int (nI fm)), some (.int (nI to)), some (.ref a), some (.int (nI e.2.2.2.2.1)), some (.int (jI e.2.2.2.2.2)), some (.int (nI en)), some (.int (nI (p + 1))), some (.int (nI 39)), some (.int (nI ((cw p) / 64))), some (.int (jI y))]) d_L_run_263 rfl rfl (by decide) rfl ?_
  refine J_goto (tgt := 19) d_L_run_266 (by decide) ?_
  exact kx _ _ _ _ (by rw [List.length_set]; exact hl) (stk_push (by first | omega | (simp only [List.length_cons] at *; omega)) hk.2.2)

theorem run_32 {X : Mem} {a T : Nat} {e : Env} {cw : Nat → Nat} {Q : Option Value → Mem → Prop} {fm to en p w : Nat} {s : List Int} {l : List Int32} {z9 z10 z11 : Option Value} (hX : Ok X) (hE : CE X a e) (hO : okE e) (hT : TC X T cw) (hl : l.length = 300) (hp : p < en) (hen : en ≤ 300) {x y : Int} {t : List Int} (hx : sm x) (hy : sm y) (hk0 : cw p % 64 = 32) (hsl : (List.length (y :: (x :: t))) ≤ p) (hk : stkL (y :: (x :: t)) l) (kx : ∀ (l : List Int32) (z9 z10 z11 : Option Value), l.length = 300 → stkL ((bt (cp2 10 x y)) :: t) l → JM 3 m_L_run Q 19 [some (.ref 16), some (.ref T), some (.int (nI fm)), some (.int (nI to)), some (.ref a), some (.int (nI e.2.2.2.2.1)), some (.int (jI e.2.2.2.2.2)), some (.int (nI en)), some (.int (nI (p + 1))), z9, z10, z11] [] (skX X ((bt (cp2 10 x y)) :: t) l)) : JM 3 m_L_run Q 19 [some (.ref 16), some (.ref T), some (.int (nI fm)), some (.int (nI to)), some (.ref a), some (.int (nI e.2.2.2.2.1)), some (.int (jI e.2.2.2.2.2)), some (.int (nI en)), some (.int (nI p)), z9, z10, z11] [] (skX X (y :: (x :: t)) l) := by
  have hT5 := (txt_f hT.1).2.2.2.2
  have hm8 := hO.1
  have hmk := hO.2.1
  have hst := hO.2.2.1 e.2.2.2.2.1 (by omega)
  have hcw := (hT.2 p (by omega) (by omega)).2
  have hX1 : Ok (skX X (y :: (x :: t)) l) := okSk hX hl
  refine J_iload d_L_run_19 rfl ?_
  refine N_if_lt (tgt := 269) d_L_run_21 (by decide) (by omega) ?_
  refine J_iload d_L_run_24 rfl ?_
  refine J_iload d_L_run_26 rfl ?_
  refine N_icmp_ge (tgt := 269) d_L_run_28 (by decide) (by omega) (by omega) (fun c28 => absurd c28 (by omega)) (fun c28 => ?_)
  refine J_aload_n (i := 1) d_L_run_31 rfl rfl ?_
  refine M_getR (b := (T + 1)) d_L_run_32 f_L_64 hT.1 rfl (txt_f hT.1).1.1 ?_
  refine J_iload d_L_run_35 rfl ?_
  refine N_iald (x := (nI (cw p))) d_L_run_37 (txt_f hT.1).2.1.1 (by omega) (ltL hX1 (a := T + 1) (n := 300) (by omega) (txt_f hT.1).2.2.1.1 (by omega)) (show ((skX X (y :: (x :: t)) l).2.1 (T + 1)).getD p 0 = nI (cw p) from by rw [show (skX X (y :: (x :: t)) l).2.1 (T + 1) = X.2.1 (T + 1) from if_neg (by omega)]; exact (hT.2 p (by omega) (by omega)).1) ?_
  refine J_bipush (v := nI 64) d_L_run_38 rfl ?_
  refine N_irem d_L_run_40 (by omega) (by omega) (by omega) ?_
  rw [hk0]
  refine J_istore (L1 := [some (.ref 16), some (.ref T), some (.int (nI fm)), some (.int (nI to)), some (.ref a), some (.int (nI e.2.2.2.2.1)), some (.int (jI e.2.2.2.2.2)), some (.int (nI en)), some (.int (nI p)), some (.int (nI 32)), z10, z11]) d_L_run_41 (by decide) rfl ?_
  refine J_aload_n (i := 1) d_L_run_43 rfl rfl ?_
  refine M_getR (b := (T + 1)) d_L_run_44 f_L_64 hT.1 rfl (txt_f hT.1).1.1 ?_
  refine J_iload d_L_run_47 rfl ?_
  refine N_iald (x := (nI (cw p))) d_L_run_49 (txt_f hT.1).2.1.1 (by omega) (ltL hX1 (a := T + 1) (n := 300) (by omega) (txt_f hT.1).2.2.1.1 (by omega)) (show ((skX X (y :: (x :: t)) l).2.1 (T + 1)).getD p 0 = nI (cw p) from by rw [show (skX X (y :: (x :: t)) l).2.1 (T + 1) = X.2.1 (T + 1) from if_neg (by omega)]; exact (hT.2 p (by omega) (by omega)).1) ?_
  refine J_bipush (v := nI 64) d_L_run_50 rfl ?_
  refine N_idiv d_L_run_52 (by omega) (by omega) (by omega) ?_
  refine J_istore (L1 := [some (.ref 16), some (.ref T), some (.int (nI fm)), some (.int (nI to)), some (.ref a), some (.int (nI e.2.2.2.2.1)), some (.int (jI e.2.2.2.2.2)), some (.int (nI en)), some (.int (nI p)), some (.int (nI 32)), some (.int (nI ((cw p) / 64))), z11]) d_L_run_53 (by decide) rfl ?_
  refine J_iload d_L_run_55 rfl ?_
  refine J_bipush (v := nI 45) d_L_run_57 rfl ?_
  refine N_icmp_ne (tgt := 71) d_L_run_59 (by decide) (by omega) (by omega) (fun c59 => ?_) (fun c59 => absurd c59 (by decide))
  refine J_iload d_L_run_71 rfl ?_
  refine J_bipush (v := nI 31) d_L_run_73 rfl ?_
  refine N_icmp_ne (tgt := 96) d_L_run_75 (by decide) (by omega) (by omega) (fun c75 => ?_) (fun c75 => absurd c75 (by decide))
  refine J_iload d_L_run_96 rfl ?_
  refine J_bipush (v := nI 20) d_L_run_98 rfl ?_
  refine N_icmp_eq (tgt := 110) d_L_run_100 (by decide) (by omega) (by omega) (fun c100 => absurd c100 (by decide)) (fun c100 => ?_)
  refine J_iload d_L_run_103 rfl ?_
  refine J_bipush (v := nI 21) d_L_run_105 rfl ?_
  refine N_icmp_ne (tgt := 155) d_L_run_107 (by decide) (by omega) (by omega) (fun c107 => ?_) (fun c107 => absurd c107 (by decide))
  refine J_iload d_L_run_155 rfl ?_
  refine J_bipush (v := nI 17) d_L_run_157 rfl ?_
  refine N_icmp_eq (tgt := 183) d_L_run_159 (by decide) (by omega) (by omega) (fun c159 => absurd c159 (by decide)) (fun c159 => ?_)
  refine J_iload d_L_run_162 rfl ?_
  refine J_bipush (v := nI 18) d_L_run_164 rfl ?_
  refine N_icmp_eq (tgt := 183) d_L_run_166 (by decide) (by omega) (by omega) (fun c166 => absurd c166 (by decide)) (fun c166 => ?_)
  refine J_iload d_L_run_169 rfl ?_
  refine J_bipush (v := nI 48) d_L_run_171 rfl ?_
  refine N_icmp_eq (tgt := 183) d_L_run_173 (by decide) (by omega) (by omega) (fun c173 => absurd c173 (by decide)) (fun c173 => ?_)
  refine J_iload d_L_run_176 rfl ?_
  refine J_bipush (v := nI 25) d_L_run_178 rfl ?_
  refine N_icmp_ne (tgt := 203) d_L_run_180 (by decide) (by omega) (by omega) (fun c180 => ?_) (fun c180 => absurd c180 (by decide))
  refine J_iload d_L_run_203 rfl ?_
  refine J_bipush (v := nI 6) d_L_run_205 rfl ?_
  refine N_icmp_eq (tgt := 224) d_L_run_207 (by decide) (by omega) (by omega) (fun c207 => absurd c207 (by decide)) (fun c207 => ?_)
  refine J_iload d_L_run_210 rfl ?_
  refine J_bipush (v := nI 26) d_L_run_212 rfl ?_
  refine N_icmp_lt (tgt := 242) d_L_run_214 (by decide) (by omega) (by omega) (fun c214 => absurd c214 (by decide)) (fun c214 => ?_)
  refine J_iload d_L_run_217 rfl ?_
  refine J_bipush (v := nI 30) d_L_run_219 rfl ?_
  refine N_icmp_gt (tgt := 242) d_L_run_221 (by decide) (by omega) (by omega) (fun c221 => ?_) (fun c221 => absurd c221 (by decide))
  refine J_aload_n (i := 0) d_L_run_242 rfl rfl ?_
  refine CV_I (av := []) d_L_run_243 s_L_76 (M_rcv rfl (by decide) rfl) (S_L_pop1 (X := X) (s := (x :: t)) (l := l) (v := y) hX hl hk (by first | omega | (simp only [List.length_cons] at *; omega))) (by omega) rfl rfl (Nat.le_of_ble_eq_true rfl) ?_
  refine J_istore (L1 := [some (.ref 16), some (.ref T), some (.int (nI fm)), some (.int (nI to)), some (.ref a), some (.int (nI e.2.2.2.2.1)), some (.int (jI e.2.2.2.2.2)), some (.int (nI en)), some (.int (nI p)), some (.int (nI 32)), some (.int (nI ((cw p) / 64))), some (.int (jI y))]) d_L_run_246 (by decide) rfl ?_
  refine J_aload_n (i := 0) d_L_run_248 rfl rfl ?_
  refine J_iload d_L_run_249 rfl ?_
  refine J_aload_n (i := 0) d_L_run_251 rfl rfl ?_
  refine CV_I (av := []) d_L_run_252 s_L_76 (M_rcv rfl (by decide) rfl) (S_L_pop1 (X := X) (s := t) (l := l) (v := x) hX hl hk.2 (by first | omega | (simp only [List.length_cons] at *; omega))) (by omega) rfl rfl (Nat.le_of_ble_eq_true rfl) ?_
  refine J_iload d_L_run_255 rfl ?_
  refine CS_I (av := [.int (nI 32), .int (jI x), .int (jI y)]) d_L_run_257 s_L_88 (S_L_ofTwo_32 hx hy) (by omega) rfl rfl (Nat.le_of_ble_eq_true rfl) ?_
  rw [jI_bt]
  refine CV_V (av := [.int (jI (bt (cp2 10 x y)))]) d_L_run_260 s_L_67 (M_rcv rfl (by decide) rfl) (S_L_push (X := X) (s := t) (l := l) hX hl (by first | omega | (simp only [List.length_cons] at *; omega))) (by omega) rfl rfl (Nat.le_of_ble_eq_true rfl) ?_
  refine N_iinc (a := p) (c := 1) (L1 := [some (.ref 16), some (.ref T), some (.int (nI fm)), some (.int (nI to)), some (.ref a), some (.int (nI e.2.2.2.2.1)), some (.int (jI e.2.2.2.2.2)), some (.int (nI en)), some (.int (nI (p + 1))), some (.int (nI 32)), some (.int (nI ((cw p) / 64))), some (.int (jI y))]) d_L_run_263 rfl rfl (by decide) rfl ?_
  refine J_goto (tgt := 19) d_L_run_266 (by decide) ?_
  exact kx _ _ _ _ (by rw [List.length_set]; exact hl) (stk_push (by first | omega | (simp only [List.length_cons] at *; omega)) hk.2.2)

theorem run_43 {X : Mem} {a T : Nat} {e : Env} {cw : Nat → Nat} {Q : Option Value → Mem → Prop} {fm to en p w : Nat} {s : List Int} {l : List Int32} {z9 z10 z11 : Option Value} (hX : Ok X) (hE : CE X a e) (hO : okE e) (hT : TC X T cw) (hl : l.length = 300) (hp : p < en) (hen : en ≤ 300) {x y : Int} {t : List Int} (hx : sm x) (hy : sm y) (hk0 : cw p % 64 = 43) (hsl : (List.length (y :: (x :: t))) ≤ p) (hk : stkL (y :: (x :: t)) l) (kx : ∀ (l : List Int32) (z9 z10 z11 : Option Value), l.length = 300 → stkL ((bt (cp2 11 x y)) :: t) l → JM 3 m_L_run Q 19 [some (.ref 16), some (.ref T), some (.int (nI fm)), some (.int (nI to)), some (.ref a), some (.int (nI e.2.2.2.2.1)), some (.int (jI e.2.2.2.2.2)), some (.int (nI en)), some (.int (nI (p + 1))), z9, z10, z11] [] (skX X ((bt (cp2 11 x y)) :: t) l)) : JM 3 m_L_run Q 19 [some (.ref 16), some (.ref T), some (.int (nI fm)), some (.int (nI to)), some (.ref a), some (.int (nI e.2.2.2.2.1)), some (.int (jI e.2.2.2.2.2)), some (.int (nI en)), some (.int (nI p)), z9, z10, z11] [] (skX X (y :: (x :: t)) l) := by
  have hT5 := (txt_f hT.1).2.2.2.2
  have hm8 := hO.1
  have hmk := hO.2.1
  have hst := hO.2.2.1 e.2.2.2.2.1 (by omega)
  have hcw := (hT.2 p (by omega) (by omega)).2
  have hX1 : Ok (skX X (y :: (x :: t)) l) := okSk hX hl
  refine J_iload d_L_run_19 rfl ?_
  refine N_if_lt (tgt := 269) d_L_run_21 (by decide) (by omega) ?_
  refine J_iload d_L_run_24 rfl ?_
  refine J_iload d_L_run_26 rfl ?_
  refine N_icmp_ge (tgt := 269) d_L_run_28 (by decide) (by omega) (by omega) (fun c28 => absurd c28 (by omega)) (fun c28 => ?_)
  refine J_aload_n (i := 1) d_L_run_31 rfl rfl ?_
  refine M_getR (b := (T + 1)) d_L_run_32 f_L_64 hT.1 rfl (txt_f hT.1).1.1 ?_
  refine J_iload d_L_run_35 rfl ?_
  refine N_iald (x := (nI (cw p))) d_L_run_37 (txt_f hT.1).2.1.1 (by omega) (ltL hX1 (a := T + 1) (n := 300) (by omega) (txt_f hT.1).2.2.1.1 (by omega)) (show ((skX X (y :: (x :: t)) l).2.1 (T + 1)).getD p 0 = nI (cw p) from by rw [show (skX X (y :: (x :: t)) l).2.1 (T + 1) = X.2.1 (T + 1) from if_neg (by omega)]; exact (hT.2 p (by omega) (by omega)).1) ?_
  refine J_bipush (v := nI 64) d_L_run_38 rfl ?_
  refine N_irem d_L_run_40 (by omega) (by omega) (by omega) ?_
  rw [hk0]
  refine J_istore (L1 := [some (.ref 16), some (.ref T), some (.int (nI fm)), some (.int (nI to)), some (.ref a), some (.int (nI e.2.2.2.2.1)), some (.int (jI e.2.2.2.2.2)), some (.int (nI en)), some (.int (nI p)), some (.int (nI 43)), z10, z11]) d_L_run_41 (by decide) rfl ?_
  refine J_aload_n (i := 1) d_L_run_43 rfl rfl ?_
  refine M_getR (b := (T + 1)) d_L_run_44 f_L_64 hT.1 rfl (txt_f hT.1).1.1 ?_
  refine J_iload d_L_run_47 rfl ?_
  refine N_iald (x := (nI (cw p))) d_L_run_49 (txt_f hT.1).2.1.1 (by omega) (ltL hX1 (a := T + 1) (n := 300) (by omega) (txt_f hT.1).2.2.1.1 (by omega)) (show ((skX X (y :: (x :: t)) l).2.1 (T + 1)).getD p 0 = nI (cw p) from by rw [show (skX X (y :: (x :: t)) l).2.1 (T + 1) = X.2.1 (T + 1) from if_neg (by omega)]; exact (hT.2 p (by omega) (by omega)).1) ?_
  refine J_bipush (v := nI 64) d_L_run_50 rfl ?_
  refine N_idiv d_L_run_52 (by omega) (by omega) (by omega) ?_
  refine J_istore (L1 := [some (.ref 16), some (.ref T), some (.int (nI fm)), some (.int (nI to)), some (.ref a), some (.int (nI e.2.2.2.2.1)), some (.int (jI e.2.2.2.2.2)), some (.int (nI en)), some (.int (nI p)), some (.int (nI 43)), some (.int (nI ((cw p) / 64))), z11]) d_L_run_53 (by decide) rfl ?_
  refine J_iload d_L_run_55 rfl ?_
  refine J_bipush (v := nI 45) d_L_run_57 rfl ?_
  refine N_icmp_ne (tgt := 71) d_L_run_59 (by decide) (by omega) (by omega) (fun c59 => ?_) (fun c59 => absurd c59 (by decide))
  refine J_iload d_L_run_71 rfl ?_
  refine J_bipush (v := nI 31) d_L_run_73 rfl ?_
  refine N_icmp_ne (tgt := 96) d_L_run_75 (by decide) (by omega) (by omega) (fun c75 => ?_) (fun c75 => absurd c75 (by decide))
  refine J_iload d_L_run_96 rfl ?_
  refine J_bipush (v := nI 20) d_L_run_98 rfl ?_
  refine N_icmp_eq (tgt := 110) d_L_run_100 (by decide) (by omega) (by omega) (fun c100 => absurd c100 (by decide)) (fun c100 => ?_)
  refine J_iload d_L_run_103 rfl ?_
  refine J_bipush (v := nI 21) d_L_run_105 rfl ?_
  refine N_icmp_ne (tgt := 155) d_L_run_107 (by decide) (by omega) (by omega) (fun c107 => ?_) (fun c107 => absurd c107 (by decide))
  refine J_iload d_L_run_155 rfl ?_
  refine J_bipush (v := nI 17) d_L_run_157 rfl ?_
  refine N_icmp_eq (tgt := 183) d_L_run_159 (by decide) (by omega) (by omega) (fun c159 => absurd c159 (by decide)) (fun c159 => ?_)
  refine J_iload d_L_run_162 rfl ?_
  refine J_bipush (v := nI 18) d_L_run_164 rfl ?_
  refine N_icmp_eq (tgt := 183) d_L_run_166 (by decide) (by omega) (by omega) (fun c166 => absurd c166 (by decide)) (fun c166 => ?_)
  refine J_iload d_L_run_169 rfl ?_
  refine J_bipush (v := nI 48) d_L_run_171 rfl ?_
  refine N_icmp_eq (tgt := 183) d_L_run_173 (by decide) (by omega) (by omega) (fun c173 => absurd c173 (by decide)) (fun c173 => ?_)
  refine J_iload d_L_run_176 rfl ?_
  refine J_bipush (v := nI 25) d_L_run_178 rfl ?_
  refine N_icmp_ne (tgt := 203) d_L_run_180 (by decide) (by omega) (by omega) (fun c180 => ?_) (fun c180 => absurd c180 (by decide))
  refine J_iload d_L_run_203 rfl ?_
  refine J_bipush (v := nI 6) d_L_run_205 rfl ?_
  refine N_icmp_eq (tgt := 224) d_L_run_207 (by decide) (by omega) (by omega) (fun c207 => absurd c207 (by decide)) (fun c207 => ?_)
  refine J_iload d_L_run_210 rfl ?_
  refine J_bipush (v := nI 26) d_L_run_212 rfl ?_
  refine N_icmp_lt (tgt := 242) d_L_run_214 (by decide) (by omega) (by omega) (fun c214 => absurd c214 (by decide)) (fun c214 => ?_)
  refine J_iload d_L_run_217 rfl ?_
  refine J_bipush (v := nI 30) d_L_run_219 rfl ?_
  refine N_icmp_gt (tgt := 242) d_L_run_221 (by decide) (by omega) (by omega) (fun c221 => ?_) (fun c221 => absurd c221 (by decide))
  refine J_aload_n (i := 0) d_L_run_242 rfl rfl ?_
  refine CV_I (av := []) d_L_run_243 s_L_76 (M_rcv rfl (by decide) rfl) (S_L_pop1 (X := X) (s := (x :: t)) (l := l) (v := y) hX hl hk (by first | omega | (simp only [List.length_cons] at *; omega))) (by omega) rfl rfl (Nat.le_of_ble_eq_true rfl) ?_
  refine J_istore (L1 := [some (.ref 16), some (.ref T), some (.int (nI fm)), some (.int (nI to)), some (.ref a), some (.int (nI e.2.2.2.2.1)), some (.int (jI e.2.2.2.2.2)), some (.int (nI en)), some (.int (nI p)), some (.int (nI 43)), some (.int (nI ((cw p) / 64))), some (.int (jI y))]) d_L_run_246 (by decide) rfl ?_
  refine J_aload_n (i := 0) d_L_run_248 rfl rfl ?_
  refine J_iload d_L_run_249 rfl ?_
  refine J_aload_n (i := 0) d_L_run_251 rfl rfl ?_
  refine CV_I (av := []) d_L_run_252 s_L_76 (M_rcv rfl (by decide) rfl) (S_L_pop1 (X := X) (s := t) (l := l) (v := x) hX hl hk.2 (by first | omega | (simp only [List.length_cons] at *; omega))) (by omega) rfl rfl (Nat.le_of_ble_eq_true rfl) ?_
  refine J_iload d_L_run_255 rfl ?_
  refine CS_I (av := [.int (nI 43), .int (jI x), .int (jI y)]) d_L_run_257 s_L_88 (S_L_ofTwo_43 hx hy) (by omega) rfl rfl (Nat.le_of_ble_eq_true rfl) ?_
  rw [jI_bt]
  refine CV_V (av := [.int (jI (bt (cp2 11 x y)))]) d_L_run_260 s_L_67 (M_rcv rfl (by decide) rfl) (S_L_push (X := X) (s := t) (l := l) hX hl (by first | omega | (simp only [List.length_cons] at *; omega))) (by omega) rfl rfl (Nat.le_of_ble_eq_true rfl) ?_
  refine N_iinc (a := p) (c := 1) (L1 := [some (.ref 16), some (.ref T), some (.int (nI fm)), some (.int (nI to)), some (.ref a), some (.int (nI e.2.2.2.2.1)), some (.int (jI e.2.2.2.2.2)), some (.int (nI en)), some (.int (nI (p + 1))), some (.int (nI 43)), some (.int (nI ((cw p) / 64))), some (.int (jI y))]) d_L_run_263 rfl rfl (by decide) rfl ?_
  refine J_goto (tgt := 19) d_L_run_266 (by decide) ?_
  exact kx _ _ _ _ (by rw [List.length_set]; exact hl) (stk_push (by first | omega | (simp only [List.length_cons] at *; omega)) hk.2.2)

theorem run_33 {X : Mem} {a T : Nat} {e : Env} {cw : Nat → Nat} {Q : Option Value → Mem → Prop} {fm to en p w : Nat} {s : List Int} {l : List Int32} {z9 z10 z11 : Option Value} (hX : Ok X) (hE : CE X a e) (hO : okE e) (hT : TC X T cw) (hl : l.length = 300) (hp : p < en) (hen : en ≤ 300) {x y : Int} {t : List Int} (hx : sm x) (hy : sm y) (hk0 : cw p % 64 = 33) (hsl : (List.length (y :: (x :: t))) ≤ p) (hk : stkL (y :: (x :: t)) l) (kx : ∀ (l : List Int32) (z9 z10 z11 : Option Value), l.length = 300 → stkL ((bt (cp2 12 x y)) :: t) l → JM 3 m_L_run Q 19 [some (.ref 16), some (.ref T), some (.int (nI fm)), some (.int (nI to)), some (.ref a), some (.int (nI e.2.2.2.2.1)), some (.int (jI e.2.2.2.2.2)), some (.int (nI en)), some (.int (nI (p + 1))), z9, z10, z11] [] (skX X ((bt (cp2 12 x y)) :: t) l)) : JM 3 m_L_run Q 19 [some (.ref 16), some (.ref T), some (.int (nI fm)), some (.int (nI to)), some (.ref a), some (.int (nI e.2.2.2.2.1)), some (.int (jI e.2.2.2.2.2)), some (.int (nI en)), some (.int (nI p)), z9, z10, z11] [] (skX X (y :: (x :: t)) l) := by
  have hT5 := (txt_f hT.1).2.2.2.2
  have hm8 := hO.1
  have hmk := hO.2.1
  have hst := hO.2.2.1 e.2.2.2.2.1 (by omega)
  have hcw := (hT.2 p (by omega) (by omega)).2
  have hX1 : Ok (skX X (y :: (x :: t)) l) := okSk hX hl
  refine J_iload d_L_run_19 rfl ?_
  refine N_if_lt (tgt := 269) d_L_run_21 (by decide) (by omega) ?_
  refine J_iload d_L_run_24 rfl ?_
  refine J_iload d_L_run_26 rfl ?_
  refine N_icmp_ge (tgt := 269) d_L_run_28 (by decide) (by omega) (by omega) (fun c28 => absurd c28 (by omega)) (fun c28 => ?_)
  refine J_aload_n (i := 1) d_L_run_31 rfl rfl ?_
  refine M_getR (b := (T + 1)) d_L_run_32 f_L_64 hT.1 rfl (txt_f hT.1).1.1 ?_
  refine J_iload d_L_run_35 rfl ?_
  refine N_iald (x := (nI (cw p))) d_L_run_37 (txt_f hT.1).2.1.1 (by omega) (ltL hX1 (a := T + 1) (n := 300) (by omega) (txt_f hT.1).2.2.1.1 (by omega)) (show ((skX X (y :: (x :: t)) l).2.1 (T + 1)).getD p 0 = nI (cw p) from by rw [show (skX X (y :: (x :: t)) l).2.1 (T + 1) = X.2.1 (T + 1) from if_neg (by omega)]; exact (hT.2 p (by omega) (by omega)).1) ?_
  refine J_bipush (v := nI 64) d_L_run_38 rfl ?_
  refine N_irem d_L_run_40 (by omega) (by omega) (by omega) ?_
  rw [hk0]
  refine J_istore (L1 := [some (.ref 16), some (.ref T), some (.int (nI fm)), some (.int (nI to)), some (.ref a), some (.int (nI e.2.2.2.2.1)), some (.int (jI e.2.2.2.2.2)), some (.int (nI en)), some (.int (nI p)), some (.int (nI 33)), z10, z11]) d_L_run_41 (by decide) rfl ?_
  refine J_aload_n (i := 1) d_L_run_43 rfl rfl ?_
  refine M_getR (b := (T + 1)) d_L_run_44 f_L_64 hT.1 rfl (txt_f hT.1).1.1 ?_
  refine J_iload d_L_run_47 rfl ?_
  refine N_iald (x := (nI (cw p))) d_L_run_49 (txt_f hT.1).2.1.1 (by omega) (ltL hX1 (a := T + 1) (n := 300) (by omega) (txt_f hT.1).2.2.1.1 (by omega)) (show ((skX X (y :: (x :: t)) l).2.1 (T + 1)).getD p 0 = nI (cw p) from by rw [show (skX X (y :: (x :: t)) l).2.1 (T + 1) = X.2.1 (T + 1) from if_neg (by omega)]; exact (hT.2 p (by omega) (by omega)).1) ?_
  refine J_bipush (v := nI 64) d_L_run_50 rfl ?_
  refine N_idiv d_L_run_52 (by omega) (by omega) (by omega) ?_
  refine J_istore (L1 := [some (.ref 16), some (.ref T), some (.int (nI fm)), some (.int (nI to)), some (.ref a), some (.int (nI e.2.2.2.2.1)), some (.int (jI e.2.2.2.2.2)), some (.int (nI en)), some (.int (nI p)), some (.int (nI 33)), some (.int (nI ((cw p) / 64))), z11]) d_L_run_53 (by decide) rfl ?_
  refine J_iload d_L_run_55 rfl ?_
  refine J_bipush (v := nI 45) d_L_run_57 rfl ?_
  refine N_icmp_ne (tgt := 71) d_L_run_59 (by decide) (by omega) (by omega) (fun c59 => ?_) (fun c59 => absurd c59 (by decide))
  refine J_iload d_L_run_71 rfl ?_
  refine J_bipush (v := nI 31) d_L_run_73 rfl ?_
  refine N_icmp_ne (tgt := 96) d_L_run_75 (by decide) (by omega) (by omega) (fun c75 => ?_) (fun c75 => absurd c75 (by decide))
  refine J_iload d_L_run_96 rfl ?_
  refine J_bipush (v := nI 20) d_L_run_98 rfl ?_
  refine N_icmp_eq (tgt := 110) d_L_run_100 (by decide) (by omega) (by omega) (fun c100 => absurd c100 (by decide)) (fun c100 => ?_)
  refine J_iload d_L_run_103 rfl ?_
  refine J_bipush (v := nI 21) d_L_run_105 rfl ?_
  refine N_icmp_ne (tgt := 155) d_L_run_107 (by decide) (by omega) (by omega) (fun c107 => ?_) (fun c107 => absurd c107 (by decide))
  refine J_iload d_L_run_155 rfl ?_
  refine J_bipush (v := nI 17) d_L_run_157 rfl ?_
  refine N_icmp_eq (tgt := 183) d_L_run_159 (by decide) (by omega) (by omega) (fun c159 => absurd c159 (by decide)) (fun c159 => ?_)
  refine J_iload d_L_run_162 rfl ?_
  refine J_bipush (v := nI 18) d_L_run_164 rfl ?_
  refine N_icmp_eq (tgt := 183) d_L_run_166 (by decide) (by omega) (by omega) (fun c166 => absurd c166 (by decide)) (fun c166 => ?_)
  refine J_iload d_L_run_169 rfl ?_
  refine J_bipush (v := nI 48) d_L_run_171 rfl ?_
  refine N_icmp_eq (tgt := 183) d_L_run_173 (by decide) (by omega) (by omega) (fun c173 => absurd c173 (by decide)) (fun c173 => ?_)
  refine J_iload d_L_run_176 rfl ?_
  refine J_bipush (v := nI 25) d_L_run_178 rfl ?_
  refine N_icmp_ne (tgt := 203) d_L_run_180 (by decide) (by omega) (by omega) (fun c180 => ?_) (fun c180 => absurd c180 (by decide))
  refine J_iload d_L_run_203 rfl ?_
  refine J_bipush (v := nI 6) d_L_run_205 rfl ?_
  refine N_icmp_eq (tgt := 224) d_L_run_207 (by decide) (by omega) (by omega) (fun c207 => absurd c207 (by decide)) (fun c207 => ?_)
  refine J_iload d_L_run_210 rfl ?_
  refine J_bipush (v := nI 26) d_L_run_212 rfl ?_
  refine N_icmp_lt (tgt := 242) d_L_run_214 (by decide) (by omega) (by omega) (fun c214 => absurd c214 (by decide)) (fun c214 => ?_)
  refine J_iload d_L_run_217 rfl ?_
  refine J_bipush (v := nI 30) d_L_run_219 rfl ?_
  refine N_icmp_gt (tgt := 242) d_L_run_221 (by decide) (by omega) (by omega) (fun c221 => ?_) (fun c221 => absurd c221 (by decide))
  refine J_aload_n (i := 0) d_L_run_242 rfl rfl ?_
  refine CV_I (av := []) d_L_run_243 s_L_76 (M_rcv rfl (by decide) rfl) (S_L_pop1 (X := X) (s := (x :: t)) (l := l) (v := y) hX hl hk (by first | omega | (simp only [List.length_cons] at *; omega))) (by omega) rfl rfl (Nat.le_of_ble_eq_true rfl) ?_
  refine J_istore (L1 := [some (.ref 16), some (.ref T), some (.int (nI fm)), some (.int (nI to)), some (.ref a), some (.int (nI e.2.2.2.2.1)), some (.int (jI e.2.2.2.2.2)), some (.int (nI en)), some (.int (nI p)), some (.int (nI 33)), some (.int (nI ((cw p) / 64))), some (.int (jI y))]) d_L_run_246 (by decide) rfl ?_
  refine J_aload_n (i := 0) d_L_run_248 rfl rfl ?_
  refine J_iload d_L_run_249 rfl ?_
  refine J_aload_n (i := 0) d_L_run_251 rfl rfl ?_
  refine CV_I (av := []) d_L_run_252 s_L_76 (M_rcv rfl (by decide) rfl) (S_L_pop1 (X := X) (s := t) (l := l) (v := x) hX hl hk.2 (by first | omega | (simp only [List.length_cons] at *; omega))) (by omega) rfl rfl (Nat.le_of_ble_eq_true rfl) ?_
  refine J_iload d_L_run_255 rfl ?_
  refine CS_I (av := [.int (nI 33), .int (jI x), .int (jI y)]) d_L_run_257 s_L_88 (S_L_ofTwo_33 hx hy) (by omega) rfl rfl (Nat.le_of_ble_eq_true rfl) ?_
  rw [jI_bt]
  refine CV_V (av := [.int (jI (bt (cp2 12 x y)))]) d_L_run_260 s_L_67 (M_rcv rfl (by decide) rfl) (S_L_push (X := X) (s := t) (l := l) hX hl (by first | omega | (simp only [List.length_cons] at *; omega))) (by omega) rfl rfl (Nat.le_of_ble_eq_true rfl) ?_
  refine N_iinc (a := p) (c := 1) (L1 := [some (.ref 16), some (.ref T), some (.int (nI fm)), some (.int (nI to)), some (.ref a), some (.int (nI e.2.2.2.2.1)), some (.int (jI e.2.2.2.2.2)), some (.int (nI en)), some (.int (nI (p + 1))), some (.int (nI 33)), some (.int (nI ((cw p) / 64))), some (.int (jI y))]) d_L_run_263 rfl rfl (by decide) rfl ?_
  refine J_goto (tgt := 19) d_L_run_266 (by decide) ?_
  exact kx _ _ _ _ (by rw [List.length_set]; exact hl) (stk_push (by first | omega | (simp only [List.length_cons] at *; omega)) hk.2.2)

theorem run_44 {X : Mem} {a T : Nat} {e : Env} {cw : Nat → Nat} {Q : Option Value → Mem → Prop} {fm to en p w : Nat} {s : List Int} {l : List Int32} {z9 z10 z11 : Option Value} (hX : Ok X) (hE : CE X a e) (hO : okE e) (hT : TC X T cw) (hl : l.length = 300) (hp : p < en) (hen : en ≤ 300) {x y : Int} {t : List Int} (hx : sm x) (hy : sm y) (hk0 : cw p % 64 = 44) (hsl : (List.length (y :: (x :: t))) ≤ p) (hk : stkL (y :: (x :: t)) l) (kx : ∀ (l : List Int32) (z9 z10 z11 : Option Value), l.length = 300 → stkL ((bt (cp2 13 x y)) :: t) l → JM 3 m_L_run Q 19 [some (.ref 16), some (.ref T), some (.int (nI fm)), some (.int (nI to)), some (.ref a), some (.int (nI e.2.2.2.2.1)), some (.int (jI e.2.2.2.2.2)), some (.int (nI en)), some (.int (nI (p + 1))), z9, z10, z11] [] (skX X ((bt (cp2 13 x y)) :: t) l)) : JM 3 m_L_run Q 19 [some (.ref 16), some (.ref T), some (.int (nI fm)), some (.int (nI to)), some (.ref a), some (.int (nI e.2.2.2.2.1)), some (.int (jI e.2.2.2.2.2)), some (.int (nI en)), some (.int (nI p)), z9, z10, z11] [] (skX X (y :: (x :: t)) l) := by
  have hT5 := (txt_f hT.1).2.2.2.2
  have hm8 := hO.1
  have hmk := hO.2.1
  have hst := hO.2.2.1 e.2.2.2.2.1 (by omega)
  have hcw := (hT.2 p (by omega) (by omega)).2
  have hX1 : Ok (skX X (y :: (x :: t)) l) := okSk hX hl
  refine J_iload d_L_run_19 rfl ?_
  refine N_if_lt (tgt := 269) d_L_run_21 (by decide) (by omega) ?_
  refine J_iload d_L_run_24 rfl ?_
  refine J_iload d_L_run_26 rfl ?_
  refine N_icmp_ge (tgt := 269) d_L_run_28 (by decide) (by omega) (by omega) (fun c28 => absurd c28 (by omega)) (fun c28 => ?_)
  refine J_aload_n (i := 1) d_L_run_31 rfl rfl ?_
  refine M_getR (b := (T + 1)) d_L_run_32 f_L_64 hT.1 rfl (txt_f hT.1).1.1 ?_
  refine J_iload d_L_run_35 rfl ?_
  refine N_iald (x := (nI (cw p))) d_L_run_37 (txt_f hT.1).2.1.1 (by omega) (ltL hX1 (a := T + 1) (n := 300) (by omega) (txt_f hT.1).2.2.1.1 (by omega)) (show ((skX X (y :: (x :: t)) l).2.1 (T + 1)).getD p 0 = nI (cw p) from by rw [show (skX X (y :: (x :: t)) l).2.1 (T + 1) = X.2.1 (T + 1) from if_neg (by omega)]; exact (hT.2 p (by omega) (by omega)).1) ?_
  refine J_bipush (v := nI 64) d_L_run_38 rfl ?_
  refine N_irem d_L_run_40 (by omega) (by omega) (by omega) ?_
  rw [hk0]
  refine J_istore (L1 := [some (.ref 16), some (.ref T), some (.int (nI fm)), some (.int (nI to)), some (.ref a), some (.int (nI e.2.2.2.2.1)), some (.int (jI e.2.2.2.2.2)), some (.int (nI en)), some (.int (nI p)), some (.int (nI 44)), z10, z11]) d_L_run_41 (by decide) rfl ?_
  refine J_aload_n (i := 1) d_L_run_43 rfl rfl ?_
  refine M_getR (b := (T + 1)) d_L_run_44 f_L_64 hT.1 rfl (txt_f hT.1).1.1 ?_
  refine J_iload d_L_run_47 rfl ?_
  refine N_iald (x := (nI (cw p))) d_L_run_49 (txt_f hT.1).2.1.1 (by omega) (ltL hX1 (a := T + 1) (n := 300) (by omega) (txt_f hT.1).2.2.1.1 (by omega)) (show ((skX X (y :: (x :: t)) l).2.1 (T + 1)).getD p 0 = nI (cw p) from by rw [show (skX X (y :: (x :: t)) l).2.1 (T + 1) = X.2.1 (T + 1) from if_neg (by omega)]; exact (hT.2 p (by omega) (by omega)).1) ?_
  refine J_bipush (v := nI 64) d_L_run_50 rfl ?_
  refine N_idiv d_L_run_52 (by omega) (by omega) (by omega) ?_
  refine J_istore (L1 := [some (.ref 16), some (.ref T), some (.int (nI fm)), some (.int (nI to)), some (.ref a), some (.int (nI e.2.2.2.2.1)), some (.int (jI e.2.2.2.2.2)), some (.int (nI en)), some (.int (nI p)), some (.int (nI 44)), some (.int (nI ((cw p) / 64))), z11]) d_L_run_53 (by decide) rfl ?_
  refine J_iload d_L_run_55 rfl ?_
  refine J_bipush (v := nI 45) d_L_run_57 rfl ?_
  refine N_icmp_ne (tgt := 71) d_L_run_59 (by decide) (by omega) (by omega) (fun c59 => ?_) (fun c59 => absurd c59 (by decide))
  refine J_iload d_L_run_71 rfl ?_
  refine J_bipush (v := nI 31) d_L_run_73 rfl ?_
  refine N_icmp_ne (tgt := 96) d_L_run_75 (by decide) (by omega) (by omega) (fun c75 => ?_) (fun c75 => absurd c75 (by decide))
  refine J_iload d_L_run_96 rfl ?_
  refine J_bipush (v := nI 20) d_L_run_98 rfl ?_
  refine N_icmp_eq (tgt := 110) d_L_run_100 (by decide) (by omega) (by omega) (fun c100 => absurd c100 (by decide)) (fun c100 => ?_)
  refine J_iload d_L_run_103 rfl ?_
  refine J_bipush (v := nI 21) d_L_run_105 rfl ?_
  refine N_icmp_ne (tgt := 155) d_L_run_107 (by decide) (by omega) (by omega) (fun c107 => ?_) (fun c107 => absurd c107 (by decide))
  refine J_iload d_L_run_155 rfl ?_
  refine J_bipush (v := nI 17) d_L_run_157 rfl ?_
  refine N_icmp_eq (tgt := 183) d_L_run_159 (by decide) (by omega) (by omega) (fun c159 => absurd c159 (by decide)) (fun c159 => ?_)
  refine J_iload d_L_run_162 rfl ?_
  refine J_bipush (v := nI 18) d_L_run_164 rfl ?_
  refine N_icmp_eq (tgt := 183) d_L_run_166 (by decide) (by omega) (by omega) (fun c166 => absurd c166 (by decide)) (fun c166 => ?_)
  refine J_iload d_L_run_169 rfl ?_
  refine J_bipush (v := nI 48) d_L_run_171 rfl ?_
  refine N_icmp_eq (tgt := 183) d_L_run_173 (by decide) (by omega) (by omega) (fun c173 => absurd c173 (by decide)) (fun c173 => ?_)
  refine J_iload d_L_run_176 rfl ?_
  refine J_bipush (v := nI 25) d_L_run_178 rfl ?_
  refine N_icmp_ne (tgt := 203) d_L_run_180 (by decide) (by omega) (by omega) (fun c180 => ?_) (fun c180 => absurd c180 (by decide))
  refine J_iload d_L_run_203 rfl ?_
  refine J_bipush (v := nI 6) d_L_run_205 rfl ?_
  refine N_icmp_eq (tgt := 224) d_L_run_207 (by decide) (by omega) (by omega) (fun c207 => absurd c207 (by decide)) (fun c207 => ?_)
  refine J_iload d_L_run_210 rfl ?_
  refine J_bipush (v := nI 26) d_L_run_212 rfl ?_
  refine N_icmp_lt (tgt := 242) d_L_run_214 (by decide) (by omega) (by omega) (fun c214 => absurd c214 (by decide)) (fun c214 => ?_)
  refine J_iload d_L_run_217 rfl ?_
  refine J_bipush (v := nI 30) d_L_run_219 rfl ?_
  refine N_icmp_gt (tgt := 242) d_L_run_221 (by decide) (by omega) (by omega) (fun c221 => ?_) (fun c221 => absurd c221 (by decide))
  refine J_aload_n (i := 0) d_L_run_242 rfl rfl ?_
  refine CV_I (av := []) d_L_run_243 s_L_76 (M_rcv rfl (by decide) rfl) (S_L_pop1 (X := X) (s := (x :: t)) (l := l) (v := y) hX hl hk (by first | omega | (simp only [List.length_cons] at *; omega))) (by omega) rfl rfl (Nat.le_of_ble_eq_true rfl) ?_
  refine J_istore (L1 := [some (.ref 16), some (.ref T), some (.int (nI fm)), some (.int (nI to)), some (.ref a), some (.int (nI e.2.2.2.2.1)), some (.int (jI e.2.2.2.2.2)), some (.int (nI en)), some (.int (nI p)), some (.int (nI 44)), some (.int (nI ((cw p) / 64))), some (.int (jI y))]) d_L_run_246 (by decide) rfl ?_
  refine J_aload_n (i := 0) d_L_run_248 rfl rfl ?_
  refine J_iload d_L_run_249 rfl ?_
  refine J_aload_n (i := 0) d_L_run_251 rfl rfl ?_
  refine CV_I (av := []) d_L_run_252 s_L_76 (M_rcv rfl (by decide) rfl) (S_L_pop1 (X := X) (s := t) (l := l) (v := x) hX hl hk.2 (by first | omega | (simp only [List.length_cons] at *; omega))) (by omega) rfl rfl (Nat.le_of_ble_eq_true rfl) ?_
  refine J_iload d_L_run_255 rfl ?_
  refine CS_I (av := [.int (nI 44), .int (jI x), .int (jI y)]) d_L_run_257 s_L_88 (S_L_ofTwo_44 hx hy) (by omega) rfl rfl (Nat.le_of_ble_eq_true rfl) ?_
  rw [jI_bt]
  refine CV_V (av := [.int (jI (bt (cp2 13 x y)))]) d_L_run_260 s_L_67 (M_rcv rfl (by decide) rfl) (S_L_push (X := X) (s := t) (l := l) hX hl (by first | omega | (simp only [List.length_cons] at *; omega))) (by omega) rfl rfl (Nat.le_of_ble_eq_true rfl) ?_
  refine N_iinc (a := p) (c := 1) (L1 := [some (.ref 16), some (.ref T), some (.int (nI fm)), some (.int (nI to)), some (.ref a), some (.int (nI e.2.2.2.2.1)), some (.int (jI e.2.2.2.2.2)), some (.int (nI en)), some (.int (nI (p + 1))), some (.int (nI 44)), some (.int (nI ((cw p) / 64))), some (.int (jI y))]) d_L_run_263 rfl rfl (by decide) rfl ?_
  refine J_goto (tgt := 19) d_L_run_266 (by decide) ?_
  exact kx _ _ _ _ (by rw [List.length_set]; exact hl) (stk_push (by first | omega | (simp only [List.length_cons] at *; omega)) hk.2.2)

theorem run_34 {X : Mem} {a T : Nat} {e : Env} {cw : Nat → Nat} {Q : Option Value → Mem → Prop} {fm to en p w : Nat} {s : List Int} {l : List Int32} {z9 z10 z11 : Option Value} (hX : Ok X) (hE : CE X a e) (hO : okE e) (hT : TC X T cw) (hl : l.length = 300) (hp : p < en) (hen : en ≤ 300) {x y : Int} {t : List Int} (hx : sm x) (hy : sm y) (hk0 : cw p % 64 = 34) (hsl : (List.length (y :: (x :: t))) ≤ p) (hk : stkL (y :: (x :: t)) l) (kx : ∀ (l : List Int32) (z9 z10 z11 : Option Value), l.length = 300 → stkL ((bt (cp2 14 x y)) :: t) l → JM 3 m_L_run Q 19 [some (.ref 16), some (.ref T), some (.int (nI fm)), some (.int (nI to)), some (.ref a), some (.int (nI e.2.2.2.2.1)), some (.int (jI e.2.2.2.2.2)), some (.int (nI en)), some (.int (nI (p + 1))), z9, z10, z11] [] (skX X ((bt (cp2 14 x y)) :: t) l)) : JM 3 m_L_run Q 19 [some (.ref 16), some (.ref T), some (.int (nI fm)), some (.int (nI to)), some (.ref a), some (.int (nI e.2.2.2.2.1)), some (.int (jI e.2.2.2.2.2)), some (.int (nI en)), some (.int (nI p)), z9, z10, z11] [] (skX X (y :: (x :: t)) l) := by
  have hT5 := (txt_f hT.1).2.2.2.2
  have hm8 := hO.1
  have hmk := hO.2.1
  have hst := hO.2.2.1 e.2.2.2.2.1 (by omega)
  have hcw := (hT.2 p (by omega) (by omega)).2
  have hX1 : Ok (skX X (y :: (x :: t)) l) := okSk hX hl
  refine J_iload d_L_run_19 rfl ?_
  refine N_if_lt (tgt := 269) d_L_run_21 (by decide) (by omega) ?_
  refine J_iload d_L_run_24 rfl ?_
  refine J_iload d_L_run_26 rfl ?_
  refine N_icmp_ge (tgt := 269) d_L_run_28 (by decide) (by omega) (by omega) (fun c28 => absurd c28 (by omega)) (fun c28 => ?_)
  refine J_aload_n (i := 1) d_L_run_31 rfl rfl ?_
  refine M_getR (b := (T + 1)) d_L_run_32 f_L_64 hT.1 rfl (txt_f hT.1).1.1 ?_
  refine J_iload d_L_run_35 rfl ?_
  refine N_iald (x := (nI (cw p))) d_L_run_37 (txt_f hT.1).2.1.1 (by omega) (ltL hX1 (a := T + 1) (n := 300) (by omega) (txt_f hT.1).2.2.1.1 (by omega)) (show ((skX X (y :: (x :: t)) l).2.1 (T + 1)).getD p 0 = nI (cw p) from by rw [show (skX X (y :: (x :: t)) l).2.1 (T + 1) = X.2.1 (T + 1) from if_neg (by omega)]; exact (hT.2 p (by omega) (by omega)).1) ?_
  refine J_bipush (v := nI 64) d_L_run_38 rfl ?_
  refine N_irem d_L_run_40 (by omega) (by omega) (by omega) ?_
  rw [hk0]
  refine J_istore (L1 := [some (.ref 16), some (.ref T), some (.int (nI fm)), some (.int (nI to)), some (.ref a), some (.int (nI e.2.2.2.2.1)), some (.int (jI e.2.2.2.2.2)), some (.int (nI en)), some (.int (nI p)), some (.int (nI 34)), z10, z11]) d_L_run_41 (by decide) rfl ?_
  refine J_aload_n (i := 1) d_L_run_43 rfl rfl ?_
  refine M_getR (b := (T + 1)) d_L_run_44 f_L_64 hT.1 rfl (txt_f hT.1).1.1 ?_
  refine J_iload d_L_run_47 rfl ?_
  refine N_iald (x := (nI (cw p))) d_L_run_49 (txt_f hT.1).2.1.1 (by omega) (ltL hX1 (a := T + 1) (n := 300) (by omega) (txt_f hT.1).2.2.1.1 (by omega)) (show ((skX X (y :: (x :: t)) l).2.1 (T + 1)).getD p 0 = nI (cw p) from by rw [show (skX X (y :: (x :: t)) l).2.1 (T + 1) = X.2.1 (T + 1) from if_neg (by omega)]; exact (hT.2 p (by omega) (by omega)).1) ?_
  refine J_bipush (v := nI 64) d_L_run_50 rfl ?_
  refine N_idiv d_L_run_52 (by omega) (by omega) (by omega) ?_
  refine J_istore (L1 := [some (.ref 16), some (.ref T), some (.int (nI fm)), some (.int (nI to)), some (.ref a), some (.int (nI e.2.2.2.2.1)), some (.int (jI e.2.2.2.2.2)), some (.int (nI en)), some (.int (nI p)), some (.int (nI 34)), some (.int (nI ((cw p) / 64))), z11]) d_L_run_53 (by decide) rfl ?_
  refine J_iload d_L_run_55 rfl ?_
  refine J_bipush (v := nI 45) d_L_run_57 rfl ?_
  refine N_icmp_ne (tgt := 71) d_L_run_59 (by decide) (by omega) (by omega) (fun c59 => ?_) (fun c59 => absurd c59 (by decide))
  refine J_iload d_L_run_71 rfl ?_
  refine J_bipush (v := nI 31) d_L_run_73 rfl ?_
  refine N_icmp_ne (tgt := 96) d_L_run_75 (by decide) (by omega) (by omega) (fun c75 => ?_) (fun c75 => absurd c75 (by decide))
  refine J_iload d_L_run_96 rfl ?_
  refine J_bipush (v := nI 20) d_L_run_98 rfl ?_
  refine N_icmp_eq (tgt := 110) d_L_run_100 (by decide) (by omega) (by omega) (fun c100 => absurd c100 (by decide)) (fun c100 => ?_)
  refine J_iload d_L_run_103 rfl ?_
  refine J_bipush (v := nI 21) d_L_run_105 rfl ?_
  refine N_icmp_ne (tgt := 155) d_L_run_107 (by decide) (by omega) (by omega) (fun c107 => ?_) (fun c107 => absurd c107 (by decide))
  refine J_iload d_L_run_155 rfl ?_
  refine J_bipush (v := nI 17) d_L_run_157 rfl ?_
  refine N_icmp_eq (tgt := 183) d_L_run_159 (by decide) (by omega) (by omega) (fun c159 => absurd c159 (by decide)) (fun c159 => ?_)
  refine J_iload d_L_run_162 rfl ?_
  refine J_bipush (v := nI 18) d_L_run_164 rfl ?_
  refine N_icmp_eq (tgt := 183) d_L_run_166 (by decide) (by omega) (by omega) (fun c166 => absurd c166 (by decide)) (fun c166 => ?_)
  refine J_iload d_L_run_169 rfl ?_
  refine J_bipush (v := nI 48) d_L_run_171 rfl ?_
  refine N_icmp_eq (tgt := 183) d_L_run_173 (by decide) (by omega) (by omega) (fun c173 => absurd c173 (by decide)) (fun c173 => ?_)
  refine J_iload d_L_run_176 rfl ?_
  refine J_bipush (v := nI 25) d_L_run_178 rfl ?_
  refine N_icmp_ne (tgt := 203) d_L_run_180 (by decide) (by omega) (by omega) (fun c180 => ?_) (fun c180 => absurd c180 (by decide))
  refine J_iload d_L_run_203 rfl ?_
  refine J_bipush (v := nI 6) d_L_run_205 rfl ?_
  refine N_icmp_eq (tgt := 224) d_L_run_207 (by decide) (by omega) (by omega) (fun c207 => absurd c207 (by decide)) (fun c207 => ?_)
  refine J_iload d_L_run_210 rfl ?_
  refine J_bipush (v := nI 26) d_L_run_212 rfl ?_
  refine N_icmp_lt (tgt := 242) d_L_run_214 (by decide) (by omega) (by omega) (fun c214 => absurd c214 (by decide)) (fun c214 => ?_)
  refine J_iload d_L_run_217 rfl ?_
  refine J_bipush (v := nI 30) d_L_run_219 rfl ?_
  refine N_icmp_gt (tgt := 242) d_L_run_221 (by decide) (by omega) (by omega) (fun c221 => ?_) (fun c221 => absurd c221 (by decide))
  refine J_aload_n (i := 0) d_L_run_242 rfl rfl ?_
  refine CV_I (av := []) d_L_run_243 s_L_76 (M_rcv rfl (by decide) rfl) (S_L_pop1 (X := X) (s := (x :: t)) (l := l) (v := y) hX hl hk (by first | omega | (simp only [List.length_cons] at *; omega))) (by omega) rfl rfl (Nat.le_of_ble_eq_true rfl) ?_
  refine J_istore (L1 := [some (.ref 16), some (.ref T), some (.int (nI fm)), some (.int (nI to)), some (.ref a), some (.int (nI e.2.2.2.2.1)), some (.int (jI e.2.2.2.2.2)), some (.int (nI en)), some (.int (nI p)), some (.int (nI 34)), some (.int (nI ((cw p) / 64))), some (.int (jI y))]) d_L_run_246 (by decide) rfl ?_
  refine J_aload_n (i := 0) d_L_run_248 rfl rfl ?_
  refine J_iload d_L_run_249 rfl ?_
  refine J_aload_n (i := 0) d_L_run_251 rfl rfl ?_
  refine CV_I (av := []) d_L_run_252 s_L_76 (M_rcv rfl (by decide) rfl) (S_L_pop1 (X := X) (s := t) (l := l) (v := x) hX hl hk.2 (by first | omega | (simp only [List.length_cons] at *; omega))) (by omega) rfl rfl (Nat.le_of_ble_eq_true rfl) ?_
  refine J_iload d_L_run_255 rfl ?_
  refine CS_I (av := [.int (nI 34), .int (jI x), .int (jI y)]) d_L_run_257 s_L_88 (S_L_ofTwo_34 hx hy) (by omega) rfl rfl (Nat.le_of_ble_eq_true rfl) ?_
  rw [jI_bt]
  refine CV_V (av := [.int (jI (bt (cp2 14 x y)))]) d_L_run_260 s_L_67 (M_rcv rfl (by decide) rfl) (S_L_push (X := X) (s := t) (l := l) hX hl (by first | omega | (simp only [List.length_cons] at *; omega))) (by omega) rfl rfl (Nat.le_of_ble_eq_true rfl) ?_
  refine N_iinc (a := p) (c := 1) (L1 := [some (.ref 16), some (.ref T), some (.int (nI fm)), some (.int (nI to)), some (.ref a), some (.int (nI e.2.2.2.2.1)), some (.int (jI e.2.2.2.2.2)), some (.int (nI en)), some (.int (nI (p + 1))), some (.int (nI 34)), some (.int (nI ((cw p) / 64))), some (.int (jI y))]) d_L_run_263 rfl rfl (by decide) rfl ?_
  refine J_goto (tgt := 19) d_L_run_266 (by decide) ?_
  exact kx _ _ _ _ (by rw [List.length_set]; exact hl) (stk_push (by first | omega | (simp only [List.length_cons] at *; omega)) hk.2.2)

theorem run_35 {X : Mem} {a T : Nat} {e : Env} {cw : Nat → Nat} {Q : Option Value → Mem → Prop} {fm to en p w : Nat} {s : List Int} {l : List Int32} {z9 z10 z11 : Option Value} (hX : Ok X) (hE : CE X a e) (hO : okE e) (hT : TC X T cw) (hl : l.length = 300) (hp : p < en) (hen : en ≤ 300) {x y : Int} {t : List Int} (hx : sm x) (hy : sm y) (hk0 : cw p % 64 = 35) (hsl : (List.length (y :: (x :: t))) ≤ p) (hk : stkL (y :: (x :: t)) l) (kx : ∀ (l : List Int32) (z9 z10 z11 : Option Value), l.length = 300 → stkL ((bt (cp2 15 x y)) :: t) l → JM 3 m_L_run Q 19 [some (.ref 16), some (.ref T), some (.int (nI fm)), some (.int (nI to)), some (.ref a), some (.int (nI e.2.2.2.2.1)), some (.int (jI e.2.2.2.2.2)), some (.int (nI en)), some (.int (nI (p + 1))), z9, z10, z11] [] (skX X ((bt (cp2 15 x y)) :: t) l)) : JM 3 m_L_run Q 19 [some (.ref 16), some (.ref T), some (.int (nI fm)), some (.int (nI to)), some (.ref a), some (.int (nI e.2.2.2.2.1)), some (.int (jI e.2.2.2.2.2)), some (.int (nI en)), some (.int (nI p)), z9, z10, z11] [] (skX X (y :: (x :: t)) l) := by
  have hT5 := (txt_f hT.1).2.2.2.2
  have hm8 := hO.1
  have hmk := hO.2.1
  have hst := hO.2.2.1 e.2.2.2.2.1 (by omega)
  have hcw := (hT.2 p (by omega) (by omega)).2
  have hX1 : Ok (skX X (y :: (x :: t)) l) := okSk hX hl
  refine J_iload d_L_run_19 rfl ?_
  refine N_if_lt (tgt := 269) d_L_run_21 (by decide) (by omega) ?_
  refine J_iload d_L_run_24 rfl ?_
  refine J_iload d_L_run_26 rfl ?_
  refine N_icmp_ge (tgt := 269) d_L_run_28 (by decide) (by omega) (by omega) (fun c28 => absurd c28 (by omega)) (fun c28 => ?_)
  refine J_aload_n (i := 1) d_L_run_31 rfl rfl ?_
  refine M_getR (b := (T + 1)) d_L_run_32 f_L_64 hT.1 rfl (txt_f hT.1).1.1 ?_
  refine J_iload d_L_run_35 rfl ?_
  refine N_iald (x := (nI (cw p))) d_L_run_37 (txt_f hT.1).2.1.1 (by omega) (ltL hX1 (a := T + 1) (n := 300) (by omega) (txt_f hT.1).2.2.1.1 (by omega)) (show ((skX X (y :: (x :: t)) l).2.1 (T + 1)).getD p 0 = nI (cw p) from by rw [show (skX X (y :: (x :: t)) l).2.1 (T + 1) = X.2.1 (T + 1) from if_neg (by omega)]; exact (hT.2 p (by omega) (by omega)).1) ?_
  refine J_bipush (v := nI 64) d_L_run_38 rfl ?_
  refine N_irem d_L_run_40 (by omega) (by omega) (by omega) ?_
  rw [hk0]
  refine J_istore (L1 := [some (.ref 16), some (.ref T), some (.int (nI fm)), some (.int (nI to)), some (.ref a), some (.int (nI e.2.2.2.2.1)), some (.int (jI e.2.2.2.2.2)), some (.int (nI en)), some (.int (nI p)), some (.int (nI 35)), z10, z11]) d_L_run_41 (by decide) rfl ?_
  refine J_aload_n (i := 1) d_L_run_43 rfl rfl ?_
  refine M_getR (b := (T + 1)) d_L_run_44 f_L_64 hT.1 rfl (txt_f hT.1).1.1 ?_
  refine J_iload d_L_run_47 rfl ?_
  refine N_iald (x := (nI (cw p))) d_L_run_49 (txt_f hT.1).2.1.1 (by omega) (ltL hX1 (a := T + 1) (n := 300) (by omega) (txt_f hT.1).2.2.1.1 (by omega)) (show ((skX X (y :: (x :: t)) l).2.1 (T + 1)).getD p 0 = nI (cw p) from by rw [show (skX X (y :: (x :: t)) l).2.1 (T + 1) = X.2.1 (T + 1) from if_neg (by omega)]; exact (hT.2 p (by omega) (by omega)).1) ?_
  refine J_bipush (v := nI 64) d_L_run_50 rfl ?_
  refine N_idiv d_L_run_52 (by omega) (by omega) (by omega) ?_
  refine J_istore (L1 := [some (.ref 16), some (.ref T), some (.int (nI fm)), some (.int (nI to)), some (.ref a), some (.int (nI e.2.2.2.2.1)), some (.int (jI e.2.2.2.2.2)), some (.int (nI en)), some (.int (nI p)), some (.int (nI 35)), some (.int (nI ((cw p) / 64))), z11]) d_L_run_53 (by decide) rfl ?_
  refine J_iload d_L_run_55 rfl ?_
  refine J_bipush (v := nI 45) d_L_run_57 rfl ?_
  refine N_icmp_ne (tgt := 71) d_L_run_59 (by decide) (by omega) (by omega) (fun c59 => ?_) (fun c59 => absurd c59 (by decide))
  refine J_iload d_L_run_71 rfl ?_
  refine J_bipush (v := nI 31) d_L_run_73 rfl ?_
  refine N_icmp_ne (tgt := 96) d_L_run_75 (by decide) (by omega) (by omega) (fun c75 => ?_) (fun c75 => absurd c75 (by decide))
  refine J_iload d_L_run_96 rfl ?_
  refine J_bipush (v := nI 20) d_L_run_98 rfl ?_
  refine N_icmp_eq (tgt := 110) d_L_run_100 (by decide) (by omega) (by omega) (fun c100 => absurd c100 (by decide)) (fun c100 => ?_)
  refine J_iload d_L_run_103 rfl ?_
  refine J_bipush (v := nI 21) d_L_run_105 rfl ?_
  refine N_icmp_ne (tgt := 155) d_L_run_107 (by decide) (by omega) (by omega) (fun c107 => ?_) (fun c107 => absurd c107 (by decide))
  refine J_iload d_L_run_155 rfl ?_
  refine J_bipush (v := nI 17) d_L_run_157 rfl ?_
  refine N_icmp_eq (tgt := 183) d_L_run_159 (by decide) (by omega) (by omega) (fun c159 => absurd c159 (by decide)) (fun c159 => ?_)
  refine J_iload d_L_run_162 rfl ?_
  refine J_bipush (v := nI 18) d_L_run_164 rfl ?_
  refine N_icmp_eq (tgt := 183) d_L_run_166 (by decide) (by omega) (by omega) (fun c166 => absurd c166 (by decide)) (fun c166 => ?_)
  refine J_iload d_L_run_169 rfl ?_
  refine J_bipush (v := nI 48) d_L_run_171 rfl ?_
  refine N_icmp_eq (tgt := 183) d_L_run_173 (by decide) (by omega) (by omega) (fun c173 => absurd c173 (by decide)) (fun c173 => ?_)
  refine J_iload d_L_run_176 rfl ?_
  refine J_bipush (v := nI 25) d_L_run_178 rfl ?_
  refine N_icmp_ne (tgt := 203) d_L_run_180 (by decide) (by omega) (by omega) (fun c180 => ?_) (fun c180 => absurd c180 (by decide))
  refine J_iload d_L_run_203 rfl ?_
  refine J_bipush (v := nI 6) d_L_run_205 rfl ?_
  refine N_icmp_eq (tgt := 224) d_L_run_207 (by decide) (by omega) (by omega) (fun c207 => absurd c207 (by decide)) (fun c207 => ?_)
  refine J_iload d_L_run_210 rfl ?_
  refine J_bipush (v := nI 26) d_L_run_212 rfl ?_
  refine N_icmp_lt (tgt := 242) d_L_run_214 (by decide) (by omega) (by omega) (fun c214 => absurd c214 (by decide)) (fun c214 => ?_)
  refine J_iload d_L_run_217 rfl ?_
  refine J_bipush (v := nI 30) d_L_run_219 rfl ?_
  refine N_icmp_gt (tgt := 242) d_L_run_221 (by decide) (by omega) (by omega) (fun c221 => ?_) (fun c221 => absurd c221 (by decide))
  refine J_aload_n (i := 0) d_L_run_242 rfl rfl ?_
  refine CV_I (av := []) d_L_run_243 s_L_76 (M_rcv rfl (by decide) rfl) (S_L_pop1 (X := X) (s := (x :: t)) (l := l) (v := y) hX hl hk (by first | omega | (simp only [List.length_cons] at *; omega))) (by omega) rfl rfl (Nat.le_of_ble_eq_true rfl) ?_
  refine J_istore (L1 := [some (.ref 16), some (.ref T), some (.int (nI fm)), some (.int (nI to)), some (.ref a), some (.int (nI e.2.2.2.2.1)), some (.int (jI e.2.2.2.2.2)), some (.int (nI en)), some (.int (nI p)), some (.int (nI 35)), some (.int (nI ((cw p) / 64))), some (.int (jI y))]) d_L_run_246 (by decide) rfl ?_
  refine J_aload_n (i := 0) d_L_run_248 rfl rfl ?_
  refine J_iload d_L_run_249 rfl ?_
  refine J_aload_n (i := 0) d_L_run_251 rfl rfl ?_
  refine CV_I (av := []) d_L_run_252 s_L_76 (M_rcv rfl (by decide) rfl) (S_L_pop1 (X := X) (s := t) (l := l) (v := x) hX hl hk.2 (by first | omega | (simp only [List.length_cons] at *; omega))) (by omega) rfl rfl (Nat.le_of_ble_eq_true rfl) ?_
  refine J_iload d_L_run_255 rfl ?_
  refine CS_I (av := [.int (nI 35), .int (jI x), .int (jI y)]) d_L_run_257 s_L_88 (S_L_ofTwo_35 hx hy) (by omega) rfl rfl (Nat.le_of_ble_eq_true rfl) ?_
  rw [jI_bt]
  refine CV_V (av := [.int (jI (bt (cp2 15 x y)))]) d_L_run_260 s_L_67 (M_rcv rfl (by decide) rfl) (S_L_push (X := X) (s := t) (l := l) hX hl (by first | omega | (simp only [List.length_cons] at *; omega))) (by omega) rfl rfl (Nat.le_of_ble_eq_true rfl) ?_
  refine N_iinc (a := p) (c := 1) (L1 := [some (.ref 16), some (.ref T), some (.int (nI fm)), some (.int (nI to)), some (.ref a), some (.int (nI e.2.2.2.2.1)), some (.int (jI e.2.2.2.2.2)), some (.int (nI en)), some (.int (nI (p + 1))), some (.int (nI 35)), some (.int (nI ((cw p) / 64))), some (.int (jI y))]) d_L_run_263 rfl rfl (by decide) rfl ?_
  refine J_goto (tgt := 19) d_L_run_266 (by decide) ?_
  exact kx _ _ _ _ (by rw [List.length_set]; exact hl) (stk_push (by first | omega | (simp only [List.length_cons] at *; omega)) hk.2.2)

theorem run_23 {X : Mem} {a T : Nat} {e : Env} {cw : Nat → Nat} {Q : Option Value → Mem → Prop} {fm to en p w : Nat} {s : List Int} {l : List Int32} {z9 z10 z11 : Option Value} (hX : Ok X) (hE : CE X a e) (hO : okE e) (hT : TC X T cw) (hl : l.length = 300) (hp : p < en) (hen : en ≤ 300) {x y : Int} {t : List Int} (hx : x = 0 ∨ x = 1) (hy : y = 0 ∨ y = 1) (hk0 : cw p % 64 = 23) (hsl : (List.length (y :: (x :: t))) ≤ p) (hk : stkL (y :: (x :: t)) l) (kx : ∀ (l : List Int32) (z9 z10 z11 : Option Value), l.length = 300 → stkL ((bt (decide (x = 1) || decide (y = 1))) :: t) l → JM 3 m_L_run Q 19 [some (.ref 16), some (.ref T), some (.int (nI fm)), some (.int (nI to)), some (.ref a), some (.int (nI e.2.2.2.2.1)), some (.int (jI e.2.2.2.2.2)), some (.int (nI en)), some (.int (nI (p + 1))), z9, z10, z11] [] (skX X ((bt (decide (x = 1) || decide (y = 1))) :: t) l)) : JM 3 m_L_run Q 19 [some (.ref 16), some (.ref T), some (.int (nI fm)), some (.int (nI to)), some (.ref a), some (.int (nI e.2.2.2.2.1)), some (.int (jI e.2.2.2.2.2)), some (.int (nI en)), some (.int (nI p)), z9, z10, z11] [] (skX X (y :: (x :: t)) l) := by
  have hT5 := (txt_f hT.1).2.2.2.2
  have hm8 := hO.1
  have hmk := hO.2.1
  have hst := hO.2.2.1 e.2.2.2.2.1 (by omega)
  have hcw := (hT.2 p (by omega) (by omega)).2
  have hX1 : Ok (skX X (y :: (x :: t)) l) := okSk hX hl
  refine J_iload d_L_run_19 rfl ?_
  refine N_if_lt (tgt := 269) d_L_run_21 (by decide) (by omega) ?_
  refine J_iload d_L_run_24 rfl ?_
  refine J_iload d_L_run_26 rfl ?_
  refine N_icmp_ge (tgt := 269) d_L_run_28 (by decide) (by omega) (by omega) (fun c28 => absurd c28 (by omega)) (fun c28 => ?_)
  refine J_aload_n (i := 1) d_L_run_31 rfl rfl ?_
  refine M_getR (b := (T + 1)) d_L_run_32 f_L_64 hT.1 rfl (txt_f hT.1).1.1 ?_
  refine J_iload d_L_run_35 rfl ?_
  refine N_iald (x := (nI (cw p))) d_L_run_37 (txt_f hT.1).2.1.1 (by omega) (ltL hX1 (a := T + 1) (n := 300) (by omega) (txt_f hT.1).2.2.1.1 (by omega)) (show ((skX X (y :: (x :: t)) l).2.1 (T + 1)).getD p 0 = nI (cw p) from by rw [show (skX X (y :: (x :: t)) l).2.1 (T + 1) = X.2.1 (T + 1) from if_neg (by omega)]; exact (hT.2 p (by omega) (by omega)).1) ?_
  refine J_bipush (v := nI 64) d_L_run_38 rfl ?_
  refine N_irem d_L_run_40 (by omega) (by omega) (by omega) ?_
  rw [hk0]
  refine J_istore (L1 := [some (.ref 16), some (.ref T), some (.int (nI fm)), some (.int (nI to)), some (.ref a), some (.int (nI e.2.2.2.2.1)), some (.int (jI e.2.2.2.2.2)), some (.int (nI en)), some (.int (nI p)), some (.int (nI 23)), z10, z11]) d_L_run_41 (by decide) rfl ?_
  refine J_aload_n (i := 1) d_L_run_43 rfl rfl ?_
  refine M_getR (b := (T + 1)) d_L_run_44 f_L_64 hT.1 rfl (txt_f hT.1).1.1 ?_
  refine J_iload d_L_run_47 rfl ?_
  refine N_iald (x := (nI (cw p))) d_L_run_49 (txt_f hT.1).2.1.1 (by omega) (ltL hX1 (a := T + 1) (n := 300) (by omega) (txt_f hT.1).2.2.1.1 (by omega)) (show ((skX X (y :: (x :: t)) l).2.1 (T + 1)).getD p 0 = nI (cw p) from by rw [show (skX X (y :: (x :: t)) l).2.1 (T + 1) = X.2.1 (T + 1) from if_neg (by omega)]; exact (hT.2 p (by omega) (by omega)).1) ?_
  refine J_bipush (v := nI 64) d_L_run_50 rfl ?_
  refine N_idiv d_L_run_52 (by omega) (by omega) (by omega) ?_
  refine J_istore (L1 := [some (.ref 16), some (.ref T), some (.int (nI fm)), some (.int (nI to)), some (.ref a), some (.int (nI e.2.2.2.2.1)), some (.int (jI e.2.2.2.2.2)), some (.int (nI en)), some (.int (nI p)), some (.int (nI 23)), some (.int (nI ((cw p) / 64))), z11]) d_L_run_53 (by decide) rfl ?_
  refine J_iload d_L_run_55 rfl ?_
  refine J_bipush (v := nI 45) d_L_run_57 rfl ?_
  refine N_icmp_ne (tgt := 71) d_L_run_59 (by decide) (by omega) (by omega) (fun c59 => ?_) (fun c59 => absurd c59 (by decide))
  refine J_iload d_L_run_71 rfl ?_
  refine J_bipush (v := nI 31) d_L_run_73 rfl ?_
  refine N_icmp_ne (tgt := 96) d_L_run_75 (by decide) (by omega) (by omega) (fun c75 => ?_) (fun c75 => absurd c75 (by decide))
  refine J_iload d_L_run_96 rfl ?_
  refine J_bipush (v := nI 20) d_L_run_98 rfl ?_
  refine N_icmp_eq (tgt := 110) d_L_run_100 (by decide) (by omega) (by omega) (fun c100 => absurd c100 (by decide)) (fun c100 => ?_)
  refine J_iload d_L_run_103 rfl ?_
  refine J_bipush (v := nI 21) d_L_run_105 rfl ?_
  refine N_icmp_ne (tgt := 155) d_L_run_107 (by decide) (by omega) (by omega) (fun c107 => ?_) (fun c107 => absurd c107 (by decide))
  refine J_iload d_L_run_155 rfl ?_
  refine J_bipush (v := nI 17) d_L_run_157 rfl ?_
  refine N_icmp_eq (tgt := 183) d_L_run_159 (by decide) (by omega) (by omega) (fun c159 => absurd c159 (by decide)) (fun c159 => ?_)
  refine J_iload d_L_run_162 rfl ?_
  refine J_bipush (v := nI 18) d_L_run_164 rfl ?_
  refine N_icmp_eq (tgt := 183) d_L_run_166 (by decide) (by omega) (by omega) (fun c166 => absurd c166 (by decide)) (fun c166 => ?_)
  refine J_iload d_L_run_169 rfl ?_
  refine J_bipush (v := nI 48) d_L_run_171 rfl ?_
  refine N_icmp_eq (tgt := 183) d_L_run_173 (by decide) (by omega) (by omega) (fun c173 => absurd c173 (by decide)) (fun c173 => ?_)
  refine J_iload d_L_run_176 rfl ?_
  refine J_bipush (v := nI 25) d_L_run_178 rfl ?_
  refine N_icmp_ne (tgt := 203) d_L_run_180 (by decide) (by omega) (by omega) (fun c180 => ?_) (fun c180 => absurd c180 (by decide))
  refine J_iload d_L_run_203 rfl ?_
  refine J_bipush (v := nI 6) d_L_run_205 rfl ?_
  refine N_icmp_eq (tgt := 224) d_L_run_207 (by decide) (by omega) (by omega) (fun c207 => absurd c207 (by decide)) (fun c207 => ?_)
  refine J_iload d_L_run_210 rfl ?_
  refine J_bipush (v := nI 26) d_L_run_212 rfl ?_
  refine N_icmp_lt (tgt := 242) d_L_run_214 (by decide) (by omega) (by omega) (fun c214 => ?_) (fun c214 => absurd c214 (by decide))
  refine J_aload_n (i := 0) d_L_run_242 rfl rfl ?_
  refine CV_I (av := []) d_L_run_243 s_L_76 (M_rcv rfl (by decide) rfl) (S_L_pop1 (X := X) (s := (x :: t)) (l := l) (v := y) hX hl hk (by first | omega | (simp only [List.length_cons] at *; omega))) (by omega) rfl rfl (Nat.le_of_ble_eq_true rfl) ?_
  refine J_istore (L1 := [some (.ref 16), some (.ref T), some (.int (nI fm)), some (.int (nI to)), some (.ref a), some (.int (nI e.2.2.2.2.1)), some (.int (jI e.2.2.2.2.2)), some (.int (nI en)), some (.int (nI p)), some (.int (nI 23)), some (.int (nI ((cw p) / 64))), some (.int (jI y))]) d_L_run_246 (by decide) rfl ?_
  refine J_aload_n (i := 0) d_L_run_248 rfl rfl ?_
  refine J_iload d_L_run_249 rfl ?_
  refine J_aload_n (i := 0) d_L_run_251 rfl rfl ?_
  refine CV_I (av := []) d_L_run_252 s_L_76 (M_rcv rfl (by decide) rfl) (S_L_pop1 (X := X) (s := t) (l := l) (v := x) hX hl hk.2 (by first | omega | (simp only [List.length_cons] at *; omega))) (by omega) rfl rfl (Nat.le_of_ble_eq_true rfl) ?_
  refine J_iload d_L_run_255 rfl ?_
  rw [bit_b hx, bit_b hy]
  refine CS_I (av := [.int (nI 23), .int (b2i (decide (x = 1))), .int (b2i (decide (y = 1)))]) d_L_run_257 s_L_88 S_L_ofTwo_23 (by omega) rfl rfl (Nat.le_of_ble_eq_true rfl) ?_
  rw [jI_bt (decide (x = 1) || decide (y = 1))]
  refine CV_V (av := [.int (jI (bt (decide (x = 1) || decide (y = 1))))]) d_L_run_260 s_L_67 (M_rcv rfl (by decide) rfl) (S_L_push (X := X) (s := t) (l := l) hX hl (by first | omega | (simp only [List.length_cons] at *; omega))) (by omega) rfl rfl (Nat.le_of_ble_eq_true rfl) ?_
  refine N_iinc (a := p) (c := 1) (L1 := [some (.ref 16), some (.ref T), some (.int (nI fm)), some (.int (nI to)), some (.ref a), some (.int (nI e.2.2.2.2.1)), some (.int (jI e.2.2.2.2.2)), some (.int (nI en)), some (.int (nI (p + 1))), some (.int (nI 23)), some (.int (nI ((cw p) / 64))), some (.int (b2i (decide (y = 1))))]) d_L_run_263 rfl rfl (by decide) rfl ?_
  refine J_goto (tgt := 19) d_L_run_266 (by decide) ?_
  exact kx _ _ _ _ (by rw [List.length_set]; exact hl) (stk_push (by first | omega | (simp only [List.length_cons] at *; omega)) hk.2.2)

theorem run_24 {X : Mem} {a T : Nat} {e : Env} {cw : Nat → Nat} {Q : Option Value → Mem → Prop} {fm to en p w : Nat} {s : List Int} {l : List Int32} {z9 z10 z11 : Option Value} (hX : Ok X) (hE : CE X a e) (hO : okE e) (hT : TC X T cw) (hl : l.length = 300) (hp : p < en) (hen : en ≤ 300) {x y : Int} {t : List Int} (hx : x = 0 ∨ x = 1) (hy : y = 0 ∨ y = 1) (hk0 : cw p % 64 = 24) (hsl : (List.length (y :: (x :: t))) ≤ p) (hk : stkL (y :: (x :: t)) l) (kx : ∀ (l : List Int32) (z9 z10 z11 : Option Value), l.length = 300 → stkL ((bt (decide (x = 1) && decide (y = 1))) :: t) l → JM 3 m_L_run Q 19 [some (.ref 16), some (.ref T), some (.int (nI fm)), some (.int (nI to)), some (.ref a), some (.int (nI e.2.2.2.2.1)), some (.int (jI e.2.2.2.2.2)), some (.int (nI en)), some (.int (nI (p + 1))), z9, z10, z11] [] (skX X ((bt (decide (x = 1) && decide (y = 1))) :: t) l)) : JM 3 m_L_run Q 19 [some (.ref 16), some (.ref T), some (.int (nI fm)), some (.int (nI to)), some (.ref a), some (.int (nI e.2.2.2.2.1)), some (.int (jI e.2.2.2.2.2)), some (.int (nI en)), some (.int (nI p)), z9, z10, z11] [] (skX X (y :: (x :: t)) l) := by
  have hT5 := (txt_f hT.1).2.2.2.2
  have hm8 := hO.1
  have hmk := hO.2.1
  have hst := hO.2.2.1 e.2.2.2.2.1 (by omega)
  have hcw := (hT.2 p (by omega) (by omega)).2
  have hX1 : Ok (skX X (y :: (x :: t)) l) := okSk hX hl
  refine J_iload d_L_run_19 rfl ?_
  refine N_if_lt (tgt := 269) d_L_run_21 (by decide) (by omega) ?_
  refine J_iload d_L_run_24 rfl ?_
  refine J_iload d_L_run_26 rfl ?_
  refine N_icmp_ge (tgt := 269) d_L_run_28 (by decide) (by omega) (by omega) (fun c28 => absurd c28 (by omega)) (fun c28 => ?_)
  refine J_aload_n (i := 1) d_L_run_31 rfl rfl ?_
  refine M_getR (b := (T + 1)) d_L_run_32 f_L_64 hT.1 rfl (txt_f hT.1).1.1 ?_
  refine J_iload d_L_run_35 rfl ?_
  refine N_iald (x := (nI (cw p))) d_L_run_37 (txt_f hT.1).2.1.1 (by omega) (ltL hX1 (a := T + 1) (n := 300) (by omega) (txt_f hT.1).2.2.1.1 (by omega)) (show ((skX X (y :: (x :: t)) l).2.1 (T + 1)).getD p 0 = nI (cw p) from by rw [show (skX X (y :: (x :: t)) l).2.1 (T + 1) = X.2.1 (T + 1) from if_neg (by omega)]; exact (hT.2 p (by omega) (by omega)).1) ?_
  refine J_bipush (v := nI 64) d_L_run_38 rfl ?_
  refine N_irem d_L_run_40 (by omega) (by omega) (by omega) ?_
  rw [hk0]
  refine J_istore (L1 := [some (.ref 16), some (.ref T), some (.int (nI fm)), some (.int (nI to)), some (.ref a), some (.int (nI e.2.2.2.2.1)), some (.int (jI e.2.2.2.2.2)), some (.int (nI en)), some (.int (nI p)), some (.int (nI 24)), z10, z11]) d_L_run_41 (by decide) rfl ?_
  refine J_aload_n (i := 1) d_L_run_43 rfl rfl ?_
  refine M_getR (b := (T + 1)) d_L_run_44 f_L_64 hT.1 rfl (txt_f hT.1).1.1 ?_
  refine J_iload d_L_run_47 rfl ?_
  refine N_iald (x := (nI (cw p))) d_L_run_49 (txt_f hT.1).2.1.1 (by omega) (ltL hX1 (a := T + 1) (n := 300) (by omega) (txt_f hT.1).2.2.1.1 (by omega)) (show ((skX X (y :: (x :: t)) l).2.1 (T + 1)).getD p 0 = nI (cw p) from by rw [show (skX X (y :: (x :: t)) l).2.1 (T + 1) = X.2.1 (T + 1) from if_neg (by omega)]; exact (hT.2 p (by omega) (by omega)).1) ?_
  refine J_bipush (v := nI 64) d_L_run_50 rfl ?_
  refine N_idiv d_L_run_52 (by omega) (by omega) (by omega) ?_
  refine J_istore (L1 := [some (.ref 16), some (.ref T), some (.int (nI fm)), some (.int (nI to)), some (.ref a), some (.int (nI e.2.2.2.2.1)), some (.int (jI e.2.2.2.2.2)), some (.int (nI en)), some (.int (nI p)), some (.int (nI 24)), some (.int (nI ((cw p) / 64))), z11]) d_L_run_53 (by decide) rfl ?_
  refine J_iload d_L_run_55 rfl ?_
  refine J_bipush (v := nI 45) d_L_run_57 rfl ?_
  refine N_icmp_ne (tgt := 71) d_L_run_59 (by decide) (by omega) (by omega) (fun c59 => ?_) (fun c59 => absurd c59 (by decide))
  refine J_iload d_L_run_71 rfl ?_
  refine J_bipush (v := nI 31) d_L_run_73 rfl ?_
  refine N_icmp_ne (tgt := 96) d_L_run_75 (by decide) (by omega) (by omega) (fun c75 => ?_) (fun c75 => absurd c75 (by decide))
  refine J_iload d_L_run_96 rfl ?_
  refine J_bipush (v := nI 20) d_L_run_98 rfl ?_
  refine N_icmp_eq (tgt := 110) d_L_run_100 (by decide) (by omega) (by omega) (fun c100 => absurd c100 (by decide)) (fun c100 => ?_)
  refine J_iload d_L_run_103 rfl ?_
  refine J_bipush (v := nI 21) d_L_run_105 rfl ?_
  refine N_icmp_ne (tgt := 155) d_L_run_107 (by decide) (by omega) (by omega) (fun c107 => ?_) (fun c107 => absurd c107 (by decide))
  refine J_iload d_L_run_155 rfl ?_
  refine J_bipush (v := nI 17) d_L_run_157 rfl ?_
  refine N_icmp_eq (tgt := 183) d_L_run_159 (by decide) (by omega) (by omega) (fun c159 => absurd c159 (by decide)) (fun c159 => ?_)
  refine J_iload d_L_run_162 rfl ?_
  refine J_bipush (v := nI 18) d_L_run_164 rfl ?_
  refine N_icmp_eq (tgt := 183) d_L_run_166 (by decide) (by omega) (by omega) (fun c166 => absurd c166 (by decide)) (fun c166 => ?_)
  refine J_iload d_L_run_169 rfl ?_
  refine J_bipush (v := nI 48) d_L_run_171 rfl ?_
  refine N_icmp_eq (tgt := 183) d_L_run_173 (by decide) (by omega) (by omega) (fun c173 => absurd c173 (by decide)) (fun c173 => ?_)
  refine J_iload d_L_run_176 rfl ?_
  refine J_bipush (v := nI 25) d_L_run_178 rfl ?_
  refine N_icmp_ne (tgt := 203) d_L_run_180 (by decide) (by omega) (by omega) (fun c180 => ?_) (fun c180 => absurd c180 (by decide))
  refine J_iload d_L_run_203 rfl ?_
  refine J_bipush (v := nI 6) d_L_run_205 rfl ?_
  refine N_icmp_eq (tgt := 224) d_L_run_207 (by decide) (by omega) (by omega) (fun c207 => absurd c207 (by decide)) (fun c207 => ?_)
  refine J_iload d_L_run_210 rfl ?_
  refine J_bipush (v := nI 26) d_L_run_212 rfl ?_
  refine N_icmp_lt (tgt := 242) d_L_run_214 (by decide) (by omega) (by omega) (fun c214 => ?_) (fun c214 => absurd c214 (by decide))
  refine J_aload_n (i := 0) d_L_run_242 rfl rfl ?_
  refine CV_I (av := []) d_L_run_243 s_L_76 (M_rcv rfl (by decide) rfl) (S_L_pop1 (X := X) (s := (x :: t)) (l := l) (v := y) hX hl hk (by first | omega | (simp only [List.length_cons] at *; omega))) (by omega) rfl rfl (Nat.le_of_ble_eq_true rfl) ?_
  refine J_istore (L1 := [some (.ref 16), some (.ref T), some (.int (nI fm)), some (.int (nI to)), some (.ref a), some (.int (nI e.2.2.2.2.1)), some (.int (jI e.2.2.2.2.2)), some (.int (nI en)), some (.int (nI p)), some (.int (nI 24)), some (.int (nI ((cw p) / 64))), some (.int (jI y))]) d_L_run_246 (by decide) rfl ?_
  refine J_aload_n (i := 0) d_L_run_248 rfl rfl ?_
  refine J_iload d_L_run_249 rfl ?_
  refine J_aload_n (i := 0) d_L_run_251 rfl rfl ?_
  refine CV_I (av := []) d_L_run_252 s_L_76 (M_rcv rfl (by decide) rfl) (S_L_pop1 (X := X) (s := t) (l := l) (v := x) hX hl hk.2 (by first | omega | (simp only [List.length_cons] at *; omega))) (by omega) rfl rfl (Nat.le_of_ble_eq_true rfl) ?_
  refine J_iload d_L_run_255 rfl ?_
  rw [bit_b hx, bit_b hy]
  refine CS_I (av := [.int (nI 24), .int (b2i (decide (x = 1))), .int (b2i (decide (y = 1)))]) d_L_run_257 s_L_88 S_L_ofTwo_24 (by omega) rfl rfl (Nat.le_of_ble_eq_true rfl) ?_
  rw [jI_bt (decide (x = 1) && decide (y = 1))]
  refine CV_V (av := [.int (jI (bt (decide (x = 1) && decide (y = 1))))]) d_L_run_260 s_L_67 (M_rcv rfl (by decide) rfl) (S_L_push (X := X) (s := t) (l := l) hX hl (by first | omega | (simp only [List.length_cons] at *; omega))) (by omega) rfl rfl (Nat.le_of_ble_eq_true rfl) ?_
  refine N_iinc (a := p) (c := 1) (L1 := [some (.ref 16), some (.ref T), some (.int (nI fm)), some (.int (nI to)), some (.ref a), some (.int (nI e.2.2.2.2.1)), some (.int (jI e.2.2.2.2.2)), some (.int (nI en)), some (.int (nI (p + 1))), some (.int (nI 24)), some (.int (nI ((cw p) / 64))), some (.int (b2i (decide (y = 1))))]) d_L_run_263 rfl rfl (by decide) rfl ?_
  refine J_goto (tgt := 19) d_L_run_266 (by decide) ?_
  exact kx _ _ _ _ (by rw [List.length_set]; exact hl) (stk_push (by first | omega | (simp only [List.length_cons] at *; omega)) hk.2.2)

