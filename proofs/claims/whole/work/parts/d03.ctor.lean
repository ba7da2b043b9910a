def modelC : List MCell := (([(8, .inl [.ref 245, .ref 246, .ref 247, .ref 248, .ref 249, .ref 250, .ref 251, .ref 252, .ref 253, .int 0, .int (-1), .int (-1), .int 0, .int 0, .int 0, .int 0, .long 0, .int 0, .int 0, .int 0, .ref 254, .ref 255, .int 0, .int 0, .int 0, .int 0, .int 0, .ref 256, .ref 257, .ref 258, .int (b2i true), .int 0, .ref 259, .ref 260, .ref 261, .ref 262, .int 0])] : List MCell) ++ ((((((((((((((((([(20, .inr (.inl (List.replicate 1217 0)))] ++ [(20, .inr (.inl (List.replicate 1217 0)))]) ++ [(20, .inr (.inl (List.replicate 20 0)))]) ++ [(20, .inr (.inl (List.replicate 20 0)))]) ++ [(20, .inr (.inl (List.replicate 160 0)))]) ++ [(20, .inr (.inl (List.replicate 81 0)))]) ++ [(20, .inr (.inl (List.replicate 2724 0)))]) ++ [(20, .inr (.inl (List.replicate 21 0)))]) ++ [(20, .inr (.inl (List.replicate 300 0)))]) ++ [(20, .inr (.inl (List.replicate 160 0)))]) ++ [(20, .inr (.inl (List.replicate 160 0)))]) ++ [(20, .inr (.inl (List.replicate 7 0)))]) ++ [(21, .inr (.inr (List.replicate 330 0)))]) ++ [(22, .inr (.inl (List.replicate 330 0)))]) ++ [(20, .inr (.inl (List.replicate 18 0)))]) ++ [(21, .inr (.inr (List.replicate 21 0)))]) ++ [(22, .inr (.inl (List.replicate 1024 0)))]) ++ [(20, .inr (.inl (List.replicate 20 0)))]))
/-- lengths alone -/
def OkL (X : Mem) : Prop := (∀ a, a ≠ 0 → (X.2.1 a).length = sz a) ∧ ∀ a, (X.2.2.1 a).length = szl a
theorem ltK {X : Mem} (h : OkL X) {a n j : Nat} (ha : a ≠ 0) (e : sz a = n) (hj : j < n) : j < (X.2.1 a).length := by rw [h.1 a ha, e]; exact hj
theorem okK {X : Mem} (h : OkL X) {a : Nat} {xs : List Int32} (hl : xs.length = (X.2.1 a).length) : OkL (pA X a xs) := by
  refine ⟨fun b hb => ?_, h.2⟩
  show (if b = a then xs else X.2.1 b).length = sz b
  by_cases e : b = a
  · rw [if_pos e, hl, e]
    exact h.1 a (e ▸ hb)
  · rw [if_neg e]
    exact h.1 b hb
theorem okKS {X : Mem} (h : OkL X) {a j : Nat} {x : Int32} : OkL (pA X a ((X.2.1 a).set j x)) := okK h (by rw [List.length_set])
/-- strokes laid: of each its ends, the stroke between two points -/
abbrev LyT : Type := List Int32 × (List Int32 × List Int32)
def lyT (T : LyT) (s p q : Nat) : LyT := (T.1.set s (nI p), (T.2.1.set s (nI q), (T.2.2.set (9 * p + q) (nI s)).set (9 * q + p) (nI s)))
def lyX (Y : Mem) (T : LyT) : Mem := (Y.1, (fun b => if b = 250 then T.2.2 else if b = 248 then T.2.1 else if b = 247 then T.1 else Y.2.1 b, Y.2.2))
theorem lyX_up {Y : Mem} {T : LyT} {l1 l2 l3 l4 : List Int32} : pA (pA (pA (pA (lyX Y T) 247 l1) 248 l2) 250 l3) 250 l4 = lyX Y (l1, (l2, l4)) := by
  refine Prod.ext rfl (Prod.ext (funext fun b => ?_) rfl)
  show (if b = 250 then l4 else if b = 250 then l3 else if b = 248 then l2 else if b = 247 then l1 else if b = 250 then T.2.2 else if b = 248 then T.2.1 else if b = 247 then T.1 else Y.2.1 b) = (if b = 250 then l4 else if b = 248 then l2 else if b = 247 then l1 else Y.2.1 b)
  by_cases h1 : b = 250
  · rw [if_pos h1, if_pos h1]
  · rw [if_neg h1, if_neg h1, if_neg h1, if_neg h1]
    by_cases h2 : b = 248
    · rw [if_pos h2, if_pos h2]
    · rw [if_neg h2, if_neg h2, if_neg h2]
      by_cases h3 : b = 247
      · rw [if_pos h3, if_pos h3]
      · rw [if_neg h3, if_neg h3, if_neg h3]
def okT3 (T : LyT) : Prop := T.1.length = 20 ∧ (T.2.1.length = 20 ∧ T.2.2.length = 81)
theorem okT3_up {T : LyT} {s p q : Nat} (h : okT3 T) : okT3 (lyT T s p q) := ⟨by show (T.1.set s _).length = 20; rw [List.length_set]; exact h.1, by show (T.2.1.set s _).length = 20; rw [List.length_set]; exact h.2.1, by show ((T.2.2.set (9 * p + q) _).set (9 * q + p) _).length = 81; rw [List.length_set, List.length_set]; exact h.2.2⟩
theorem okL_ly {Y : Mem} {T : LyT} (hY : OkL Y) (hT : okT3 T) : OkL (lyX Y T) := by
  refine ⟨fun b hb => ?_, hY.2⟩
  show (if b = 250 then T.2.2 else if b = 248 then T.2.1 else if b = 247 then T.1 else Y.2.1 b).length = sz b
  by_cases h1 : b = 250
  · rw [if_pos h1, h1, hT.2.2]; rfl
  · rw [if_neg h1]
    by_cases h2 : b = 248
    · rw [if_pos h2, h2, hT.2.1]; rfl
    · rw [if_neg h2]
      by_cases h3 : b = 247
      · rw [if_pos h3, h3, hT.1]; rfl
      · rw [if_neg h3]; exact hY.1 b hb
theorem S_R_layStroke {Y : Mem} {T : LyT} {s p q : Nat} (hY0 : OkL Y) (hT : okT3 T) (hs : s < 20) (hp : p < 9) (hq : q < 9) : CM 0 m_R_layStroke [.ref 244, .int (nI s), .int (nI p), .int (nI q)] (lyX Y T) (rV (lyX Y (lyT T s p q))) := by
  have hY := okL_ly hY0 hT
  refine CM_of (L := [some (.ref 244), some (.int (nI s)), some (.int (nI p)), some (.int (nI q))]) 0 ok_R_layStroke (fun _ => Nat.le_of_ble_eq_true rfl) rfl ?_
  refine J_aload_n (i := 0) d_R_layStroke_0 rfl rfl ?_
  refine M_getR (b := 247) d_R_layStroke_1 f_R_16 rfl rfl rfl ?_
  refine J_iload_n (i := 1) d_R_layStroke_4 rfl rfl ?_
  refine J_iload_n (i := 2) d_R_layStroke_5 rfl rfl ?_
  refine N_iast d_R_layStroke_6 rfl (by decide) (by omega) (ltK hY (a := 247) (n := 20) (by decide) rfl (by omega)) ?_
  refine J_aload_n (i := 0) d_R_layStroke_7 rfl rfl ?_
  refine M_getR (b := 248) d_R_layStroke_8 f_R_19 rfl rfl rfl ?_
  refine J_iload_n (i := 1) d_R_layStroke_11 rfl rfl ?_
  refine J_iload_n (i := 3) d_R_layStroke_12 rfl rfl ?_
  refine N_iast d_R_layStroke_13 rfl (by decide) (by omega) (ltK (okKS hY) (a := 248) (n := 20) (by decide) rfl (by omega)) ?_
  refine J_aload_n (i := 0) d_R_layStroke_14 rfl rfl ?_
  refine M_getR (b := 250) d_R_layStroke_15 f_R_25 rfl rfl rfl ?_
  refine J_bipush (v := nI 9) d_R_layStroke_18 rfl ?_
  refine J_iload_n (i := 2) d_R_layStroke_20 rfl rfl ?_
  refine N_imul d_R_layStroke_21 ?_
  refine J_iload_n (i := 3) d_R_layStroke_22 rfl rfl ?_
  refine N_iadd d_R_layStroke_23 ?_
  refine J_iload_n (i := 1) d_R_layStroke_24 rfl rfl ?_
  refine N_iast d_R_layStroke_25 rfl (by decide) (by omega) (ltK (okKS (okKS hY)) (a := 250) (n := 81) (by decide) rfl (by omega)) ?_
  refine J_aload_n (i := 0) d_R_layStroke_26 rfl rfl ?_
  refine M_getR (b := 250) d_R_layStroke_27 f_R_25 rfl rfl rfl ?_
  refine J_bipush (v := nI 9) d_R_layStroke_30 rfl ?_
  refine J_iload_n (i := 3) d_R_layStroke_32 rfl rfl ?_
  refine N_imul d_R_layStroke_33 ?_
  refine J_iload_n (i := 2) d_R_layStroke_34 rfl rfl ?_
  refine N_iadd d_R_layStroke_35 ?_
  refine J_iload_n (i := 1) d_R_layStroke_36 rfl rfl ?_
  refine N_iast d_R_layStroke_37 rfl (by decide) (by omega) (ltK (okKS (okKS (okKS hY))) (a := 250) (n := 81) (by decide) rfl (by omega)) ?_
  refine M_vr d_R_layStroke_38 rfl ?_
  exact ⟨rfl, lyX_up.trans rfl⟩

def r00 : Nat → Int32 := fun k => if k = 2 then -1 else if k = 7 then nI 431 else 0
theorem rep_F {n : Nat} {v : Int32} : List.replicate n v = ofF n (fun _ => v) := by
  apply List.ext_getElem <;> simp [ofF]
theorem r00_e : ((List.replicate 1217 (0 : Int32)).set 7 (nI 431)).set 2 (-1) = ofF 1217 r00 := by
  rw [rep_F, ofF_set, ofF_set]
  refine ofF_cong (fun k _ => ?_)
  show (if k = 2 then -1 else if k = 7 then nI 431 else 0) = r00 k
  rfl
def sfI (i : Nat) : Nat → Int32 := fun j => if j < i then -1 else 0
theorem sfI_up {i : Nat} : (ofF 81 (sfI i)).set i (-1) = ofF 81 (sfI (i + 1)) := by
  rw [ofF_set]
  refine ofF_cong (fun j _ => ?_)
  show (if j = i then -1 else (if j < i then -1 else 0)) = (if j < i + 1 then (-1 : Int32) else 0)
  by_cases c : j = i
  · rw [if_pos c, if_pos (by omega)]
  · rw [if_neg c]
    by_cases c2 : j < i
    · rw [if_pos c2, if_pos (by omega)]
    · rw [if_neg c2, if_neg (by omega)]
theorem pA2 {Y : Mem} {a : Nat} {l l2 : List Int32} {j : Nat} {v : Int32} (h : l.set j v = l2) : pA (pA Y a l) a (((pA Y a l).2.1 a).set j v) = pA Y a l2 := by
  rw [pA_pA, pA_at, h]
theorem lp_R_init1 {Y : Mem} {Q : Option Value → Mem → Prop} (hY : OkL Y) (kx : ∀ z, JM 2 m_R_init Q 211 [some (.ref 244), z, none] [] (pA Y 250 (ofF 81 (sfI 81)))) : ∀ (n i : Nat), i + n = 81 → JM 2 m_R_init Q 192 [some (.ref 244), some (.int (nI i)), none] [] (pA Y 250 (ofF 81 (sfI i))) := by
  intro n
  induction n with
  | zero =>
    intro i hi
    have h81 : i = 81 := by omega
    subst h81
    refine J_iload_n (i := 1) d_R_init_192 rfl rfl ?_
    refine J_bipush (v := nI 81) d_R_init_193 rfl ?_
    refine N_icmp_ge (tgt := 211) d_R_init_195 (by decide) (by omega) (by omega) (fun c195 => ?_) (fun c195 => absurd c195 (by omega))
    exact kx _
  | succ n ih =>
    intro i hi
    have hk : OkL (pA Y 250 (ofF 81 (sfI i))) := okK hY (by rw [ofF_len]; exact (hY.1 250 (by decide)).symm)
    refine J_iload_n (i := 1) d_R_init_192 rfl rfl ?_
    refine J_bipush (v := nI 81) d_R_init_193 rfl ?_
    refine N_icmp_ge (tgt := 211) d_R_init_195 (by decide) (by omega) (by omega) (fun c195 => absurd c195 (by omega)) (fun c195 => ?_)
    refine J_aload_n (i := 0) d_R_init_198 rfl rfl ?_
    refine M_getR (b := 250) d_R_init_199 f_R_25 rfl rfl rfl ?_
    refine J_iload_n (i := 1) d_R_init_202 rfl rfl ?_
    refine J_iconst (v := (-1)) d_R_init_203 rfl ?_
    refine N_iast d_R_init_204 rfl (by decide) (by omega) (ltK hk (a := 250) (n := 81) (by decide) rfl (by omega)) ?_
    refine N_iinc (a := i) (c := 1) (L1 := [some (.ref 244), some (.int (nI (i + 1))), none]) d_R_init_205 rfl rfl (by decide) rfl ?_
    refine J_goto (tgt := 192) d_R_init_208 (by decide) ?_
    rw [pA2 sfI_up]
    exact ih (i + 1) (by omega)
def ly20 (T : LyT) : LyT := (lyT (lyT (lyT (lyT (lyT (lyT (lyT (lyT (lyT (lyT (lyT (lyT (lyT (lyT (lyT (lyT (lyT (lyT (lyT (lyT T 0 ((3 * (0 / 2)) + (0 % 2)) (((3 * (0 / 2)) + (0 % 2)) + 1)) (6 + 0) ((3 * (0 / 3)) + (0 % 3)) (((3 * (0 / 3)) + (0 % 3)) + 3)) 1 ((3 * (1 / 2)) + (1 % 2)) (((3 * (1 / 2)) + (1 % 2)) + 1)) (6 + 1) ((3 * (1 / 3)) + (1 % 3)) (((3 * (1 / 3)) + (1 % 3)) + 3)) 2 ((3 * (2 / 2)) + (2 % 2)) (((3 * (2 / 2)) + (2 % 2)) + 1)) (6 + 2) ((3 * (2 / 3)) + (2 % 3)) (((3 * (2 / 3)) + (2 % 3)) + 3)) 3 ((3 * (3 / 2)) + (3 % 2)) (((3 * (3 / 2)) + (3 % 2)) + 1)) (6 + 3) ((3 * (3 / 3)) + (3 % 3)) (((3 * (3 / 3)) + (3 % 3)) + 3)) 4 ((3 * (4 / 2)) + (4 % 2)) (((3 * (4 / 2)) + (4 % 2)) + 1)) (6 + 4) ((3 * (4 / 3)) + (4 % 3)) (((3 * (4 / 3)) + (4 % 3)) + 3)) 5 ((3 * (5 / 2)) + (5 % 2)) (((3 * (5 / 2)) + (5 % 2)) + 1)) (6 + 5) ((3 * (5 / 3)) + (5 % 3)) (((3 * (5 / 3)) + (5 % 3)) + 3)) (12 + 0) ((3 * (0 / 2)) + (0 % 2)) (((3 * (0 / 2)) + (0 % 2)) + 4)) (16 + 0) (((3 * (0 / 2)) + (0 % 2)) + 1) (((3 * (0 / 2)) + (0 % 2)) + 3)) (12 + 1) ((3 * (1 / 2)) + (1 % 2)) (((3 * (1 / 2)) + (1 % 2)) + 4)) (16 + 1) (((3 * (1 / 2)) + (1 % 2)) + 1) (((3 * (1 / 2)) + (1 % 2)) + 3)) (12 + 2) ((3 * (2 / 2)) + (2 % 2)) (((3 * (2 / 2)) + (2 % 2)) + 4)) (16 + 2) (((3 * (2 / 2)) + (2 % 2)) + 1) (((3 * (2 / 2)) + (2 % 2)) + 3)) (12 + 3) ((3 * (3 / 2)) + (3 % 2)) (((3 * (3 / 2)) + (3 % 2)) + 4)) (16 + 3) (((3 * (3 / 2)) + (3 % 2)) + 1) (((3 * (3 / 2)) + (3 % 2)) + 3))
theorem lp_R_init2 {Y : Mem} {T : LyT} {z : Option Value} {Q : Option Value → Mem → Prop} (hY : OkL Y) (hT : okT3 T) (kx : ∀ z, JM 2 m_R_init Q 349 [some (.ref 244), z, none] [] (lyX Y (ly20 T))) : JM 2 m_R_init Q 211 [some (.ref 244), z, none] [] (lyX Y T) := by
  refine J_iconst (v := nI 0) d_R_init_211 rfl ?_
  refine J_istore_n (i := 1) (L1 := [some (.ref 244), some (.int (nI 0)), none]) d_R_init_212 rfl (by decide) rfl ?_
  refine J_iload_n (i := 1) d_R_init_213 rfl rfl ?_
  refine J_bipush (v := nI 6) d_R_init_214 rfl ?_
  refine N_icmp_ge (tgt := 278) d_R_init_216 (by decide) (by omega) (by omega) (fun c216 => absurd c216 (by decide)) (fun c216 => ?_)
  refine J_aload_n (i := 0) d_R_init_219 rfl rfl ?_
  refine J_iload_n (i := 1) d_R_init_220 rfl rfl ?_
  refine J_iconst (v := nI 3) d_R_init_221 rfl ?_
  refine J_iload_n (i := 1) d_R_init_222 rfl rfl ?_
  refine J_iconst (v := nI 2) d_R_init_223 rfl ?_
  refine N_idiv d_R_init_224 (by omega) (by omega) (by omega) ?_
  refine N_imul d_R_init_225 ?_
  refine J_iload_n (i := 1) d_R_init_226 rfl rfl ?_
  refine J_iconst (v := nI 2) d_R_init_227 rfl ?_
  refine N_irem d_R_init_228 (by omega) (by omega) (by omega) ?_
  refine N_iadd d_R_init_229 ?_
  refine J_iconst (v := nI 3) d_R_init_230 rfl ?_
  refine J_iload_n (i := 1) d_R_init_231 rfl rfl ?_
  refine J_iconst (v := nI 2) d_R_init_232 rfl ?_
  refine N_idiv d_R_init_233 (by omega) (by omega) (by omega) ?_
  refine N_imul d_R_init_234 ?_
  refine J_iload_n (i := 1) d_R_init_235 rfl rfl ?_
  refine J_iconst (v := nI 2) d_R_init_236 rfl ?_
  refine N_irem d_R_init_237 (by omega) (by omega) (by omega) ?_
  refine N_iadd d_R_init_238 ?_
  refine J_iconst (v := nI 1) d_R_init_239 rfl ?_
  refine N_iadd d_R_init_240 ?_
  refine CV_V (av := [.int (nI 0), .int (nI ((3 * (0 / 2)) + (0 % 2))), .int (nI (((3 * (0 / 2)) + (0 % 2)) + 1))]) d_R_init_241 s_R_77 (M_rcv rfl (by decide) rfl) (S_R_layStroke hY hT (by decide) (by decide) (by decide)) (by decide) rfl rfl (Nat.le_of_ble_eq_true rfl) ?_
  have hT := okT3_up (s := 0) (p := ((3 * (0 / 2)) + (0 % 2))) (q := (((3 * (0 / 2)) + (0 % 2)) + 1)) hT
  refine J_aload_n (i := 0) d_R_init_244 rfl rfl ?_
  refine J_bipush (v := nI 6) d_R_init_245 rfl ?_
  refine J_iload_n (i := 1) d_R_init_247 rfl rfl ?_
  refine N_iadd d_R_init_248 ?_
  refine J_iconst (v := nI 3) d_R_init_249 rfl ?_
  refine J_iload_n (i := 1) d_R_init_250 rfl rfl ?_
  refine J_iconst (v := nI 3) d_R_init_251 rfl ?_
  refine N_idiv d_R_init_252 (by omega) (by omega) (by omega) ?_
  refine N_imul d_R_init_253 ?_
  refine J_iload_n (i := 1) d_R_init_254 rfl rfl ?_
  refine J_iconst (v := nI 3) d_R_init_255 rfl ?_
  refine N_irem d_R_init_256 (by omega) (by omega) (by omega) ?_
  refine N_iadd d_R_init_257 ?_
  refine J_iconst (v := nI 3) d_R_init_258 rfl ?_
  refine J_iload_n (i := 1) d_R_init_259 rfl rfl ?_
  refine J_iconst (v := nI 3) d_R_init_260 rfl ?_
  refine N_idiv d_R_init_261 (by omega) (by omega) (by omega) ?_
  refine N_imul d_R_init_262 ?_
  refine J_iload_n (i := 1) d_R_init_263 rfl rfl ?_
  refine J_iconst (v := nI 3) d_R_init_264 rfl ?_
  refine N_irem d_R_init_265 (by omega) (by omega) (by omega) ?_
  refine N_iadd d_R_init_266 ?_
  refine J_iconst (v := nI 3) d_R_init_267 rfl ?_
  refine N_iadd d_R_init_268 ?_
  refine CV_V (av := [.int (nI (6 + 0)), .int (nI ((3 * (0 / 3)) + (0 % 3))), .int (nI (((3 * (0 / 3)) + (0 % 3)) + 3))]) d_R_init_269 s_R_77 (M_rcv rfl (by decide) rfl) (S_R_layStroke hY hT (by decide) (by decide) (by decide)) (by decide) rfl rfl (Nat.le_of_ble_eq_true rfl) ?_
  have hT := okT3_up (s := (6 + 0)) (p := ((3 * (0 / 3)) + (0 % 3))) (q := (((3 * (0 / 3)) + (0 % 3)) + 3)) hT
  refine N_iinc (a := 0) (c := 1) (L1 := [some (.ref 244), some (.int (nI 1)), none]) d_R_init_272 rfl rfl (by decide) rfl ?_
  refine J_goto (tgt := 213) d_R_init_275 (by decide) ?_
  refine J_iload_n (i := 1) d_R_init_213 rfl rfl ?_
  refine J_bipush (v := nI 6) d_R_init_214 rfl ?_
  refine N_icmp_ge (tgt := 278) d_R_init_216 (by decide) (by omega) (by omega) (fun c216_1 => absurd c216_1 (by decide)) (fun c216_1 => ?_)
  refine J_aload_n (i := 0) d_R_init_219 rfl rfl ?_
  refine J_iload_n (i := 1) d_R_init_220 rfl rfl ?_
  refine J_iconst (v := nI 3) d_R_init_221 rfl ?_
  refine J_iload_n (i := 1) d_R_init_222 rfl rfl ?_
  refine J_iconst (v := nI 2) d_R_init_223 rfl ?_
  refine N_idiv d_R_init_224 (by omega) (by omega) (by omega) ?_
  refine N_imul d_R_init_225 ?_
  refine J_iload_n (i := 1) d_R_init_226 rfl rfl ?_
  refine J_iconst (v := nI 2) d_R_init_227 rfl ?_
  refine N_irem d_R_init_228 (by omega) (by omega) (by omega) ?_
  refine N_iadd d_R_init_229 ?_
  refine J_iconst (v := nI 3) d_R_init_230 rfl ?_
  refine J_iload_n (i := 1) d_R_init_231 rfl rfl ?_
  refine J_iconst (v := nI 2) d_R_init_232 rfl ?_
  refine N_idiv d_R_init_233 (by omega) (by omega) (by omega) ?_
  refine N_imul d_R_init_234 ?_
  refine J_iload_n (i := 1) d_R_init_235 rfl rfl ?_
  refine J_iconst (v := nI 2) d_R_init_236 rfl ?_
  refine N_irem d_R_init_237 (by omega) (by omega) (by omega) ?_
  refine N_iadd d_R_init_238 ?_
  refine J_iconst (v := nI 1) d_R_init_239 rfl ?_
  refine N_iadd d_R_init_240 ?_
  refine CV_V (av := [.int (nI 1), .int (nI ((3 * (1 / 2)) + (1 % 2))), .int (nI (((3 * (1 / 2)) + (1 % 2)) + 1))]) d_R_init_241 s_R_77 (M_rcv rfl (by decide) rfl) (S_R_layStroke hY hT (by decide) (by decide) (by decide)) (by decide) rfl rfl (Nat.le_of_ble_eq_true rfl) ?_
  have hT := okT3_up (s := 1) (p := ((3 * (1 / 2)) + (1 % 2))) (q := (((3 * (1 / 2)) + (1 % 2)) + 1)) hT
  refine J_aload_n (i := 0) d_R_init_244 rfl rfl ?_
  refine J_bipush (v := nI 6) d_R_init_245 rfl ?_
  refine J_iload_n (i := 1) d_R_init_247 rfl rfl ?_
  refine N_iadd d_R_init_248 ?_
  refine J_iconst (v := nI 3) d_R_init_249 rfl ?_
  refine J_iload_n (i := 1) d_R_init_250 rfl rfl ?_
  refine J_iconst (v := nI 3) d_R_init_251 rfl ?_
  refine N_idiv d_R_init_252 (by omega) (by omega) (by omega) ?_
  refine N_imul d_R_init_253 ?_
  refine J_iload_n (i := 1) d_R_init_254 rfl rfl ?_
  refine J_iconst (v := nI 3) d_R_init_255 rfl ?_
  refine N_irem d_R_init_256 (by omega) (by omega) (by omega) ?_
  refine N_iadd d_R_init_257 ?_
  refine J_iconst (v := nI 3) d_R_init_258 rfl ?_
  refine J_iload_n (i := 1) d_R_init_259 rfl rfl ?_
  refine J_iconst (v := nI 3) d_R_init_260 rfl ?_
  refine N_idiv d_R_init_261 (by omega) (by omega) (by omega) ?_
  refine N_imul d_R_init_262 ?_
  refine J_iload_n (i := 1) d_R_init_263 rfl rfl ?_
  refine J_iconst (v := nI 3) d_R_init_264 rfl ?_
  refine N_irem d_R_init_265 (by omega) (by omega) (by omega) ?_
  refine N_iadd d_R_init_266 ?_
  refine J_iconst (v := nI 3) d_R_init_267 rfl ?_
  refine N_iadd d_R_init_268 ?_
  refine CV_V (av := [.int (nI (6 + 1)), .int (nI ((3 * (1 / 3)) + (1 % 3))), .int (nI (((3 * (1 / 3)) + (1 % 3)) + 3))]) d_R_init_269 s_R_77 (M_rcv rfl (by decide) rfl) (S_R_layStroke hY hT (by decide) (by decide) (by decide)) (by decide) rfl rfl (Nat.le_of_ble_eq_true rfl) ?_
  have hT := okT3_up (s := (6 + 1)) (p := ((3 * (1 / 3)) + (1 % 3))) (q := (((3 * (1 / 3)) + (1 % 3)) + 3)) hT
  refine N_iinc (a := 1) (c := 1) (L1 := [some (.ref 244), some (.int (nI 2)), none]) d_R_init_272 rfl rfl (by decide) rfl ?_
  refine J_goto (tgt := 213) d_R_init_275 (by decide) ?_
  refine J_iload_n (i := 1) d_R_init_213 rfl rfl ?_
  refine J_bipush (v := nI 6) d_R_init_214 rfl ?_
  refine N_icmp_ge (tgt := 278) d_R_init_216 (by decide) (by omega) (by omega) (fun c216_2 => absurd c216_2 (by decide)) (fun c216_2 => ?_)
  refine J_aload_n (i := 0) d_R_init_219 rfl rfl ?_
  refine J_iload_n (i := 1) d_R_init_220 rfl rfl ?_
  refine J_iconst (v := nI 3) d_R_init_221 rfl ?_
  refine J_iload_n (i := 1) d_R_init_222 rfl rfl ?_
  refine J_iconst (v := nI 2) d_R_init_223 rfl ?_
  refine N_idiv d_R_init_224 (by omega) (by omega) (by omega) ?_
  refine N_imul d_R_init_225 ?_
  refine J_iload_n (i := 1) d_R_init_226 rfl rfl ?_
  refine J_iconst (v := nI 2) d_R_init_227 rfl ?_
  refine N_irem d_R_init_228 (by omega) (by omega) (by omega) ?_
  refine N_iadd d_R_init_229 ?_
  refine J_iconst (v := nI 3) d_R_init_230 rfl ?_
  refine J_iload_n (i := 1) d_R_init_231 rfl rfl ?_
  refine J_iconst (v := nI 2) d_R_init_232 rfl ?_
  refine N_idiv d_R_init_233 (by omega) (by omega) (by omega) ?_
  refine N_imul d_R_init_234 ?_
  refine J_iload_n (i := 1) d_R_init_235 rfl rfl ?_
  refine J_iconst (v := nI 2) d_R_init_236 rfl ?_
  refine N_irem d_R_init_237 (by omega) (by omega) (by omega) ?_
  refine N_iadd d_R_init_238 ?_
  refine J_iconst (v := nI 1) d_R_init_239 rfl ?_
  refine N_iadd d_R_init_240 ?_
  refine CV_V (av := [.int (nI 2), .int (nI ((3 * (2 / 2)) + (2 % 2))), .int (nI (((3 * (2 / 2)) + (2 % 2)) + 1))]) d_R_init_241 s_R_77 (M_rcv rfl (by decide) rfl) (S_R_layStroke hY hT (by decide) (by decide) (by decide)) (by decide) rfl rfl (Nat.le_of_ble_eq_true rfl) ?_
  have hT := okT3_up (s := 2) (p := ((3 * (2 / 2)) + (2 % 2))) (q := (((3 * (2 / 2)) + (2 % 2)) + 1)) hT
  refine J_aload_n (i := 0) d_R_init_244 rfl rfl ?_
  refine J_bipush (v := nI 6) d_R_init_245 rfl ?_
  refine J_iload_n (i := 1) d_R_init_247 rfl rfl ?_
  refine N_iadd d_R_init_248 ?_
  refine J_iconst (v := nI 3) d_R_init_249 rfl ?_
  refine J_iload_n (i := 1) d_R_init_250 rfl rfl ?_
  refine J_iconst (v := nI 3) d_R_init_251 rfl ?_
  refine N_idiv d_R_init_252 (by omega) (by omega) (by omega) ?_
  refine N_imul d_R_init_253 ?_
  refine J_iload_n (i := 1) d_R_init_254 rfl rfl ?_
  refine J_iconst (v := nI 3) d_R_init_255 rfl ?_
  refine N_irem d_R_init_256 (by omega) (by omega) (by omega) ?_
  refine N_iadd d_R_init_257 ?_
  refine J_iconst (v := nI 3) d_R_init_258 rfl ?_
  refine J_iload_n (i := 1) d_R_init_259 rfl rfl ?_
  refine J_iconst (v := nI 3) d_R_init_260 rfl ?_
  refine N_idiv d_R_init_261 (by omega) (by omega) (by omega) ?_
  refine N_imul d_R_init_262 ?_
  refine J_iload_n (i := 1) d_R_init_263 rfl rfl ?_
  refine J_iconst (v := nI 3) d_R_init_264 rfl ?_
  refine N_irem d_R_init_265 (by omega) (by omega) (by omega) ?_
  refine N_iadd d_R_init_266 ?_
  refine J_iconst (v := nI 3) d_R_init_267 rfl ?_
  refine N_iadd d_R_init_268 ?_
  refine CV_V (av := [.int (nI (6 + 2)), .int (nI ((3 * (2 / 3)) + (2 % 3))), .int (nI (((3 * (2 / 3)) + (2 % 3)) + 3))]) d_R_init_269 s_R_77 (M_rcv rfl (by decide) rfl) (S_R_layStroke hY hT (by decide) (by decide) (by decide)) (by decide) rfl rfl (Nat.le_of_ble_eq_true rfl) ?_
  have hT := okT3_up (s := (6 + 2)) (p := ((3 * (2 / 3)) + (2 % 3))) (q := (((3 * (2 / 3)) + (2 % 3)) + 3)) hT
  refine N_iinc (a := 2) (c := 1) (L1 := [some (.ref 244), some (.int (nI 3)), none]) d_R_init_272 rfl rfl (by decide) rfl ?_
  refine J_goto (tgt := 213) d_R_init_275 (by decide) ?_
  refine J_iload_n (i := 1) d_R_init_213 rfl rfl ?_
  refine J_bipush (v := nI 6) d_R_init_214 rfl ?_
  refine N_icmp_ge (tgt := 278) d_R_init_216 (by decide) (by omega) (by omega) (fun c216_3 => absurd c216_3 (by decide)) (fun c216_3 => ?_)
  refine J_aload_n (i := 0) d_R_init_219 rfl rfl ?_
  refine J_iload_n (i := 1) d_R_init_220 rfl rfl ?_
  refine J_iconst (v := nI 3) d_R_init_221 rfl ?_
  refine J_iload_n (i := 1) d_R_init_222 rfl rfl ?_
  refine J_iconst (v := nI 2) d_R_init_223 rfl ?_
  refine N_idiv d_R_init_224 (by omega) (by omega) (by omega) ?_
  refine N_imul d_R_init_225 ?_
  refine J_iload_n (i := 1) d_R_init_226 rfl rfl ?_
  refine J_iconst (v := nI 2) d_R_init_227 rfl ?_
  refine N_irem d_R_init_228 (by omega) (by omega) (by omega) ?_
  refine N_iadd d_R_init_229 ?_
  refine J_iconst (v := nI 3) d_R_init_230 rfl ?_
  refine J_iload_n (i := 1) d_R_init_231 rfl rfl ?_
  refine J_iconst (v := nI 2) d_R_init_232 rfl ?_
  refine N_idiv d_R_init_233 (by omega) (by omega) (by omega) ?_
  refine N_imul d_R_init_234 ?_
  refine J_iload_n (i := 1) d_R_init_235 rfl rfl ?_
  refine J_iconst (v := nI 2) d_R_init_236 rfl ?_
  refine N_irem d_R_init_237 (by omega) (by omega) (by omega) ?_
  refine N_iadd d_R_init_238 ?_
  refine J_iconst (v := nI 1) d_R_init_239 rfl ?_
  refine N_iadd d_R_init_240 ?_
  refine CV_V (av := [.int (nI 3), .int (nI ((3 * (3 / 2)) + (3 % 2))), .int (nI (((3 * (3 / 2)) + (3 % 2)) + 1))]) d_R_init_241 s_R_77 (M_rcv rfl (by decide) rfl) (S_R_layStroke hY hT (by decide) (by decide) (by decide)) (by decide) rfl rfl (Nat.le_of_ble_eq_true rfl) ?_
  have hT := okT3_up (s := 3) (p := ((3 * (3 / 2)) + (3 % 2))) (q := (((3 * (3 / 2)) + (3 % 2)) + 1)) hT
  refine J_aload_n (i := 0) d_R_init_244 rfl rfl ?_
  refine J_bipush (v := nI 6) d_R_init_245 rfl ?_
  refine J_iload_n (i := 1) d_R_init_247 rfl rfl ?_
  refine N_iadd d_R_init_248 ?_
  refine J_iconst (v := nI 3) d_R_init_249 rfl ?_
  refine J_iload_n (i := 1) d_R_init_250 rfl rfl ?_
  refine J_iconst (v := nI 3) d_R_init_251 rfl ?_
  refine N_idiv d_R_init_252 (by omega) (by omega) (by omega) ?_
  refine N_imul d_R_init_253 ?_
  refine J_iload_n (i := 1) d_R_init_254 rfl rfl ?_
  refine J_iconst (v := nI 3) d_R_init_255 rfl ?_
  refine N_irem d_R_init_256 (by omega) (by omega) (by omega) ?_
  refine N_iadd d_R_init_257 ?_
  refine J_iconst (v := nI 3) d_R_init_258 rfl ?_
  refine J_iload_n (i := 1) d_R_init_259 rfl rfl ?_
  refine J_iconst (v := nI 3) d_R_init_260 rfl ?_
  refine N_idiv d_R_init_261 (by omega) (by omega) (by omega) ?_
  refine N_imul d_R_init_262 ?_
  refine J_iload_n (i := 1) d_R_init_263 rfl rfl ?_
  refine J_iconst (v := nI 3) d_R_init_264 rfl ?_
  refine N_irem d_R_init_265 (by omega) (by omega) (by omega) ?_
  refine N_iadd d_R_init_266 ?_
  refine J_iconst (v := nI 3) d_R_init_267 rfl ?_
  refine N_iadd d_R_init_268 ?_
  refine CV_V (av := [.int (nI (6 + 3)), .int (nI ((3 * (3 / 3)) + (3 % 3))), .int (nI (((3 * (3 / 3)) + (3 % 3)) + 3))]) d_R_init_269 s_R_77 (M_rcv rfl (by decide) rfl) (S_R_layStroke hY hT (by decide) (by decide) (by decide)) (by decide) rfl rfl (Nat.le_of_ble_eq_true rfl) ?_
  have hT := okT3_up (s := (6 + 3)) (p := ((3 * (3 / 3)) + (3 % 3))) (q := (((3 * (3 / 3)) + (3 % 3)) + 3)) hT
  refine N_iinc (a := 3) (c := 1) (L1 := [some (.ref 244), some (.int (nI 4)), none]) d_R_init_272 rfl rfl (by decide) rfl ?_
  refine J_goto (tgt := 213) d_R_init_275 (by decide) ?_
  refine J_iload_n (i := 1) d_R_init_213 rfl rfl ?_
  refine J_bipush (v := nI 6) d_R_init_214 rfl ?_
  refine N_icmp_ge (tgt := 278) d_R_init_216 (by decide) (by omega) (by omega) (fun c216_4 => absurd c216_4 (by decide)) (fun c216_4 => ?_)
  refine J_aload_n (i := 0) d_R_init_219 rfl rfl ?_
  refine J_iload_n (i := 1) d_R_init_220 rfl rfl ?_
  refine J_iconst (v := nI 3) d_R_init_221 rfl ?_
  refine J_iload_n (i := 1) d_R_init_222 rfl rfl ?_
  refine J_iconst (v := nI 2) d_R_init_223 rfl ?_
  refine N_idiv d_R_init_224 (by omega) (by omega) (by omega) ?_
  refine N_imul d_R_init_225 ?_
  refine J_iload_n (i := 1) d_R_init_226 rfl rfl ?_
  refine J_iconst (v := nI 2) d_R_init_227 rfl ?_
  refine N_irem d_R_init_228 (by omega) (by omega) (by omega) ?_
  refine N_iadd d_R_init_229 ?_
  refine J_iconst (v := nI 3) d_R_init_230 rfl ?_
  refine J_iload_n (i := 1) d_R_init_231 rfl rfl ?_
  refine J_iconst (v := nI 2) d_R_init_232 rfl ?_
  refine N_idiv d_R_init_233 (by omega) (by omega) (by omega) ?_
  refine N_imul d_R_init_234 ?_
  refine J_iload_n (i := 1) d_R_init_235 rfl rfl ?_
  refine J_iconst (v := nI 2) d_R_init_236 rfl ?_
  refine N_irem d_R_init_237 (by omega) (by omega) (by omega) ?_
  refine N_iadd d_R_init_238 ?_
  refine J_iconst (v := nI 1) d_R_init_239 rfl ?_
  refine N_iadd d_R_init_240 ?_
  refine CV_V (av := [.int (nI 4), .int (nI ((3 * (4 / 2)) + (4 % 2))), .int (nI (((3 * (4 / 2)) + (4 % 2)) + 1))]) d_R_init_241 s_R_77 (M_rcv rfl (by decide) rfl) (S_R_layStroke hY hT (by decide) (by decide) (by decide)) (by decide) rfl rfl (Nat.le_of_ble_eq_true rfl) ?_
  have hT := okT3_up (s := 4) (p := ((3 * (4 / 2)) + (4 % 2))) (q := (((3 * (4 / 2)) + (4 % 2)) + 1)) hT
  refine J_aload_n (i := 0) d_R_init_244 rfl rfl ?_
  refine J_bipush (v := nI 6) d_R_init_245 rfl ?_
  refine J_iload_n (i := 1) d_R_init_247 rfl rfl ?_
  refine N_iadd d_R_init_248 ?_
  refine J_iconst (v := nI 3) d_R_init_249 rfl ?_
  refine J_iload_n (i := 1) d_R_init_250 rfl rfl ?_
  refine J_iconst (v := nI 3) d_R_init_251 rfl ?_
  refine N_idiv d_R_init_252 (by omega) (by omega) (by omega) ?_
  refine N_imul d_R_init_253 ?_
  refine J_iload_n (i := 1) d_R_init_254 rfl rfl ?_
  refine J_iconst (v := nI 3) d_R_init_255 rfl ?_
  refine N_irem d_R_init_256 (by omega) (by omega) (by omega) ?_
  refine N_iadd d_R_init_257 ?_
  refine J_iconst (v := nI 3) d_R_init_258 rfl ?_
  refine J_iload_n (i := 1) d_R_init_259 rfl rfl ?_
  refine J_iconst (v := nI 3) d_R_init_260 rfl ?_
  refine N_idiv d_R_init_261 (by omega) (by omega) (by omega) ?_
  refine N_imul d_R_init_262 ?_
  refine J_iload_n (i := 1) d_R_init_263 rfl rfl ?_
  refine J_iconst (v := nI 3) d_R_init_264 rfl ?_
  refine N_irem d_R_init_265 (by omega) (by omega) (by omega) ?_
  refine N_iadd d_R_init_266 ?_
  refine J_iconst (v := nI 3) d_R_init_267 rfl ?_
  refine N_iadd d_R_init_268 ?_
  refine CV_V (av := [.int (nI (6 + 4)), .int (nI ((3 * (4 / 3)) + (4 % 3))), .int (nI (((3 * (4 / 3)) + (4 % 3)) + 3))]) d_R_init_269 s_R_77 (M_rcv rfl (by decide) rfl) (S_R_layStroke hY hT (by decide) (by decide) (by decide)) (by decide) rfl rfl (Nat.le_of_ble_eq_true rfl) ?_
  have hT := okT3_up (s := (6 + 4)) (p := ((3 * (4 / 3)) + (4 % 3))) (q := (((3 * (4 / 3)) + (4 % 3)) + 3)) hT
  refine N_iinc (a := 4) (c := 1) (L1 := [some (.ref 244), some (.int (nI 5)), none]) d_R_init_272 rfl rfl (by decide) rfl ?_
  refine J_goto (tgt := 213) d_R_init_275 (by decide) ?_
  refine J_iload_n (i := 1) d_R_init_213 rfl rfl ?_
  refine J_bipush (v := nI 6) d_R_init_214 rfl ?_
  refine N_icmp_ge (tgt := 278) d_R_init_216 (by decide) (by omega) (by omega) (fun c216_5 => absurd c216_5 (by decide)) (fun c216_5 => ?_)
  refine J_aload_n (i := 0) d_R_init_219 rfl rfl ?_
  refine J_iload_n (i := 1) d_R_init_220 rfl rfl ?_
  refine J_iconst (v := nI 3) d_R_init_221 rfl ?_
  refine J_iload_n (i := 1) d_R_init_222 rfl rfl ?_
  refine J_iconst (v := nI 2) d_R_init_223 rfl ?_
  refine N_idiv d_R_init_224 (by omega) (by omega) (by omega) ?_
  refine N_imul d_R_init_225 ?_
  refine J_iload_n (i := 1) d_R_init_226 rfl rfl ?_
  refine J_iconst (v := nI 2) d_R_init_227 rfl ?_
  refine N_irem d_R_init_228 (by omega) (by omega) (by omega) ?_
  refine N_iadd d_R_init_229 ?_
  refine J_iconst (v := nI 3) d_R_init_230 rfl ?_
  refine J_iload_n (i := 1) d_R_init_231 rfl rfl ?_
  refine J_iconst (v := nI 2) d_R_init_232 rfl ?_
  refine N_idiv d_R_init_233 (by omega) (by omega) (by omega) ?_
  refine N_imul d_R_init_234 ?_
  refine J_iload_n (i := 1) d_R_init_235 rfl rfl ?_
  refine J_iconst (v := nI 2) d_R_init_236 rfl ?_
  refine N_irem d_R_init_237 (by omega) (by omega) (by omega) ?_
  refine N_iadd d_R_init_238 ?_
  refine J_iconst (v := nI 1) d_R_init_239 rfl ?_
  refine N_iadd d_R_init_240 ?_
  refine CV_V (av := [.int (nI 5), .int (nI ((3 * (5 / 2)) + (5 % 2))), .int (nI (((3 * (5 / 2)) + (5 % 2)) + 1))]) d_R_init_241 s_R_77 (M_rcv rfl (by decide) rfl) (S_R_layStroke hY hT (by decide) (by decide) (by decide)) (by decide) rfl rfl (Nat.le_of_ble_eq_true rfl) ?_
  have hT := okT3_up (s := 5) (p := ((3 * (5 / 2)) + (5 % 2))) (q := (((3 * (5 / 2)) + (5 % 2)) + 1)) hT
  refine J_aload_n (i := 0) d_R_init_244 rfl rfl ?_
  refine J_bipush (v := nI 6) d_R_init_245 rfl ?_
  refine J_iload_n (i := 1) d_R_init_247 rfl rfl ?_
  refine N_iadd d_R_init_248 ?_
  refine J_iconst (v := nI 3) d_R_init_249 rfl ?_
  refine J_iload_n (i := 1) d_R_init_250 rfl rfl ?_
  refine J_iconst (v := nI 3) d_R_init_251 rfl ?_
  refine N_idiv d_R_init_252 (by omega) (by omega) (by omega) ?_
  refine N_imul d_R_init_253 ?_
  refine J_iload_n (i := 1) d_R_init_254 rfl rfl ?_
  refine J_iconst (v := nI 3) d_R_init_255 rfl ?_
  refine N_irem d_R_init_256 (by omega) (by omega) (by omega) ?_
  refine N_iadd d_R_init_257 ?_
  refine J_iconst (v := nI 3) d_R_init_258 rfl ?_
  refine J_iload_n (i := 1) d_R_init_259 rfl rfl ?_
  refine J_iconst (v := nI 3) d_R_init_260 rfl ?_
  refine N_idiv d_R_init_261 (by omega) (by omega) (by omega) ?_
  refine N_imul d_R_init_262 ?_
  refine J_iload_n (i := 1) d_R_init_263 rfl rfl ?_
  refine J_iconst (v := nI 3) d_R_init_264 rfl ?_
  refine N_irem d_R_init_265 (by omega) (by omega) (by omega) ?_
  refine N_iadd d_R_init_266 ?_
  refine J_iconst (v := nI 3) d_R_init_267 rfl ?_
  refine N_iadd d_R_init_268 ?_
  refine CV_V (av := [.int (nI (6 + 5)), .int (nI ((3 * (5 / 3)) + (5 % 3))), .int (nI (((3 * (5 / 3)) + (5 % 3)) + 3))]) d_R_init_269 s_R_77 (M_rcv rfl (by decide) rfl) (S_R_layStroke hY hT (by decide) (by decide) (by decide)) (by decide) rfl rfl (Nat.le_of_ble_eq_true rfl) ?_
  have hT := okT3_up (s := (6 + 5)) (p := ((3 * (5 / 3)) + (5 % 3))) (q := (((3 * (5 / 3)) + (5 % 3)) + 3)) hT
  refine N_iinc (a := 5) (c := 1) (L1 := [some (.ref 244), some (.int (nI 6)), none]) d_R_init_272 rfl rfl (by decide) rfl ?_
  refine J_goto (tgt := 213) d_R_init_275 (by decide) ?_
  refine J_iload_n (i := 1) d_R_init_213 rfl rfl ?_
  refine J_bipush (v := nI 6) d_R_init_214 rfl ?_
  refine N_icmp_ge (tgt := 278) d_R_init_216 (by decide) (by omega) (by omega) (fun c216_6 => ?_) (fun c216_6 => absurd c216_6 (by decide))
  refine J_iconst (v := nI 0) d_R_init_278 rfl ?_
  refine J_istore_n (i := 1) (L1 := [some (.ref 244), some (.int (nI 0)), none]) d_R_init_279 rfl (by decide) rfl ?_
  refine J_iload_n (i := 1) d_R_init_280 rfl rfl ?_
  refine J_iconst (v := nI 4) d_R_init_281 rfl ?_
  refine N_icmp_ge (tgt := 349) d_R_init_282 (by decide) (by omega) (by omega) (fun c282 => absurd c282 (by decide)) (fun c282 => ?_)
  refine J_aload_n (i := 0) d_R_init_285 rfl rfl ?_
  refine J_bipush (v := nI 12) d_R_init_286 rfl ?_
  refine J_iload_n (i := 1) d_R_init_288 rfl rfl ?_
  refine N_iadd d_R_init_289 ?_
  refine J_iconst (v := nI 3) d_R_init_290 rfl ?_
  refine J_iload_n (i := 1) d_R_init_291 rfl rfl ?_
  refine J_iconst (v := nI 2) d_R_init_292 rfl ?_
  refine N_idiv d_R_init_293 (by omega) (by omega) (by omega) ?_
  refine N_imul d_R_init_294 ?_
  refine J_iload_n (i := 1) d_R_init_295 rfl rfl ?_
  refine J_iconst (v := nI 2) d_R_init_296 rfl ?_
  refine N_irem d_R_init_297 (by omega) (by omega) (by omega) ?_
  refine N_iadd d_R_init_298 ?_
  refine J_iconst (v := nI 3) d_R_init_299 rfl ?_
  refine J_iload_n (i := 1) d_R_init_300 rfl rfl ?_
  refine J_iconst (v := nI 2) d_R_init_301 rfl ?_
  refine N_idiv d_R_init_302 (by omega) (by omega) (by omega) ?_
  refine N_imul d_R_init_303 ?_
  refine J_iload_n (i := 1) d_R_init_304 rfl rfl ?_
  refine J_iconst (v := nI 2) d_R_init_305 rfl ?_
  refine N_irem d_R_init_306 (by omega) (by omega) (by omega) ?_
  refine N_iadd d_R_init_307 ?_
  refine J_iconst (v := nI 4) d_R_init_308 rfl ?_
  refine N_iadd d_R_init_309 ?_
  refine CV_V (av := [.int (nI (12 + 0)), .int (nI ((3 * (0 / 2)) + (0 % 2))), .int (nI (((3 * (0 / 2)) + (0 % 2)) + 4))]) d_R_init_310 s_R_77 (M_rcv rfl (by decide) rfl) (S_R_layStroke hY hT (by decide) (by decide) (by decide)) (by decide) rfl rfl (Nat.le_of_ble_eq_true rfl) ?_
  have hT := okT3_up (s := (12 + 0)) (p := ((3 * (0 / 2)) + (0 % 2))) (q := (((3 * (0 / 2)) + (0 % 2)) + 4)) hT
  refine J_aload_n (i := 0) d_R_init_313 rfl rfl ?_
  refine J_bipush (v := nI 16) d_R_init_314 rfl ?_
  refine J_iload_n (i := 1) d_R_init_316 rfl rfl ?_
  refine N_iadd d_R_init_317 ?_
  refine J_iconst (v := nI 3) d_R_init_318 rfl ?_
  refine J_iload_n (i := 1) d_R_init_319 rfl rfl ?_
  refine J_iconst (v := nI 2) d_R_init_320 rfl ?_
  refine N_idiv d_R_init_321 (by omega) (by omega) (by omega) ?_
  refine N_imul d_R_init_322 ?_
  refine J_iload_n (i := 1) d_R_init_323 rfl rfl ?_
  refine J_iconst (v := nI 2) d_R_init_324 rfl ?_
  refine N_irem d_R_init_325 (by omega) (by omega) (by omega) ?_
  refine N_iadd d_R_init_326 ?_
  refine J_iconst (v := nI 1) d_R_init_327 rfl ?_
  refine N_iadd d_R_init_328 ?_
  refine J_iconst (v := nI 3) d_R_init_329 rfl ?_
  refine J_iload_n (i := 1) d_R_init_330 rfl rfl ?_
  refine J_iconst (v := nI 2) d_R_init_331 rfl ?_
  refine N_idiv d_R_init_332 (by omega) (by omega) (by omega) ?_
  refine N_imul d_R_init_333 ?_
  refine J_iload_n (i := 1) d_R_init_334 rfl rfl ?_
  refine J_iconst (v := nI 2) d_R_init_335 rfl ?_
  refine N_irem d_R_init_336 (by omega) (by omega) (by omega) ?_
  refine N_iadd d_R_init_337 ?_
  refine J_iconst (v := nI 3) d_R_init_338 rfl ?_
  refine N_iadd d_R_init_339 ?_
  refine CV_V (av := [.int (nI (16 + 0)), .int (nI (((3 * (0 / 2)) + (0 % 2)) + 1)), .int (nI (((3 * (0 / 2)) + (0 % 2)) + 3))]) d_R_init_340 s_R_77 (M_rcv rfl (by decide) rfl) (S_R_layStroke hY hT (by decide) (by decide) (by decide)) (by decide) rfl rfl (Nat.le_of_ble_eq_true rfl) ?_
  have hT := okT3_up (s := (16 + 0)) (p := (((3 * (0 / 2)) + (0 % 2)) + 1)) (q := (((3 * (0 / 2)) + (0 % 2)) + 3)) hT
  refine N_iinc (a := 0) (c := 1) (L1 := [some (.ref 244), some (.int (nI 1)), none]) d_R_init_343 rfl rfl (by decide) rfl ?_
  refine J_goto (tgt := 280) d_R_init_346 (by decide) ?_
  refine J_iload_n (i := 1) d_R_init_280 rfl rfl ?_
  refine J_iconst (v := nI 4) d_R_init_281 rfl ?_
  refine N_icmp_ge (tgt := 349) d_R_init_282 (by decide) (by omega) (by omega) (fun c282_1 => absurd c282_1 (by decide)) (fun c282_1 => ?_)
  refine J_aload_n (i := 0) d_R_init_285 rfl rfl ?_
  refine J_bipush (v := nI 12) d_R_init_286 rfl ?_
  refine J_iload_n (i := 1) d_R_init_288 rfl rfl ?_
  refine N_iadd d_R_init_289 ?_
  refine J_iconst (v := nI 3) d_R_init_290 rfl ?_
  refine J_iload_n (i := 1) d_R_init_291 rfl rfl ?_
  refine J_iconst (v := nI 2) d_R_init_292 rfl ?_
  refine N_idiv d_R_init_293 (by omega) (by omega) (by omega) ?_
  refine N_imul d_R_init_294 ?_
  refine J_iload_n (i := 1) d_R_init_295 rfl rfl ?_
  refine J_iconst (v := nI 2) d_R_init_296 rfl ?_
  refine N_irem d_R_init_297 (by omega) (by omega) (by omega) ?_
  refine N_iadd d_R_init_298 ?_
  refine J_iconst (v := nI 3) d_R_init_299 rfl ?_
  refine J_iload_n (i := 1) d_R_init_300 rfl rfl ?_
  refine J_iconst (v := nI 2) d_R_init_301 rfl ?_
  refine N_idiv d_R_init_302 (by omega) (by omega) (by omega) ?_
  refine N_imul d_R_init_303 ?_
  refine J_iload_n (i := 1) d_R_init_304 rfl rfl ?_
  refine J_iconst (v := nI 2) d_R_init_305 rfl ?_
  refine N_irem d_R_init_306 (by omega) (by omega) (by omega) ?_
  refine N_iadd d_R_init_307 ?_
  refine J_iconst (v := nI 4) d_R_init_308 rfl ?_
  refine N_iadd d_R_init_309 ?_
  refine CV_V (av := [.int (nI (12 + 1)), .int (nI ((3 * (1 / 2)) + (1 % 2))), .int (nI (((3 * (1 / 2)) + (1 % 2)) + 4))]) d_R_init_310 s_R_77 (M_rcv rfl (by decide) rfl) (S_R_layStroke hY hT (by decide) (by decide) (by decide)) (by decide) rfl rfl (Nat.le_of_ble_eq_true rfl) ?_
  have hT := okT3_up (s := (12 + 1)) (p := ((3 * (1 / 2)) + (1 % 2))) (q := (((3 * (1 / 2)) + (1 % 2)) + 4)) hT
  refine J_aload_n (i := 0) d_R_init_313 rfl rfl ?_
  refine J_bipush (v := nI 16) d_R_init_314 rfl ?_
  refine J_iload_n (i := 1) d_R_init_316 rfl rfl ?_
  refine N_iadd d_R_init_317 ?_
  refine J_iconst (v := nI 3) d_R_init_318 rfl ?_
  refine J_iload_n (i := 1) d_R_init_319 rfl rfl ?_
  refine J_iconst (v := nI 2) d_R_init_320 rfl ?_
  refine N_idiv d_R_init_321 (by omega) (by omega) (by omega) ?_
  refine N_imul d_R_init_322 ?_
  refine J_iload_n (i := 1) d_R_init_323 rfl rfl ?_
  refine J_iconst (v := nI 2) d_R_init_324 rfl ?_
  refine N_irem d_R_init_325 (by omega) (by omega) (by omega) ?_
  refine N_iadd d_R_init_326 ?_
  refine J_iconst (v := nI 1) d_R_init_327 rfl ?_
  refine N_iadd d_R_init_328 ?_
  refine J_iconst (v := nI 3) d_R_init_329 rfl ?_
  refine J_iload_n (i := 1) d_R_init_330 rfl rfl ?_
  refine J_iconst (v := nI 2) d_R_init_331 rfl ?_
  refine N_idiv d_R_init_332 (by omega) (by omega) (by omega) ?_
  refine N_imul d_R_init_333 ?_
  refine J_iload_n (i := 1) d_R_init_334 rfl rfl ?_
  refine J_iconst (v := nI 2) d_R_init_335 rfl ?_
  refine N_irem d_R_init_336 (by omega) (by omega) (by omega) ?_
  refine N_iadd d_R_init_337 ?_
  refine J_iconst (v := nI 3) d_R_init_338 rfl ?_
  refine N_iadd d_R_init_339 ?_
  refine CV_V (av := [.int (nI (16 + 1)), .int (nI (((3 * (1 / 2)) + (1 % 2)) + 1)), .int (nI (((3 * (1 / 2)) + (1 % 2)) + 3))]) d_R_init_340 s_R_77 (M_rcv rfl (by decide) rfl) (S_R_layStroke hY hT (by decide) (by decide) (by decide)) (by decide) rfl rfl (Nat.le_of_ble_eq_true rfl) ?_
  have hT := okT3_up (s := (16 + 1)) (p := (((3 * (1 / 2)) + (1 % 2)) + 1)) (q := (((3 * (1 / 2)) + (1 % 2)) + 3)) hT
  refine N_iinc (a := 1) (c := 1) (L1 := [some (.ref 244), some (.int (nI 2)), none]) d_R_init_343 rfl rfl (by decide) rfl ?_
  refine J_goto (tgt := 280) d_R_init_346 (by decide) ?_
  refine J_iload_n (i := 1) d_R_init_280 rfl rfl ?_
  refine J_iconst (v := nI 4) d_R_init_281 rfl ?_
  refine N_icmp_ge (tgt := 349) d_R_init_282 (by decide) (by omega) (by omega) (fun c282_2 => absurd c282_2 (by decide)) (fun c282_2 => ?_)
  refine J_aload_n (i := 0) d_R_init_285 rfl rfl ?_
  refine J_bipush (v := nI 12) d_R_init_286 rfl ?_
  refine J_iload_n (i := 1) d_R_init_288 rfl rfl ?_
  refine N_iadd d_R_init_289 ?_
  refine J_iconst (v := nI 3) d_R_init_290 rfl ?_
  refine J_iload_n (i := 1) d_R_init_291 rfl rfl ?_
  refine J_iconst (v := nI 2) d_R_init_292 rfl ?_
  refine N_idiv d_R_init_293 (by omega) (by omega) (by omega) ?_
  refine N_imul d_R_init_294 ?_
  refine J_iload_n (i := 1) d_R_init_295 rfl rfl ?_
  refine J_iconst (v := nI 2) d_R_init_296 rfl ?_
  refine N_irem d_R_init_297 (by omega) (by omega) (by omega) ?_
  refine N_iadd d_R_init_298 ?_
  refine J_iconst (v := nI 3) d_R_init_299 rfl ?_
  refine J_iload_n (i := 1) d_R_init_300 rfl rfl ?_
  refine J_iconst (v := nI 2) d_R_init_301 rfl ?_
  refine N_idiv d_R_init_302 (by omega) (by omega) (by omega) ?_
  refine N_imul d_R_init_303 ?_
  refine J_iload_n (i := 1) d_R_init_304 rfl rfl ?_
  refine J_iconst (v := nI 2) d_R_init_305 rfl ?_
  refine N_irem d_R_init_306 (by omega) (by omega) (by omega) ?_
  refine N_iadd d_R_init_307 ?_
  refine J_iconst (v := nI 4) d_R_init_308 rfl ?_
  refine N_iadd d_R_init_309 ?_
  refine CV_V (av := [.int (nI (12 + 2)), .int (nI ((3 * (2 / 2)) + (2 % 2))), .int (nI (((3 * (2 / 2)) + (2 % 2)) + 4))]) d_R_init_310 s_R_77 (M_rcv rfl (by decide) rfl) (S_R_layStroke hY hT (by decide) (by decide) (by decide)) (by decide) rfl rfl (Nat.le_of_ble_eq_true rfl) ?_
  have hT := okT3_up (s := (12 + 2)) (p := ((3 * (2 / 2)) + (2 % 2))) (q := (((3 * (2 / 2)) + (2 % 2)) + 4)) hT
  refine J_aload_n (i := 0) d_R_init_313 rfl rfl ?_
  refine J_bipush (v := nI 16) d_R_init_314 rfl ?_
  refine J_iload_n (i := 1) d_R_init_316 rfl rfl ?_
  refine N_iadd d_R_init_317 ?_
  refine J_iconst (v := nI 3) d_R_init_318 rfl ?_
  refine J_iload_n (i := 1) d_R_init_319 rfl rfl ?_
  refine J_iconst (v := nI 2) d_R_init_320 rfl ?_
  refine N_idiv d_R_init_321 (by omega) (by omega) (by omega) ?_
  refine N_imul d_R_init_322 ?_
  refine J_iload_n (i := 1) d_R_init_323 rfl rfl ?_
  refine J_iconst (v := nI 2) d_R_init_324 rfl ?_
  refine N_irem d_R_init_325 (by omega) (by omega) (by omega) ?_
  refine N_iadd d_R_init_326 ?_
  refine J_iconst (v := nI 1) d_R_init_327 rfl ?_
  refine N_iadd d_R_init_328 ?_
  refine J_iconst (v := nI 3) d_R_init_329 rfl ?_
  refine J_iload_n (i := 1) d_R_init_330 rfl rfl ?_
  refine J_iconst (v := nI 2) d_R_init_331 rfl ?_
  refine N_idiv d_R_init_332 (by omega) (by omega) (by omega) ?_
  refine N_imul d_R_init_333 ?_
  refine J_iload_n (i := 1) d_R_init_334 rfl rfl ?_
  refine J_iconst (v := nI 2) d_R_init_335 rfl ?_
  refine N_irem d_R_init_336 (by omega) (by omega) (by omega) ?_
  refine N_iadd d_R_init_337 ?_
  refine J_iconst (v := nI 3) d_R_init_338 rfl ?_
  refine N_iadd d_R_init_339 ?_
  refine CV_V (av := [.int (nI (16 + 2)), .int (nI (((3 * (2 / 2)) + (2 % 2)) + 1)), .int (nI (((3 * (2 / 2)) + (2 % 2)) + 3))]) d_R_init_340 s_R_77 (M_rcv rfl (by decide) rfl) (S_R_layStroke hY hT (by decide) (by decide) (by decide)) (by decide) rfl rfl (Nat.le_of_ble_eq_true rfl) ?_
  have hT := okT3_up (s := (16 + 2)) (p := (((3 * (2 / 2)) + (2 % 2)) + 1)) (q := (((3 * (2 / 2)) + (2 % 2)) + 3)) hT
  refine N_iinc (a := 2) (c := 1) (L1 := [some (.ref 244), some (.int (nI 3)), none]) d_R_init_343 rfl rfl (by decide) rfl ?_
  refine J_goto (tgt := 280) d_R_init_346 (by decide) ?_
  refine J_iload_n (i := 1) d_R_init_280 rfl rfl ?_
  refine J_iconst (v := nI 4) d_R_init_281 rfl ?_
  refine N_icmp_ge (tgt := 349) d_R_init_282 (by decide) (by omega) (by omega) (fun c282_3 => absurd c282_3 (by decide)) (fun c282_3 => ?_)
  refine J_aload_n (i := 0) d_R_init_285 rfl rfl ?_
  refine J_bipush (v := nI 12) d_R_init_286 rfl ?_
  refine J_iload_n (i := 1) d_R_init_288 rfl rfl ?_
  refine N_iadd d_R_init_289 ?_
  refine J_iconst (v := nI 3) d_R_init_290 rfl ?_
  refine J_iload_n (i := 1) d_R_init_291 rfl rfl ?_
  refine J_iconst (v := nI 2) d_R_init_292 rfl ?_
  refine N_idiv d_R_init_293 (by omega) (by omega) (by omega) ?_
  refine N_imul d_R_init_294 ?_
  refine J_iload_n (i := 1) d_R_init_295 rfl rfl ?_
  refine J_iconst (v := nI 2) d_R_init_296 rfl ?_
  refine N_irem d_R_init_297 (by omega) (by omega) (by omega) ?_
  refine N_iadd d_R_init_298 ?_
  refine J_iconst (v := nI 3) d_R_init_299 rfl ?_
  refine J_iload_n (i := 1) d_R_init_300 rfl rfl ?_
  refine J_iconst (v := nI 2) d_R_init_301 rfl ?_
  refine N_idiv d_R_init_302 (by omega) (by omega) (by omega) ?_
  refine N_imul d_R_init_303 ?_
  refine J_iload_n (i := 1) d_R_init_304 rfl rfl ?_
  refine J_iconst (v := nI 2) d_R_init_305 rfl ?_
  refine N_irem d_R_init_306 (by omega) (by omega) (by omega) ?_
  refine N_iadd d_R_init_307 ?_
  refine J_iconst (v := nI 4) d_R_init_308 rfl ?_
  refine N_iadd d_R_init_309 ?_
  refine CV_V (av := [.int (nI (12 + 3)), .int (nI ((3 * (3 / 2)) + (3 % 2))), .int (nI (((3 * (3 / 2)) + (3 % 2)) + 4))]) d_R_init_310 s_R_77 (M_rcv rfl (by decide) rfl) (S_R_layStroke hY hT (by decide) (by decide) (by decide)) (by decide) rfl rfl (Nat.le_of_ble_eq_true rfl) ?_
  have hT := okT3_up (s := (12 + 3)) (p := ((3 * (3 / 2)) + (3 % 2))) (q := (((3 * (3 / 2)) + (3 % 2)) + 4)) hT
  refine J_aload_n (i := 0) d_R_init_313 rfl rfl ?_
  refine J_bipush (v := nI 16) d_R_init_314 rfl ?_
  refine J_iload_n (i := 1) d_R_init_316 rfl rfl ?_
  refine N_iadd d_R_init_317 ?_
  refine J_iconst (v := nI 3) d_R_init_318 rfl ?_
  refine J_iload_n (i := 1) d_R_init_319 rfl rfl ?_
  refine J_iconst (v := nI 2) d_R_init_320 rfl ?_
  refine N_idiv d_R_init_321 (by omega) (by omega) (by omega) ?_
  refine N_imul d_R_init_322 ?_
  refine J_iload_n (i := 1) d_R_init_323 rfl rfl ?_
  refine J_iconst (v := nI 2) d_R_init_324 rfl ?_
  refine N_irem d_R_init_325 (by omega) (by omega) (by omega) ?_
  refine N_iadd d_R_init_326 ?_
  refine J_iconst (v := nI 1) d_R_init_327 rfl ?_
  refine N_iadd d_R_init_328 ?_
  refine J_iconst (v := nI 3) d_R_init_329 rfl ?_
  refine J_iload_n (i := 1) d_R_init_330 rfl rfl ?_
  refine J_iconst (v := nI 2) d_R_init_331 rfl ?_
  refine N_idiv d_R_init_332 (by omega) (by omega) (by omega) ?_
  refine N_imul d_R_init_333 ?_
  refine J_iload_n (i := 1) d_R_init_334 rfl rfl ?_
  refine J_iconst (v := nI 2) d_R_init_335 rfl ?_
  refine N_irem d_R_init_336 (by omega) (by omega) (by omega) ?_
  refine N_iadd d_R_init_337 ?_
  refine J_iconst (v := nI 3) d_R_init_338 rfl ?_
  refine N_iadd d_R_init_339 ?_
  refine CV_V (av := [.int (nI (16 + 3)), .int (nI (((3 * (3 / 2)) + (3 % 2)) + 1)), .int (nI (((3 * (3 / 2)) + (3 % 2)) + 3))]) d_R_init_340 s_R_77 (M_rcv rfl (by decide) rfl) (S_R_layStroke hY hT (by decide) (by decide) (by decide)) (by decide) rfl rfl (Nat.le_of_ble_eq_true rfl) ?_
  have hT := okT3_up (s := (16 + 3)) (p := (((3 * (3 / 2)) + (3 % 2)) + 1)) (q := (((3 * (3 / 2)) + (3 % 2)) + 3)) hT
  refine N_iinc (a := 3) (c := 1) (L1 := [some (.ref 244), some (.int (nI 4)), none]) d_R_init_343 rfl rfl (by decide) rfl ?_
  refine J_goto (tgt := 280) d_R_init_346 (by decide) ?_
  refine J_iload_n (i := 1) d_R_init_280 rfl rfl ?_
  refine J_iconst (v := nI 4) d_R_init_281 rfl ?_
  refine N_icmp_ge (tgt := 349) d_R_init_282 (by decide) (by omega) (by omega) (fun c282_4 => ?_) (fun c282_4 => absurd c282_4 (by decide))
  exact kx _
theorem ly20_e : ly20 (List.replicate 20 0, (List.replicate 20 0, ofF 81 (sfI 81))) = (ONEL.map nI, (OTHL.map nI, SOFL.map oI)) := by decide +kernel
