theorem ap_get {C l : List MCell} {k i : Nat} (hk : C.length = k) : (C ++ l)[k + i]? = l[i]? := by
  subst hk
  rw [List.getElem?_append_right (Nat.le_add_right _ _), Nat.add_sub_cancel_left]
theorem ap_set {C l : List MCell} {k i : Nat} {x : MCell} (hk : C.length = k) : (C ++ l).set (k + i) x = C ++ l.set i x := by
  subst hk
  rw [List.set_append_right _ _ (Nat.le_add_right _ _), Nat.add_sub_cancel_left]
theorem ap_l {P R : List MCell} {i : Nat} {c : MCell} (h : P[i]? = some c) : (P ++ R)[i]? = some c := by
  rw [List.getElem?_append_left (List.getElem?_eq_some_iff.mp h).1]
  exact h
theorem ap_sl {P P' R : List MCell} {i : Nat} {x : MCell} (hi : i < P.length) (h : P.set i x = P') : (P ++ R).set i x = P' ++ R := by
  rw [List.set_append_left _ _ hi, h]
theorem K_new {d : Nat} {M : MInfo} {fc fs : Nat} {Q : Option Value → MH → Prop} {pc : Nat} {L : MLoc} {st : List Value} {k1 ci n s n' s' : Nat} {C l l' : List MCell} {Cn : String} {T : u_T} {N : Nat} {ty0 : Nat → FieldType} {vs : List Value} (hd : decode M.2.1 pc = .ok (.new k1, 3)) (hci : ci < 9) (hc : vwCl[ci]? = some (Cn, T, N)) (hin : ∀ w ∈ u_ws Cn T N, w ∈ ALLW) (hty : ∀ k, k < N → parseFieldDescriptor (T k).2.2.1 = some (ty0 k)) (hw1 : Cond.classLink M.2.2.2.2 k1 Cn ∈ ALLW) (hw2 : Cond.instantiable Cn N ∈ ALLW) (hw3 : Cond.initialized Cn ∈ ALLW) (hvs : vs.length = N) (hfs : ∀ (G : GC) (j : Nat), j < N → defaultValue (ty0 j) = vp_V (vs.map (up G)) j) (hn : n + 1 = n') (hs : s + N = s') (hb1 : n' ≤ fc) (hb2 : s' ≤ fs) (hl : l ++ [(ci, .inl vs)] = l') (kk : J d M fc fs Q (pc + 3) L (.ref n :: st) (n', (s', C ++ l'))) : J d M fc fs Q pc L st (n, (s, C ++ l)) := by
  subst hn
  subst hs
  subst hl
  refine J_new hd hci hc hin hty hw1 hw2 hw3 hvs hfs hb1 hb2 ?_
  rw [← List.append_assoc] at kk
  exact kk
theorem K_arr {d : Nat} {M : MInfo} {fc fs : Nat} {Q : Option Value → MH → Prop} {pc : Nat} {L : MLoc} {st : List Value} {t N n s n' s' : Nat} {C l l' : List MCell} {aT : ArrayType} {ty : FieldType} (hd : decode M.2.1 pc = .ok (.newarray aT, 2)) (hw : Cond.arrayClass ty ∈ ALLW) (hty : newarray.typeOf aT = ty) (hat : aty t = some ty) (hdf : defaultValue ty = .int 0) (hN : N < 3000) (hbyt : N * componentBytes ty ≤ 536870912) (hn : n + 1 = n') (hs : s + N = s') (hb1 : n' ≤ fc) (hb2 : s' ≤ fs) (hl : l ++ [(t, .inr (.inl (List.replicate N 0)))] = l') (kk : J d M fc fs Q (pc + 2) L (.ref n :: st) (n', (s', C ++ l'))) : J d M fc fs Q pc L (.int (nI N) :: st) (n, (s, C ++ l)) := by
  subst hn
  subst hs
  subst hl
  refine J_newarray (N := N) hd hw hty hat hdf (nI_pos (by omega)) (nI_clamp (by omega)) hbyt hb1 hb2 ?_
  rw [← List.append_assoc] at kk
  exact kk
theorem K_arrL {d : Nat} {M : MInfo} {fc fs : Nat} {Q : Option Value → MH → Prop} {pc : Nat} {L : MLoc} {st : List Value} {N n s n' s' : Nat} {C l l' : List MCell} (hd : decode M.2.1 pc = .ok (.newarray .long, 2)) (hN : N < 3000) (hbyt : N * componentBytes .long ≤ 536870912) (hn : n + 1 = n') (hs : s + N = s') (hb1 : n' ≤ fc) (hb2 : s' ≤ fs) (hl : l ++ [(21, .inr (.inr (List.replicate N 0)))] = l') (kk : J d M fc fs Q (pc + 2) L (.ref n :: st) (n', (s', C ++ l'))) : J d M fc fs Q pc L (.int (nI N) :: st) (n, (s, C ++ l)) := by
  subst hn
  subst hs
  subst hl
  refine J_newarrayL (N := N) hd w_arr_long (nI_pos (by omega)) (nI_clamp (by omega)) hbyt hb1 hb2 ?_
  rw [← List.append_assoc] at kk
  exact kk
theorem K_arrR {d : Nat} {M : MInfo} {fc fs : Nat} {Q : Option Value → MH → Prop} {pc : Nat} {L : MLoc} {st : List Value} {ci k1 N n s n' s' : Nat} {C l l' : List MCell} {Cn : String} {T : u_T} {Nf : Nat} (hd : decode M.2.1 pc = .ok (.anewarray k1, 3)) (hci : ci < 9) (hc : vwCl[ci]? = some (Cn, T, Nf)) (hw1 : Cond.classLink M.2.2.2.2 k1 Cn ∈ ALLW) (hw2 : Cn = "MarkOffice$Text" ∨ Cn = "MarkOffice$Now") (hN : N < 3000) (hn : n + 1 = n') (hs : s + N = s') (hb1 : n' ≤ fc) (hb2 : s' ≤ fs) (hl : l ++ [(30 + ci, .inl (List.replicate N .null))] = l') (kk : J d M fc fs Q (pc + 3) L (.ref n :: st) (n', (s', C ++ l'))) : J d M fc fs Q pc L (.int (nI N) :: st) (n, (s, C ++ l)) := by
  subst hn
  subst hs
  subst hl
  refine J_anewarray (N := N) hd hci hc hw1 hw2 (nI_pos (by omega)) (nI_clamp (by omega)) (by omega) hb1 hb2 ?_
  rw [← List.append_assoc] at kk
  exact kk
theorem K_putF {d : Nat} {M : MInfo} {fc fs : Nat} {Q : Option Value → MH → Prop} {pc : Nat} {L : MLoc} {st : List Value} {k1 ci f a k i n s : Nat} {C l l' : List MCell} {vs vs' : List Value} {v : Value} {ty : FieldType} (hk : C.length = k) (h8 : 8 ≤ k) (hd : decode M.2.1 pc = .ok (.putfield k1, 3)) (hi0 : M.1.name = "<init>") (hf : FPF M.2.2.2.2 k1 ci f ty) (ha : a = k + i) (h0 : l[i]? = some (ci, .inl vs)) (hn : narrow ty v = v) (hfit : fits ty v = true) (hv : vs.set f v = vs') (hl : l.set i (ci, .inl vs') = l') (kk : J d M fc fs Q (pc + 3) L st (n, (s, C ++ l'))) : J d M fc fs Q pc L (v :: .ref a :: st) (n, (s, C ++ l)) := by
  subst ha
  subst hv
  subst hl
  refine J_putfieldF hd hi0 hf (by omega) (by rw [ap_get hk]; exact h0) hn hfit ?_
  rw [ap_set hk]
  exact kk
theorem K_put {d : Nat} {M : MInfo} {fc fs : Nat} {Q : Option Value → MH → Prop} {pc : Nat} {L : MLoc} {st : List Value} {k1 ci f a k i n s : Nat} {C l l' : List MCell} {vs vs' : List Value} {v : Value} {ty : FieldType} (hk : C.length = k) (h8 : 8 ≤ k) (hd : decode M.2.1 pc = .ok (.putfield k1, 3)) (hf : FP M.2.2.2.2 k1 ci f ty) (ha : a = k + i) (h0 : l[i]? = some (ci, .inl vs)) (hn : narrow ty v = v) (hfit : fits ty v = true) (hv : vs.set f v = vs') (hl : l.set i (ci, .inl vs') = l') (kk : J d M fc fs Q (pc + 3) L st (n, (s, C ++ l'))) : J d M fc fs Q pc L (v :: .ref a :: st) (n, (s, C ++ l)) := by
  subst ha
  subst hv
  subst hl
  refine J_putfield hd hf (by omega) (by rw [ap_get hk]; exact h0) hn hfit ?_
  rw [ap_set hk]
  exact kk
theorem K_get {d : Nat} {M : MInfo} {fc fs : Nat} {Q : Option Value → MH → Prop} {pc : Nat} {L : MLoc} {st : List Value} {k1 ci f a k i n s : Nat} {C l : List MCell} {vs : List Value} {v : Value} (hk : C.length = k) (hd : decode M.2.1 pc = .ok (.getfield k1, 3)) (hf : FS M.2.2.2.2 k1 ci f) (ha : a = k + i) (h0 : l[i]? = some (ci, .inl vs)) (hv : vs[f]? = some v) (kk : J d M fc fs Q (pc + 3) L (v :: st) (n, (s, C ++ l))) : J d M fc fs Q pc L (.ref a :: st) (n, (s, C ++ l)) := by
  subst ha
  exact J_getfield hd hf (by rw [ap_get hk]; exact h0) hv kk
theorem K_aast {d : Nat} {M : MInfo} {fc fs : Nat} {Q : Option Value → MH → Prop} {pc : Nat} {L : MLoc} {st : List Value} {ci a b i i2 j k n s : Nat} {C l l' : List MCell} {vs vs' fs1 : List Value} (hk : C.length = k) (h8 : 8 ≤ k) (hd : decode M.2.1 pc = .ok (.aastore, 1)) (hci : ci < 9) (ha : a = k + i) (hb : b = k + i2) (h0 : l[i]? = some (30 + ci, .inl vs)) (h1 : l[i2]? = some (ci, .inl fs1)) (hj : j < 3000) (hl0 : j < vs.length) (hv : vs.set j (.ref b) = vs') (hl : l.set i (30 + ci, .inl vs') = l') (kk : J d M fc fs Q (pc + 1) L st (n, (s, C ++ l'))) : J d M fc fs Q pc L (.ref b :: .int (nI j) :: .ref a :: st) (n, (s, C ++ l)) := by
  subst ha
  subst hb
  subst hv
  subst hl
  refine J_aastore (j := j) hd (by omega) hci (by rw [ap_get hk]; exact h0) (by rw [ap_get hk]; exact h1) (nI_pos (by omega)) (nI_clamp (by omega)) hl0 ?_
  rw [ap_set hk]
  exact kk
/-- a constructor: the object lies last; what it makes -/
def Ctor (d1 : Nat) (M1 : MInfo) (av : List Value) (x : MCell) (nw ns : Nat) (mk : Nat → List MCell) : Prop := ∀ (C : List MCell) (k s : Nat), C.length = k → 8 ≤ k → Call d1 M1 (.ref k :: av) (k + 1, (s, C ++ [x])) (k + nw) (s + ns) (fun r h => r = none ∧ h = (k + nw, (s + ns, C ++ mk k)))
theorem K_ctI {d : Nat} {M : MInfo} {fc fs : Nat} {Q : Option Value → MH → Prop} {pc : Nat} {L : MLoc} {rest st : List Value} {d1 k1 na nw ns k m a n s n' s' : Nat} {C l l' : List MCell} {M1 : MInfo} {av : List Value} {x : MCell} {mk : Nat → List MCell} (hk : C.length = k) (h8 : 8 ≤ k) (hd : decode M.2.1 pc = .ok (.invokespecial k1, 3)) (hsite : SI M.2.2.2.2 k1 na M1) (hc : Ctor d1 M1 av x nw ns mk) (hdd : d1 + 1 ≤ d) (hst : st = av.reverse ++ .ref a :: rest) (hna : av.length = na) (hcat : (rest.map fun v => v.category).sum ≤ 8) (hm : l.length = m) (ha : a = k + m) (h1 : n = k + m + 1) (hn : k + m + nw = n') (hs : s + ns = s') (f1 : n' ≤ fc) (f2 : s' ≤ fs) (hl : l ++ mk (k + m) = l') (kk : J d M fc fs Q (pc + 3) L rest (n', (s', C ++ l'))) : J d M fc fs Q pc L st (n, (s, C ++ (l ++ [x]))) := by
  subst ha
  subst hn
  subst hs
  subst hl
  subst h1
  have hC : (C ++ l).length = k + m := by rw [List.length_append, hk, hm]
  have hcc := hc (C ++ l) (k + m) s hC (by omega)
  rw [List.append_assoc] at hcc
  refine J_callI hd hsite hcc hdd hst hna hcat f1 f2 (fun r h1 hq => ?_)
  obtain ⟨rfl, rfl⟩ := hq
  rw [List.append_assoc]
  exact kk
theorem K_ctN {d : Nat} {M : MInfo} {fc fs : Nat} {Q : Option Value → MH → Prop} {pc : Nat} {L : MLoc} {rest st : List Value} {d1 k1 na nw ns k m a n s n' s' : Nat} {C l l' : List MCell} {M1 : MInfo} {av : List Value} {x : MCell} {mk : Nat → List MCell} (hk : C.length = k) (h8 : 8 ≤ k) (hd : decode M.2.1 pc = .ok (.invokespecial k1, 3)) (hsite : SIN M.2.2.2.2 k1 na M1) (hc : Ctor d1 M1 av x nw ns mk) (hdd : d1 + 1 ≤ d) (hst : st = av.reverse ++ .ref a :: rest) (hna : av.length = na) (hcat : (rest.map fun v => v.category).sum ≤ 8) (hm : l.length = m) (ha : a = k + m) (h1 : n = k + m + 1) (hn : k + m + nw = n') (hs : s + ns = s') (f1 : n' ≤ fc) (f2 : s' ≤ fs) (hl : l ++ mk (k + m) = l') (kk : J d M fc fs Q (pc + 3) L rest (n', (s', C ++ l'))) : J d M fc fs Q pc L st (n, (s, C ++ (l ++ [x]))) := by
  subst ha
  subst hn
  subst hs
  subst hl
  subst h1
  have hC : (C ++ l).length = k + m := by rw [List.length_append, hk, hm]
  have hcc := hc (C ++ l) (k + m) s hC (by omega)
  rw [List.append_assoc] at hcc
  refine J_callIN hd hsite hcc hdd hst hna hcat f1 f2 (fun r h1 hq => ?_)
  obtain ⟨rfl, rfl⟩ := hq
  rw [List.append_assoc]
  exact kk
theorem dfl_0 : ∀ j, j < 11 → defaultValue (tyX0 j) = vp_V [.null, .null, .null, .int 0, .int 0, .int 0, .int 0, .int 0, .null, .null, .null] j := by decide +kernel
theorem dfl_1 : ∀ j, j < 2 → defaultValue (tyX1 j) = vp_V [.null, .int 0] j := by decide +kernel
theorem dfl_2 : ∀ j, j < 7 → defaultValue (tyX2 j) = vp_V [.int 0, .null, .int 0, .int 0, .int 0, .int 0, .null] j := by decide +kernel
theorem dfl_3 : ∀ j, j < 7 → defaultValue (tyX3 j) = vp_V [.null, .int 0, .int 0, .int 0, .null, .int 0, .int 0] j := by decide +kernel
theorem dfl_4 : ∀ j, j < 3 → defaultValue (tyX4 j) = vp_V [.null, .int 0, .int 0] j := by decide +kernel
theorem dfl_5 : ∀ j, j < 12 → defaultValue (tyX6 j) = vp_V [.null, .int 0, .int 0, .int 0, .int 0, .int 0, .int 0, .int 0, .int 0, .null, .null, .null] j := by decide +kernel
theorem dfl_6 : ∀ j, j < 6 → defaultValue (tyX7 j) = vp_V [.null, .null, .null, .null, .int 0, .int 0] j := by decide +kernel
theorem dfl_7 : ∀ j, j < 13 → defaultValue (tyX8 j) = vp_V [.null, .int 0, .int 0, .int 0, .null, .null, .null, .null, .null, .null, .null, .null, .null] j := by decide +kernel
theorem dfl_8 : ∀ j, j < 37 → defaultValue (tyX9 j) = vp_V [.null, .null, .null, .null, .null, .null, .null, .null, .null, .int 0, .int 0, .int 0, .int 0, .int 0, .int 0, .int 0, .long 0, .int 0, .int 0, .int 0, .null, .null, .int 0, .int 0, .int 0, .int 0, .int 0, .null, .null, .null, .int 0, .int 0, .null, .null, .null, .null, .int 0] j := by decide +kernel
def nowC (k : Nat) : List MCell := (([(2, .inl [.int 0, .ref (k + 1), .int 0, .int 0, .int (nI 431), .int 0, .ref (k + 2)])] ++ [(20, .inr (.inl (List.replicate 8 0)))]) ++ [(20, .inr (.inl (List.replicate 25 0)))])
theorem ct_N_init : Ctor 1 m_N_init [] (2, .inl [.int 0, .null, .int 0, .int 0, .int 0, .int 0, .null]) 3 33 nowC := fun C k s hk h8 => by
  refine Call_of (L := [some (.ref k)]) 0 ok_N_init (fun _ => Nat.le_of_ble_eq_true rfl) (show k + 1 ≤ k + 3 by omega) (show s ≤ s + 33 by omega) rfl ?_
  refine J_aload_n (i := 0) d_N_init_0 rfl rfl ?_
  refine J_objInit d_N_init_1 w_N_3 w_objInit_i w_objInit_c (by decide) (Nat.le_of_ble_eq_true rfl) ?_
  refine J_aload_n (i := 0) d_N_init_4 rfl rfl ?_
  refine J_bipush (v := nI 8) d_N_init_5 rfl ?_
  refine K_arr (n' := k + 2) (s' := s + 8) (l' := ([(2, .inl [.int 0, .null, .int 0, .int 0, .int 0, .int 0, .null])] ++ [(20, .inr (.inl (List.replicate 8 0)))])) d_N_init_7 w_arr_int rfl (t := 20) rfl rfl (by decide) (by decide) rfl rfl (by omega) (by omega) rfl ?_
  refine K_putF (i := 0) (vs' := [.int 0, .ref (k + 1), .int 0, .int 0, .int 0, .int 0, .null]) (l' := ([(2, .inl [.int 0, .ref (k + 1), .int 0, .int 0, .int 0, .int 0, .null])] ++ [(20, .inr (.inl (List.replicate 8 0)))])) hk h8 d_N_init_9 rfl p_N_9 rfl rfl rfl rfl rfl rfl ?_
  refine J_aload_n (i := 0) d_N_init_12 rfl rfl ?_
  refine J_sipush (v := nI 431) d_N_init_13 rfl ?_
  refine K_put (i := 0) (vs' := [.int 0, .ref (k + 1), .int 0, .int 0, .int (nI 431), .int 0, .null]) (l' := ([(2, .inl [.int 0, .ref (k + 1), .int 0, .int 0, .int (nI 431), .int 0, .null])] ++ [(20, .inr (.inl (List.replicate 8 0)))])) hk h8 d_N_init_16 p_N_15 rfl rfl rfl rfl rfl rfl ?_
  refine J_aload_n (i := 0) d_N_init_19 rfl rfl ?_
  refine J_bipush (v := nI 25) d_N_init_20 rfl ?_
  refine K_arr (n' := k + 3) (s' := s + 33) (l' := (([(2, .inl [.int 0, .ref (k + 1), .int 0, .int 0, .int (nI 431), .int 0, .null])] ++ [(20, .inr (.inl (List.replicate 8 0)))]) ++ [(20, .inr (.inl (List.replicate 25 0)))])) d_N_init_22 w_arr_int rfl (t := 20) rfl rfl (by decide) (by decide) rfl rfl (by omega) (by omega) rfl ?_
  refine K_putF (i := 0) (vs' := [.int 0, .ref (k + 1), .int 0, .int 0, .int (nI 431), .int 0, .ref (k + 2)]) (l' := (([(2, .inl [.int 0, .ref (k + 1), .int 0, .int 0, .int (nI 431), .int 0, .ref (k + 2)])] ++ [(20, .inr (.inl (List.replicate 8 0)))]) ++ [(20, .inr (.inl (List.replicate 25 0)))])) hk h8 d_N_init_24 rfl p_N_19 rfl rfl rfl rfl rfl rfl ?_
  exact J_return d_N_init_27 rfl rfl rfl ⟨rfl, rfl⟩
theorem nowC_len (k : Nat) : (nowC k).length = 3 := rfl

def stpL (k : Nat) : Nat → List MCell
  | 0 => []
  | i + 1 => stpL k i ++ nowC (k + (2 + 3 * i))
def stpF (k i : Nat) : Nat → Value := fun j => if j < i then .ref (k + (2 + 3 * j)) else .null
def stpA (k i : Nat) : List MCell := [(4, .inl [.ref (k + 1), .int 0, .int 0]), (32, .inl (ofF 30 (stpF k i)))] ++ stpL k i
def stpsC (k : Nat) : List MCell := stpA k 30
theorem stpL_len (k : Nat) : ∀ i, (stpL k i).length = 3 * i
  | 0 => rfl
  | i + 1 => by
    show (stpL k i ++ nowC (k + (2 + 3 * i))).length = 3 * (i + 1)
    rw [List.length_append, stpL_len k i, show (nowC (k + (2 + 3 * i))).length = 3 from rfl]
    omega
theorem stpA_len (k i : Nat) : (stpA k i).length = 2 + 3 * i := by
  unfold stpA
  rw [List.length_append, stpL_len]
  rfl
theorem stpsC_len (k : Nat) : (stpsC k).length = 92 := stpA_len k 30
theorem stpF_up {k i : Nat} : (ofF 30 (stpF k i)).set i (.ref (k + (2 + 3 * i))) = ofF 30 (stpF k (i + 1)) := by
  rw [ofF_set]
  refine ofF_cong (fun j _ => ?_)
  show (if j = i then .ref (k + (2 + 3 * i)) else (if j < i then .ref (k + (2 + 3 * j)) else .null)) = (if j < i + 1 then Value.ref (k + (2 + 3 * j)) else .null)
  by_cases c : j = i
  · rw [if_pos c, if_pos (by omega), c]
  · rw [if_neg c]
    by_cases c2 : j < i
    · rw [if_pos c2, if_pos (by omega)]
    · rw [if_neg c2, if_neg (by omega)]
theorem stpA_up {k i : Nat} : (stpA k i ++ nowC (k + (2 + 3 * i))).set 1 (30 + 2, .inl (ofF 30 (stpF k (i + 1)))) = stpA k (i + 1) := rfl
theorem stpA_at {k i : Nat} : (stpA k i ++ nowC (k + (2 + 3 * i)))[2 + 3 * i]? = some (2, .inl [.int 0, .ref (k + (2 + 3 * i) + 1), .int 0, .int 0, .int (nI 431), .int 0, .ref (k + (2 + 3 * i) + 2)]) := by
  rw [List.getElem?_append_right (by rw [stpA_len]; exact Nat.le_refl _), stpA_len, Nat.sub_self]
  rfl
theorem lp_S_init {C : List MCell} {k s : Nat} {Q : Option Value → MH → Prop} (hk : C.length = k) (h8 : 8 ≤ k) (kq : Q none (k + 92, (s + 1230, C ++ stpsC k))) : ∀ (n i : Nat) (n' s' : Nat), i + n = 30 → n' = k + (2 + 3 * i) → s' = s + 30 + 40 * i → J 2 m_S_init (k + 92) (s + 1230) Q 15 [some (.ref k), some (.int (nI i))] [] (n', (s', C ++ stpA k i)) := by
  intro n
  induction n with
  | zero =>
    intro i n' s' hi hn hs
    have h30 : i = 30 := by omega
    subst h30
    subst hn
    subst hs
    refine J_iload_n (i := 1) d_S_init_15 rfl rfl ?_
    refine J_bipush (v := nI 30) d_S_init_16 rfl ?_
    refine J_icmp_ge (tgt := 40) d_S_init_18 (by decide) (fun _ => ?_) (fun h => absurd (by decide) h)
    exact J_return d_S_init_40 rfl (by show k + 92 = k + 92; rfl) (by show s + 30 + 40 * 30 = s + 1230; omega) (by
      show Q none (k + 92, (s + 30 + 40 * 30, C ++ stpsC k))
      rw [show s + 30 + 40 * 30 = s + 1230 by omega]
      exact kq)
  | succ n ih =>
    intro i n' s' hi hn hs
    subst hn
    subst hs
    refine J_iload_n (i := 1) d_S_init_15 rfl rfl ?_
    refine J_bipush (v := nI 30) d_S_init_16 rfl ?_
    refine N_icmp_ge (tgt := 40) d_S_init_18 (by decide) (by omega) (by omega) (fun h => absurd h (by omega)) (fun _ => ?_)
    refine J_aload_n (i := 0) d_S_init_21 rfl rfl ?_
    refine K_get (i := 0) (v := .ref (k + 1)) hk d_S_init_22 f_S_11 rfl rfl rfl ?_
    refine J_iload_n (i := 1) d_S_init_25 rfl rfl ?_
    refine K_new (ty0 := tyX2) (vs := [.int 0, .null, .int 0, .int 0, .int 0, .int 0, .null]) (n' := k + (2 + 3 * i) + 1) (s' := s + 30 + 40 * i + 7) (l' := stpA k i ++ [(2, .inl [.int 0, .null, .int 0, .int 0, .int 0, .int 0, .null])]) d_S_init_26 (by decide) rfl cw_2 tyX2_ok w_S_9 w_inst_2 w_init_2 rfl (fun _ => dfl_2) rfl rfl (by omega) (by omega) rfl ?_
    refine J_dup d_S_init_29 rfl ?_
    refine K_ctN (av := []) (m := 2 + 3 * i) (n' := k + (2 + 3 * i) + 3) (s' := s + 30 + 40 * i + 7 + 33) (l' := stpA k i ++ nowC (k + (2 + 3 * i))) hk h8 d_S_init_30 s_S_17 ct_N_init (by decide) rfl rfl (Nat.le_of_ble_eq_true rfl) (stpA_len k i) rfl rfl rfl rfl (by omega) (by omega) rfl ?_
    refine K_aast (ci := 2) (i := 1) (i2 := 2 + 3 * i) (j := i) (vs := ofF 30 (stpF k i)) (vs' := ofF 30 (stpF k (i + 1))) (l' := stpA k (i + 1)) hk h8 d_S_init_33 (by decide) rfl rfl rfl stpA_at (by omega) (by rw [ofF_len]; omega) stpF_up stpA_up ?_
    refine N_iinc (a := i) (c := 1) (L1 := [some (.ref k), some (.int (nI (i + 1)))]) d_S_init_34 rfl rfl (by decide) rfl ?_
    refine J_goto (tgt := 15) d_S_init_37 (by decide) ?_
    exact ih (i + 1) _ _ (by omega) (by omega) (by omega)
theorem ct_S_init : Ctor 2 m_S_init [] (4, .inl [.null, .int 0, .int 0]) 92 1230 stpsC := fun C k s hk h8 => by
  refine Call_of (L := [some (.ref k), none]) 1 ok_S_init (fun _ => Nat.le_of_ble_eq_true rfl) (show k + 1 ≤ k + 92 by omega) (show s ≤ s + 1230 by omega) rfl ?_
  refine J_aload_n (i := 0) d_S_init_0 rfl rfl ?_
  refine J_objInit d_S_init_1 w_S_3 w_objInit_i w_objInit_c (by decide) (Nat.le_of_ble_eq_true rfl) ?_
  refine J_aload_n (i := 0) d_S_init_4 rfl rfl ?_
  refine J_bipush (v := nI 30) d_S_init_5 rfl ?_
  refine K_arrR (ci := 2) (N := 30) (n' := k + 2) (s' := s + 30) (l' := ([(4, .inl [.null, .int 0, .int 0])] ++ [(32, .inl (List.replicate 30 .null))])) d_S_init_7 (by decide) rfl w_S_9 (Or.inr rfl) (by decide) rfl rfl (by omega) (by omega) rfl ?_
  refine K_putF (i := 0) (vs' := [.ref (k + 1), .int 0, .int 0]) (l' := stpA k 0) hk h8 d_S_init_10 rfl p_S_11 rfl rfl rfl rfl rfl rfl ?_
  refine J_iconst (v := nI 0) d_S_init_13 rfl ?_
  refine J_istore_n (i := 1) (L1 := [some (.ref k), some (.int (nI 0))]) d_S_init_14 rfl (by decide) rfl ?_
  exact lp_S_init hk h8 ⟨rfl, rfl⟩ 30 0 _ _ rfl rfl rfl

def lawsC (k : Nat) : List MCell := ([(1, .inl [.ref (k + 1), .int 0])] ++ [(20, .inr (.inl (List.replicate 300 0)))])
theorem ct_L_init : Ctor 1 m_L_init [] (1, .inl [.null, .int 0]) 2 300 lawsC := fun C k s hk h8 => by
  refine Call_of (L := [some (.ref k)]) 0 ok_L_init (fun _ => Nat.le_of_ble_eq_true rfl) (show k + 1 ≤ k + 2 by omega) (show s ≤ s + 300 by omega) rfl ?_
  refine J_aload_n (i := 0) d_L_init_0 rfl rfl ?_
  refine J_objInit d_L_init_1 w_L_3 w_objInit_i w_objInit_c (by decide) (Nat.le_of_ble_eq_true rfl) ?_
  refine J_aload_n (i := 0) d_L_init_4 rfl rfl ?_
  refine J_sipush (v := nI 300) d_L_init_5 rfl ?_
  refine K_arr (n' := k + 2) (s' := s + 300) (l' := ([(1, .inl [.null, .int 0])] ++ [(20, .inr (.inl (List.replicate 300 0)))])) d_L_init_8 w_arr_int rfl (t := 20) rfl rfl (by decide) (by decide) rfl rfl (by omega) (by omega) rfl ?_
  refine K_putF (i := 0) (vs' := [.ref (k + 1), .int 0]) (l' := ([(1, .inl [.ref (k + 1), .int 0])] ++ [(20, .inr (.inl (List.replicate 300 0)))])) hk h8 d_L_init_10 rfl p_L_9 rfl rfl rfl rfl rfl rfl ?_
  exact J_return d_L_init_13 rfl rfl rfl ⟨rfl, rfl⟩
theorem lawsC_len (k : Nat) : (lawsC k).length = 2 := rfl

def textC (k : Nat) : List MCell := (((([(5, .inl [.ref (k + 1), .int 0, .int 0, .int 0, .int 0, .int 0, .int 0, .int 0, .int 0, .ref (k + 2), .ref (k + 3), .ref (k + 4)])] ++ [(20, .inr (.inl (List.replicate 300 0)))]) ++ [(20, .inr (.inl (List.replicate 24 0)))]) ++ [(20, .inr (.inl (List.replicate 24 0)))]) ++ [(20, .inr (.inl (List.replicate 24 0)))])
theorem ct_T_init : Ctor 1 m_T_init [] (5, .inl [.null, .int 0, .int 0, .int 0, .int 0, .int 0, .int 0, .int 0, .int 0, .null, .null, .null]) 5 372 textC := fun C k s hk h8 => by
  refine Call_of (L := [some (.ref k)]) 0 ok_T_init (fun _ => Nat.le_of_ble_eq_true rfl) (show k + 1 ≤ k + 5 by omega) (show s ≤ s + 372 by omega) rfl ?_
  refine J_aload_n (i := 0) d_T_init_0 rfl rfl ?_
  refine J_objInit d_T_init_1 w_T_3 w_objInit_i w_objInit_c (by decide) (Nat.le_of_ble_eq_true rfl) ?_
  refine J_aload_n (i := 0) d_T_init_4 rfl rfl ?_
  refine J_sipush (v := nI 300) d_T_init_5 rfl ?_
  refine K_arr (n' := k + 2) (s' := s + 300) (l' := ([(5, .inl [.null, .int 0, .int 0, .int 0, .int 0, .int 0, .int 0, .int 0, .int 0, .null, .null, .null])] ++ [(20, .inr (.inl (List.replicate 300 0)))])) d_T_init_8 w_arr_int rfl (t := 20) rfl rfl (by decide) (by decide) rfl rfl (by omega) (by omega) rfl ?_
  refine K_putF (i := 0) (vs' := [.ref (k + 1), .int 0, .int 0, .int 0, .int 0, .int 0, .int 0, .int 0, .int 0, .null, .null, .null]) (l' := ([(5, .inl [.ref (k + 1), .int 0, .int 0, .int 0, .int 0, .int 0, .int 0, .int 0, .int 0, .null, .null, .null])] ++ [(20, .inr (.inl (List.replicate 300 0)))])) hk h8 d_T_init_10 rfl p_T_9 rfl rfl rfl rfl rfl rfl ?_
  refine J_aload_n (i := 0) d_T_init_13 rfl rfl ?_
  refine J_bipush (v := nI 24) d_T_init_14 rfl ?_
  refine K_arr (n' := k + 3) (s' := s + 324) (l' := (([(5, .inl [.ref (k + 1), .int 0, .int 0, .int 0, .int 0, .int 0, .int 0, .int 0, .int 0, .null, .null, .null])] ++ [(20, .inr (.inl (List.replicate 300 0)))]) ++ [(20, .inr (.inl (List.replicate 24 0)))])) d_T_init_16 w_arr_int rfl (t := 20) rfl rfl (by decide) (by decide) rfl rfl (by omega) (by omega) rfl ?_
  refine K_putF (i := 0) (vs' := [.ref (k + 1), .int 0, .int 0, .int 0, .int 0, .int 0, .int 0, .int 0, .int 0, .ref (k + 2), .null, .null]) (l' := (([(5, .inl [.ref (k + 1), .int 0, .int 0, .int 0, .int 0, .int 0, .int 0, .int 0, .int 0, .ref (k + 2), .null, .null])] ++ [(20, .inr (.inl (List.replicate 300 0)))]) ++ [(20, .inr (.inl (List.replicate 24 0)))])) hk h8 d_T_init_18 rfl p_T_15 rfl rfl rfl rfl rfl rfl ?_
  refine J_aload_n (i := 0) d_T_init_21 rfl rfl ?_
  refine J_bipush (v := nI 24) d_T_init_22 rfl ?_
  refine K_arr (n' := k + 4) (s' := s + 348) (l' := ((([(5, .inl [.ref (k + 1), .int 0, .int 0, .int 0, .int 0, .int 0, .int 0, .int 0, .int 0, .ref (k + 2), .null, .null])] ++ [(20, .inr (.inl (List.replicate 300 0)))]) ++ [(20, .inr (.inl (List.replicate 24 0)))]) ++ [(20, .inr (.inl (List.replicate 24 0)))])) d_T_init_24 w_arr_int rfl (t := 20) rfl rfl (by decide) (by decide) rfl rfl (by omega) (by omega) rfl ?_
  refine K_putF (i := 0) (vs' := [.ref (k + 1), .int 0, .int 0, .int 0, .int 0, .int 0, .int 0, .int 0, .int 0, .ref (k + 2), .ref (k + 3), .null]) (l' := ((([(5, .inl [.ref (k + 1), .int 0, .int 0, .int 0, .int 0, .int 0, .int 0, .int 0, .int 0, .ref (k + 2), .ref (k + 3), .null])] ++ [(20, .inr (.inl (List.replicate 300 0)))]) ++ [(20, .inr (.inl (List.replicate 24 0)))]) ++ [(20, .inr (.inl (List.replicate 24 0)))])) hk h8 d_T_init_26 rfl p_T_18 rfl rfl rfl rfl rfl rfl ?_
  refine J_aload_n (i := 0) d_T_init_29 rfl rfl ?_
  refine J_bipush (v := nI 24) d_T_init_30 rfl ?_
  refine K_arr (n' := k + 5) (s' := s + 372) (l' := (((([(5, .inl [.ref (k + 1), .int 0, .int 0, .int 0, .int 0, .int 0, .int 0, .int 0, .int 0, .ref (k + 2), .ref (k + 3), .null])] ++ [(20, .inr (.inl (List.replicate 300 0)))]) ++ [(20, .inr (.inl (List.replicate 24 0)))]) ++ [(20, .inr (.inl (List.replicate 24 0)))]) ++ [(20, .inr (.inl (List.replicate 24 0)))])) d_T_init_32 w_arr_int rfl (t := 20) rfl rfl (by decide) (by decide) rfl rfl (by omega) (by omega) rfl ?_
  refine K_putF (i := 0) (vs' := [.ref (k + 1), .int 0, .int 0, .int 0, .int 0, .int 0, .int 0, .int 0, .int 0, .ref (k + 2), .ref (k + 3), .ref (k + 4)]) (l' := (((([(5, .inl [.ref (k + 1), .int 0, .int 0, .int 0, .int 0, .int 0, .int 0, .int 0, .int 0, .ref (k + 2), .ref (k + 3), .ref (k + 4)])] ++ [(20, .inr (.inl (List.replicate 300 0)))]) ++ [(20, .inr (.inl (List.replicate 24 0)))]) ++ [(20, .inr (.inl (List.replicate 24 0)))]) ++ [(20, .inr (.inl (List.replicate 24 0)))])) hk h8 d_T_init_34 rfl p_T_21 rfl rfl rfl rfl rfl rfl ?_
  exact J_return d_T_init_37 rfl rfl rfl ⟨rfl, rfl⟩
theorem textC_len (k : Nat) : (textC k).length = 5 := rfl

def tokC (tp : Nat) (k : Nat) : List MCell := ((([(6, .inl [.ref (k + 1), .ref (k + 2), .ref (k + 3), .ref tp, .int 0, .int 0])] ++ [(20, .inr (.inl (List.replicate 301 0)))]) ++ [(20, .inr (.inl (List.replicate 301 0)))]) ++ [(20, .inr (.inl (List.replicate 301 0)))])
theorem ct_G_init {tp : Nat} : Ctor 1 m_G_init [.ref tp] (6, .inl [.null, .null, .null, .null, .int 0, .int 0]) 4 903 (tokC tp) := fun C k s hk h8 => by
  refine Call_of (L := [some (.ref k), some (.ref tp)]) 0 ok_G_init (fun _ => Nat.le_of_ble_eq_true rfl) (show k + 1 ≤ k + 4 by omega) (show s ≤ s + 903 by omega) rfl ?_
  refine J_aload_n (i := 0) d_G_init_0 rfl rfl ?_
  refine J_objInit d_G_init_1 w_G_3 w_objInit_i w_objInit_c (by decide) (Nat.le_of_ble_eq_true rfl) ?_
  refine J_aload_n (i := 0) d_G_init_4 rfl rfl ?_
  refine J_sipush (v := nI 301) d_G_init_5 rfl ?_
  refine K_arr (n' := k + 2) (s' := s + 301) (l' := ([(6, .inl [.null, .null, .null, .null, .int 0, .int 0])] ++ [(20, .inr (.inl (List.replicate 301 0)))])) d_G_init_8 w_arr_int rfl (t := 20) rfl rfl (by decide) (by decide) rfl rfl (by omega) (by omega) rfl ?_
  refine K_putF (i := 0) (vs' := [.ref (k + 1), .null, .null, .null, .int 0, .int 0]) (l' := ([(6, .inl [.ref (k + 1), .null, .null, .null, .int 0, .int 0])] ++ [(20, .inr (.inl (List.replicate 301 0)))])) hk h8 d_G_init_10 rfl p_G_9 rfl rfl rfl rfl rfl rfl ?_
  refine J_aload_n (i := 0) d_G_init_13 rfl rfl ?_
  refine J_sipush (v := nI 301) d_G_init_14 rfl ?_
  refine K_arr (n' := k + 3) (s' := s + 602) (l' := (([(6, .inl [.ref (k + 1), .null, .null, .null, .int 0, .int 0])] ++ [(20, .inr (.inl (List.replicate 301 0)))]) ++ [(20, .inr (.inl (List.replicate 301 0)))])) d_G_init_17 w_arr_int rfl (t := 20) rfl rfl (by decide) (by decide) rfl rfl (by omega) (by omega) rfl ?_
  refine K_putF (i := 0) (vs' := [.ref (k + 1), .ref (k + 2), .null, .null, .int 0, .int 0]) (l' := (([(6, .inl [.ref (k + 1), .ref (k + 2), .null, .null, .int 0, .int 0])] ++ [(20, .inr (.inl (List.replicate 301 0)))]) ++ [(20, .inr (.inl (List.replicate 301 0)))])) hk h8 d_G_init_19 rfl p_G_15 rfl rfl rfl rfl rfl rfl ?_
  refine J_aload_n (i := 0) d_G_init_22 rfl rfl ?_
  refine J_sipush (v := nI 301) d_G_init_23 rfl ?_
  refine K_arr (n' := k + 4) (s' := s + 903) (l' := ((([(6, .inl [.ref (k + 1), .ref (k + 2), .null, .null, .int 0, .int 0])] ++ [(20, .inr (.inl (List.replicate 301 0)))]) ++ [(20, .inr (.inl (List.replicate 301 0)))]) ++ [(20, .inr (.inl (List.replicate 301 0)))])) d_G_init_26 w_arr_int rfl (t := 20) rfl rfl (by decide) (by decide) rfl rfl (by omega) (by omega) rfl ?_
  refine K_putF (i := 0) (vs' := [.ref (k + 1), .ref (k + 2), .ref (k + 3), .null, .int 0, .int 0]) (l' := ((([(6, .inl [.ref (k + 1), .ref (k + 2), .ref (k + 3), .null, .int 0, .int 0])] ++ [(20, .inr (.inl (List.replicate 301 0)))]) ++ [(20, .inr (.inl (List.replicate 301 0)))]) ++ [(20, .inr (.inl (List.replicate 301 0)))])) hk h8 d_G_init_28 rfl p_G_18 rfl rfl rfl rfl rfl rfl ?_
  refine J_aload_n (i := 0) d_G_init_31 rfl rfl ?_
  refine J_aload_n (i := 1) d_G_init_32 rfl rfl ?_
  refine K_putF (i := 0) (vs' := [.ref (k + 1), .ref (k + 2), .ref (k + 3), .ref tp, .int 0, .int 0]) (l' := ((([(6, .inl [.ref (k + 1), .ref (k + 2), .ref (k + 3), .ref tp, .int 0, .int 0])] ++ [(20, .inr (.inl (List.replicate 301 0)))]) ++ [(20, .inr (.inl (List.replicate 301 0)))]) ++ [(20, .inr (.inl (List.replicate 301 0)))])) hk h8 d_G_init_33 rfl p_G_21 rfl rfl rfl rfl rfl rfl ?_
  exact J_return d_G_init_36 rfl rfl rfl ⟨rfl, rfl⟩
theorem tokC_len {tp : Nat} (k : Nat) : (tokC tp k).length = 4 := rfl

def readC (tp : Nat) (k : Nat) : List MCell := ([(3, .inl [.ref (k + 1), .int 0, .int 0, .int 0, .null, .int 0, .int 0])] ++ (tokC tp (k + 1)))
theorem ct_D_init {tp : Nat} : Ctor 2 m_D_init [.ref tp] (3, .inl [.null, .int 0, .int 0, .int 0, .null, .int 0, .int 0]) 5 909 (readC tp) := fun C k s hk h8 => by
  refine Call_of (L := [some (.ref k), some (.ref tp)]) 0 ok_D_init (fun _ => Nat.le_of_ble_eq_true rfl) (show k + 1 ≤ k + 5 by omega) (show s ≤ s + 909 by omega) rfl ?_
  refine J_aload_n (i := 0) d_D_init_0 rfl rfl ?_
  refine J_objInit d_D_init_1 w_D_3 w_objInit_i w_objInit_c (by decide) (Nat.le_of_ble_eq_true rfl) ?_
  refine J_aload_n (i := 0) d_D_init_4 rfl rfl ?_
  refine K_new (ty0 := tyX7) (vs := [.null, .null, .null, .null, .int 0, .int 0]) (n' := k + 2) (s' := s + 6) (l' := ([(3, .inl [.null, .int 0, .int 0, .int 0, .null, .int 0, .int 0])] ++ [(6, .inl [.null, .null, .null, .null, .int 0, .int 0])])) d_D_init_5 (by decide) rfl cw_6 tyX7_ok w_D_9 w_inst_6 w_init_6 rfl (fun _ => dfl_6) rfl rfl (by omega) (by omega) rfl ?_
  refine J_dup d_D_init_8 rfl ?_
  refine J_aload_n (i := 1) d_D_init_9 rfl rfl ?_
  refine K_ctI (av := [.ref tp]) (m := 1) (n' := k + 5) (s' := s + 909) (l' := ([(3, .inl [.null, .int 0, .int 0, .int 0, .null, .int 0, .int 0])] ++ (tokC tp (k + 1)))) hk h8 d_D_init_10 s_D_11 ct_G_init (by decide) rfl rfl (Nat.le_of_ble_eq_true rfl) rfl rfl rfl rfl rfl (by omega) (by omega) rfl ?_
  refine K_putF (i := 0) (vs' := [.ref (k + 1), .int 0, .int 0, .int 0, .null, .int 0, .int 0]) (l' := ([(3, .inl [.ref (k + 1), .int 0, .int 0, .int 0, .null, .int 0, .int 0])] ++ (tokC tp (k + 1)))) hk h8 d_D_init_13 rfl p_D_14 rfl rfl rfl rfl rfl rfl ?_
  exact J_return d_D_init_16 rfl rfl rfl ⟨rfl, rfl⟩
theorem readC_len {tp : Nat} (k : Nat) : (readC tp k).length = 5 := rfl

def heldC (k : Nat) : List MCell := (((((([(0, .inl [.ref (k + 1), .ref (k + 4), .ref (k + 96), .int 0, .int (-1), .int 0, .int 0, .int 0, .ref (k + 97), .ref (k + 98), .ref (k + 99)])] ++ (nowC (k + 1))) ++ (stpsC (k + 4))) ++ [(20, .inr (.inl (List.replicate 8 0)))]) ++ [(20, .inr (.inl (List.replicate 8 0)))]) ++ [(20, .inr (.inl (List.replicate 8 0)))]) ++ [(20, .inr (.inl (List.replicate 8 0)))])
theorem ct_H_init : Ctor 3 m_H_init [] (0, .inl [.null, .null, .null, .int 0, .int 0, .int 0, .int 0, .int 0, .null, .null, .null]) 100 1305 heldC := fun C k s hk h8 => by
  refine Call_of (L := [some (.ref k)]) 0 ok_H_init (fun _ => Nat.le_of_ble_eq_true rfl) (show k + 1 ≤ k + 100 by omega) (show s ≤ s + 1305 by omega) rfl ?_
  refine J_aload_n (i := 0) d_H_init_0 rfl rfl ?_
  refine J_objInit d_H_init_1 w_H_3 w_objInit_i w_objInit_c (by decide) (Nat.le_of_ble_eq_true rfl) ?_
  refine J_aload_n (i := 0) d_H_init_4 rfl rfl ?_
  refine K_new (ty0 := tyX2) (vs := [.int 0, .null, .int 0, .int 0, .int 0, .int 0, .null]) (n' := k + 2) (s' := s + 7) (l' := ([(0, .inl [.null, .null, .null, .int 0, .int 0, .int 0, .int 0, .int 0, .null, .null, .null])] ++ [(2, .inl [.int 0, .null, .int 0, .int 0, .int 0, .int 0, .null])])) d_H_init_5 (by decide) rfl cw_2 tyX2_ok w_H_9 w_inst_2 w_init_2 rfl (fun _ => dfl_2) rfl rfl (by omega) (by omega) rfl ?_
  refine J_dup d_H_init_8 rfl ?_
  refine K_ctN (av := []) (m := 1) (n' := k + 4) (s' := s + 40) (l' := ([(0, .inl [.null, .null, .null, .int 0, .int 0, .int 0, .int 0, .int 0, .null, .null, .null])] ++ (nowC (k + 1)))) hk h8 d_H_init_9 s_H_11 ct_N_init (by decide) rfl rfl (Nat.le_of_ble_eq_true rfl) rfl rfl rfl rfl rfl (by omega) (by omega) rfl ?_
  refine K_putF (i := 0) (vs' := [.ref (k + 1), .null, .null, .int 0, .int 0, .int 0, .int 0, .int 0, .null, .null, .null]) (l' := ([(0, .inl [.ref (k + 1), .null, .null, .int 0, .int 0, .int 0, .int 0, .int 0, .null, .null, .null])] ++ (nowC (k + 1)))) hk h8 d_H_init_12 rfl p_H_12 rfl rfl rfl rfl rfl rfl ?_
  refine J_aload_n (i := 0) d_H_init_15 rfl rfl ?_
  refine K_new (ty0 := tyX4) (vs := [.null, .int 0, .int 0]) (n' := k + 5) (s' := s + 43) (l' := (([(0, .inl [.ref (k + 1), .null, .null, .int 0, .int 0, .int 0, .int 0, .int 0, .null, .null, .null])] ++ (nowC (k + 1))) ++ [(4, .inl [.null, .int 0, .int 0])])) d_H_init_16 (by decide) rfl cw_4 tyX4_ok w_H_18 w_inst_4 w_init_4 rfl (fun _ => dfl_4) rfl rfl (by omega) (by omega) rfl ?_
  refine J_dup d_H_init_19 rfl ?_
  refine K_ctI (av := []) (m := 4) (n' := k + 96) (s' := s + 1273) (l' := (([(0, .inl [.ref (k + 1), .null, .null, .int 0, .int 0, .int 0, .int 0, .int 0, .null, .null, .null])] ++ (nowC (k + 1))) ++ (stpsC (k + 4)))) hk h8 d_H_init_20 s_H_20 ct_S_init (by decide) rfl rfl (Nat.le_of_ble_eq_true rfl) rfl rfl rfl rfl rfl (by omega) (by omega) rfl ?_
  refine K_putF (i := 0) (vs' := [.ref (k + 1), .ref (k + 4), .null, .int 0, .int 0, .int 0, .int 0, .int 0, .null, .null, .null]) (l' := (([(0, .inl [.ref (k + 1), .ref (k + 4), .null, .int 0, .int 0, .int 0, .int 0, .int 0, .null, .null, .null])] ++ (nowC (k + 1))) ++ (stpsC (k + 4)))) hk h8 d_H_init_23 rfl p_H_21 rfl rfl rfl rfl rfl rfl ?_
  refine J_aload_n (i := 0) d_H_init_26 rfl rfl ?_
  refine J_bipush (v := nI 8) d_H_init_27 rfl ?_
  refine K_arr (n' := k + 97) (s' := s + 1281) (l' := ((([(0, .inl [.ref (k + 1), .ref (k + 4), .null, .int 0, .int 0, .int 0, .int 0, .int 0, .null, .null, .null])] ++ (nowC (k + 1))) ++ (stpsC (k + 4))) ++ [(20, .inr (.inl (List.replicate 8 0)))])) d_H_init_29 w_arr_int rfl (t := 20) rfl rfl (by decide) (by decide) rfl rfl (by omega) (by omega) rfl ?_
  refine K_putF (i := 0) (vs' := [.ref (k + 1), .ref (k + 4), .ref (k + 96), .int 0, .int 0, .int 0, .int 0, .int 0, .null, .null, .null]) (l' := ((([(0, .inl [.ref (k + 1), .ref (k + 4), .ref (k + 96), .int 0, .int 0, .int 0, .int 0, .int 0, .null, .null, .null])] ++ (nowC (k + 1))) ++ (stpsC (k + 4))) ++ [(20, .inr (.inl (List.replicate 8 0)))])) hk h8 d_H_init_31 rfl p_H_25 rfl rfl rfl rfl rfl rfl ?_
  refine J_aload_n (i := 0) d_H_init_34 rfl rfl ?_
  refine J_iconst (v := (-1)) d_H_init_35 rfl ?_
  refine K_put (i := 0) (vs' := [.ref (k + 1), .ref (k + 4), .ref (k + 96), .int 0, .int (-1), .int 0, .int 0, .int 0, .null, .null, .null]) (l' := ((([(0, .inl [.ref (k + 1), .ref (k + 4), .ref (k + 96), .int 0, .int (-1), .int 0, .int 0, .int 0, .null, .null, .null])] ++ (nowC (k + 1))) ++ (stpsC (k + 4))) ++ [(20, .inr (.inl (List.replicate 8 0)))])) hk h8 d_H_init_36 p_H_29 rfl rfl rfl rfl rfl rfl ?_
  refine J_aload_n (i := 0) d_H_init_39 rfl rfl ?_
  refine J_bipush (v := nI 8) d_H_init_40 rfl ?_
  refine K_arr (n' := k + 98) (s' := s + 1289) (l' := (((([(0, .inl [.ref (k + 1), .ref (k + 4), .ref (k + 96), .int 0, .int (-1), .int 0, .int 0, .int 0, .null, .null, .null])] ++ (nowC (k + 1))) ++ (stpsC (k + 4))) ++ [(20, .inr (.inl (List.replicate 8 0)))]) ++ [(20, .inr (.inl (List.replicate 8 0)))])) d_H_init_42 w_arr_int rfl (t := 20) rfl rfl (by decide) (by decide) rfl rfl (by omega) (by omega) rfl ?_
  refine K_putF (i := 0) (vs' := [.ref (k + 1), .ref (k + 4), .ref (k + 96), .int 0, .int (-1), .int 0, .int 0, .int 0, .ref (k + 97), .null, .null]) (l' := (((([(0, .inl [.ref (k + 1), .ref (k + 4), .ref (k + 96), .int 0, .int (-1), .int 0, .int 0, .int 0, .ref (k + 97), .null, .null])] ++ (nowC (k + 1))) ++ (stpsC (k + 4))) ++ [(20, .inr (.inl (List.replicate 8 0)))]) ++ [(20, .inr (.inl (List.replicate 8 0)))])) hk h8 d_H_init_44 rfl p_H_33 rfl rfl rfl rfl rfl rfl ?_
  refine J_aload_n (i := 0) d_H_init_47 rfl rfl ?_
  refine J_bipush (v := nI 8) d_H_init_48 rfl ?_
  refine K_arr (n' := k + 99) (s' := s + 1297) (l' := ((((([(0, .inl [.ref (k + 1), .ref (k + 4), .ref (k + 96), .int 0, .int (-1), .int 0, .int 0, .int 0, .ref (k + 97), .null, .null])] ++ (nowC (k + 1))) ++ (stpsC (k + 4))) ++ [(20, .inr (.inl (List.replicate 8 0)))]) ++ [(20, .inr (.inl (List.replicate 8 0)))]) ++ [(20, .inr (.inl (List.replicate 8 0)))])) d_H_init_50 w_arr_int rfl (t := 20) rfl rfl (by decide) (by decide) rfl rfl (by omega) (by omega) rfl ?_
  refine K_putF (i := 0) (vs' := [.ref (k + 1), .ref (k + 4), .ref (k + 96), .int 0, .int (-1), .int 0, .int 0, .int 0, .ref (k + 97), .ref (k + 98), .null]) (l' := ((((([(0, .inl [.ref (k + 1), .ref (k + 4), .ref (k + 96), .int 0, .int (-1), .int 0, .int 0, .int 0, .ref (k + 97), .ref (k + 98), .null])] ++ (nowC (k + 1))) ++ (stpsC (k + 4))) ++ [(20, .inr (.inl (List.replicate 8 0)))]) ++ [(20, .inr (.inl (List.replicate 8 0)))]) ++ [(20, .inr (.inl (List.replicate 8 0)))])) hk h8 d_H_init_52 rfl p_H_36 rfl rfl rfl rfl rfl rfl ?_
  refine J_aload_n (i := 0) d_H_init_55 rfl rfl ?_
  refine J_bipush (v := nI 8) d_H_init_56 rfl ?_
  refine K_arr (n' := k + 100) (s' := s + 1305) (l' := (((((([(0, .inl [.ref (k + 1), .ref (k + 4), .ref (k + 96), .int 0, .int (-1), .int 0, .int 0, .int 0, .ref (k + 97), .ref (k + 98), .null])] ++ (nowC (k + 1))) ++ (stpsC (k + 4))) ++ [(20, .inr (.inl (List.replicate 8 0)))]) ++ [(20, .inr (.inl (List.replicate 8 0)))]) ++ [(20, .inr (.inl (List.replicate 8 0)))]) ++ [(20, .inr (.inl (List.replicate 8 0)))])) d_H_init_58 w_arr_int rfl (t := 20) rfl rfl (by decide) (by decide) rfl rfl (by omega) (by omega) rfl ?_
  refine K_putF (i := 0) (vs' := [.ref (k + 1), .ref (k + 4), .ref (k + 96), .int 0, .int (-1), .int 0, .int 0, .int 0, .ref (k + 97), .ref (k + 98), .ref (k + 99)]) (l' := (((((([(0, .inl [.ref (k + 1), .ref (k + 4), .ref (k + 96), .int 0, .int (-1), .int 0, .int 0, .int 0, .ref (k + 97), .ref (k + 98), .ref (k + 99)])] ++ (nowC (k + 1))) ++ (stpsC (k + 4))) ++ [(20, .inr (.inl (List.replicate 8 0)))]) ++ [(20, .inr (.inl (List.replicate 8 0)))]) ++ [(20, .inr (.inl (List.replicate 8 0)))]) ++ [(20, .inr (.inl (List.replicate 8 0)))])) hk h8 d_H_init_60 rfl p_H_39 rfl rfl rfl rfl rfl rfl ?_
  exact J_return d_H_init_63 rfl rfl rfl ⟨rfl, rfl⟩
theorem heldC_len (k : Nat) : (heldC k).length = 100 := by
  unfold heldC
  simp only [List.length_append, nowC_len, stpsC_len, List.length_cons, List.length_nil]

