def m5 : Nat → Nat
  | 0 => 0
  | f + 1 => 5 + 16 * m5 f
def m3 : Nat → Nat
  | 0 => 0
  | f + 1 => 3 + 16 * m3 f
def t1 (f n : Nat) : Nat := n - (n >>> 1 &&& m5 f)
def t2 (f v : Nat) : Nat := (v &&& m3 f) + (v >>> 2 &&& m3 f)
def nb : Nat → Nat → Nat
  | 0, _ => 0
  | f + 1, n => pcn 4 n + 16 * nb f (n / 16)
theorem and_dig (x k K : Nat) (hk : k < 16) : x &&& (k + 16 * K) = (x % 16 &&& k) + 16 * (x / 16 &&& K) := by
  have h1 := Nat.and_mod_two_pow (a := x) (b := k + 16 * K) (n := 4)
  have h2 := Nat.and_div_two_pow (a := x) (b := k + 16 * K) (n := 4)
  rw [show 2 ^ 4 = 16 from rfl] at h1 h2
  rw [show (k + 16 * K) % 16 = k by omega] at h1
  rw [show (k + 16 * K) / 16 = K by omega] at h2
  omega
theorem t1_dig (f d m : Nat) (hd : d < 16) : t1 (f + 1) (d + 16 * m) = (d - (d / 2 &&& 5)) + 16 * t1 f m := by
  have e1 : (d + 16 * m) >>> 1 = (d + 16 * m) / 2 := Nat.shiftRight_eq_div_pow _ _
  have e2 : m >>> 1 = m / 2 := Nat.shiftRight_eq_div_pow _ _
  unfold t1
  rw [show m5 (f + 1) = 5 + 16 * m5 f from rfl, e1, e2, and_dig _ 5 _ (by decide), show (d + 16 * m) / 2 / 16 = m / 2 by omega, show (d + 16 * m) / 2 % 16 = d / 2 + 8 * (m % 2) by omega]
  have g : ∀ d, d < 16 → ∀ b, b < 2 → d / 2 + 8 * b &&& 5 = d / 2 &&& 5 := by decide
  rw [g d hd _ (Nat.mod_lt _ (by decide))]
  have h1 : d / 2 &&& 5 ≤ d := Nat.le_trans Nat.and_le_left (Nat.div_le_self _ _)
  have h2 : m / 2 &&& m5 f ≤ m := Nat.le_trans Nat.and_le_left (Nat.div_le_self _ _)
  omega
theorem t2_dig (f e v : Nat) (he : e < 16) : t2 (f + 1) (e + 16 * v) = ((e &&& 3) + (e / 4 &&& 3)) + 16 * t2 f v := by
  have e1 : (e + 16 * v) >>> 2 = (e + 16 * v) / 4 := Nat.shiftRight_eq_div_pow _ _
  have e2 : v >>> 2 = v / 4 := Nat.shiftRight_eq_div_pow _ _
  unfold t2
  rw [show m3 (f + 1) = 3 + 16 * m3 f from rfl, e1, e2, and_dig _ 3 _ (by decide), and_dig _ 3 _ (by decide), show (e + 16 * v) / 4 / 16 = v / 4 by omega, show (e + 16 * v) / 4 % 16 = e / 4 + 4 * (v % 4) by omega, show (e + 16 * v) % 16 = e by omega, show (e + 16 * v) / 16 = v by omega]
  have g : ∀ e, e < 16 → ∀ b, b < 4 → e / 4 + 4 * b &&& 3 = e / 4 &&& 3 := by decide
  rw [g e he _ (Nat.mod_lt _ (by decide))]
  omega
theorem pcn4 (d m : Nat) : pcn 4 (d + 16 * m) = pcn 4 d := by
  simp only [pcn]
  omega
theorem pcn_4 (f n : Nat) : pcn (f + 4) n = pcn 4 n + pcn f (n / 16) := by
  have h : n / 2 / 2 / 2 / 2 = n / 16 := by omega
  show n % 2 + (n / 2 % 2 + (n / 2 / 2 % 2 + (n / 2 / 2 / 2 % 2 + pcn f (n / 2 / 2 / 2 / 2)))) = (n % 2 + (n / 2 % 2 + (n / 2 / 2 % 2 + (n / 2 / 2 / 2 % 2 + 0)))) + pcn f (n / 16)
  rw [h]
  omega
theorem nb_eq : ∀ (f n : Nat), n < 16 ^ f → t2 f (t1 f n) = nb f n
  | 0, n, h => by
    have : n = 0 := by simpa using h
    subst this
    rfl
  | f + 1, n, h => by
    have ih := nb_eq f (n / 16) (by rw [Nat.pow_succ] at h; omega)
    have e : n = n % 16 + 16 * (n / 16) := by omega
    have hd : n % 16 < 16 := Nat.mod_lt _ (by decide)
    have w : ∀ d, d < 16 → d - (d / 2 &&& 5) < 16 ∧ ((d - (d / 2 &&& 5)) &&& 3) + ((d - (d / 2 &&& 5)) / 4 &&& 3) = pcn 4 d := by decide
    rw [show nb (f + 1) n = pcn 4 n + 16 * nb f (n / 16) from rfl]
    conv => lhs; rw [e]
    rw [t1_dig f _ _ hd, t2_dig f _ _ (w _ hd).1, (w _ hd).2, ih]
    conv => rhs; rw [e]
    rw [pcn4]
    rw [show (n % 16 + 16 * (n / 16)) / 16 = n / 16 by omega]
theorem pcn4_le (n : Nat) : pcn 4 n ≤ 4 := pcn_le 4 n
theorem swar (p0 p1 p2 p3 p4 : Nat) (h0 : p0 ≤ 4) (h1 : p1 ≤ 4) (h2 : p2 ≤ 4) (h3 : p3 ≤ 4) (h4 : p4 ≤ 4) : ∀ v2 v3 v4 v5 : Nat, v2 = p0 + 16 * (p1 + 16 * (p2 + 16 * (p3 + 16 * p4))) → v3 = (v2 + v2 >>> 4) &&& 252645135 → v4 = v3 + v3 >>> 8 → v5 = v4 + v4 >>> 16 → v5 &&& 63 = p0 + p1 + p2 + p3 + p4 := by
  intro v2 v3 v4 v5 e2 e3 e4 e5
  subst e5; subst e4; subst e3; subst e2
  have g : ∀ p0, p0 < 5 → ∀ p1, p1 < 5 → ∀ p2, p2 < 5 → ∀ p3, p3 < 5 → ∀ p4, p4 < 5 → (((((p0 + 16 * (p1 + 16 * (p2 + 16 * (p3 + 16 * p4)))) + (p0 + 16 * (p1 + 16 * (p2 + 16 * (p3 + 16 * p4)))) >>> 4) &&& 252645135) + (((p0 + 16 * (p1 + 16 * (p2 + 16 * (p3 + 16 * p4)))) + (p0 + 16 * (p1 + 16 * (p2 + 16 * (p3 + 16 * p4)))) >>> 4) &&& 252645135) >>> 8) + ((((p0 + 16 * (p1 + 16 * (p2 + 16 * (p3 + 16 * p4)))) + (p0 + 16 * (p1 + 16 * (p2 + 16 * (p3 + 16 * p4)))) >>> 4) &&& 252645135) + (((p0 + 16 * (p1 + 16 * (p2 + 16 * (p3 + 16 * p4)))) + (p0 + 16 * (p1 + 16 * (p2 + 16 * (p3 + 16 * p4)))) >>> 4) &&& 252645135) >>> 8) >>> 16) &&& 63 = p0 + p1 + p2 + p3 + p4 := by decide +kernel
  exact g p0 (by omega) p1 (by omega) p2 (by omega) p3 (by omega) p4 (by omega)
theorem swar_bc (n v1 v2 v3 v4 v5 : Nat) (hn : n < 1048576) (e1 : v1 = n - (n >>> 1 &&& 1431655765)) (e2 : v2 = (v1 &&& 858993459) + (v1 >>> 2 &&& 858993459)) (e3 : v3 = (v2 + v2 >>> 4) &&& 252645135) (e4 : v4 = v3 + v3 >>> 8) (e5 : v5 = v4 + v4 >>> 16) : v5 &&& 63 = bc n := by
  have g := nb_eq 8 n (Nat.lt_of_lt_of_le hn (by decide))
  have e2' : v2 = nb 8 n := by
    rw [← g, e2, e1]
    rfl
  have h5 : n / 16 / 16 / 16 / 16 / 16 = 0 := by omega
  have hb : bc n = pcn 4 n + (pcn 4 (n / 16) + (pcn 4 (n / 16 / 16) + (pcn 4 (n / 16 / 16 / 16) + pcn 4 (n / 16 / 16 / 16 / 16)))) := by
    show pcn 32 n = _
    rw [pcn_4 28, pcn_4 24, pcn_4 20, pcn_4 16, pcn_4 12, h5, pcn_0]
    omega
  have hv : v2 = pcn 4 n + 16 * (pcn 4 (n / 16) + 16 * (pcn 4 (n / 16 / 16) + 16 * (pcn 4 (n / 16 / 16 / 16) + 16 * pcn 4 (n / 16 / 16 / 16 / 16)))) := by
    rw [e2']
    simp only [nb]
    rw [h5]
    simp only [pcn_0, Nat.zero_div]
    omega
  rw [swar _ _ _ _ _ (pcn4_le _) (pcn4_le _) (pcn4_le _) (pcn4_le _) (pcn4_le _) v2 v3 v4 v5 hv e3 e4 e5, hb]
  omega
theorem S_bitCount {X : Mem} {s : Nat} (hs : s < 1048576) : CM 0 m_JI_bitCount [.int (nI s)] X (rN (bc s) X) := by
  refine CM_of (L := [some (.int (nI s))]) 0 ok_JI_bitCount (fun _ => Nat.le_of_ble_eq_true rfl) rfl ?_
  refine J_iload_n (i := 0) d_JI_bitCount_0 rfl rfl ?_
  refine J_iload_n (i := 0) d_JI_bitCount_1 rfl rfl ?_
  refine J_iconst (v := nI 1) d_JI_bitCount_2 rfl ?_
  refine N_iushr d_JI_bitCount_3 (by omega) (by omega) ?_
  refine J_ldcw d_JI_bitCount_4 w_JI_265 ?_
  refine I_ton (n := 1431655765) rfl ?_
  refine N_iand d_JI_bitCount_7 ?_
  refine N_isub d_JI_bitCount_8 (Nat.le_trans Nat.and_le_left (by rw [Nat.shiftRight_eq_div_pow]; exact Nat.div_le_self _ _)) ?_
  refine N_nm (fun v9 hv9 => ?_)
  refine J_istore_n (i := 0) (L1 := [some (.int (nI v9))]) d_JI_bitCount_9 rfl (by decide) rfl ?_
  refine J_iload_n (i := 0) d_JI_bitCount_10 rfl rfl ?_
  refine J_ldcw d_JI_bitCount_11 w_JI_266 ?_
  refine I_ton (n := 858993459) rfl ?_
  refine N_iand d_JI_bitCount_14 ?_
  refine J_iload_n (i := 0) d_JI_bitCount_15 rfl rfl ?_
  refine J_iconst (v := nI 2) d_JI_bitCount_16 rfl ?_
  refine N_iushr d_JI_bitCount_17 (by omega) (by omega) ?_
  refine J_ldcw d_JI_bitCount_18 w_JI_266 ?_
  refine I_ton (n := 858993459) rfl ?_
  refine N_iand d_JI_bitCount_21 ?_
  refine N_iadd d_JI_bitCount_22 ?_
  refine N_nm (fun v23 hv23 => ?_)
  refine J_istore_n (i := 0) (L1 := [some (.int (nI v23))]) d_JI_bitCount_23 rfl (by decide) rfl ?_
  refine J_iload_n (i := 0) d_JI_bitCount_24 rfl rfl ?_
  refine J_iload_n (i := 0) d_JI_bitCount_25 rfl rfl ?_
  refine J_iconst (v := nI 4) d_JI_bitCount_26 rfl ?_
  refine N_iushr d_JI_bitCount_27 (by first | omega | (rw [hv23]; exact Nat.lt_of_le_of_lt (Nat.add_le_add Nat.and_le_right Nat.and_le_right) (by decide))) (by first | omega | (rw [hv23]; exact Nat.lt_of_le_of_lt (Nat.add_le_add Nat.and_le_right Nat.and_le_right) (by decide))) ?_
  refine N_iadd d_JI_bitCount_28 ?_
  refine J_ldcw d_JI_bitCount_29 w_JI_267 ?_
  refine I_ton (n := 252645135) rfl ?_
  refine N_iand d_JI_bitCount_32 ?_
  refine N_nm (fun v33 hv33 => ?_)
  refine J_istore_n (i := 0) (L1 := [some (.int (nI v33))]) d_JI_bitCount_33 rfl (by decide) rfl ?_
  refine J_iload_n (i := 0) d_JI_bitCount_34 rfl rfl ?_
  refine J_iload_n (i := 0) d_JI_bitCount_35 rfl rfl ?_
  refine J_bipush (v := nI 8) d_JI_bitCount_36 rfl ?_
  refine N_iushr d_JI_bitCount_38 (by first | omega | (rw [hv33]; exact and_lt' (by decide))) (by first | omega | (rw [hv33]; exact and_lt' (by decide))) ?_
  refine N_iadd d_JI_bitCount_39 ?_
  refine N_nm (fun v40 hv40 => ?_)
  refine J_istore_n (i := 0) (L1 := [some (.int (nI v40))]) d_JI_bitCount_40 rfl (by decide) rfl ?_
  refine J_iload_n (i := 0) d_JI_bitCount_41 rfl rfl ?_
  refine J_iload_n (i := 0) d_JI_bitCount_42 rfl rfl ?_
  refine J_bipush (v := nI 16) d_JI_bitCount_43 rfl ?_
  refine N_iushr d_JI_bitCount_45 (by first | omega | (rw [hv40, hv33]; exact Nat.lt_of_le_of_lt (Nat.add_le_add Nat.and_le_right (Nat.le_trans (by rw [Nat.shiftRight_eq_div_pow]; exact Nat.div_le_self _ _) Nat.and_le_right)) (by decide))) (by first | omega | (rw [hv40, hv33]; exact Nat.lt_of_le_of_lt (Nat.add_le_add Nat.and_le_right (Nat.le_trans (by rw [Nat.shiftRight_eq_div_pow]; exact Nat.div_le_self _ _) Nat.and_le_right)) (by decide))) ?_
  refine N_iadd d_JI_bitCount_46 ?_
  refine N_nm (fun v47 hv47 => ?_)
  refine J_istore_n (i := 0) (L1 := [some (.int (nI v47))]) d_JI_bitCount_47 rfl (by decide) rfl ?_
  refine J_iload_n (i := 0) d_JI_bitCount_48 rfl rfl ?_
  refine J_bipush (v := nI 63) d_JI_bitCount_49 rfl ?_
  refine N_iand d_JI_bitCount_51 ?_
  refine M_ir d_JI_bitCount_52 rfl rfl ?_
  exact ⟨by rw [swar_bc s v9 v23 v33 v40 v47 hs hv9 hv23 hv33 hv40 hv47], rfl⟩

theorem S_K_countHoles {X : Mem} {s : Nat} (hX : Ok X) (hs : s < 1048576) : CM 2 m_K_countHoles [.int (nI s)] X (rI (hol s) X) := by
  refine CM_of (L := [some (.int (nI s)), none]) 1 ok_K_countHoles (fun _ => Nat.le_of_ble_eq_true rfl) rfl ?_
  refine J_iload_n (i := 0) d_K_countHoles_0 rfl rfl ?_
  refine CS_N (av := [.int (nI s)]) d_K_countHoles_1 s_K_18 (S_K_touched hX (by omega)) (by decide) rfl rfl (Nat.le_of_ble_eq_true rfl) ?_
  refine CS_N (av := [.int (nI (pts s))]) d_K_countHoles_4 s_K_26 (S_bitCount (Nat.lt_trans (pts_lt s) (by decide))) (by decide) rfl rfl (Nat.le_of_ble_eq_true rfl) ?_
  refine J_istore_n (i := 1) (L1 := [some (.int (nI s)), some (.int (nI (bc (pts s))))]) d_K_countHoles_7 rfl (by decide) rfl ?_
  refine J_iload_n (i := 0) d_K_countHoles_8 rfl rfl ?_
  refine CS_N (av := [.int (nI s)]) d_K_countHoles_9 s_K_26 (S_bitCount (by omega)) (by decide) rfl rfl (Nat.le_of_ble_eq_true rfl) ?_
  refine J_iload_n (i := 0) d_K_countHoles_12 rfl rfl ?_
  refine CS_N (av := [.int (nI s)]) d_K_countHoles_13 s_K_31 (S_K_countPieces hX (by omega)) (by decide) rfl rfl (Nat.le_of_ble_eq_true rfl) ?_
  refine N_iadd d_K_countHoles_16 ?_
  refine J_iload_n (i := 1) d_K_countHoles_17 rfl rfl ?_
  refine J_isub d_K_countHoles_18 ?_
  refine M_ir d_K_countHoles_19 rfl rfl ?_
  exact ⟨rfl, rfl⟩

theorem S_K_countCrossings {X : Mem} {s : Nat} (hs : s < 1048576) : CM 1 m_K_countCrossings [.int (nI s)] X (rN (crs s) X) := by
  refine CM_of (L := [some (.int (nI s))]) 0 ok_K_countCrossings (fun _ => Nat.le_of_ble_eq_true rfl) rfl ?_
  refine J_iload_n (i := 0) d_K_countCrossings_0 rfl rfl ?_
  refine J_bipush (v := nI 12) d_K_countCrossings_1 rfl ?_
  refine N_ishr d_K_countCrossings_3 (by omega) (by omega) ?_
  refine J_iload_n (i := 0) d_K_countCrossings_4 rfl rfl ?_
  refine J_bipush (v := nI 16) d_K_countCrossings_5 rfl ?_
  refine N_ishr d_K_countCrossings_7 (by omega) (by omega) ?_
  refine N_iand d_K_countCrossings_8 ?_
  refine J_bipush (v := nI 15) d_K_countCrossings_9 rfl ?_
  refine N_iand d_K_countCrossings_11 ?_
  refine CS_N (av := [.int (nI (((s >>> 12) &&& (s >>> 16)) &&& 15))]) d_K_countCrossings_12 s_K_26 (S_bitCount (and_lt' (by decide))) (by decide) rfl rfl (Nat.le_of_ble_eq_true rfl) ?_
  refine M_ir d_K_countCrossings_15 rfl rfl ?_
  exact ⟨rfl, rfl⟩

theorem pens_max (s q : Nat) (hq : q ≠ 0 → 2 ≤ bc q) : max 1 (bc q / 2) = if q = 0 then 1 else bc q / 2 := by
  by_cases h : q = 0
  · subst h; rw [if_pos rfl]; decide
  · rw [if_neg h]
    have := hq h
    omega
