def jI (v : Int) : Int32 := Int32.ofInt v
def lI (v : Int) : Int64 := Int64.ofInt v
/-- within what laws hold; within an int; within a long -/
def sm (v : Int) : Prop := -1000000 ≤ v ∧ v ≤ 1000000
def bI (v : Int) : Prop := -2000000000 ≤ v ∧ v ≤ 2000000000
def bL (v : Int) : Prop := -4000000000000000000 ≤ v ∧ v ≤ 4000000000000000000
theorem sm_I {v : Int} (h : sm v) : bI v := by unfold sm at h; unfold bI; omega
theorem sm_L {v : Int} (h : sm v) : bL v := by unfold sm at h; unfold bL; omega
theorem jI_n (k : Nat) : jI (k : Int) = nI k := Int32.toBitVec_inj.mp (BitVec.ofInt_natCast 32 k)
theorem jI_toInt {a : Int} (h : bI a) : (jI a).toInt = a := Int32.toInt_ofInt_of_le (by unfold bI at h; omega) (by unfold bI at h; omega)
theorem lI_toInt {a : Int} (h : bL a) : (lI a).toInt = a := Int64.toInt_ofInt_of_le (by unfold bL at h; omega) (by unfold bL at h; omega)
theorem jI_lt {a b : Int} (ha : bI a) (hb : bI b) : jI a < jI b ↔ a < b := by rw [Int32.lt_iff_toInt_lt, jI_toInt ha, jI_toInt hb]
theorem jI_le {a b : Int} (ha : bI a) (hb : bI b) : jI a ≤ jI b ↔ a ≤ b := by rw [Int32.le_iff_toInt_le, jI_toInt ha, jI_toInt hb]
theorem jI_eq {a b : Int} (ha : bI a) (hb : bI b) : jI a = jI b ↔ a = b := by rw [← Int32.toInt_inj, jI_toInt ha, jI_toInt hb]
theorem lI_lt {a b : Int} (ha : bL a) (hb : bL b) : lI a < lI b ↔ a < b := by rw [Int64.lt_iff_toInt_lt, lI_toInt ha, lI_toInt hb]
theorem lI_eq {a b : Int} (ha : bL a) (hb : bL b) : lI a = lI b ↔ a = b := by rw [← Int64.toInt_inj, lI_toInt ha, lI_toInt hb]
theorem jI_64 {a : Int} (h : bI a) : (jI a).toInt64 = lI a := by
  unfold bI at h
  have h1 : Int32.minValue.toInt = -2147483648 := by decide
  have h2 : Int32.maxValue.toInt = 2147483647 := by decide
  exact Int32.toInt64_ofInt (by omega) (by omega)
theorem lI_32 (a : Int) : (lI a).toInt32 = jI a := Int64.toInt32_ofInt
theorem lI_div {a b : Int} (ha : bL a) (hb : bL b) : lI a / lI b = lI (a.tdiv b) := by
  unfold bL at ha hb
  have h1 : Int64.minValue.toInt = -9223372036854775808 := by decide
  have h2 : Int64.maxValue.toInt = 9223372036854775807 := by decide
  exact (Int64.ofInt_tdiv (by omega) (by omega) (by omega) (by omega)).symm
theorem lI_add (a b : Int) : lI a + lI b = lI (a + b) := (Int64.ofInt_add a b).symm
theorem lI_sub (a b : Int) : lI a - lI b = lI (a - b) := (Int64.ofInt_sub a b).symm
theorem lI_mul (a b : Int) : lI a * lI b = lI (a * b) := (Int64.ofInt_mul a b).symm
theorem lI_neg (a : Int) : -lI a = lI (-a) := (Int64.ofInt_neg a).symm
theorem jI_neg (a : Int) : -jI a = jI (-a) := (Int32.ofInt_neg a).symm
theorem jI_sub (a b : Int) : jI a - jI b = jI (a - b) := (Int32.ofInt_sub a b).symm
theorem jI_add (a b : Int) : jI a + jI b = jI (a + b) := (Int32.ofInt_add a b).symm
theorem lc_lt {a b : Int} (ha : bL a) (hb : bL b) : lg_cmp (lI a) (lI b) < 0 ↔ a < b := by
  unfold lg_cmp
  by_cases h1 : lI a > lI b
  · rw [if_pos h1]
    have := (lI_lt hb ha).mp h1
    exact ⟨fun h => absurd h (by decide), fun h => by omega⟩
  · rw [if_neg h1]
    by_cases h2 : lI a = lI b
    · rw [if_pos h2]
      have := (lI_eq ha hb).mp h2
      exact ⟨fun h => absurd h (by decide), fun h => by omega⟩
    · rw [if_neg h2]
      refine ⟨fun _ => ?_, fun _ => by decide⟩
      have h3 : ¬ b < a := fun q => h1 ((lI_lt hb ha).mpr q)
      have h4 : ¬ a = b := fun q => h2 ((lI_eq ha hb).mpr q)
      omega
theorem lc_gt {a b : Int} (ha : bL a) (hb : bL b) : 0 < lg_cmp (lI a) (lI b) ↔ b < a := by
  unfold lg_cmp
  by_cases h1 : lI a > lI b
  · rw [if_pos h1]
    have := (lI_lt hb ha).mp h1
    exact ⟨fun _ => this, fun _ => by decide⟩
  · rw [if_neg h1]
    have h3 : ¬ b < a := fun q => h1 ((lI_lt hb ha).mpr q)
    by_cases h2 : lI a = lI b
    · rw [if_pos h2]
      exact ⟨fun h => absurd h (by decide), fun h => absurd h h3⟩
    · rw [if_neg h2]
      exact ⟨fun h => absurd h (by decide), fun h => absurd h h3⟩
theorem lc_eq {a b : Int} (ha : bL a) (hb : bL b) : lg_cmp (lI a) (lI b) = 0 ↔ a = b := by
  unfold lg_cmp
  by_cases h1 : lI a > lI b
  · rw [if_pos h1]
    have := (lI_lt hb ha).mp h1
    exact ⟨fun h => absurd h (by decide), fun h => by omega⟩
  · rw [if_neg h1]
    by_cases h2 : lI a = lI b
    · rw [if_pos h2]
      exact ⟨fun _ => (lI_eq ha hb).mp h2, fun _ => rfl⟩
    · rw [if_neg h2]
      exact ⟨fun h => absurd h (by decide), fun h => absurd ((lI_eq ha hb).mpr h) h2⟩
/-- held at a million -/
def c6 (v : Int) : Int := if 1000000 < v then 1000000 else if v < -1000000 then -1000000 else v
theorem c6_sm (v : Int) : sm (c6 v) := by
  unfold c6 sm
  split
  · omega
  · split <;> omega
/-- an office as a law sees it: how many marks, their strokes, year, fund, the mark, the stroke -/
abbrev Env : Type := Nat × ((Nat → Nat) × (Nat × (Nat × (Nat × Int))))
def okE (e : Env) : Prop := e.1 ≤ 8 ∧ e.2.2.2.2.1 < e.1 ∧ (∀ i, i < 8 → e.2.1 i < 1048576) ∧ e.2.2.1 ≤ 9999 ∧ e.2.2.2.1 ≤ 999999 ∧ -1 ≤ e.2.2.2.2.2 ∧ e.2.2.2.2.2 ≤ 19
def eST (e : Env) : Nat := e.2.1 e.2.2.2.2.1
/-- the names, by the reference's numbers -/
def nmV (e : Env) (k : Nat) : Int := if k = 0 then e.2.2.1 else if k = 1 then e.2.2.2.2.1 else if k = 2 then bc (eST e) else if k = 3 then bc (odd (eST e)) else if k = 4 then e.2.2.2.1 else if k = 5 then e.2.2.2.2.2 else pic (eST e)
def szV (e : Env) (v : Int) : Int := if 0 ≤ v ∧ v < e.1 then bc (e.2.1 v.toNat) else 0
def hsV (e : Env) (v : Int) : Int := if 0 ≤ v ∧ v < 20 ∧ (eST e).testBit v.toNat = true then 1 else 0
def ar2 (k : Nat) (x y : Int) : Int := if k = 6 then c6 (x + y) else if k = 7 then c6 (x - y) else if k = 8 then c6 (x * y) else if y = 0 then 0 else c6 (x.tdiv y)
def cp2 (k : Nat) (x y : Int) : Bool := if k = 10 then decide (x < y) else if k = 11 then decide (x ≤ y) else if k = 12 then decide (y < x) else if k = 13 then decide (y ≤ x) else if k = 14 then decide (x = y) else !decide (x = y)
theorem ar2_sm (k : Nat) {x y : Int} : sm (ar2 k x y) := by
  unfold ar2
  split
  · exact c6_sm _
  · split
    · exact c6_sm _
    · split
      · exact c6_sm _
      · split
        · exact ⟨by decide, by decide⟩
        · exact c6_sm _
theorem szV_sm {e : Env} {v : Int} : sm (szV e v) := by
  unfold szV sm
  split
  · have := bc_le (e.2.1 v.toNat); omega
  · omega
theorem hsV_sm {e : Env} {v : Int} : sm (hsV e v) := by
  unfold hsV sm
  split <;> omega
theorem nmV_sm {e : Env} (h : okE e) {k : Nat} : sm (nmV e k) := by
  obtain ⟨h1, h2, h3, h4, h5, h6, h7⟩ := h
  have a1 := bc_le (eST e)
  have a2 := bc_le (odd (eST e))
  have a3 := pic_le (eST e)
  unfold nmV sm
  split
  · omega
  · split
    · omega
    · split
      · omega
      · split
        · omega
        · split
          · omega
          · split <;> omega
theorem jI_bin (b : Bool) : jI (if b = true then 1 else 0) = b2i b := by cases b <;> rfl
/-- the class's office at a: what laws read of it -/
def CE (X : Mem) (a : Nat) (e : Env) : Prop := kd a = 2 ∧ X.1 a 0 = nI e.1 ∧ (∀ i, i < 8 → (X.2.1 (a + 1)).getD i 0 = nI (e.2.1 i)) ∧ X.1 a 3 = nI e.2.2.1 ∧ X.1 a 2 = nI e.2.2.2.1
theorem now_ck : allN (fun a => !decide (kd a = 2) || (decide (rf a 1 = a + 1) && decide (rf a 6 = a + 2) && decide (kd (a + 1) = 20) && decide (kd (a + 2) = 20) && decide (sz (a + 1) = 8) && decide (sz (a + 2) = 25) && !cst (a + 1) && !cst (a + 2) && decide (8 < a) && decide (a < 222))) 263 = true := by decide +kernel
theorem now_f {a : Nat} (h : kd a = 2) : rf a 1 = a + 1 ∧ rf a 6 = a + 2 ∧ kd (a + 1) = 20 ∧ kd (a + 2) = 20 ∧ sz (a + 1) = 8 ∧ sz (a + 2) = 25 ∧ cst (a + 1) = false ∧ cst (a + 2) = false ∧ 8 < a ∧ a < 222 := by
  have := allN_iff.mp now_ck a (kd_lt (by omega))
  simp only [h, decide_true, Bool.not_true, Bool.false_or, Bool.and_eq_true, decide_eq_true_eq, Bool.not_eq_true'] at this
  obtain ⟨⟨⟨⟨⟨⟨⟨⟨⟨q1, q2⟩, q3⟩, q4⟩, q5⟩, q6⟩, q7⟩, q8⟩, q9⟩, q10⟩ := this
  exact ⟨q1, q2, q3, q4, q5, q6, q7, q8, q9, q10⟩
/-- a stack of a law in the row l -/
def stkL : List Int → List Int32 → Prop
  | [], _ => True
  | v :: s, l => l.getD s.length 0 = jI v ∧ stkL s l
theorem stk_set {j : Nat} {x : Int32} {l : List Int32} : ∀ {s : List Int}, s.length ≤ j → stkL s l → stkL s (l.set j x)
  | [], _, _ => trivial
  | v :: s, h, hs => by
    have h : s.length + 1 ≤ j := h
    exact ⟨by rw [set_ne (by omega)]; exact hs.1, stk_set (by omega) hs.2⟩
theorem stk_push {v : Int} {s : List Int} {l : List Int32} (hl : s.length < l.length) (h : stkL s l) : stkL (v :: s) (l.set s.length (jI v)) := ⟨set_eq hl, stk_set (Nat.le_refl _) h⟩
/-- the office with the stack s in the row l of its laws -/
abbrev skX (X : Mem) (s : List Int) (l : List Int32) : Mem := pA (pF X 16 1 (nI s.length)) 17 l
theorem CE_sk {X : Mem} {a : Nat} {e : Env} {s : List Int} {l : List Int32} (h : CE X a e) : CE (skX X s l) a e := by
  have h1 := now_f h.1
  have h2 : a + 1 ≠ 17 := fun q => by
    have h3 := h.1
    rw [show a = 16 by omega] at h3
    cases h3
  refine ⟨h.1, h.2.1, fun i hi => ?_, h.2.2.2.1, ?_⟩
  · rw [show (skX X s l).2.1 (a + 1) = X.2.1 (a + 1) from if_neg h2]
    exact h.2.2.1 i hi
  · exact h.2.2.2.2
theorem S_L_push {X : Mem} {s : List Int} {l : List Int32} (hX : Ok X) (hl : l.length = 300) {v : Int} (h : s.length < 300) : CM 0 m_L_push [.ref 16, .int (jI v)] (skX X s l) (rV (skX X (v :: s) (l.set s.length (jI v)))) := by
  refine CM_of (L := [some (.ref 16), some (.int (jI v))]) 0 ok_L_push (fun _ => Nat.le_of_ble_eq_true rfl) rfl ?_
  refine J_aload_n (i := 0) d_L_push_0 rfl rfl ?_
  refine M_get (x := (nI s.length)) d_L_push_1 f_L_61 rfl rfl rfl ?_
  refine J_aload_n (i := 0) d_L_push_4 rfl rfl ?_
  refine M_getR (b := 17) d_L_push_5 f_L_9 rfl rfl rfl ?_
  refine M_ilen (n := 300) d_L_push_8 (by decide) (by rw [pA_at]; exact hl) ?_
  refine N_icmp_ge (tgt := 32) d_L_push_9 (by decide) (by omega) (by omega) (fun c9 => absurd c9 (by omega)) (fun c9 => ?_)
  refine J_aload_n (i := 0) d_L_push_12 rfl rfl ?_
  refine M_getR (b := 17) d_L_push_13 f_L_9 rfl rfl rfl ?_
  refine J_aload_n (i := 0) d_L_push_16 rfl rfl ?_
  refine M_get (x := (nI s.length)) d_L_push_17 f_L_61 rfl rfl rfl ?_
  refine J_iload_n (i := 1) d_L_push_20 rfl rfl ?_
  refine N_iast d_L_push_21 rfl (by decide) (by omega) (ltL (okA (okF hX) rfl (by rw [hl]; exact (hX.1 17 (by decide)).symm)) (a := 17) (n := 300) (by decide) rfl (by omega)) ?_
  refine J_aload_n (i := 0) d_L_push_22 rfl rfl ?_
  refine J_dup d_L_push_23 rfl ?_
  refine M_get (x := (nI s.length)) d_L_push_24 f_L_61 rfl rfl rfl ?_
  refine J_iconst (v := nI 1) d_L_push_27 rfl ?_
  refine N_iadd d_L_push_28 ?_
  refine M_put d_L_push_29 p_L_61 rfl rfl rfl rfl ?_
  refine M_vr d_L_push_32 rfl ?_
  refine ⟨rfl, ?_⟩
  rw [pA_at]
  show pF (pA (pA (pF X 16 1 (nI s.length)) 17 l) 17 (l.set s.length (jI v))) 16 1 (nI (s.length + 1)) = pA (pF X 16 1 (nI (s.length + 1))) 17 (l.set s.length (jI v))
  rw [pA_pA]
  exact congrArg (fun Z => pA Z 17 (l.set s.length (jI v))) pF_pF

theorem S_L_pop0 {X : Mem} {s : List Int} {l : List Int32} (hX : Ok X) (hl : l.length = 300) : CM 0 m_L_pop [.ref 16] (skX X [] l) (rI (jI 0) (skX X [] l)) := by
  refine CM_of (L := [some (.ref 16)]) 0 ok_L_pop (fun _ => Nat.le_of_ble_eq_true rfl) rfl ?_
  refine J_aload_n (i := 0) d_L_pop_0 rfl rfl ?_
  refine M_get (x := (nI 0)) d_L_pop_1 f_L_61 rfl rfl rfl ?_
  refine N_if_gt (tgt := 9) d_L_pop_4 (by decide) (by omega) (fun c4 => absurd c4 (by decide)) (fun c4 => ?_)
  refine J_iconst (v := nI 0) d_L_pop_7 rfl ?_
  refine M_ir d_L_pop_8 rfl rfl ?_
  exact ⟨rfl, rfl⟩

theorem S_L_pop1 {X : Mem} {s : List Int} {l : List Int32} (hX : Ok X) (hl : l.length = 300) {v : Int} (hk : stkL (v :: s) l) (h : s.length < 300) : CM 0 m_L_pop [.ref 16] (skX X (v :: s) l) (rI (jI v) (skX X s l)) := by
  refine CM_of (L := [some (.ref 16)]) 0 ok_L_pop (fun _ => Nat.le_of_ble_eq_true rfl) rfl ?_
  refine J_aload_n (i := 0) d_L_pop_0 rfl rfl ?_
  refine M_get (x := (nI (s.length + 1))) d_L_pop_1 f_L_61 rfl rfl rfl ?_
  refine N_if_gt (tgt := 9) d_L_pop_4 (by decide) (by omega) (fun c4 => ?_) (fun c4 => absurd c4 (by omega))
  refine J_aload_n (i := 0) d_L_pop_9 rfl rfl ?_
  refine J_dup d_L_pop_10 rfl ?_
  refine M_get (x := (nI (s.length + 1))) d_L_pop_11 f_L_61 rfl rfl rfl ?_
  refine J_iconst (v := nI 1) d_L_pop_14 rfl ?_
  refine N_isub d_L_pop_15 (by omega) ?_
  rw [Nat.add_sub_cancel]
  refine M_put d_L_pop_16 p_L_61 rfl rfl rfl rfl ?_
  refine J_aload_n (i := 0) d_L_pop_19 rfl rfl ?_
  refine M_getR (b := 17) d_L_pop_20 f_L_9 rfl rfl rfl ?_
  refine J_aload_n (i := 0) d_L_pop_23 rfl rfl ?_
  refine M_get (x := (nI s.length)) d_L_pop_24 f_L_61 rfl rfl rfl ?_
  refine N_iald (x := (jI v)) d_L_pop_27 rfl (by omega) (ltL (okA (okF hX) rfl (by rw [hl]; exact (hX.1 17 (by decide)).symm)) (a := 17) (n := 300) (by decide) rfl (by omega)) (show l.getD s.length 0 = jI v from hk.1) ?_
  refine M_ir d_L_pop_28 rfl rfl ?_
  refine ⟨rfl, ?_⟩
  show pF (pA (pF X 16 1 (nI (s.length + 1))) 17 l) 16 1 (nI s.length) = pA (pF X 16 1 (nI s.length)) 17 l
  exact congrArg (fun Z => pA Z 17 l) pF_pF

theorem S_L_pop {X : Mem} {s : List Int} {l : List Int32} (hX : Ok X) (hl : l.length = 300) (hk : stkL s l) (h : s.length ≤ 300) : CM 0 m_L_pop [.ref 16] (skX X s l) (rI (jI (s.headD 0)) (skX X s.tail l)) := by
  cases s with
  | nil => exact S_L_pop0 (s := []) hX hl
  | cons v s => exact S_L_pop1 hX hl hk (by have h : s.length + 1 ≤ 300 := h; omega)
