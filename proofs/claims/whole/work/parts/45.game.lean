/-- how many of F join what S has left apart, one by one -/
def jnN (S F : Nat) : Nat := (itr (fun k (x : Nat × Nat) => if F.testBit k && !x.1.testBit k && decide (hol (x.1 ||| 1 <<< k) = hol x.1) then (x.1 ||| 1 <<< k, x.2 + 1) else x) (S, 0) 20).2
theorem mod_ad (F i : Nat) : F % 2 ^ (i + 1) = if F.testBit i = true then F % 2 ^ i ||| 1 <<< i else F % 2 ^ i := by
  apply Nat.eq_of_testBit_eq
  intro b
  rw [Nat.testBit_mod_two_pow]
  split
  · rename_i h
    rw [Nat.testBit_or, Nat.testBit_mod_two_pow, tb_1]
    by_cases e : i = b
    · subst e
      rw [h, decide_eq_true (Nat.lt_succ_self i), decide_eq_true rfl, Bool.or_true]; rfl
    · rw [decide_eq_false e, Bool.or_false]
      congr 1
      apply decide_eq_decide.mpr
      omega
  · rename_i h
    rw [Nat.testBit_mod_two_pow]
    by_cases e : i = b
    · subst e
      have h : F.testBit i = false := by
        cases z : F.testBit i
        · rfl
        · exact absurd z h
      rw [h, Bool.and_false, Bool.and_false]
    · congr 1
      apply decide_eq_decide.mpr
      omega
theorem jn_lt {S F : Nat} (hS : S < 1048576) : ∀ i, i ≤ 20 → (itr (fun k (x : Nat × Nat) => if F.testBit k && !x.1.testBit k && decide (hol (x.1 ||| 1 <<< k) = hol x.1) then (x.1 ||| 1 <<< k, x.2 + 1) else x) (S, 0) i).1 < 1048576 ∧ (itr (fun k (x : Nat × Nat) => if F.testBit k && !x.1.testBit k && decide (hol (x.1 ||| 1 <<< k) = hol x.1) then (x.1 ||| 1 <<< k, x.2 + 1) else x) (S, 0) i).2 ≤ i :=
  itr_invN (fun i (x : Nat × Nat) => x.1 < 1048576 ∧ x.2 ≤ i) 20 ⟨hS, Nat.le_refl 0⟩ (fun i x hi hx => by
    try dsimp only
    split
    · exact ⟨or_lt 20 hx.1 (sh_lt hi (by decide)), Nat.succ_le_succ hx.2⟩
    · exact ⟨hx.1, Nat.le_succ_of_le hx.2⟩)
theorem jn_step {S t i : Nat} {x : Nat × Nat} {b : Bool} (hi : i < 20) (h1 : eqc x.1 t) (h2 : x.2 + rk S = rk x.1) (h3 : subT x.1 t) : eqc (if b && !x.1.testBit i && decide (hol (x.1 ||| 1 <<< i) = hol x.1) then (x.1 ||| 1 <<< i, x.2 + 1) else x).1 (if b = true then t ||| 1 <<< i else t) ∧ (if b && !x.1.testBit i && decide (hol (x.1 ||| 1 <<< i) = hol x.1) then (x.1 ||| 1 <<< i, x.2 + 1) else x).2 + rk S = rk (if b && !x.1.testBit i && decide (hol (x.1 ||| 1 <<< i) = hol x.1) then (x.1 ||| 1 <<< i, x.2 + 1) else x).1 ∧ subT (if b && !x.1.testBit i && decide (hol (x.1 ||| 1 <<< i) = hol x.1) then (x.1 ||| 1 <<< i, x.2 + 1) else x).1 (if b = true then t ||| 1 <<< i else t) := by
  cases b
  · exact ⟨h1, h2, h3⟩
  · rw [if_pos (show true = true from rfl)]
    have hts : subT x.1 (t ||| 1 <<< i) := fun j hj => by rw [Nat.testBit_or, h3 j hj]; rfl
    cases hx : x.1.testBit i
    · cases hc : (pcs x.1 (ONEL.getD i 0)).testBit (OTHL.getD i 0)
      · have hh := (hol_ad hi hx).mpr hc
        rw [decide_eq_true hh]
        refine ⟨fun C => ?_, ?_, fun j hj => ?_⟩
        · show clo (x.1 ||| 1 <<< i) C ↔ _
          rw [clo_ad hi, clo_ad hi, h1 C]
        · show x.2 + 1 + rk S = rk (x.1 ||| 1 <<< i)
          rw [rk_join hi hc]
          omega
        · have hj : (x.1 ||| 1 <<< i).testBit j = true := hj
          rw [Nat.testBit_or, Bool.or_eq_true] at hj
          rw [Nat.testBit_or]
          rcases hj with z | z
          · rw [h3 j z]; rfl
          · rw [z, Bool.or_true]
      · have hh : ¬ hol (x.1 ||| 1 <<< i) = hol x.1 := fun e => by
          rw [(hol_ad hi hx).mp e] at hc
          cases hc
        rw [decide_eq_false hh]
        refine ⟨fun C => ?_, h2, hts⟩
        show clo x.1 C ↔ _
        rw [clo_ad hi, ← h1 C]
        exact ⟨fun z => ⟨z, pc_tr z hc⟩, fun z => z.1⟩
    · rw [or_self1 (h3 i hx)]
      exact ⟨h1, h2, h3⟩
theorem jn_inv (S F : Nat) : ∀ i, i ≤ 20 → eqc (itr (fun k (x : Nat × Nat) => if F.testBit k && !x.1.testBit k && decide (hol (x.1 ||| 1 <<< k) = hol x.1) then (x.1 ||| 1 <<< k, x.2 + 1) else x) (S, 0) i).1 (S ||| F % 2 ^ i) ∧ (itr (fun k (x : Nat × Nat) => if F.testBit k && !x.1.testBit k && decide (hol (x.1 ||| 1 <<< k) = hol x.1) then (x.1 ||| 1 <<< k, x.2 + 1) else x) (S, 0) i).2 + rk S = rk (itr (fun k (x : Nat × Nat) => if F.testBit k && !x.1.testBit k && decide (hol (x.1 ||| 1 <<< k) = hol x.1) then (x.1 ||| 1 <<< k, x.2 + 1) else x) (S, 0) i).1 ∧ subT (itr (fun k (x : Nat × Nat) => if F.testBit k && !x.1.testBit k && decide (hol (x.1 ||| 1 <<< k) = hol x.1) then (x.1 ||| 1 <<< k, x.2 + 1) else x) (S, 0) i).1 (S ||| F % 2 ^ i) := by
  refine itr_invN (fun i (x : Nat × Nat) => eqc x.1 (S ||| F % 2 ^ i) ∧ x.2 + rk S = rk x.1 ∧ subT x.1 (S ||| F % 2 ^ i)) 20 ?_ ?_
  · have e : S ||| F % 2 ^ 0 = S := by rw [Nat.pow_zero, Nat.mod_one, Nat.or_zero]
    rw [e]
    exact ⟨fun C => Iff.rfl, Nat.zero_add _, fun j h => h⟩
  · rintro i x hi ⟨h1, h2, h3⟩
    have e : S ||| F % 2 ^ (i + 1) = if F.testBit i = true then (S ||| F % 2 ^ i) ||| 1 <<< i else S ||| F % 2 ^ i := by
      rw [mod_ad]
      split
      · rw [Nat.or_assoc]
      · rfl
    rw [e]
    exact jn_step hi h1 h2 h3
theorem jn_eq {S F : Nat} (hF : F < 1048576) : jnN S F + rk S = rk (S ||| F) := by
  obtain ⟨h1, h2, _⟩ := jn_inv S F 20 (Nat.le_refl 20)
  rw [Nat.mod_eq_of_lt (show F < 2 ^ 20 from hF)] at h1
  rw [← eqc_rk h1]
  exact h2
theorem and_1 {a k : Nat} : a &&& 1 <<< k = 0 ↔ a.testBit k = false := by
  constructor
  · intro h
    have := congrArg (fun x => x.testBit k) h
    simp only [Nat.testBit_and, tb_1, decide_true, Bool.and_true, Nat.zero_testBit] at this
    exact this
  · intro h
    apply Nat.eq_of_testBit_eq
    intro b
    rw [Nat.testBit_and, tb_1, Nat.zero_testBit]
    by_cases e : k = b
    · rw [← e, h]; rfl
    · rw [decide_eq_false e, Bool.and_false]
theorem cj_c0 {F x k : Nat} {h : Bool} (e : andn F x &&& 1 <<< k = 0) : (F.testBit k && !x.testBit k && h) = false := by
  have := and_1.mp e
  rw [andn_tb] at this
  rw [this]; rfl
theorem cj_c1 {F x k : Nat} {h : Bool} (e : ¬ andn F x &&& 1 <<< k = 0) : (F.testBit k && !x.testBit k && h) = h := by
  cases z : (andn F x).testBit k
  · exact absurd (and_1.mpr z) e
  · rw [andn_tb] at z
    rw [z]; rfl
theorem lp_K_countJoining {d : Nat} {Q : Option Value → Mem → Prop} {X : Mem} {S F : Nat} (hX : Ok X) (hS : S < 1048576) (hF : F < 1048576) (hd : 3 ≤ d) (kx : ∀ z5 z6 : Option Value, JM d m_K_countJoining Q 71 [some (.int (nI S)), some (.int (nI F)), some (.int (nI ((itr (fun k (x : Nat × Nat) => if F.testBit k && !x.1.testBit k && decide (hol (x.1 ||| 1 <<< k) = hol x.1) then (x.1 ||| 1 <<< k, x.2 + 1) else x) (S, 0) 20).1))), some (.int (nI ((itr (fun k (x : Nat × Nat) => if F.testBit k && !x.1.testBit k && decide (hol (x.1 ||| 1 <<< k) = hol x.1) then (x.1 ||| 1 <<< k, x.2 + 1) else x) (S, 0) 20).2))), some (.int (nI 20)), z5, z6] [] X) : ∀ (n i : Nat) (z5 z6 : Option Value), i + n = 20 → JM d m_K_countJoining Q 7 [some (.int (nI S)), some (.int (nI F)), some (.int (nI ((itr (fun k (x : Nat × Nat) => if F.testBit k && !x.1.testBit k && decide (hol (x.1 ||| 1 <<< k) = hol x.1) then (x.1 ||| 1 <<< k, x.2 + 1) else x) (S, 0) i).1))), some (.int (nI ((itr (fun k (x : Nat × Nat) => if F.testBit k && !x.1.testBit k && decide (hol (x.1 ||| 1 <<< k) = hol x.1) then (x.1 ||| 1 <<< k, x.2 + 1) else x) (S, 0) i).2))), some (.int (nI i)), z5, z6] [] X := by
  intro n
  induction n with
  | zero =>
    intro i z5 z6 hi
    obtain rfl : i = 20 := by omega
    refine J_iload d_K_countJoining_7 rfl ?_
    refine J_bipush (v := nI 20) d_K_countJoining_9 rfl ?_
    refine N_icmp_ge (tgt := 71) d_K_countJoining_11 (by decide) (by omega) (by omega) (fun c11 => ?_) (fun c11 => absurd c11 (by omega))
    exact kx _ _
  | succ n ih =>
    intro i z5 z6 hi
    generalize hx : (itr (fun k (x : Nat × Nat) => if F.testBit k && !x.1.testBit k && decide (hol (x.1 ||| 1 <<< k) = hol x.1) then (x.1 ||| 1 <<< k, x.2 + 1) else x) (S, 0) i) = x
    have hx5 : x.1 < 1048576 ∧ x.2 ≤ i := by rw [← hx]; exact jn_lt hS i (by omega)
    have hsh : 1 <<< i < 1048576 := sh_lt (show i < 20 by omega) (by decide)
    have hor : x.1 ||| 1 <<< i < 1048576 := or_lt 20 hx5.1 hsh
    have han : andn F x.1 &&& 1 <<< i < 2147483648 := Nat.lt_trans (and_lt (andn_lt hF)) (by decide)
    refine J_iload d_K_countJoining_7 rfl ?_
    refine J_bipush (v := nI 20) d_K_countJoining_9 rfl ?_
    refine N_icmp_ge (tgt := 71) d_K_countJoining_11 (by decide) (by omega) (by omega) (fun c11 => absurd c11 (by omega)) (fun c11 => ?_)
    refine J_iconst (v := nI 1) d_K_countJoining_14 rfl ?_
    refine J_iload d_K_countJoining_15 rfl ?_
    refine N_ishl d_K_countJoining_17 (by omega) ?_
    refine J_istore (L1 := [some (.int (nI S)), some (.int (nI F)), some (.int (nI x.1)), some (.int (nI x.2)), some (.int (nI i)), some (.int (nI (1 <<< i))), z6]) d_K_countJoining_18 (by decide) rfl ?_
    refine J_iload_n (i := 1) d_K_countJoining_20 rfl rfl ?_
    refine J_iload_n (i := 2) d_K_countJoining_21 rfl rfl ?_
    refine J_iconst (v := (-1)) d_K_countJoining_22 rfl ?_
    refine J_ixor d_K_countJoining_23 ?_
    refine J_iand d_K_countJoining_24 ?_
    refine I_ton (n := andn F x.1) (nI_andn F x.1) ?_
    refine J_iload d_K_countJoining_25 rfl ?_
    refine N_iand d_K_countJoining_27 ?_
    refine N_if_eq (tgt := 35) d_K_countJoining_28 (by decide) (by omega) (fun c28 => ?_) (fun c28 => ?_)
    · refine J_iconst (v := nI 0) d_K_countJoining_35 rfl ?_
      refine J_istore (L1 := [some (.int (nI S)), some (.int (nI F)), some (.int (nI x.1)), some (.int (nI x.2)), some (.int (nI i)), some (.int (nI (1 <<< i))), some (.int (nI 0))]) d_K_countJoining_36 (by decide) rfl ?_
      refine J_iload d_K_countJoining_38 rfl ?_
      refine N_if_eq (tgt := 65) d_K_countJoining_40 (by decide) (by omega) (fun c40 => ?_) (fun c40 => absurd c40 (by decide))
      refine N_iinc (a := i) (c := 1) (L1 := [some (.int (nI S)), some (.int (nI F)), some (.int (nI x.1)), some (.int (nI x.2)), some (.int (nI (i + 1))), some (.int (nI (1 <<< i))), some (.int (nI 0))]) d_K_countJoining_65 rfl rfl (by decide) rfl ?_
      refine J_goto (tgt := 7) d_K_countJoining_68 (by decide) ?_
      exact (ih (i + 1) _ _ (by omega)).eq (by rw [show itr (fun k (x : Nat × Nat) => if F.testBit k && !x.1.testBit k && decide (hol (x.1 ||| 1 <<< k) = hol x.1) then (x.1 ||| 1 <<< k, x.2 + 1) else x) (S, 0) (i + 1) = (x.1, x.2) from itr_g hx (by show (if _ then _ else _) = _; rw [cj_c0 c28]; rfl)]) rfl rfl
    · refine J_iconst (v := nI 1) d_K_countJoining_31 rfl ?_
      refine J_goto (tgt := 36) d_K_countJoining_32 (by decide) ?_
      refine J_istore (L1 := [some (.int (nI S)), some (.int (nI F)), some (.int (nI x.1)), some (.int (nI x.2)), some (.int (nI i)), some (.int (nI (1 <<< i))), some (.int (nI 1))]) d_K_countJoining_36 (by decide) rfl ?_
      refine J_iload d_K_countJoining_38 rfl ?_
      refine N_if_eq (tgt := 65) d_K_countJoining_40 (by decide) (by omega) (fun c40 => absurd c40 (by decide)) (fun c40 => ?_)
      refine J_iload_n (i := 2) d_K_countJoining_43 rfl rfl ?_
      refine J_iload d_K_countJoining_44 rfl ?_
      refine N_ior d_K_countJoining_46 ?_
      refine CS_I (av := [.int (nI (x.1 ||| (1 <<< i)))]) d_K_countJoining_47 s_K_68 (S_K_countHoles hX (by omega)) (by omega) rfl rfl (Nat.le_of_ble_eq_true rfl) ?_
      refine J_iload_n (i := 2) d_K_countJoining_50 rfl rfl ?_
      refine CS_I (av := [.int (nI x.1)]) d_K_countJoining_51 s_K_68 (S_K_countHoles hX (by omega)) (by omega) rfl rfl (Nat.le_of_ble_eq_true rfl) ?_
      refine J_icmp_ne (tgt := 65) d_K_countJoining_54 (by decide) (fun c54 => ?_) (fun c54 => ?_)
      · refine N_iinc (a := i) (c := 1) (L1 := [some (.int (nI S)), some (.int (nI F)), some (.int (nI x.1)), some (.int (nI x.2)), some (.int (nI (i + 1))), some (.int (nI (1 <<< i))), some (.int (nI 1))]) d_K_countJoining_65 rfl rfl (by decide) rfl ?_
        refine J_goto (tgt := 7) d_K_countJoining_68 (by decide) ?_
        exact (ih (i + 1) _ _ (by omega)).eq (by rw [show itr (fun k (x : Nat × Nat) => if F.testBit k && !x.1.testBit k && decide (hol (x.1 ||| 1 <<< k) = hol x.1) then (x.1 ||| 1 <<< k, x.2 + 1) else x) (S, 0) (i + 1) = (x.1, x.2) from itr_g hx (by show (if _ then _ else _) = _; rw [cj_c1 c28, decide_eq_false c54]; rfl)]) rfl rfl
      · refine J_iload_n (i := 2) d_K_countJoining_57 rfl rfl ?_
        refine J_iload d_K_countJoining_58 rfl ?_
        refine N_ior d_K_countJoining_60 ?_
        refine J_istore_n (i := 2) (L1 := [some (.int (nI S)), some (.int (nI F)), some (.int (nI (x.1 ||| (1 <<< i)))), some (.int (nI x.2)), some (.int (nI i)), some (.int (nI (1 <<< i))), some (.int (nI 1))]) d_K_countJoining_61 rfl (by decide) rfl ?_
        refine N_iinc (a := x.2) (c := 1) (L1 := [some (.int (nI S)), some (.int (nI F)), some (.int (nI (x.1 ||| (1 <<< i)))), some (.int (nI (x.2 + 1))), some (.int (nI i)), some (.int (nI (1 <<< i))), some (.int (nI 1))]) d_K_countJoining_62 rfl rfl (by decide) rfl ?_
        refine N_iinc (a := i) (c := 1) (L1 := [some (.int (nI S)), some (.int (nI F)), some (.int (nI (x.1 ||| (1 <<< i)))), some (.int (nI (x.2 + 1))), some (.int (nI (i + 1))), some (.int (nI (1 <<< i))), some (.int (nI 1))]) d_K_countJoining_65 rfl rfl (by decide) rfl ?_
        refine J_goto (tgt := 7) d_K_countJoining_68 (by decide) ?_
        exact (ih (i + 1) _ _ (by omega)).eq (by rw [show itr (fun k (x : Nat × Nat) => if F.testBit k && !x.1.testBit k && decide (hol (x.1 ||| 1 <<< k) = hol x.1) then (x.1 ||| 1 <<< k, x.2 + 1) else x) (S, 0) (i + 1) = ((x.1 ||| (1 <<< i)), (x.2 + 1)) from itr_g hx (by show (if _ then _ else _) = _; rw [cj_c1 c28, decide_eq_true c54]; rfl)]) rfl rfl

theorem S_K_countJoining {X : Mem} {S F : Nat} (hX : Ok X) (hS : S < 1048576) (hF : F < 1048576) : CM 3 m_K_countJoining [.int (nI S), .int (nI F)] X (rN (jnN S F) X) := by
  refine CM_of (L := [some (.int (nI S)), some (.int (nI F)), none, none, none, none, none]) 5 ok_K_countJoining (fun _ => Nat.le_of_ble_eq_true rfl) rfl ?_
  refine J_iload_n (i := 0) d_K_countJoining_0 rfl rfl ?_
  refine J_istore_n (i := 2) (L1 := [some (.int (nI S)), some (.int (nI F)), some (.int (nI S)), none, none, none, none]) d_K_countJoining_1 rfl (by decide) rfl ?_
  refine J_iconst (v := nI 0) d_K_countJoining_2 rfl ?_
  refine J_istore_n (i := 3) (L1 := [some (.int (nI S)), some (.int (nI F)), some (.int (nI S)), some (.int (nI 0)), none, none, none]) d_K_countJoining_3 rfl (by decide) rfl ?_
  refine J_iconst (v := nI 0) d_K_countJoining_4 rfl ?_
  refine J_istore (L1 := [some (.int (nI S)), some (.int (nI F)), some (.int (nI S)), some (.int (nI 0)), some (.int (nI 0)), none, none]) d_K_countJoining_5 (by decide) rfl ?_
  refine lp_K_countJoining hX hS hF (by decide) (fun z5 z6 => ?_) 20 0 _ _ (by omega)
  refine J_iload_n (i := 3) d_K_countJoining_71 rfl rfl ?_
  refine M_ir d_K_countJoining_72 rfl rfl ?_
  exact ⟨rfl, rfl⟩

def gmB (s f : Int32) : Bool := inR s 1048575 && inR f 1048575 && decide (bc (tn f) ≤ 10)
def gameF (s f : Int32) : Int32 := if gmB s f then nI (jnN (tn s) (tn f) % 2) else (-1)
def jnP (S F k : Nat) : Bool := F.testBit k && !S.testBit k && decide (hol (S ||| 1 <<< k) = hol S)
def plN (S F : Nat) : Nat := fstN (jnP S F) 0 20
def playF (s f : Int32) : Int32 := if gmB s f && decide (jnN (tn s) (tn f) % 2 = 1) then (if plN (tn s) (tn f) = 20 then (-1) else nI (plN (tn s) (tn f))) else (-1)
theorem gm_f {s f : Int32} (h : gmB s f = true) : (∃ S, S < 1048576 ∧ s = nI S) ∧ ∃ F, F < 1048576 ∧ f = nI F ∧ bc F ≤ 10 := by
  rw [gmB, Bool.and_eq_true, Bool.and_eq_true, decide_eq_true_eq] at h
  obtain ⟨S, hS, rfl⟩ := inR_n h.1.1 (by decide)
  obtain ⟨F, hF, rfl⟩ := inR_n h.1.2 (by decide)
  rw [tn_nI (by omega)] at h
  exact ⟨⟨S, by omega, rfl⟩, F, by omega, rfl, h.2⟩
theorem S_O_isGame {X : Mem} {s f : Int32} : CM 1 m_O_isGame [.int s, .int f] X (rB (gmB s f) X) := by
  refine CM_of (L := [some (.int s), some (.int f)]) 0 ok_O_isGame (fun _ => Nat.le_of_ble_eq_true rfl) rfl ?_
  refine J_iload_n (i := 0) d_O_isGame_0 rfl rfl ?_
  refine CS_B (av := [.int s]) d_O_isGame_1 s_O_73 (S_O_isSet) (by decide) rfl rfl (Nat.le_of_ble_eq_true rfl) ?_
  refine B_if_eq (tgt := 27) d_O_isGame_4 (by decide) (fun c4 => ?_) (fun c4 => ?_)
  · refine J_iconst (v := nI 0) d_O_isGame_27 rfl ?_
    refine J.eq (st1 := [.int (b2i false)]) ?_ rfl rfl rfl
    refine M_ir d_O_isGame_28 rfl b2i_nar ?_
    exact ⟨by rw [show gmB s f = false by rw [gmB, c4]; rfl], rfl⟩
  · refine J_iload_n (i := 1) d_O_isGame_7 rfl rfl ?_
    refine CS_B (av := [.int f]) d_O_isGame_8 s_O_73 (S_O_isSet) (by decide) rfl rfl (Nat.le_of_ble_eq_true rfl) ?_
    refine B_if_eq (tgt := 27) d_O_isGame_11 (by decide) (fun c11 => ?_) (fun c11 => ?_)
    · refine J_iconst (v := nI 0) d_O_isGame_27 rfl ?_
      refine J.eq (st1 := [.int (b2i false)]) ?_ rfl rfl rfl
      refine M_ir d_O_isGame_28 rfl b2i_nar ?_
      exact ⟨by rw [show gmB s f = false by rw [gmB, c4, c11]; rfl], rfl⟩
    · obtain ⟨f_, hf_, rfl⟩ := inR_n (n := 1048575) c11 (by decide)
      refine J_iload_n (i := 1) d_O_isGame_14 rfl rfl ?_
      refine CS_N (av := [.int (nI f_)]) d_O_isGame_15 s_O_175 (S_bitCount (by omega)) (by decide) rfl rfl (Nat.le_of_ble_eq_true rfl) ?_
      refine N_nm (fun vB hvB => ?_)
      have hvB2 : vB ≤ 32 := by rw [hvB]; exact bc_le _
      refine J_bipush (v := nI 10) d_O_isGame_18 rfl ?_
      refine N_icmp_gt (tgt := 27) d_O_isGame_20 (by decide) (by omega) (by omega) (fun c20 => ?_) (fun c20 => ?_)
      · refine J_iconst (v := nI 0) d_O_isGame_27 rfl ?_
        refine J.eq (st1 := [.int (b2i false)]) ?_ rfl rfl rfl
        refine M_ir d_O_isGame_28 rfl b2i_nar ?_
        exact ⟨by rw [show gmB s (nI f_) = false by rw [gmB, c4, c11, tn_nI (show f_ < 2147483648 by omega), ← hvB, decide_eq_false (show ¬ vB ≤ 10 by omega)]; rfl], rfl⟩
      · refine J_iconst (v := nI 1) d_O_isGame_23 rfl ?_
        refine J_goto (tgt := 28) d_O_isGame_24 (by decide) ?_
        refine J.eq (st1 := [.int (b2i true)]) ?_ rfl rfl rfl
        refine M_ir d_O_isGame_28 rfl b2i_nar ?_
        exact ⟨by rw [show gmB s (nI f_) = true by rw [gmB, c4, c11, tn_nI (show f_ < 2147483648 by omega), ← hvB, decide_eq_true (show vB ≤ 10 by omega)]; rfl], rfl⟩

theorem S_R_isGame {X : Mem} {s f : Int32} : CM 2 m_R_isGame [.int s, .int f] X (rB (gmB s f) X) := by
  refine CM_of (L := [some (.int s), some (.int f)]) 0 ok_R_isGame (fun _ => Nat.le_of_ble_eq_true rfl) rfl ?_
  refine J_iload_n (i := 0) d_R_isGame_0 rfl rfl ?_
  refine CS_B (av := [.int s]) d_R_isGame_1 s_R_98 (S_R_areStrokes) (by decide) rfl rfl (Nat.le_of_ble_eq_true rfl) ?_
  refine B_if_eq (tgt := 27) d_R_isGame_4 (by decide) (fun c4 => ?_) (fun c4 => ?_)
  · refine J_iconst (v := nI 0) d_R_isGame_27 rfl ?_
    refine J.eq (st1 := [.int (b2i false)]) ?_ rfl rfl rfl
    refine M_ir d_R_isGame_28 rfl b2i_nar ?_
    exact ⟨by rw [show gmB s f = false by rw [gmB, c4]; rfl], rfl⟩
  · refine J_iload_n (i := 1) d_R_isGame_7 rfl rfl ?_
    refine CS_B (av := [.int f]) d_R_isGame_8 s_R_98 (S_R_areStrokes) (by decide) rfl rfl (Nat.le_of_ble_eq_true rfl) ?_
    refine B_if_eq (tgt := 27) d_R_isGame_11 (by decide) (fun c11 => ?_) (fun c11 => ?_)
    · refine J_iconst (v := nI 0) d_R_isGame_27 rfl ?_
      refine J.eq (st1 := [.int (b2i false)]) ?_ rfl rfl rfl
      refine M_ir d_R_isGame_28 rfl b2i_nar ?_
      exact ⟨by rw [show gmB s f = false by rw [gmB, c4, c11]; rfl], rfl⟩
    · obtain ⟨f_, hf_, rfl⟩ := inR_n (n := 1048575) c11 (by decide)
      refine J_iload_n (i := 1) d_R_isGame_14 rfl rfl ?_
      refine CS_N (av := [.int (nI f_)]) d_R_isGame_15 s_R_121 (S_R_bits (by omega)) (by decide) rfl rfl (Nat.le_of_ble_eq_true rfl) ?_
      refine N_nm (fun vB hvB => ?_)
      have hvB2 : vB ≤ 32 := by rw [hvB]; exact bc_le _
      refine J_bipush (v := nI 10) d_R_isGame_18 rfl ?_
      refine N_icmp_gt (tgt := 27) d_R_isGame_20 (by decide) (by omega) (by omega) (fun c20 => ?_) (fun c20 => ?_)
      · refine J_iconst (v := nI 0) d_R_isGame_27 rfl ?_
        refine J.eq (st1 := [.int (b2i false)]) ?_ rfl rfl rfl
        refine M_ir d_R_isGame_28 rfl b2i_nar ?_
        exact ⟨by rw [show gmB s (nI f_) = false by rw [gmB, c4, c11, tn_nI (show f_ < 2147483648 by omega), ← hvB, decide_eq_false (show ¬ vB ≤ 10 by omega)]; rfl], rfl⟩
      · refine J_iconst (v := nI 1) d_R_isGame_23 rfl ?_
        refine J_goto (tgt := 28) d_R_isGame_24 (by decide) ?_
        refine J.eq (st1 := [.int (b2i true)]) ?_ rfl rfl rfl
        refine M_ir d_R_isGame_28 rfl b2i_nar ?_
        exact ⟨by rw [show gmB s (nI f_) = true by rw [gmB, c4, c11, tn_nI (show f_ < 2147483648 by omega), ← hvB, decide_eq_true (show vB ≤ 10 by omega)]; rfl], rfl⟩

theorem S_O_game {X : Mem} {s f : Int32} (hX : Ok X) : CM 4 m_O_game [.ref 8, .int s, .int f] X (rI (gameF s f) X) := by
  refine CM_of (L := [some (.ref 8), some (.int s), some (.int f)]) 0 ok_O_game (fun _ => Nat.le_of_ble_eq_true rfl) rfl ?_
  refine J_iload_n (i := 1) d_O_game_0 rfl rfl ?_
  refine J_iload_n (i := 2) d_O_game_1 rfl rfl ?_
  refine CS_B (av := [.int s, .int f]) d_O_game_2 s_O_309 (S_O_isGame) (by decide) rfl rfl (Nat.le_of_ble_eq_true rfl) ?_
  refine B_if_ne (tgt := 10) d_O_game_5 (by decide) (fun c5 => ?_) (fun c5 => ?_)
  · obtain ⟨⟨S, hS, rfl⟩, F, hF, rfl, hb⟩ := gm_f c5
    have tS := tn_nI (show S < 2147483648 by omega)
    have tF := tn_nI (show F < 2147483648 by omega)
    refine J_iload_n (i := 1) d_O_game_10 rfl rfl ?_
    refine J_iload_n (i := 2) d_O_game_11 rfl rfl ?_
    refine CS_N (av := [.int (nI S), .int (nI F)]) d_O_game_12 s_O_313 (S_K_countJoining hX (by omega) (by omega)) (by decide) rfl rfl (Nat.le_of_ble_eq_true rfl) ?_
    refine N_nm (fun vJ hvJ => ?_)
    have hvJ2 : vJ ≤ 20 := by rw [hvJ]; exact (jn_lt hS 20 (Nat.le_refl 20)).2
    refine J_iconst (v := nI 2) d_O_game_15 rfl ?_
    refine N_irem d_O_game_16 (by omega) (by omega) (by omega) ?_
    refine M_ir d_O_game_17 rfl rfl ?_
    exact ⟨by rw [gameF, c5, if_pos rfl, tS, tF, ← hvJ], rfl⟩
  · refine J_iconst (v := (-1)) d_O_game_8 rfl ?_
    refine M_ir d_O_game_9 rfl rfl ?_
    exact ⟨by rw [gameF, c5] <;> rfl, rfl⟩

theorem cj1 {S k : Nat} (hk : k < 20) : jnN S (1 <<< k) = 1 ↔ (S.testBit k = false ∧ hol (S ||| 1 <<< k) = hol S) := by
  have h := jn_eq (S := S) (F := 1 <<< k) (sh_lt hk (by decide))
  cases e : S.testBit k
  · rw [hol_ad hk e]
    cases z : (pcs S (ONEL.getD k 0)).testBit (OTHL.getD k 0)
    · rw [rk_join hk z] at h
      exact ⟨fun _ => ⟨rfl, rfl⟩, fun _ => by omega⟩
    · rw [eqc_rk (cn_eqc hk z)] at h
      constructor
      · intro q; omega
      · rintro ⟨_, q⟩; cases q
  · rw [or_self1 e] at h
    constructor
    · intro q; omega
    · rintro ⟨q, _⟩; cases q
theorem lp_O_play {X : Mem} {S F : Nat} {Q : Option Value → Mem → Prop} (hX : Ok X) (hS : S < 1048576) (hF : F < 1048576) (kq : Q (some (.int (if plN S F = 20 then (-1) else nI (plN S F)))) X) : ∀ (m k : Nat) (z4 : Option Value), k + m = 20 → fstN (jnP S F) k m = plN S F → JM 4 m_O_play Q 22 [some (.ref 8), some (.int (nI S)), some (.int (nI F)), some (.int (nI k)), z4] [] X := by
  intro m
  induction m with
  | zero =>
    intro k z4 hk e
    obtain rfl : k = 20 := by omega
    rw [← show 20 = plN S F from e] at kq
    refine J_iload_n (i := 3) d_O_play_22 rfl rfl ?_
    refine J_bipush (v := nI 20) d_O_play_23 rfl ?_
    refine N_icmp_ge (tgt := 58) d_O_play_25 (by decide) (by omega) (by omega) (fun c25 => ?_) (fun c25 => absurd c25 (by omega))
    refine J_iconst (v := (-1)) d_O_play_58 rfl ?_
    refine M_ir d_O_play_59 rfl rfl ?_
    exact kq
  | succ m ih =>
    intro k z4 hk e
    have hsh : 1 <<< k < 1048576 := sh_lt (show k < 20 by omega) (by decide)
    have han : F &&& 1 <<< k < 2147483648 := Nat.lt_trans (and_lt hF) (by decide)
    refine J_iload_n (i := 3) d_O_play_22 rfl rfl ?_
    refine J_bipush (v := nI 20) d_O_play_23 rfl ?_
    refine N_icmp_ge (tgt := 58) d_O_play_25 (by decide) (by omega) (by omega) (fun c25 => absurd c25 (by omega)) (fun c25 => ?_)
    refine J_iconst (v := nI 1) d_O_play_28 rfl ?_
    refine J_iload_n (i := 3) d_O_play_29 rfl rfl ?_
    refine N_ishl d_O_play_30 (by omega) ?_
    refine J_istore (L1 := [some (.ref 8), some (.int (nI S)), some (.int (nI F)), some (.int (nI k)), some (.int (nI (1 <<< k)))]) d_O_play_31 (by decide) rfl ?_
    refine J_iload_n (i := 2) d_O_play_33 rfl rfl ?_
    refine J_iload d_O_play_34 rfl ?_
    refine N_iand d_O_play_36 ?_
    refine N_if_eq (tgt := 52) d_O_play_37 (by decide) (by omega) (fun c37 => ?_) (fun c37 => ?_)
    · refine N_iinc (a := k) (c := 1) (L1 := [some (.ref 8), some (.int (nI S)), some (.int (nI F)), some (.int (nI (k + 1))), some (.int (nI (1 <<< k)))]) d_O_play_52 rfl rfl (by decide) rfl ?_
      refine J_goto (tgt := 22) d_O_play_55 (by decide) ?_
      have hj : jnP S F k = false := by
        rw [jnP, and_1.mp c37]; rfl
      rw [fstN, hj, if_neg (by decide)] at e
      exact ih (k + 1) _ (by omega) e
    · refine J_iload_n (i := 1) d_O_play_40 rfl rfl ?_
      refine J_iload d_O_play_41 rfl ?_
      refine CS_N (av := [.int (nI S), .int (nI (1 <<< k))]) d_O_play_43 s_O_313 (S_K_countJoining hX (by omega) (by omega)) (by decide) rfl rfl (Nat.le_of_ble_eq_true rfl) ?_
      refine N_nm (fun vJ hvJ => ?_)
      have hvJ2 : vJ ≤ 20 := by rw [hvJ]; exact (jn_lt hS 20 (Nat.le_refl 20)).2
      refine J_iconst (v := nI 1) d_O_play_46 rfl ?_
      refine N_icmp_ne (tgt := 52) d_O_play_47 (by decide) (by omega) (by omega) (fun c47 => ?_) (fun c47 => ?_)
      · refine N_iinc (a := k) (c := 1) (L1 := [some (.ref 8), some (.int (nI S)), some (.int (nI F)), some (.int (nI (k + 1))), some (.int (nI (1 <<< k)))]) d_O_play_52 rfl rfl (by decide) rfl ?_
        refine J_goto (tgt := 22) d_O_play_55 (by decide) ?_
        have hj : jnP S F k = false := by
          cases hj : jnP S F k
          · rfl
          · rw [jnP, Bool.and_eq_true, Bool.and_eq_true, decide_eq_true_eq] at hj
            have h2 : S.testBit k = false := by
              cases z : S.testBit k
              · rfl
              · rw [z] at hj; cases hj.1.2
            exact absurd (hvJ.trans ((cj1 (show k < 20 by omega)).mpr ⟨h2, hj.2⟩)) c47
        rw [fstN, hj, if_neg (by decide)] at e
        exact ih (k + 1) _ (by omega) e
      · refine J_iload_n (i := 3) d_O_play_50 rfl rfl ?_
        refine M_ir d_O_play_51 rfl rfl ?_
        have hj : jnP S F k = true := by
          have h1 := (cj1 (S := S) (show k < 20 by omega)).mp (by rw [← hvJ]; exact c47)
          rw [jnP, h1.1, decide_eq_true h1.2]
          cases z : F.testBit k
          · exact absurd (and_1.mpr z) c37
          · rfl
        rw [fstN, if_pos hj] at e
        rw [← e, if_neg (by omega)] at kq
        exact kq
theorem S_O_play {X : Mem} {s f : Int32} (hX : Ok X) : CM 4 m_O_play [.ref 8, .int s, .int f] X (rI (playF s f) X) := by
  refine CM_of (L := [some (.ref 8), some (.int s), some (.int f), none, none]) 2 ok_O_play (fun _ => Nat.le_of_ble_eq_true rfl) rfl ?_
  refine J_iload_n (i := 1) d_O_play_0 rfl rfl ?_
  refine J_iload_n (i := 2) d_O_play_1 rfl rfl ?_
  refine CS_B (av := [.int s, .int f]) d_O_play_2 s_O_309 (S_O_isGame) (by decide) rfl rfl (Nat.le_of_ble_eq_true rfl) ?_
  refine B_if_eq (tgt := 18) d_O_play_5 (by decide) (fun c5 => ?_) (fun c5 => ?_)
  · refine J_iconst (v := (-1)) d_O_play_18 rfl ?_
    refine M_ir d_O_play_19 rfl rfl ?_
    exact ⟨by rw [playF, c5] <;> rfl, rfl⟩
  · obtain ⟨⟨S, hS, rfl⟩, F, hF, rfl, hb⟩ := gm_f c5
    have tS := tn_nI (show S < 2147483648 by omega)
    have tF := tn_nI (show F < 2147483648 by omega)
    refine J_iload_n (i := 1) d_O_play_8 rfl rfl ?_
    refine J_iload_n (i := 2) d_O_play_9 rfl rfl ?_
    refine CS_N (av := [.int (nI S), .int (nI F)]) d_O_play_10 s_O_313 (S_K_countJoining hX (by omega) (by omega)) (by decide) rfl rfl (Nat.le_of_ble_eq_true rfl) ?_
    refine N_nm (fun vJ hvJ => ?_)
    have hvJ2 : vJ ≤ 20 := by rw [hvJ]; exact (jn_lt hS 20 (Nat.le_refl 20)).2
    refine J_iconst (v := nI 2) d_O_play_13 rfl ?_
    refine N_irem d_O_play_14 (by omega) (by omega) (by omega) ?_
    refine N_if_ne (tgt := 20) d_O_play_15 (by decide) (by omega) (fun c15 => ?_) (fun c15 => ?_)
    · refine J_iconst (v := nI 0) d_O_play_20 rfl ?_
      refine J_istore_n (i := 3) (L1 := [some (.ref 8), some (.int (nI S)), some (.int (nI F)), some (.int (nI 0)), none]) d_O_play_21 rfl (by decide) rfl ?_
      exact lp_O_play hX hS hF ⟨by rw [playF, c5, tS, tF, ← hvJ, decide_eq_true (show vJ % 2 = 1 by omega)] <;> rfl, rfl⟩ 20 0 _ (by omega) rfl
    · refine J_iconst (v := (-1)) d_O_play_18 rfl ?_
      refine M_ir d_O_play_19 rfl rfl ?_
      exact ⟨by rw [playF, c5, tS, tF, ← hvJ, decide_eq_false (show ¬ vJ % 2 = 1 by omega)] <;> rfl, rfl⟩

