theorem j_sh8 : ((nI 8).toInt64 &&& 63).toBitVec.smod 64 = 8#64 := by decide
theorem j_sh48 : ((nI 48).toInt64 &&& 63).toBitVec.smod 64 = 48#64 := by decide
theorem j_shl8 (n : Nat) : Int64.ofNat n <<< ((nI 8).toInt64 &&& 63) = Int64.ofNat (n * 256) := by
  apply Int64.toBitVec_inj.mp
  show BitVec.ofNat 64 n <<< (((nI 8).toInt64 &&& 63).toBitVec.smod 64) = BitVec.ofNat 64 (n * 256)
  rw [j_sh8]
  apply BitVec.eq_of_toNat_eq
  rw [BitVec.shiftLeft_eq', BitVec.toNat_shiftLeft, Nat.shiftLeft_eq]
  show n % 2 ^ 64 * 2 ^ 8 % 2 ^ 64 = n * 256 % 2 ^ 64
  rw [Nat.mod_mul_mod]
theorem j_or (a b : Nat) : Int64.ofNat a ||| Int64.ofNat b = Int64.ofNat (a ||| b) := by
  apply Int64.toBitVec_inj.1
  show BitVec.ofNat 64 a ||| BitVec.ofNat 64 b = BitVec.ofNat 64 (a ||| b)
  apply BitVec.eq_of_getLsbD_eq
  intro i hi
  simp [hi]
theorem j_ext {b : Nat} (h : b < 2147483648) : (nI b).toInt64 = Int64.ofNat b := Int32.toInt64_ofNat' (by rw [Int32.toInt_maxValue]; omega)
theorem j_shr48 {n : Nat} (h : n < 9223372036854775808) : Int64.ofNat n >>> ((nI 48).toInt64 &&& 63) = Int64.ofNat (n / 281474976710656) := by
  apply Int64.toBitVec_inj.mp
  show BitVec.sshiftRight' (BitVec.ofNat 64 n) (((nI 48).toInt64 &&& 63).toBitVec.smod 64) = BitVec.ofNat 64 (n / 281474976710656)
  rw [j_sh48]
  have hm : (BitVec.ofNat 64 n).msb = false := by
    rw [BitVec.msb_eq_decide]
    refine decide_eq_false ?_
    show ¬ 2 ^ 63 ≤ n % 2 ^ 64
    omega
  show (BitVec.ofNat 64 n).sshiftRight 48 = _
  rw [BitVec.sshiftRight_eq_of_msb_false hm]
  apply BitVec.eq_of_toNat_eq
  rw [BitVec.toNat_ushiftRight, Nat.shiftRight_eq_div_pow]
  show n % 2 ^ 64 / 2 ^ 48 = n / 281474976710656 % 2 ^ 64
  omega
theorem j_inj {a b : Nat} (ha : a < 9223372036854775808) (hb : b < 9223372036854775808) : Int64.ofNat a = Int64.ofNat b ↔ a = b := by
  constructor
  · intro e
    have := congrArg Int64.toNatClampNeg e
    rw [Int64.toNatClampNeg_ofNat_of_lt ha, Int64.toNatClampNeg_ofNat_of_lt hb] at this
    exact this
  · exact fun e => by rw [e]
theorem cmp_0 {x y : Int64} : lg_cmp x y = 0 ↔ x = y := by
  unfold lg_cmp
  split
  · rename_i h
    refine ⟨fun z => absurd z (by decide), fun z => ?_⟩
    rw [z] at h
    exact absurd (show y < y from h) Int64.lt_irrefl
  · split
    · rename_i h
      exact ⟨fun _ => h, fun _ => rfl⟩
    · rename_i h
      exact ⟨fun z => absurd z (by decide), fun z => absurd z h⟩
theorem or_add {a b : Nat} (hb : b < 256) : a * 256 ||| b = a * 256 + b := by
  have := Nat.two_pow_add_eq_or_of_lt (i := 8) (b := b) hb a
  rw [Nat.mul_comm a 256]
  exact this.symm
/-- a word's letters, from its last, as one number -/
def pkr : List Nat → Nat
  | [] => 0
  | b :: r => if pkr r < 281474976710656 then pkr r * 256 + b else 1152921504606846976
def rvl (B : Nat → Nat) (q : Nat) : Nat → List Nat
  | 0 => []
  | k + 1 => B (q + k) :: rvl B q k
theorem pkr_lt : ∀ r : List Nat, (∀ b, b ∈ r → b < 256) → pkr r < 2305843009213693952
  | [], _ => by decide
  | b :: r, h => by
    have h1 := h b (List.mem_cons_self)
    show (if pkr r < 281474976710656 then pkr r * 256 + b else 1152921504606846976) < _
    split
    · omega
    · decide
theorem wRs_pk {B : Nat → Nat} {q : Nat} : ∀ k, (∀ b, b ∈ rvl B q k → b < 256) → wRs B q k = Int64.ofNat (pkr (rvl B q k))
  | 0, _ => rfl
  | k + 1, h => by
    have hb := h (B (q + k)) (List.mem_cons_self)
    have hr : ∀ b, b ∈ rvl B q k → b < 256 := fun b hm => h b (List.mem_cons_of_mem _ hm)
    have ih := wRs_pk k hr
    have hl := pkr_lt _ hr
    show (if lg_cmp (wRs B q k >>> ((nI 48).toInt64 &&& 63)) 0 = 0 then (wRs B q k <<< ((nI 8).toInt64 &&& 63)) ||| (nI (B (q + k))).toInt64 else 1152921504606846976) = Int64.ofNat (if pkr (rvl B q k) < 281474976710656 then pkr (rvl B q k) * 256 + B (q + k) else 1152921504606846976)
    rw [ih, j_shr48 (by omega)]
    by_cases hq : pkr (rvl B q k) < 281474976710656
    · rw [if_pos hq, if_pos (cmp_0.mpr (by rw [Nat.div_eq_of_lt hq]; rfl)), j_shl8, j_ext (by omega), j_or, or_add hb]
    · rw [if_neg hq, if_neg (fun z => ?_)]
      · rfl
      · have := (j_inj (b := 0) (by omega) (by decide)).mp (cmp_0.mp z)
        omega
theorem pkr_inj : ∀ t : List Nat, (t.length ≤ 6 ∧ ∀ b, b ∈ t → 0 < b ∧ b < 256) → pkr t < 256 ^ t.length ∧ ∀ r : List Nat, (∀ b, b ∈ r → 0 < b ∧ b < 256) → pkr r = pkr t → r = t
  | [], _ => ⟨by decide, fun r hr e => by
    cases r with
    | nil => rfl
    | cons b r =>
      have hb := hr b (List.mem_cons_self)
      have e : (if pkr r < 281474976710656 then pkr r * 256 + b else 1152921504606846976) = 0 := e
      split at e <;> omega⟩
  | c :: t, h => by
    obtain ⟨h1, h2⟩ := h
    have h1 : t.length + 1 ≤ 6 := h1
    have hc := h2 c (List.mem_cons_self)
    obtain ⟨g1, g2⟩ := pkr_inj t ⟨by omega, fun b hb => h2 b (List.mem_cons_of_mem _ hb)⟩
    have p5 : 256 ^ t.length ≤ 256 ^ 5 := Nat.pow_le_pow_right (by decide) (by omega)
    have p5' : (256 : Nat) ^ 5 = 1099511627776 := by decide
    have et : pkr (c :: t) = pkr t * 256 + c := if_pos (show pkr t < 281474976710656 by omega)
    refine ⟨?_, fun r hr e => ?_⟩
    · rw [et]
      show _ < 256 ^ (t.length + 1)
      rw [Nat.pow_succ]
      omega
    · rw [et] at e
      cases r with
      | nil =>
        have e : 0 = pkr t * 256 + c := e
        omega
      | cons b r =>
        have hb := hr b (List.mem_cons_self)
        have e : (if pkr r < 281474976710656 then pkr r * 256 + b else 1152921504606846976) = pkr t * 256 + c := e
        split at e
        · have e1 : pkr r = pkr t := by omega
          have e2 : b = c := by omega
          rw [e2, g2 r (fun b hb => hr b (List.mem_cons_of_mem _ hb)) e1]
        · omega
theorem lw_rv (B : Nat → Nat) (q : Nat) : ∀ k, ((List.range k).map (fun i => B (q + i))).reverse = rvl B q k
  | 0 => rfl
  | k + 1 => by
    rw [List.range_succ, List.map_append, List.reverse_append, lw_rv B q k]
    rfl
theorem rvl_mem {B : Nat → Nat} {q : Nat} : ∀ {k b : Nat}, b ∈ rvl B q k → ∃ i, i < k ∧ b = B (q + i)
  | 0, b, h => by cases h
  | k + 1, b, h => by
    rcases List.mem_cons.mp h with h | h
    · exact ⟨k, by omega, h⟩
    · obtain ⟨i, hi, e⟩ := rvl_mem h
      exact ⟨i, by omega, e⟩
theorem kwf_ge : ∀ (ks : List (List Nat)) (i : Nat) (l : List Nat), kwf ks i l = 47 ∨ i ≤ kwf ks i l
  | [], _, _ => Or.inl rfl
  | k :: ks, i, l => by
    show (if l = k then i else kwf ks (i + 1) l) = 47 ∨ i ≤ (if l = k then i else kwf ks (i + 1) l)
    split
    · exact Or.inr (Nat.le_refl i)
    · rcases kwf_ge ks (i + 1) l with h | h
      · exact Or.inl h
      · exact Or.inr (by omega)
theorem kwf_is : ∀ (ks : List (List Nat)) (s i : Nat) (l : List Nat), s + ks.length ≤ 47 → i < ks.length → kwf ks s l = s + i → l = ks.getD i []
  | [], _, i, _, _, hi, _ => absurd hi (Nat.not_lt_zero i)
  | k :: ks, s, i, l, hs, hi, h => by
    have hs : s + (ks.length + 1) ≤ 47 := hs
    have hi : i < ks.length + 1 := hi
    have h : (if l = k then s else kwf ks (s + 1) l) = s + i := h
    by_cases e : l = k
    · rw [if_pos e] at h
      rw [show i = 0 by omega, e]
      rfl
    · rw [if_neg e] at h
      cases i with
      | zero =>
        rcases kwf_ge ks (s + 1) l with g | g <;> omega
      | succ i => exact kwf_is ks (s + 1) i l (by omega) (by omega) (by omega)
theorem kw_at : ∀ i, i < 32 → kwf KW 0 (KW.getD i []) = i := by decide +kernel
theorem kw_ok : ∀ i, i < 32 → i ≠ 27 → (KW.getD i []).reverse.length ≤ 6 ∧ ∀ b, b ∈ (KW.getD i []).reverse → 0 < b ∧ b < 256 := by decide +kernel
