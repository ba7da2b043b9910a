def lwN (s : Nat) : Nat := andn s (s - 1)
theorem neg_low {s : Nat} (h : 0 < s) : nI s &&& -(nI s) = nI (lwN s) := by
  have e : -(nI s) = nI (s - 1) ^^^ (-1) := by
    apply Int32.toBitVec_inj.mp
    show -(BitVec.ofNat 32 s) = BitVec.ofNat 32 (s - 1) ^^^ BitVec.allOnes 32
    rw [BitVec.xor_allOnes, show BitVec.ofNat 32 s = BitVec.ofNat 32 (s - 1) + 1#32 by rw [← BitVec.ofNat_add, show s - 1 + 1 = s by omega]]
    apply BitVec.eq_of_toNat_eq
    rw [BitVec.toNat_neg, BitVec.toNat_not, BitVec.toNat_add]
    have := (BitVec.ofNat 32 (s - 1)).isLt
    simp only [BitVec.toNat_ofNat] at this ⊢
    omega
  rw [e, nI_andn]
  rfl
def nxS (s : Nat) : Nat := (s + lwN s) ||| (((s + lwN s) ^^^ s) / lwN s) >>> 2
def stepOk (s : Nat) : Bool := decide (0 < s) && decide (s < 1048576) && decide (0 < lwN s) && decide (lwN s < 1048576) && (((s + lwN s) ^^^ s) >>> (2 + bc (lwN s - 1)) == (((s + lwN s) ^^^ s) / lwN s) >>> 2) && decide (2 + bc (lwN s - 1) < 32)
/-- k sets from s on, all of them in room, and the next is out of it -/
def chS : Nat → Nat → Bool
  | 0, s => decide (1048575 < s)
  | k + 1, s => stepOk s && chS k (nxS s)
theorem chS_1 : chS 20 1 = true := by decide +kernel
theorem chS_2 : chS 190 3 = true := by decide +kernel
theorem chS_3 : chS 1140 7 = true := by decide +kernel
theorem chS_4 : chS 4845 15 = true := by decide +kernel
