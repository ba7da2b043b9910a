def wE2 (x y : Int32) : Int64 := (x.toInt64 <<< ((nI 8).toInt64 &&& 63)) ||| y.toInt64
def wE3 (x y z : Int32) : Int64 := (wE2 x y <<< ((nI 8).toInt64 &&& 63)) ||| z.toInt64
def wE4 (x y z w : Int32) : Int64 := (wE3 x y z <<< ((nI 8).toInt64 &&& 63)) ||| w.toInt64
def wE5 (x y z w v : Int32) : Int64 := (wE4 x y z w <<< ((nI 8).toInt64 &&& 63)) ||| v.toInt64
def wE6 (x y z w v u : Int32) : Int64 := (wE5 x y z w v <<< ((nI 8).toInt64 &&& 63)) ||| u.toInt64
theorem dg_lt {c : Nat} (h : isLt c = true) : isDg c = false := fls (fun z => by rw [lt_dg z] at h; cases h)
theorem lt_256 {c : Nat} (h : isLt c = true) : 0 < c ∧ c < 256 := by
  simp only [isLt, Bool.or_eq_true, Bool.and_eq_true, decide_eq_true_eq] at h
  omega
theorem tR_lt {B : Nat → Nat} {q : Nat} (h : tR B q = 2) : isLt (B q) = true := by
  rcases Bool.eq_false_or_eq_true (isLt (B q)) with e | e
  · exact e
  · by_cases h0 : B q = 256
    · rw [tR_0 h0] at h; exact absurd h (by decide)
    · rcases Bool.eq_false_or_eq_true (isDg (B q)) with e1 | e1
      · rw [tR_1 h0 e1] at h; exact absurd h (by decide)
      · rw [tR_s h0 e1 e] at h
        split at h
        · exact absurd h (by decide)
        · split at h
          · exact absurd h (by decide)
          · split at h
            · rename_i q1
              exact absurd h (sg_12 q1).2
            · exact absurd h (by decide)
theorem lt_tR {B : Nat → Nat} {q : Nat} (h : isLt (B q) = true) : tR B q = 2 := tR_2 (by have := lt_256 h; omega) (dg_lt h) h
theorem kT_lw {B : Nat → Nat} {q : Nat} (h : isLt (B q) = true) : kT B q = kwf KW 0 (lw B q (eL B q)) := by
  unfold kT
  rw [if_neg (by have := lt_256 h; omega), h, if_pos rfl]
theorem sgK_ge (c d : Nat) : 32 ≤ sgK c d := by
  unfold sgK
  repeat' split
  all_goals decide
theorem kT_ge {B : Nat → Nat} {q : Nat} (h : isLt (B q) = false) : 32 ≤ kT B q := by
  unfold kT
  rw [h]
  split
  · decide
  · rw [if_neg (by decide)]
    split
    · decide
    · exact sgK_ge _ _
theorem wR_kw {B : Nat → Nat} {m q i : Nat} (hB : okB B m) (hl : isLt (B q) = true) (hi : i < 32) (h27 : i ≠ 27) : wR B q = Int64.ofNat (pkr (KW.getD i []).reverse) ↔ kT B q = i := by
  have hin : ∀ b, b ∈ rvl B q (eL B q - q) → 0 < b ∧ b < 256 := fun b hb => by
    obtain ⟨j, hj, e⟩ := rvl_mem hb
    rw [e]
    exact lt_256 (sc_in (okB_L hB) hB.1 q (q + j) (by omega) (show q + j < eL B q by omega))
  have hw : wR B q = Int64.ofNat (pkr (rvl B q (eL B q - q))) := wRs_pk _ (fun b hb => (hin b hb).2)
  have hk := kw_ok i hi h27
  have hp := pkr_inj _ hk
  have p6 : 256 ^ (KW.getD i []).reverse.length ≤ 256 ^ 6 := Nat.pow_le_pow_right (by decide) hk.1
  have p6' : (256 : Nat) ^ 6 = 281474976710656 := by decide
  have hr : rvl B q (eL B q - q) = (lw B q (eL B q)).reverse := (lw_rv B q _).symm
  rw [hw, j_inj (by have := pkr_lt _ (fun b hb => (hin b hb).2); omega) (by omega), kT_lw hl]
  constructor
  · intro e
    have e1 := hp.2 _ hin e
    rw [hr] at e1
    rw [List.reverse_inj.mp e1]
    exact kw_at i hi
  · intro e
    have e2 := kwf_is KW 0 i (lw B q (eL B q)) (by decide) hi (by omega)
    rw [hr, e2]
theorem wk_of {B : Nat → Nat} {m q i : Nat} (hB : okB B m) (hi : i < 32) (h27 : i ≠ 27) {W : Int64} (hW : isLt (B q) = true → W = wR B q) {w : Int64} (hw : w = Int64.ofNat (pkr (KW.getD i []).reverse)) : (tR B q = 2 ∧ lg_cmp W w = 0) ↔ kT B q = i := by
  constructor
  · intro h
    have hl := tR_lt h.1
    exact (wR_kw hB hl hi h27).mp (by rw [← hW hl, ← hw]; exact cmp_0.mp h.2)
  · intro h
    rcases Bool.eq_false_or_eq_true (isLt (B q)) with e | e
    · exact ⟨lt_tR e, cmp_0.mpr (by rw [hW e, hw]; exact (wR_kw hB e hi h27).mpr h)⟩
    · have := kT_ge e
      omega
theorem bt_of {b : Prop} [Decidable b] (h : b) : decide b = true := decide_eq_true h
theorem tR_sm {B : Nat → Nat} {m q : Nat} (hB : okB B m) : tR B q < 2147483648 := by
  have hb : B q ≤ 256 := by
    rcases Nat.lt_or_ge q m with h | h
    · have := hB.2.1 q h; omega
    · rw [hB.2.2 q h]; exact Nat.le_refl _
  unfold tR
  repeat' split
  all_goals omega
theorem S_R_w2 {X : Mem} (x y : Int32) : CM 0 m_R_w2 [.int x, .int y] X (rL (wE2 x y) X) := by
  refine CM_of (L := [some (.int x), some (.int y)]) 0 ok_R_w2 (fun _ => Nat.le_of_ble_eq_true rfl) rfl ?_
  refine J_iload_n (i := 0) d_R_w2_0 rfl rfl ?_
  refine J_i2l d_R_w2_1 ?_
  refine J_bipush (v := nI 8) d_R_w2_2 rfl ?_
  refine J_lshl d_R_w2_4 ?_
  refine J_iload_n (i := 1) d_R_w2_5 rfl rfl ?_
  refine J_i2l d_R_w2_6 ?_
  refine J_lor d_R_w2_7 ?_
  refine M_lr d_R_w2_8 rfl ?_
  exact ⟨rfl, rfl⟩

theorem S_R_w3 {X : Mem} (x y z : Int32) : CM 1 m_R_w3 [.int x, .int y, .int z] X (rL (wE3 x y z) X) := by
  refine CM_of (L := [some (.int x), some (.int y), some (.int z)]) 0 ok_R_w3 (fun _ => Nat.le_of_ble_eq_true rfl) rfl ?_
  refine J_iload_n (i := 0) d_R_w3_0 rfl rfl ?_
  refine J_iload_n (i := 1) d_R_w3_1 rfl rfl ?_
  refine CS_L (av := [.int x, .int y]) d_R_w3_2 s_R_180 (S_R_w2 x y) (by decide) rfl rfl (Nat.le_of_ble_eq_true rfl) ?_
  refine J_bipush (v := nI 8) d_R_w3_5 rfl ?_
  refine J_lshl d_R_w3_7 ?_
  refine J_iload_n (i := 2) d_R_w3_8 rfl rfl ?_
  refine J_i2l d_R_w3_9 ?_
  refine J_lor d_R_w3_10 ?_
  refine M_lr d_R_w3_11 rfl ?_
  exact ⟨rfl, rfl⟩

theorem S_R_w4 {X : Mem} (x y z w : Int32) : CM 2 m_R_w4 [.int x, .int y, .int z, .int w] X (rL (wE4 x y z w) X) := by
  refine CM_of (L := [some (.int x), some (.int y), some (.int z), some (.int w)]) 0 ok_R_w4 (fun _ => Nat.le_of_ble_eq_true rfl) rfl ?_
  refine J_iload_n (i := 0) d_R_w4_0 rfl rfl ?_
  refine J_iload_n (i := 1) d_R_w4_1 rfl rfl ?_
  refine J_iload_n (i := 2) d_R_w4_2 rfl rfl ?_
  refine CS_L (av := [.int x, .int y, .int z]) d_R_w4_3 s_R_184 (S_R_w3 x y z) (by decide) rfl rfl (Nat.le_of_ble_eq_true rfl) ?_
  refine J_bipush (v := nI 8) d_R_w4_6 rfl ?_
  refine J_lshl d_R_w4_8 ?_
  refine J_iload_n (i := 3) d_R_w4_9 rfl rfl ?_
  refine J_i2l d_R_w4_10 ?_
  refine J_lor d_R_w4_11 ?_
  refine M_lr d_R_w4_12 rfl ?_
  exact ⟨rfl, rfl⟩

theorem S_R_w5 {X : Mem} (x y z w v : Int32) : CM 3 m_R_w5 [.int x, .int y, .int z, .int w, .int v] X (rL (wE5 x y z w v) X) := by
  refine CM_of (L := [some (.int x), some (.int y), some (.int z), some (.int w), some (.int v)]) 0 ok_R_w5 (fun _ => Nat.le_of_ble_eq_true rfl) rfl ?_
  refine J_iload_n (i := 0) d_R_w5_0 rfl rfl ?_
  refine J_iload_n (i := 1) d_R_w5_1 rfl rfl ?_
  refine J_iload_n (i := 2) d_R_w5_2 rfl rfl ?_
  refine J_iload_n (i := 3) d_R_w5_3 rfl rfl ?_
  refine CS_L (av := [.int x, .int y, .int z, .int w]) d_R_w5_4 s_R_188 (S_R_w4 x y z w) (by decide) rfl rfl (Nat.le_of_ble_eq_true rfl) ?_
  refine J_bipush (v := nI 8) d_R_w5_7 rfl ?_
  refine J_lshl d_R_w5_9 ?_
  refine J_iload d_R_w5_10 rfl ?_
  refine J_i2l d_R_w5_12 ?_
  refine J_lor d_R_w5_13 ?_
  refine M_lr d_R_w5_14 rfl ?_
  exact ⟨rfl, rfl⟩

theorem S_R_w6 {X : Mem} (x y z w v u : Int32) : CM 4 m_R_w6 [.int x, .int y, .int z, .int w, .int v, .int u] X (rL (wE6 x y z w v u) X) := by
  refine CM_of (L := [some (.int x), some (.int y), some (.int z), some (.int w), some (.int v), some (.int u)]) 0 ok_R_w6 (fun _ => Nat.le_of_ble_eq_true rfl) rfl ?_
  refine J_iload_n (i := 0) d_R_w6_0 rfl rfl ?_
  refine J_iload_n (i := 1) d_R_w6_1 rfl rfl ?_
  refine J_iload_n (i := 2) d_R_w6_2 rfl rfl ?_
  refine J_iload_n (i := 3) d_R_w6_3 rfl rfl ?_
  refine J_iload d_R_w6_4 rfl ?_
  refine CS_L (av := [.int x, .int y, .int z, .int w, .int v]) d_R_w6_6 s_R_192 (S_R_w5 x y z w v) (by decide) rfl rfl (Nat.le_of_ble_eq_true rfl) ?_
  refine J_bipush (v := nI 8) d_R_w6_9 rfl ?_
  refine J_lshl d_R_w6_11 ?_
  refine J_iload d_R_w6_12 rfl ?_
  refine J_i2l d_R_w6_14 ?_
  refine J_lor d_R_w6_15 ?_
  refine M_lr d_R_w6_16 rfl ?_
  exact ⟨rfl, rfl⟩

theorem S_R_isWord {X : Mem} {B : Nat → Nat} {m q i : Nat} {w : Int64} (hB : okB B m) (hT : RTq X B q) (hi : i < 32) (h27 : i ≠ 27) (hw : w = Int64.ofNat (pkr (KW.getD i []).reverse)) : CM 0 m_R_isWord [.ref 244, .long w] X (rB (decide (kT B q = i)) X) := by
  have hk := wk_of (q := q) hB hi h27 (W := X.2.2.2.2) (fun hl => hT.2.2.2.2 (lt_tR hl)) hw
  have ht : tR B q < 2147483648 := by
    have := hT.2.2.1
    by_cases h : tR B q = 2
    · omega
    · exact tR_sm hB
  refine CM_of (L := [some (.ref 244), some (.long w), none]) 0 ok_R_isWord (fun _ => Nat.le_of_ble_eq_true rfl) rfl ?_
  refine J_aload_n (i := 0) d_R_isWord_0 rfl rfl ?_
  refine M_get (x := (nI (tR B q))) d_R_isWord_1 f_R_158 rfl rfl hT.2.2.1 ?_
  refine J_iconst (v := nI 2) d_R_isWord_4 rfl ?_
  refine N_icmp_ne (tgt := 21) d_R_isWord_5 (by decide) (by omega) (by omega) (fun c5 => ?_) (fun c5 => ?_)
  · refine J_iconst (v := nI 0) d_R_isWord_21 rfl ?_
    refine J.eq (st1 := [.int (b2i false)]) ?_ rfl rfl rfl
    refine M_ir d_R_isWord_22 rfl b2i_nar ?_
    exact ⟨congrArg (fun b => some (Value.int (b2i b))) (decide_eq_false (fun z => absurd (hk.mpr z).1 (by omega))).symm, rfl⟩
  · refine J_aload_n (i := 0) d_R_isWord_8 rfl rfl ?_
    refine M_getW (x := X.2.2.2.2) d_R_isWord_9 f_R_171 rfl rfl rfl ?_
    refine J_lload_n (i := 1) d_R_isWord_12 rfl rfl ?_
    refine J_lcmp d_R_isWord_13 ?_
    refine J_if_ne (tgt := 21) d_R_isWord_14 (by decide) (fun c14 => ?_) (fun c14 => ?_)
    · refine J_iconst (v := nI 0) d_R_isWord_21 rfl ?_
      refine J.eq (st1 := [.int (b2i false)]) ?_ rfl rfl rfl
      refine M_ir d_R_isWord_22 rfl b2i_nar ?_
      exact ⟨congrArg (fun b => some (Value.int (b2i b))) (decide_eq_false (fun z => c14 (hk.mpr z).2)).symm, rfl⟩
    · refine J_iconst (v := nI 1) d_R_isWord_17 rfl ?_
      refine J_goto (tgt := 22) d_R_isWord_18 (by decide) ?_
      refine J.eq (st1 := [.int (b2i true)]) ?_ rfl rfl rfl
      refine M_ir d_R_isWord_22 rfl b2i_nar ?_
      exact ⟨congrArg (fun b => some (Value.int (b2i b))) (bt_of (hk.mp ⟨by omega, c14⟩)).symm, rfl⟩

