def exX (X : Mem) (B : Nat → Nat) (j k : Nat) : Mem := if tk_ B j = k then adX X B j else rfX X 1 (stT B j)
theorem S_D_expect {X : Mem} {B : Nat → Nat} {N T j c : Nat} {w : Bool} (hX : Ok X) (hL : Lv X B N T j c w) {k : Nat} (hk : k < 46) : CM 1 m_D_expect [.ref 11, .int (nI k)] X (rV (exX X B j k)) := by
  have hlt := tk_lt B j
  refine CM_of (L := [some (.ref 11), some (.int (nI k))]) 0 ok_D_expect (fun _ => Nat.le_of_ble_eq_true rfl) rfl ?_
  refine J_aload_n (i := 0) d_D_expect_0 rfl rfl ?_
  refine M_get (x := (nI (tk_ B j))) d_D_expect_1 f_D_32 rfl rfl hL.2.2.2.1 ?_
  refine J_iload_n (i := 1) d_D_expect_4 rfl rfl ?_
  refine N_icmp_ne (tgt := 15) d_D_expect_5 (by decide) (by omega) (by omega) (fun c5 => ?_) (fun c5 => ?_)
  · refine J_aload_n (i := 0) d_D_expect_15 rfl rfl ?_
    refine J_iconst (v := nI 1) d_D_expect_16 rfl ?_
    refine CV_V (av := [.int (nI 1)]) d_D_expect_17 s_D_57 (M_rcv rfl (by decide) rfl) (S_D_refuse hX hL) (by decide) rfl rfl (Nat.le_of_ble_eq_true rfl) ?_
    refine M_vr d_D_expect_20 rfl ?_
    exact ⟨rfl, by rw [exX, if_neg (by omega)]⟩
  · refine J_aload_n (i := 0) d_D_expect_8 rfl rfl ?_
    refine CV_V (av := []) d_D_expect_9 s_D_54 (M_rcv rfl (by decide) rfl) (S_D_advance hX hL (by omega)) (by decide) rfl rfl (Nat.le_of_ble_eq_true rfl) ?_
    refine J_goto (tgt := 20) d_D_expect_12 (by decide) ?_
    refine M_vr d_D_expect_20 rfl ?_
    exact ⟨rfl, by rw [exX, if_pos (by omega)]⟩

theorem S_D_expect_d {X : Mem} {B : Nat → Nat} {N T f p : Nat} (hX : Ok X) (hD : Dd X B N T f p) {k : Nat} (hk : k < 46) : CM 1 m_D_expect [.ref 11, .int (nI k)] X (rV X) := by
  refine CM_of (L := [some (.ref 11), some (.int (nI k))]) 0 ok_D_expect (fun _ => Nat.le_of_ble_eq_true rfl) rfl ?_
  refine J_aload_n (i := 0) d_D_expect_0 rfl rfl ?_
  refine M_get (x := (nI 47)) d_D_expect_1 f_D_32 rfl rfl hD.2.2.1 ?_
  refine J_iload_n (i := 1) d_D_expect_4 rfl rfl ?_
  refine N_icmp_ne (tgt := 15) d_D_expect_5 (by decide) (by omega) (by omega) (fun c5 => ?_) (fun c5 => absurd c5 (by omega))
  refine J_aload_n (i := 0) d_D_expect_15 rfl rfl ?_
  refine J_iconst (v := nI 1) d_D_expect_16 rfl ?_
  refine CV_V (av := [.int (nI 1)]) d_D_expect_17 s_D_57 (M_rcv rfl (by decide) rfl) (S_D_refuse_d hX hD) (by decide) rfl rfl (Nat.le_of_ble_eq_true rfl) ?_
  refine M_vr d_D_expect_20 rfl ?_
  exact ⟨rfl, rfl⟩

def nuX (X : Mem) (B : Nat → Nat) (j lo hi : Nat) : Mem := if tk_ B j = 45 then (if vC B (stT B j) < lo ∨ hi < vC B (stT B j) then rfX X 2 (stT B j) else adX X B j) else rfX X 1 (stT B j)
def nuV (B : Nat → Nat) (j lo hi : Nat) : Nat := if tk_ B j = 45 then (if vC B (stT B j) < lo ∨ hi < vC B (stT B j) then lo else vC B (stT B j)) else lo
theorem S_D_takeNumber {X : Mem} {B : Nat → Nat} {N T j c : Nat} {w : Bool} (hX : Ok X) (hL : Lv X B N T j c w) {lo hi : Nat} (hlo : lo < 20000) (hhi : hi < 20000) : CM 1 m_D_takeNumber [.ref 11, .int (nI lo), .int (nI hi)] X (rN (nuV B j lo hi) (nuX X B j lo hi)) := by
  have hlt := tk_lt B j
  have h300 := hL.1.1.1
  have hjN := hL.2.1
  generalize hx15 : (X.2.1 15).getD j 0 = x15
  refine CM_of (L := [some (.ref 11), some (.int (nI lo)), some (.int (nI hi)), none]) 1 ok_D_takeNumber (fun _ => Nat.le_of_ble_eq_true rfl) rfl ?_
  refine J_aload_n (i := 0) d_D_takeNumber_0 rfl rfl ?_
  refine M_getR (b := 12) d_D_takeNumber_1 f_D_14 rfl rfl rfl ?_
  refine M_getR (b := 15) d_D_takeNumber_4 f_D_60 rfl rfl rfl ?_
  refine J_aload_n (i := 0) d_D_takeNumber_7 rfl rfl ?_
  refine M_get (x := (nI j)) d_D_takeNumber_8 f_D_24 rfl rfl hL.2.2.1 ?_
  refine N_iald (x := x15) d_D_takeNumber_11 rfl (by omega) (ltL hX (a := 15) (n := 301) (by decide) rfl (by omega)) hx15 ?_
  refine J_istore_n (i := 3) (L1 := [some (.ref 11), some (.int (nI lo)), some (.int (nI hi)), some (.int x15)]) d_D_takeNumber_12 rfl (by decide) rfl ?_
  refine J_aload_n (i := 0) d_D_takeNumber_13 rfl rfl ?_
  refine M_get (x := (nI (tk_ B j))) d_D_takeNumber_14 f_D_32 rfl rfl hL.2.2.2.1 ?_
  refine J_bipush (v := nI 45) d_D_takeNumber_17 rfl ?_
  refine N_icmp_eq (tgt := 30) d_D_takeNumber_19 (by decide) (by omega) (by omega) (fun c19 => ?_) (fun c19 => ?_)
  · have hx2 : x15 = nI (vC B (stT B j)) := by rw [← hx15]; exact (hL.1.1.2.2.2 j (by omega)).2.2 (by have := c19; exact this)
    subst hx2
    have hv := dv_le B (stT B j) (eD B (stT B j) - stT B j)
    have hv : vC B (stT B j) ≤ 10000 := hv
    refine J_iload_n (i := 3) d_D_takeNumber_30 rfl rfl ?_
    refine J_iload_n (i := 1) d_D_takeNumber_31 rfl rfl ?_
    refine N_icmp_lt (tgt := 40) d_D_takeNumber_32 (by decide) (by omega) (by omega) (fun c32 => ?_) (fun c32 => ?_)
    · refine J_aload_n (i := 0) d_D_takeNumber_40 rfl rfl ?_
      refine J_iconst (v := nI 2) d_D_takeNumber_41 rfl ?_
      refine CV_V (av := [.int (nI 2)]) d_D_takeNumber_42 s_D_57 (M_rcv rfl (by decide) rfl) (S_D_refuse hX hL) (by decide) rfl rfl (Nat.le_of_ble_eq_true rfl) ?_
      refine J_goto (tgt := 54) d_D_takeNumber_45 (by decide) ?_
      refine J_iload_n (i := 1) d_D_takeNumber_54 rfl rfl ?_
      refine M_ir d_D_takeNumber_55 rfl rfl ?_
      exact ⟨by rw [nuV, if_pos c19, if_pos (by omega)], by rw [nuX, if_pos c19, if_pos (by omega)]⟩
    · refine J_iload_n (i := 3) d_D_takeNumber_35 rfl rfl ?_
      refine J_iload_n (i := 2) d_D_takeNumber_36 rfl rfl ?_
      refine N_icmp_le (tgt := 48) d_D_takeNumber_37 (by decide) (by omega) (by omega) (fun c37 => ?_) (fun c37 => ?_)
      · refine J_aload_n (i := 0) d_D_takeNumber_48 rfl rfl ?_
        refine CV_V (av := []) d_D_takeNumber_49 s_D_54 (M_rcv rfl (by decide) rfl) (S_D_advance hX hL (by omega)) (by decide) rfl rfl (Nat.le_of_ble_eq_true rfl) ?_
        refine J_iload_n (i := 3) d_D_takeNumber_52 rfl rfl ?_
        refine M_ir d_D_takeNumber_53 rfl rfl ?_
        exact ⟨by rw [nuV, if_pos c19, if_neg (by omega)], by rw [nuX, if_pos c19, if_neg (by omega)]⟩
      · refine J_aload_n (i := 0) d_D_takeNumber_40 rfl rfl ?_
        refine J_iconst (v := nI 2) d_D_takeNumber_41 rfl ?_
        refine CV_V (av := [.int (nI 2)]) d_D_takeNumber_42 s_D_57 (M_rcv rfl (by decide) rfl) (S_D_refuse hX hL) (by decide) rfl rfl (Nat.le_of_ble_eq_true rfl) ?_
        refine J_goto (tgt := 54) d_D_takeNumber_45 (by decide) ?_
        refine J_iload_n (i := 1) d_D_takeNumber_54 rfl rfl ?_
        refine M_ir d_D_takeNumber_55 rfl rfl ?_
        exact ⟨by rw [nuV, if_pos c19, if_pos (by omega)], by rw [nuX, if_pos c19, if_pos (by omega)]⟩
  · refine J_aload_n (i := 0) d_D_takeNumber_22 rfl rfl ?_
    refine J_iconst (v := nI 1) d_D_takeNumber_23 rfl ?_
    refine CV_V (av := [.int (nI 1)]) d_D_takeNumber_24 s_D_57 (M_rcv rfl (by decide) rfl) (S_D_refuse hX hL) (by decide) rfl rfl (Nat.le_of_ble_eq_true rfl) ?_
    refine J_goto (tgt := 54) d_D_takeNumber_27 (by decide) ?_
    refine J_iload_n (i := 1) d_D_takeNumber_54 rfl rfl ?_
    refine M_ir d_D_takeNumber_55 rfl rfl ?_
    exact ⟨by rw [nuV, if_neg c19], by rw [nuX, if_neg c19]⟩

theorem S_D_takeNumber_d {X : Mem} {B : Nat → Nat} {N T f p : Nat} (hX : Ok X) (hD : Dd X B N T f p) {lo hi : Nat} : CM 1 m_D_takeNumber [.ref 11, .int (nI lo), .int (nI hi)] X (rN lo X) := by
  obtain ⟨j, hj300, hj1⟩ := hD.2.1
  generalize hx15 : (X.2.1 15).getD j 0 = x15
  refine CM_of (L := [some (.ref 11), some (.int (nI lo)), some (.int (nI hi)), none]) 1 ok_D_takeNumber (fun _ => Nat.le_of_ble_eq_true rfl) rfl ?_
  refine J_aload_n (i := 0) d_D_takeNumber_0 rfl rfl ?_
  refine M_getR (b := 12) d_D_takeNumber_1 f_D_14 rfl rfl rfl ?_
  refine M_getR (b := 15) d_D_takeNumber_4 f_D_60 rfl rfl rfl ?_
  refine J_aload_n (i := 0) d_D_takeNumber_7 rfl rfl ?_
  refine M_get (x := (nI j)) d_D_takeNumber_8 f_D_24 rfl rfl hj1 ?_
  refine N_iald (x := x15) d_D_takeNumber_11 rfl (by omega) (ltL hX (a := 15) (n := 301) (by decide) rfl (by omega)) hx15 ?_
  refine J_istore_n (i := 3) (L1 := [some (.ref 11), some (.int (nI lo)), some (.int (nI hi)), some (.int x15)]) d_D_takeNumber_12 rfl (by decide) rfl ?_
  refine J_aload_n (i := 0) d_D_takeNumber_13 rfl rfl ?_
  refine M_get (x := (nI 47)) d_D_takeNumber_14 f_D_32 rfl rfl hD.2.2.1 ?_
  refine J_bipush (v := nI 45) d_D_takeNumber_17 rfl ?_
  refine N_icmp_eq (tgt := 30) d_D_takeNumber_19 (by decide) (by omega) (by omega) (fun c19 => absurd c19 (by decide)) (fun c19 => ?_)
  refine J_aload_n (i := 0) d_D_takeNumber_22 rfl rfl ?_
  refine J_iconst (v := nI 1) d_D_takeNumber_23 rfl ?_
  refine CV_V (av := [.int (nI 1)]) d_D_takeNumber_24 s_D_57 (M_rcv rfl (by decide) rfl) (S_D_refuse_d hX hD) (by decide) rfl rfl (Nat.le_of_ble_eq_true rfl) ?_
  refine J_goto (tgt := 54) d_D_takeNumber_27 (by decide) ?_
  refine J_iload_n (i := 1) d_D_takeNumber_54 rfl rfl ?_
  refine M_ir d_D_takeNumber_55 rfl rfl ?_
  exact ⟨rfl, rfl⟩

def wrX (X : Mem) (T c x : Nat) : Mem := if c < 300 then pF (pA X (T + 1) ((X.2.1 (T + 1)).set c (nI x))) T 1 (nI (c + 1)) else X
theorem S_T_write {X : Mem} {T c k v : Nat} (hX : Ok X) (hk : kd T = 5) (hc : X.1 T 1 = nI c) (hc3 : c ≤ 300) : CM 0 m_T_write [.ref T, .int (nI k), .int (nI v)] X (rN (min c 299) (wrX X T c (v * 64 + k))) := by
  have tf := txt_f hk
  have hl : (X.2.1 (T + 1)).length = 300 := by rw [hX.1 (T + 1) (by omega)]; exact tf.2.2.1.1
  refine CM_of (L := [some (.ref T), some (.int (nI k)), some (.int (nI v))]) 0 ok_T_write (fun _ => Nat.le_of_ble_eq_true rfl) rfl ?_
  refine J_aload_n (i := 0) d_T_write_0 rfl rfl ?_
  refine M_get (x := (nI c)) d_T_write_1 f_T_24 hk rfl hc ?_
  refine J_sipush (v := nI 300) d_T_write_4 rfl ?_
  refine N_icmp_ge (tgt := 35) d_T_write_7 (by decide) (by omega) (by omega) (fun c7 => ?_) (fun c7 => ?_)
  · refine J_aload_n (i := 0) d_T_write_35 rfl rfl ?_
    refine M_get (x := (nI c)) d_T_write_36 f_T_24 hk rfl hc ?_
    refine J_iconst (v := nI 1) d_T_write_39 rfl ?_
    refine N_isub d_T_write_40 (by omega) ?_
    refine M_ir d_T_write_41 rfl rfl ?_
    exact ⟨by rw [show c - 1 = min c 299 by omega], by rw [wrX, if_neg (by omega)]⟩
  · refine J_aload_n (i := 0) d_T_write_10 rfl rfl ?_
    refine M_getR (b := (T + 1)) d_T_write_11 f_T_9 hk rfl tf.1.1 ?_
    refine J_aload_n (i := 0) d_T_write_14 rfl rfl ?_
    refine M_get (x := (nI c)) d_T_write_15 f_T_24 hk rfl hc ?_
    refine J_iload_n (i := 2) d_T_write_18 rfl rfl ?_
    refine J_bipush (v := nI 64) d_T_write_19 rfl ?_
    refine N_imul d_T_write_21 ?_
    refine J_iload_n (i := 1) d_T_write_22 rfl rfl ?_
    refine N_iadd d_T_write_23 ?_
    refine N_iast d_T_write_24 tf.2.1.1 (by omega) (by omega) (show c < (X.2.1 (T + 1)).length by omega) ?_
    refine J_aload_n (i := 0) d_T_write_25 rfl rfl ?_
    refine J_dup d_T_write_26 rfl ?_
    refine M_get (x := (nI c)) d_T_write_27 f_T_24 hk rfl hc ?_
    refine J_iconst (v := nI 1) d_T_write_30 rfl ?_
    refine N_iadd d_T_write_31 ?_
    refine M_put d_T_write_32 p_T_24 hk rfl rfl rfl ?_
    refine J_aload_n (i := 0) d_T_write_35 rfl rfl ?_
    refine M_get (x := (nI (c + 1))) d_T_write_36 f_T_24 hk rfl pF_at ?_
    refine J_iconst (v := nI 1) d_T_write_39 rfl ?_
    refine N_isub d_T_write_40 (by omega) ?_
    refine M_ir d_T_write_41 rfl rfl ?_
    exact ⟨by rw [show c + 1 - 1 = min c 299 by omega], by rw [wrX, if_pos (by omega)]⟩

theorem S_T_aim {X : Mem} {T pl tg x : Nat} (hX : Ok X) (hk : kd T = 5) (hp : pl < 300) (hx : (X.2.1 (T + 1)).getD pl 0 = nI x) (hx3 : x < 2147483648) : CM 0 m_T_aim [.ref T, .int (nI pl), .int (nI tg)] X (rV (pA X (T + 1) ((X.2.1 (T + 1)).set pl (nI (x % 64 + tg * 64))))) := by
  have tf := txt_f hk
  have hl : (X.2.1 (T + 1)).length = 300 := by rw [hX.1 (T + 1) (by omega)]; exact tf.2.2.1.1
  refine CM_of (L := [some (.ref T), some (.int (nI pl)), some (.int (nI tg))]) 0 ok_T_aim (fun _ => Nat.le_of_ble_eq_true rfl) rfl ?_
  refine J_iload_n (i := 1) d_T_aim_0 rfl rfl ?_
  refine N_if_lt (tgt := 31) d_T_aim_1 (by decide) (by omega) ?_
  refine J_iload_n (i := 1) d_T_aim_4 rfl rfl ?_
  refine J_sipush (v := nI 300) d_T_aim_5 rfl ?_
  refine N_icmp_ge (tgt := 31) d_T_aim_8 (by decide) (by omega) (by omega) (fun c8 => absurd c8 (by omega)) (fun c8 => ?_)
  refine J_aload_n (i := 0) d_T_aim_11 rfl rfl ?_
  refine M_getR (b := (T + 1)) d_T_aim_12 f_T_9 hk rfl tf.1.1 ?_
  refine J_iload_n (i := 1) d_T_aim_15 rfl rfl ?_
  refine J_aload_n (i := 0) d_T_aim_16 rfl rfl ?_
  refine M_getR (b := (T + 1)) d_T_aim_17 f_T_9 hk rfl tf.1.1 ?_
  refine J_iload_n (i := 1) d_T_aim_20 rfl rfl ?_
  refine N_iald (x := (nI x)) d_T_aim_21 tf.2.1.1 (by omega) (show pl < (X.2.1 (T + 1)).length by omega) hx ?_
  refine J_bipush (v := nI 64) d_T_aim_22 rfl ?_
  refine N_irem d_T_aim_24 (by omega) (by omega) (by omega) ?_
  refine J_iload_n (i := 2) d_T_aim_25 rfl rfl ?_
  refine J_bipush (v := nI 64) d_T_aim_26 rfl ?_
  refine N_imul d_T_aim_28 ?_
  refine N_iadd d_T_aim_29 ?_
  refine N_iast d_T_aim_30 tf.2.1.1 (by omega) (by omega) (show pl < (X.2.1 (T + 1)).length by omega) ?_
  refine M_vr d_T_aim_31 rfl ?_
  exact ⟨rfl, rfl⟩

theorem S_T_aim_d {X : Mem} {T pl tg : Nat} (hX : Ok X) (hk : kd T = 5) (hp : pl < 300) : CM 0 m_T_aim [.ref T, .int (nI pl), .int (nI tg)] X (fun r Y => r = none ∧ ∃ v, Y = pA X (T + 1) ((X.2.1 (T + 1)).set pl v)) := by
  have tf := txt_f hk
  have hl : (X.2.1 (T + 1)).length = 300 := by rw [hX.1 (T + 1) (by omega)]; exact tf.2.2.1.1
  refine CM_of (L := [some (.ref T), some (.int (nI pl)), some (.int (nI tg))]) 0 ok_T_aim (fun _ => Nat.le_of_ble_eq_true rfl) rfl ?_
  refine J_iload_n (i := 1) d_T_aim_0 rfl rfl ?_
  refine N_if_lt (tgt := 31) d_T_aim_1 (by decide) (by omega) ?_
  refine J_iload_n (i := 1) d_T_aim_4 rfl rfl ?_
  refine J_sipush (v := nI 300) d_T_aim_5 rfl ?_
  refine N_icmp_ge (tgt := 31) d_T_aim_8 (by decide) (by omega) (by omega) (fun c8 => absurd c8 (by omega)) (fun c8 => ?_)
  refine J_aload_n (i := 0) d_T_aim_11 rfl rfl ?_
  refine M_getR (b := (T + 1)) d_T_aim_12 f_T_9 hk rfl tf.1.1 ?_
  refine J_iload_n (i := 1) d_T_aim_15 rfl rfl ?_
  refine J_aload_n (i := 0) d_T_aim_16 rfl rfl ?_
  refine M_getR (b := (T + 1)) d_T_aim_17 f_T_9 hk rfl tf.1.1 ?_
  refine J_iload_n (i := 1) d_T_aim_20 rfl rfl ?_
  refine N_iald (x := ((X.2.1 (T + 1)).getD pl 0)) d_T_aim_21 tf.2.1.1 (by omega) (show pl < (X.2.1 (T + 1)).length by omega) rfl ?_
  refine J_bipush (v := nI 64) d_T_aim_22 rfl ?_
  refine J_irem d_T_aim_24 (by decide) ?_
  refine J_iload_n (i := 2) d_T_aim_25 rfl rfl ?_
  refine J_bipush (v := nI 64) d_T_aim_26 rfl ?_
  refine N_imul d_T_aim_28 ?_
  refine J_iadd d_T_aim_29 ?_
  refine N_iast d_T_aim_30 tf.2.1.1 (by omega) (by omega) (show pl < (X.2.1 (T + 1)).length by omega) ?_
  refine M_vr d_T_aim_31 rfl ?_
  exact ⟨rfl, _, rfl⟩

theorem wr_off {X : Mem} {T c x : Nat} : offL T X (wrX X T c x) := by
  unfold wrX
  split
  · exact ⟨fun b k _ q2 => pF_x q2, fun b hb => if_neg hb, rfl⟩
  · exact offL_0 T X
theorem wr_Ok {X : Mem} {T c x : Nat} (hX : Ok X) (hk : kd T = 5) : Ok (wrX X T c x) := by
  unfold wrX
  split
  · exact okF (okA hX (txt_f hk).2.2.2.1.1 (by rw [List.length_set]))
  · exact hX
theorem ad_Ok {X : Mem} {B : Nat → Nat} {j : Nat} (hX : Ok X) : Ok (adX X B j) := okF (okF hX)
theorem rf_Ok {X : Mem} {f p : Nat} (hX : Ok X) : Ok (rfX X f p) := okF (okF (okF hX))
theorem wr_Lv {X : Mem} {B : Nat → Nat} {N T j c x : Nat} {w : Bool} (h : Lv X B N T j c w) (hc : c < 300) : Lv (wrX X T c x) B N T j (c + 1) w ∧ (wrX X T c x).2.1 (T + 1) = (X.2.1 (T + 1)).set c (nI x) := by
  have e : wrX X T c x = pF (pA X (T + 1) ((X.2.1 (T + 1)).set c (nI x))) T 1 (nI (c + 1)) := if_pos hc
  have ho : offL T X (wrX X T c x) := wr_off
  obtain ⟨g1, g2, g3, g4, g5, g6, g7, g8⟩ := h
  have ht := tx_ne g1.2.1
  refine ⟨⟨Bs_o ho g1, g2, ?_, ?_, ?_, ?_, ?_, ⟨by omega, ?_⟩⟩, ?_⟩
  · rw [e]; exact (pF_o (by omega)).trans g3
  · rw [e]; exact (pF_o (by omega)).trans g4
  · rw [e, pF_o (by omega)]; exact g5
  · rw [e]; exact (pF_o (by omega)).trans g6
  · rw [e]; exact pF_at
  · rw [e]; exact (pF_o (by omega)).trans g8.2
  · rw [e]; exact pA_at
theorem wr_Dd {X : Mem} {B : Nat → Nat} {N T f p c x : Nat} (h : Dd X B N T f p) (hc : X.1 T 1 = nI c) (hc3 : c ≤ 300) : Dd (wrX X T c x) B N T f p := by
  have ho : offL T X (wrX X T c x) := wr_off
  obtain ⟨g1, ⟨j, hj, g2⟩, g3, g4, g5, g6, c0, hc0, g7⟩ := h
  have ht := tx_ne g1.2.1
  have o11 : ∀ k, (wrX X T c x).1 11 k = X.1 11 k := fun k => by
    unfold wrX
    split
    · exact pF_o (by omega)
    · rfl
  refine ⟨Bs_o ho g1, ⟨j, hj, (o11 1).trans g2⟩, (o11 2).trans g3, (o11 5).trans g4, g5, (o11 6).trans g6, ?_⟩
  unfold wrX
  split
  · exact ⟨c + 1, by omega, pF_at⟩
  · exact ⟨c, hc3, hc⟩
theorem am_off {X : Mem} {T : Nat} {l : List Int32} : offL T X (pA X (T + 1) l) := ⟨fun _ _ _ _ => rfl, fun b hb => if_neg hb, rfl⟩
theorem am_Ok {X : Mem} {T pl : Nat} {v : Int32} (hX : Ok X) (hk : kd T = 5) : Ok (pA X (T + 1) ((X.2.1 (T + 1)).set pl v)) := okA hX (txt_f hk).2.2.2.1.1 (by rw [List.length_set])
theorem am_Lv {X : Mem} {B : Nat → Nat} {N T j c : Nat} {w : Bool} {l : List Int32} (h : Lv X B N T j c w) : Lv (pA X (T + 1) l) B N T j c w := ⟨Bs_o am_off h.1, h.2⟩
theorem am_Dd {X : Mem} {B : Nat → Nat} {N T f p : Nat} {l : List Int32} (h : Dd X B N T f p) : Dd (pA X (T + 1) l) B N T f p := ⟨Bs_o am_off h.1, h.2⟩
