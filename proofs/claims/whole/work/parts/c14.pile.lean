/-- the pile lies there, its top first -/
def PL (X : Mem) : List Nat → Prop
  | [] => True
  | a :: P => (X.2.1 254).getD P.length 0 = nI a ∧ (a < 64 ∧ PL X P)
def PiR (X : Mem) (P : List Nat) : Prop := X.1 244 22 = nI P.length ∧ PL X P
def ixP : List Nat → Int32
  | [] => -1
  | _ :: P => nI P.length
def opA : List Nat → Int32
  | [] => -1
  | a :: P => if 40 ≤ a then nI P.length else opA P
theorem ixP_p : ∀ {P : List Nat}, nI P.length + (-1) = ixP P
  | [] => by decide
  | _ :: _ => nI_dec
theorem PL_e {X Y : Mem} (h : Y.2.1 254 = X.2.1 254) : ∀ {P : List Nat}, PL X P → PL Y P
  | [], _ => trivial
  | _ :: _, ⟨h1, h2, h3⟩ => ⟨by rw [h]; exact h1, h2, PL_e h h3⟩
theorem S_R_rank {X : Mem} {a : Nat} (ha : a < 64) : CM 0 m_R_rank [.int (nI a)] X (rN (rkP a) X) := by
  refine CM_of (L := [some (.int (nI a))]) 0 ok_R_rank (fun _ => Nat.le_of_ble_eq_true rfl) rfl ?_
  refine J_iload_n (i := 0) d_R_rank_0 rfl rfl ?_
  refine J_bipush (v := nI 40) d_R_rank_1 rfl ?_
  refine N_icmp_lt (tgt := 10) d_R_rank_3 (by decide) (by omega) (by omega) (fun c3 => ?_) (fun c3 => ?_)
  · refine J_iload_n (i := 0) d_R_rank_10 rfl rfl ?_
    refine J_bipush (v := nI 22) d_R_rank_11 rfl ?_
    refine N_icmp_ne (tgt := 20) d_R_rank_13 (by decide) (by omega) (by omega) (fun c13 => ?_) (fun c13 => ?_)
    · refine J_iload_n (i := 0) d_R_rank_20 rfl rfl ?_
      refine J_bipush (v := nI 21) d_R_rank_21 rfl ?_
      refine N_icmp_ne (tgt := 30) d_R_rank_23 (by decide) (by omega) (by omega) (fun c23 => ?_) (fun c23 => ?_)
      · refine J_iload_n (i := 0) d_R_rank_30 rfl rfl ?_
        refine J_bipush (v := nI 20) d_R_rank_31 rfl ?_
        refine N_icmp_ne (tgt := 40) d_R_rank_33 (by decide) (by omega) (by omega) (fun c33 => ?_) (fun c33 => ?_)
        · refine J_iload_n (i := 0) d_R_rank_40 rfl rfl ?_
          refine J_bipush (v := nI 10) d_R_rank_41 rfl ?_
          refine N_icmp_lt (tgt := 50) d_R_rank_43 (by decide) (by omega) (by omega) (fun c43 => ?_) (fun c43 => ?_)
          · refine J_iload_n (i := 0) d_R_rank_50 rfl rfl ?_
            refine J_bipush (v := nI 8) d_R_rank_51 rfl ?_
            refine N_icmp_lt (tgt := 61) d_R_rank_53 (by decide) (by omega) (by omega) (fun c53 => ?_) (fun c53 => ?_)
            · refine J_iload_n (i := 0) d_R_rank_61 rfl rfl ?_
              refine J_bipush (v := nI 6) d_R_rank_62 rfl ?_
              refine N_icmp_lt (tgt := 71) d_R_rank_64 (by decide) (by omega) (by omega) (fun c64 => ?_) (fun c64 => ?_)
              · refine J_bipush (v := nI 7) d_R_rank_71 rfl ?_
                refine M_ir d_R_rank_73 rfl rfl ?_
                exact ⟨by rw [show rkP a = 7 by unfold rkP; rw [if_neg (show ¬ 40 ≤ a by omega), if_neg (show ¬ a = 22 by omega), if_neg (show ¬ a = 21 by omega), if_neg (show ¬ a = 20 by omega), if_neg (show ¬ 10 ≤ a by omega), if_neg (show ¬ 8 ≤ a by omega), if_neg (show ¬ 6 ≤ a by omega)]], rfl⟩
              · refine J_iconst (v := nI 5) d_R_rank_67 rfl ?_
                refine J_goto (tgt := 73) d_R_rank_68 (by decide) ?_
                refine M_ir d_R_rank_73 rfl rfl ?_
                exact ⟨by rw [show rkP a = 5 by unfold rkP; rw [if_neg (show ¬ 40 ≤ a by omega), if_neg (show ¬ a = 22 by omega), if_neg (show ¬ a = 21 by omega), if_neg (show ¬ a = 20 by omega), if_neg (show ¬ 10 ≤ a by omega), if_neg (show ¬ 8 ≤ a by omega), if_pos (show 6 ≤ a by omega)]], rfl⟩
            · refine J_bipush (v := nI 6) d_R_rank_56 rfl ?_
              refine J_goto (tgt := 73) d_R_rank_58 (by decide) ?_
              refine M_ir d_R_rank_73 rfl rfl ?_
              exact ⟨by rw [show rkP a = 6 by unfold rkP; rw [if_neg (show ¬ 40 ≤ a by omega), if_neg (show ¬ a = 22 by omega), if_neg (show ¬ a = 21 by omega), if_neg (show ¬ a = 20 by omega), if_neg (show ¬ 10 ≤ a by omega), if_pos (show 8 ≤ a by omega)]], rfl⟩
          · refine J_iconst (v := nI 4) d_R_rank_46 rfl ?_
            refine J_goto (tgt := 73) d_R_rank_47 (by decide) ?_
            refine M_ir d_R_rank_73 rfl rfl ?_
            exact ⟨by rw [show rkP a = 4 by unfold rkP; rw [if_neg (show ¬ 40 ≤ a by omega), if_neg (show ¬ a = 22 by omega), if_neg (show ¬ a = 21 by omega), if_neg (show ¬ a = 20 by omega), if_pos (show 10 ≤ a by omega)]], rfl⟩
        · refine J_iconst (v := nI 3) d_R_rank_36 rfl ?_
          refine J_goto (tgt := 73) d_R_rank_37 (by decide) ?_
          refine M_ir d_R_rank_73 rfl rfl ?_
          exact ⟨by rw [show rkP a = 3 by unfold rkP; rw [if_neg (show ¬ 40 ≤ a by omega), if_neg (show ¬ a = 22 by omega), if_neg (show ¬ a = 21 by omega), if_pos (show a = 20 by omega)]], rfl⟩
      · refine J_iconst (v := nI 2) d_R_rank_26 rfl ?_
        refine J_goto (tgt := 73) d_R_rank_27 (by decide) ?_
        refine M_ir d_R_rank_73 rfl rfl ?_
        exact ⟨by rw [show rkP a = 2 by unfold rkP; rw [if_neg (show ¬ 40 ≤ a by omega), if_neg (show ¬ a = 22 by omega), if_pos (show a = 21 by omega)]], rfl⟩
    · refine J_iconst (v := nI 1) d_R_rank_16 rfl ?_
      refine J_goto (tgt := 73) d_R_rank_17 (by decide) ?_
      refine M_ir d_R_rank_73 rfl rfl ?_
      exact ⟨by rw [show rkP a = 1 by unfold rkP; rw [if_neg (show ¬ 40 ≤ a by omega), if_pos (show a = 22 by omega)]], rfl⟩
  · refine J_iconst (v := nI 0) d_R_rank_6 rfl ?_
    refine J_goto (tgt := 73) d_R_rank_7 (by decide) ?_
    refine M_ir d_R_rank_73 rfl rfl ?_
    exact ⟨by rw [show rkP a = 0 by unfold rkP; rw [if_pos (show 40 ≤ a by omega)]], rfl⟩

theorem lp_R_openAt {d : Nat} {X : Mem} {Q : Option Value → Mem → Prop} (hX : Ok X) : ∀ (P : List Nat), P.length ≤ 100 → PL X P → Q (some (.int (opA P))) X → JM d m_R_openAt Q 7 [some (.ref 244), some (.int (ixP P))] [] X
  | [], _, _, kx => by
    refine J_iload_n (i := 1) d_R_openAt_7 rfl rfl ?_
    refine J_if_lt (tgt := 28) d_R_openAt_8 (by decide) (fun c8 => ?_) (fun c8 => absurd c8 (by decide))
    refine J_iload_n (i := 1) d_R_openAt_28 rfl rfl ?_
    refine M_ir d_R_openAt_29 rfl rfl ?_
    exact kx
  | a :: P, hl, ⟨h1, h2, h3⟩, kx => by
    have hl : P.length + 1 ≤ 100 := hl
    have kx : Q (some (.int (if 40 ≤ a then nI P.length else opA P))) X := kx
    refine J_iload_n (i := 1) d_R_openAt_7 rfl rfl ?_
    refine N_if_lt (tgt := 28) d_R_openAt_8 (by decide) (by omega) ?_
    refine J_aload_n (i := 0) d_R_openAt_11 rfl rfl ?_
    refine M_getR (b := 254) d_R_openAt_12 f_R_44 rfl rfl rfl ?_
    refine J_iload_n (i := 1) d_R_openAt_15 rfl rfl ?_
    refine N_iald (x := (nI a)) d_R_openAt_16 rfl (by omega) (ltL hX (a := 254) (n := 160) (by decide) rfl (by omega)) h1 ?_
    refine J_bipush (v := nI 40) d_R_openAt_17 rfl ?_
    refine N_icmp_ge (tgt := 28) d_R_openAt_19 (by decide) (by omega) (by omega) (fun c19 => ?_) (fun c19 => ?_)
    · refine J_iload_n (i := 1) d_R_openAt_28 rfl rfl ?_
      refine M_ir d_R_openAt_29 rfl rfl ?_
      rw [if_pos (by omega)] at kx
      exact kx
    · refine J_iinc (v := ((nI P.length) + (-1))) (L1 := [some (.ref 244), some (.int ((nI P.length) + (-1)))]) d_R_openAt_22 rfl rfl (by decide) rfl ?_
      refine J_goto (tgt := 7) d_R_openAt_25 (by decide) ?_
      rw [if_neg (by omega)] at kx
      refine (lp_R_openAt hX P (by omega) h3 kx).eq ?_ rfl rfl
      rw [ixP_p]
theorem nI_m1 {P : List Nat} (h : P.length ≤ 100) : nI P.length - nI 1 = ixP P := by
  cases P with
  | nil => decide
  | cons a P => exact (by rw [show (a :: P).length = P.length + 1 from rfl, Int32.sub_eq_add_neg, show -(nI 1) = (-1 : Int32) by decide]; exact nI_dec)
theorem S_R_openAt {X : Mem} {P : List Nat} (hX : Ok X) (hP : PiR X P) (hl : P.length ≤ 100) : CM 0 m_R_openAt [.ref 244] X (rI (opA P) X) := by
  refine CM_of (L := [some (.ref 244), none]) 1 ok_R_openAt (fun _ => Nat.le_of_ble_eq_true rfl) rfl ?_
  refine J_aload_n (i := 0) d_R_openAt_0 rfl rfl ?_
  refine M_get (x := (nI P.length)) d_R_openAt_1 f_R_213 rfl rfl hP.1 ?_
  refine J_iconst (v := nI 1) d_R_openAt_4 rfl ?_
  refine J_isub d_R_openAt_5 ?_
  refine J_istore_n (i := 1) (L1 := [some (.ref 244), some (.int ((nI P.length) - (nI 1)))]) d_R_openAt_6 rfl (by decide) rfl ?_
  exact (lp_R_openAt hX P hl hP.2 ⟨rfl, rfl⟩).eq (by rw [nI_m1 hl]) rfl rfl

theorem opA_opn {X : Mem} : ∀ {P : List Nat}, PL X P → P.length ≤ 100 → (opn P = 0 ∧ opA P = -1) ∨ (40 ≤ opn P ∧ opn P < 64 ∧ ∃ k, opA P = nI k ∧ k < 100 ∧ (X.2.1 254).getD k 0 = nI (opn P))
  | [], _, _ => Or.inl ⟨rfl, rfl⟩
  | a :: P, ⟨h1, h2, h3⟩, hl => by
    have hl : P.length + 1 ≤ 100 := hl
    by_cases h : 40 ≤ a
    · have e1 : opn (a :: P) = a := if_pos h
      have e2 : opA (a :: P) = nI P.length := if_pos h
      rw [e1, e2]
      exact Or.inr ⟨h, h2, P.length, rfl, by omega, h1⟩
    · have e1 : opn (a :: P) = opn P := if_neg h
      have e2 : opA (a :: P) = opA P := if_neg h
      rw [e1, e2]
      exact opA_opn h3 (by omega)
def opR (P : List Nat) : Int32 := if opn P = 0 then -1 else nI (opn P)
