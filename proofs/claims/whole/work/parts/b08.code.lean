/-- the code from c to c2 comes to D -/
def GdC (T : Nat) (w : Bool) (Y : Mem) (c c2 : Nat) (D : SVl) : Prop := ∃ cw : Nat → Nat, (∀ p, c ≤ p → p < c2 → (Y.2.1 (T + 1)).getD p 0 = nI (cw p) ∧ cw p < 2147483648) ∧ (∀ e, okE e → sm (D e) ∧ ∀ cx : Nat → Nat, (∀ p, c ≤ p → p < c2 → cx p = cw p) → ∀ s, ∃ m, stepsC e cx m c s = some (c2, D e :: s)) ∧ (w = false → ∀ (m : Nat) (st : Nat → Nat) (y f k : Nat) (v v' : Int), D (m, st, y, f, k, v) = D (m, st, y, f, k, v'))
def GdB (T : Nat) (w : Bool) (Y : Mem) (c c2 : Nat) (D : SBl) : Prop := ∃ cw : Nat → Nat, (∀ p, c ≤ p → p < c2 → (Y.2.1 (T + 1)).getD p 0 = nI (cw p) ∧ cw p < 2147483648) ∧ (∀ e, okE e → ∀ cx : Nat → Nat, (∀ p, c ≤ p → p < c2 → cx p = cw p) → ∀ s, ∃ m, stepsC e cx m c s = some (c2, bt (D e) :: s)) ∧ (w = false → ∀ (m : Nat) (st : Nat → Nat) (y f k : Nat) (v v' : Int), D (m, st, y, f, k, v) = D (m, st, y, f, k, v'))
theorem st1 {e : Env} {cx : Nat → Nat} {p p' : Nat} {s s' : List Int} (h : stepC e (cx p) p s = some (p', s')) : stepsC e cx 1 p s = some (p', s') := by
  show (match stepC e (cx p) p s with
    | none => none
    | some (p', s') => stepsC e cx 0 p' s') = _
  rw [h]
  rfl
theorem jn1 {a b : Nat → Nat} {c1 p : Nat} (h : p < c1) : (if p < c1 then a p else b p) = a p := if_pos h
theorem jn2 {a b : Nat → Nat} {c1 p : Nat} (h : c1 ≤ p) : (if p < c1 then a p else b p) = b p := if_neg (by omega)
theorem GC_same {T : Nat} {w : Bool} {Y Z : Mem} {c c2 : Nat} {D : SVl} (h : GdC T w Y c c2 D) (e : ∀ p, c ≤ p → p < c2 → (Z.2.1 (T + 1)).getD p 0 = (Y.2.1 (T + 1)).getD p 0) : GdC T w Z c c2 D := by
  obtain ⟨cw, h1, h2⟩ := h
  exact ⟨cw, fun p q1 q2 => by rw [e p q1 q2]; exact h1 p q1 q2, h2⟩
theorem GB_same {T : Nat} {w : Bool} {Y Z : Mem} {c c2 : Nat} {D : SBl} (h : GdB T w Y c c2 D) (e : ∀ p, c ≤ p → p < c2 → (Z.2.1 (T + 1)).getD p 0 = (Y.2.1 (T + 1)).getD p 0) : GdB T w Z c c2 D := by
  obtain ⟨cw, h1, h2⟩ := h
  exact ⟨cw, fun p q1 q2 => by rw [e p q1 q2]; exact h1 p q1 q2, h2⟩
theorem GC_1 {T : Nat} {w : Bool} {Y : Mem} {c x : Nat} {D : SVl} (hx : x < 2147483648) (hc : (Y.2.1 (T + 1)).getD c 0 = nI x) (hs : ∀ e, okE e → sm (D e) ∧ ∀ s, stepC e x c s = some (c + 1, D e :: s)) (hw : w = false → ∀ (m : Nat) (st : Nat → Nat) (y f k : Nat) (v v' : Int), D (m, st, y, f, k, v) = D (m, st, y, f, k, v')) : GdC T w Y c (c + 1) D := by
  refine ⟨fun _ => x, fun p q1 q2 => ?_, fun e he => ⟨(hs e he).1, fun cx hcx s => ⟨1, st1 ?_⟩⟩, hw⟩
  · rw [show p = c by omega]; exact ⟨hc, hx⟩
  · rw [hcx c (Nat.le_refl c) (Nat.lt_succ_self c)]; exact (hs e he).2 s
theorem sm_nat {x : Nat} (h : x ≤ 1000000) : sm (x : Int) := by unfold sm; omega
theorem GC_num {T : Nat} {w : Bool} {Y : Mem} {c x : Nat} (hx : x ≤ 9999) (hc : (Y.2.1 (T + 1)).getD c 0 = nI (x * 64 + 45)) : GdC T w Y c (c + 1) (fun _ => (x : Int)) := by
  refine GC_1 (by omega) hc (fun e _ => ⟨sm_nat (by omega), fun s => ?_⟩) (fun _ _ _ _ _ _ _ _ => rfl)
  unfold stepC
  rw [if_pos (show (x * 64 + 45) % 64 = 45 by omega), show (x * 64 + 45) / 64 = x by omega, if_pos hx]
theorem nm_sm {e : Env} (he : okE e) (k : Nat) : sm (nmV e k) := by
  obtain ⟨h1, h2, h3, h4, h5, h6, h7⟩ := he
  unfold nmV
  have b1 := bc_le (eST e)
  have b2 := bc_le (odd (eST e))
  have b3 : pic (eST e) ≤ 9 := pic_le _
  split
  · exact sm_nat (by omega)
  · split
    · exact sm_nat (by omega)
    · split
      · exact sm_nat (by omega)
      · split
        · exact sm_nat (by omega)
        · split
          · exact sm_nat (by omega)
          · split
            · unfold sm; omega
            · exact sm_nat (by omega)
theorem nm_nw {k : Nat} (hk : k ≠ 5) (m : Nat) (st : Nat → Nat) (y f q : Nat) (v v' : Int) : nmV (m, st, y, f, q, v) k = nmV (m, st, y, f, q, v') k := by
  unfold nmV
  rw [if_neg hk, if_neg hk]
  rfl
theorem GC_name {T : Nat} {w : Bool} {Y : Mem} {c k : Nat} (hk : nameB k = true) (hw : ¬ (k = 30 ∧ w = false)) (hc : (Y.2.1 (T + 1)).getD c 0 = nI (0 * 64 + k)) : GdC T w Y c (c + 1) (fun e => nmV e (nmI k)) := by
  have hk2 : k = 6 ∨ k = 26 ∨ k = 27 ∨ k = 28 ∨ k = 29 ∨ k = 30 ∨ k = 31 := by
    simp only [nameB, Bool.or_eq_true, Bool.and_eq_true, decide_eq_true_eq] at hk
    omega
  refine GC_1 (by omega) hc (fun e he => ⟨nm_sm he _, fun s => ?_⟩) (fun hf m st y f q v v' => nm_nw ?_ m st y f q v v')
  · rcases hk2 with rfl | rfl | rfl | rfl | rfl | rfl | rfl <;> rfl
  · rcases hk2 with rfl | rfl | rfl | rfl | rfl | rfl | rfl <;> first | exact absurd ⟨rfl, hf⟩ hw | decide
theorem GC_bin {T : Nat} {w : Bool} {Y1 Y2 Z : Mem} {c c1 c2 k : Nat} {D1 D2 : SVl} (h1 : GdC T w Y1 c c1 D1) (h2 : GdC T w Y2 c1 c2 D2) (l1 : c ≤ c1) (l2 : c1 ≤ c2) (e1 : ∀ p, c ≤ p → p < c1 → (Z.2.1 (T + 1)).getD p 0 = (Y1.2.1 (T + 1)).getD p 0) (e2 : ∀ p, c1 ≤ p → p < c2 → (Z.2.1 (T + 1)).getD p 0 = (Y2.2.1 (T + 1)).getD p 0) (e3 : (Z.2.1 (T + 1)).getD c2 0 = nI (0 * 64 + k)) (hk : k = 36 ∨ k = 37 ∨ k = 38 ∨ k = 39) : GdC T w Z c (c2 + 1) (cmbA k D1 D2) := by
  obtain ⟨a, a1, a2, a3⟩ := h1
  obtain ⟨b, b1, b2, b3⟩ := h2
  refine ⟨fun p => if p < c1 then a p else if p < c2 then b p else k, fun p q1 q2 => ?_, fun e he => ⟨ar2_sm _, fun cx hcx s => ?_⟩, fun hf m st y f q v v' => ?_⟩
  · by_cases r1 : p < c1
    · show _ = nI (if p < c1 then a p else _) ∧ (if p < c1 then a p else _) < _
      rw [if_pos r1, e1 p q1 r1]; exact a1 p q1 r1
    · show _ = nI (if p < c1 then a p else if p < c2 then b p else k) ∧ (if p < c1 then a p else if p < c2 then b p else k) < _
      rw [if_neg r1]
      by_cases r2 : p < c2
      · rw [if_pos r2, e2 p (by omega) r2]; exact b1 p (by omega) r2
      · rw [if_neg r2, show p = c2 by omega, e3]; exact ⟨by rw [Nat.zero_mul, Nat.zero_add], by omega⟩
  · obtain ⟨m1, s1⟩ := (a2 e he).2 cx (fun p q1 q2 => (hcx p q1 (by omega)).trans (if_pos q2)) s
    obtain ⟨m2, s2⟩ := (b2 e he).2 cx (fun p q1 q2 => (hcx p (by omega) (by omega)).trans ((if_neg (by omega)).trans (if_pos q2))) (D1 e :: s)
    have hk2 : cx c2 = k := (hcx c2 (by omega) (by omega)).trans ((if_neg (by omega)).trans (if_neg (by omega)))
    refine ⟨m1 + (m2 + 1), steps_app s1 (steps_app s2 (st1 ?_))⟩
    rw [hk2]
    rcases hk with rfl | rfl | rfl | rfl <;> rfl
  · show ar2 _ _ _ = ar2 _ _ _
    rw [a3 hf m st y f q v v', b3 hf m st y f q v v']
theorem GC_un {T : Nat} {w : Bool} {Y Z : Mem} {c c1 k x : Nat} {D : SVl} (h1 : GdC T w Y c c1 D) (l1 : c ≤ c1) (e1 : ∀ p, c ≤ p → p < c1 → (Z.2.1 (T + 1)).getD p 0 = (Y.2.1 (T + 1)).getD p 0) (e3 : (Z.2.1 (T + 1)).getD c1 0 = nI (0 * 64 + x)) (hk : (k = 37 ∧ x = 48) ∨ (k = 17 ∧ x = 17) ∨ (k = 18 ∧ x = 18)) : GdC T w Z c (c1 + 1) (un1 k D) := by
  obtain ⟨a, a1, a2, a3⟩ := h1
  refine ⟨fun p => if p < c1 then a p else x, fun p q1 q2 => ?_, fun e he => ⟨?_, fun cx hcx s => ?_⟩, fun hf m st y f q v v' => ?_⟩
  · show _ = nI (if p < c1 then a p else x) ∧ (if p < c1 then a p else x) < _
    by_cases r1 : p < c1
    · rw [if_pos r1, e1 p q1 r1]; exact a1 p q1 r1
    · rw [if_neg r1, show p = c1 by omega, e3]; exact ⟨by rw [Nat.zero_mul, Nat.zero_add], by omega⟩
  · have hd := (a2 e he).1
    rcases hk with ⟨rfl, _⟩ | ⟨rfl, _⟩ | ⟨rfl, _⟩
    · exact sm_neg hd
    · exact szV_sm
    · exact hsV_sm
  · obtain ⟨m1, s1⟩ := (a2 e he).2 cx (fun p q1 q2 => (hcx p q1 (by omega)).trans (if_pos q2)) s
    have hk2 : cx c1 = x := (hcx c1 (by omega) (by omega)).trans (if_neg (by omega))
    refine ⟨m1 + 1, steps_app s1 (st1 ?_)⟩
    rw [hk2]
    rcases hk with ⟨rfl, rfl⟩ | ⟨rfl, rfl⟩ | ⟨rfl, rfl⟩ <;> rfl
  · have e := a3 hf m st y f q v v'
    rcases hk with ⟨rfl, _⟩ | ⟨rfl, _⟩ | ⟨rfl, _⟩
    · show -(D _) = -(D _); rw [e]
    · show szV _ (D _) = szV _ (D _); rw [e]; rfl
    · show hsV _ (D _) = hsV _ (D _); rw [e]; rfl
theorem bt_01 (b : Bool) : bt b = 0 ∨ bt b = 1 := by cases b <;> simp [bt]
theorem bt_d (b : Bool) : decide (bt b = 1) = b := by cases b <;> rfl
theorem bt_n (b : Bool) : 1 - bt b = bt (!b) := by cases b <;> rfl
theorem GB_cmp {T : Nat} {w : Bool} {Y1 Y2 Z : Mem} {c c1 c2 k : Nat} {D1 D2 : SVl} (h1 : GdC T w Y1 c c1 D1) (h2 : GdC T w Y2 c1 c2 D2) (l1 : c ≤ c1) (l2 : c1 ≤ c2) (e1 : ∀ p, c ≤ p → p < c1 → (Z.2.1 (T + 1)).getD p 0 = (Y1.2.1 (T + 1)).getD p 0) (e2 : ∀ p, c1 ≤ p → p < c2 → (Z.2.1 (T + 1)).getD p 0 = (Y2.2.1 (T + 1)).getD p 0) (e3 : (Z.2.1 (T + 1)).getD c2 0 = nI (0 * 64 + k)) (hk : cmpB k = true) : GdB T w Z c (c2 + 1) (fun e => cp2 (cpK k) (D1 e) (D2 e)) := by
  have hk2 : k = 32 ∨ k = 33 ∨ k = 34 ∨ k = 35 ∨ k = 43 ∨ k = 44 := by
    simp only [cmpB, Bool.or_eq_true, Bool.and_eq_true, decide_eq_true_eq] at hk
    omega
  obtain ⟨a, a1, a2, a3⟩ := h1
  obtain ⟨b, b1, b2, b3⟩ := h2
  refine ⟨fun p => if p < c1 then a p else if p < c2 then b p else k, fun p q1 q2 => ?_, fun e he cx hcx s => ?_, fun hf m st y f q v v' => ?_⟩
  · by_cases r1 : p < c1
    · show _ = nI (if p < c1 then a p else _) ∧ (if p < c1 then a p else _) < _
      rw [if_pos r1, e1 p q1 r1]; exact a1 p q1 r1
    · show _ = nI (if p < c1 then a p else if p < c2 then b p else k) ∧ (if p < c1 then a p else if p < c2 then b p else k) < _
      rw [if_neg r1]
      by_cases r2 : p < c2
      · rw [if_pos r2, e2 p (by omega) r2]; exact b1 p (by omega) r2
      · rw [if_neg r2, show p = c2 by omega, e3]; exact ⟨by rw [Nat.zero_mul, Nat.zero_add], by omega⟩
  · obtain ⟨m1, s1⟩ := (a2 e he).2 cx (fun p q1 q2 => (hcx p q1 (by omega)).trans (if_pos q2)) s
    obtain ⟨m2, s2⟩ := (b2 e he).2 cx (fun p q1 q2 => (hcx p (by omega) (by omega)).trans ((if_neg (by omega)).trans (if_pos q2))) (D1 e :: s)
    have hk3 : cx c2 = k := (hcx c2 (by omega) (by omega)).trans ((if_neg (by omega)).trans (if_neg (by omega)))
    refine ⟨m1 + (m2 + 1), steps_app s1 (steps_app s2 (st1 ?_))⟩
    rw [hk3]
    rcases hk2 with rfl | rfl | rfl | rfl | rfl | rfl <;> rfl
  · show cp2 _ _ _ = cp2 _ _ _
    rw [a3 hf m st y f q v v', b3 hf m st y f q v v']
theorem GB_not {T : Nat} {w : Bool} {Y Z : Mem} {c c1 : Nat} {D : SBl} (h1 : GdB T w Y c c1 D) (l1 : c ≤ c1) (e1 : ∀ p, c ≤ p → p < c1 → (Z.2.1 (T + 1)).getD p 0 = (Y.2.1 (T + 1)).getD p 0) (e3 : (Z.2.1 (T + 1)).getD c1 0 = nI (0 * 64 + 25)) : GdB T w Z c (c1 + 1) (fun e => !(D e)) := by
  obtain ⟨a, a1, a2, a3⟩ := h1
  refine ⟨fun p => if p < c1 then a p else 25, fun p q1 q2 => ?_, fun e he cx hcx s => ?_, fun hf m st y f q v v' => ?_⟩
  · show _ = nI (if p < c1 then a p else 25) ∧ (if p < c1 then a p else 25) < _
    by_cases r1 : p < c1
    · rw [if_pos r1, e1 p q1 r1]; exact a1 p q1 r1
    · rw [if_neg r1, show p = c1 by omega, e3]; exact ⟨rfl, by decide⟩
  · obtain ⟨m1, s1⟩ := (a2 e he) cx (fun p q1 q2 => (hcx p q1 (by omega)).trans (if_pos q2)) s
    have hk2 : cx c1 = 25 := (hcx c1 (by omega) (by omega)).trans (if_neg (by omega))
    refine ⟨m1 + 1, steps_app s1 (st1 ?_)⟩
    rw [hk2, ← bt_n]
    show (if bt (D e) = 0 ∨ bt (D e) = 1 then some (c1 + 1, (1 - bt (D e)) :: s) else none) = _
    rw [if_pos (bt_01 _)]
  · show (!(D _)) = (!(D _))
    rw [a3 hf m st y f q v v']
theorem GB_bin {T : Nat} {w : Bool} {Y1 Y2 Z : Mem} {c c1 c2 k : Nat} {D1 D2 D : SBl} (h1 : GdB T w Y1 c c1 D1) (h2 : GdB T w Y2 c1 c2 D2) (l1 : c ≤ c1) (l2 : c1 ≤ c2) (e1 : ∀ p, c ≤ p → p < c1 → (Z.2.1 (T + 1)).getD p 0 = (Y1.2.1 (T + 1)).getD p 0) (e2 : ∀ p, c1 ≤ p → p < c2 → (Z.2.1 (T + 1)).getD p 0 = (Y2.2.1 (T + 1)).getD p 0) (e3 : (Z.2.1 (T + 1)).getD c2 0 = nI (0 * 64 + k)) (hk : (k = 24 ∧ D = fun e => D1 e && D2 e) ∨ (k = 23 ∧ D = fun e => D1 e || D2 e)) : GdB T w Z c (c2 + 1) D := by
  obtain ⟨a, a1, a2, a3⟩ := h1
  obtain ⟨b, b1, b2, b3⟩ := h2
  refine ⟨fun p => if p < c1 then a p else if p < c2 then b p else k, fun p q1 q2 => ?_, fun e he cx hcx s => ?_, fun hf m st y f q v v' => ?_⟩
  · by_cases r1 : p < c1
    · show _ = nI (if p < c1 then a p else _) ∧ (if p < c1 then a p else _) < _
      rw [if_pos r1, e1 p q1 r1]; exact a1 p q1 r1
    · show _ = nI (if p < c1 then a p else if p < c2 then b p else k) ∧ (if p < c1 then a p else if p < c2 then b p else k) < _
      rw [if_neg r1]
      by_cases r2 : p < c2
      · rw [if_pos r2, e2 p (by omega) r2]; exact b1 p (by omega) r2
      · rw [if_neg r2, show p = c2 by omega, e3]; exact ⟨by rw [Nat.zero_mul, Nat.zero_add], by omega⟩
  · obtain ⟨m1, s1⟩ := (a2 e he) cx (fun p q1 q2 => (hcx p q1 (by omega)).trans (if_pos q2)) s
    obtain ⟨m2, s2⟩ := (b2 e he) cx (fun p q1 q2 => (hcx p (by omega) (by omega)).trans ((if_neg (by omega)).trans (if_pos q2))) (bt (D1 e) :: s)
    have hk3 : cx c2 = k := (hcx c2 (by omega) (by omega)).trans ((if_neg (by omega)).trans (if_neg (by omega)))
    refine ⟨m1 + (m2 + 1), steps_app s1 (steps_app s2 (st1 ?_))⟩
    rw [hk3]
    rcases hk with ⟨rfl, rfl⟩ | ⟨rfl, rfl⟩
    · show (if (bt (D1 e) = 0 ∨ bt (D1 e) = 1) ∧ (bt (D2 e) = 0 ∨ bt (D2 e) = 1) then some (c2 + 1, bt (decide (bt (D1 e) = 1) && decide (bt (D2 e) = 1)) :: s) else none) = _
      rw [if_pos ⟨bt_01 _, bt_01 _⟩, bt_d, bt_d]
    · show (if (bt (D1 e) = 0 ∨ bt (D1 e) = 1) ∧ (bt (D2 e) = 0 ∨ bt (D2 e) = 1) then some (c2 + 1, bt (decide (bt (D1 e) = 1) || decide (bt (D2 e) = 1)) :: s) else none) = _
      rw [if_pos ⟨bt_01 _, bt_01 _⟩, bt_d, bt_d]
  · have p1 := a3 hf m st y f q v v'
    have p2 := b3 hf m st y f q v v'
    rcases hk with ⟨_, rfl⟩ | ⟨_, rfl⟩
    · show (D1 _ && D2 _) = (D1 _ && D2 _); rw [p1, p2]
    · show (D1 _ || D2 _) = (D1 _ || D2 _); rw [p1, p2]
theorem GC_if {T : Nat} {w : Bool} {Y1 Y2 Y3 Z : Mem} {c c1 c2 c3 : Nat} {b : SBl} {D1 D2 : SVl} (h1 : GdB T w Y1 c c1 b) (h2 : GdC T w Y2 (c1 + 1) c2 D1) (h3 : GdC T w Y3 (c2 + 1) c3 D2) (l1 : c ≤ c1) (l2 : c1 + 1 ≤ c2) (l3 : c2 + 1 ≤ c3) (l4 : c3 ≤ 300) (e1 : ∀ p, c ≤ p → p < c1 → (Z.2.1 (T + 1)).getD p 0 = (Y1.2.1 (T + 1)).getD p 0) (e2 : (Z.2.1 (T + 1)).getD c1 0 = nI ((c2 + 1) * 64 + 20)) (e3 : ∀ p, c1 + 1 ≤ p → p < c2 → (Z.2.1 (T + 1)).getD p 0 = (Y2.2.1 (T + 1)).getD p 0) (e4 : (Z.2.1 (T + 1)).getD c2 0 = nI (c3 * 64 + 21)) (e5 : ∀ p, c2 + 1 ≤ p → p < c3 → (Z.2.1 (T + 1)).getD p 0 = (Y3.2.1 (T + 1)).getD p 0) : GdC T w Z c c3 (fun e => if b e = true then D1 e else D2 e) := by
  obtain ⟨a, a1, a2, a3⟩ := h1
  obtain ⟨f, f1, f2, f3⟩ := h2
  obtain ⟨g, g1, g2, g3⟩ := h3
  refine ⟨fun p => if p < c1 then a p else if p = c1 then (c2 + 1) * 64 + 20 else if p < c2 then f p else if p = c2 then c3 * 64 + 21 else g p, fun p q1 q2 => ?_, fun e he => ⟨?_, fun cx hcx s => ?_⟩, fun hf m st y ff q v v' => ?_⟩
  · dsimp only
    by_cases r1 : p < c1
    · rw [if_pos r1, e1 p q1 r1]; exact a1 p q1 r1
    · rw [if_neg r1]
      by_cases r2 : p = c1
      · rw [if_pos r2, r2, e2]; exact ⟨rfl, by omega⟩
      · rw [if_neg r2]
        by_cases r3 : p < c2
        · rw [if_pos r3, e3 p (by omega) r3]; exact f1 p (by omega) r3
        · rw [if_neg r3]
          by_cases r4 : p = c2
          · rw [if_pos r4, r4, e4]; exact ⟨rfl, by omega⟩
          · rw [if_neg r4, e5 p (by omega) q2]; exact g1 p (by omega) q2
  · show sm (if b e = true then D1 e else D2 e)
    split
    · exact (f2 e he).1
    · exact (g2 e he).1
  · obtain ⟨m1, s1⟩ := (a2 e he) cx (fun p q1 q2 => (hcx p q1 (by omega)).trans (if_pos q2)) s
    have k1 : cx c1 = (c2 + 1) * 64 + 20 := (hcx c1 (by omega) (by omega)).trans ((if_neg (by omega)).trans (if_pos rfl))
    have k2 : cx c2 = c3 * 64 + 21 := (hcx c2 (by omega) (by omega)).trans ((if_neg (by omega)).trans ((if_neg (by omega)).trans ((if_neg (by omega)).trans (if_pos rfl))))
    have step1 : ∀ v, stepC e (cx c1) c1 (v :: s) = (if v = 0 then some (c2 + 1, s) else if v = 1 then some (c1 + 1, s) else none) := fun v => by
      rw [k1]
      unfold stepC
      rw [show ((c2 + 1) * 64 + 20) % 64 = 20 by omega, show ((c2 + 1) * 64 + 20) / 64 = c2 + 1 by omega]
      show (if v = 0 then (if c1 < c2 + 1 then some (c2 + 1, s) else none) else if v = 1 then some (c1 + 1, s) else none) = _
      rw [if_pos (show c1 < c2 + 1 by omega)]
    have step2 : ∀ s2, stepC e (cx c2) c2 s2 = some (c3, s2) := fun s2 => by
      rw [k2]
      unfold stepC
      rw [show (c3 * 64 + 21) % 64 = 21 by omega, show (c3 * 64 + 21) / 64 = c3 by omega]
      show (if c2 < c3 then some (c3, s2) else none) = _
      rw [if_pos (show c2 < c3 by omega)]
    cases hb : b e with
    | true =>
      rw [hb] at s1
      obtain ⟨m2, s2⟩ := (f2 e he).2 cx (fun p q1 q2 => (hcx p (by omega) (by omega)).trans ((if_neg (by omega)).trans ((if_neg (by omega)).trans (if_pos q2)))) s
      refine ⟨m1 + (1 + (m2 + 1)), ?_⟩
      show _ = some (c3, (if b e = true then D1 e else D2 e) :: s)
      rw [hb, if_pos rfl]
      exact steps_app s1 (steps_app (st1 (p' := c1 + 1) (s' := s) (by rw [step1]; rfl)) (steps_app s2 (st1 (step2 _))))
    | false =>
      rw [hb] at s1
      obtain ⟨m2, s2⟩ := (g2 e he).2 cx (fun p q1 q2 => (hcx p (by omega) (by omega)).trans ((if_neg (by omega)).trans ((if_neg (by omega)).trans ((if_neg (by omega)).trans (if_neg (by omega)))))) s
      refine ⟨m1 + (1 + m2), ?_⟩
      show _ = some (c3, (if b e = true then D1 e else D2 e) :: s)
      rw [hb, if_neg Bool.false_ne_true]
      exact steps_app s1 (steps_app (st1 (p' := c2 + 1) (s' := s) (by rw [step1]; rfl)) s2)
  · dsimp only
    rw [a3 hf m st y ff q v v', f3 hf m st y ff q v v', g3 hf m st y ff q v v']
