def okV : List Int → Prop
  | [] => True
  | v :: s => sm v ∧ okV s
def stepsC (e : Env) (cw : Nat → Nat) : Nat → Nat → List Int → Option (Nat × List Int)
  | 0, p, s => some (p, s)
  | m + 1, p, s => match stepC e (cw p) p s with
    | none => none
    | some (p', s') => stepsC e cw m p' s'
theorem sm_neg {v : Int} (h : sm v) : sm (-v) := by unfold sm at *; omega
theorem sm_not {v : Int} (h : v = 0 ∨ v = 1) : sm (1 - v) := by unfold sm; omega
theorem some_in {p p' : Nat} {s s' : List Int} (h : some (p, s) = some (p', s')) : p' = p ∧ s' = s := by
  cases h
  exact ⟨rfl, rfl⟩
theorem step_f {e : Env} {c p p' : Nat} {s s' : List Int} (hO : okE e) (h : stepC e c p s = some (p', s')) : p < p' ∧ (okV s → okV s') ∧ (s.length ≤ p → s'.length ≤ p') := by
  unfold stepC at h
  by_cases h45 : c % 64 = 45
  · rw [if_pos h45] at h
    by_cases hw : c / 64 ≤ 9999
    · rw [if_pos hw] at h
      obtain ⟨rfl, rfl⟩ := some_in h
      exact ⟨Nat.lt_succ_self p, fun a => ⟨by unfold sm; omega, a⟩, fun a => Nat.succ_le_succ a⟩
    · rw [if_neg hw] at h; cases h
  rw [if_neg h45] at h
  by_cases h31 : c % 64 = 31
  · rw [if_pos h31] at h
    obtain ⟨rfl, rfl⟩ := some_in h
    exact ⟨Nat.lt_succ_self p, fun a => ⟨nmV_sm hO, a⟩, fun a => Nat.succ_le_succ a⟩
  rw [if_neg h31] at h
  by_cases h20 : c % 64 = 20
  · rw [if_pos h20] at h
    cases s with
    | nil => cases h
    | cons v t =>
      have h : (if v = 0 then (if p < c / 64 then some (c / 64, t) else none) else if v = 1 then some (p + 1, t) else none) = some (p', s') := h
      by_cases hv0 : v = 0
      · rw [if_pos hv0] at h
        by_cases hw : p < c / 64
        · rw [if_pos hw] at h
          obtain ⟨rfl, rfl⟩ := some_in h
          exact ⟨hw, fun a => a.2, fun a => by have a : s'.length + 1 ≤ p := a; omega⟩
        · rw [if_neg hw] at h; cases h
      · rw [if_neg hv0] at h
        by_cases hv1 : v = 1
        · rw [if_pos hv1] at h
          obtain ⟨rfl, rfl⟩ := some_in h
          exact ⟨Nat.lt_succ_self p, fun a => a.2, fun a => by have a : s'.length + 1 ≤ p := a; omega⟩
        · rw [if_neg hv1] at h; cases h
  rw [if_neg h20] at h
  by_cases h21 : c % 64 = 21
  · rw [if_pos h21] at h
    by_cases hw : p < c / 64
    · rw [if_pos hw] at h
      obtain ⟨rfl, rfl⟩ := some_in h
      exact ⟨hw, fun a => a, fun a => by omega⟩
    · rw [if_neg hw] at h; cases h
  rw [if_neg h21] at h
  by_cases h17 : c % 64 = 17
  · rw [if_pos h17] at h
    cases s with
    | nil => cases h
    | cons v t =>
      obtain ⟨rfl, rfl⟩ := some_in h
      exact ⟨Nat.lt_succ_self p, fun a => ⟨szV_sm, a.2⟩, fun a => by have a : t.length + 1 ≤ p := a; show t.length + 1 ≤ p + 1; omega⟩
  rw [if_neg h17] at h
  by_cases h18 : c % 64 = 18
  · rw [if_pos h18] at h
    cases s with
    | nil => cases h
    | cons v t =>
      obtain ⟨rfl, rfl⟩ := some_in h
      exact ⟨Nat.lt_succ_self p, fun a => ⟨hsV_sm, a.2⟩, fun a => by have a : t.length + 1 ≤ p := a; show t.length + 1 ≤ p + 1; omega⟩
  rw [if_neg h18] at h
  by_cases h25 : c % 64 = 25
  · rw [if_pos h25] at h
    cases s with
    | nil => cases h
    | cons v t =>
      have h : (if v = 0 ∨ v = 1 then some (p + 1, (1 - v) :: t) else none) = some (p', s') := h
      by_cases hv0 : v = 0 ∨ v = 1
      · rw [if_pos hv0] at h
        obtain ⟨rfl, rfl⟩ := some_in h
        exact ⟨Nat.lt_succ_self p, fun a => ⟨sm_not hv0, a.2⟩, fun a => by have a : t.length + 1 ≤ p := a; show t.length + 1 ≤ p + 1; omega⟩
      · rw [if_neg hv0] at h; cases h
  rw [if_neg h25] at h
  by_cases h48 : c % 64 = 48
  · rw [if_pos h48] at h
    cases s with
    | nil => cases h
    | cons v t =>
      obtain ⟨rfl, rfl⟩ := some_in h
      exact ⟨Nat.lt_succ_self p, fun a => ⟨sm_neg a.1, a.2⟩, fun a => by have a : t.length + 1 ≤ p := a; show t.length + 1 ≤ p + 1; omega⟩
  rw [if_neg h48] at h
  by_cases h6 : c % 64 = 6
  · rw [if_pos h6] at h
    obtain ⟨rfl, rfl⟩ := some_in h
    exact ⟨Nat.lt_succ_self p, fun a => ⟨nmV_sm hO, a⟩, fun a => Nat.succ_le_succ a⟩
  rw [if_neg h6] at h
  by_cases h26 : c % 64 = 26
  · rw [if_pos h26] at h
    obtain ⟨rfl, rfl⟩ := some_in h
    exact ⟨Nat.lt_succ_self p, fun a => ⟨nmV_sm hO, a⟩, fun a => Nat.succ_le_succ a⟩
  rw [if_neg h26] at h
  by_cases h27 : c % 64 = 27
  · rw [if_pos h27] at h
    obtain ⟨rfl, rfl⟩ := some_in h
    exact ⟨Nat.lt_succ_self p, fun a => ⟨nmV_sm hO, a⟩, fun a => Nat.succ_le_succ a⟩
  rw [if_neg h27] at h
  by_cases h28 : c % 64 = 28
  · rw [if_pos h28] at h
    obtain ⟨rfl, rfl⟩ := some_in h
    exact ⟨Nat.lt_succ_self p, fun a => ⟨nmV_sm hO, a⟩, fun a => Nat.succ_le_succ a⟩
  rw [if_neg h28] at h
  by_cases h29 : c % 64 = 29
  · rw [if_pos h29] at h
    obtain ⟨rfl, rfl⟩ := some_in h
    exact ⟨Nat.lt_succ_self p, fun a => ⟨nmV_sm hO, a⟩, fun a => Nat.succ_le_succ a⟩
  rw [if_neg h29] at h
  by_cases h30 : c % 64 = 30
  · rw [if_pos h30] at h
    obtain ⟨rfl, rfl⟩ := some_in h
    exact ⟨Nat.lt_succ_self p, fun a => ⟨nmV_sm hO, a⟩, fun a => Nat.succ_le_succ a⟩
  rw [if_neg h30] at h
  by_cases h36 : c % 64 = 36
  · rw [if_pos h36] at h
    cases s with
    | nil => cases h
    | cons y r =>
      cases r with
      | nil => cases h
      | cons x t =>
        obtain ⟨rfl, rfl⟩ := some_in h
        exact ⟨Nat.lt_succ_self p, fun a => ⟨ar2_sm _, a.2.2⟩, fun a => by have a : t.length + 1 + 1 ≤ p := a; show t.length + 1 ≤ p + 1; omega⟩
  rw [if_neg h36] at h
  by_cases h37 : c % 64 = 37
  · rw [if_pos h37] at h
    cases s with
    | nil => cases h
    | cons y r =>
      cases r with
      | nil => cases h
      | cons x t =>
        obtain ⟨rfl, rfl⟩ := some_in h
        exact ⟨Nat.lt_succ_self p, fun a => ⟨ar2_sm _, a.2.2⟩, fun a => by have a : t.length + 1 + 1 ≤ p := a; show t.length + 1 ≤ p + 1; omega⟩
  rw [if_neg h37] at h
  by_cases h38 : c % 64 = 38
  · rw [if_pos h38] at h
    cases s with
    | nil => cases h
    | cons y r =>
      cases r with
      | nil => cases h
      | cons x t =>
        obtain ⟨rfl, rfl⟩ := some_in h
        exact ⟨Nat.lt_succ_self p, fun a => ⟨ar2_sm _, a.2.2⟩, fun a => by have a : t.length + 1 + 1 ≤ p := a; show t.length + 1 ≤ p + 1; omega⟩
  rw [if_neg h38] at h
  by_cases h39 : c % 64 = 39
  · rw [if_pos h39] at h
    cases s with
    | nil => cases h
    | cons y r =>
      cases r with
      | nil => cases h
      | cons x t =>
        obtain ⟨rfl, rfl⟩ := some_in h
        exact ⟨Nat.lt_succ_self p, fun a => ⟨ar2_sm _, a.2.2⟩, fun a => by have a : t.length + 1 + 1 ≤ p := a; show t.length + 1 ≤ p + 1; omega⟩
  rw [if_neg h39] at h
  by_cases h32 : c % 64 = 32
  · rw [if_pos h32] at h
    cases s with
    | nil => cases h
    | cons y r =>
      cases r with
      | nil => cases h
      | cons x t =>
        obtain ⟨rfl, rfl⟩ := some_in h
        exact ⟨Nat.lt_succ_self p, fun a => ⟨bt_sm _, a.2.2⟩, fun a => by have a : t.length + 1 + 1 ≤ p := a; show t.length + 1 ≤ p + 1; omega⟩
  rw [if_neg h32] at h
  by_cases h43 : c % 64 = 43
  · rw [if_pos h43] at h
    cases s with
    | nil => cases h
    | cons y r =>
      cases r with
      | nil => cases h
      | cons x t =>
        obtain ⟨rfl, rfl⟩ := some_in h
        exact ⟨Nat.lt_succ_self p, fun a => ⟨bt_sm _, a.2.2⟩, fun a => by have a : t.length + 1 + 1 ≤ p := a; show t.length + 1 ≤ p + 1; omega⟩
  rw [if_neg h43] at h
  by_cases h33 : c % 64 = 33
  · rw [if_pos h33] at h
    cases s with
    | nil => cases h
    | cons y r =>
      cases r with
      | nil => cases h
      | cons x t =>
        obtain ⟨rfl, rfl⟩ := some_in h
        exact ⟨Nat.lt_succ_self p, fun a => ⟨bt_sm _, a.2.2⟩, fun a => by have a : t.length + 1 + 1 ≤ p := a; show t.length + 1 ≤ p + 1; omega⟩
  rw [if_neg h33] at h
  by_cases h44 : c % 64 = 44
  · rw [if_pos h44] at h
    cases s with
    | nil => cases h
    | cons y r =>
      cases r with
      | nil => cases h
      | cons x t =>
        obtain ⟨rfl, rfl⟩ := some_in h
        exact ⟨Nat.lt_succ_self p, fun a => ⟨bt_sm _, a.2.2⟩, fun a => by have a : t.length + 1 + 1 ≤ p := a; show t.length + 1 ≤ p + 1; omega⟩
  rw [if_neg h44] at h
  by_cases h34 : c % 64 = 34
  · rw [if_pos h34] at h
    cases s with
    | nil => cases h
    | cons y r =>
      cases r with
      | nil => cases h
      | cons x t =>
        obtain ⟨rfl, rfl⟩ := some_in h
        exact ⟨Nat.lt_succ_self p, fun a => ⟨bt_sm _, a.2.2⟩, fun a => by have a : t.length + 1 + 1 ≤ p := a; show t.length + 1 ≤ p + 1; omega⟩
  rw [if_neg h34] at h
  by_cases h35 : c % 64 = 35
  · rw [if_pos h35] at h
    cases s with
    | nil => cases h
    | cons y r =>
      cases r with
      | nil => cases h
      | cons x t =>
        obtain ⟨rfl, rfl⟩ := some_in h
        exact ⟨Nat.lt_succ_self p, fun a => ⟨bt_sm _, a.2.2⟩, fun a => by have a : t.length + 1 + 1 ≤ p := a; show t.length + 1 ≤ p + 1; omega⟩
  rw [if_neg h35] at h
  by_cases h23 : c % 64 = 23
  · rw [if_pos h23] at h
    cases s with
    | nil => cases h
    | cons y r =>
      cases r with
      | nil => cases h
      | cons x t =>
        have h : (if (x = 0 ∨ x = 1) ∧ (y = 0 ∨ y = 1) then some (p + 1, bt (decide (x = 1) || decide (y = 1)) :: t) else none) = some (p', s') := h
        by_cases hb : (x = 0 ∨ x = 1) ∧ (y = 0 ∨ y = 1)
        · rw [if_pos hb] at h
          obtain ⟨rfl, rfl⟩ := some_in h
          exact ⟨Nat.lt_succ_self p, fun a => ⟨bt_sm _, a.2.2⟩, fun a => by have a : t.length + 1 + 1 ≤ p := a; show t.length + 1 ≤ p + 1; omega⟩
        · rw [if_neg hb] at h; cases h
  rw [if_neg h23] at h
  by_cases h24 : c % 64 = 24
  · rw [if_pos h24] at h
    cases s with
    | nil => cases h
    | cons y r =>
      cases r with
      | nil => cases h
      | cons x t =>
        have h : (if (x = 0 ∨ x = 1) ∧ (y = 0 ∨ y = 1) then some (p + 1, bt (decide (x = 1) && decide (y = 1)) :: t) else none) = some (p', s') := h
        by_cases hb : (x = 0 ∨ x = 1) ∧ (y = 0 ∨ y = 1)
        · rw [if_pos hb] at h
          obtain ⟨rfl, rfl⟩ := some_in h
          exact ⟨Nat.lt_succ_self p, fun a => ⟨bt_sm _, a.2.2⟩, fun a => by have a : t.length + 1 + 1 ≤ p := a; show t.length + 1 ≤ p + 1; omega⟩
        · rw [if_neg hb] at h; cases h
  rw [if_neg h24] at h
  cases h
theorem run_step {X : Mem} {a T : Nat} {e : Env} {cw : Nat → Nat} {Q : Option Value → Mem → Prop} {fm to en p : Nat} {s : List Int} {l : List Int32} {z9 z10 z11 : Option Value} (hX : Ok X) (hE : CE X a e) (hO : okE e) (hT : TC X T cw) (hl : l.length = 300) (hp : p < en) (hen : en ≤ 300) {p' : Nat} {s' : List Int} (h : stepC e (cw p) p s = some (p', s')) (hL : okV s) (hsl : s.length ≤ p) (hk : stkL s l) (kx : ∀ (l : List Int32) (z9 z10 z11 : Option Value), l.length = 300 → stkL s' l → JM 3 m_L_run Q 19 [some (.ref 16), some (.ref T), some (.int (nI fm)), some (.int (nI to)), some (.ref a), some (.int (nI e.2.2.2.2.1)), some (.int (jI e.2.2.2.2.2)), some (.int (nI en)), some (.int (nI p')), z9, z10, z11] [] (skX X s' l)) : JM 3 m_L_run Q 19 [some (.ref 16), some (.ref T), some (.int (nI fm)), some (.int (nI to)), some (.ref a), some (.int (nI e.2.2.2.2.1)), some (.int (jI e.2.2.2.2.2)), some (.int (nI en)), some (.int (nI p)), z9, z10, z11] [] (skX X s l) := by
  unfold stepC at h
  by_cases h45 : cw p % 64 = 45
  · rw [if_pos h45] at h
    by_cases hw : cw p / 64 ≤ 9999
    · rw [if_pos hw] at h
      obtain ⟨rfl, rfl⟩ := some_in h
      have hk0 := h45
      exact run_45 hX hE hO hT hl hp hen (w := cw p / 64) hk0 rfl hsl hk kx
    · rw [if_neg hw] at h; cases h
  rw [if_neg h45] at h
  by_cases h31 : cw p % 64 = 31
  · rw [if_pos h31] at h
    obtain ⟨rfl, rfl⟩ := some_in h
    have hk0 := h31
    exact run_31 hX hE hO hT hl hp hen (w := 0) hk0 hsl hk kx
  rw [if_neg h31] at h
  by_cases h20 : cw p % 64 = 20
  · rw [if_pos h20] at h
    cases s with
    | nil => cases h
    | cons v t =>
      have h : (if v = 0 then (if p < cw p / 64 then some (cw p / 64, t) else none) else if v = 1 then some (p + 1, t) else none) = some (p', s') := h
      by_cases hv0 : v = 0
      · rw [if_pos hv0] at h
        by_cases hw : p < cw p / 64
        · rw [if_pos hw] at h
          obtain ⟨rfl, rfl⟩ := some_in h
          subst hv0
          have hk0 := h20
          exact run_20z hX hE hO hT hl hp hen (s := []) (w := cw p / 64) hw hk0 rfl hsl hk kx
        · rw [if_neg hw] at h; cases h
      · rw [if_neg hv0] at h
        by_cases hv1 : v = 1
        · rw [if_pos hv1] at h
          obtain ⟨rfl, rfl⟩ := some_in h
          subst hv1
          have hk0 := h20
          exact run_20o hX hE hO hT hl hp hen (s := []) (w := cw p / 64) hk0 rfl hsl hk kx
        · rw [if_neg hv1] at h; cases h
  rw [if_neg h20] at h
  by_cases h21 : cw p % 64 = 21
  · rw [if_pos h21] at h
    by_cases hw : p < cw p / 64
    · rw [if_pos hw] at h
      obtain ⟨rfl, rfl⟩ := some_in h
      have hk0 := h21
      exact run_21 hX hE hO hT hl hp hen (w := cw p / 64) hw hk0 rfl hsl hk kx
    · rw [if_neg hw] at h; cases h
  rw [if_neg h21] at h
  by_cases h17 : cw p % 64 = 17
  · rw [if_pos h17] at h
    cases s with
    | nil => cases h
    | cons v t =>
      obtain ⟨rfl, rfl⟩ := some_in h
      have hk0 := h17
      exact run_17 hX hE hO hT hl hp hen (s := []) (w := 0) hL.1 hk0 hsl hk kx
  rw [if_neg h17] at h
  by_cases h18 : cw p % 64 = 18
  · rw [if_pos h18] at h
    cases s with
    | nil => cases h
    | cons v t =>
      obtain ⟨rfl, rfl⟩ := some_in h
      have hk0 := h18
      exact run_18 hX hE hO hT hl hp hen (s := []) (w := 0) hL.1 hk0 hsl hk kx
  rw [if_neg h18] at h
  by_cases h25 : cw p % 64 = 25
  · rw [if_pos h25] at h
    cases s with
    | nil => cases h
    | cons v t =>
      have h : (if v = 0 ∨ v = 1 then some (p + 1, (1 - v) :: t) else none) = some (p', s') := h
      by_cases hv0 : v = 0 ∨ v = 1
      · rw [if_pos hv0] at h
        obtain ⟨rfl, rfl⟩ := some_in h
        have hk0 := h25
        exact run_25 hX hE hO hT hl hp hen (s := []) (w := 0) hL.1 hk0 hsl hk kx
      · rw [if_neg hv0] at h; cases h
  rw [if_neg h25] at h
  by_cases h48 : cw p % 64 = 48
  · rw [if_pos h48] at h
    cases s with
    | nil => cases h
    | cons v t =>
      obtain ⟨rfl, rfl⟩ := some_in h
      have hk0 := h48
      exact run_48 hX hE hO hT hl hp hen (s := []) (w := 0) hL.1 hk0 hsl hk kx
  rw [if_neg h48] at h
  by_cases h6 : cw p % 64 = 6
  · rw [if_pos h6] at h
    obtain ⟨rfl, rfl⟩ := some_in h
    have hk0 := h6
    exact run_6 hX hE hO hT hl hp hen (w := 0) hk0 hsl hk kx
  rw [if_neg h6] at h
  by_cases h26 : cw p % 64 = 26
  · rw [if_pos h26] at h
    obtain ⟨rfl, rfl⟩ := some_in h
    have hk0 := h26
    exact run_26 hX hE hO hT hl hp hen (w := 0) hk0 hsl hk kx
  rw [if_neg h26] at h
  by_cases h27 : cw p % 64 = 27
  · rw [if_pos h27] at h
    obtain ⟨rfl, rfl⟩ := some_in h
    have hk0 := h27
    exact run_27 hX hE hO hT hl hp hen (w := 0) hk0 hsl hk kx
  rw [if_neg h27] at h
  by_cases h28 : cw p % 64 = 28
  · rw [if_pos h28] at h
    obtain ⟨rfl, rfl⟩ := some_in h
    have hk0 := h28
    exact run_28 hX hE hO hT hl hp hen (w := 0) hk0 hsl hk kx
  rw [if_neg h28] at h
  by_cases h29 : cw p % 64 = 29
  · rw [if_pos h29] at h
    obtain ⟨rfl, rfl⟩ := some_in h
    have hk0 := h29
    exact run_29 hX hE hO hT hl hp hen (w := 0) hk0 hsl hk kx
  rw [if_neg h29] at h
  by_cases h30 : cw p % 64 = 30
  · rw [if_pos h30] at h
    obtain ⟨rfl, rfl⟩ := some_in h
    have hk0 := h30
    exact run_30 hX hE hO hT hl hp hen (w := 0) hk0 hsl hk kx
  rw [if_neg h30] at h
  by_cases h36 : cw p % 64 = 36
  · rw [if_pos h36] at h
    cases s with
    | nil => cases h
    | cons y r =>
      cases r with
      | nil => cases h
      | cons x t =>
        obtain ⟨rfl, rfl⟩ := some_in h
        have hk0 := h36
        exact run_36 hX hE hO hT hl hp hen (s := []) (w := 0) hL.2.1 hL.1 hk0 hsl hk kx
  rw [if_neg h36] at h
  by_cases h37 : cw p % 64 = 37
  · rw [if_pos h37] at h
    cases s with
    | nil => cases h
    | cons y r =>
      cases r with
      | nil => cases h
      | cons x t =>
        obtain ⟨rfl, rfl⟩ := some_in h
        have hk0 := h37
        exact run_37 hX hE hO hT hl hp hen (s := []) (w := 0) hL.2.1 hL.1 hk0 hsl hk kx
  rw [if_neg h37] at h
  by_cases h38 : cw p % 64 = 38
  · rw [if_pos h38] at h
    cases s with
    | nil => cases h
    | cons y r =>
      cases r with
      | nil => cases h
      | cons x t =>
        obtain ⟨rfl, rfl⟩ := some_in h
        have hk0 := h38
        exact run_38 hX hE hO hT hl hp hen (s := []) (w := 0) hL.2.1 hL.1 hk0 hsl hk kx
  rw [if_neg h38] at h
  by_cases h39 : cw p % 64 = 39
  · rw [if_pos h39] at h
    cases s with
    | nil => cases h
    | cons y r =>
      cases r with
      | nil => cases h
      | cons x t =>
        obtain ⟨rfl, rfl⟩ := some_in h
        have hk0 := h39
        exact run_39 hX hE hO hT hl hp hen (s := []) (w := 0) hL.2.1 hL.1 hk0 hsl hk kx
  rw [if_neg h39] at h
  by_cases h32 : cw p % 64 = 32
  · rw [if_pos h32] at h
    cases s with
    | nil => cases h
    | cons y r =>
      cases r with
      | nil => cases h
      | cons x t =>
        obtain ⟨rfl, rfl⟩ := some_in h
        have hk0 := h32
        exact run_32 hX hE hO hT hl hp hen (s := []) (w := 0) hL.2.1 hL.1 hk0 hsl hk kx
  rw [if_neg h32] at h
  by_cases h43 : cw p % 64 = 43
  · rw [if_pos h43] at h
    cases s with
    | nil => cases h
    | cons y r =>
      cases r with
      | nil => cases h
      | cons x t =>
        obtain ⟨rfl, rfl⟩ := some_in h
        have hk0 := h43
        exact run_43 hX hE hO hT hl hp hen (s := []) (w := 0) hL.2.1 hL.1 hk0 hsl hk kx
  rw [if_neg h43] at h
  by_cases h33 : cw p % 64 = 33
  · rw [if_pos h33] at h
    cases s with
    | nil => cases h
    | cons y r =>
      cases r with
      | nil => cases h
      | cons x t =>
        obtain ⟨rfl, rfl⟩ := some_in h
        have hk0 := h33
        exact run_33 hX hE hO hT hl hp hen (s := []) (w := 0) hL.2.1 hL.1 hk0 hsl hk kx
  rw [if_neg h33] at h
  by_cases h44 : cw p % 64 = 44
  · rw [if_pos h44] at h
    cases s with
    | nil => cases h
    | cons y r =>
      cases r with
      | nil => cases h
      | cons x t =>
        obtain ⟨rfl, rfl⟩ := some_in h
        have hk0 := h44
        exact run_44 hX hE hO hT hl hp hen (s := []) (w := 0) hL.2.1 hL.1 hk0 hsl hk kx
  rw [if_neg h44] at h
  by_cases h34 : cw p % 64 = 34
  · rw [if_pos h34] at h
    cases s with
    | nil => cases h
    | cons y r =>
      cases r with
      | nil => cases h
      | cons x t =>
        obtain ⟨rfl, rfl⟩ := some_in h
        have hk0 := h34
        exact run_34 hX hE hO hT hl hp hen (s := []) (w := 0) hL.2.1 hL.1 hk0 hsl hk kx
  rw [if_neg h34] at h
  by_cases h35 : cw p % 64 = 35
  · rw [if_pos h35] at h
    cases s with
    | nil => cases h
    | cons y r =>
      cases r with
      | nil => cases h
      | cons x t =>
        obtain ⟨rfl, rfl⟩ := some_in h
        have hk0 := h35
        exact run_35 hX hE hO hT hl hp hen (s := []) (w := 0) hL.2.1 hL.1 hk0 hsl hk kx
  rw [if_neg h35] at h
  by_cases h23 : cw p % 64 = 23
  · rw [if_pos h23] at h
    cases s with
    | nil => cases h
    | cons y r =>
      cases r with
      | nil => cases h
      | cons x t =>
        have h : (if (x = 0 ∨ x = 1) ∧ (y = 0 ∨ y = 1) then some (p + 1, bt (decide (x = 1) || decide (y = 1)) :: t) else none) = some (p', s') := h
        by_cases hb : (x = 0 ∨ x = 1) ∧ (y = 0 ∨ y = 1)
        · rw [if_pos hb] at h
          obtain ⟨rfl, rfl⟩ := some_in h
          have hk0 := h23
          exact run_23 hX hE hO hT hl hp hen (s := []) (w := 0) hb.1 hb.2 hk0 hsl hk kx
        · rw [if_neg hb] at h; cases h
  rw [if_neg h23] at h
  by_cases h24 : cw p % 64 = 24
  · rw [if_pos h24] at h
    cases s with
    | nil => cases h
    | cons y r =>
      cases r with
      | nil => cases h
      | cons x t =>
        have h : (if (x = 0 ∨ x = 1) ∧ (y = 0 ∨ y = 1) then some (p + 1, bt (decide (x = 1) && decide (y = 1)) :: t) else none) = some (p', s') := h
        by_cases hb : (x = 0 ∨ x = 1) ∧ (y = 0 ∨ y = 1)
        · rw [if_pos hb] at h
          obtain ⟨rfl, rfl⟩ := some_in h
          have hk0 := h24
          exact run_24 hX hE hO hT hl hp hen (s := []) (w := 0) hb.1 hb.2 hk0 hsl hk kx
        · rw [if_neg hb] at h; cases h
  rw [if_neg h24] at h
  cases h
theorem steps_le {e : Env} {cw : Nat → Nat} (hO : okE e) : ∀ {m p q : Nat} {s s' : List Int}, stepsC e cw m p s = some (q, s') → p + m ≤ q
  | 0, p, q, s, s', h => by
    obtain ⟨rfl, rfl⟩ := some_in h
    exact Nat.le_refl _
  | m + 1, p, q, s, s', h => by
    rw [stepsC] at h
    cases e1 : stepC e (cw p) p s with
    | none => rw [e1] at h; cases h
    | some x =>
      obtain ⟨p1, s1⟩ := x
      rw [e1] at h
      have h1 := (step_f hO e1).1
      have h2 := steps_le hO (m := m) h
      omega
theorem steps_app {e : Env} {cw : Nat → Nat} : ∀ {m m' p q r : Nat} {s s' s2 : List Int}, stepsC e cw m p s = some (q, s') → stepsC e cw m' q s' = some (r, s2) → stepsC e cw (m + m') p s = some (r, s2)
  | 0, m', p, q, r, s, s', s2, h, h2 => by
    obtain ⟨rfl, rfl⟩ := some_in h
    rw [Nat.zero_add]; exact h2
  | m + 1, m', p, q, r, s, s', s2, h, h2 => by
    rw [Nat.succ_add, stepsC]
    rw [stepsC] at h
    cases e1 : stepC e (cw p) p s with
    | none => rw [e1] at h; cases h
    | some x =>
      obtain ⟨p1, s1⟩ := x
      rw [e1] at h
      exact steps_app (m := m) h h2
theorem run_steps {X : Mem} {a T : Nat} {e : Env} {cw : Nat → Nat} {Q : Option Value → Mem → Prop} {fm to en : Nat} (hX : Ok X) (hE : CE X a e) (hO : okE e) (hT : TC X T cw) (hen : en ≤ 300) {q : Nat} {s' : List Int} (hq : q ≤ en) (kx : ∀ (l : List Int32) (z9 z10 z11 : Option Value), l.length = 300 → stkL s' l → okV s' → s'.length ≤ q → JM 3 m_L_run Q 19 [some (.ref 16), some (.ref T), some (.int (nI fm)), some (.int (nI to)), some (.ref a), some (.int (nI e.2.2.2.2.1)), some (.int (jI e.2.2.2.2.2)), some (.int (nI en)), some (.int (nI q)), z9, z10, z11] [] (skX X s' l)) : ∀ (m p : Nat) (s : List Int) (l : List Int32) (z9 z10 z11 : Option Value), stepsC e cw m p s = some (q, s') → l.length = 300 → stkL s l → okV s → s.length ≤ p → JM 3 m_L_run Q 19 [some (.ref 16), some (.ref T), some (.int (nI fm)), some (.int (nI to)), some (.ref a), some (.int (nI e.2.2.2.2.1)), some (.int (jI e.2.2.2.2.2)), some (.int (nI en)), some (.int (nI p)), z9, z10, z11] [] (skX X s l) := by
  intro m
  induction m with
  | zero =>
    intro p s l z9 z10 z11 h hl hk hL hsl
    obtain ⟨rfl, rfl⟩ := some_in h
    exact kx l z9 z10 z11 hl hk hL hsl
  | succ m ih =>
    intro p s l z9 z10 z11 h hl hk hL hsl
    have hle := steps_le hO h
    rw [stepsC] at h
    cases e1 : stepC e (cw p) p s with
    | none => rw [e1] at h; cases h
    | some x =>
      obtain ⟨p1, s1⟩ := x
      rw [e1] at h
      obtain ⟨f1, f2, f3⟩ := step_f hO e1
      exact run_step hX hE hO hT hl (by omega) hen e1 hL hsl hk (fun l z9 z10 z11 hl hk => ih p1 s1 l z9 z10 z11 h hl hk (f2 hL) (f3 hsl))
theorem S_L_run {X : Mem} {a T : Nat} {e : Env} {cw : Nat → Nat} {m fm to : Nat} {v : Int} (hX : Ok X) (hE : CE X a e) (hO : okE e) (hT : TC X T cw) (hto : to ≤ 300) (hs : stepsC e cw m fm [] = some (to, [v])) : CM 3 m_L_run [.ref 16, .ref T, .int (nI fm), .int (nI to), .ref a, .int (nI e.2.2.2.2.1), .int (jI e.2.2.2.2.2)] X (fun r Y => r = some (.int (jI v)) ∧ ∃ h l, l.length = 300 ∧ Y = pA (pF X 16 1 h) 17 l) := by
  have hle := steps_le hO hs
  have hT5 := (txt_f hT.1).2.2.2.2
  refine CM_of (L := [some (.ref 16), some (.ref T), some (.int (nI fm)), some (.int (nI to)), some (.ref a), some (.int (nI e.2.2.2.2.1)), some (.int (jI e.2.2.2.2.2)), none, none, none, none, none]) 5 ok_L_run (fun _ => Nat.le_of_ble_eq_true rfl) rfl ?_
  refine J_aload_n (i := 0) d_L_run_0 rfl rfl ?_
  refine J_iconst (v := nI 0) d_L_run_1 rfl ?_
  refine M_put d_L_run_2 p_L_61 rfl rfl rfl rfl ?_
  refine J_iload_n (i := 3) d_L_run_5 rfl rfl ?_
  refine J_aload_n (i := 1) d_L_run_6 rfl rfl ?_
  refine M_getR (b := (T + 1)) d_L_run_7 f_L_64 hT.1 rfl (txt_f hT.1).1.1 ?_
  refine M_ilen (n := 300) d_L_run_10 (Or.inl (txt_f hT.1).2.1.1) (by show (X.2.1 (T + 1)).length = 300; rw [hX.1 (T + 1) (by omega)]; exact (txt_f hT.1).2.2.1.1) ?_
  refine J_mmin d_L_run_11 w_L_32 w_math_min_s w_mathInit w_math_min_c (by omega) (Nat.le_of_ble_eq_true rfl) ?_
  refine I_ton (n := min to 300) (nI_min (by omega) (by omega)) ?_
  rw [Nat.min_eq_left hto]
  refine J_istore (L1 := [some (.ref 16), some (.ref T), some (.int (nI fm)), some (.int (nI to)), some (.ref a), some (.int (nI e.2.2.2.2.1)), some (.int (jI e.2.2.2.2.2)), some (.int (nI to)), none, none, none, none]) d_L_run_14 (by decide) rfl ?_
  refine J_iload_n (i := 2) d_L_run_16 rfl rfl ?_
  refine J_istore (L1 := [some (.ref 16), some (.ref T), some (.int (nI fm)), some (.int (nI to)), some (.ref a), some (.int (nI e.2.2.2.2.1)), some (.int (jI e.2.2.2.2.2)), some (.int (nI to)), some (.int (nI fm)), none, none, none]) d_L_run_17 (by decide) rfl ?_
  refine (run_steps (fm := fm) (to := to) hX hE hO hT hto (Nat.le_refl to) (fun l z9 z10 z11 hl hk hL hsl => ?_) m fm [] (X.2.1 17) _ _ _ hs (by rw [hX.1 17 (by decide)]; rfl) trivial trivial (Nat.zero_le _)).eq rfl rfl (congrArg hm (pA_eta (X := pF X 16 1 (nI 0)) (a := 17)).symm)
  refine J_iload d_L_run_19 rfl ?_
  refine N_if_lt (tgt := 269) d_L_run_21 (by decide) (by omega) ?_
  refine J_iload d_L_run_24 rfl ?_
  refine J_iload d_L_run_26 rfl ?_
  refine N_icmp_ge (tgt := 269) d_L_run_28 (by decide) (by omega) (by omega) (fun c28 => ?_) (fun c28 => absurd c28 (by omega))
  refine J_aload_n (i := 0) d_L_run_269 rfl rfl ?_
  refine CV_I (av := []) d_L_run_270 s_L_76 (M_rcv rfl (by decide) rfl) (S_L_pop1 (X := X) (s := []) (l := l) (v := v) hX hl hk (by decide)) (by decide) rfl rfl (Nat.le_of_ble_eq_true rfl) ?_
  refine M_ir d_L_run_273 rfl rfl ?_
  exact ⟨rfl, _, l, hl, rfl⟩

