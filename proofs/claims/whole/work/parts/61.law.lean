def stepsR (e : Env) (oc vc : Nat → Nat) : Nat → Nat → List Int → List Bool → Option (List Int × List Bool)
  | 0, _, vs, bs => some (vs, bs)
  | m + 1, i, vs, bs => match stepR e (oc i) (vc i) vs bs with
    | none => none
    | some (vs', bs') => stepsR e oc vc m (i + 1) vs' bs'
theorem stepsR_app {e : Env} {oc vc : Nat → Nat} : ∀ {m m' i : Nat} {vs v1 v2 : List Int} {bs b1 b2 : List Bool}, stepsR e oc vc m i vs bs = some (v1, b1) → stepsR e oc vc m' (i + m) v1 b1 = some (v2, b2) → stepsR e oc vc (m + m') i vs bs = some (v2, b2)
  | 0, m', i, vs, v1, v2, bs, b1, b2, h, h2 => by
    have e1 : vs = v1 ∧ bs = b1 := by cases h; exact ⟨rfl, rfl⟩
    obtain ⟨rfl, rfl⟩ := e1
    rw [Nat.zero_add]; exact h2
  | m + 1, m', i, vs, v1, v2, bs, b1, b2, h, h2 => by
    rw [Nat.succ_add, stepsR]
    rw [stepsR] at h
    cases e1 : stepR e (oc i) (vc i) vs bs with
    | none => rw [e1] at h; cases h
    | some x =>
      obtain ⟨p1, s1⟩ := x
      rw [e1] at h
      exact stepsR_app (m := m) h (by rw [show i + 1 + m = i + (m + 1) by omega]; exact h2)
theorem some_in2 {p p' : List Int} {s s' : List Bool} (h : some (p, s) = some (p', s')) : p = p' ∧ s = s' := by
  cases h
  exact ⟨rfl, rfl⟩
theorem stepR_f {e : Env} {oo vo i : Nat} {vs v' : List Int} {bs b' : List Bool} (hO : okE e) (h : stepR e oo vo vs bs = some (v', b')) : (okV vs → okV v') ∧ (vs.length ≤ i → v'.length ≤ i + 1) ∧ (bs.length ≤ i → b'.length ≤ i + 1) := by
  unfold stepR at h
  by_cases hk : oo = 0
  · rw [if_pos hk] at h
    by_cases hw : vo ≤ 9999
    · rw [if_pos hw] at h
      obtain ⟨rfl, rfl⟩ := some_in2 h
      exact ⟨fun a => ⟨by unfold sm; omega, a⟩, fun a => Nat.succ_le_succ a, fun a => Nat.le_succ_of_le a⟩
    · rw [if_neg hw] at h; cases h
  rw [if_neg hk] at h
  clear hk
  by_cases hk : oo = 1
  · rw [if_pos hk] at h
    by_cases hw : vo < 7
    · rw [if_pos hw] at h
      obtain ⟨rfl, rfl⟩ := some_in2 h
      exact ⟨fun a => ⟨nmV_sm hO, a⟩, fun a => Nat.succ_le_succ a, fun a => Nat.le_succ_of_le a⟩
    · rw [if_neg hw] at h; cases h
  rw [if_neg hk] at h
  clear hk
  by_cases hk : oo = 3
  · rw [if_pos hk] at h
    cases vs with
    | nil => first | (cases h; done) | (cases bs <;> cases h)
    | cons y q0 =>
      cases q0 with
      | nil => first | (cases h; done) | (cases bs <;> cases h)
      | cons a r =>
        cases bs with
        | nil => cases h
        | cons f u =>
          obtain ⟨rfl, rfl⟩ := some_in2 h
          exact ⟨fun a => ⟨by split; exact a.2.1; exact a.1, a.2.2⟩, fun a => by have a : r.length + 1 + 1 ≤ i := a; show r.length + 1 ≤ i + 1; omega, fun a => by have a : u.length + 1 ≤ i := a; show u.length ≤ i + 1; omega⟩
  rw [if_neg hk] at h
  clear hk
  by_cases hk : oo = 5
  · rw [if_pos hk] at h
    cases vs with
    | nil => first | (cases h; done) | (cases bs <;> cases h)
    | cons y r =>
      obtain ⟨rfl, rfl⟩ := some_in2 h
      exact ⟨fun a => ⟨sm_neg a.1, a.2⟩, fun a => Nat.le_succ_of_le a, fun a => Nat.le_succ_of_le a⟩
  rw [if_neg hk] at h
  clear hk
  by_cases hk : oo = 4
  · rw [if_pos hk] at h
    cases vs with
    | nil => first | (cases h; done) | (cases bs <;> cases h)
    | cons y r =>
      obtain ⟨rfl, rfl⟩ := some_in2 h
      exact ⟨fun a => ⟨szV_sm, a.2⟩, fun a => Nat.le_succ_of_le a, fun a => Nat.le_succ_of_le a⟩
  rw [if_neg hk] at h
  clear hk
  by_cases hk : oo = 2
  · rw [if_pos hk] at h
    cases vs with
    | nil => first | (cases h; done) | (cases bs <;> cases h)
    | cons y r =>
      obtain ⟨rfl, rfl⟩ := some_in2 h
      exact ⟨fun a => ⟨hsV_sm, a.2⟩, fun a => Nat.le_succ_of_le a, fun a => Nat.le_succ_of_le a⟩
  rw [if_neg hk] at h
  clear hk
  by_cases hk : oo = 6 ∨ oo = 7 ∨ oo = 8 ∨ oo = 9
  · rw [if_pos hk] at h
    cases vs with
    | nil => first | (cases h; done) | (cases bs <;> cases h)
    | cons y q0 =>
      cases q0 with
      | nil => first | (cases h; done) | (cases bs <;> cases h)
      | cons a r =>
        obtain ⟨rfl, rfl⟩ := some_in2 h
        rcases hk with hk | hk | hk | hk
        · exact ⟨fun a => ⟨ar2_sm _, a.2.2⟩, fun a => by have a : r.length + 1 + 1 ≤ i := a; show r.length + 1 ≤ i + 1; omega, fun a => Nat.le_succ_of_le a⟩
        · exact ⟨fun a => ⟨ar2_sm _, a.2.2⟩, fun a => by have a : r.length + 1 + 1 ≤ i := a; show r.length + 1 ≤ i + 1; omega, fun a => Nat.le_succ_of_le a⟩
        · exact ⟨fun a => ⟨ar2_sm _, a.2.2⟩, fun a => by have a : r.length + 1 + 1 ≤ i := a; show r.length + 1 ≤ i + 1; omega, fun a => Nat.le_succ_of_le a⟩
        · exact ⟨fun a => ⟨ar2_sm _, a.2.2⟩, fun a => by have a : r.length + 1 + 1 ≤ i := a; show r.length + 1 ≤ i + 1; omega, fun a => Nat.le_succ_of_le a⟩
  rw [if_neg hk] at h
  clear hk
  by_cases hk : oo = 10 ∨ oo = 11 ∨ oo = 12 ∨ oo = 13 ∨ oo = 14 ∨ oo = 15
  · rw [if_pos hk] at h
    cases vs with
    | nil => first | (cases h; done) | (cases bs <;> cases h)
    | cons y q0 =>
      cases q0 with
      | nil => first | (cases h; done) | (cases bs <;> cases h)
      | cons a r =>
        obtain ⟨rfl, rfl⟩ := some_in2 h
        rcases hk with hk | hk | hk | hk | hk | hk
        · exact ⟨fun a => a.2.2, fun a => by have a : r.length + 1 + 1 ≤ i := a; show r.length ≤ i + 1; omega, fun a => Nat.succ_le_succ a⟩
        · exact ⟨fun a => a.2.2, fun a => by have a : r.length + 1 + 1 ≤ i := a; show r.length ≤ i + 1; omega, fun a => Nat.succ_le_succ a⟩
        · exact ⟨fun a => a.2.2, fun a => by have a : r.length + 1 + 1 ≤ i := a; show r.length ≤ i + 1; omega, fun a => Nat.succ_le_succ a⟩
        · exact ⟨fun a => a.2.2, fun a => by have a : r.length + 1 + 1 ≤ i := a; show r.length ≤ i + 1; omega, fun a => Nat.succ_le_succ a⟩
        · exact ⟨fun a => a.2.2, fun a => by have a : r.length + 1 + 1 ≤ i := a; show r.length ≤ i + 1; omega, fun a => Nat.succ_le_succ a⟩
        · exact ⟨fun a => a.2.2, fun a => by have a : r.length + 1 + 1 ≤ i := a; show r.length ≤ i + 1; omega, fun a => Nat.succ_le_succ a⟩
  rw [if_neg hk] at h
  clear hk
  by_cases hk : oo = 20
  · rw [if_pos hk] at h
    cases bs with
    | nil => cases h
    | cons f u =>
      obtain ⟨rfl, rfl⟩ := some_in2 h
      exact ⟨fun a => a, fun a => Nat.le_succ_of_le a, fun a => Nat.le_succ_of_le a⟩
  rw [if_neg hk] at h
  clear hk
  by_cases hk : oo = 21
  · rw [if_pos hk] at h
    cases bs with
    | nil => cases h
    | cons f w0 =>
      cases w0 with
      | nil => cases h
      | cons d u =>
        obtain ⟨rfl, rfl⟩ := some_in2 h
        exact ⟨fun a => a, fun a => Nat.le_succ_of_le a, fun a => by have a : u.length + 1 + 1 ≤ i := a; show u.length + 1 ≤ i + 1; omega⟩
  rw [if_neg hk] at h
  clear hk
  by_cases hk : oo = 22
  · rw [if_pos hk] at h
    cases bs with
    | nil => cases h
    | cons f w0 =>
      cases w0 with
      | nil => cases h
      | cons d u =>
        obtain ⟨rfl, rfl⟩ := some_in2 h
        exact ⟨fun a => a, fun a => Nat.le_succ_of_le a, fun a => by have a : u.length + 1 + 1 ≤ i := a; show u.length + 1 ≤ i + 1; omega⟩
  rw [if_neg hk] at h
  clear hk
  cases h
theorem rr_step {X : Mem} {e : Env} {oc vc : Nat → Nat} {Q : Option Value → Mem → Prop} {t k x c i to : Nat} {vs : List Int} {bs : List Bool} {l1 : List Int64} {l2 : List Int32} {z8 z9 : Option Value} (hX : Ok X) (hR : RE X e) (hN : NMv X e) (hO : okE e) (hT : TRw X t oc vc) (hk4 : k < 24) (hx : x = 681 * t + 1 + 3 * k) (hc : c = 681 * t + 73) (hto : (X.2.1 251).getD (x + 2) 0 = nI to) (hi : i < to) (hto3 : to ≤ 300) (hl1 : l1.length = 330) (hl2 : l2.length = 330) {v' : List Int} {b' : List Bool} (h : stepR e (oc i) (vc i) vs bs = some (v', b')) (hL : okV vs) (hlv : List.length vs ≤ i) (hlb : List.length bs ≤ i) (hv : stkW vs l1) (hb : stkB bs l2) (kx : ∀ (l1 : List Int64) (l2 : List Int32) (z8 z9 : Option Value), l1.length = 330 → l2.length = 330 → stkW v' l1 → stkB b' l2 → JM 2 m_R_summedUp Q 38 [some (.ref 244), some (.int (nI t)), some (.int (nI k)), some (.int (nI x)), some (.int (nI c)), some (.int (nI (List.length v'))), some (.int (nI (List.length b'))), some (.int (nI (i + 1))), z8, z9] [] (rk2 X l1 l2)) : JM 2 m_R_summedUp Q 38 [some (.ref 244), some (.int (nI t)), some (.int (nI k)), some (.int (nI x)), some (.int (nI c)), some (.int (nI (List.length vs))), some (.int (nI (List.length bs))), some (.int (nI i)), z8, z9] [] (rk2 X l1 l2) := by
  unfold stepR at h
  by_cases hk : oc i = 0
  · rw [if_pos hk] at h
    by_cases hw : vc i ≤ 9999
    · rw [if_pos hw] at h
      obtain ⟨rfl, rfl⟩ := some_in2 h
      exact rr_0 hX hR hN hO hT hk4 hx hc hto hi hto3 hl1 hl2 hw hk rfl hlv hlb hv hb kx
    · rw [if_neg hw] at h; cases h
  rw [if_neg hk] at h
  clear hk
  by_cases hk : oc i = 1
  · rw [if_pos hk] at h
    by_cases hw : vc i < 7
    · rw [if_pos hw] at h
      obtain ⟨rfl, rfl⟩ := some_in2 h
      exact rr_1 hX hR hN hO hT hk4 hx hc hto hi hto3 hl1 hl2 hw hk rfl hlv hlb hv hb kx
    · rw [if_neg hw] at h; cases h
  rw [if_neg hk] at h
  clear hk
  by_cases hk : oc i = 3
  · rw [if_pos hk] at h
    cases vs with
    | nil => first | (cases h; done) | (cases bs <;> cases h)
    | cons y q0 =>
      cases q0 with
      | nil => first | (cases h; done) | (cases bs <;> cases h)
      | cons a r =>
        cases bs with
        | nil => cases h
        | cons f u =>
          obtain ⟨rfl, rfl⟩ := some_in2 h
          cases f with
          | true => exact rr_3t (w := 0) (vs := []) (bs := []) hX hR hN hO hT hk4 hx hc hto hi hto3 hl1 hl2 hk hlv hlb hv hb kx
          | false => exact rr_3f (w := 0) (vs := []) (bs := []) hX hR hN hO hT hk4 hx hc hto hi hto3 hl1 hl2 hk hlv hlb hv hb kx
  rw [if_neg hk] at h
  clear hk
  by_cases hk : oc i = 5
  · rw [if_pos hk] at h
    cases vs with
    | nil => first | (cases h; done) | (cases bs <;> cases h)
    | cons y r =>
      obtain ⟨rfl, rfl⟩ := some_in2 h
      exact rr_5 (w := 0) (vs := []) hX hR hN hO hT hk4 hx hc hto hi hto3 hl1 hl2 hL.1 hk hlv hlb hv hb kx
  rw [if_neg hk] at h
  clear hk
  by_cases hk : oc i = 4
  · rw [if_pos hk] at h
    cases vs with
    | nil => first | (cases h; done) | (cases bs <;> cases h)
    | cons y r =>
      obtain ⟨rfl, rfl⟩ := some_in2 h
      exact rr_4 (w := 0) (vs := []) hX hR hN hO hT hk4 hx hc hto hi hto3 hl1 hl2 hL.1 hk hlv hlb hv hb kx
  rw [if_neg hk] at h
  clear hk
  by_cases hk : oc i = 2
  · rw [if_pos hk] at h
    cases vs with
    | nil => first | (cases h; done) | (cases bs <;> cases h)
    | cons y r =>
      obtain ⟨rfl, rfl⟩ := some_in2 h
      exact rr_2 (w := 0) (vs := []) hX hR hN hO hT hk4 hx hc hto hi hto3 hl1 hl2 hL.1 hk hlv hlb hv hb kx
  rw [if_neg hk] at h
  clear hk
  by_cases hk : oc i = 6 ∨ oc i = 7 ∨ oc i = 8 ∨ oc i = 9
  · rw [if_pos hk] at h
    cases vs with
    | nil => first | (cases h; done) | (cases bs <;> cases h)
    | cons y q0 =>
      cases q0 with
      | nil => first | (cases h; done) | (cases bs <;> cases h)
      | cons a r =>
        obtain ⟨rfl, rfl⟩ := some_in2 h
        rcases hk with hk | hk | hk | hk
        · have hk1 : oc i = 6 := hk
          exact (by first | exact rr_6 (w := 0) (vs := []) hX hR hN hO hT hk4 hx hc hto hi hto3 hl1 hl2 hL.2.1 hL.1 hk1 hlv hlb hv hb kx | (rw [hk1] at kx; exact rr_6 (w := 0) (vs := []) hX hR hN hO hT hk4 hx hc hto hi hto3 hl1 hl2 hL.2.1 hL.1 hk1 hlv hlb hv hb kx))
        · have hk1 : oc i = 7 := hk
          exact (by first | exact rr_7 (w := 0) (vs := []) hX hR hN hO hT hk4 hx hc hto hi hto3 hl1 hl2 hL.2.1 hL.1 hk1 hlv hlb hv hb kx | (rw [hk1] at kx; exact rr_7 (w := 0) (vs := []) hX hR hN hO hT hk4 hx hc hto hi hto3 hl1 hl2 hL.2.1 hL.1 hk1 hlv hlb hv hb kx))
        · have hk1 : oc i = 8 := hk
          exact (by first | exact rr_8 (w := 0) (vs := []) hX hR hN hO hT hk4 hx hc hto hi hto3 hl1 hl2 hL.2.1 hL.1 hk1 hlv hlb hv hb kx | (rw [hk1] at kx; exact rr_8 (w := 0) (vs := []) hX hR hN hO hT hk4 hx hc hto hi hto3 hl1 hl2 hL.2.1 hL.1 hk1 hlv hlb hv hb kx))
        · have hk1 : oc i = 9 := hk
          exact (by first | exact rr_9 (w := 0) (vs := []) hX hR hN hO hT hk4 hx hc hto hi hto3 hl1 hl2 hL.2.1 hL.1 hk1 hlv hlb hv hb kx | (rw [hk1] at kx; exact rr_9 (w := 0) (vs := []) hX hR hN hO hT hk4 hx hc hto hi hto3 hl1 hl2 hL.2.1 hL.1 hk1 hlv hlb hv hb kx))
  rw [if_neg hk] at h
  clear hk
  by_cases hk : oc i = 10 ∨ oc i = 11 ∨ oc i = 12 ∨ oc i = 13 ∨ oc i = 14 ∨ oc i = 15
  · rw [if_pos hk] at h
    cases vs with
    | nil => first | (cases h; done) | (cases bs <;> cases h)
    | cons y q0 =>
      cases q0 with
      | nil => first | (cases h; done) | (cases bs <;> cases h)
      | cons a r =>
        obtain ⟨rfl, rfl⟩ := some_in2 h
        rcases hk with hk | hk | hk | hk | hk | hk
        · have hk1 : oc i = 10 := hk
          exact (by first | exact rr_10 (w := 0) (vs := []) hX hR hN hO hT hk4 hx hc hto hi hto3 hl1 hl2 hL.2.1 hL.1 hk1 hlv hlb hv hb kx | (rw [hk1] at kx; exact rr_10 (w := 0) (vs := []) hX hR hN hO hT hk4 hx hc hto hi hto3 hl1 hl2 hL.2.1 hL.1 hk1 hlv hlb hv hb kx))
        · have hk1 : oc i = 11 := hk
          exact (by first | exact rr_11 (w := 0) (vs := []) hX hR hN hO hT hk4 hx hc hto hi hto3 hl1 hl2 hL.2.1 hL.1 hk1 hlv hlb hv hb kx | (rw [hk1] at kx; exact rr_11 (w := 0) (vs := []) hX hR hN hO hT hk4 hx hc hto hi hto3 hl1 hl2 hL.2.1 hL.1 hk1 hlv hlb hv hb kx))
        · have hk1 : oc i = 12 := hk
          exact (by first | exact rr_12 (w := 0) (vs := []) hX hR hN hO hT hk4 hx hc hto hi hto3 hl1 hl2 hL.2.1 hL.1 hk1 hlv hlb hv hb kx | (rw [hk1] at kx; exact rr_12 (w := 0) (vs := []) hX hR hN hO hT hk4 hx hc hto hi hto3 hl1 hl2 hL.2.1 hL.1 hk1 hlv hlb hv hb kx))
        · have hk1 : oc i = 13 := hk
          exact (by first | exact rr_13 (w := 0) (vs := []) hX hR hN hO hT hk4 hx hc hto hi hto3 hl1 hl2 hL.2.1 hL.1 hk1 hlv hlb hv hb kx | (rw [hk1] at kx; exact rr_13 (w := 0) (vs := []) hX hR hN hO hT hk4 hx hc hto hi hto3 hl1 hl2 hL.2.1 hL.1 hk1 hlv hlb hv hb kx))
        · have hk1 : oc i = 14 := hk
          exact (by first | exact rr_14 (w := 0) (vs := []) hX hR hN hO hT hk4 hx hc hto hi hto3 hl1 hl2 hL.2.1 hL.1 hk1 hlv hlb hv hb kx | (rw [hk1] at kx; exact rr_14 (w := 0) (vs := []) hX hR hN hO hT hk4 hx hc hto hi hto3 hl1 hl2 hL.2.1 hL.1 hk1 hlv hlb hv hb kx))
        · have hk1 : oc i = 15 := hk
          exact (by first | exact rr_15 (w := 0) (vs := []) hX hR hN hO hT hk4 hx hc hto hi hto3 hl1 hl2 hL.2.1 hL.1 hk1 hlv hlb hv hb kx | (rw [hk1] at kx; exact rr_15 (w := 0) (vs := []) hX hR hN hO hT hk4 hx hc hto hi hto3 hl1 hl2 hL.2.1 hL.1 hk1 hlv hlb hv hb kx))
  rw [if_neg hk] at h
  clear hk
  by_cases hk : oc i = 20
  · rw [if_pos hk] at h
    cases bs with
    | nil => cases h
    | cons f u =>
      obtain ⟨rfl, rfl⟩ := some_in2 h
      exact rr_20 (w := 0) (bs := []) hX hR hN hO hT hk4 hx hc hto hi hto3 hl1 hl2 hk hlv hlb hv hb kx
  rw [if_neg hk] at h
  clear hk
  by_cases hk : oc i = 21
  · rw [if_pos hk] at h
    cases bs with
    | nil => cases h
    | cons f w0 =>
      cases w0 with
      | nil => cases h
      | cons d u =>
        obtain ⟨rfl, rfl⟩ := some_in2 h
        exact rr_21 (w := 0) (bs := []) hX hR hN hO hT hk4 hx hc hto hi hto3 hl1 hl2 hk hlv hlb hv hb kx
  rw [if_neg hk] at h
  clear hk
  by_cases hk : oc i = 22
  · rw [if_pos hk] at h
    cases bs with
    | nil => cases h
    | cons f w0 =>
      cases w0 with
      | nil => cases h
      | cons d u =>
        obtain ⟨rfl, rfl⟩ := some_in2 h
        exact rr_22 (w := 0) (bs := []) hX hR hN hO hT hk4 hx hc hto hi hto3 hl1 hl2 hk hlv hlb hv hb kx
  rw [if_neg hk] at h
  clear hk
  cases h
theorem rr_steps {X : Mem} {e : Env} {oc vc : Nat → Nat} {Q : Option Value → Mem → Prop} {t k x c to : Nat} (hX : Ok X) (hR : RE X e) (hN : NMv X e) (hO : okE e) (hT : TRw X t oc vc) (hk4 : k < 24) (hx : x = 681 * t + 1 + 3 * k) (hc : c = 681 * t + 73) (hto : (X.2.1 251).getD (x + 2) 0 = nI to) (hto3 : to ≤ 300) {v' : List Int} {b' : List Bool} (kx : ∀ (l1 : List Int64) (l2 : List Int32) (z8 z9 : Option Value), l1.length = 330 → l2.length = 330 → stkW v' l1 → okV v' → JM 2 m_R_summedUp Q 38 [some (.ref 244), some (.int (nI t)), some (.int (nI k)), some (.int (nI x)), some (.int (nI c)), some (.int (nI (List.length v'))), some (.int (nI (List.length b'))), some (.int (nI to)), z8, z9] [] (rk2 X l1 l2)) : ∀ (m i : Nat) (vs : List Int) (bs : List Bool) (l1 : List Int64) (l2 : List Int32) (z8 z9 : Option Value), i + m = to → stepsR e oc vc m i vs bs = some (v', b') → l1.length = 330 → l2.length = 330 → okV vs → vs.length ≤ i → bs.length ≤ i → stkW vs l1 → stkB bs l2 → JM 2 m_R_summedUp Q 38 [some (.ref 244), some (.int (nI t)), some (.int (nI k)), some (.int (nI x)), some (.int (nI c)), some (.int (nI (List.length vs))), some (.int (nI (List.length bs))), some (.int (nI i)), z8, z9] [] (rk2 X l1 l2) := by
  intro m
  induction m with
  | zero =>
    intro i vs bs l1 l2 z8 z9 hi h hl1 hl2 hL hlv hlb hv hb
    obtain ⟨rfl, rfl⟩ := some_in2 h
    obtain rfl : i = to := by omega
    exact kx l1 l2 z8 z9 hl1 hl2 hv hL
  | succ m ih =>
    intro i vs bs l1 l2 z8 z9 hi h hl1 hl2 hL hlv hlb hv hb
    rw [stepsR] at h
    cases e1 : stepR e (oc i) (vc i) vs bs with
    | none => rw [e1] at h; cases h
    | some y =>
      obtain ⟨v1, b1⟩ := y
      rw [e1] at h
      obtain ⟨f1, f2, f3⟩ := stepR_f (i := i) hO e1
      exact rr_step hX hR hN hO hT hk4 hx hc hto (by omega) hto3 hl1 hl2 e1 hL hlv hlb hv hb (fun l1 l2 z8 z9 hl1 hl2 hv hb => ih (i + 1) v1 b1 l1 l2 z8 z9 (by omega) h hl1 hl2 (f1 hL) (f2 hlv) (f3 hlb) hv hb)
theorem S_R_summedUp {X : Mem} {e : Env} {oc vc : Nat → Nat} {t k fm to : Nat} {v : Int} (hX : Ok X) (hR : RE X e) (hN : NMv X e) (hO : okE e) (hT : TRw X t oc vc) (hk4 : k < 24) (hfm : (X.2.1 251).getD (681 * t + 1 + 3 * k + 1) 0 = nI fm) (hto : (X.2.1 251).getD (681 * t + 1 + 3 * k + 2) 0 = nI to) (hft : fm ≤ to) (hto3 : to ≤ 300) (hs : stepsR e oc vc (to - fm) fm [] [] = some ([v], [])) : CM 2 m_R_summedUp [.ref 244, .int (nI t), .int (nI k)] X (fun r Y => r = some (.long (lI v)) ∧ ∃ l1 l2, l1.length = 330 ∧ l2.length = 330 ∧ Y = rk2 X l1 l2) := by
  have ht4 := hT.1
  refine CM_of (L := [some (.ref 244), some (.int (nI t)), some (.int (nI k)), none, none, none, none, none, none, none]) 7 ok_R_summedUp (fun _ => Nat.le_of_ble_eq_true rfl) rfl ?_
  refine J_sipush (v := nI 681) d_R_summedUp_0 rfl ?_
  refine J_iload_n (i := 1) d_R_summedUp_3 rfl rfl ?_
  refine N_imul d_R_summedUp_4 ?_
  refine J_iconst (v := nI 1) d_R_summedUp_5 rfl ?_
  refine N_iadd d_R_summedUp_6 ?_
  refine J_iconst (v := nI 3) d_R_summedUp_7 rfl ?_
  refine J_iload_n (i := 2) d_R_summedUp_8 rfl rfl ?_
  refine N_imul d_R_summedUp_9 ?_
  refine N_iadd d_R_summedUp_10 ?_
  refine N_nm (fun v11 hv11 => ?_)
  refine J_istore_n (i := 3) (L1 := [some (.ref 244), some (.int (nI t)), some (.int (nI k)), some (.int (nI v11)), none, none, none, none, none, none]) d_R_summedUp_11 rfl (by decide) rfl ?_
  refine J_sipush (v := nI 681) d_R_summedUp_12 rfl ?_
  refine J_iload_n (i := 1) d_R_summedUp_15 rfl rfl ?_
  refine N_imul d_R_summedUp_16 ?_
  refine J_bipush (v := nI 73) d_R_summedUp_17 rfl ?_
  refine N_iadd d_R_summedUp_19 ?_
  refine N_nm (fun v20 hv20 => ?_)
  refine J_istore (L1 := [some (.ref 244), some (.int (nI t)), some (.int (nI k)), some (.int (nI v11)), some (.int (nI v20)), none, none, none, none, none]) d_R_summedUp_20 (by decide) rfl ?_
  refine J_iconst (v := nI 0) d_R_summedUp_22 rfl ?_
  refine J_istore (L1 := [some (.ref 244), some (.int (nI t)), some (.int (nI k)), some (.int (nI v11)), some (.int (nI v20)), some (.int (nI 0)), none, none, none, none]) d_R_summedUp_23 (by decide) rfl ?_
  refine J_iconst (v := nI 0) d_R_summedUp_25 rfl ?_
  refine J_istore (L1 := [some (.ref 244), some (.int (nI t)), some (.int (nI k)), some (.int (nI v11)), some (.int (nI v20)), some (.int (nI 0)), some (.int (nI 0)), none, none, none]) d_R_summedUp_26 (by decide) rfl ?_
  refine J_aload_n (i := 0) d_R_summedUp_28 rfl rfl ?_
  refine M_getR (b := 251) d_R_summedUp_29 f_R_28 rfl rfl rfl ?_
  refine J_iload_n (i := 3) d_R_summedUp_32 rfl rfl ?_
  refine J_iconst (v := nI 1) d_R_summedUp_33 rfl ?_
  refine N_iadd d_R_summedUp_34 ?_
  refine N_iald (x := (nI fm)) d_R_summedUp_35 rfl (by omega) (ltL hX (a := 251) (n := 2724) (by decide) rfl (by omega)) (by rw [hv11]; exact hfm) ?_
  refine J_istore (L1 := [some (.ref 244), some (.int (nI t)), some (.int (nI k)), some (.int (nI v11)), some (.int (nI v20)), some (.int (nI 0)), some (.int (nI 0)), some (.int (nI fm)), none, none]) d_R_summedUp_36 (by decide) rfl ?_
  refine (rr_steps (k := k) hX hR hN hO hT hk4 hv11 hv20 (by rw [hv11]; exact hto) hto3 (fun l1 l2 z8 z9 hl1 hl2 hv hL => ?_) (to - fm) fm [] [] (X.2.2.1 257) (X.2.1 258) _ _ (by omega) hs (by rw [hX.2.1 257]; rfl) (by rw [hX.1 258 (by decide)]; rfl) trivial (Nat.zero_le _) (Nat.zero_le _) trivial trivial).eq rfl rfl (congrArg hm (by rw [rk2, pL_eta, pA_eta]))
  refine J_iload d_R_summedUp_38 rfl ?_
  refine J_aload_n (i := 0) d_R_summedUp_40 rfl rfl ?_
  refine M_getR (b := 251) d_R_summedUp_41 f_R_28 rfl rfl rfl ?_
  refine J_iload_n (i := 3) d_R_summedUp_44 rfl rfl ?_
  refine J_iconst (v := nI 2) d_R_summedUp_45 rfl ?_
  refine N_iadd d_R_summedUp_46 ?_
  refine N_iald (x := (nI to)) d_R_summedUp_47 rfl (by omega) (ltL (okRk hX hl1 hl2) (a := 251) (n := 2724) (by decide) rfl (by omega)) (by rw [hv11]; exact hto) ?_
  refine N_icmp_ge (tgt := 355) d_R_summedUp_48 (by decide) (by omega) (by omega) (fun c48 => ?_) (fun c48 => absurd c48 (by omega))
  refine J_aload_n (i := 0) d_R_summedUp_355 rfl rfl ?_
  refine M_getR (b := 257) d_R_summedUp_356 f_R_53 rfl rfl rfl ?_
  refine J_iconst (v := nI 0) d_R_summedUp_359 rfl ?_
  refine N_lald (x := (lI v)) d_R_summedUp_360 rfl (by omega) (ltLL (okRk hX hl1 hl2) (a := 257) (n := 330) rfl (by omega)) (show l1.getD 0 0 = lI v from hv.1) ?_
  refine M_lr d_R_summedUp_361 rfl ?_
  exact ⟨rfl, l1, l2, hl1, hl2, rfl⟩

