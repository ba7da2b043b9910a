/-- the code of text t so far lies there, the last first -/
def EC (X : Mem) (t : Nat) : Kd → Prop
  | [] => True
  | p :: K => (X.2.1 251).getD (681 * t + 73 + 2 * K.length) 0 = nI p.1 ∧ ((X.2.1 251).getD (681 * t + 73 + 2 * K.length + 1) 0 = nI p.2 ∧ EC X t K)
def MSR (X : Mem) (t : Nat) (P : List Nat) (m : Nat) (K : Kd) : Prop := PiR X P ∧ (X.1 244 23 = nI m ∧ (X.1 244 18 = nI K.length ∧ (X.1 244 17 = nI (681 * t) ∧ EC X t K)))
/-- what the machine leaves as it was, c things written -/
def offM (t c : Nat) (X Y : Mem) : Prop := (∀ b k, ¬ (b = 244 ∧ (k = 18 ∨ k = 22 ∨ k = 23)) → Y.1 b k = X.1 b k) ∧ ((∀ b, b ≠ 251 → Y.2.1 b = X.2.1 b) ∧ (Y.2.2 = X.2.2 ∧ ∀ p, (p < 681 * t + 73 + 2 * c ∨ 681 * t + 681 ≤ p) → (Y.2.1 251).getD p 0 = (X.2.1 251).getD p 0))
theorem offM_0 (t c : Nat) (X : Mem) : offM t c X X := ⟨fun _ _ _ => rfl, fun _ _ => rfl, rfl, fun _ _ => rfl⟩
theorem offM_t {t c c2 : Nat} {X Y Z : Mem} (h1 : offM t c X Y) (h2 : offM t c2 Y Z) (hc : c ≤ c2) : offM t c X Z := ⟨fun b k q => (h2.1 b k q).trans (h1.1 b k q), fun b q => (h2.2.1 b q).trans (h1.2.1 b q), h2.2.2.1.trans h1.2.2.1, fun p q => (h2.2.2.2 p (by omega)).trans (h1.2.2.2 p q)⟩
theorem offM_F {t c k : Nat} {X : Mem} {v : Int32} (hk : k = 18 ∨ k = 22 ∨ k = 23) : offM t c X (pF X 244 k v) := ⟨fun b j q => pF_x (fun z => q ⟨z.1, by rw [z.2]; exact hk⟩), fun _ _ => rfl, rfl, fun _ _ => rfl⟩
theorem offM_E {t c : Nat} {X : Mem} {a v : Int32} (hc : c < 304) : offM t c X (emR X t c a v) := by
  refine ⟨fun b j q => pF_x (fun z => q ⟨z.1, Or.inl z.2⟩), fun b hb => if_neg hb, rfl, fun p hp => ?_⟩
  show ((pA X 251 _).2.1 251).getD p 0 = _
  rw [pA_at, set_ne (by omega), set_ne (by omega)]
theorem EC_e {X Y : Mem} {t : Nat} : ∀ {K : Kd}, (∀ p, p < 681 * t + 73 + 2 * K.length → (Y.2.1 251).getD p 0 = (X.2.1 251).getD p 0) → EC X t K → EC Y t K
  | [], _, _ => trivial
  | q :: K, h, ⟨h1, h2, h3⟩ => by
    have h : ∀ p, p < 681 * t + 73 + 2 * (K.length + 1) → (Y.2.1 251).getD p 0 = (X.2.1 251).getD p 0 := h
    exact ⟨(h _ (by omega)).trans h1, (h _ (by omega)).trans h2, EC_e (fun p hp => h p (by omega)) h3⟩
theorem EC_E {X : Mem} {t a v : Nat} {K : Kd} (hX : Ok X) (ht : t < 4) (hc : K.length < 304) (h : EC X t K) : EC (emR X t K.length (nI a) (nI v)) t ((a, v) :: K) := by
  have hl : (X.2.1 251).length = 2724 := hX.1 251 (by decide)
  have e : (emR X t K.length (nI a) (nI v)).2.1 251 = ((X.2.1 251).set (681 * t + 73 + 2 * K.length) (nI a)).set (681 * t + 73 + 2 * K.length + 1) (nI v) := pA_at
  refine ⟨?_, ?_, EC_e (fun p hp => (offM_E (a := nI a) (v := nI v) hc).2.2.2 p (Or.inl hp)) h⟩
  · rw [e, set_ne (by omega), set_eq (by omega)]
  · rw [e, set_eq (by rw [List.length_set]; omega)]
theorem emR_Ok {X : Mem} {t c : Nat} {a v : Int32} (hX : Ok X) : Ok (emR X t c a v) := okF (okA hX rfl (by rw [List.length_set, List.length_set]))
