theorem J_i2b {d : Nat} {M : MInfo} {fc fs : Nat} {Q : Option Value → MH → Prop} {pc : Nat} {L : MLoc} {st : List Value} {h : MH} {x v : Int32} (hd : decode M.2.1 pc = .ok (.i2b, 1)) (hv : x.toInt8.toInt32 = v) (k : J d M fc fs Q (pc + 1) L (.int v :: st) h) : J d M fc fs Q pc L (.int x :: st) h :=
  J_go (fun G p l e R s m args below meth c H locs cells slots QQ ls hC hl hR hS w => lv_i2b hC.1 hC.2.1 hd hv w) k
def isLt (c : Nat) : Bool := (decide (97 ≤ c) && decide (c ≤ 122)) || (decide (65 ≤ c) && decide (c ≤ 90))
def isDg (c : Nat) : Bool := decide (48 ≤ c) && decide (c ≤ 57)
def isBl (c : Nat) : Bool := decide (c = 32) || decide (c = 10)
def scn (P : Nat → Bool) (B : Nat → Nat) : Nat → Nat → Nat
  | 0, p => p
  | f + 1, p => if P (B p) then scn P B f (p + 1) else p
/-- the first place from p on that isn't so -/
def sc (P : Nat → Bool) (B : Nat → Nat) (p : Nat) : Nat := scn P B 301 p
theorem scn_f {P : Nat → Bool} {B : Nat → Nat} {m : Nat} (h : ∀ q, m ≤ q → P (B q) = false) : ∀ {f p : Nat}, m ≤ p + f → scn P B (f + 1) p = scn P B f p
  | 0, p, hp => by
    show (if P (B p) then scn P B 0 (p + 1) else p) = p
    rw [h p hp]
    rfl
  | f + 1, p, hp => by
    show (if P (B p) then scn P B (f + 1) (p + 1) else p) = (if P (B p) then scn P B f (p + 1) else p)
    rw [scn_f h (f := f) (p := p + 1) (by omega)]
theorem sc_t {P : Nat → Bool} {B : Nat → Nat} {m p : Nat} (h : ∀ q, m ≤ q → P (B q) = false) (hm : m ≤ 300) (hp : P (B p) = true) : sc P B p = sc P B (p + 1) := by
  show (if P (B p) then scn P B 300 (p + 1) else p) = scn P B 301 (p + 1)
  rw [hp, if_pos rfl]
  exact (scn_f h (f := 300) (p := p + 1) (by omega)).symm
theorem sc_f {P : Nat → Bool} {B : Nat → Nat} {p : Nat} (hp : P (B p) = false) : sc P B p = p := by
  show (if P (B p) then scn P B 300 (p + 1) else p) = p
  rw [hp]
  rfl
/-- by how far it is to m: a rule for what sc does -/
theorem sc_ind {P : Nat → Bool} {B : Nat → Nat} {m : Nat} (h : ∀ q, m ≤ q → P (B q) = false) (hm : m ≤ 300) (G : Nat → Nat → Prop) (h0 : ∀ p, P (B p) = false → G p p) (h1 : ∀ p, P (B p) = true → p < m → G (p + 1) (sc P B (p + 1)) → G p (sc P B (p + 1))) : ∀ (k p : Nat), m - p = k → G p (sc P B p) := by
  intro k
  induction k with
  | zero =>
    intro p hp
    have e := h p (by omega)
    rw [sc_f e]
    exact h0 p e
  | succ k ih =>
    intro p hp
    rcases Bool.eq_false_or_eq_true (P (B p)) with e | e
    · rw [sc_t h hm e]
      exact h1 p e (by omega) (ih (p + 1) (by omega))
    · rw [sc_f e]
      exact h0 p e
theorem sc_ge {P : Nat → Bool} {B : Nat → Nat} {m : Nat} (h : ∀ q, m ≤ q → P (B q) = false) (hm : m ≤ 300) (p : Nat) : p ≤ sc P B p := sc_ind h hm (fun p q => p ≤ q) (fun p _ => Nat.le_refl p) (fun p _ _ q => by omega) (m - p) p rfl
theorem sc_le {P : Nat → Bool} {B : Nat → Nat} {m : Nat} (h : ∀ q, m ≤ q → P (B q) = false) (hm : m ≤ 300) {p : Nat} (hp : p ≤ m) : sc P B p ≤ m := sc_ind h hm (fun p q => p ≤ m → q ≤ m) (fun p _ q => q) (fun p _ hp q _ => q (by omega)) (m - p) p rfl hp
theorem sc_P {P : Nat → Bool} {B : Nat → Nat} {m : Nat} (h : ∀ q, m ≤ q → P (B q) = false) (hm : m ≤ 300) (p : Nat) : P (B (sc P B p)) = false := sc_ind h hm (fun _ q => P (B q) = false) (fun p e => e) (fun p _ _ q => q) (m - p) p rfl
theorem sc_in {P : Nat → Bool} {B : Nat → Nat} {m : Nat} (h : ∀ q, m ≤ q → P (B q) = false) (hm : m ≤ 300) (p : Nat) : ∀ i, p ≤ i → i < sc P B p → P (B i) = true := sc_ind h hm (fun p q => ∀ i, p ≤ i → i < q → P (B i) = true) (fun p _ i h1 h2 => by omega) (fun p e _ q i h1 h2 => by
  by_cases c : i = p
  · rw [c]; exact e
  · exact q i (by omega) h2) (m - p) p rfl
/-- the bytes of a tape; 256: behind its end -/
def tB (tp : Nat → Int32) (m : Nat) : Nat → Nat := fun q => if q < m then tn (tp q) else 256
def lw (B : Nat → Nat) (q e : Nat) : List Nat := (List.range (e - q)).map (fun i => B (q + i))
def KW : List (List Nat) := [[119, 101, 97, 114, 115], [102, 101, 101], [100, 114, 97, 119], [97, 100, 100], [114, 117, 98], [114, 101, 110, 101, 119], [121, 101, 97, 114], [116, 111], [111, 102], [115, 116, 114, 111, 107, 101], [98, 97, 114], [112, 111, 115, 116], [102, 114, 97, 109, 101], [116, 117, 114, 110], [116, 105, 112], [119, 105, 116, 104], [108, 101, 115, 115], [115, 105, 122, 101], [104, 97, 115], [105, 102], [116, 104, 101, 110], [101, 108, 115, 101], [101, 110, 100], [111, 114], [97, 110, 100], [110, 111, 116], [110, 117, 109, 98, 101, 114], [115, 116, 114, 111, 107, 101, 115], [101, 110, 100, 115], [102, 117, 110, 100], [119, 104, 105, 99, 104], [112, 105, 101, 99, 101, 115]]
def kwf : List (List Nat) → Nat → List Nat → Nat
  | [], _, _ => 47
  | k :: ks, i, l => if l = k then i else kwf ks (i + 1) l
def sgK (c d : Nat) : Nat := if c = 60 then (if d = 61 then 43 else 32) else if c = 62 then (if d = 61 then 44 else 33) else if c = 61 then 34 else if c = 35 then 35 else if c = 43 then 36 else if c = 45 then 37 else if c = 42 then 38 else if c = 47 then 39 else if c = 40 then 40 else if c = 41 then 41 else if c = 59 then 42 else 47
def eL (B : Nat → Nat) (q : Nat) : Nat := sc isLt B q
def eD (B : Nat → Nat) (q : Nat) : Nat := sc isDg B q
/-- the kind of the token that begins at q, its end, its number -/
def kT (B : Nat → Nat) (q : Nat) : Nat := if B q = 256 then 46 else if isLt (B q) then kwf KW 0 (lw B q (eL B q)) else if isDg (B q) then 45 else sgK (B q) (B (q + 1))
def eN (B : Nat → Nat) (q : Nat) : Nat := if B q = 256 then q else if isLt (B q) then eL B q else if isDg (B q) then eD B q else if (B q = 60 ∨ B q = 62) ∧ B (q + 1) = 61 then q + 2 else q + 1
def dv (B : Nat → Nat) (q k : Nat) : Nat := itr (fun i v => min 10000 (v * 10 + B (q + i) - 48)) 0 k
def vC (B : Nat → Nat) (q : Nat) : Nat := dv B q (eD B q - q)
def sk (B : Nat → Nat) (p : Nat) : Nat := sc isBl B p
/-- where token j begins -/
def stT (B : Nat → Nat) : Nat → Nat
  | 0 => sk B 0
  | j + 1 => sk B (eN B (stT B j))
/-- a tape of m bytes -/
def okB (B : Nat → Nat) (m : Nat) : Prop := m ≤ 300 ∧ (∀ q, q < m → B q < 256) ∧ ∀ q, m ≤ q → B q = 256
theorem okB_L {B : Nat → Nat} {m : Nat} (h : okB B m) : ∀ q, m ≤ q → isLt (B q) = false := fun q hq => by rw [h.2.2 q hq]; rfl
theorem okB_D {B : Nat → Nat} {m : Nat} (h : okB B m) : ∀ q, m ≤ q → isDg (B q) = false := fun q hq => by rw [h.2.2 q hq]; rfl
theorem okB_B {B : Nat → Nat} {m : Nat} (h : okB B m) : ∀ q, m ≤ q → isBl (B q) = false := fun q hq => by rw [h.2.2 q hq]; rfl
theorem okB_1 {B : Nat → Nat} {m q : Nat} (h : okB B m) (hq : B q ≠ 256) : q < m := by
  rcases Nat.lt_or_ge q m with c | c
  · exact c
  · exact absurd (h.2.2 q c) hq
theorem okB_2 {B : Nat → Nat} {m q : Nat} (h : okB B m) (hq : q < m) : B q ≠ 256 := by have := h.2.1 q hq; omega
theorem okB_t {tp : Nat → Int32} {m : Nat} (hm : m ≤ 300) (h : ∀ i, i < 300 → inR (tp i) 255 = true) : okB (tB tp m) m := by
  refine ⟨hm, fun q hq => ?_, fun q hq => if_neg (by omega)⟩
  obtain ⟨j, hj, e⟩ := inR_n (h q (by omega)) (by decide)
  unfold tB
  rw [if_pos hq, e, tn_nI (by omega)]
  omega
theorem eN_lt {B : Nat → Nat} {m q : Nat} (h : okB B m) (hq : q < m) : q < eN B q ∧ eN B q ≤ m := by
  unfold eN
  rw [if_neg (okB_2 h hq)]
  split
  · rename_i e
    have h1 := sc_ge (okB_L h) h.1 (q + 1)
    have h2 := sc_le (okB_L h) h.1 (show q + 1 ≤ m by omega)
    unfold eL
    rw [sc_t (okB_L h) h.1 e]
    omega
  · split
    · rename_i e
      have h1 := sc_ge (okB_D h) h.1 (q + 1)
      have h2 := sc_le (okB_D h) h.1 (show q + 1 ≤ m by omega)
      unfold eD
      rw [sc_t (okB_D h) h.1 e]
      omega
    · split
      · rename_i e
        have := okB_1 h (show B (q + 1) ≠ 256 by omega)
        omega
      · omega
theorem eN_end {B : Nat → Nat} {m q : Nat} (h : okB B m) (hq : m ≤ q) : eN B q = q := by
  unfold eN
  rw [if_pos (h.2.2 q hq)]
theorem stT_le {B : Nat → Nat} {m : Nat} (h : okB B m) : ∀ j, stT B j ≤ m
  | 0 => sc_le (okB_B h) h.1 (Nat.zero_le _)
  | j + 1 => by
    have q := stT_le h j
    refine sc_le (okB_B h) h.1 ?_
    rcases Nat.lt_or_ge (stT B j) m with c | c
    · exact (eN_lt h c).2
    · rw [eN_end h c]; exact q
theorem stT_up {B : Nat → Nat} {m : Nat} (h : okB B m) (j : Nat) : stT B j ≤ stT B (j + 1) ∧ (stT B j < m → stT B j < stT B (j + 1)) := by
  have g := sc_ge (okB_B h) h.1 (eN B (stT B j))
  show stT B j ≤ sc isBl B (eN B (stT B j)) ∧ (stT B j < m → stT B j < sc isBl B (eN B (stT B j)))
  rcases Nat.lt_or_ge (stT B j) m with c | c
  · have := eN_lt h c
    omega
  · rw [eN_end h c] at g ⊢
    omega
theorem stT_ge {B : Nat → Nat} {m : Nat} (h : okB B m) : ∀ j, stT B j < m → j ≤ stT B j
  | 0, _ => Nat.zero_le _
  | j + 1, hj => by
    have u := stT_up h j
    have q := stT_ge h j (by omega)
    have := u.2 (by omega)
    omega
/-- behind m tokens the tape is at its end -/
theorem stT_end {B : Nat → Nat} {m j : Nat} (h : okB B m) (hj : m ≤ j) : stT B j = m := by
  have h1 := stT_le h j
  rcases Nat.lt_or_ge (stT B j) m with c | c
  · have := stT_ge h j c; omega
  · omega
theorem kT_end {B : Nat → Nat} {m q : Nat} (h : okB B m) (hq : m ≤ q) : kT B q = 46 := if_pos (h.2.2 q hq)
theorem kwf_le : ∀ (ks : List (List Nat)) (i : Nat) (l : List Nat), kwf ks i l = 47 ∨ kwf ks i l < i + ks.length
  | [], _, _ => Or.inl rfl
  | k :: ks, i, l => by
    unfold kwf
    split
    · right; show i < i + (ks.length + 1); omega
    · rcases kwf_le ks (i + 1) l with q | q
      · exact Or.inl q
      · right; show _ < i + (ks.length + 1); omega
theorem sgK_ne (c d : Nat) : sgK c d ≠ 46 ∧ sgK c d ≠ 45 ∧ sgK c d < 48 ∧ 32 ≤ sgK c d := by
  unfold sgK
  refine ⟨?_, ?_, ?_, ?_⟩ <;> (repeat' split) <;> decide
theorem kT_ne {B : Nat → Nat} {m q : Nat} (h : okB B m) (hq : q < m) : kT B q ≠ 46 := by
  unfold kT
  rw [if_neg (okB_2 h hq)]
  split
  · have := kwf_le KW 0 (lw B q (eL B q))
    have e : KW.length = 32 := by decide
    omega
  · split
    · decide
    · exact (sgK_ne _ _).1
theorem kT_lt (B : Nat → Nat) (q : Nat) : kT B q < 48 := by
  unfold kT
  split
  · decide
  · split
    · have := kwf_le KW 0 (lw B q (eL B q))
      have e : KW.length = 32 := by decide
      omega
    · split
      · decide
      · exact (sgK_ne _ _).2.2.1
theorem sk_nb {B : Nat → Nat} {m : Nat} (h : okB B m) (p : Nat) : isBl (B (sk B p)) = false := sc_P (okB_B h) h.1 p
theorem stT_nb {B : Nat → Nat} {m : Nat} (h : okB B m) : ∀ j, isBl (B (stT B j)) = false
  | 0 => sk_nb h 0
  | j + 1 => sk_nb h _
theorem dv_le (B : Nat → Nat) (q : Nat) : ∀ k, dv B q k ≤ 10000
  | 0 => Nat.zero_le _
  | k + 1 => Nat.min_le_left _ _
