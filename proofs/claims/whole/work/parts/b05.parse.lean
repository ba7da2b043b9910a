/-- tokens: of each its kind and its number -/
abbrev TS : Type := (Nat → Nat) × (Nat → Nat)
/-- what reading comes to: a fault and at which token, or the next token and what was read -/
abbrev PR (α : Type) : Type := Sum (Nat × Nat) (Nat × α)
def bnd {α β : Type} (r : PR α) (f : Nat → α → PR β) : PR β := match r with
  | .inl q => .inl q
  | .inr p => f p.1 p.2
abbrev SVl : Type := Env → Int
abbrev SBl : Type := Env → Bool
def pNum (T : TS) (lo hi j : Nat) : PR Nat := if T.1 j = 45 then (if T.2 j < lo ∨ hi < T.2 j then .inl (2, j) else .inr (j + 1, T.2 j)) else .inl (1, j)
def pExp (T : TS) (k j : Nat) : PR Nat := if T.1 j = k then .inr (j + 1, 0) else .inl (1, j)
def nameB (k : Nat) : Bool := decide (k = 6) || (decide (26 ≤ k) && decide (k ≤ 31))
def nmI (k : Nat) : Nat := if k = 6 then 0 else k - 25
def pName (T : TS) (w : Bool) (j : Nat) : PR SVl := if nameB (T.1 j) then (if (T.1 j = 30 ∧ w = false) ∨ (T.1 j = 31 ∧ w = true) then .inl (5, j) else .inr (j + 1, fun e => nmV e (nmI (T.1 j)))) else .inl (1, j)
def opnB (k : Nat) : Bool := decide (k = 40) || (decide (k = 37) || (decide (k = 17) || (decide (k = 18) || decide (k = 19))))
def un1 (k : Nat) (v : SVl) : SVl := fun e => if k = 37 then -(v e) else if k = 17 then szV e (v e) else hsV e (v e)
def pLoop {α : Type} (T : TS) (op : Nat → Bool) (one : Nat → PR α) (cmb : Nat → α → α → α) : Nat → Nat → α → PR α
  | 0, j, v => .inr (j, v)
  | f + 1, j, v => if op (T.1 j) then bnd (one (j + 1)) (fun j2 v2 => pLoop T op one cmb f j2 (cmb (T.1 j) v v2)) else .inr (j, v)
def mulB (k : Nat) : Bool := decide (k = 38) || decide (k = 39)
def addB (k : Nat) : Bool := decide (k = 36) || decide (k = 37)
def andB (k : Nat) : Bool := decide (k = 24)
def orB (k : Nat) : Bool := decide (k = 23)
def wlB (k : Nat) : Bool := decide (k = 15) || decide (k = 16)
def cmbA (k : Nat) (x y : SVl) : SVl := fun e => ar2 (k - 30) (x e) (y e)
def pProd (T : TS) (one : Nat → PR SVl) (j : Nat) : PR SVl := bnd (one j) (pLoop T mulB one cmbA 300)
def pSum (T : TS) (one : Nat → PR SVl) (j : Nat) : PR SVl := bnd (pProd T one j) (pLoop T addB (pProd T one) cmbA 300)
def cmpB (k : Nat) : Bool := (decide (32 ≤ k) && decide (k ≤ 35)) || (decide (k = 43) || decide (k = 44))
def cpK (k : Nat) : Nat := if k = 32 then 10 else if k = 43 then 11 else if k = 33 then 12 else if k = 44 then 13 else if k = 34 then 14 else 15
def pAskC (T : TS) (one : Nat → PR SVl) (j : Nat) : PR SBl := bnd (pSum T one j) (fun j2 v => if cmpB (T.1 j2) then bnd (pSum T one (j2 + 1)) (fun j3 v2 => .inr (j3, fun e => cp2 (cpK (T.1 j2)) (v e) (v2 e))) else .inl (1, j2))
def fAsk (T : TS) (one : Nat → PR SVl) (sub : Option (Nat → PR SBl)) (j : Nat) : PR SBl := if T.1 j = 25 then (match sub with
  | none => .inl (3, j)
  | some a => bnd (a (j + 1)) (fun j2 b => .inr (j2, fun e => !(b e)))) else pAskC T one j
def pBoth (T : TS) (ask : Nat → PR SBl) (j : Nat) : PR SBl := bnd (ask j) (pLoop T andB ask (fun _ a b => fun e => a e && b e) 300)
def pEith (T : TS) (ask : Nat → PR SBl) (j : Nat) : PR SBl := bnd (pBoth T ask j) (pLoop T orB (pBoth T ask) (fun _ a b => fun e => a e || b e) 300)
def pIf (T : TS) (one : Nat → PR SVl) (ask : Nat → PR SBl) (j : Nat) : PR SVl := bnd (pEith T ask j) (fun j1 b => bnd (pExp T 20 j1) (fun j2 _ => bnd (pSum T one j2) (fun j3 v1 => bnd (pExp T 21 j3) (fun j4 _ => bnd (pSum T one j4) (fun j5 v2 => bnd (pExp T 22 j5) (fun j6 _ => .inr (j6, fun e => if b e = true then v1 e else v2 e)))))))
def fOne (T : TS) (w : Bool) (sub : Option ((Nat → PR SVl) × (Nat → PR SBl))) (j : Nat) : PR SVl :=
  if T.1 j = 45 then bnd (pNum T 0 9999 j) (fun j2 x => .inr (j2, fun _ => (x : Int)))
  else if opnB (T.1 j) then (match sub with
    | none => .inl (3, j)
    | some s => if T.1 j = 40 then bnd (pSum T s.1 (j + 1)) (fun j2 v => bnd (pExp T 41 j2) (fun j3 _ => .inr (j3, v))) else if T.1 j = 19 then pIf T s.1 s.2 (j + 1) else bnd (s.1 (j + 1)) (fun j2 v => .inr (j2, un1 (T.1 j) v)))
  else pName T w j
/-- one and what is asked, where n more can be open -/
def lev (T : TS) (w : Bool) : Nat → (Nat → PR SVl) × (Nat → PR SBl)
  | 0 => (fOne T w none, fAsk T (fOne T w none) none)
  | n + 1 => (fOne T w (some (lev T w n)), fAsk T (fOne T w (some (lev T w n))) (some (lev T w n).2))
def pShape (T : TS) (one : Nat → PR Nat) (j : Nat) : PR Nat := bnd (one j) (pLoop T wlB one (fun k a b => if k = 15 then a ||| b else andn a b) 300)
def fPart (T : TS) (sub : Option (Nat → PR Nat)) (j : Nat) : PR Nat :=
  if T.1 j = 9 then bnd (pNum T 0 19 (j + 1)) (fun j2 x => .inr (j2, 1 <<< x))
  else if T.1 j = 10 then bnd (pNum T 0 2 (j + 1)) (fun j2 x => .inr (j2, 3 <<< (2 * x)))
  else if T.1 j = 11 then bnd (pNum T 0 2 (j + 1)) (fun j2 x => .inr (j2, 9 <<< (6 + x)))
  else if T.1 j = 12 then .inr (j + 1, 2931)
  else if T.1 j = 13 ∨ T.1 j = 14 ∨ T.1 j = 40 then (match sub with
    | none => .inl (3, j)
    | some s => if T.1 j = 40 then bnd (pShape T s (j + 1)) (fun j2 v => bnd (pExp T 41 j2) (fun j3 _ => .inr (j3, v))) else bnd (s (j + 1)) (fun j2 v => .inr (j2, mvs (if T.1 j = 13 then 1 else 4) v)))
  else .inl (1, j)
def levS (T : TS) : Nat → (Nat → PR Nat)
  | 0 => fPart T none
  | n + 1 => fPart T (some (levS T n))
def pDeed (T : TS) (vb j : Nat) : PR (Nat × Nat) :=
  if vb = 2 then bnd (pShape T (levS T 8) j) (fun j2 v => .inr (j2, (v, 0)))
  else if vb = 6 then bnd (pNum T 1 60 j) (fun j2 v => .inr (j2, (v, 0)))
  else if vb = 5 then bnd (pNum T 0 7 j) (fun j2 v => .inr (j2, (v, 0)))
  else bnd (pNum T 0 19 j) (fun j2 a => bnd (pExp T (if vb = 3 then 7 else 8) j2) (fun j3 _ => bnd (pNum T 0 7 j3) (fun j4 b => .inr (j4, (a, b)))))
def updN (f : Nat → Nat) (k v : Nat) : Nat → Nat := fun j => if j = k then v else f j
def addT (x : TX) (vb : Nat) (D : Option (Env → Int)) (a b : Nat) : TX := (if vb = 0 then D else x.1, (if vb = 1 then D else x.2.1, (x.2.2.1 + 1, (updN x.2.2.2.1 x.2.2.1 vb, (updN x.2.2.2.2.1 x.2.2.1 a, updN x.2.2.2.2.2 x.2.2.1 b)))))
def pBody (T : TS) (x : TX) (vb j : Nat) : PR TX := if vb ≤ 1 then bnd (pSum T (lev T (decide (vb = 0)) 8).1 j) (fun j2 v => .inr (j2, addT x vb (some v) 0 0)) else bnd (pDeed T vb j) (fun j2 p => .inr (j2, addT x vb none p.1 p.2))
def pClause (T : TS) (x : TX) (j : Nat) : PR TX :=
  if 6 < T.1 j then .inl (1, j)
  else if (T.1 j = 0 ∧ x.1.isSome = true) ∨ (T.1 j = 1 ∧ x.2.1.isSome = true) then .inl (4, j)
  else if 24 ≤ x.2.2.1 then .inl (6, j)
  else bnd (pBody T x (T.1 j) (j + 1)) (fun j2 y => bnd (pExp T 42 j2) (fun j3 _ => .inr (j3, y)))
def pText (T : TS) : Nat → Nat → TX → PR TX
  | 0, j, x => .inr (j, x)
  | f + 1, j, x => if T.1 j = 46 then .inr (j, x) else bnd (pClause T x j) (pText T f)
def x0 : TX := (none, (none, (0, (fun _ => 0, (fun _ => 0, fun _ => 0)))))
def tkT (B : Nat → Nat) : TS := (fun j => kT B (stT B j), fun j => vC B (stT B j))
