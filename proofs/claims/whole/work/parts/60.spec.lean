section Spec
/-! WHAT A TEXT SAYS, as the class reads it; a fault is its place. -/
abbrev taT : Type := (Nat → Int32) × Nat × (Nat → Int32) × Nat × (Nat → Int32)
/-- table count, table names, tables, cell count, cells -/
abbrev liT : Type := Nat × (Nat → Int64) × (Nat → taT) × Nat × (Nat → ceT)
abbrev liT.tc (L : liT) : Nat := L.1
abbrev liT.tn (L : liT) : Nat → Int64 := L.2.1
abbrev liT.ts (L : liT) : Nat → taT := L.2.2.1
abbrev liT.cc (L : liT) : Nat := L.2.2.2.1
abbrev liT.cs (L : liT) : Nat → ceT := L.2.2.2.2
def upT {α : Type} (f : Nat → α) (k : Nat) (x : α) : Nat → α := fun j => if j = k then x else f j
theorem upT_s {α : Type} {f : Nat → α} {k : Nat} {x : α} : upT f k x k = x := if_pos rfl
theorem upT_n {α : Type} {f : Nat → α} {k j : Nat} {x : α} (h : j ≠ k) : upT f k x j = f j := if_neg h
theorem upT_u {α : Type} {f : Nat → α} {k : Nat} {x y : α} : upT (upT f k x) k y = upT f k y := by funext j; by_cases h : j = k <;> simp [upT, h]
theorem upT_id {α : Type} {f : Nat → α} {k : Nat} : upT f k (f k) = f := by funext j; by_cases h : j = k <;> simp [upT, h]
/-- and then -/
def bnd {α β : Type} (r : Except Nat α) (f : α → Except Nat β) : Except Nat β := match r with
  | .ok x => f x
  | .error s => .error s
def dmd {α : Type} (b : Prop) [Decidable b] (s : Nat) (r : Except Nat α) : Except Nat α := if b then r else .error s
/-- the words of a text: for each place where a word may begin its start, end, kind, name, number, and which text it is -/
abbrev tkT : Type := (Nat → Nat) × (Nat → Nat) × (Nat → Nat) × (Nat → Int64) × (Nat → Int32) × (Nat → Nat → Int32)
abbrev tkT.S (K : tkT) : Nat → Nat := K.1
abbrev tkT.E (K : tkT) : Nat → Nat := K.2.1
abbrev tkT.K (K : tkT) : Nat → Nat := K.2.2.1
abbrev tkT.N (K : tkT) : Nat → Int64 := K.2.2.2.1
abbrev tkT.V (K : tkT) : Nat → Int32 := K.2.2.2.2.1
abbrev tkT.W (K : tkT) : Nat → Nat → Int32 := K.2.2.2.2.2
def sS (T : Nat → Int32) (n q : Nat) : Nat := tkS T n q
def sE (T : Nat → Int32) (n q : Nat) : Nat := tkE T n (sS T n q)
def sK (T : Nat → Int32) (n q : Nat) : Nat := tkK T n (sS T n q) (sE T n q)
def sN (T : Nat → Int32) (n q : Nat) : Int64 := if sK T n q = 1 then nmW T (sS T n q) (sE T n q) else 0
def sV (T : Nat → Int32) (n q : Nat) : Int32 := numW T (sS T n q) (sE T n q)
def sW (T : Nat → Int32) (n q i : Nat) : Int32 := isW T (sS T n q) (sE T n q) i
def tkOf (T : Nat → Int32) (n : Nat) : tkT := (sS T n, sE T n, sK T n, sN T n, sV T n, sW T n)
variable (K : tkT)
def rSign (i q : Nat) : Except Nat Nat := dmd (¬ K.W q i = 0) (K.S q) (.ok (K.E q))
def rNum (q : Nat) : Except Nat (Int32 × Nat) := dmd (K.K q = 2) (K.S q) (.ok (K.V q, K.E q))
def rNums : Nat → Nat → (Nat → Int32) → Nat → Except Nat ((Nat → Int32) × Nat)
  | 0, _, f, q => .ok (f, q)
  | m + 1, i, f, q => bnd (rNum K q) (fun x => rNums m (i + 1) (upd f i x.1) x.2)
def rAx : Nat → Nat → (Nat → Int32) → Nat → Except Nat ((Nat → Int32) × Nat × Nat)
  | 0, k, f, q => .ok (f, k, q)
  | m + 1, k, f, q => if K.K q = 2 then dmd (k = 0 ∨ f (k - 1) < K.V q) (K.S q) (rAx m (k + 1) (upd f k (K.V q)) (K.E q)) else .ok (f, k, q)
def rAxis (f : Nat → Int32) (q : Nat) : Except Nat ((Nat → Int32) × Nat × Nat) := bnd (rAx K 4 0 f q) (fun x => dmd (0 < x.2.1) (K.S x.2.2) (.ok x))
def rTab (t : taT) (q : Nat) : Except Nat (taT × Nat) :=
  bnd (rSign K 1 q) (fun q1 => bnd (rAxis K t.1 q1) (fun x => bnd (rSign K 2 x.2.2) (fun q2 => bnd (rAxis K t.2.2.1 q2) (fun y => bnd (rSign K 2 y.2.2) (fun q3 => bnd (rNums K (x.2.1 * y.2.1) 0 t.2.2.2.2 q3) (fun v => bnd (rSign K 3 v.2) (fun q4 => .ok ((x.1, x.2.1, y.1, y.2.1, v.1), q4))))))))
def rTable (L : liT) (q : Nat) : Except Nat (liT × Nat) :=
  dmd (¬ K.N (K.E q) = 0 ∧ L.tc < 12) (K.S (K.E q)) (dmd (fnd L.tn (K.N (K.E q)) 0 L.tc = -1) (K.S (K.E q))
    (bnd (rTab K (L.ts L.tc) (K.E (K.E q))) (fun x => .ok ((L.tc + 1, uL L.tn L.tc (K.N (K.E q)), upT L.ts L.tc x.1, L.cc, L.cs), x.2))))
def rPin (c : ceT) (q : Nat) : Except Nat (ceT × Nat) :=
  dmd (¬ K.N q = 0 ∧ fnd c.pins (K.N q) 0 (c.i + c.o) = -1) (K.S q) (.ok ((c.nm, c.pl, uL c.pins (c.i + c.o) (K.N q), c.i, c.o, c.tr, c.am, c.tl, c.pw, c.pt, c.arcs, c.ac), K.E q))
def rInp (c : ceT) (q : Nat) : Except Nat (ceT × Nat) :=
  dmd (c.o = 0 ∧ c.pt = 0) (K.S q) (dmd (c.i < 6) (K.S (K.E q)) (bnd (rPin K c (K.E q)) (fun x => .ok ((x.1.nm, x.1.pl, x.1.pins, x.1.i + 1, x.1.o, x.1.tr, x.1.am, x.1.tl, x.1.pw, x.1.pt, x.1.arcs, x.1.ac), x.2))))
def rOutN (c : ceT) (q : Nat) : Except Nat (ceT × Nat) :=
  dmd (c.o < 3) (K.S (K.E q)) (bnd (rPin K c (K.E q)) (fun x => bnd (rSign K 9 x.2) (fun q2 => .ok (x.1, q2))))
/-- terms: how many are open, ors, xors, ands, turns -/
def tOpen (t : tSt) : tSt := (t.1 + 1, uL t.2.1 (t.1 + 1) 0, uL t.2.2.1 (t.1 + 1) 0, uL t.2.2.2.1 (t.1 + 1) (-1), uL t.2.2.2.2 (t.1 + 1) 0)
def tBegin (t : tSt) : tSt := (0, uL t.2.1 0 0, uL t.2.2.1 0 0, uL t.2.2.2.1 0 (-1), uL t.2.2.2.2 0 0)
def tTurn (t : tSt) : tSt := (t.1, t.2.1, t.2.2.1, t.2.2.2.1, uL t.2.2.2.2 t.1 (t.2.2.2.2 t.1 ^^^ -1))
def tPut (t : tSt) (v : Int64) : tSt := (t.1, t.2.1, t.2.2.1, uL t.2.2.2.1 t.1 (t.2.2.2.1 t.1 &&& (v ^^^ t.2.2.2.2 t.1)), uL t.2.2.2.2 t.1 0)
def tTot (t : tSt) : Int64 := t.2.1 t.1 ||| (t.2.2.1 t.1 ^^^ t.2.2.2.1 t.1)
def tClose (t : tSt) : tSt := tPut (t.1 - 1, t.2) (tTot t)
def tAnd (t : tSt) : tSt := (t.1, t.2.1, uL t.2.2.1 t.1 (t.2.2.1 t.1 ^^^ t.2.2.2.1 t.1), uL t.2.2.2.1 t.1 (-1), t.2.2.2.2)
def tXor (t : tSt) : tSt := (t.1, uL t.2.1 t.1 (t.2.1 t.1 ||| (t.2.2.1 t.1 ^^^ t.2.2.2.1 t.1)), uL t.2.2.1 t.1 0, uL t.2.2.2.1 t.1 (-1), t.2.2.2.2)
def rOpens : Nat → tSt → Nat → Except Nat (tSt × Nat)
  | 0, t, q => .ok (t, q)
  | m + 1, t, q => if ¬ K.W q 10 = 0 then rOpens m (tTurn t) (K.E q) else if ¬ K.W q 11 = 0 then dmd (t.1 < 16) (K.S q) (rOpens m (tOpen t) (K.E q)) else .ok (t, q)
def rPrim (c : ceT) (q : Nat) : Except Nat (Int64 × Nat) :=
  if K.K q = 1 then dmd (¬ fnd c.pins (K.N q) 0 c.i = -1) (K.S q) (.ok (xN (fnd c.pins (K.N q) 0 c.i).toNatClampNeg, K.E q))
  else dmd (¬ K.W q 13 = 0 ∨ ¬ K.W q 12 = 0) (K.S q) (.ok (if K.W q 12 = 0 then 0 else -1, K.E q))
def rCloses : Nat → tSt → Nat → tSt × Nat
  | 0, t, q => (t, q)
  | m + 1, t, q => if 0 < t.1 ∧ ¬ K.W q 14 = 0 then rCloses m (tClose t) (K.E q) else (t, q)
/-- an operator: whether there is more -/
def rOp (t : tSt) (q : Nat) : Int32 × tSt × Nat :=
  if ¬ K.W q 15 = 0 then (1, tXor t, K.E q) else if ¬ K.W q 16 = 0 then (1, tAnd t, K.E q) else if ¬ K.W q 17 = 0 then (1, t, K.E q) else (0, t, q)
def rFun (c : ceT) : Nat → tSt → Nat → Except Nat (tSt × Nat)
  | 0, t, q => .ok (t, q)
  | m + 1, t, q => bnd (rOpens K 1400 t q) (fun x => bnd (rPrim K c x.2) (fun v =>
      let y := rCloses K 1400 (tPut x.1 v.1) v.2
      let z := rOp K y.1 y.2
      if z.1 = 0 then .ok z.2 else rFun c m z.2.1 z.2.2))
def rFunction (c : ceT) (t : tSt) (q : Nat) : Except Nat (ceT × tSt × Nat) :=
  bnd (rFun K c 1400 (tBegin t) q) (fun x => dmd (x.1.1 = 0) (K.S x.2) (.ok ((c.nm, c.pl, c.pins, c.i, c.o + 1, uL c.tr c.o (wthn (tTot x.1) (nI (2 ^ c.i))), c.am, c.tl, c.pw, c.pt, c.arcs, c.ac), x.1, x.2)))
def rAmount (c : ceT) (k q : Nat) : Except Nat (ceT × Nat) :=
  dmd (c.tl k = 0) (K.S q) (bnd (rNum K (K.E q)) (fun x => .ok ((c.nm, c.pl, c.pins, c.i, c.o, c.tr, upd c.am k x.1, upd c.tl k 1, c.pw, c.pt, c.arcs, c.ac), x.2)))
def rPower (c : ceT) (q : Nat) : Except Nat (ceT × Nat) :=
  dmd (c.pt = 0) (K.S q) (bnd (rNums K (2 ^ c.i) 0 c.pw (K.E q)) (fun x => .ok ((c.nm, c.pl, c.pins, c.i, c.o, c.tr, c.am, c.tl, x.1, 1, c.arcs, c.ac), x.2)))
def sSe (q : Nat) : Int32 := if ¬ K.W q 22 = 0 then 1 else if ¬ K.W q 23 = 0 then -1 else 0
def rSense (q : Nat) : Except Nat (Int32 × Nat) := dmd (¬ sSe K q = 0 ∨ ¬ K.W q 24 = 0) (K.S q) (.ok (sSe K q, K.E q))
def rTak (L : liT) (q : Nat) : Except Nat (Int32 × Nat) := dmd (¬ fnd L.tn (K.N q) 0 L.tc = -1) (K.S q) (.ok (fnd L.tn (K.N q) 0 L.tc, K.E q))
def rArc (L : liT) (c : ceT) (q : Nat) : Except Nat (ceT × Nat) :=
  dmd (c.ac < 10) (K.S q)
    (dmd (¬ fnd c.pins (K.N (K.E q)) 0 c.i = -1) (K.S (K.E q))
      (dmd (0 ≤ fnd c.pins (K.N (K.E (K.E q))) 0 (c.i + c.o) - nI c.i ∧ hsA c.arcs (fnd c.pins (K.N (K.E q)) 0 c.i) (fnd c.pins (K.N (K.E (K.E q))) 0 (c.i + c.o) - nI c.i) c.ac 0 = 0) (K.S (K.E (K.E q)))
        (bnd (rSense K (K.E (K.E (K.E q)))) (fun x => bnd (rTak K L x.2) (fun y => bnd (rTak K L y.2) (fun z =>
          .ok ((c.nm, c.pl, c.pins, c.i, c.o, c.tr, c.am, c.tl, c.pw, c.pt, adA c.arcs c.ac (fnd c.pins (K.N (K.E q)) 0 c.i) (fnd c.pins (K.N (K.E (K.E q))) 0 (c.i + c.o) - nI c.i) x.1 y.1 z.1, c.ac + 1), z.2)))))))
def rItem (L : liT) (c : ceT) (t : tSt) (q : Nat) : Except Nat (ceT × tSt × Nat) :=
  if ¬ K.W q 7 = 0 then bnd (rInp K c q) (fun x => .ok (x.1, t, x.2))
  else if ¬ K.W q 8 = 0 then bnd (rOutN K c q) (fun x => rFunction K x.1 t x.2)
  else if ¬ K.W q 18 = 0 then bnd (rAmount K c 0 q) (fun x => .ok (x.1, t, x.2))
  else if ¬ K.W q 19 = 0 then bnd (rAmount K c 1 q) (fun x => .ok (x.1, t, x.2))
  else if ¬ K.W q 20 = 0 then bnd (rAmount K c 2 q) (fun x => .ok (x.1, t, x.2))
  else if ¬ K.W q 21 = 0 then bnd (rArc K L c q) (fun x => .ok (x.1, t, x.2))
  else dmd (¬ K.W q 25 = 0) (K.S q) (bnd (rPower K c q) (fun x => .ok (x.1, t, x.2)))
def rItems (L : liT) : Nat → ceT → tSt → Nat → Except Nat (ceT × tSt × Nat)
  | 0, c, t, q => .ok (c, t, q)
  | m + 1, c, t, q => if ¬ K.W q 6 = 0 then .ok (c, t, q) else bnd (rItem K L c t q) (fun x => bnd (rSign K 3 x.2.2) (fun q2 => rItems L m x.1 x.2.1 q2))
def cNew (c : ceT) (x : Int64) (s : Nat) : ceT := (x, nI s, c.pins, 0, 0, c.tr, z3 c.am, z3 c.tl, c.pw, 0, c.arcs, 0)
def rCell (L : liT) (t : tSt) (q : Nat) : Except Nat (liT × tSt × Nat) :=
  dmd (¬ K.N (K.E q) = 0 ∧ L.cc < 12) (K.S (K.E q)) (dmd (hsC (fun k => (L.cs k).nm) (K.N (K.E q)) L.cc 0 = 0) (K.S (K.E q))
    (bnd (rSign K 5 (K.E (K.E q))) (fun q2 =>
      bnd (rItems K L 1400 (cNew (L.cs L.cc) (K.N (K.E q)) (K.S (K.E q))) t q2) (fun x =>
        dmd (0 < x.1.o) (K.S x.2.2) (bnd (rSign K 6 x.2.2) (fun q3 => .ok ((L.tc, L.tn, L.ts, L.cc + 1, upT L.cs L.cc x.1), x.2.1, q3)))))))
def rText : Nat → liT → tSt → Nat → Except Nat (liT × tSt × Nat)
  | 0, L, t, q => .ok (L, t, q)
  | m + 1, L, t, q => if K.K q = 0 then .ok (L, t, q) else if ¬ K.W q 0 = 0 then bnd (rTable K L q) (fun x => rText m x.1 t x.2) else dmd (¬ K.W q 4 = 0) (K.S q) (bnd (rCell K L t q) (fun x => rText m x.1 x.2.1 x.2.2))
/-- the whole text, from a library that is cleared -/
def rAll (L : liT) (t : tSt) : Except Nat (liT × tSt × Nat) := rText K 1400 (0, L.tn, L.ts, 0, L.cs) t 0
end Spec
