/-! the abstract machine over the 67 objects: one step, runs, and the rules of a run -/
abbrev Sg : Type := Nat → Nat → Int32
def up2 (σ : Sg) (k j : Nat) (v : Int32) : Sg := fun a b => if a = k ∧ b = j then v else σ a b
def upA (σ : Sg) (k : Nat) (f : Nat → Int32) : Sg := fun a => if a = k then f else σ a
def shp (k : Nat) : Nat × Nat × List (Option Nat) := shpT.getD k (9, 0, [])
def getf (k ci j : Nat) (σ : Sg) : Option Value := match shp k with
  | (0, c, fs) => if c = ci then (match fs[j]? with | some none => some (.int (σ k j)) | some (some r) => some (.ref r) | none => none) else none
  | _ => none
def canp (k ci j : Nat) : Bool := match shp k with
  | (0, c, fs) => c == ci && fs[j]? == some none
  | _ => false
def alen (k : Nat) : Nat := match shp k with
  | (1, n, _) => n
  | _ => 0
def rlen (k : Nat) : Option Nat := match shp k with
  | (0, _, _) => none
  | (9, _, _) => none
  | (_, n, _) => some n
def aref (k i : Nat) : Option Nat := match shp k with
  | (2, n, rs) => if i < n then rs.getD i none else none
  | (3, n, rs) => if i < n then rs.getD i none else none
  | (4, n, rs) => if i < n then rs.getD i none else none
  | _ => none
def cls (k : Nat) : Nat := match shp k with
  | (0, c, _) => c
  | _ => 99
def pushv : Value → List Value → List Value
  | .null, s => s
  | v, s => v :: s
def nn : Value → Bool
  | .null => false
  | _ => true
def c1 : Value → Bool
  | .int _ => true
  | .ref _ => true
  | _ => false
def tg : Value → Int32 → Bool
  | .int _, k => k == 0
  | .ref _, k => k == 1
  | .long _, k => k == 2
  | _, _ => false
def imax (x z : Int32) : Int32 := if x < z then z else x
def imin (x z : Int32) : Int32 := if z < x then z else x
def iabs (x : Int32) : Int32 := if 0 ≤ x then x else 0 - x
def rsum (s : List Value) : Nat := (s.map fun v => v.category).sum
def pad (n : Nat) (as : List Value) : List Value := as ++ List.replicate (n - as.length) .null
def rcv (a : Nat) (as : List Value) : Bool := mS a || (match as with
  | .ref k :: _ => cls k == mC a
  | _ => false)
/-- a local may be overwritten by a value of one slot: the one below it isn't a long -/
def low1 (L : List Value) (a : Nat) : Bool := match a with
  | 0 => true
  | a + 1 => match L[a]? with
    | some (.long _) => false
    | some (.double _) => false
    | _ => true
abbrev Rs : Type := (List Ins × List Value × List Value × Sg) ⊕ ((Nat × List Value × List Ins × List Value × List Value) ⊕ Value)
def go (r : List Ins) (L s : List Value) (σ : Sg) : Option Rs := some (.inl (r, L, s, σ))
def brk (y a : Nat) (r : List Ins) (L s : List Value) (σ : Sg) (c : Prop) [Decidable c] : Option Rs := if c then go (blk y a) L s σ else go r L s σ
def tsw (x : Int32) (d : Nat) : Int32 → List Nat → Nat
  | _, [] => d
  | c, b :: t => if x = c then b else tsw x d (c + 1) t
def lsw (x : Int32) (d : Nat) : List Nat → Nat
  | k :: b :: t => if x = nI k then b else lsw x d t
  | _ => d
def h0 (y a : Nat) (k0 : Int32) (t : List Nat) (r : List Ins) (L s : List Value) (σ : Sg) : Option Rs := go r L (.int k0 :: s) σ
def h1 (y a : Nat) (k0 : Int32) (t : List Nat) (r : List Ins) (L s : List Value) (σ : Sg) : Option Rs := match L[a]? with
      | some v => if tg v k0 then go r L (v :: s) σ else none
      | none => none
def h2 (y a : Nat) (k0 : Int32) (t : List Nat) (r : List Ins) (L s : List Value) (σ : Sg) : Option Rs := match s with
  | v :: s => if tg v k0 && c1 v && low1 L a && decide (a < L.length) then go r (L.set a v) s σ else none
  | _ => none
def h3 (y a : Nat) (k0 : Int32) (t : List Nat) (r : List Ins) (L s : List Value) (σ : Sg) : Option Rs := match s with
  | .long x :: s => if low1 L a && decide (a + 1 < L.length) then go r ((L.set a (.long x)).set (a + 1) .null) s σ else none
  | _ => none
def h4 (y a : Nat) (k0 : Int32) (t : List Nat) (r : List Ins) (L s : List Value) (σ : Sg) : Option Rs := match L[a]? with
      | some (.int x) => if low1 L a then go r (L.set a (.int (x + k0))) s σ else none
      | _ => none
def h5 (y a : Nat) (k0 : Int32) (t : List Nat) (r : List Ins) (L s : List Value) (σ : Sg) : Option Rs := match s with
  | .int y :: .int x :: s => go r L (.int (x + y) :: s) σ
  | _ => none
def h6 (y a : Nat) (k0 : Int32) (t : List Nat) (r : List Ins) (L s : List Value) (σ : Sg) : Option Rs := match s with
  | .int y :: .int x :: s => go r L (.int (x - y) :: s) σ
  | _ => none
def h7 (y a : Nat) (k0 : Int32) (t : List Nat) (r : List Ins) (L s : List Value) (σ : Sg) : Option Rs := match s with
  | .int y :: .int x :: s => go r L (.int (x * y) :: s) σ
  | _ => none
def h8 (y a : Nat) (k0 : Int32) (t : List Nat) (r : List Ins) (L s : List Value) (σ : Sg) : Option Rs := match s with
  | .int y :: .int x :: s => go r L (.int (x &&& y) :: s) σ
  | _ => none
def h9 (y a : Nat) (k0 : Int32) (t : List Nat) (r : List Ins) (L s : List Value) (σ : Sg) : Option Rs := match s with
  | .int y :: .int x :: s => go r L (.int (x ||| y) :: s) σ
  | _ => none
def h10 (y a : Nat) (k0 : Int32) (t : List Nat) (r : List Ins) (L s : List Value) (σ : Sg) : Option Rs := match s with
  | .int y :: .int x :: s => go r L (.int (x ^^^ y) :: s) σ
  | _ => none
def h11 (y a : Nat) (k0 : Int32) (t : List Nat) (r : List Ins) (L s : List Value) (σ : Sg) : Option Rs := match s with
  | .int y :: .int x :: s => go r L (.int (x <<< (y &&& 31)) :: s) σ
  | _ => none
def h12 (y a : Nat) (k0 : Int32) (t : List Nat) (r : List Ins) (L s : List Value) (σ : Sg) : Option Rs := match s with
  | .int y :: .int x :: s => go r L (.int (x >>> (y &&& 31)) :: s) σ
  | _ => none
def h13 (y a : Nat) (k0 : Int32) (t : List Nat) (r : List Ins) (L s : List Value) (σ : Sg) : Option Rs := match s with
  | .int y :: .int x :: s => go r L (.int ((x.toUInt32 >>> (y.toUInt32 &&& Int32.toUInt32 31)).toInt32) :: s) σ
  | _ => none
def h14 (y a : Nat) (k0 : Int32) (t : List Nat) (r : List Ins) (L s : List Value) (σ : Sg) : Option Rs := match s with
  | .int y :: .int x :: s => if y = 0 then none else go r L (.int (x / y) :: s) σ
  | _ => none
def h15 (y a : Nat) (k0 : Int32) (t : List Nat) (r : List Ins) (L s : List Value) (σ : Sg) : Option Rs := match s with
  | .int y :: .int x :: s => if y = 0 then none else go r L (.int (x - x / y * y) :: s) σ
  | _ => none
def h16 (y a : Nat) (k0 : Int32) (t : List Nat) (r : List Ins) (L s : List Value) (σ : Sg) : Option Rs := match s with
  | .int x :: s => go r L (.int (-x) :: s) σ
  | _ => none
def h17 (y a : Nat) (k0 : Int32) (t : List Nat) (r : List Ins) (L s : List Value) (σ : Sg) : Option Rs := match s with
  | .int x :: s => go r L (.int x.toInt8.toInt32 :: s) σ
  | _ => none
def h18 (y a : Nat) (k0 : Int32) (t : List Nat) (r : List Ins) (L s : List Value) (σ : Sg) : Option Rs := match s with
  | .int x :: s => go r L (.int x.toInt16.toInt32 :: s) σ
  | _ => none
def h19 (y a : Nat) (k0 : Int32) (t : List Nat) (r : List Ins) (L s : List Value) (σ : Sg) : Option Rs := match s with
  | .int x :: s => go r L (.long x.toInt64 :: s) σ
  | _ => none
def h20 (y a : Nat) (k0 : Int32) (t : List Nat) (r : List Ins) (L s : List Value) (σ : Sg) : Option Rs := match s with
  | .long y :: .long x :: s => go r L (.long (x + y) :: s) σ
  | _ => none
def h21 (y a : Nat) (k0 : Int32) (t : List Nat) (r : List Ins) (L s : List Value) (σ : Sg) : Option Rs := match s with
  | .long y :: .long x :: s => go r L (.long (x * y) :: s) σ
  | _ => none
def h22 (y a : Nat) (k0 : Int32) (t : List Nat) (r : List Ins) (L s : List Value) (σ : Sg) : Option Rs := match s with
  | .long y :: .long x :: s => go r L (.int (lg_cmp x y) :: s) σ
  | _ => none
def h23 (y a : Nat) (k0 : Int32) (t : List Nat) (r : List Ins) (L s : List Value) (σ : Sg) : Option Rs := go r L (.long k0.toInt64 :: s) σ
def h24 (y a : Nat) (k0 : Int32) (t : List Nat) (r : List Ins) (L s : List Value) (σ : Sg) : Option Rs := match s with
  | v :: s => if c1 v then go r L (v :: v :: s) σ else none
  | _ => none
def h25 (y a : Nat) (k0 : Int32) (t : List Nat) (r : List Ins) (L s : List Value) (σ : Sg) : Option Rs := match s with
  | v :: w :: s => if c1 v && c1 w then go r L (v :: w :: v :: w :: s) σ else none
  | _ => none
def h26 (y a : Nat) (k0 : Int32) (t : List Nat) (r : List Ins) (L s : List Value) (σ : Sg) : Option Rs := match s with
  | v :: s => if c1 v then go r L s σ else none
  | _ => none
def h27 (y a : Nat) (k0 : Int32) (t : List Nat) (r : List Ins) (L s : List Value) (σ : Sg) : Option Rs := match s with
  | .int z :: .int x :: s => if rsum s ≤ 8 then go r L (.int (imax x z) :: s) σ else none
  | _ => none
def h28 (y a : Nat) (k0 : Int32) (t : List Nat) (r : List Ins) (L s : List Value) (σ : Sg) : Option Rs := match s with
  | .int z :: .int x :: s => if rsum s ≤ 8 then go r L (.int (imin x z) :: s) σ else none
  | _ => none
def h29 (y a : Nat) (k0 : Int32) (t : List Nat) (r : List Ins) (L s : List Value) (σ : Sg) : Option Rs := match s with
  | .int x :: s => if rsum s ≤ 8 then go r L (.int (iabs x) :: s) σ else none
  | _ => none
def h30 (y a : Nat) (k0 : Int32) (t : List Nat) (r : List Ins) (L s : List Value) (σ : Sg) : Option Rs := match s with
  | .int x :: s => brk y a r L s σ (x = 0)
  | _ => none
def h31 (y a : Nat) (k0 : Int32) (t : List Nat) (r : List Ins) (L s : List Value) (σ : Sg) : Option Rs := match s with
  | .int x :: s => brk y a r L s σ (¬ x = 0)
  | _ => none
def h32 (y a : Nat) (k0 : Int32) (t : List Nat) (r : List Ins) (L s : List Value) (σ : Sg) : Option Rs := match s with
  | .int x :: s => brk y a r L s σ (x < 0)
  | _ => none
def h33 (y a : Nat) (k0 : Int32) (t : List Nat) (r : List Ins) (L s : List Value) (σ : Sg) : Option Rs := match s with
  | .int x :: s => brk y a r L s σ (0 ≤ x)
  | _ => none
def h34 (y a : Nat) (k0 : Int32) (t : List Nat) (r : List Ins) (L s : List Value) (σ : Sg) : Option Rs := match s with
  | .int x :: s => brk y a r L s σ (0 < x)
  | _ => none
def h35 (y a : Nat) (k0 : Int32) (t : List Nat) (r : List Ins) (L s : List Value) (σ : Sg) : Option Rs := match s with
  | .int x :: s => brk y a r L s σ (x ≤ 0)
  | _ => none
def h36 (y a : Nat) (k0 : Int32) (t : List Nat) (r : List Ins) (L s : List Value) (σ : Sg) : Option Rs := match s with
  | .int b :: .int x :: s => brk y a r L s σ (x = b)
  | _ => none
def h37 (y a : Nat) (k0 : Int32) (t : List Nat) (r : List Ins) (L s : List Value) (σ : Sg) : Option Rs := match s with
  | .int b :: .int x :: s => brk y a r L s σ (¬ x = b)
  | _ => none
def h38 (y a : Nat) (k0 : Int32) (t : List Nat) (r : List Ins) (L s : List Value) (σ : Sg) : Option Rs := match s with
  | .int b :: .int x :: s => brk y a r L s σ (x < b)
  | _ => none
def h39 (y a : Nat) (k0 : Int32) (t : List Nat) (r : List Ins) (L s : List Value) (σ : Sg) : Option Rs := match s with
  | .int b :: .int x :: s => brk y a r L s σ (b ≤ x)
  | _ => none
def h40 (y a : Nat) (k0 : Int32) (t : List Nat) (r : List Ins) (L s : List Value) (σ : Sg) : Option Rs := match s with
  | .int b :: .int x :: s => brk y a r L s σ (b < x)
  | _ => none
def h41 (y a : Nat) (k0 : Int32) (t : List Nat) (r : List Ins) (L s : List Value) (σ : Sg) : Option Rs := match s with
  | .int b :: .int x :: s => brk y a r L s σ (x ≤ b)
  | _ => none
def h42 (y a : Nat) (k0 : Int32) (t : List Nat) (r : List Ins) (L s : List Value) (σ : Sg) : Option Rs := go (blk y a) L s σ
def h43 (y a : Nat) (k0 : Int32) (t : List Nat) (r : List Ins) (L s : List Value) (σ : Sg) : Option Rs := go (blk y a) L s σ
def h44 (y a : Nat) (k0 : Int32) (t : List Nat) (r : List Ins) (L s : List Value) (σ : Sg) : Option Rs := match s with
  | .int x :: s => go (blk y (tsw x a k0 t)) L s σ
  | _ => none
def h45 (y a : Nat) (k0 : Int32) (t : List Nat) (r : List Ins) (L s : List Value) (σ : Sg) : Option Rs := match s with
  | .int x :: s => go (blk y (lsw x a t)) L s σ
  | _ => none
def h46 (y a : Nat) (k0 : Int32) (t : List Nat) (r : List Ins) (L s : List Value) (σ : Sg) : Option Rs := match s with
  | .ref k :: s => match getf k (t.headD 99) a σ with
      | some v => go r L (v :: s) σ
      | none => none
  | _ => none
def h47 (y a : Nat) (k0 : Int32) (t : List Nat) (r : List Ins) (L s : List Value) (σ : Sg) : Option Rs := match s with
  | .int x :: .ref k :: s => if canp k (t.headD 99) a then go r L s (up2 σ k a x) else none
  | _ => none
def h48 (y a : Nat) (k0 : Int32) (t : List Nat) (r : List Ins) (L s : List Value) (σ : Sg) : Option Rs := match s with
  | .int x :: .ref k :: s => if canp k (t.headD 99) a && (x == 0 || x == 1) then go r L s (up2 σ k a x) else none
  | _ => none
def h49 (y a : Nat) (k0 : Int32) (t : List Nat) (r : List Ins) (L s : List Value) (σ : Sg) : Option Rs := match s with
  | .int j :: .ref k :: s => if j < 0 ∨ alen k ≤ j.toNatClampNeg then none else go r L (.int (σ k j.toNatClampNeg) :: s) σ
  | _ => none
def h50 (y a : Nat) (k0 : Int32) (t : List Nat) (r : List Ins) (L s : List Value) (σ : Sg) : Option Rs := match s with
  | .int x :: .int j :: .ref k :: s => if j < 0 ∨ alen k ≤ j.toNatClampNeg then none else go r L s (up2 σ k j.toNatClampNeg x)
  | _ => none
def h51 (y a : Nat) (k0 : Int32) (t : List Nat) (r : List Ins) (L s : List Value) (σ : Sg) : Option Rs := match s with
  | .int j :: .ref k :: s => if j < 0 then none else match aref k j.toNatClampNeg with
      | some q => go r L (.ref q :: s) σ
      | none => none
  | _ => none
def h52 (y a : Nat) (k0 : Int32) (t : List Nat) (r : List Ins) (L s : List Value) (σ : Sg) : Option Rs := match s with
  | .ref k :: s => match rlen k with
      | some n => go r L (.int (nI n) :: s) σ
      | none => none
  | _ => none
def h53 (y a : Nat) (k0 : Int32) (t : List Nat) (r : List Ins) (L s : List Value) (σ : Sg) : Option Rs := go r L (.ref (100 + a) :: s) σ
def h54 (y a : Nat) (k0 : Int32) (t : List Nat) (r : List Ins) (L s : List Value) (σ : Sg) : Option Rs := if decide (t.headD 0 ≤ s.length) && rcv a (s.take (t.headD 0)).reverse && (s.take (t.headD 0)).all c1 && decide (rsum (s.drop (t.headD 0)) ≤ 8) then some (.inr (.inl (a, (s.take (t.headD 0)).reverse, r, L, s.drop (t.headD 0)))) else none
def h55 (y a : Nat) (k0 : Int32) (t : List Nat) (r : List Ins) (L s : List Value) (σ : Sg) : Option Rs := match s with
  | .ref k :: s => if 100 ≤ k ∧ k < 116 ∧ rsum s ≤ 8 then go r L (.int (nI (slen.getD (k - 100) 0)) :: s) σ else none
  | _ => none
def h56 (y a : Nat) (k0 : Int32) (t : List Nat) (r : List Ins) (L s : List Value) (σ : Sg) : Option Rs := match s with
  | .int j :: .ref k :: s => if 100 ≤ k ∧ k < 116 ∧ ¬ (j < 0 ∨ slen.getD (k - 100) 0 ≤ j.toNatClampNeg) ∧ rsum s ≤ 8 then go r L (.int ((sbyt.getD (k - 100) []).getD j.toNatClampNeg 0) :: s) σ else none
  | _ => none
def h57 (y a : Nat) (k0 : Int32) (t : List Nat) (r : List Ins) (L s : List Value) (σ : Sg) : Option Rs := match s with
  | .int n :: .int dp :: .ref a :: .int sp :: .ref b :: s => if ¬ sp < 0 ∧ ¬ dp < 0 ∧ ¬ n < 0 ∧ sp.toNatClampNeg + n.toNatClampNeg ≤ alen b ∧ dp.toNatClampNeg + n.toNatClampNeg ≤ alen a ∧ 0 < alen a ∧ 0 < alen b ∧ rsum s ≤ 8 then go r L s (upA σ a (va_cpy (σ b) (σ a) sp.toNatClampNeg dp.toNatClampNeg n.toNatClampNeg)) else none
  | _ => none
def h60 (y a : Nat) (k0 : Int32) (t : List Nat) (r : List Ins) (L s : List Value) (σ : Sg) : Option Rs := match s with
  | [] => some (.inr (.inr .null))
  | _ => none
def h61 (y a : Nat) (k0 : Int32) (t : List Nat) (r : List Ins) (L s : List Value) (σ : Sg) : Option Rs := match s with
  | [.int x] => some (.inr (.inr (.int x)))
  | _ => none
def h62 (y a : Nat) (k0 : Int32) (t : List Nat) (r : List Ins) (L s : List Value) (σ : Sg) : Option Rs := match s with
  | [.long x] => some (.inr (.inr (.long x)))
  | _ => none
def h63 (y a : Nat) (k0 : Int32) (t : List Nat) (r : List Ins) (L s : List Value) (σ : Sg) : Option Rs := match s with
  | [.ref k] => some (.inr (.inr (.ref k)))
  | _ => none
def h64 (y a : Nat) (k0 : Int32) (t : List Nat) (r : List Ins) (L s : List Value) (σ : Sg) : Option Rs := match s with
  | [.int x] => if x = 0 ∨ x = 1 then some (.inr (.inr (.int x))) else none
  | _ => none
def st1 (y : Nat) (i : Ins) (r : List Ins) (L s : List Value) (σ : Sg) : Option Rs := match i.1 with
  | 0 => h0 y i.2.1 i.2.2.1 i.2.2.2 r L s σ
  | 1 => h1 y i.2.1 i.2.2.1 i.2.2.2 r L s σ
  | 2 => h2 y i.2.1 i.2.2.1 i.2.2.2 r L s σ
  | 3 => h3 y i.2.1 i.2.2.1 i.2.2.2 r L s σ
  | 4 => h4 y i.2.1 i.2.2.1 i.2.2.2 r L s σ
  | 5 => h5 y i.2.1 i.2.2.1 i.2.2.2 r L s σ
  | 6 => h6 y i.2.1 i.2.2.1 i.2.2.2 r L s σ
  | 7 => h7 y i.2.1 i.2.2.1 i.2.2.2 r L s σ
  | 8 => h8 y i.2.1 i.2.2.1 i.2.2.2 r L s σ
  | 9 => h9 y i.2.1 i.2.2.1 i.2.2.2 r L s σ
  | 10 => h10 y i.2.1 i.2.2.1 i.2.2.2 r L s σ
  | 11 => h11 y i.2.1 i.2.2.1 i.2.2.2 r L s σ
  | 12 => h12 y i.2.1 i.2.2.1 i.2.2.2 r L s σ
  | 13 => h13 y i.2.1 i.2.2.1 i.2.2.2 r L s σ
  | 14 => h14 y i.2.1 i.2.2.1 i.2.2.2 r L s σ
  | 15 => h15 y i.2.1 i.2.2.1 i.2.2.2 r L s σ
  | 16 => h16 y i.2.1 i.2.2.1 i.2.2.2 r L s σ
  | 17 => h17 y i.2.1 i.2.2.1 i.2.2.2 r L s σ
  | 18 => h18 y i.2.1 i.2.2.1 i.2.2.2 r L s σ
  | 19 => h19 y i.2.1 i.2.2.1 i.2.2.2 r L s σ
  | 20 => h20 y i.2.1 i.2.2.1 i.2.2.2 r L s σ
  | 21 => h21 y i.2.1 i.2.2.1 i.2.2.2 r L s σ
  | 22 => h22 y i.2.1 i.2.2.1 i.2.2.2 r L s σ
  | 23 => h23 y i.2.1 i.2.2.1 i.2.2.2 r L s σ
  | 24 => h24 y i.2.1 i.2.2.1 i.2.2.2 r L s σ
  | 25 => h25 y i.2.1 i.2.2.1 i.2.2.2 r L s σ
  | 26 => h26 y i.2.1 i.2.2.1 i.2.2.2 r L s σ
  | 27 => h27 y i.2.1 i.2.2.1 i.2.2.2 r L s σ
  | 28 => h28 y i.2.1 i.2.2.1 i.2.2.2 r L s σ
  | 29 => h29 y i.2.1 i.2.2.1 i.2.2.2 r L s σ
  | 30 => h30 y i.2.1 i.2.2.1 i.2.2.2 r L s σ
  | 31 => h31 y i.2.1 i.2.2.1 i.2.2.2 r L s σ
  | 32 => h32 y i.2.1 i.2.2.1 i.2.2.2 r L s σ
  | 33 => h33 y i.2.1 i.2.2.1 i.2.2.2 r L s σ
  | 34 => h34 y i.2.1 i.2.2.1 i.2.2.2 r L s σ
  | 35 => h35 y i.2.1 i.2.2.1 i.2.2.2 r L s σ
  | 36 => h36 y i.2.1 i.2.2.1 i.2.2.2 r L s σ
  | 37 => h37 y i.2.1 i.2.2.1 i.2.2.2 r L s σ
  | 38 => h38 y i.2.1 i.2.2.1 i.2.2.2 r L s σ
  | 39 => h39 y i.2.1 i.2.2.1 i.2.2.2 r L s σ
  | 40 => h40 y i.2.1 i.2.2.1 i.2.2.2 r L s σ
  | 41 => h41 y i.2.1 i.2.2.1 i.2.2.2 r L s σ
  | 42 => h42 y i.2.1 i.2.2.1 i.2.2.2 r L s σ
  | 43 => h43 y i.2.1 i.2.2.1 i.2.2.2 r L s σ
  | 44 => h44 y i.2.1 i.2.2.1 i.2.2.2 r L s σ
  | 45 => h45 y i.2.1 i.2.2.1 i.2.2.2 r L s σ
  | 46 => h46 y i.2.1 i.2.2.1 i.2.2.2 r L s σ
  | 47 => h47 y i.2.1 i.2.2.1 i.2.2.2 r L s σ
  | 48 => h48 y i.2.1 i.2.2.1 i.2.2.2 r L s σ
  | 49 => h49 y i.2.1 i.2.2.1 i.2.2.2 r L s σ
  | 50 => h50 y i.2.1 i.2.2.1 i.2.2.2 r L s σ
  | 51 => h51 y i.2.1 i.2.2.1 i.2.2.2 r L s σ
  | 52 => h52 y i.2.1 i.2.2.1 i.2.2.2 r L s σ
  | 53 => h53 y i.2.1 i.2.2.1 i.2.2.2 r L s σ
  | 54 => h54 y i.2.1 i.2.2.1 i.2.2.2 r L s σ
  | 55 => h55 y i.2.1 i.2.2.1 i.2.2.2 r L s σ
  | 56 => h56 y i.2.1 i.2.2.1 i.2.2.2 r L s σ
  | 57 => h57 y i.2.1 i.2.2.1 i.2.2.2 r L s σ
  | 60 => h60 y i.2.1 i.2.2.1 i.2.2.2 r L s σ
  | 61 => h61 y i.2.1 i.2.2.1 i.2.2.2 r L s σ
  | 62 => h62 y i.2.1 i.2.2.1 i.2.2.2 r L s σ
  | 63 => h63 y i.2.1 i.2.2.1 i.2.2.2 r L s σ
  | 64 => h64 y i.2.1 i.2.2.1 i.2.2.2 r L s σ
  | _ => none
def ev : Nat → Nat → List Ins → List Value → List Value → Sg → Option (Value × Sg)
  | 0, _, _, _, _, _ => none
  | _ + 1, _, [], _, _, _ => none
  | n + 1, y, i :: r, L, s, σ => match st1 y i r L s σ with
    | none => none
    | some (.inl q) => ev n y q.1 q.2.1 q.2.2.1 q.2.2.2
    | some (.inr (.inl q)) => match ev n q.1 (blk q.1 0) (pad (mL q.1) q.2.1) [] σ with
      | none => none
      | some w => ev n y q.2.2.1 q.2.2.2.1 (pushv w.1 q.2.2.2.2) w.2
    | some (.inr (.inr v)) => some (v, σ)
theorem ev_mono : ∀ (n y : Nat) (r : List Ins) (L s : List Value) (σ : Sg) (w : Value × Sg), ev n y r L s σ = some w → ev (n + 1) y r L s σ = some w := by
  intro n
  induction n with
  | zero => intro y r L s σ w h; simp [ev] at h
  | succ n ih =>
    intro y r L s σ w h
    cases r with
    | nil => simp [ev] at h
    | cons i r =>
      rw [ev] at h ⊢
      cases hs : st1 y i r L s σ with
      | none => rw [hs] at h; simp at h
      | some q =>
        rw [hs] at h
        rcases q with q | q | v
        · exact ih _ _ _ _ _ _ h
        · dsimp only at h ⊢
          cases hc : ev n q.1 (blk q.1 0) (pad (mL q.1) q.2.1) [] σ with
          | none => rw [hc] at h; simp at h
          | some u =>
            rw [hc] at h
            rw [ih _ _ _ _ _ _ hc]
            exact ih _ _ _ _ _ _ h
        · exact h
theorem ev_le {n m y : Nat} {r : List Ins} {L s : List Value} {σ : Sg} {w : Value × Sg} (h : ev n y r L s σ = some w) (hm : n ≤ m) : ev m y r L s σ = some w := by
  induction hm with
  | refl => exact h
  | step _ ih => exact ev_mono _ _ _ _ _ _ _ ih
def Ev (y : Nat) (r : List Ins) (L s : List Value) (σ : Sg) (Q : Value → Sg → Prop) : Prop := ∃ (n : Nat) (v : Value) (σ' : Sg), ev n y r L s σ = some (v, σ') ∧ Q v σ'
def Blk (y k : Nat) (L s : List Value) (σ : Sg) (Q : Value → Sg → Prop) : Prop := Ev y (blk y k) L s σ Q
def Call (y : Nat) (as : List Value) (σ : Sg) (Q : Value → Sg → Prop) : Prop := Ev y (blk y 0) (pad (mL y) as) [] σ Q
theorem Ev_go {y : Nat} {i : Ins} {r r' : List Ins} {L s L' s' : List Value} {σ σ' : Sg} {Q : Value → Sg → Prop} (h : st1 y i r L s σ = go r' L' s' σ') : Ev y (i :: r) L s σ Q = Ev y r' L' s' σ' Q := by
  apply propext
  constructor
  · rintro ⟨n, v, σ1, h1, h2⟩
    cases n with
    | zero => simp [ev] at h1
    | succ n =>
      rw [ev, h] at h1
      exact ⟨n, v, σ1, h1, h2⟩
  · rintro ⟨n, v, σ1, h1, h2⟩
    refine ⟨n + 1, v, σ1, ?_, h2⟩
    rw [ev, h]
    exact h1
theorem Ev_no {y : Nat} {i : Ins} {r : List Ins} {L s : List Value} {σ : Sg} {Q : Value → Sg → Prop} (h : st1 y i r L s σ = none) : Ev y (i :: r) L s σ Q = False := by
  apply propext
  constructor
  · rintro ⟨n, v, σ1, h1, h2⟩
    cases n with
    | zero => simp [ev] at h1
    | succ n =>
      rw [ev, h] at h1
      simp at h1
  · exact False.elim
theorem Ev_end {y : Nat} {i : Ins} {r : List Ins} {L s : List Value} {σ : Sg} {v : Value} {Q : Value → Sg → Prop} (h : st1 y i r L s σ = some (.inr (.inr v))) : Ev y (i :: r) L s σ Q = Q v σ := by
  apply propext
  constructor
  · rintro ⟨n, v1, σ1, h1, h2⟩
    cases n with
    | zero => simp [ev] at h1
    | succ n =>
      rw [ev, h] at h1
      cases h1
      exact h2
  · intro q
    refine ⟨1, v, σ, ?_, q⟩
    rw [ev, h]
theorem Ev_call {y a : Nat} {i : Ins} {r r' : List Ins} {L s as L' s' : List Value} {σ : Sg} {Q : Value → Sg → Prop} (h : st1 y i r L s σ = some (.inr (.inl (a, as, r', L', s')))) : Ev y (i :: r) L s σ Q = Call a as σ (fun v σ' => Ev y r' L' (pushv v s') σ' Q) := by
  apply propext
  constructor
  · rintro ⟨n, v1, σ1, h1, h2⟩
    cases n with
    | zero => simp [ev] at h1
    | succ n =>
      rw [ev, h] at h1
      dsimp only at h1
      cases hc : ev n a (blk a 0) (pad (mL a) as) [] σ with
      | none => rw [hc] at h1; simp at h1
      | some w =>
        rw [hc] at h1
        exact ⟨n, w.1, w.2, hc, n, v1, σ1, h1, h2⟩
  · rintro ⟨n, v, σ1, h1, n2, v2, σ2, h2, h3⟩
    refine ⟨max n n2 + 1, v2, σ2, ?_, h3⟩
    rw [ev, h]
    dsimp only
    rw [ev_le h1 (Nat.le_max_left n n2)]
    exact ev_le h2 (Nat.le_max_right n n2)
theorem Ev_post {y : Nat} {r : List Ins} {L s : List Value} {σ : Sg} {Q Q' : Value → Sg → Prop} (h : Ev y r L s σ Q) (hq : ∀ v σ', Q v σ' → Q' v σ') : Ev y r L s σ Q' := by
  obtain ⟨n, v, σ1, h1, h2⟩ := h
  exact ⟨n, v, σ1, h1, hq _ _ h2⟩
theorem Call_post {y : Nat} {as : List Value} {σ : Sg} {Q Q' : Value → Sg → Prop} (h : Call y as σ Q) (hq : ∀ v σ', Q v σ' → Q' v σ') : Call y as σ Q' := Ev_post h hq
theorem Blk_post {y k : Nat} {L s : List Value} {σ : Sg} {Q Q' : Value → Sg → Prop} (h : Blk y k L s σ Q) (hq : ∀ v σ', Q v σ' → Q' v σ') : Blk y k L s σ Q' := Ev_post h hq
section EVR
variable {y a : Nat} {k0 : Int32} {t : List Nat} {r : List Ins} {L s : List Value} {σ : Sg} {Q : Value → Sg → Prop}
theorem e0 : Ev y ((0, a, k0, t) :: r) L s σ Q = Ev y r L (.int k0 :: s) σ Q := Ev_go rfl
theorem e1 {v : Value} (h : L[a]? = some v) (hv : tg v k0 = true) : Ev y ((1, a, k0, t) :: r) L s σ Q = Ev y r L (v :: s) σ Q := Ev_go (by show h1 y a k0 t r L s σ = _; simp only [h1, h, hv, if_true])
theorem e2 {v : Value} (h : (tg v k0 && c1 v && low1 L a && decide (a < L.length)) = true) : Ev y ((2, a, k0, t) :: r) L (v :: s) σ Q = Ev y r (L.set a v) s σ Q := Ev_go (by show h2 y a k0 t r L (v :: s) σ = _; simp only [h2, h, if_true])
theorem e3 {x : Int64} (h : (low1 L a && decide (a + 1 < L.length)) = true) : Ev y ((3, a, k0, t) :: r) L (.long x :: s) σ Q = Ev y r ((L.set a (.long x)).set (a + 1) .null) s σ Q := Ev_go (by show h3 y a k0 t r L (.long x :: s) σ = _; simp only [h3, h, if_true])
theorem e4 {x : Int32} (h : L[a]? = some (.int x)) (hl : low1 L a = true) : Ev y ((4, a, k0, t) :: r) L s σ Q = Ev y r (L.set a (.int (x + k0))) s σ Q := Ev_go (by show h4 y a k0 t r L s σ = _; simp only [h4, h, hl, if_true])
theorem e5 {x z : Int32} : Ev y ((5, a, k0, t) :: r) L (.int z :: .int x :: s) σ Q = Ev y r L (.int (x + z) :: s) σ Q := Ev_go rfl
theorem e6 {x z : Int32} : Ev y ((6, a, k0, t) :: r) L (.int z :: .int x :: s) σ Q = Ev y r L (.int (x - z) :: s) σ Q := Ev_go rfl
theorem e7 {x z : Int32} : Ev y ((7, a, k0, t) :: r) L (.int z :: .int x :: s) σ Q = Ev y r L (.int (x * z) :: s) σ Q := Ev_go rfl
theorem e8 {x z : Int32} : Ev y ((8, a, k0, t) :: r) L (.int z :: .int x :: s) σ Q = Ev y r L (.int (x &&& z) :: s) σ Q := Ev_go rfl
theorem e9 {x z : Int32} : Ev y ((9, a, k0, t) :: r) L (.int z :: .int x :: s) σ Q = Ev y r L (.int (x ||| z) :: s) σ Q := Ev_go rfl
theorem e10 {x z : Int32} : Ev y ((10, a, k0, t) :: r) L (.int z :: .int x :: s) σ Q = Ev y r L (.int (x ^^^ z) :: s) σ Q := Ev_go rfl
theorem e11 {x z : Int32} : Ev y ((11, a, k0, t) :: r) L (.int z :: .int x :: s) σ Q = Ev y r L (.int (x <<< (z &&& 31)) :: s) σ Q := Ev_go rfl
theorem e12 {x z : Int32} : Ev y ((12, a, k0, t) :: r) L (.int z :: .int x :: s) σ Q = Ev y r L (.int (x >>> (z &&& 31)) :: s) σ Q := Ev_go rfl
theorem e13 {x z : Int32} : Ev y ((13, a, k0, t) :: r) L (.int z :: .int x :: s) σ Q = Ev y r L (.int ((x.toUInt32 >>> (z.toUInt32 &&& Int32.toUInt32 31)).toInt32) :: s) σ Q := Ev_go rfl
theorem e14 {x z : Int32} (h : ¬ z = 0) : Ev y ((14, a, k0, t) :: r) L (.int z :: .int x :: s) σ Q = Ev y r L (.int (x / z) :: s) σ Q := Ev_go (by show h14 y a k0 t r L (.int z :: .int x :: s) σ = _; simp only [h14, h, if_false])
theorem e15 {x z : Int32} (h : ¬ z = 0) : Ev y ((15, a, k0, t) :: r) L (.int z :: .int x :: s) σ Q = Ev y r L (.int (x - x / z * z) :: s) σ Q := Ev_go (by show h15 y a k0 t r L (.int z :: .int x :: s) σ = _; simp only [h15, h, if_false])
theorem e16 {x : Int32} : Ev y ((16, a, k0, t) :: r) L (.int x :: s) σ Q = Ev y r L (.int (-x) :: s) σ Q := Ev_go rfl
theorem e17 {x : Int32} : Ev y ((17, a, k0, t) :: r) L (.int x :: s) σ Q = Ev y r L (.int x.toInt8.toInt32 :: s) σ Q := Ev_go rfl
theorem e18 {x : Int32} : Ev y ((18, a, k0, t) :: r) L (.int x :: s) σ Q = Ev y r L (.int x.toInt16.toInt32 :: s) σ Q := Ev_go rfl
theorem e19 {x : Int32} : Ev y ((19, a, k0, t) :: r) L (.int x :: s) σ Q = Ev y r L (.long x.toInt64 :: s) σ Q := Ev_go rfl
theorem e20 {x z : Int64} : Ev y ((20, a, k0, t) :: r) L (.long z :: .long x :: s) σ Q = Ev y r L (.long (x + z) :: s) σ Q := Ev_go rfl
theorem e21 {x z : Int64} : Ev y ((21, a, k0, t) :: r) L (.long z :: .long x :: s) σ Q = Ev y r L (.long (x * z) :: s) σ Q := Ev_go rfl
theorem e22 {x z : Int64} : Ev y ((22, a, k0, t) :: r) L (.long z :: .long x :: s) σ Q = Ev y r L (.int (lg_cmp x z) :: s) σ Q := Ev_go rfl
theorem e23 : Ev y ((23, a, k0, t) :: r) L s σ Q = Ev y r L (.long k0.toInt64 :: s) σ Q := Ev_go rfl
theorem e24 {v : Value} (h : c1 v = true) : Ev y ((24, a, k0, t) :: r) L (v :: s) σ Q = Ev y r L (v :: v :: s) σ Q := Ev_go (by show h24 y a k0 t r L (v :: s) σ = _; simp only [h24, h, if_true])
theorem e25 {v w : Value} (h : (c1 v && c1 w) = true) : Ev y ((25, a, k0, t) :: r) L (v :: w :: s) σ Q = Ev y r L (v :: w :: v :: w :: s) σ Q := Ev_go (by show h25 y a k0 t r L (v :: w :: s) σ = _; simp only [h25, h, if_true])
theorem e27 {x z : Int32} (h : rsum s ≤ 8) : Ev y ((27, a, k0, t) :: r) L (.int z :: .int x :: s) σ Q = Ev y r L (.int (imax x z) :: s) σ Q := Ev_go (by show h27 y a k0 t r L (.int z :: .int x :: s) σ = _; simp only [h27, h, if_true])
theorem e28 {x z : Int32} (h : rsum s ≤ 8) : Ev y ((28, a, k0, t) :: r) L (.int z :: .int x :: s) σ Q = Ev y r L (.int (imin x z) :: s) σ Q := Ev_go (by show h28 y a k0 t r L (.int z :: .int x :: s) σ = _; simp only [h28, h, if_true])
theorem e29 {x : Int32} (h : rsum s ≤ 8) : Ev y ((29, a, k0, t) :: r) L (.int x :: s) σ Q = Ev y r L (.int (iabs x) :: s) σ Q := Ev_go (by show h29 y a k0 t r L (.int x :: s) σ = _; simp only [h29, h, if_true])
theorem e26 {v : Value} (h : c1 v = true) : Ev y ((26, a, k0, t) :: r) L (v :: s) σ Q = Ev y r L s σ Q := Ev_go (by show h26 y a k0 t r L (v :: s) σ = _; simp only [h26, h, if_true])
theorem e30 {x : Int32} : Ev y ((30, a, k0, t) :: r) L (.int x :: s) σ Q = if x = 0 then Blk y a L s σ Q else Ev y r L s σ Q := by
  by_cases h : x = 0
  · rw [if_pos h]; exact Ev_go (by show h30 y a k0 t r L (.int x :: s) σ = _; simp only [h30, brk]; rw [if_pos h])
  · rw [if_neg h]; exact Ev_go (by show h30 y a k0 t r L (.int x :: s) σ = _; simp only [h30, brk]; rw [if_neg h])
theorem e31 {x : Int32} : Ev y ((31, a, k0, t) :: r) L (.int x :: s) σ Q = if ¬ x = 0 then Blk y a L s σ Q else Ev y r L s σ Q := by
  by_cases h : ¬ x = 0
  · rw [if_pos h]; exact Ev_go (by show h31 y a k0 t r L (.int x :: s) σ = _; simp only [h31, brk]; rw [if_pos h])
  · rw [if_neg h]; exact Ev_go (by show h31 y a k0 t r L (.int x :: s) σ = _; simp only [h31, brk]; rw [if_neg h])
theorem e32 {x : Int32} : Ev y ((32, a, k0, t) :: r) L (.int x :: s) σ Q = if x < 0 then Blk y a L s σ Q else Ev y r L s σ Q := by
  by_cases h : x < 0
  · rw [if_pos h]; exact Ev_go (by show h32 y a k0 t r L (.int x :: s) σ = _; simp only [h32, brk]; rw [if_pos h])
  · rw [if_neg h]; exact Ev_go (by show h32 y a k0 t r L (.int x :: s) σ = _; simp only [h32, brk]; rw [if_neg h])
theorem e33 {x : Int32} : Ev y ((33, a, k0, t) :: r) L (.int x :: s) σ Q = if 0 ≤ x then Blk y a L s σ Q else Ev y r L s σ Q := by
  by_cases h : 0 ≤ x
  · rw [if_pos h]; exact Ev_go (by show h33 y a k0 t r L (.int x :: s) σ = _; simp only [h33, brk]; rw [if_pos h])
  · rw [if_neg h]; exact Ev_go (by show h33 y a k0 t r L (.int x :: s) σ = _; simp only [h33, brk]; rw [if_neg h])
theorem e34 {x : Int32} : Ev y ((34, a, k0, t) :: r) L (.int x :: s) σ Q = if 0 < x then Blk y a L s σ Q else Ev y r L s σ Q := by
  by_cases h : 0 < x
  · rw [if_pos h]; exact Ev_go (by show h34 y a k0 t r L (.int x :: s) σ = _; simp only [h34, brk]; rw [if_pos h])
  · rw [if_neg h]; exact Ev_go (by show h34 y a k0 t r L (.int x :: s) σ = _; simp only [h34, brk]; rw [if_neg h])
theorem e35 {x : Int32} : Ev y ((35, a, k0, t) :: r) L (.int x :: s) σ Q = if x ≤ 0 then Blk y a L s σ Q else Ev y r L s σ Q := by
  by_cases h : x ≤ 0
  · rw [if_pos h]; exact Ev_go (by show h35 y a k0 t r L (.int x :: s) σ = _; simp only [h35, brk]; rw [if_pos h])
  · rw [if_neg h]; exact Ev_go (by show h35 y a k0 t r L (.int x :: s) σ = _; simp only [h35, brk]; rw [if_neg h])
theorem e36 {x b : Int32} : Ev y ((36, a, k0, t) :: r) L (.int b :: .int x :: s) σ Q = if x = b then Blk y a L s σ Q else Ev y r L s σ Q := by
  by_cases h : x = b
  · rw [if_pos h]; exact Ev_go (by show h36 y a k0 t r L (.int b :: .int x :: s) σ = _; simp only [h36, brk]; rw [if_pos h])
  · rw [if_neg h]; exact Ev_go (by show h36 y a k0 t r L (.int b :: .int x :: s) σ = _; simp only [h36, brk]; rw [if_neg h])
theorem e37 {x b : Int32} : Ev y ((37, a, k0, t) :: r) L (.int b :: .int x :: s) σ Q = if ¬ x = b then Blk y a L s σ Q else Ev y r L s σ Q := by
  by_cases h : ¬ x = b
  · rw [if_pos h]; exact Ev_go (by show h37 y a k0 t r L (.int b :: .int x :: s) σ = _; simp only [h37, brk]; rw [if_pos h])
  · rw [if_neg h]; exact Ev_go (by show h37 y a k0 t r L (.int b :: .int x :: s) σ = _; simp only [h37, brk]; rw [if_neg h])
theorem e38 {x b : Int32} : Ev y ((38, a, k0, t) :: r) L (.int b :: .int x :: s) σ Q = if x < b then Blk y a L s σ Q else Ev y r L s σ Q := by
  by_cases h : x < b
  · rw [if_pos h]; exact Ev_go (by show h38 y a k0 t r L (.int b :: .int x :: s) σ = _; simp only [h38, brk]; rw [if_pos h])
  · rw [if_neg h]; exact Ev_go (by show h38 y a k0 t r L (.int b :: .int x :: s) σ = _; simp only [h38, brk]; rw [if_neg h])
theorem e39 {x b : Int32} : Ev y ((39, a, k0, t) :: r) L (.int b :: .int x :: s) σ Q = if b ≤ x then Blk y a L s σ Q else Ev y r L s σ Q := by
  by_cases h : b ≤ x
  · rw [if_pos h]; exact Ev_go (by show h39 y a k0 t r L (.int b :: .int x :: s) σ = _; simp only [h39, brk]; rw [if_pos h])
  · rw [if_neg h]; exact Ev_go (by show h39 y a k0 t r L (.int b :: .int x :: s) σ = _; simp only [h39, brk]; rw [if_neg h])
theorem e40 {x b : Int32} : Ev y ((40, a, k0, t) :: r) L (.int b :: .int x :: s) σ Q = if b < x then Blk y a L s σ Q else Ev y r L s σ Q := by
  by_cases h : b < x
  · rw [if_pos h]; exact Ev_go (by show h40 y a k0 t r L (.int b :: .int x :: s) σ = _; simp only [h40, brk]; rw [if_pos h])
  · rw [if_neg h]; exact Ev_go (by show h40 y a k0 t r L (.int b :: .int x :: s) σ = _; simp only [h40, brk]; rw [if_neg h])
theorem e41 {x b : Int32} : Ev y ((41, a, k0, t) :: r) L (.int b :: .int x :: s) σ Q = if x ≤ b then Blk y a L s σ Q else Ev y r L s σ Q := by
  by_cases h : x ≤ b
  · rw [if_pos h]; exact Ev_go (by show h41 y a k0 t r L (.int b :: .int x :: s) σ = _; simp only [h41, brk]; rw [if_pos h])
  · rw [if_neg h]; exact Ev_go (by show h41 y a k0 t r L (.int b :: .int x :: s) σ = _; simp only [h41, brk]; rw [if_neg h])
theorem e42 : Ev y ((42, a, k0, t) :: r) L s σ Q = Blk y a L s σ Q := Ev_go rfl
theorem e43 : Ev y ((43, a, k0, t) :: r) L s σ Q = Blk y a L s σ Q := Ev_go rfl
theorem e44n {x : Int32} : Ev y ((44, a, k0, []) :: r) L (.int x :: s) σ Q = Blk y a L s σ Q := Ev_go rfl
theorem e44c {x : Int32} {b : Nat} : Ev y ((44, a, k0, b :: t) :: r) L (.int x :: s) σ Q = if x = k0 then Blk y b L s σ Q else Ev y ((44, a, k0 + 1, t) :: r) L (.int x :: s) σ Q := by
  by_cases h : x = k0
  · rw [if_pos h]; exact Ev_go (by show h44 y a k0 (b :: t) r L (.int x :: s) σ = _; simp only [h44, tsw]; rw [if_pos h])
  · rw [if_neg h, Ev_go (show st1 y (44, a, k0 + 1, t) r L (.int x :: s) σ = _ from rfl)]; exact Ev_go (by show h44 y a k0 (b :: t) r L (.int x :: s) σ = _; simp only [h44, tsw]; rw [if_neg h])
theorem e45n {x : Int32} : Ev y ((45, a, k0, []) :: r) L (.int x :: s) σ Q = Blk y a L s σ Q := Ev_go rfl
theorem e45c {x : Int32} {k b : Nat} : Ev y ((45, a, k0, k :: b :: t) :: r) L (.int x :: s) σ Q = if x = nI k then Blk y b L s σ Q else Ev y ((45, a, k0, t) :: r) L (.int x :: s) σ Q := by
  by_cases h : x = nI k
  · rw [if_pos h]; exact Ev_go (by show h45 y a k0 (k :: b :: t) r L (.int x :: s) σ = _; simp only [h45, lsw]; rw [if_pos h])
  · rw [if_neg h, Ev_go (show st1 y (45, a, k0, t) r L (.int x :: s) σ = _ from rfl)]; exact Ev_go (by show h45 y a k0 (k :: b :: t) r L (.int x :: s) σ = _; simp only [h45, lsw]; rw [if_neg h])
theorem e46 {k c : Nat} {v : Value} (h : getf k c a σ = some v) : Ev y ((46, a, k0, [c]) :: r) L (.ref k :: s) σ Q = Ev y r L (v :: s) σ Q := Ev_go (by show h46 y a k0 [c] r L (.ref k :: s) σ = _; simp only [h46, List.headD_cons, h])
theorem e47 {k c : Nat} {x : Int32} (h : canp k c a = true) : Ev y ((47, a, k0, [c]) :: r) L (.int x :: .ref k :: s) σ Q = Ev y r L s (up2 σ k a x) Q := Ev_go (by show h47 y a k0 [c] r L (.int x :: .ref k :: s) σ = _; simp only [h47, List.headD_cons, h, if_true])
theorem e48 {k c : Nat} {x : Int32} (h : canp k c a = true) (hx : (x == 0 || x == 1) = true) : Ev y ((48, a, k0, [c]) :: r) L (.int x :: .ref k :: s) σ Q = Ev y r L s (up2 σ k a x) Q := Ev_go (by show h48 y a k0 [c] r L (.int x :: .ref k :: s) σ = _; simp only [h48, List.headD_cons, h, hx, Bool.and_self, if_true])
theorem e49 {k : Nat} {j : Int32} (h : vp_in j (alen k)) : Ev y ((49, a, k0, t) :: r) L (.int j :: .ref k :: s) σ Q = Ev y r L (.int (σ k j.toNatClampNeg) :: s) σ Q := Ev_go (by show h49 y a k0 t r L (.int j :: .ref k :: s) σ = _; simp only [h49]; rw [if_neg h])
theorem e50 {k : Nat} {x j : Int32} (h : vp_in j (alen k)) : Ev y ((50, a, k0, t) :: r) L (.int x :: .int j :: .ref k :: s) σ Q = Ev y r L s (up2 σ k j.toNatClampNeg x) Q := Ev_go (by show h50 y a k0 t r L (.int x :: .int j :: .ref k :: s) σ = _; simp only [h50]; rw [if_neg h])
theorem e51 {k q : Nat} {j : Int32} (h : ¬ j < 0) (hq : aref k j.toNatClampNeg = some q) : Ev y ((51, a, k0, t) :: r) L (.int j :: .ref k :: s) σ Q = Ev y r L (.ref q :: s) σ Q := Ev_go (by show h51 y a k0 t r L (.int j :: .ref k :: s) σ = _; simp only [h51, h, if_false, hq])
theorem e52 {k n : Nat} (h : rlen k = some n) : Ev y ((52, a, k0, t) :: r) L (.ref k :: s) σ Q = Ev y r L (.int (nI n) :: s) σ Q := Ev_go (by show h52 y a k0 t r L (.ref k :: s) σ = _; simp only [h52, h])
theorem e53 : Ev y ((53, a, k0, t) :: r) L s σ Q = Ev y r L (.ref (100 + a) :: s) σ Q := Ev_go rfl
theorem e54 {n : Nat} (h : (decide (n ≤ s.length) && rcv a (s.take n).reverse && (s.take n).all c1 && decide (rsum (s.drop n) ≤ 8)) = true) : Ev y ((54, a, k0, [n]) :: r) L s σ Q = Call a (s.take n).reverse σ (fun v σ' => Ev y r L (pushv v (s.drop n)) σ' Q) := Ev_call (by show h54 y a k0 [n] r L s σ = _; simp only [h54, List.headD_cons]; exact if_pos h)
theorem e55 {k : Nat} (h : 100 ≤ k ∧ k < 116 ∧ rsum s ≤ 8) : Ev y ((55, a, k0, t) :: r) L (.ref k :: s) σ Q = Ev y r L (.int (nI (slen.getD (k - 100) 0)) :: s) σ Q := Ev_go (by show h55 y a k0 t r L (.ref k :: s) σ = _; simp only [h55]; rw [if_pos h])
theorem e56 {k : Nat} {j : Int32} (h : 100 ≤ k ∧ k < 116 ∧ vp_in j (slen.getD (k - 100) 0) ∧ rsum s ≤ 8) : Ev y ((56, a, k0, t) :: r) L (.int j :: .ref k :: s) σ Q = Ev y r L (.int ((sbyt.getD (k - 100) []).getD j.toNatClampNeg 0) :: s) σ Q := Ev_go (by show h56 y a k0 t r L (.int j :: .ref k :: s) σ = _; simp only [h56]; exact if_pos h)
theorem e57 {n dp sp : Int32} {p q : Nat} (h : ¬ sp < 0 ∧ ¬ dp < 0 ∧ ¬ n < 0 ∧ sp.toNatClampNeg + n.toNatClampNeg ≤ alen q ∧ dp.toNatClampNeg + n.toNatClampNeg ≤ alen p ∧ 0 < alen p ∧ 0 < alen q ∧ rsum s ≤ 8) : Ev y ((57, a, k0, t) :: r) L (.int n :: .int dp :: .ref p :: .int sp :: .ref q :: s) σ Q = Ev y r L s (upA σ p (va_cpy (σ q) (σ p) sp.toNatClampNeg dp.toNatClampNeg n.toNatClampNeg)) Q := Ev_go (by show h57 y a k0 t r L (.int n :: .int dp :: .ref p :: .int sp :: .ref q :: s) σ = _; simp only [h57]; rw [if_pos h])
theorem e60 : Ev y ((60, a, k0, t) :: r) L [] σ Q = Q .null σ := Ev_end rfl
theorem e61 {x : Int32} : Ev y ((61, a, k0, t) :: r) L [.int x] σ Q = Q (.int x) σ := Ev_end rfl
theorem e62 {x : Int64} : Ev y ((62, a, k0, t) :: r) L [.long x] σ Q = Q (.long x) σ := Ev_end rfl
theorem e63 {k : Nat} : Ev y ((63, a, k0, t) :: r) L [.ref k] σ Q = Q (.ref k) σ := Ev_end rfl
theorem e64 {x : Int32} (h : x = 0 ∨ x = 1) : Ev y ((64, a, k0, t) :: r) L [.int x] σ Q = Q (.int x) σ := Ev_end (by show h64 y a k0 t r L [.int x] σ = _; simp only [h64]; rw [if_pos h])
end EVR
