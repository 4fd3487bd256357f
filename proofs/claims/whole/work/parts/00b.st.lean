/-! the store of the one world, and the words that the methods' functions are made of -/
abbrev Ent : Type := (Nat × List (Nat × Nat)) ⊕ (Nat × Nat)
def lay : List Ent := [.inl (9, [(2, 1), (2, 2), (2, 3), (2, 4), (2, 5), (2, 6), (2, 7), (2, 8), (2, 9), (0, 0), (0, 1)]),
  .inl (8, [(2, 11), (0, 2)]),
  .inl (5, [(2, 12), (2, 13), (3, 0), (0, 3), (0, 4), (2, 14), (2, 15), (2, 16), (2, 17), (0, 5)]),
  .inl (3, [(2, 18), (2, 19), (3, 1), (0, 6), (0, 7), (2, 20), (0, 8)]),
  .inl (1, [(2, 21), (2, 22), (3, 2), (0, 9), (0, 10), (2, 87), (0, 11), (1, 0), (0, 12), (0, 13), (0, 14), (0, 15), (0, 16)]),
  .inl (6, [(2, 23), (2, 24), (2, 25), (2, 26), (2, 27), (2, 28), (2, 29), (0, 17), (0, 18), (0, 19)]),
  .inl (0, [(2, 5), (2, 30), (2, 31), (2, 32), (2, 33), (2, 34), (0, 20)]),
  .inl (2, [(2, 5), (2, 6), (2, 35), (2, 36), (2, 37), (2, 38), (2, 39), (2, 40), (2, 41), (2, 42), (2, 43), (2, 44), (0, 21), (0, 22), (0, 23), (0, 24), (0, 25), (2, 45), (2, 46)]),
  .inl (7, [(2, 5), (2, 6), (2, 47), (2, 48), (2, 49), (0, 26), (0, 27)]),
  .inl (4, [(2, 50), (2, 51), (2, 52), (2, 53), (2, 54), (0, 28), (0, 29)]),
  .inl (10, [(0, 30), (2, 55), (2, 56), (2, 57), (2, 58), (2, 59), (3, 3), (0, 31), (0, 32), (0, 33), (0, 34), (0, 35), (0, 36), (0, 37), (0, 38), (0, 39), (0, 40), (0, 41), (2, 200), (2, 201), (0, 42), (2, 60), (2, 61), (2, 62), (2, 63), (2, 64), (2, 65), (2, 66), (2, 67), (2, 68), (2, 69), (2, 70), (2, 71), (2, 72), (0, 43), (0, 44), (0, 45), (2, 73), (2, 74), (2, 75), (2, 76), (2, 77), (0, 46), (0, 47), (2, 78), (2, 79), (2, 80), (2, 81), (0, 48), (0, 49), (0, 50), (2, 82), (0, 51), (0, 52)]),
  .inr (1, 200),
  .inr (3, 201),
  .inr (0, 201),
  .inr (0, 12),
  .inr (3, 24),
  .inr (0, 12),
  .inr (3, 144),
  .inr (3, 201),
  .inr (0, 201),
  .inr (0, 20),
  .inr (3, 201),
  .inr (0, 201),
  .inr (0, 8),
  .inr (0, 8),
  .inr (0, 128),
  .inr (3, 256),
  .inr (0, 128),
  .inr (3, 1536),
  .inr (0, 96),
  .inr (0, 18),
  .inr (0, 18),
  .inr (0, 19),
  .inr (2, 96),
  .inr (0, 8),
  .inr (0, 8),
  .inr (0, 8),
  .inr (0, 8),
  .inr (0, 8),
  .inr (0, 20),
  .inr (0, 8),
  .inr (0, 8),
  .inr (0, 8),
  .inr (3, 8),
  .inr (3, 420),
  .inr (4, 0),
  .inr (4, 0),
  .inr (0, 96),
  .inr (0, 96),
  .inr (0, 8),
  .inr (0, 80),
  .inr (0, 4),
  .inr (0, 10),
  .inr (0, 10),
  .inr (0, 10),
  .inr (1, 200),
  .inr (1, 1800),
  .inr (1, 800),
  .inr (0, 4),
  .inr (0, 128),
  .inr (0, 9),
  .inr (0, 144),
  .inr (0, 144),
  .inr (0, 288),
  .inr (0, 288),
  .inr (0, 1728),
  .inr (0, 1728),
  .inr (0, 5),
  .inr (0, 100),
  .inr (0, 8),
  .inr (0, 20),
  .inr (0, 20),
  .inr (0, 441),
  .inr (0, 9),
  .inr (0, 180009),
  .inr (0, 180009),
  .inr (3, 180009),
  .inr (3, 180009),
  .inr (0, 96),
  .inr (0, 96),
  .inr (0, 8),
  .inr (2, 8),
  .inr (0, 10),
  .inr (3, 201),
  .inr (3, 201),
  .inr (3, 201),
  .inr (3, 201),
  .inr (5, 83),
  .inr (3, 1)]
abbrev idSlots : Nat := 45
abbrev idReached : Nat := 46

abbrev St : Type := (Nat → Int32) × (Nat → Int64) × (Nat → Nat → Int32) × (Nat → Nat → Int64) × (Nat → Nat) × (Nat → Nat)
def zI (σ : St) : Nat → Int32 := σ.1
def zJ (σ : St) : Nat → Int64 := σ.2.1
def zA (σ : St) : Nat → Nat → Int32 := σ.2.2.1
def zB (σ : St) : Nat → Nat → Int64 := σ.2.2.2.1
def zR (σ : St) : Nat → Nat := σ.2.2.2.2.1
def zN (σ : St) : Nat → Nat := σ.2.2.2.2.2
def uI (σ : St) (k : Nat) (v : Int32) : St := (va_up σ.1 k v, σ.2)
def uJ (σ : St) (k : Nat) (v : Int64) : St := (σ.1, va_up σ.2.1 k v, σ.2.2)
def uA (σ : St) (q : Nat) (f : Nat → Int32) : St := (σ.1, σ.2.1, va_up σ.2.2.1 q f, σ.2.2.2)
def uB (σ : St) (q : Nat) (f : Nat → Int64) : St := (σ.1, σ.2.1, σ.2.2.1, va_up σ.2.2.2.1 q f, σ.2.2.2.2)
def uR (σ : St) (k : Nat) (v : Nat) : St := (σ.1, σ.2.1, σ.2.2.1, σ.2.2.2.1, va_up σ.2.2.2.2.1 k v, σ.2.2.2.2.2)
def uN (σ : St) (k : Nat) (v : Nat) : St := (σ.1, σ.2.1, σ.2.2.1, σ.2.2.2.1, σ.2.2.2.2.1, va_up σ.2.2.2.2.2 k v)
/-- an element of an array of n, or nothing -/
def rd {α : Type} (f : Nat → α) (n : Nat) (i : Int32) : Option α := if i < 0 ∨ n ≤ i.toNatClampNeg then none else some (f i.toNatClampNeg)
/-- a store into an array of n, or nothing -/
def wr {ρ : Type} (n : Nat) (i : Int32) (o : Option ρ) : Option ρ := if i < 0 ∨ n ≤ i.toNatClampNeg then none else o
/-- behind a division by y, or nothing -/
def nz {ρ : Type} (y : Int32) (o : Option ρ) : Option ρ := if y = 0 then none else o
def nzl {ρ : Type} (y : Int64) (o : Option ρ) : Option ρ := if y = 0 then none else o
/-- the length of a long array / byte array at an id; 0 for what is none -/
def lenB (σ : St) (q : Nat) : Nat := match lay[q]? with
  | some (.inr (3, n)) => n
  | some (.inr (4, _)) => zN σ q
  | _ => 0
def lenY (q : Nat) : Nat := match lay[q]? with
  | some (.inr (1, n)) => n
  | _ => 0
def lenI (q : Nat) : Nat := match lay[q]? with
  | some (.inr (0, n)) => n
  | _ => 0
def strB : List (List Int32) := [[121], [110, 118, 102, 108, 119], [97, 101, 105, 111, 117]]
def strL : List Nat := [1, 5, 5]
def ushr32 (x y : Int32) : Int32 := (x.toUInt32 >>> (y.toUInt32 &&& Int32.toUInt32 31)).toInt32
def ushr64 (x : Int64) (y : Int32) : Int64 := (x.toUInt64 >>> (y.toInt64.toUInt64 &&& Int64.toUInt64 63)).toInt64
/-- a length, of what is an array -/
def isl {ρ : Type} (n : Nat) (o : Option ρ) : Option ρ := if n = 0 then none else o
def bi (b : Bool) : Int32 := match b with
  | true => 1
  | false => 0
/-- an int as a boolean, or nothing -/
def zb (x : Int32) : Option Bool := if x = 0 then some false else if x = 1 then some true else none
/-- a loop: body, again and again, n times at most -/
def it {τ ρ : Type} (body : (τ → Option ρ) → τ → Option ρ) : Nat → τ → Option ρ
  | 0, _ => none
  | n + 1, t => body (it body n) t
/-- more turns than any loop takes -/
def FU : Nat := 1000000
/-- a char, or nothing -/
def chx (x : Int32) : Option Int32 := if (x.toUInt32 % 65536).toInt32 = x then some x else none
/-- behind 'new long[x]' at an id: zeros, its length, what was made -/
def uNew (σ : St) (q : Nat) (x : Int32) : St := uN (uN (uN (uB σ q (fun _ => 0)) q x.toNatClampNeg) 0 (zN σ 0 + 1)) 1 (zN σ 1 + x.toNatClampNeg)

/-- 'new long[x]' for an id: x is no less than 0 and not too much -/
def nb {ρ : Type} (σ : St) (id : Nat) (x : Int32) (o : Option ρ) : Option ρ := if x < 0 ∨ 200000 < x.toNatClampNeg ∨ zR σ 0 = id ∨ zR σ 1 = id ∨ zR σ 2 = id ∨ zR σ 3 = id then none else o
/-- the store at the start -/
def σi : St := (fun k => match k with | 4 => -1 | 7 => -1 | 10 => -1 | 20 => 1 | 45 => 1 | _ => 0, fun _ => 0, fun _ _ => 0, fun _ _ => 0, fun k => match k with | 0 => 12 | 1 => 18 | 2 => 21 | _ => 55, fun k => match k with | 0 => 89 | 1 => 733829 | _ => 0)
