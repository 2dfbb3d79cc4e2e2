/-! ===== the functions over a plain state (by program: wip/tools/q) ===== -/
abbrev qm : Type := Nat → Int → Int → Int
def w32 (x : Int) : Int := (x + 2147483648) % 4294967296 - 2147483648
def w64 (x : Int) : Int := (x + 9223372036854775808) % 18446744073709551616 - 9223372036854775808
def qbnd {α : Type} (m : qm) (f : qm → α) : α := f m
def qabs (x : Int) : Int := if 0 ≤ x then x else w32 (0 - x)
def bA (x y : Int) : Int := (Int32.ofInt x &&& Int32.ofInt y).toInt
def bO (x y : Int) : Int := (Int32.ofInt x ||| Int32.ofInt y).toInt
def bX (x y : Int) : Int := (Int32.ofInt x ^^^ Int32.ofInt y).toInt
def bL (x y : Int) : Int := (Int32.ofInt x <<< (Int32.ofInt y &&& 31)).toInt
def bR (x y : Int) : Int := (Int32.ofInt x >>> (Int32.ofInt y &&& 31)).toInt
def bU (x y : Int) : Int := ((Int32.ofInt x).toUInt32 >>> ((Int32.ofInt y).toUInt32 &&& Int32.toUInt32 31)).toInt32.toInt
def lA (x y : Int) : Int := (Int64.ofInt x &&& Int64.ofInt y).toInt
def lO (x y : Int) : Int := (Int64.ofInt x ||| Int64.ofInt y).toInt
def lX (x y : Int) : Int := (Int64.ofInt x ^^^ Int64.ofInt y).toInt
def lL (x y : Int) : Int := (Int64.ofInt x <<< (Int64.ofInt y &&& 63)).toInt
def lR (x y : Int) : Int := (Int64.ofInt x >>> (Int64.ofInt y &&& 63)).toInt
def lU (x y : Int) : Int := ((Int64.ofInt x).toUInt64 >>> ((Int64.ofInt y).toUInt64 &&& Int64.toUInt64 63)).toInt64.toInt
def qw (M : qm) (a : Nat) (i j v : Int) : qm := fun b x y => if b = a ∧ x = i ∧ y = j then v else M b x y
def qfl1 (M : qm) (a : Nat) (lo hi v : Int) : qm := fun b x y => if b = a ∧ lo ≤ x ∧ x < hi ∧ y = 0 then v else M b x y
def qfl2 (M : qm) (a : Nat) (i lo hi v : Int) : qm := fun b x y => if b = a ∧ x = i ∧ lo ≤ y ∧ y < hi then v else M b x y
def qcp1 (M : qm) (a : Nat) (s : Int) (c : Nat) (d n : Int) : qm := fun b x y => if b = c ∧ d ≤ x ∧ x < d + n ∧ y = 0 then M a (x - d + s) y else M b x y
def qcp2 (M : qm) (a : Nat) (i s : Int) (c : Nat) (k d n : Int) : qm := fun b x y => if b = c ∧ x = k ∧ d ≤ y ∧ y < d + n then M a i (y - d + s) else M b x y
def qloop {σ ρ : Type} (f : σ → Option (ρ ⊕ σ)) : Nat → σ → Option ρ
  | 0, _ => none
  | n + 1, s => match f s with
    | none => none
    | some (.inl r) => some r
    | some (.inr s') => qloop f n s'
def qsw (M : qm) (a b : Nat) : qm := fun c i j => if c = a then M b i j else if c = b then M a i j else M c i j
def qnew (M : qm) (d : Nat) (n : Int) : qm := fun b i j => if b = d then (if i = -1 ∧ j = 0 then n else 0) else M b i j
def qT2 (i : Int) : Int := ([1, 0, -1, 0] : List Int).getD i.toNat 0
def qT3 (i : Int) : Int := ([0, 1, 0, -1] : List Int).getD i.toNat 0
def qT4 (i : Int) : Int := ([1, 0, 3, 2] : List Int).getD i.toNat 0
def qT1 (i : Int) : Int := ([43, 45, 42, 47, 40, 41, 60, 61, 62, 58, 59, 33, 64] : List Int).getD i.toNat 0
def qT5 (i : Int) : Int := ([0, 0, 2, 2, 2, 2, 2, 2, 2, 2, 2, 2, 2, 1, 3, 1, 1, 1, 2, 2, 0, 1, 1, 2, 2, 1] : List Int).getD i.toNat 0
