/-! views: all that a heap holds, as numbers; exact arithmetic -/
abbrev jW := (Nat → Nat → Int) × (Nat → Nat → Int) × (Nat → Nat → Option Nat) × (Nat → Nat × Nat) × Nat
def vu (W : jW) (a k : Nat) (x : Int) : jW := (fun b j => if b = a ∧ j = k then x else W.1 b j, W.2)
def vuL (W : jW) (a k : Nat) (x : Int) : jW := (W.1, fun b j => if b = a ∧ j = k then x else W.2.1 b j, W.2.2)
def vuR (W : jW) (a k : Nat) (x : Option Nat) : jW := (W.1, W.2.1, fun b j => if b = a ∧ j = k then x else W.2.2.1 b j, W.2.2.2)
def vuC (W : jW) (a b i j l : Nat) : jW := (fun c m => if c = b ∧ j ≤ m ∧ m < j + l then W.1 a (i + (m - j)) else W.1 c m, W.2)
def d_head (t : Nat) (x y : Int) (W : jW) : Int := if x < 0 then -1 else if W.1 t 3 ≤ x then -1 else if y < 0 then -1 else if y < 6 then W.1 ((W.2.2.1 t 4).getD 0) (x * 6 + y).toNat else -1
def j_iadd (x y : Int) : Int := ((Int32.ofInt x) + (Int32.ofInt y)).toInt
def j_isub (x y : Int) : Int := ((Int32.ofInt x) - (Int32.ofInt y)).toInt
def j_imul (x y : Int) : Int := ((Int32.ofInt x) * (Int32.ofInt y)).toInt
def j_iand (x y : Int) : Int := ((Int32.ofInt x) &&& (Int32.ofInt y)).toInt
def j_ior (x y : Int) : Int := ((Int32.ofInt x) ||| (Int32.ofInt y)).toInt
def j_ixor (x y : Int) : Int := ((Int32.ofInt x) ^^^ (Int32.ofInt y)).toInt
def j_ishl (x y : Int) : Int := ((Int32.ofInt x) <<< ((Int32.ofInt y) &&& 31)).toInt
def j_ishr (x y : Int) : Int := ((Int32.ofInt x) >>> ((Int32.ofInt y) &&& 31)).toInt
def j_iushr (x y : Int) : Int := ((((Int32.ofInt x)).toUInt32 >>> (((Int32.ofInt y)).toUInt32 &&& Int32.toUInt32 31)).toInt32).toInt
def j_idiv (x y : Int) : Int := ((Int32.ofInt x) / (Int32.ofInt y)).toInt
def j_ladd (x y : Int) : Int := (Int64.ofInt x + Int64.ofInt y).toInt
def j_lsub (x y : Int) : Int := (Int64.ofInt x - Int64.ofInt y).toInt
def j_lmul (x y : Int) : Int := (Int64.ofInt x * Int64.ofInt y).toInt
def j_ldiv (x y : Int) : Int := (Int64.ofInt x / Int64.ofInt y).toInt
def j_lrem (x y : Int) : Int := (Int64.ofInt x - Int64.ofInt x / Int64.ofInt y * Int64.ofInt y).toInt
def j_l2i (x : Int) : Int := (Int64.ofInt x).toInt32.toInt
def j_iabs (x : Int) : Int := if 0 ≤ x then x else (0 - Int32.ofInt x).toInt
def j_lneg (x : Int) : Int := (-(Int64.ofInt x)).toInt
def j_labs (x : Int) : Int := if 0 < x then x else j_lneg x
