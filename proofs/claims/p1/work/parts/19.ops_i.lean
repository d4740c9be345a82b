/-! writes at a name -/
section RD2
variable {h : jH} {a b k j i l p : Nat}
theorem jcl_ne {x y : Int32} (e : ¬ x.toInt = y.toInt) (h0 : 0 ≤ x.toInt) (h1 : 0 ≤ y.toInt) : (Nat.beq a b && Nat.beq x.toNatClampNeg y.toNatClampNeg) = false := by
  have e2 : Nat.beq x.toNatClampNeg y.toNatClampNeg = false := by
    cases q : Nat.beq x.toNatClampNeg y.toNatClampNeg
    · rfl
    · have q2 : x.toInt.toNat = y.toInt.toNat := Nat.eq_of_beq_eq_true q
      exact absurd (by omega) e
  rw [e2, Bool.and_false]
theorem iv_sx {x y v w : Int32} (e : ¬ x.toInt = y.toInt) (h0 : 0 ≤ x.toInt) (h1 : 0 ≤ y.toInt) (H : jiv h a x.toNatClampNeg = w) : jiv (jsi h b y.toNatClampNeg v) a x.toNatClampNeg = w := iv_si (jcl_ne e h0 h1) H
theorem lv_sx {x y : Int32} {v w : Int64} (e : ¬ x.toInt = y.toInt) (h0 : 0 ≤ x.toInt) (h1 : 0 ≤ y.toInt) (H : jlv h a x.toNatClampNeg = w) : jlv (jsl h b y.toNatClampNeg v) a x.toNatClampNeg = w := lv_sl (jcl_ne e h0 h1) H
theorem jnneg {x : Int32} (e : 0 ≤ x.toInt) : ¬ x < 0 := by
  rw [Int32.lt_iff_toInt_lt]
  have : (0 : Int32).toInt = 0 := by decide
  omega
theorem jclb {x : Int32} {l N : Nat} (e : 0 ≤ x.toInt ∧ x.toInt + l ≤ N) : x.toNatClampNeg + l ≤ N := by
  show x.toInt.toNat + l ≤ N
  omega
end RD2
