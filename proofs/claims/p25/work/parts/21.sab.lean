theorem jp158 {Dy : jH → Prop} {h : jH} (J : jJ jSgM Dy h) : ∀ i : Nat, i < 8 → 0 ≤ (jiv h 158 i).toInt ∧ (jiv h 158 i).toInt ≤ 720 := fun i hi => J.2.1 _ sg_158_0_8_1_0_1 i ⟨Nat.zero_le _, hi, Nat.zero_le _, by show (i - 0) % 1 < 1; omega⟩
theorem jp74 {Dy : jH → Prop} {h : jH} (J : jJ jSgM Dy h) : (jiv h 125 74).toInt ≤ 6 := (jrg_f J sg_125_74_75_1_0_1).2
theorem jPn_b {Dy : jH → Prop} {h : jH} {l : Int32} (J : jJ jSgM Dy h) (hl : 48300 ≤ l.toInt ∧ l.toInt ≤ 48456 ∧ l.toInt % 4 = 0) : 0 ≤ jPn h l ∧ jPn h l ≤ 1000000 := by
  have a := jcl_of (d := l) (by omega)
  exact J.2.1 _ sg_126_48300_48460_4_2_3 (l.toNatClampNeg + 2) ⟨by show 48300 ≤ _; omega, by show _ < 48460; omega, by show 2 ≤ (_ - 48300) % 4; omega, by show (_ - 48300) % 4 < 3; omega⟩
