theorem jp158 {Dy : jH → Prop} {h : jH} (J : jJ jSgM Dy h) : ∀ i : Nat, i < 8 → 0 ≤ (jiv h 158 i).toInt ∧ (jiv h 158 i).toInt ≤ 720 := fun i hi => J.2.1 _ sg_158_0_8_1_0_1 i ⟨Nat.zero_le _, hi, Nat.zero_le _, by show (i - 0) % 1 < 1; omega⟩
theorem jp74 {Dy : jH → Prop} {h : jH} (J : jJ jSgM Dy h) : (jiv h 125 74).toInt ≤ 6 := (jrg_f J sg_125_74_75_1_0_1).2
