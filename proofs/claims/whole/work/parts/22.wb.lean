/-! the copy of back() of the class, as a function -/
theorem jw8_w : ∀ f, f < 16 → (jw8 f).toInt = ((wdl.getD f 0 : Nat) : Int) := j16 ⟨by decide, by decide, by decide, by decide, by decide, by decide, by decide, by decide, by decide, by decide, by decide, by decide, by decide, by decide, by decide, by decide⟩
theorem cd_v {a : Nat} {h h2 : jH} (C : jCd 32 a h h2) : cdV a (vw h) = vw h2 := by
  obtain ⟨c1, c2, c3, c4, c5, c6, c7, c8, c9, c10, c11⟩ := C
  refine Prod.ext (funext fun b => funext fun k => ?_) (Prod.ext (funext fun b => funext fun k => ?_) (Prod.ext (funext fun b => funext fun k => ?_) (Prod.ext (funext fun b => (c2 b).symm) c1.symm)))
  · show (if b = 32 then (if k = 18 then (jiv h a 18).toInt else (jiv h b k).toInt) else if 33 ≤ b ∧ b ≤ 64 then (if b % 2 = 1 then (if k = 3 then (jiv h (a + (b - 32)) 3).toInt else (jiv h b k).toInt) else (if k < (((wdl.getD ((b - 34) / 2) 0 : Nat) : Int) * (jiv h (a + (b - 33)) 3).toInt).toNat then (jiv h (a + (b - 32)) k).toInt else (jiv h b k).toInt)) else (jiv h b k).toInt) = (jiv h2 b k).toInt
    by_cases z : b = 32
    · rw [if_pos z, z]
      by_cases y : k = 18
      · rw [if_pos y, y, c9]
      · rw [if_neg y, c10 k y]
    rw [if_neg z]
    by_cases z2 : 33 ≤ b ∧ b ≤ 64
    · rw [if_pos z2]
      by_cases o : b % 2 = 1
      · rw [if_pos o]
        obtain ⟨f, hf⟩ : ∃ f, b = 32 + 1 + 2 * f := ⟨(b - 33) / 2, by omega⟩
        obtain ⟨d1, d2, d3⟩ := c11 f (by omega)
        rw [hf]
        by_cases y : k = 3
        · rw [if_pos y, y, d1, show a + (32 + 1 + 2 * f - 32) = a + 1 + 2 * f from by omega]
        · rw [if_neg y, d2 k y]
      · rw [if_neg o]
        obtain ⟨f, hf⟩ : ∃ f, b = 32 + 2 + 2 * f := ⟨(b - 34) / 2, by omega⟩
        obtain ⟨d1, d2, d3⟩ := c11 f (by omega)
        rw [hf, d3 k, show (32 + 2 + 2 * f - 34) / 2 = f from by omega, show a + (32 + 2 + 2 * f - 33) = a + 1 + 2 * f from by omega, show a + (32 + 2 + 2 * f - 32) = a + 2 + 2 * f from by omega, ← jw8_w f (by omega)]
        show (if k < ju8 h a f then _ else _) = _
        by_cases y : k < ju8 h a f
        · rw [if_pos y, if_pos y]
        · rw [if_neg y, if_neg y]
    · rw [if_neg z2, c8 b (by omega) k]
  · show (if b = 65 ∧ k < 1600 then (jlv h (a + 33) k).toInt else (jlv h b k).toInt) = (jlv h2 b k).toInt
    by_cases z : b = 65
    · rw [z]
      have := c7 k
      by_cases y : k < 1600
      · rw [if_pos ⟨rfl, y⟩, show (65 : Nat) = 32 + 33 from rfl, c7 k, if_pos y]
      · rw [if_neg (fun u => y u.2), show (65 : Nat) = 32 + 33 from rfl, c7 k, if_neg y]
    · rw [if_neg (fun u => z u.1), c6 b k (by omega)]
  · show (if b = 66 ∧ k < 30 then jrv h (a + 34) k else jrv h b k) = jrv h2 b k
    by_cases z : b = 66
    · rw [z]
      by_cases y : k < 30
      · rw [if_pos ⟨rfl, y⟩]; exact (c4 k y).symm
      · rw [if_neg (fun u => y u.2)]; exact (c5 k (by omega)).symm
    · rw [if_neg (fun u => z u.1), c3 b k (by omega)]
