theorem jnam {m w v : Int} (hv : v = 20 + 90 * (m / 3) + 6 + 28 * (m % 3) + 14 * w) (h0 : 0 ≤ w) (h1 : w ≤ 1) : v % 90 = 26 ∨ v % 90 = 40 ∨ v % 90 = 54 ∨ v % 90 = 68 ∨ v % 90 = 82 ∨ v % 90 = 6 := by
  have a : m % 3 = 0 ∨ m % 3 = 1 ∨ m % 3 = 2 := by omega
  have b : w = 0 ∨ w = 1 := by omega
  rcases a with a | a | a <;> rcases b with b | b <;> omega
