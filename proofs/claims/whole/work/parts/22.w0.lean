/-! the fresh pair, seen (wip/gen/s0.py prints it) -/
theorem s0_st {L : Nat} {xs : Nat → Int32} {h : jH} (O : jOlZ L xs h) {a k : Nat} {v : Int} (ha : a < 31) (e : (jiv (jhZ L xs) a k).toInt = v) : (vw h).1 a k = v := (congrArg Int32.toInt ((O a ha).2 k)).trans e
theorem s0_F {L : Nat} {xs : Nat → Int32} {h : jH} (F : jFr h) (O : jOlZ L xs h) : pS0 (vw h) := by
  have I : ∀ (q : Nat) (v : Int32), jtI.lookup q = some v → (vw h).1 (q / 128) (q % 128) = v.toInt := fun q v g => congrArg Int32.toInt (F.2.2.1 q v g)
  have A : ∀ a : Nat, jtAr.contains a = true → ∀ k : Nat, (vw h).1 a k = 0 ∧ (vw h).2.1 a k = 0 := fun a g k => ⟨by
    show (jiv h a k).toInt = 0
    rw [(F.2.2.2.1 a g k).1]
    decide, by
    show (jlv h a k).toInt = 0
    rw [(F.2.2.2.1 a g k).2]
    decide⟩
  have NN : ∀ a : Nat, jtN.contains a = true → ∀ k : Nat, (vw h).2.2.1 a k = none := F.2.2.2.2.2.1
  have i78_2 : (vw h).1 78 2 = 10 := (I 9986 10 rfl : (vw h).1 78 2 = _).trans (by decide)
  have i78_3 : (vw h).1 78 3 = 10 := (I 9987 10 rfl : (vw h).1 78 3 = _).trans (by decide)
  have i78_4 : (vw h).1 78 4 = 5 := (I 9988 5 rfl : (vw h).1 78 4 = _).trans (by decide)
  have i78_5 : (vw h).1 78 5 = 20 := (I 9989 20 rfl : (vw h).1 78 5 = _).trans (by decide)
  have i78_6 : (vw h).1 78 6 = 2 := (I 9990 2 rfl : (vw h).1 78 6 = _).trans (by decide)
  have i125_23 : (vw h).1 125 23 = 10 := (I 16023 10 rfl : (vw h).1 125 23 = _).trans (by decide)
  have i125_24 : (vw h).1 125 24 = 10 := (I 16024 10 rfl : (vw h).1 125 24 = _).trans (by decide)
  have i125_25 : (vw h).1 125 25 = 5 := (I 16025 5 rfl : (vw h).1 125 25 = _).trans (by decide)
  have i125_26 : (vw h).1 125 26 = 20 := (I 16026 20 rfl : (vw h).1 125 26 = _).trans (by decide)
  have i125_27 : (vw h).1 125 27 = 2 := (I 16027 2 rfl : (vw h).1 125 27 = _).trans (by decide)
  have i87_3 : (vw h).1 87 3 = 0 := (I 11139 0 rfl : (vw h).1 87 3 = _).trans (by decide)
  have i125_36 : (vw h).1 125 36 = 0 := (I 16036 0 rfl : (vw h).1 125 36 = _).trans (by decide)
  have i87_13 : (vw h).1 87 13 = 0 := (I 11149 0 rfl : (vw h).1 87 13 = _).trans (by decide)
  have i31_12 : (vw h).1 31 12 = 0 := (I 3980 0 rfl : (vw h).1 31 12 = _).trans (by decide)
  have i125_1 : (vw h).1 125 1 = 0 := (I 16001 0 rfl : (vw h).1 125 1 = _).trans (by decide)
  have i68_1 : (vw h).1 68 1 = 0 := (I 8705 0 rfl : (vw h).1 68 1 = _).trans (by decide)
  have i125_8 : (vw h).1 125 8 = 0 := (I 16008 0 rfl : (vw h).1 125 8 = _).trans (by decide)
  have i68_2 : (vw h).1 68 2 = -1 := (I 8706 (-1) rfl : (vw h).1 68 2 = _).trans (by decide)
  have i125_13 : (vw h).1 125 13 = -1 := (I 16013 (-1) rfl : (vw h).1 125 13 = _).trans (by decide)
  have i32_18 : (vw h).1 32 18 = 0 := (I 4114 0 rfl : (vw h).1 32 18 = _).trans (by decide)
  have i32_19 : (vw h).1 32 19 = 1 := (I 4115 1 rfl : (vw h).1 32 19 = _).trans (by decide)
  have nx : (vw h).2.2.2.2 = 174 := F.2.2.2.2.2.2
  refine ⟨⟨fun j => (A 126 rfl j).1, fun j => (A 132 rfl j).1⟩, fun f hf => ?_, ⟨i32_18, i32_19⟩, ⟨⟨⟨s0_st (k := 0) O (by decide) rfl, s0_st (k := 1) O (by decide) rfl, s0_st (k := 2) O (by decide) rfl, s0_st (k := 3) O (by decide) rfl, s0_st (k := 4) O (by decide) rfl, s0_st (k := 5) O (by decide) rfl⟩, s0_st (k := 0) O (by decide) rfl, s0_st (k := 1) O (by decide) rfl, s0_st (k := 2) O (by decide) rfl, s0_st (k := 3) O (by decide) rfl, s0_st (k := 4) O (by decide) rfl, s0_st (k := 5) O (by decide) rfl⟩, ⟨⟨s0_st (k := 0) O (by decide) rfl, s0_st (k := 1) O (by decide) rfl, s0_st (k := 2) O (by decide) rfl, s0_st (k := 3) O (by decide) rfl, s0_st (k := 4) O (by decide) rfl, s0_st (k := 5) O (by decide) rfl, s0_st (k := 6) O (by decide) rfl, s0_st (k := 7) O (by decide) rfl⟩, ⟨s0_st (k := 0) O (by decide) rfl, s0_st (k := 1) O (by decide) rfl, s0_st (k := 2) O (by decide) rfl, s0_st (k := 3) O (by decide) rfl, s0_st (k := 4) O (by decide) rfl, s0_st (k := 5) O (by decide) rfl, s0_st (k := 6) O (by decide) rfl, s0_st (k := 7) O (by decide) rfl⟩⟩, ⟨?_, ?_, ?_, ?_, ?_, ?_, ?_, ?_, ?_, ?_, ?_, ?_, ?_⟩⟩, fun h _ => (A 74 rfl h).1, ⟨⟨by rw [i78_2, i125_23], by rw [i78_3, i125_24], by rw [i78_4, i125_25], by rw [i78_5, i125_26], by rw [i78_6, i125_27]⟩, ⟨by rw [i125_23]; omega, by rw [i125_24]; omega, by rw [i125_25]; omega, by rw [i125_26]; omega⟩, by rw [i125_27]; omega⟩, ⟨i87_3, i125_36⟩, ⟨by rw [(A 86 rfl 2).1]; exact Int.le_refl 0, by rw [(A 101 rfl 2).1]; exact Int.le_refl 0, by rw [(A 105 rfl 2).1]; exact Int.le_refl 0, by rw [(A 111 rfl 2).1]; exact Int.le_refl 0, by rw [(A 114 rfl 2).1]; exact Int.le_refl 0, by rw [(A 119 rfl 2).1]; exact Int.le_refl 0, by rw [i87_13]; exact Int.le_refl 0⟩, by rw [i31_12, i125_1], ⟨i68_1, i125_8, fun i _ => by rw [(A 69 rfl i).1, (A 131 rfl i).1], by rw [i68_2, i125_13]⟩, funext fun k => by rw [(A 123 rfl k).1, (A 173 rfl k).1], fun k => by rw [(A 65 rfl k).2, (A 129 rfl k).2], fun k _ => ⟨NN 67 rfl k, (A 128 rfl k).1⟩, fun c k T hc hT => ?_⟩
  · have g : f = 0 ∨ f = 1 ∨ f = 2 ∨ f = 3 ∨ f = 4 ∨ f = 5 ∨ f = 6 ∨ f = 7 ∨ f = 8 ∨ f = 9 ∨ f = 10 ∨ f = 11 ∨ f = 12 ∨ f = 13 ∨ f = 14 ∨ f = 15 := by omega
    rcases g with rfl | rfl | rfl | rfl | rfl | rfl | rfl | rfl | rfl | rfl | rfl | rfl | rfl | rfl | rfl | rfl
    · exact (I 4227 0 rfl : (vw h).1 33 3 = _).trans (by decide)
    · exact (I 4483 0 rfl : (vw h).1 35 3 = _).trans (by decide)
    · exact (I 4739 0 rfl : (vw h).1 37 3 = _).trans (by decide)
    · exact (I 4995 0 rfl : (vw h).1 39 3 = _).trans (by decide)
    · exact (I 5251 0 rfl : (vw h).1 41 3 = _).trans (by decide)
    · exact (I 5507 0 rfl : (vw h).1 43 3 = _).trans (by decide)
    · exact (I 5763 0 rfl : (vw h).1 45 3 = _).trans (by decide)
    · exact (I 6019 0 rfl : (vw h).1 47 3 = _).trans (by decide)
    · exact (I 6275 0 rfl : (vw h).1 49 3 = _).trans (by decide)
    · exact (I 6531 0 rfl : (vw h).1 51 3 = _).trans (by decide)
    · exact (I 6787 0 rfl : (vw h).1 53 3 = _).trans (by decide)
    · exact (I 7043 0 rfl : (vw h).1 55 3 = _).trans (by decide)
    · exact (I 7299 0 rfl : (vw h).1 57 3 = _).trans (by decide)
    · exact (I 7555 0 rfl : (vw h).1 59 3 = _).trans (by decide)
    · exact (I 7811 0 rfl : (vw h).1 61 3 = _).trans (by decide)
    · exact (I 8067 0 rfl : (vw h).1 63 3 = _).trans (by decide)
  · have q : ∀ i : Fin (wJn ws_5).length, ((jsB 0).getD i.1 0).toInt = (wJn ws_5).getD i.1 0 := by decide +kernel
    intro i hi
    exact s0_st O (by decide) (q ⟨i, hi⟩)
  · have q : ∀ i : Fin (wJn ws_6).length, ((jsB 1).getD i.1 0).toInt = (wJn ws_6).getD i.1 0 := by decide +kernel
    intro i hi
    exact s0_st O (by decide) (q ⟨i, hi⟩)
  · have q : ∀ i : Fin (wJn ws_7).length, ((jsB 2).getD i.1 0).toInt = (wJn ws_7).getD i.1 0 := by decide +kernel
    intro i hi
    exact s0_st O (by decide) (q ⟨i, hi⟩)
  · have q : ∀ i : Fin (wJn ws_8).length, ((jsB 3).getD i.1 0).toInt = (wJn ws_8).getD i.1 0 := by decide +kernel
    intro i hi
    exact s0_st O (by decide) (q ⟨i, hi⟩)
  · have q : ∀ i : Fin (wJn ws_9).length, ((jsB 4).getD i.1 0).toInt = (wJn ws_9).getD i.1 0 := by decide +kernel
    intro i hi
    exact s0_st O (by decide) (q ⟨i, hi⟩)
  · have q : ∀ i : Fin (wJn ws_10).length, ((jsB 5).getD i.1 0).toInt = (wJn ws_10).getD i.1 0 := by decide +kernel
    intro i hi
    exact s0_st O (by decide) (q ⟨i, hi⟩)
  · have q : ∀ i : Fin (wJn ws_11).length, ((jsB 6).getD i.1 0).toInt = (wJn ws_11).getD i.1 0 := by decide +kernel
    intro i hi
    exact s0_st O (by decide) (q ⟨i, hi⟩)
  · have q : ∀ i : Fin (wJn ws_12).length, ((jsB 7).getD i.1 0).toInt = (wJn ws_12).getD i.1 0 := by decide +kernel
    intro i hi
    exact s0_st O (by decide) (q ⟨i, hi⟩)
  · have q : ∀ i : Fin (wJn ws_13).length, ((jsB 8).getD i.1 0).toInt = (wJn ws_13).getD i.1 0 := by decide +kernel
    intro i hi
    exact s0_st O (by decide) (q ⟨i, hi⟩)
  · have q : ∀ i : Fin (wJn ws_14).length, ((jsB 9).getD i.1 0).toInt = (wJn ws_14).getD i.1 0 := by decide +kernel
    intro i hi
    exact s0_st O (by decide) (q ⟨i, hi⟩)
  · have q : ∀ i : Fin (wJn ws_15).length, ((jsB 10).getD i.1 0).toInt = (wJn ws_15).getD i.1 0 := by decide +kernel
    intro i hi
    exact s0_st O (by decide) (q ⟨i, hi⟩)
  · have q : ∀ i : Fin (wJn ws_16).length, ((jsB 11).getD i.1 0).toInt = (wJn ws_16).getD i.1 0 := by decide +kernel
    intro i hi
    exact s0_st O (by decide) (q ⟨i, hi⟩)
  · have q : ∀ i : Fin (wJn ws_17).length, ((jsB 12).getD i.1 0).toInt = (wJn ws_17).getD i.1 0 := by decide +kernel
    intro i hi
    exact s0_st O (by decide) (q ⟨i, hi⟩)
  · rcases hc with rfl | hc
    · rw [NN 66 rfl k] at hT; cases hT
    · rw [nx] at hc; omega
