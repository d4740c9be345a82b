section jG88
/-! pure: fill: TORN PAGES, LINES within a span, the most -/
/-- TORN i is of BOOK bk, and known -/
def sTn (r : Nat → Int) (bk kn : Int) (i : Nat) : Prop := r (18740 + 4 * i) = bk ∧ r (18743 + 4 * i) ≤ kn
def sTw (r : Nat → Int) (bk kn a b : Int) : Prop := ∃ i : Nat, (i : Int) < r 3 ∧ sTn r bk kn i ∧ r (18741 + 4 * i) ≤ b ∧ a ≤ r (18742 + 4 * i)
section
variable {X M : jW} {r : Nat → Int} {bk kn a b : Int}
theorem tr_at (h : pT X 32 pt_4 r) {i : Nat} (hi : (i : Int) < r 3) : d_X8_isKnown_r41d (i : Int) kn X = (if kn < r (18743 + 4 * i) then 0 else 1) ∧ d_X8_at_r41_c3d (i : Int) X = r (18740 + 4 * i) ∧ d_X8_at_r41_c1d (i : Int) X = r (18741 + 4 * i) ∧ d_X8_at_r41_c2d (i : Int) X = r (18742 + 4 * i) := by
  have k := kn_41 h (k := kn) (show (0 : Int) ≤ (i : Int) from by omega) hi
  have a1 := at_41_1 h (show (0 : Int) ≤ (i : Int) from by omega) hi
  have a2 := at_41_2 h (show (0 : Int) ≤ (i : Int) from by omega) hi
  have a3 := at_41_3 h (show (0 : Int) ≤ (i : Int) from by omega) hi
  rw [show (18740 + 4 * (i : Int) + 3).toNat = 18743 + 4 * i from by omega] at k
  rw [show (18740 + 4 * (i : Int) + 1).toNat = 18741 + 4 * i from by omega] at a1
  rw [show (18740 + 4 * (i : Int) + 2).toNat = 18742 + 4 * i from by omega] at a2
  rw [show (18740 + 4 * (i : Int) + 0).toNat = 18740 + 4 * i from by omega] at a3
  exact ⟨k, a3, a1, a2⟩
theorem xtw3 (h : pT X 32 pt_4 r) : ∀ (c i f : Nat), (i : Int) + (c : Int) = r 3 → c < f → d_X11_isTornWithin_r31d_3 f bk a b kn (i : Int) X = tv (∃ j : Nat, i ≤ j ∧ (j : Int) < r 3 ∧ sTn r bk kn j ∧ r (18741 + 4 * j) ≤ b ∧ a ≤ r (18742 + 4 * j)) := by
  have e3 : X.1 41 3 = r 3 := h.1
  intro c
  induction c with
  | zero =>
    intro i f e hf
    obtain ⟨f, rfl⟩ : ∃ q, f = q + 1 := ⟨f - 1, by omega⟩
    rw [tv_f (fun ⟨j, j1, j2, _⟩ => by omega)]
    exact if_pos (by omega)
  | succ c ih =>
    intro i f e hf
    obtain ⟨f, rfl⟩ : ∃ q, f = q + 1 := ⟨f - 1, by omega⟩
    obtain ⟨t1, t2, t3, t4⟩ := tr_at (kn := kn) h (i := i) (by omega)
    have nx := ih (i + 1) f (by omega) (by omega)
    rw [show ((i + 1 : Nat) : Int) = (i : Int) + 1 from by omega] at nx
    have st : d_X11_isTornWithin_r31d_3 (f + 1) bk a b kn (i : Int) X = if r (18743 + 4 * i) ≤ kn ∧ r (18740 + 4 * i) = bk ∧ r (18741 + 4 * i) ≤ b ∧ a ≤ r (18742 + 4 * i) then 1 else d_X11_isTornWithin_r31d_3 f bk a b kn ((i : Int) + 1) X := by
      refine (if_neg (by omega)).trans ?_
      unfold d_X11_isTornWithin_r31d_66
      rw [t1, t2, t3, t4]
      by_cases c1 : kn < r (18743 + 4 * i)
      · rw [if_pos c1, if_pos rfl, if_neg (fun z => by omega)]
      · rw [if_neg c1, if_neg (by decide)]
        by_cases c2 : r (18740 + 4 * i) = bk
        · rw [if_pos c2]
          by_cases c3 : b < r (18741 + 4 * i)
          · rw [if_pos c3, if_neg (fun z => by omega)]
          · rw [if_neg c3]
            by_cases c4 : r (18742 + 4 * i) < a
            · rw [if_pos c4, if_neg (fun z => by omega)]
            · rw [if_neg c4, if_pos ⟨by omega, c2, by omega, by omega⟩]
        · rw [if_neg c2, if_neg (fun z => c2 z.2.1)]
    rw [st]
    by_cases q : r (18743 + 4 * i) ≤ kn ∧ r (18740 + 4 * i) = bk ∧ r (18741 + 4 * i) ≤ b ∧ a ≤ r (18742 + 4 * i)
    · rw [if_pos q, tv_t ⟨i, Nat.le_refl i, by omega, ⟨q.2.1, q.1⟩, q.2.2.1, q.2.2.2⟩]
    · rw [if_neg q, nx]
      refine tv_c ⟨fun ⟨j, j1, j2⟩ => ⟨j, by omega, j2⟩, fun ⟨j, j1, j2, j3, j4, j5⟩ => ?_⟩
      by_cases z : j = i
      · rw [z] at j3 j4 j5
        exact absurd ⟨j3.2, j3.1, j4, j5⟩ q
      · exact ⟨j, by omega, j2, j3, j4, j5⟩
/-- the class: is anything torn from a to b -/
theorem xtw (h : pT X 32 pt_4 r) : d_X11_isTornWithin_r31d bk a b kn X = tv (sTw r bk kn a b) := by
  have hb : 0 ≤ r 3 ∧ r 3 ≤ 20 := h.2.1
  refine (xtw3 h (r 3).toNat 0 21 (by omega) (by omega)).trans (tv_c ⟨fun ⟨j, _, j2⟩ => ⟨j, j2⟩, fun ⟨j, j2⟩ => ⟨j, Nat.zero_le j, j2⟩⟩)
theorem mtw6 (e126 : M.1 126 = r) (e28 : M.1 125 28 = kn) : ∀ (c i f : Nat) (x : Int), (i : Int) + (c : Int) = r 3 → c < f → (x = 0 ∨ x = 1) → d_X12_isTorn_r125d_6 f bk a b x (i : Int) M = if x = 1 then 1 else tv (∃ j : Nat, i ≤ j ∧ (j : Int) < r 3 ∧ sTn r bk kn j ∧ r (18741 + 4 * j) ≤ b ∧ a ≤ r (18742 + 4 * j)) := by
  intro c
  induction c with
  | zero =>
    intro i f x e hf hx
    obtain ⟨f, rfl⟩ : ∃ q, f = q + 1 := ⟨f - 1, by omega⟩
    rw [tv_f (fun ⟨j, j1, j2, _⟩ => by omega)]
    refine (if_pos (by rw [e126]; omega)).trans ?_
    rcases hx with hx | hx
    · rw [hx, if_neg (by decide)]
    · rw [hx, if_pos rfl]
  | succ c ih =>
    intro i f x e hf hx
    obtain ⟨f, rfl⟩ : ∃ q, f = q + 1 := ⟨f - 1, by omega⟩
    have nx := fun y hy => ih (i + 1) f y (by omega) (by omega) hy
    rw [show ((i + 1 : Nat) : Int) = (i : Int) + 1 from by omega] at nx
    have n0 := nx 0 (Or.inl rfl)
    have n1 := nx 1 (Or.inr rfl)
    rw [if_neg (by decide)] at n0
    rw [if_pos rfl] at n1
    have st : d_X12_isTorn_r125d_6 (f + 1) bk a b x (i : Int) M = if x = 0 then (if r (18743 + 4 * i) ≤ kn ∧ r (18740 + 4 * i) = bk ∧ r (18741 + 4 * i) ≤ b ∧ a ≤ r (18742 + 4 * i) then d_X12_isTorn_r125d_6 f bk a b 1 ((i : Int) + 1) M else d_X12_isTorn_r125d_6 f bk a b 0 ((i : Int) + 1) M) else d_X12_isTorn_r125d_6 f bk a b 1 ((i : Int) + 1) M := by
      refine (if_neg (by rw [e126]; omega)).trans ?_
      unfold d_X12_isTorn_r125d_89 d_X12_isTorn_r125d_85 d_X12_isTorn_r125d_200090 d_X12_isTorn_r125d_300090
      rw [e126, e28, show (18740 + 4 * (i : Int) + 3).toNat = 18743 + 4 * i from by omega, show (18740 + 4 * (i : Int) + 1).toNat = 18741 + 4 * i from by omega, show (18740 + 4 * (i : Int) + 2).toNat = 18742 + 4 * i from by omega, show (18740 + 4 * (i : Int)).toNat = 18740 + 4 * i from by omega]
      by_cases cx : x = 0
      · rw [if_pos cx, if_pos cx]
        by_cases c2 : r (18740 + 4 * i) = bk
        · rw [if_pos c2]
          by_cases c1 : kn < r (18743 + 4 * i)
          · rw [if_pos c1, if_neg (fun z => by omega)]
          · rw [if_neg c1]
            by_cases c3 : b < r (18741 + 4 * i)
            · rw [if_pos c3, if_neg (fun z => by omega)]
            · rw [if_neg c3]
              by_cases c4 : r (18742 + 4 * i) < a
              · rw [if_pos c4, if_neg (fun z => by omega)]
              · rw [if_neg c4, if_pos ⟨by omega, c2, by omega, by omega⟩]
        · rw [if_neg c2, if_neg (fun z => c2 z.2.1)]
      · rw [if_neg cx, if_neg cx]
    rw [st]
    rcases hx with hx | hx
    · rw [if_pos hx, if_neg (show ¬ x = 1 from by omega)]
      by_cases q : r (18743 + 4 * i) ≤ kn ∧ r (18740 + 4 * i) = bk ∧ r (18741 + 4 * i) ≤ b ∧ a ≤ r (18742 + 4 * i)
      · rw [if_pos q, n1, tv_t ⟨i, Nat.le_refl i, by omega, ⟨q.2.1, q.1⟩, q.2.2.1, q.2.2.2⟩]
      · rw [if_neg q, n0]
        refine tv_c ⟨fun ⟨j, j1, j2⟩ => ⟨j, by omega, j2⟩, fun ⟨j, j1, j2, j3, j4, j5⟩ => ?_⟩
        by_cases z : j = i
        · rw [z] at j3 j4 j5
          exact absurd ⟨j3.2, j3.1, j4, j5⟩ q
        · exact ⟨j, by omega, j2, j3, j4, j5⟩
    · rw [if_neg (show ¬ x = 0 from by omega), if_pos hx, n1]
/-- the reference -/
theorem mtw (e126 : M.1 126 = r) (e28 : M.1 125 28 = kn) (hb : 0 ≤ r 3 ∧ r 3 ≤ 20) : d_X12_isTorn_r125d bk a b M = tv (sTw r bk kn a b) := by
  have q := mtw6 (bk := bk) (a := a) (b := b) e126 e28 (r 3).toNat 0 21 0 (by omega) (by omega) (Or.inl rfl)
  rw [if_neg (by decide)] at q
  exact q.trans (tv_c ⟨fun ⟨j, _, j2⟩ => ⟨j, j2⟩, fun ⟨j, j2⟩ => ⟨j, Nat.zero_le j, j2⟩⟩)
/-- LINE l is of BOOK bk, known, and of a DAY from a to b -/
def sLw (r : Nat → Int) (bk kn a b : Int) (l : Nat) : Prop := r (20 + 90 * l) = bk ∧ r (23 + 90 * l) ≤ kn ∧ a ≤ r (22 + 90 * l) ∧ r (22 + 90 * l) ≤ b
noncomputable def sLn (r : Nat → Int) (bk kn a b : Int) : Nat → Int
  | 0 => 0
  | n + 1 => sLn r bk kn a b n + tv (sLw r bk kn a b n)
theorem ln_b : ∀ n : Nat, 0 ≤ sLn r bk kn a b n ∧ sLn r bk kn a b n ≤ (n : Int) := by
  intro n
  induction n with
  | zero => exact ⟨Int.le_refl _, Int.le_refl _⟩
  | succ n ih =>
    have t := @tv_b (sLw r bk kn a b n)
    show 0 ≤ sLn r bk kn a b n + tv (sLw r bk kn a b n) ∧ sLn r bk kn a b n + tv (sLw r bk kn a b n) ≤ ((n + 1 : Nat) : Int)
    omega
theorem ln_at (h : pT X 32 pt_0 r) {i : Nat} (hi : (i : Int) < r 0) : d_X8_isKnown_r33d (i : Int) kn X = (if kn < r (23 + 90 * i) then 0 else 1) ∧ d_X8_at_r33_c1d (i : Int) X = r (22 + 90 * i) ∧ d_X8_at_r33_c2d (i : Int) X = r (20 + 90 * i) := by
  have k := kn_33 h (k := kn) (show (0 : Int) ≤ (i : Int) from by omega) hi
  have a1 := at_33_1 h (show (0 : Int) ≤ (i : Int) from by omega) hi
  have a2 := at_33_2 h (show (0 : Int) ≤ (i : Int) from by omega) hi
  rw [show (20 + 90 * (i : Int) + 3).toNat = 23 + 90 * i from by omega] at k
  rw [show (20 + 90 * (i : Int) + 2).toNat = 22 + 90 * i from by omega] at a1
  rw [show (20 + 90 * (i : Int) + 0).toNat = 20 + 90 * i from by omega] at a2
  exact ⟨k, a1, a2⟩
theorem xlw6 (h : pT X 32 pt_0 r) : ∀ (c i f : Nat), (i : Int) + (c : Int) = r 0 → c < f → d_X11_linesWithin_r31d_6 f bk a b kn (sLn r bk kn a b i) (i : Int) X = sLn r bk kn a b (r 0).toNat := by
  have e3 : X.1 33 3 = r 0 := h.1
  have hb : 0 ≤ r 0 ∧ r 0 ≤ 200 := h.2.1
  intro c
  induction c with
  | zero =>
    intro i f e hf
    obtain ⟨f, rfl⟩ : ∃ q, f = q + 1 := ⟨f - 1, by omega⟩
    rw [show (r 0).toNat = i from by omega]
    exact if_pos (by omega)
  | succ c ih =>
    intro i f e hf
    obtain ⟨f, rfl⟩ : ∃ q, f = q + 1 := ⟨f - 1, by omega⟩
    obtain ⟨t1, t2, t3⟩ := ln_at (kn := kn) h (i := i) (by omega)
    have nx := ih (i + 1) f (by omega) (by omega)
    rw [show ((i + 1 : Nat) : Int) = (i : Int) + 1 from by omega] at nx
    have lb := ln_b (r := r) (bk := bk) (kn := kn) (a := a) (b := b) i
    have sl : sLn r bk kn a b (i + 1) = sLn r bk kn a b i + tv (sLw r bk kn a b i) := rfl
    refine (if_neg (by omega)).trans ?_
    unfold d_X11_linesWithin_r31d_63
    rw [t1, t2, t3]
    by_cases q : sLw r bk kn a b i
    · obtain ⟨q1, q2, q3, q4⟩ := q
      rw [tv_t ⟨q1, q2, q3, q4⟩] at sl
      rw [if_neg (by omega), if_neg (by omega), if_neg (show ¬ (if kn < r (23 + 90 * i) then (0 : Int) else 1) = 0 from by rw [if_neg (by omega)]; decide), if_pos q1, j_ia (by omega) (by omega) (by omega), ← sl]
      exact nx
    · rw [tv_f q, Int.add_zero] at sl
      rw [sl] at nx
      by_cases c1 : r (22 + 90 * i) < a
      · rw [if_pos c1]; exact nx
      · rw [if_neg c1]
        by_cases c2 : b < r (22 + 90 * i)
        · rw [if_pos c2]; exact nx
        · rw [if_neg c2]
          by_cases c3 : kn < r (23 + 90 * i)
          · rw [if_pos c3, if_pos rfl]; exact nx
          · rw [if_neg c3, if_neg (by decide), if_neg (fun z => q ⟨z, by omega, by omega, by omega⟩)]
            exact nx
theorem xlw (h : pT X 32 pt_0 r) : d_X11_linesWithin_r31d bk a b kn X = sLn r bk kn a b (r 0).toNat := by
  have hb : 0 ≤ r 0 ∧ r 0 ≤ 200 := h.2.1
  exact xlw6 h (r 0).toNat 0 201 (by omega) (by omega)
theorem mlw6 (e126 : M.1 126 = r) (e28 : M.1 125 28 = kn) (hb : 0 ≤ r 0 ∧ r 0 ≤ 200) : ∀ (c i f : Nat), (i : Int) + (c : Int) = r 0 → c < f → d_X12_linesWithin_r125d_6 f bk a b (sLn r bk kn a b i) (i : Int) M = sLn r bk kn a b (r 0).toNat := by
  intro c
  induction c with
  | zero =>
    intro i f e hf
    obtain ⟨f, rfl⟩ : ∃ q, f = q + 1 := ⟨f - 1, by omega⟩
    rw [show (r 0).toNat = i from by omega]
    exact if_pos (by rw [e126]; omega)
  | succ c ih =>
    intro i f e hf
    obtain ⟨f, rfl⟩ : ∃ q, f = q + 1 := ⟨f - 1, by omega⟩
    have nx := ih (i + 1) f (by omega) (by omega)
    rw [show ((i + 1 : Nat) : Int) = (i : Int) + 1 from by omega] at nx
    have lb := ln_b (r := r) (bk := bk) (kn := kn) (a := a) (b := b) i
    have sl : sLn r bk kn a b (i + 1) = sLn r bk kn a b i + tv (sLw r bk kn a b i) := rfl
    refine (if_neg (by rw [e126]; omega)).trans ?_
    unfold d_X12_linesWithin_r125d_63 d_X12_linesWithin_r125d_200064 d_X12_linesWithin_r125d_300064
    rw [e126, e28, show (20 + 90 * (i : Int) + 3).toNat = 23 + 90 * i from by omega, show (20 + 90 * (i : Int) + 2).toNat = 22 + 90 * i from by omega, show (20 + 90 * (i : Int)).toNat = 20 + 90 * i from by omega]
    by_cases q : sLw r bk kn a b i
    · obtain ⟨q1, q2, q3, q4⟩ := q
      rw [tv_t ⟨q1, q2, q3, q4⟩] at sl
      rw [if_pos q1, if_neg (by omega), if_pos ⟨q3, q4⟩, j_ia (by omega) (by omega) (by omega), ← sl]
      exact nx
    · rw [tv_f q, Int.add_zero] at sl
      rw [sl] at nx
      rw [Int.add_zero]
      by_cases c1 : r (20 + 90 * i) = bk
      · rw [if_pos c1]
        by_cases c3 : kn < r (23 + 90 * i)
        · rw [if_pos c3]; exact nx
        · rw [if_neg c3, if_neg (fun z => q ⟨c1, by omega, z.1, z.2⟩)]
          exact nx
      · rw [if_neg c1]; exact nx
theorem mlw (e126 : M.1 126 = r) (e28 : M.1 125 28 = kn) (hb : 0 ≤ r 0 ∧ r 0 ≤ 200) : d_X12_linesWithin_r125d bk a b M = sLn r bk kn a b (r 0).toNat := mlw6 e126 e28 hb (r 0).toNat 0 201 (by omega) (by omega)
/-- the most in w + 1 DAYS -/
noncomputable def sMo2 (r : Nat → Int) (bk kn w : Int) : Nat → Int
  | 0 => 0
  | n + 1 => if tv (r (20 + 90 * n) = bk ∧ r (23 + 90 * n) ≤ kn ∧ ¬ sTw r bk kn (r (22 + 90 * n)) (r (22 + 90 * n) + w)) = 0 then sMo2 r bk kn w n else max (sMo2 r bk kn w n) (sLn r bk kn (r (22 + 90 * n)) (r (22 + 90 * n) + w) (r 0).toNat)
theorem xmo6 {w : Int} (h : pT X 32 pt_0 r) (h4 : pT X 32 pt_4 r) : ∀ (c i f : Nat), (i : Int) + (c : Int) = r 0 → c < f → d_X11_mostOf_r31d_6 f bk w kn (sMo2 r bk kn w i) (i : Int) X = sMo2 r bk kn w (r 0).toNat := by
  have e3 : X.1 33 3 = r 0 := h.1
  intro c
  induction c with
  | zero =>
    intro i f e hf
    obtain ⟨f, rfl⟩ : ∃ q, f = q + 1 := ⟨f - 1, by omega⟩
    rw [show (r 0).toNat = i from by omega]
    exact if_pos (by omega)
  | succ c ih =>
    intro i f e hf
    obtain ⟨f, rfl⟩ : ∃ q, f = q + 1 := ⟨f - 1, by omega⟩
    obtain ⟨t1, t2, t3⟩ := ln_at (kn := kn) h (i := i) (by omega)
    have nx := ih (i + 1) f (by omega) (by omega)
    rw [show ((i + 1 : Nat) : Int) = (i : Int) + 1 from by omega] at nx
    have sl : sMo2 r bk kn w (i + 1) = if tv (r (20 + 90 * i) = bk ∧ r (23 + 90 * i) ≤ kn ∧ ¬ sTw r bk kn (r (22 + 90 * i)) (r (22 + 90 * i) + w)) = 0 then sMo2 r bk kn w i else max (sMo2 r bk kn w i) (sLn r bk kn (r (22 + 90 * i)) (r (22 + 90 * i) + w) (r 0).toNat) := rfl
    refine (if_neg (by omega)).trans ?_
    unfold d_X11_mostOf_r31d_81
    rw [t1, t2, t3, xtw h4, xlw h]
    by_cases q : r (20 + 90 * i) = bk ∧ r (23 + 90 * i) ≤ kn ∧ ¬ sTw r bk kn (r (22 + 90 * i)) (r (22 + 90 * i) + w)
    · rw [tv_t q, if_neg (by decide)] at sl
      rw [if_neg (show ¬ (if kn < r (23 + 90 * i) then (0 : Int) else 1) = 0 from by rw [if_neg (by omega)]; decide), if_pos q.1, tv_f q.2.2, if_pos rfl, ← sl]
      exact nx
    · rw [tv_f q, if_pos rfl] at sl
      rw [sl] at nx
      by_cases c3 : kn < r (23 + 90 * i)
      · rw [if_pos c3, if_pos rfl]; exact nx
      · rw [if_neg c3, if_neg (by decide)]
        by_cases c1 : r (20 + 90 * i) = bk
        · rw [if_pos c1, tv_t (Classical.byContradiction fun z => q ⟨c1, by omega, z⟩), if_neg (by decide)]
          exact nx
        · rw [if_neg c1]; exact nx
theorem xmo {w : Int} (h : pT X 32 pt_0 r) (h4 : pT X 32 pt_4 r) : d_X11_mostOf_r31d bk w kn X = sMo2 r bk kn w (r 0).toNat := by
  have hb : 0 ≤ r 0 ∧ r 0 ≤ 200 := h.2.1
  exact xmo6 h h4 (r 0).toNat 0 201 (by omega) (by omega)
theorem mmo5 {w : Int} (e126 : M.1 126 = r) (e28 : M.1 125 28 = kn) (hb : 0 ≤ r 0 ∧ r 0 ≤ 200) (hb3 : 0 ≤ r 3 ∧ r 3 ≤ 20) : ∀ (c i f : Nat), (i : Int) + (c : Int) = r 0 → c < f → d_X12_mostFilled_r125d_5 f bk (w + 1) (sMo2 r bk kn w i) (i : Int) M = sMo2 r bk kn w (r 0).toNat := by
  intro c
  induction c with
  | zero =>
    intro i f e hf
    obtain ⟨f, rfl⟩ : ∃ q, f = q + 1 := ⟨f - 1, by omega⟩
    rw [show (r 0).toNat = i from by omega]
    exact if_pos (by rw [e126]; omega)
  | succ c ih =>
    intro i f e hf
    obtain ⟨f, rfl⟩ : ∃ q, f = q + 1 := ⟨f - 1, by omega⟩
    have nx := ih (i + 1) f (by omega) (by omega)
    rw [show ((i + 1 : Nat) : Int) = (i : Int) + 1 from by omega] at nx
    have sl : sMo2 r bk kn w (i + 1) = if tv (r (20 + 90 * i) = bk ∧ r (23 + 90 * i) ≤ kn ∧ ¬ sTw r bk kn (r (22 + 90 * i)) (r (22 + 90 * i) + w)) = 0 then sMo2 r bk kn w i else max (sMo2 r bk kn w i) (sLn r bk kn (r (22 + 90 * i)) (r (22 + 90 * i) + w) (r 0).toNat) := rfl
    refine (if_neg (by rw [e126]; omega)).trans ?_
    unfold d_X12_mostFilled_r125d_89
    rw [mtw e126 e28 hb3, mlw e126 e28 hb, e126, e28, show (20 + 90 * (i : Int) + 3).toNat = 23 + 90 * i from by omega, show (20 + 90 * (i : Int) + 2).toNat = 22 + 90 * i from by omega, show (20 + 90 * (i : Int)).toNat = 20 + 90 * i from by omega, show r (22 + 90 * i) + (w + 1) - 1 = r (22 + 90 * i) + w from by omega]
    by_cases q : r (20 + 90 * i) = bk ∧ r (23 + 90 * i) ≤ kn ∧ ¬ sTw r bk kn (r (22 + 90 * i)) (r (22 + 90 * i) + w)
    · rw [tv_t q, if_neg (by decide)] at sl
      rw [if_pos q.1, if_neg (by omega), tv_f q.2.2, if_pos rfl]
      by_cases z : sMo2 r bk kn w i ≤ sLn r bk kn (r (22 + 90 * i)) (r (22 + 90 * i) + w) (r 0).toNat
      · rw [if_pos z]
        rw [sl, show max (sMo2 r bk kn w i) (sLn r bk kn (r (22 + 90 * i)) (r (22 + 90 * i) + w) (r 0).toNat) = sLn r bk kn (r (22 + 90 * i)) (r (22 + 90 * i) + w) (r 0).toNat from by omega] at nx
        exact nx
      · rw [if_neg z]
        rw [sl, show max (sMo2 r bk kn w i) (sLn r bk kn (r (22 + 90 * i)) (r (22 + 90 * i) + w) (r 0).toNat) = sMo2 r bk kn w i from by omega] at nx
        exact nx
    · rw [tv_f q, if_pos rfl] at sl
      rw [sl] at nx
      by_cases c1 : r (20 + 90 * i) = bk
      · rw [if_pos c1]
        by_cases c3 : kn < r (23 + 90 * i)
        · rw [if_pos c3]; exact nx
        · rw [if_neg c3, tv_t (Classical.byContradiction fun z => q ⟨c1, by omega, z⟩), if_neg (by decide)]
          exact nx
      · rw [if_neg c1]; exact nx
theorem mmf {w : Int} (e126 : M.1 126 = r) (e28 : M.1 125 28 = kn) (hb : 0 ≤ r 0 ∧ r 0 ≤ 200) (hb3 : 0 ≤ r 3 ∧ r 3 ≤ 20) : d_X12_mostFilled_r125d bk (w + 1) M = sMo2 r bk kn w (r 0).toNat := mmo5 e126 e28 hb hb3 (r 0).toNat 0 201 (by omega) (by omega)
end
end jG88

section jG89
/-! pure: fill: DAYS that are whole -/
noncomputable def sC2 (P : Nat → Prop) : Nat → Int
  | 0 => 0
  | n + 1 => sC2 P n + tv (P n)
theorem c2_b {P : Nat → Prop} : ∀ n : Nat, 0 ≤ sC2 P n ∧ sC2 P n ≤ (n : Int) := by
  intro n
  induction n with
  | zero => exact ⟨Int.le_refl _, Int.le_refl _⟩
  | succ n ih =>
    have t := @tv_b (P n)
    show 0 ≤ sC2 P n + tv (P n) ∧ sC2 P n + tv (P n) ≤ ((n + 1 : Nat) : Int)
    omega
theorem tv_le {P Q : Prop} (h : P → Q) : tv P ≤ tv Q := by
  by_cases p : P
  · rw [tv_t p, tv_t (h p)]; exact Int.le_refl _
  · rw [tv_f p]; exact (@tv_b Q).1
theorem c2_le {P Q : Nat → Prop} : ∀ n : Nat, (∀ j : Nat, j < n → P j → Q j) → sC2 P n ≤ sC2 Q n := by
  intro n
  induction n with
  | zero => intro _; exact Int.le_refl _
  | succ n ih =>
    intro h
    have a := ih (fun j hj => h j (by omega))
    have b := tv_le (h n (by omega))
    show sC2 P n + tv (P n) ≤ sC2 Q n + tv (Q n)
    omega
theorem c2_lt {P Q : Nat → Prop} : ∀ n : Nat, (∀ j : Nat, j < n → P j → Q j) → (∃ j : Nat, j < n ∧ Q j ∧ ¬ P j) → sC2 P n + 1 ≤ sC2 Q n := by
  intro n
  induction n with
  | zero => intro _ ⟨j, hj, _⟩; exact absurd hj (Nat.not_lt_zero j)
  | succ n ih =>
    intro h ⟨j, hj, q, p⟩
    show sC2 P n + tv (P n) + 1 ≤ sC2 Q n + tv (Q n)
    by_cases e : j = n
    · rw [e] at q p
      have a := c2_le n (fun j hj => h j (by omega))
      rw [tv_t q, tv_f p]
      omega
    · have a := ih (fun j hj => h j (by omega)) ⟨j, by omega, q, p⟩
      have b := tv_le (h n (by omega))
      omega
/-- whole DAYS of n from a on -/
noncomputable def sWd (r : Nat → Int) (bk kn a : Int) : Nat → Int
  | 0 => 0
  | n + 1 => sWd r bk kn a n + (if tv (sTw r bk kn (a + (n : Int)) (a + (n : Int))) = 0 then 1 else 0)
section
variable {X : jW} {r : Nat → Int} {bk kn : Int}
theorem wd_s {a : Int} (m : Nat) : ∀ n : Nat, sWd r bk kn a (m + n) = sWd r bk kn a m + sWd r bk kn (a + (m : Int)) n := by
  intro n
  induction n with
  | zero => exact (Int.add_zero _).symm
  | succ n ih =>
    show sWd r bk kn a (m + n) + (if tv (sTw r bk kn (a + ((m + n : Nat) : Int)) (a + ((m + n : Nat) : Int))) = 0 then 1 else 0) = sWd r bk kn a m + (sWd r bk kn (a + (m : Int)) n + (if tv (sTw r bk kn (a + (m : Int) + (n : Int)) (a + (m : Int) + (n : Int))) = 0 then 1 else 0))
    rw [ih, show a + ((m + n : Nat) : Int) = a + (m : Int) + (n : Int) from by omega, Int.add_assoc]
theorem wd_y {a : Int} : ∀ n : Nat, (∀ j : Nat, j < n → ¬ sTw r bk kn (a + (j : Int)) (a + (j : Int))) → sWd r bk kn a n = (n : Int) := by
  intro n
  induction n with
  | zero => intro _; rfl
  | succ n ih =>
    intro h
    show sWd r bk kn a n + (if tv (sTw r bk kn (a + (n : Int)) (a + (n : Int))) = 0 then 1 else 0) = _
    rw [ih (fun j hj => h j (by omega)), tv_f (h n (by omega)), if_pos rfl]
    omega
theorem wd_n {a : Int} : ∀ n : Nat, (∀ j : Nat, j < n → sTw r bk kn (a + (j : Int)) (a + (j : Int))) → sWd r bk kn a n = 0 := by
  intro n
  induction n with
  | zero => intro _; rfl
  | succ n ih =>
    intro h
    show sWd r bk kn a n + (if tv (sTw r bk kn (a + (n : Int)) (a + (n : Int))) = 0 then 1 else 0) = _
    rw [ih (fun j hj => h j (by omega)), tv_t (h n (by omega)), if_neg (by decide)]
    rfl
theorem wd_b {a : Int} : ∀ n : Nat, 0 ≤ sWd r bk kn a n ∧ sWd r bk kn a n ≤ (n : Int) := by
  intro n
  induction n with
  | zero => exact ⟨Int.le_refl _, Int.le_refl _⟩
  | succ n ih =>
    show 0 ≤ sWd r bk kn a n + (if tv (sTw r bk kn (a + (n : Int)) (a + (n : Int))) = 0 then 1 else 0) ∧ sWd r bk kn a n + (if tv (sTw r bk kn (a + (n : Int)) (a + (n : Int))) = 0 then 1 else 0) ≤ ((n + 1 : Nat) : Int)
    by_cases c : tv (sTw r bk kn (a + (n : Int)) (a + (n : Int))) = 0
    · rw [if_pos c]; omega
    · rw [if_neg c]; omega
/-- what one look over all TORN PAGES finds, the first k looked at -/
def pWl (r : Nat → Int) (bk kn T p : Int) (k : Nat) (l8 l9 : Int) : Prop := p ≤ l8 ∧ (l8 = p ∨ ∃ j : Nat, j < k ∧ sTn r bk kn j ∧ r (18741 + 4 * j) ≤ p ∧ p ≤ r (18742 + 4 * j) ∧ l8 = r (18742 + 4 * j) + 1) ∧ (∀ j : Nat, j < k → sTn r bk kn j → r (18741 + 4 * j) ≤ p → r (18742 + 4 * j) < l8) ∧ p < l9 ∧ l9 ≤ T + 1 ∧ (l9 = T + 1 ∨ ∃ j : Nat, j < k ∧ sTn r bk kn j ∧ l9 = r (18741 + 4 * j)) ∧ ∀ j : Nat, j < k → sTn r bk kn j → p < r (18741 + 4 * j) → l9 ≤ r (18741 + 4 * j)
theorem x44 {K : Int → Int → Int → Int → Int → Int → jW → Int} {T p acc l7 : Int} (h : pT X 32 pt_4 r) : ∀ (c k f : Nat) (l8 l9 : Int), (k : Int) + (c : Int) = r 3 → c < f → pWl r bk kn T p k l8 l9 → ∃ m8 m9 : Int, pWl r bk kn T p (r 3).toNat m8 m9 ∧ d_X11_wholeDays_r31d_44 K f bk T kn acc p l7 l8 l9 (k : Int) X = if m8 ≤ p then K bk T kn (j_iadd acc (m9 - p)) m9 (l7 + 1) X else K bk T kn acc m8 (l7 + 1) X := by
  have e3 : X.1 41 3 = r 3 := h.1
  intro c
  induction c with
  | zero =>
    intro k f l8 l9 e hf P
    obtain ⟨f, rfl⟩ : ∃ q, f = q + 1 := ⟨f - 1, by omega⟩
    refine ⟨l8, l9, by rw [show (r 3).toNat = k from by omega]; exact P, ?_⟩
    exact if_pos (by omega)
  | succ c ih =>
    intro k f l8 l9 e hf P
    obtain ⟨f, rfl⟩ : ∃ q, f = q + 1 := ⟨f - 1, by omega⟩
    obtain ⟨t1, t2, t3, t4⟩ := tr_at (kn := kn) h (i := k) (by omega)
    obtain ⟨P1, P2, P3, P4, P5, P6, P7⟩ := P
    have nx := fun a b q => ih (k + 1) f a b (by omega) (by omega) q
    rw [show ((k + 1 : Nat) : Int) = (k : Int) + 1 from by omega] at nx
    have st : d_X11_wholeDays_r31d_44 K (f + 1) bk T kn acc p l7 l8 l9 (k : Int) X = if r (18740 + 4 * k) = bk ∧ r (18743 + 4 * k) ≤ kn then (if p < r (18741 + 4 * k) then d_X11_wholeDays_r31d_44 K f bk T kn acc p l7 l8 (min l9 (r (18741 + 4 * k))) ((k : Int) + 1) X else if r (18742 + 4 * k) < l8 then d_X11_wholeDays_r31d_44 K f bk T kn acc p l7 l8 l9 ((k : Int) + 1) X else d_X11_wholeDays_r31d_44 K f bk T kn acc p l7 (r (18742 + 4 * k) + 1) l9 ((k : Int) + 1) X) else d_X11_wholeDays_r31d_44 K f bk T kn acc p l7 l8 l9 ((k : Int) + 1) X := by
      refine (if_neg (by omega)).trans ?_
      unfold d_X11_wholeDays_r31d_140 d_X11_wholeDays_r31d_124 d_X11_wholeDays_r31d_140
      rw [t1, t2, t3, t4]
      by_cases c1 : kn < r (18743 + 4 * k)
      · rw [if_pos c1, if_pos rfl, if_neg (fun z => by have := z.2; omega)]
      · rw [if_neg c1, if_neg (by decide)]
        by_cases c2 : r (18740 + 4 * k) = bk
        · rw [if_pos c2, if_pos (show r (18740 + 4 * k) = bk ∧ r (18743 + 4 * k) ≤ kn from ⟨c2, by omega⟩)]
          by_cases c3 : p < r (18741 + 4 * k)
          · rw [if_pos c3, if_pos c3, if_neg (by omega)]
          · rw [if_neg c3, if_neg c3]
            by_cases c4 : r (18742 + 4 * k) < l8
            · rw [if_pos c4, if_pos c4, if_pos (by omega)]
            · rw [if_neg c4, if_neg c4]
        · rw [if_neg c2, if_neg (fun z => c2 z.1)]
    rw [st]
    by_cases q : r (18740 + 4 * k) = bk ∧ r (18743 + 4 * k) ≤ kn
    · rw [if_pos q]
      by_cases c3 : p < r (18741 + 4 * k)
      · rw [if_pos c3]
        refine nx l8 (min l9 (r (18741 + 4 * k))) ⟨P1, ?_, fun j hj a b => ?_, by omega, by omega, ?_, fun j hj a b => ?_⟩
        · rcases P2 with z | ⟨j, j1, j2⟩
          · exact Or.inl z
          · exact Or.inr ⟨j, by omega, j2⟩
        · by_cases z : j = k
          · rw [z] at b; omega
          · exact P3 j (by omega) a b
        · by_cases z : l9 ≤ r (18741 + 4 * k)
          · rw [show min l9 (r (18741 + 4 * k)) = l9 from by omega]
            rcases P6 with y | ⟨j, j1, j2⟩
            · exact Or.inl y
            · exact Or.inr ⟨j, by omega, j2⟩
          · exact Or.inr ⟨k, by omega, q, by omega⟩
        · by_cases z : j = k
          · rw [z]; omega
          · have := P7 j (by omega) a b
            omega
      · rw [if_neg c3]
        by_cases c4 : r (18742 + 4 * k) < l8
        · rw [if_pos c4]
          refine nx l8 l9 ⟨P1, ?_, fun j hj a b => ?_, P4, P5, ?_, fun j hj a b => ?_⟩
          · rcases P2 with z | ⟨j, j1, j2⟩
            · exact Or.inl z
            · exact Or.inr ⟨j, by omega, j2⟩
          · by_cases z : j = k
            · rw [z]; exact c4
            · exact P3 j (by omega) a b
          · rcases P6 with y | ⟨j, j1, j2⟩
            · exact Or.inl y
            · exact Or.inr ⟨j, by omega, j2⟩
          · by_cases z : j = k
            · rw [z] at b; omega
            · exact P7 j (by omega) a b
        · rw [if_neg c4]
          refine nx (r (18742 + 4 * k) + 1) l9 ⟨by omega, Or.inr ⟨k, by omega, q, by omega, by omega, rfl⟩, fun j hj a b => ?_, P4, P5, ?_, fun j hj a b => ?_⟩
          · by_cases z : j = k
            · rw [z]; omega
            · have := P3 j (by omega) a b
              omega
          · rcases P6 with y | ⟨j, j1, j2⟩
            · exact Or.inl y
            · exact Or.inr ⟨j, by omega, j2⟩
          · by_cases z : j = k
            · rw [z] at b; omega
            · exact P7 j (by omega) a b
    · rw [if_neg q]
      refine nx l8 l9 ⟨P1, ?_, fun j hj a b => ?_, P4, P5, ?_, fun j hj a b => ?_⟩
      · rcases P2 with z | ⟨j, j1, j2⟩
        · exact Or.inl z
        · exact Or.inr ⟨j, by omega, j2⟩
      · by_cases z : j = k
        · rw [z] at a; exact absurd a q
        · exact P3 j (by omega) a b
      · rcases P6 with y | ⟨j, j1, j2⟩
        · exact Or.inl y
        · exact Or.inr ⟨j, by omega, j2⟩
      · by_cases z : j = k
        · rw [z] at a; exact absurd a q
        · exact P7 j (by omega) a b
/-- ends of TORN PAGES that lie ahead -/
noncomputable def sPh (r : Nat → Int) (bk kn p : Int) : Int := sC2 (fun j => sTn r bk kn j ∧ p < r (18741 + 4 * j)) (r 3).toNat + sC2 (fun j => sTn r bk kn j ∧ p ≤ r (18742 + 4 * j)) (r 3).toNat
theorem x9 {T : Int} (h : pT X 32 pt_4 r) (hT : T ≤ 146399) : ∀ (f : Nat) (l7 acc p : Int), 0 ≤ l7 → 2 * r 3 + 1 - l7 < (f : Int) → 0 < f → (T < p ∨ (sPh r bk kn p + l7 ≤ 2 * r 3 ∧ 0 ≤ p ∧ 0 ≤ acc ∧ acc + (T + 1 - p) ≤ 200000)) → d_X11_wholeDays_r31d_9 f bk T kn acc p l7 X = acc + sWd r bk kn p (T + 1 - p).toNat := by
  have e3 : X.1 41 3 = r 3 := h.1
  have hb : 0 ≤ r 3 ∧ r 3 ≤ 20 := h.2.1
  intro f
  induction f with
  | zero => intro l7 acc p _ _ h0; omega
  | succ f ih =>
    intro l7 acc p h7 hf _ H
    by_cases c0 : T < p
    · rw [show (T + 1 - p).toNat = 0 from by omega]
      show (if 2 * X.1 41 3 < l7 then d_X11_wholeDays_r31d_180 acc X else if T < p then d_X11_wholeDays_r31d_180 acc X else _) = acc + 0
      rw [if_pos c0, Int.add_zero]
      by_cases c1 : 2 * X.1 41 3 < l7
      · rw [if_pos c1]; rfl
      · rw [if_neg c1]; rfl
    · obtain ⟨H1, H2, H3, H4⟩ : sPh r bk kn p + l7 ≤ 2 * r 3 ∧ 0 ≤ p ∧ 0 ≤ acc ∧ acc + (T + 1 - p) ≤ 200000 := by
        rcases H with z | z
        · exact absurd z c0
        · exact z
      have ph0 : 0 ≤ sPh r bk kn p := by
        have a := c2_b (P := fun j => sTn r bk kn j ∧ p < r (18741 + 4 * j)) (r 3).toNat
        have b := c2_b (P := fun j => sTn r bk kn j ∧ p ≤ r (18742 + 4 * j)) (r 3).toNat
        unfold sPh
        omega
      obtain ⟨m8, m9, ⟨P1, P2, P3, P4, P5, P6, P7⟩, q⟩ := x44 (K := fun l1 l3 l4 l5 l6 l7 W => d_X11_wholeDays_r31d_9 f l1 l3 l4 l5 l6 l7 W) (bk := bk) (kn := kn) (T := T) (p := p) (acc := acc) (l7 := l7) h (r 3).toNat 0 21 p (T + 1) (by omega) (by omega) ⟨Int.le_refl p, Or.inl rfl, fun j hj => absurd hj (Nat.not_lt_zero j), by omega, Int.le_refl _, Or.inl rfl, fun j hj => absurd hj (Nat.not_lt_zero j)⟩
      refine (if_neg (by omega)).trans ((if_neg c0).trans (q.trans ?_))
      have act : ∀ j : Nat, (j : Int) < r 3 → j < (r 3).toNat := fun j hj => by omega
      by_cases c1 : m8 ≤ p
      · rw [if_pos c1, j_ia (by omega) (by omega) (by omega)]
        have un : ∀ j : Nat, j < (m9 - p).toNat → ¬ sTw r bk kn (p + (j : Int)) (p + (j : Int)) := fun j hj ⟨i, i1, i2, i3, i4⟩ => by
          by_cases z : r (18741 + 4 * i) ≤ p
          · have := P3 i (act i i1) i2 z
            omega
          · have := P7 i (act i i1) i2 (by omega)
            omega
        have sp := wd_s (r := r) (bk := bk) (kn := kn) (a := p) (m9 - p).toNat (T + 1 - m9).toNat
        rw [wd_y (m9 - p).toNat un, show (m9 - p).toNat + (T + 1 - m9).toNat = (T + 1 - p).toNat from by omega, show p + (((m9 - p).toNat : Nat) : Int) = m9 from by omega] at sp
        rw [sp, show (((m9 - p).toNat : Nat) : Int) = m9 - p from by omega, ← Int.add_assoc]
        refine ih (l7 + 1) (acc + (m9 - p)) m9 (by omega) (by omega) (by omega) ?_
        by_cases c2 : T < m9
        · exact Or.inl c2
        · refine Or.inr ⟨?_, by omega, by omega, by omega⟩
          rcases P6 with z | ⟨j, j1, j2, j3⟩
          · omega
          · have a := c2_lt (P := fun j => sTn r bk kn j ∧ m9 < r (18741 + 4 * j)) (Q := fun j => sTn r bk kn j ∧ p < r (18741 + 4 * j)) (r 3).toNat (fun i _ y => ⟨y.1, by have := y.2; omega⟩) ⟨j, j1, ⟨j2, by omega⟩, fun y => by have := y.2; omega⟩
            have b := c2_le (P := fun j => sTn r bk kn j ∧ m9 ≤ r (18742 + 4 * j)) (Q := fun j => sTn r bk kn j ∧ p ≤ r (18742 + 4 * j)) (r 3).toNat (fun i _ y => ⟨y.1, by have := y.2; omega⟩)
            unfold sPh at H1 ⊢
            omega
      · rw [if_neg c1]
        rcases P2 with z | ⟨j, j1, j2, j3, j4, j5⟩
        · omega
        · have tn : ∀ x : Int, p ≤ x → x < m8 → sTw r bk kn x x := fun x a b => ⟨j, by omega, j2, by omega, by omega⟩
          have a := c2_le (P := fun j => sTn r bk kn j ∧ m8 < r (18741 + 4 * j)) (Q := fun j => sTn r bk kn j ∧ p < r (18741 + 4 * j)) (r 3).toNat (fun i _ y => ⟨y.1, by have := y.2; omega⟩)
          have b := c2_lt (P := fun j => sTn r bk kn j ∧ m8 ≤ r (18742 + 4 * j)) (Q := fun j => sTn r bk kn j ∧ p ≤ r (18742 + 4 * j)) (r 3).toNat (fun i _ y => ⟨y.1, by have := y.2; omega⟩) ⟨j, j1, ⟨j2, j4⟩, fun y => by have := y.2; omega⟩
          have i9 := ih (l7 + 1) acc m8 (by omega) (by omega) (by omega) (by
            by_cases c2 : T < m8
            · exact Or.inl c2
            · refine Or.inr ⟨?_, by omega, by omega, by omega⟩
              unfold sPh at H1 ⊢
              omega)
          rw [i9]
          by_cases c2 : T < m8
          · rw [show (T + 1 - m8).toNat = 0 from by omega, wd_n (a := p) (T + 1 - p).toNat (fun i hi => tn _ (by omega) (by omega))]
            rfl
          · have sp := wd_s (r := r) (bk := bk) (kn := kn) (a := p) (m8 - p).toNat (T + 1 - m8).toNat
            rw [wd_n (a := p) (m8 - p).toNat (fun i hi => tn _ (by omega) (by omega)), show (m8 - p).toNat + (T + 1 - m8).toNat = (T + 1 - p).toNat from by omega, show p + (((m8 - p).toNat : Nat) : Int) = m8 from by omega, Int.zero_add] at sp
            rw [sp]
/-- the class: whole DAYS from a to T -/
theorem xwd {a T : Int} (h : pT X 32 pt_4 r) (ha : 0 ≤ a ∧ a ≤ 146400) (hT : T ≤ 146399) : d_X11_wholeDays_r31d bk a T kn X = sWd r bk kn a (T + 1 - a).toNat := by
  have hb : 0 ≤ r 3 ∧ r 3 ≤ 20 := h.2.1
  have a1 := c2_b (P := fun j => sTn r bk kn j ∧ a < r (18741 + 4 * j)) (r 3).toNat
  have b1 := c2_b (P := fun j => sTn r bk kn j ∧ a ≤ r (18742 + 4 * j)) (r 3).toNat
  refine (x9 h hT 42 0 0 a (Int.le_refl _) (by omega) (by decide) ?_).trans (Int.zero_add _)
  by_cases c : T < a
  · exact Or.inl c
  · refine Or.inr ⟨?_, by omega, Int.le_refl _, by omega⟩
    unfold sPh
    omega
end
end jG89

section jG90
/-! pure: fill: what is guessed -/
/-- LINE l counts for the guess -/
def sGp (r : Nat → Int) (bk kn a b : Int) (l : Nat) : Prop := r (20 + 90 * l) = bk ∧ r (23 + 90 * l) ≤ kn ∧ (a - 3660 ≤ r (22 + 90 * l) ∧ r (22 + 90 * l) ≤ b + 3660) ∧ (r (22 + 90 * l) < a ∨ b < r (22 + 90 * l)) ∧ ¬ sTw r bk kn (r (22 + 90 * l)) (r (22 + 90 * l))
noncomputable def sGd (r : Nat → Int) (bk kn a b : Int) : Int := sWd r bk kn (max 0 (a - 3660)) (a - max 0 (a - 3660)).toNat + sWd r bk kn (b + 1) (min 146399 (b + 3660) - b).toNat
/-- what is guessed -/
noncomputable def sGu (r : Nat → Int) (bk kn a b : Int) : Int := if sGd r bk kn a b = 0 then 0 else j_l2i (j_ldiv (j_ladd (j_lmul (j_lmul 2 (sC2 (sGp r bk kn a b) (r 0).toNat)) ((b - a) + 1)) (sGd r bk kn a b)) (2 * sGd r bk kn a b))
/-- DAYS of LINES are DAYS -/
def pI0 (r : Nat → Int) : Prop := ∀ l : Nat, (l : Int) < r 0 → 0 ≤ r (22 + 90 * l) ∧ r (22 + 90 * l) ≤ 146399
section
variable {X M : jW} {r : Nat → Int} {bk kn a b : Int}
theorem xg66 {D : Int} (h : pT X 32 pt_0 r) (h4 : pT X 32 pt_4 r) (I : pI0 r) (hab : 0 ≤ a ∧ a ≤ b ∧ b ≤ 146399) : ∀ (c i f : Nat), (i : Int) + (c : Int) = r 0 → c < f → d_X11_guessedOf_r31d_66 f bk a b kn (max 0 (a - 3660)) (min 146399 (b + 3660)) D (sC2 (sGp r bk kn a b) i) (i : Int) X = j_l2i (j_ldiv (j_ladd (j_lmul (j_lmul 2 (sC2 (sGp r bk kn a b) (r 0).toNat)) ((b - a) + 1)) D) (2 * D)) := by
  have e3 : X.1 33 3 = r 0 := h.1
  have hb : 0 ≤ r 0 ∧ r 0 ≤ 200 := h.2.1
  intro c
  induction c with
  | zero =>
    intro i f e hf
    obtain ⟨f, rfl⟩ : ∃ q, f = q + 1 := ⟨f - 1, by omega⟩
    rw [show (r 0).toNat = i from by omega]
    exact if_pos (by omega)
  | succ c ih =>
    intro i f e hf
    obtain ⟨f, rfl⟩ : ∃ q, f = q + 1 := ⟨f - 1, by omega⟩
    obtain ⟨t1, t2, t3⟩ := ln_at (kn := kn) h (i := i) (by omega)
    have nx := ih (i + 1) f (by omega) (by omega)
    rw [show ((i + 1 : Nat) : Int) = (i : Int) + 1 from by omega] at nx
    have lb := c2_b (P := sGp r bk kn a b) i
    have dy := I i (by omega)
    have sl : sC2 (sGp r bk kn a b) (i + 1) = sC2 (sGp r bk kn a b) i + tv (sGp r bk kn a b i) := rfl
    refine (if_neg (by omega)).trans ?_
    unfold d_X11_guessedOf_r31d_109 d_X11_guessedOf_r31d_122 d_X11_guessedOf_r31d_126 d_X11_guessedOf_r31d_200127 d_X11_guessedOf_r31d_300127 d_X11_guessedOf_r31d_166
    rw [t1, t2, t3, xtw h4]
    by_cases q : sGp r bk kn a b i
    · rw [tv_t q] at sl
      obtain ⟨q1, q2, q3, q4, q5⟩ := q
      rw [sl] at nx
      rw [if_neg (show ¬ (if kn < r (23 + 90 * i) then (0 : Int) else 1) = 0 from by rw [if_neg (by omega)]; decide), if_pos q1, tv_f q5, if_pos rfl, l_a (by omega) (by omega) (by omega), if_neg (show ¬ r (22 + 90 * i) < max 0 (a - 3660) from by omega)]
      by_cases c1 : r (22 + 90 * i) < a
      · rw [if_pos c1]; exact nx
      · rw [if_neg c1, if_neg (show ¬ r (22 + 90 * i) ≤ b from by omega), if_neg (show ¬ min 146399 (b + 3660) < r (22 + 90 * i) from by omega)]
        exact nx
    · rw [tv_f q, Int.add_zero] at sl
      rw [sl] at nx
      have no : (r (22 + 90 * i) < a ∨ b < r (22 + 90 * i)) → (a - 3660 ≤ r (22 + 90 * i) ∧ r (22 + 90 * i) ≤ b + 3660) → (if (if kn < r (23 + 90 * i) then (0 : Int) else 1) = 0 then d_X11_guessedOf_r31d_66 f bk a b kn (max 0 (a - 3660)) (min 146399 (b + 3660)) D (sC2 (sGp r bk kn a b) i) ((i : Int) + 1) X else if r (20 + 90 * i) = bk then (if tv (sTw r bk kn (r (22 + 90 * i)) (r (22 + 90 * i))) = 0 then d_X11_guessedOf_r31d_66 f bk a b kn (max 0 (a - 3660)) (min 146399 (b + 3660)) D (j_ladd (sC2 (sGp r bk kn a b) i) 1) ((i : Int) + 1) X else d_X11_guessedOf_r31d_66 f bk a b kn (max 0 (a - 3660)) (min 146399 (b + 3660)) D (sC2 (sGp r bk kn a b) i) ((i : Int) + 1) X) else d_X11_guessedOf_r31d_66 f bk a b kn (max 0 (a - 3660)) (min 146399 (b + 3660)) D (sC2 (sGp r bk kn a b) i) ((i : Int) + 1) X) = d_X11_guessedOf_r31d_66 f bk a b kn (max 0 (a - 3660)) (min 146399 (b + 3660)) D (sC2 (sGp r bk kn a b) i) ((i : Int) + 1) X := fun z1 z2 => by
        by_cases c1 : kn < r (23 + 90 * i)
        · rw [if_pos c1, if_pos rfl]
        · rw [if_neg c1, if_neg (by decide)]
          by_cases c2 : r (20 + 90 * i) = bk
          · rw [if_pos c2, tv_t (Classical.byContradiction fun w => q ⟨c2, by omega, z2, z1, w⟩), if_neg (by decide)]
          · rw [if_neg c2]
      by_cases c0 : r (22 + 90 * i) < max 0 (a - 3660)
      · rw [if_pos c0, if_pos (show r (22 + 90 * i) ≤ b from by omega)]
        exact nx
      · rw [if_neg c0]
        by_cases c1 : r (22 + 90 * i) < a
        · rw [if_pos c1, no (Or.inl c1) (by omega)]
          exact nx
        · rw [if_neg c1]
          by_cases c2 : r (22 + 90 * i) ≤ b
          · rw [if_pos c2]; exact nx
          · rw [if_neg c2]
            by_cases c3 : min 146399 (b + 3660) < r (22 + 90 * i)
            · rw [if_pos c3]; exact nx
            · rw [if_neg c3, no (Or.inr (by omega)) (by omega)]
              exact nx
/-- the class -/
theorem xgu (h : pT X 32 pt_0 r) (h4 : pT X 32 pt_4 r) (I : pI0 r) (hab : 0 ≤ a ∧ a ≤ b ∧ b ≤ 146399) : d_X11_guessedOf_r31d bk a b kn X = sGu r bk kn a b := by
  have hb : 0 ≤ r 0 ∧ r 0 ≤ 200 := h.2.1
  have w1 := xwd (bk := bk) (kn := kn) (a := max 0 (a - 3660)) (T := a - 1) h4 (by omega) (by omega)
  have w2 := xwd (bk := bk) (kn := kn) (a := b + 1) (T := min 146399 (b + 3660)) h4 (by omega) (by omega)
  rw [show (a - 1 + 1 - max 0 (a - 3660)).toNat = (a - max 0 (a - 3660)).toNat from by omega] at w1
  rw [show (min 146399 (b + 3660) + 1 - (b + 1)).toNat = (min 146399 (b + 3660) - b).toNat from by omega] at w2
  have b1 := wd_b (r := r) (bk := bk) (kn := kn) (a := max 0 (a - 3660)) (a - max 0 (a - 3660)).toNat
  have b2 := wd_b (r := r) (bk := bk) (kn := kn) (a := b + 1) (min 146399 (b + 3660) - b).toNat
  unfold d_X11_guessedOf_r31d sGu
  rw [w1, w2, j_ia (by omega) (by omega) (by omega)]
  show (if sGd r bk kn a b = 0 then 0 else d_X11_guessedOf_r31d_66 201 bk a b kn (max 0 (a - 3660)) (min 146399 (b + 3660)) (sGd r bk kn a b) 0 0 X) = _
  by_cases c : sGd r bk kn a b = 0
  · rw [if_pos c, if_pos c]
  · rw [if_neg c, if_neg c]
    exact xg66 h h4 I hab (r 0).toNat 0 201 (by omega) (by omega)
theorem mg70 {D : Int} (e126 : M.1 126 = r) (e28 : M.1 125 28 = kn) (hb : 0 ≤ r 0 ∧ r 0 ≤ 200) (hb3 : 0 ≤ r 3 ∧ r 3 ≤ 20) : ∀ (c i f : Nat), (i : Int) + (c : Int) = r 0 → c < f → d_X12_guessFilled_r125d_70 f bk a b D (sC2 (sGp r bk kn a b) i) (i : Int) M = if D = 0 then 0 else j_l2i (j_ldiv (j_ladd (j_lmul (j_lmul 2 (sC2 (sGp r bk kn a b) (r 0).toNat)) ((b - a) + 1)) D) (2 * D)) := by
  intro c
  induction c with
  | zero =>
    intro i f e hf
    obtain ⟨f, rfl⟩ : ∃ q, f = q + 1 := ⟨f - 1, by omega⟩
    rw [show (r 0).toNat = i from by omega]
    exact if_pos (by rw [e126]; omega)
  | succ c ih =>
    intro i f e hf
    obtain ⟨f, rfl⟩ : ∃ q, f = q + 1 := ⟨f - 1, by omega⟩
    have nx := ih (i + 1) f (by omega) (by omega)
    rw [show ((i + 1 : Nat) : Int) = (i : Int) + 1 from by omega] at nx
    have lb := c2_b (P := sGp r bk kn a b) i
    have sl : sC2 (sGp r bk kn a b) (i + 1) = sC2 (sGp r bk kn a b) i + tv (sGp r bk kn a b i) := rfl
    refine (if_neg (by rw [e126]; omega)).trans ?_
    unfold d_X12_guessFilled_r125d_122 d_X12_guessFilled_r125d_126 d_X12_guessFilled_r125d_200127 d_X12_guessFilled_r125d_300127 d_X12_guessFilled_r125d_175 d_X12_guessFilled_r125d_5000176
    rw [mtw e126 e28 hb3, e126, e28, show (20 + 90 * (i : Int) + 3).toNat = 23 + 90 * i from by omega, show (20 + 90 * (i : Int) + 2).toNat = 22 + 90 * i from by omega, show (20 + 90 * (i : Int)).toNat = 20 + 90 * i from by omega, l_a (x := sC2 (sGp r bk kn a b) i) (y := 1) (by omega) (by omega) (by omega), l_a (x := sC2 (sGp r bk kn a b) i) (y := 0) (by omega) (by omega) (by omega), Int.add_zero]
    have z0 : ∀ (P : Prop) [Decidable P] (x : Int), (if P then x else x) = x := fun P _ x => by
      by_cases c : P
      · rw [if_pos c]
      · rw [if_neg c]
    rw [z0 (kn < r (23 + 90 * i)), z0 (r (20 + 90 * i) = bk)]
    by_cases q : sGp r bk kn a b i
    · rw [tv_t q] at sl
      obtain ⟨q1, q2, q3, q4, q5⟩ := q
      rw [sl] at nx
      rw [if_pos q3, if_pos q1, if_neg (show ¬ kn < r (23 + 90 * i) from by omega), tv_f q5, if_pos rfl]
      by_cases c1 : r (22 + 90 * i) < a
      · rw [if_pos c1]; exact nx
      · rw [if_neg c1, if_neg (show ¬ r (22 + 90 * i) ≤ b from by omega)]
        exact nx
    · rw [tv_f q, Int.add_zero] at sl
      rw [sl] at nx
      by_cases c0 : a - 3660 ≤ r (22 + 90 * i) ∧ r (22 + 90 * i) ≤ b + 3660
      · rw [if_pos c0]
        have no : (r (22 + 90 * i) < a ∨ b < r (22 + 90 * i)) → (if r (20 + 90 * i) = bk then (if kn < r (23 + 90 * i) then d_X12_guessFilled_r125d_70 f bk a b D (sC2 (sGp r bk kn a b) i) ((i : Int) + 1) M else if tv (sTw r bk kn (r (22 + 90 * i)) (r (22 + 90 * i))) = 0 then d_X12_guessFilled_r125d_70 f bk a b D (sC2 (sGp r bk kn a b) i + 1) ((i : Int) + 1) M else d_X12_guessFilled_r125d_70 f bk a b D (sC2 (sGp r bk kn a b) i) ((i : Int) + 1) M) else d_X12_guessFilled_r125d_70 f bk a b D (sC2 (sGp r bk kn a b) i) ((i : Int) + 1) M) = d_X12_guessFilled_r125d_70 f bk a b D (sC2 (sGp r bk kn a b) i) ((i : Int) + 1) M := fun z1 => by
          by_cases c2 : r (20 + 90 * i) = bk
          · rw [if_pos c2]
            by_cases c1 : kn < r (23 + 90 * i)
            · rw [if_pos c1]
            · rw [if_neg c1, tv_t (Classical.byContradiction fun w => q ⟨c2, by omega, c0, z1, w⟩), if_neg (by decide)]
          · rw [if_neg c2]
        by_cases c1 : r (22 + 90 * i) < a
        · rw [if_pos c1, no (Or.inl c1)]; exact nx
        · rw [if_neg c1]
          by_cases c2 : r (22 + 90 * i) ≤ b
          · rw [if_pos c2]; exact nx
          · rw [if_neg c2, no (Or.inr (by omega))]; exact nx
      · rw [if_neg c0]; exact nx
/-- DAYS that don't count -/
theorem mg_k {D : Int} : ∀ (n f : Nat) (x : Int), x + (n : Int) ≤ b + 3661 → (∀ j : Nat, j < n → x + (j : Int) < 0 ∨ 146399 < x + (j : Int) ∨ (a ≤ x + (j : Int) ∧ x + (j : Int) ≤ b)) → d_X12_guessFilled_r125d_13 (n + f) bk a b D 0 x M = d_X12_guessFilled_r125d_13 f bk a b D 0 (x + (n : Int)) M := by
  intro n
  induction n with
  | zero => intro f x _ _; rw [Nat.zero_add]; exact congrArg (fun y => d_X12_guessFilled_r125d_13 f bk a b D 0 y M) (Int.add_zero x).symm
  | succ n ih =>
    intro f x hx hk
    have k0 := hk 0 (by omega)
    have e0 : x + ((0 : Nat) : Int) = x := Int.add_zero x
    rw [e0] at k0
    have nx := ih f (x + 1) (by omega) (fun j hj => by
      have := hk (j + 1) (by omega)
      rw [show x + ((j + 1 : Nat) : Int) = x + 1 + (j : Int) from by omega] at this
      exact this)
    rw [show x + ((n + 1 : Nat) : Int) = x + 1 + (n : Int) from by omega, ← nx, show n + 1 + f = (n + f) + 1 from by omega]
    refine (if_neg (by omega)).trans ?_
    by_cases c1 : 0 ≤ x ∧ x ≤ 146399
    · rw [if_pos c1, if_neg (show ¬ x < a from by omega), if_pos (show x ≤ b from by omega)]
      rfl
    · rw [if_neg c1]
      rfl
/-- DAYS that do -/
theorem mg_c (e126 : M.1 126 = r) (e28 : M.1 125 28 = kn) (hb3 : 0 ≤ r 3 ∧ r 3 ≤ 20) : ∀ (n f : Nat) (x D : Int), 0 ≤ x → x + (n : Int) ≤ 146400 → x + (n : Int) ≤ b + 3661 → (x + (n : Int) ≤ a ∨ b < x) → d_X12_guessFilled_r125d_13 (n + f) bk a b D 0 x M = d_X12_guessFilled_r125d_13 f bk a b (D + sWd r bk kn x n) 0 (x + (n : Int)) M := by
  intro n
  induction n with
  | zero =>
    intro f x D _ _ _ _
    rw [Nat.zero_add, show x + ((0 : Nat) : Int) = x from Int.add_zero x, show D + sWd r bk kn x 0 = D from Int.add_zero D]
  | succ n ih =>
    intro f x D h0 h1 h2 h3
    have sp := wd_s (r := r) (bk := bk) (kn := kn) (a := x) 1 n
    rw [show 1 + n = n + 1 from by omega, show x + ((1 : Nat) : Int) = x + 1 from rfl] at sp
    have s1 : sWd r bk kn x 1 = if tv (sTw r bk kn x x) = 0 then 1 else 0 := by
      show (0 : Int) + (if tv (sTw r bk kn (x + ((0 : Nat) : Int)) (x + ((0 : Nat) : Int))) = 0 then 1 else 0) = _
      rw [show x + ((0 : Nat) : Int) = x from Int.add_zero x, Int.zero_add]
    have nx := fun E => ih f (x + 1) E (by omega) (by omega) (by omega) (by omega)
    rw [sp, s1, show x + ((n + 1 : Nat) : Int) = x + 1 + (n : Int) from by omega, ← Int.add_assoc, ← nx, show n + 1 + f = (n + f) + 1 from by omega]
    refine (if_neg (by omega)).trans ((if_pos (show 0 ≤ x ∧ x ≤ 146399 from by omega)).trans ?_)
    unfold d_X12_guessFilled_r125d_43 d_X12_guessFilled_r125d_61
    rw [mtw e126 e28 hb3]
    by_cases c : tv (sTw r bk kn x x) = 0
    · rw [if_pos c, if_pos c]
      by_cases c1 : x < a
      · rw [if_pos c1]
      · rw [if_neg c1, if_neg (show ¬ x ≤ b from by omega)]
    · rw [if_neg c, if_neg c, Int.add_zero]
      by_cases c1 : x < a
      · rw [if_pos c1]
      · rw [if_neg c1, if_neg (show ¬ x ≤ b from by omega)]
/-- the reference -/
theorem mgu (e126 : M.1 126 = r) (e28 : M.1 125 28 = kn) (hb : 0 ≤ r 0 ∧ r 0 ≤ 200) (hb3 : 0 ≤ r 3 ∧ r 3 ≤ 20) (hab : 0 ≤ a ∧ a ≤ b ∧ b ≤ 146399) : d_X12_guessFilled_r125d bk a b M = sGu r bk kn a b := by
  obtain ⟨n1, h1⟩ : ∃ n : Nat, (n : Int) = max 0 (a - 3660) - (a - 3660) := ⟨(max 0 (a - 3660) - (a - 3660)).toNat, by omega⟩
  obtain ⟨n2, h2⟩ : ∃ n : Nat, (n : Int) = a - max 0 (a - 3660) := ⟨(a - max 0 (a - 3660)).toNat, by omega⟩
  obtain ⟨n3, h3⟩ : ∃ n : Nat, (n : Int) = b + 1 - a := ⟨(b + 1 - a).toNat, by omega⟩
  obtain ⟨n4, h4⟩ : ∃ n : Nat, (n : Int) = min 146399 (b + 3660) - b := ⟨(min 146399 (b + 3660) - b).toNat, by omega⟩
  obtain ⟨n5, h5⟩ : ∃ n : Nat, (n : Int) = b + 3660 - min 146399 (b + 3660) := ⟨(b + 3660 - min 146399 (b + 3660)).toNat, by omega⟩
  obtain ⟨fz, hz⟩ : ∃ f : Nat, 153721 = n1 + (n2 + (n3 + (n4 + (n5 + (f + 1))))) := ⟨153720 - (n1 + n2 + n3 + n4 + n5), by omega⟩
  have ed : sGd r bk kn a b = 0 + sWd r bk kn (max 0 (a - 3660)) n2 + sWd r bk kn (b + 1) n4 := by
    unfold sGd
    rw [show (a - max 0 (a - 3660)).toNat = n2 from by omega, show (min 146399 (b + 3660) - b).toNat = n4 from by omega, Int.zero_add]
  unfold d_X12_guessFilled_r125d
  rw [hz, mg_k n1 _ _ (by omega) (fun j hj => by omega), show a - 3660 + (n1 : Int) = max 0 (a - 3660) from by omega, mg_c e126 e28 hb3 n2 _ _ _ (by omega) (by omega) (by omega) (by omega), show max 0 (a - 3660) + (n2 : Int) = a from by omega, mg_k n3 _ _ (by omega) (fun j hj => by omega), show a + (n3 : Int) = b + 1 from by omega, mg_c e126 e28 hb3 n4 _ _ _ (by omega) (by omega) (by omega) (by omega), show b + 1 + (n4 : Int) = min 146399 (b + 3660) + 1 from by omega, mg_k n5 _ _ (by omega) (fun j hj => by omega), show min 146399 (b + 3660) + 1 + (n5 : Int) = b + 3661 from by omega, ← ed]
  refine (if_pos (by omega)).trans ?_
  exact mg70 e126 e28 hb hb3 (r 0).toNat 0 201 (by omega) (by omega)
end
end jG90

section jG91
/-! pure: fill: the least; the call itself but for what is known -/
def sLp (E : pE) (g lo hi : Nat → Int) (a b cd : Int) (k : Nat) : Prop := g k = (k : Int) ∧ ¬ sHb E g (k : Int) cd 146399 ∧ a ≤ lo k ∧ hi k ≤ b ∧ lo k ≤ hi k
section
variable {E : pE} {g lo hi : Nat → Int} {a b cd : Int}
theorem x39 {q : Int} (hq : 0 ≤ q) (L : ∀ (p : Nat) (W : jW), p < sNl E → g p = (p : Int) → pXs W E g → (d_X7_readSpan_r78d (p : Int) W).1 85 q.toNat = lo p ∧ (d_X7_readSpan_r78d (p : Int) W).1 85 (q + 1).toNat = hi p) : ∀ (c k f : Nat) (W : jW), k + c = sNl E → c < f → pXs W E g → (d_X11_leastOf_r31d_39 f a b cd q (sC2 (sLp E g lo hi a b cd) k) (k : Int) W).1 = sC2 (sLp E g lo hi a b cd) (sNl E) := by
  intro c
  induction c with
  | zero =>
    intro k f W e hf P
    obtain ⟨f, rfl⟩ : ∃ q, f = q + 1 := ⟨f - 1, by omega⟩
    have e0 := P.2.2.1
    have b0 := P.2.1
    have st : d_X11_leastOf_r31d_39 (f + 1) a b cd q (sC2 (sLp E g lo hi a b cd) k) (k : Int) W = (sC2 (sLp E g lo hi a b cd) k, W) := if_pos (by unfold sNl at e; omega)
    rw [st, ← e, Nat.add_zero]
  | succ c ih =>
    intro k f W e hf P
    obtain ⟨f, rfl⟩ : ∃ q, f = q + 1 := ⟨f - 1, by omega⟩
    have e0 := P.2.2.1
    have b0 := P.2.1
    have e82 := P.2.2.2.2.1 k (by omega)
    have lb := c2_b (P := sLp E g lo hi a b cd) k
    have nl : (sNl E : Int) = 3 * E.1 0 := by unfold sNl; omega
    have sl : sC2 (sLp E g lo hi a b cd) (k + 1) = sC2 (sLp E g lo hi a b cd) k + tv (sLp E g lo hi a b cd k) := rfl
    have nx := fun (V : jW) (hV : pXs V E g) => ih (k + 1) f V (by omega) (by omega) hV
    rw [show ((k + 1 : Nat) : Int) = (k : Int) + 1 from by omega] at nx
    have st : d_X11_leastOf_r31d_39 (f + 1) a b cd q (sC2 (sLp E g lo hi a b cd) k) (k : Int) W = (if g k = (k : Int) then (if d_X7_hasBy_r78d (k : Int) cd 146399 W = 0 then (if (d_X7_readSpan_r78d (k : Int) W).1 85 q.toNat < a then d_X11_leastOf_r31d_39 f a b cd q (sC2 (sLp E g lo hi a b cd) k) ((k : Int) + 1) (d_X7_readSpan_r78d (k : Int) W) else if b < (d_X7_readSpan_r78d (k : Int) W).1 85 (q + 1).toNat then d_X11_leastOf_r31d_39 f a b cd q (sC2 (sLp E g lo hi a b cd) k) ((k : Int) + 1) (d_X7_readSpan_r78d (k : Int) W) else if (d_X7_readSpan_r78d (k : Int) W).1 85 (q + 1).toNat < (d_X7_readSpan_r78d (k : Int) W).1 85 q.toNat then d_X11_leastOf_r31d_39 f a b cd q (sC2 (sLp E g lo hi a b cd) k) ((k : Int) + 1) (d_X7_readSpan_r78d (k : Int) W) else d_X11_leastOf_r31d_39 f a b cd q (j_iadd (sC2 (sLp E g lo hi a b cd) k) 1) ((k : Int) + 1) (d_X7_readSpan_r78d (k : Int) W)) else d_X11_leastOf_r31d_39 f a b cd q (sC2 (sLp E g lo hi a b cd) k) ((k : Int) + 1) W) else d_X11_leastOf_r31d_39 f a b cd q (sC2 (sLp E g lo hi a b cd) k) ((k : Int) + 1) W) := by
      refine (if_neg (by omega)).trans ?_
      rw [show (k : Int).toNat = k from by omega, e82]
      rfl
    rw [st]
    by_cases c1 : g k = (k : Int)
    · rw [if_pos c1, xhb P (by omega) c1]
      by_cases c2 : sHb E g (k : Int) cd 146399
      · rw [tv_t c2, if_neg (by decide)]
        rw [tv_f (fun z => z.2.1 c2), Int.add_zero] at sl
        rw [sl] at nx
        exact nx W P
      · rw [tv_f c2, if_pos rfl]
        obtain ⟨l1, l2⟩ := L k W (by omega) c1 P
        have P2 : pXs (d_X7_readSpan_r78d (k : Int) W) E g := pXs_Qy (pQy_F (fr_d_X7_readSpan_r78d (k : Int) W) rfl) P
        rw [l1, l2, j_ia (by have := e; unfold sNl at this; omega) (by omega) (by unfold sNl at e; omega)]
        by_cases q1 : sLp E g lo hi a b cd k
        · rw [tv_t q1] at sl
          obtain ⟨_, _, z1, z2, z3⟩ := q1
          rw [sl] at nx
          rw [if_neg (by omega), if_neg (by omega), if_neg (by omega)]
          exact nx _ P2
        · rw [tv_f q1, Int.add_zero] at sl
          rw [sl] at nx
          by_cases y1 : lo k < a
          · rw [if_pos y1]; exact nx _ P2
          · rw [if_neg y1]
            by_cases y2 : b < hi k
            · rw [if_pos y2]; exact nx _ P2
            · rw [if_neg y2, if_pos (show hi k < lo k from Classical.byContradiction fun w => q1 ⟨c1, c2, by omega, by omega, by omega⟩)]
              exact nx _ P2
    · rw [if_neg c1]
      rw [tv_f (fun z => c1 z.1), Int.add_zero] at sl
      rw [sl] at nx
      exact nx W P
/-- the least, of BAPTISMS (0) or BURIALS (2) -/
noncomputable def sLe (E : pE) (g : Nat → Int) (bk a b : Int) : Int := if bk = 0 then sC2 (sLp E g (fun k => (sSn E g (k : Int)).1) (fun k => (sSn E g (k : Int)).2.1) a b 0) (sNl E) else if bk = 2 then sC2 (sLp E g (fun k => (sSn E g (k : Int)).2.2.1) (fun k => (sSn E g (k : Int)).2.2.2) a b 5) (sNl E) else 0
theorem xle {W : jW} {bk : Int} (P : pXs W E g) : (d_X11_leastOf_r31d bk a b W).1 = sLe E g bk a b := by
  have b0 := P.2.1
  unfold d_X11_leastOf_r31d d_X11_leastOf_r31d_11 d_X11_leastOf_r31d_200020 d_X11_leastOf_r31d_700020 d_X11_leastOf_r31d_200031 d_X11_leastOf_r31d_400031 sLe
  by_cases c0 : bk = 0
  · rw [if_pos c0, if_pos c0, if_pos c0]
    exact x39 (q := 0) (Int.le_refl 0) (fun p V hp ep PV => ⟨(xsp PV hp ep).1, (xsp PV hp ep).2.1⟩) (sNl E) 0 601 W (Nat.zero_add _) (by unfold sNl; omega) P
  · rw [if_neg c0, if_neg c0]
    by_cases c2 : bk = 2
    · rw [if_pos c2, if_pos c2, if_neg c0]
      exact x39 (q := 2) (by decide) (fun p V hp ep PV => ⟨(xsp PV hp ep).2.2.1, (xsp PV hp ep).2.2.2⟩) (sNl E) 0 601 W (Nat.zero_add _) (by unfold sNl; omega) P
    · rw [if_neg c2, if_neg c2, if_neg c0]
theorem pMs_s {M : jW} {s : Int} (P : pMs M E g) : pMs (d_X12_findSpan_r125d s M) E g := by
  have F := fr_d_X12_findSpan_r125d s M
  obtain ⟨a1, a2, a3, a4, a5, a6, a7⟩ := P
  refine ⟨?_, a2, a3, a4, a5, a6, by rw [pF_c F rfl]; exact a7⟩
  rw [← a1]
  unfold eOf
  rw [pF_c F (c := 126) rfl, pF_c F (c := 132) rfl, pF_c F (c := 133) rfl, pF_c F (c := 134) rfl, F.1 125 27 rfl]
theorem m6l {bk : Int} (hk : (bk = 0 ∧ cd = 0) ∨ (bk = 2 ∧ cd = 5)) (L : ∀ (p : Nat) (W : jW), pMs W E g → (if bk = 0 then (d_X12_findSpan_r125d (p : Int) W).1 125 32 else (d_X12_findSpan_r125d (p : Int) W).1 125 34) = lo p ∧ (if bk = 0 then (d_X12_findSpan_r125d (p : Int) W).1 125 33 else (d_X12_findSpan_r125d (p : Int) W).1 125 35) = hi p) : ∀ (c k f : Nat) (W : jW), k + c = sNl E → c < f → pMs W E g → (d_X12_leastFilled_r125d_6 f bk a b (sC2 (sLp E g lo hi a b cd) k) (k : Int) W).1 = sC2 (sLp E g lo hi a b cd) (sNl E) := by
  intro c
  induction c with
  | zero =>
    intro k f W e hf P
    obtain ⟨f, rfl⟩ : ∃ q, f = q + 1 := ⟨f - 1, by omega⟩
    have e0 : W.1 126 = E.1 := congrArg Prod.fst P.1
    have b0 := P.2.2.2.2.2.1
    have st : d_X12_leastFilled_r125d_6 (f + 1) bk a b (sC2 (sLp E g lo hi a b cd) k) (k : Int) W = (sC2 (sLp E g lo hi a b cd) k, W) := if_pos (by rw [e0]; unfold sNl at e; omega)
    rw [st, ← e, Nat.add_zero]
  | succ c ih =>
    intro k f W e hf P
    obtain ⟨f, rfl⟩ : ∃ q, f = q + 1 := ⟨f - 1, by omega⟩
    have e0 : W.1 126 = E.1 := congrArg Prod.fst P.1
    have b0 := P.2.2.2.2.2.1
    have e139 := P.2.2.2.2.2.2 k (by omega)
    have lb := c2_b (P := sLp E g lo hi a b cd) k
    have nl : (sNl E : Int) = 3 * E.1 0 := by unfold sNl; omega
    have sl : sC2 (sLp E g lo hi a b cd) (k + 1) = sC2 (sLp E g lo hi a b cd) k + tv (sLp E g lo hi a b cd k) := rfl
    have nx := fun (V : jW) (hV : pMs V E g) => ih (k + 1) f V (by omega) (by omega) hV
    rw [show ((k + 1 : Nat) : Int) = (k : Int) + 1 from by omega] at nx
    have st : d_X12_leastFilled_r125d_6 (f + 1) bk a b (sC2 (sLp E g lo hi a b cd) k) (k : Int) W = (if g k = (k : Int) then (if d_X12_mentionOf_r125d (k : Int) cd 146399 W = -1 then (if lo k < a then d_X12_leastFilled_r125d_6 f bk a b (sC2 (sLp E g lo hi a b cd) k) ((k : Int) + 1) (d_X12_findSpan_r125d (k : Int) W) else if b < hi k then d_X12_leastFilled_r125d_6 f bk a b (sC2 (sLp E g lo hi a b cd) k) ((k : Int) + 1) (d_X12_findSpan_r125d (k : Int) W) else if hi k < lo k then d_X12_leastFilled_r125d_6 f bk a b (sC2 (sLp E g lo hi a b cd) k) ((k : Int) + 1) (d_X12_findSpan_r125d (k : Int) W) else d_X12_leastFilled_r125d_6 f bk a b (j_iadd (sC2 (sLp E g lo hi a b cd) k) 1) ((k : Int) + 1) (d_X12_findSpan_r125d (k : Int) W)) else d_X12_leastFilled_r125d_6 f bk a b (sC2 (sLp E g lo hi a b cd) k) ((k : Int) + 1) W) else d_X12_leastFilled_r125d_6 f bk a b (sC2 (sLp E g lo hi a b cd) k) ((k : Int) + 1) W) := by
      obtain ⟨l1, l2⟩ := L k W P
      refine (if_neg (by rw [e0]; omega)).trans ((if_pos (by omega)).trans ((if_neg (by omega)).trans ?_))
      rw [show (k : Int).toNat = k from by omega, e139]
      unfold d_X12_leastFilled_r125d_700054 d_X12_leastFilled_r125d_200054 d_X12_leastFilled_r125d_133 d_X12_leastFilled_r125d_85 d_X12_leastFilled_r125d_102 d_X12_leastFilled_r125d_129 d_X12_leastFilled_r125d_200130 d_X12_leastFilled_r125d_300130 d_X12_leastFilled_r125d_133
      rcases hk with ⟨k1, k2⟩ | ⟨k1, k2⟩
      · rw [if_pos k1] at l1 l2
        rw [if_pos k1, if_pos k1, l1, l2, k2, Int.add_zero]
      · rw [if_neg (show ¬ bk = 0 from by omega)] at l1 l2
        rw [if_neg (show ¬ bk = 0 from by omega), if_neg (show ¬ bk = 0 from by omega), l1, l2, k2, Int.add_zero]
    rw [st]
    by_cases c1 : g k = (k : Int)
    · rw [if_pos c1, mmo P (by omega) (by omega)]
      by_cases c2 : sHb E g (k : Int) cd 146399
      · rw [if_neg (fun z => sMo_h.mp z c2)]
        rw [tv_f (fun z => z.2.1 c2), Int.add_zero] at sl
        rw [sl] at nx
        exact nx W P
      · rw [if_pos (sMo_h.mpr c2)]
        have P2 : pMs (d_X12_findSpan_r125d (k : Int) W) E g := pMs_s P
        rw [j_ia (by omega) (by omega) (by omega)]
        by_cases q1 : sLp E g lo hi a b cd k
        · rw [tv_t q1] at sl
          obtain ⟨_, _, z1, z2, z3⟩ := q1
          rw [sl] at nx
          rw [if_neg (by omega), if_neg (by omega), if_neg (by omega)]
          exact nx _ P2
        · rw [tv_f q1, Int.add_zero] at sl
          rw [sl] at nx
          by_cases y1 : lo k < a
          · rw [if_pos y1]; exact nx _ P2
          · rw [if_neg y1]
            by_cases y2 : b < hi k
            · rw [if_pos y2]; exact nx _ P2
            · rw [if_neg y2, if_pos (show hi k < lo k from Classical.byContradiction fun w => q1 ⟨c1, c2, by omega, by omega, by omega⟩)]
              exact nx _ P2
    · rw [if_neg c1]
      rw [tv_f (fun z => c1 z.1), Int.add_zero] at sl
      rw [sl] at nx
      exact nx W P
theorem mle {W : jW} {bk : Int} (P : pMs W E g) (hb : 0 ≤ bk ∧ bk ≤ 5) : (d_X12_leastFilled_r125d bk a b W).1 = sLe E g bk a b := by
  have b0 := P.2.2.2.2.2.1
  have e0 : W.1 126 = E.1 := congrArg Prod.fst P.1
  have tp : ∀ (p : Nat) (V : jW), pMs V E g → (d_X12_findSpan_r125d (p : Int) V).1 125 32 = (sSn E g (p : Int)).1 ∧ (d_X12_findSpan_r125d (p : Int) V).1 125 33 = (sSn E g (p : Int)).2.1 ∧ (d_X12_findSpan_r125d (p : Int) V).1 125 34 = (sSn E g (p : Int)).2.2.1 ∧ (d_X12_findSpan_r125d (p : Int) V).1 125 35 = (sSn E g (p : Int)).2.2.2 := fun p V PV => by
    have t := msp PV (s := (p : Int)) (by omega)
    exact ⟨congrArg (fun x => x.1) t, congrArg (fun x => x.2.1) t, congrArg (fun x => x.2.2.1) t, congrArg (fun x => x.2.2.2) t⟩
  unfold sLe
  by_cases c0 : bk = 0
  · rw [if_pos c0]
    exact m6l (Or.inl ⟨c0, rfl⟩) (fun p V PV => by rw [if_pos c0, if_pos c0]; exact ⟨(tp p V PV).1, (tp p V PV).2.1⟩) (sNl E) 0 601 W (Nat.zero_add _) (by unfold sNl; omega) P
  · rw [if_neg c0]
    by_cases c2 : bk = 2
    · rw [if_pos c2]
      exact m6l (Or.inr ⟨c2, rfl⟩) (fun p V PV => by rw [if_neg c0, if_neg c0]; exact ⟨(tp p V PV).2.2.1, (tp p V PV).2.2.2⟩) (sNl E) 0 601 W (Nat.zero_add _) (by unfold sNl; omega) P
    · rw [if_neg c2]
      unfold d_X12_leastFilled_r125d
      show (if 3 * W.1 126 0 ≤ 0 then ((0 : Int), W) else if bk % 2 = 0 then (if 4 ≤ bk then ((0 : Int), W) else _) else ((0 : Int), W)).1 = 0
      by_cases c3 : 3 * W.1 126 0 ≤ 0
      · rw [if_pos c3]
      · rw [if_neg c3]
        by_cases c4 : bk % 2 = 0
        · rw [if_pos c4, if_pos (show 4 ≤ bk from by omega)]
        · rw [if_neg c4]
end
end jG91

section jG92
/-! pure: SEATS kept at the class -/
theorem sd_70 {l1 l2 l4 : Int} {W : jW} : (d_X4_sitDown_r107d_70 l1 l2 l4 W).1 114 = W.1 114 := by
  unfold d_X4_sitDown_r107d_70 d_X4_sitDown_r107d_103
  by_cases c : 40 ≤ l4
  · rw [if_pos c]
  · rw [if_neg c]
    exact (vu_c (by decide)).trans (show (vu W 112 l4.toNat l1).1 114 = W.1 114 from vu_c (by decide))
theorem sd_6 : ∀ (r : Nat) (l1 l2 l4 : Int) (W : jW), (d_X4_sitDown_r107d_6 r l1 l2 l4 W).1 114 = W.1 114 := by
  intro r
  induction r with
  | zero => intro _ _ _ _; rfl
  | succ r ih =>
    intro l1 l2 l4 W
    show (if l4 ≤ 0 then d_X4_sitDown_r107d_70 l1 l2 l4 W else if 40 ≤ l4 then d_X4_sitDown_r107d_70 l1 l2 l4 W else if l2 ≤ W.2.1 113 (l4 - 1).toNat then d_X4_sitDown_r107d_70 l1 l2 l4 W else d_X4_sitDown_r107d_6 r l1 l2 (l4 + (-1)) (vuL (vu W 112 l4.toNat (W.1 112 (l4 - 1).toNat)) 113 l4.toNat (W.2.1 113 (l4 - 1).toNat))).1 114 = W.1 114
    by_cases c1 : l4 ≤ 0
    · rw [if_pos c1]; exact sd_70
    · rw [if_neg c1]
      by_cases c2 : 40 ≤ l4
      · rw [if_pos c2]; exact sd_70
      · rw [if_neg c2]
        by_cases c3 : l2 ≤ W.2.1 113 (l4 - 1).toNat
        · rw [if_pos c3]; exact sd_70
        · rw [if_neg c3, ih]
          exact (show (vu W 112 l4.toNat (W.1 112 (l4 - 1).toNat)).1 114 = W.1 114 from vu_c (by decide))
theorem sa_36 : ∀ (r : Nat) (l3 : Int) (W : jW), (d_X4_seatAll_r107d_36 r l3 W).1 114 = W.1 114 := by
  intro r
  induction r with
  | zero => intro _ _; rfl
  | succ r ih =>
    intro l3 W
    have we : (d_X0_weigh_r98d 7 0 (W.1 103 l3.toNat) W).2.1 114 = W.1 114 := pF_c (fr_d_X0_weigh_r98d 7 0 (W.1 103 l3.toNat) W) rfl
    show (if min 40 (W.1 49 3) ≤ l3 then W else if W.1 103 l3.toNat = -1 then d_X4_seatAll_r107d_36 r (l3 + 1) W else if (d_X0_weigh_r98d 7 0 (W.1 103 l3.toNat) W).1 = 0 then d_X4_seatAll_r107d_36 r (l3 + 1) (d_X4_sitDown_r107d l3 (-2000000000000) (d_X0_weigh_r98d 7 0 (W.1 103 l3.toNat) W).2) else d_X4_seatAll_r107d_36 r (l3 + 1) (d_X4_sitDown_r107d l3 ((d_X0_weigh_r98d 7 0 (W.1 103 l3.toNat) W).2.2.1 98 14) (d_X0_weigh_r98d 7 0 (W.1 103 l3.toNat) W).2)).1 114 = W.1 114
    by_cases c1 : min 40 (W.1 49 3) ≤ l3
    · rw [if_pos c1]
    · rw [if_neg c1]
      by_cases c2 : W.1 103 l3.toNat = -1
      · rw [if_pos c2]; exact ih _ _
      · rw [if_neg c2]
        by_cases c3 : (d_X0_weigh_r98d 7 0 (W.1 103 l3.toNat) W).1 = 0
        · rw [if_pos c3, ih]
          exact (sd_6 _ _ _ _ _).trans we
        · rw [if_neg c3, ih]
          exact (sd_6 _ _ _ _ _).trans we
/-- SEATS are kept as they are worked out -/
def pSk (X : jW) (S : Nat × (Nat → Int)) : Prop := X.1 107 9 = (S.1 : Int) ∧ ∀ j : Nat, j < S.1 → X.1 112 j = S.2 j
noncomputable def sSa (E : pE) (d kn : Int) : Nat × (Nat → Int) := sSe E (sGs E kn).1 d kn (E.1 7).toNat
def pKe (X : jW) (E : pE) : Prop := X.1 114 2 = X.1 32 19 → (0 ≤ X.1 114 0 ∧ X.1 114 0 ≤ 146399) ∧ pSk X (sSa E (X.1 114 0) (X.1 114 1))
theorem xsa {X : jW} {E : pE} {d kn : Int} (P : pVk X E kn) (K : pKe X E) (I : pIq E (sGs E kn).1) (hd : 0 ≤ d ∧ d ≤ 146399) (Ik : pIk E.1) (Il : pIl E.1) (O : ∀ p : Nat, p < sNl E → (sGs E kn).1 p = (p : Int) → qOk fun w => sQu E (sGs E kn).1 d kn w (p : Int)) : pSk (d_X4_seatAll_r107d d kn X) (sSa E d kn) ∧ pVk (d_X4_seatAll_r107d d kn X) E kn ∧ pKe (d_X4_seatAll_r107d d kn X) E := by
  have b7 := I.2.2.1.1
  have P0 : pVk (vu (vu (vu X 114 0 d) 114 1 kn) 114 2 (X.1 32 19)) E kn := pVk_u (pVk_u (pVk_u P (by omega)) (by omega)) (by omega)
  have k0 : (vu (vu (vu X 114 0 d) 114 1 kn) 114 2 (X.1 32 19)).1 114 0 = d := (vu_n (by omega)).trans ((vu_n (by omega)).trans (vu_e rfl))
  have k1 : (vu (vu (vu X 114 0 d) 114 1 kn) 114 2 (X.1 32 19)).1 114 1 = kn := (vu_n (by omega)).trans (vu_e rfl)
  have n107 : (vu (vu (vu X 114 0 d) 114 1 kn) 114 2 (X.1 32 19)).1 107 = X.1 107 := (vu_c (by decide)).trans ((vu_c (by decide)).trans (vu_c (by decide)))
  have n112 : (vu (vu (vu X 114 0 d) 114 1 kn) 114 2 (X.1 32 19)).1 112 = X.1 112 := (vu_c (by decide)).trans ((vu_c (by decide)).trans (vu_c (by decide)))
  have fresh : pSk (d_X4_seatAll_r107d_36 41 0 (vu (d_X0_readHouses_r98d d kn (d_X0_readLaws_r98d d kn (vu (vu (vu X 114 0 d) 114 1 kn) 114 2 (X.1 32 19)))) 107 9 0)) (sSa E d kn) ∧ pVk (d_X4_seatAll_r107d_36 41 0 (vu (d_X0_readHouses_r98d d kn (d_X0_readLaws_r98d d kn (vu (vu (vu X 114 0 d) 114 1 kn) 114 2 (X.1 32 19)))) 107 9 0)) E kn ∧ pKe (d_X4_seatAll_r107d_36 41 0 (vu (d_X0_readHouses_r98d d kn (d_X0_readLaws_r98d d kn (vu (vu (vu X 114 0 d) 114 1 kn) 114 2 (X.1 32 19)))) 107 9 0)) E := by
    generalize vu (vu (vu X 114 0 d) 114 1 kn) 114 2 (X.1 32 19) = W0 at *
    obtain ⟨l1, l2, l3, l4, l5, l6, l7⟩ := xtl (d := d) P0 Il Ik
    generalize d_X0_readLaws_r98d d kn W0 = W1 at *
    obtain ⟨h1, h2, h3, h4⟩ := xth (d := d) l2 I.2.1 l1
    generalize d_X0_readHouses_r98d d kn W1 = W2 at *
    have q := xs36 h1 I hd (ha_q I P.1.1) Ik Il O (E.1 7).toNat 0 41 (vu W2 107 9 0) (by omega) (by omega) (by omega) (pZ_u pZ_r (by omega)) (vu_e rfl) (fun j hj => absurd hj (Nat.not_lt_zero j))
    have e114 := sa_36 41 0 (vu W2 107 9 0)
    rw [show ((0 : Nat) : Int) = 0 from rfl] at q
    generalize d_X4_seatAll_r107d_36 41 0 (vu W2 107 9 0) = V at *
    have e2 : V.1 114 = W0.1 114 := e114.trans ((vu_c (by decide)).trans ((h4 114 (by omega)).1.trans (l6 114 (by omega))))
    have s : pSk V (sSa E d kn) := ⟨q.2.1, q.2.2⟩
    exact ⟨s, pVk_Z h2 q.1, fun _ => by rw [e2, k0, k1]; exact ⟨hd, s⟩⟩
  unfold d_X4_seatAll_r107d
  by_cases c0 : X.1 114 0 = d
  · rw [if_pos c0]
    by_cases c1 : X.1 114 1 = kn
    · rw [if_pos c1]
      by_cases c2 : X.1 114 2 = X.1 32 19
      · rw [if_pos c2]
        have G := K c2
        rw [c0, c1] at G
        have s : pSk (vu (vu (vu X 114 0 d) 114 1 kn) 114 2 (X.1 32 19)) (sSa E d kn) := by
          unfold pSk
          rw [n107, n112]
          exact G.2
        exact ⟨s, P0, fun _ => by rw [k0, k1]; exact ⟨hd, s⟩⟩
      · rw [if_neg c2]; exact fresh
    · rw [if_neg c1]; exact fresh
  · rw [if_neg c0]; exact fresh
end jG92

section jG93
/-! pure: TURNS kept at the class -/
theorem g45_n : ∀ (r : Nat) (l1 l2 l3 l5 l6 l7 : Int) (W : jW), (d_X4_goRound_r107d_45 r l1 l2 l3 l5 l6 l7 W).1 119 = W.1 119 := by
  intro r
  induction r with
  | zero => intro _ _ _ _ _ _ _; rfl
  | succ r ih =>
    intro l1 l2 l3 l5 l6 l7 W
    have k300 : ∀ l8 l9 : Int, (d_X4_goRound_r107d_300108 (fun l1 l2 l3 l5 l6 l7 W => d_X4_goRound_r107d_45 r l1 l2 l3 l5 l6 l7 W) l1 l2 l3 l5 l6 l7 l8 l9 W).1 119 = W.1 119 := fun l8 l9 => by
      have hf : (d_X0_holdsFor_r98d l2 l3 l9 W).2.1 119 = W.1 119 := pF_c (fr_d_X0_holdsFor_r98d l2 l3 l9 W) rfl
      unfold d_X4_goRound_r107d_300108 d_X4_goRound_r107d_184
      by_cases c1 : l9 = -1
      · rw [if_pos c1]; exact ih _ _ _ _ _ _ _
      · rw [if_neg c1]
        by_cases c2 : d_X7_hasBy_r78d l9 5 (l1 * 366) W = 0
        · rw [if_pos c2]
          by_cases c3 : (d_X0_holdsFor_r98d l2 l3 l9 W).1 = 0
          · rw [if_pos c3]; exact (ih _ _ _ _ _ _ _).trans hf
          · rw [if_neg c3]
            exact (vu_c (by decide)).trans ((vu_c (by decide)).trans ((vu_c (by decide)).trans ((vu_c (by decide)).trans hf)))
        · rw [if_neg c2]; exact ih _ _ _ _ _ _ _
    show (if l5 ≤ l7 then W else (if W.1 117 ((((W.1 107 16) + 1) + l7) % l5).toNat = -1 then d_X4_goRound_r107d_300108 (fun l1 l2 l3 l5 l6 l7 W => d_X4_goRound_r107d_45 r l1 l2 l3 l5 l6 l7 W) l1 l2 l3 l5 l6 l7 ((((W.1 107 16) + 1) + l7) % l5) (W.1 103 ((((W.1 107 16) + 1) + l7) % l5).toNat) W else (if j_isub l1 l6 ≤ W.1 117 ((((W.1 107 16) + 1) + l7) % l5).toNat then d_X4_goRound_r107d_45 r l1 l2 l3 l5 l6 (l7 + 1) W else d_X4_goRound_r107d_300108 (fun l1 l2 l3 l5 l6 l7 W => d_X4_goRound_r107d_45 r l1 l2 l3 l5 l6 l7 W) l1 l2 l3 l5 l6 l7 ((((W.1 107 16) + 1) + l7) % l5) (W.1 103 ((((W.1 107 16) + 1) + l7) % l5).toNat) W))).1 119 = W.1 119
    by_cases c1 : l5 ≤ l7
    · rw [if_pos c1]
    · rw [if_neg c1]
      by_cases c2 : W.1 117 ((((W.1 107 16) + 1) + l7) % l5).toNat = -1
      · rw [if_pos c2]; exact k300 _ _
      · rw [if_neg c2]
        by_cases c3 : j_isub l1 l6 ≤ W.1 117 ((((W.1 107 16) + 1) + l7) % l5).toNat
        · rw [if_pos c3]; exact ih _ _ _ _ _ _ _
        · rw [if_neg c3]; exact k300 _ _
theorem gr_n (l1 l2 l3 : Int) (W : jW) : (d_X4_goRound_r107d l1 l2 l3 W).1 119 = W.1 119 := by
  unfold d_X4_goRound_r107d d_X4_goRound_r107d_200032 d_X4_goRound_r107d_32
  by_cases c1 : W.1 32 18 ≤ l2
  · rw [if_pos c1]; exact (g45_n _ _ _ _ _ _ _ _).trans (vu_c (by decide))
  · rw [if_neg c1]
    by_cases c2 : (W.2.2.1 66 l2.toNat).isNone = true
    · rw [if_pos c2]; exact (g45_n _ _ _ _ _ _ _ _).trans (vu_c (by decide))
    · rw [if_neg c2]; exact (g45_n _ _ _ _ _ _ _ _).trans (vu_c (by decide))
theorem rt_n : ∀ (r : Nat) (l1 l2 l3 : Int) (W : jW), (d_X4_runTurns_r107d_53 r l1 l2 l3 W).1 119 = W.1 119 := by
  intro r
  induction r with
  | zero => intro _ _ _ _; rfl
  | succ r ih =>
    intro l1 l2 l3 W
    have e1 : (d_X0_readLaws_r98d ((W.1 107 15) * 366) l3 (vu (vu W 115 (W.1 107 15).toNat (-1)) 116 (W.1 107 15).toNat 0)).1 119 = W.1 119 := (pF_c (fr_d_X0_readLaws_r98d _ _ _) rfl).trans ((vu_c (by decide)).trans (vu_c (by decide)))
    show (if l2 < W.1 107 15 then W else (if d_X0_lastTurn_r98d l1 (d_X0_readLaws_r98d ((W.1 107 15) * 366) l3 (vu (vu W 115 (W.1 107 15).toNat (-1)) 116 (W.1 107 15).toNat 0)) = -1 then d_X4_runTurns_r107d_157 (fun l1 l2 l3 W => d_X4_runTurns_r107d_53 r l1 l2 l3 W) l1 l2 l3 (d_X0_readLaws_r98d ((W.1 107 15) * 366) l3 (vu (vu W 115 (W.1 107 15).toNat (-1)) 116 (W.1 107 15).toNat 0)) else d_X4_runTurns_r107d_157 (fun l1 l2 l3 W => d_X4_runTurns_r107d_53 r l1 l2 l3 W) l1 l2 l3 (d_X4_goRound_r107d (W.1 107 15) ((d_X0_lastTurn_r98d l1 (d_X0_readLaws_r98d ((W.1 107 15) * 366) l3 (vu (vu W 115 (W.1 107 15).toNat (-1)) 116 (W.1 107 15).toNat 0))) / 12) ((d_X0_lastTurn_r98d l1 (d_X0_readLaws_r98d ((W.1 107 15) * 366) l3 (vu (vu W 115 (W.1 107 15).toNat (-1)) 116 (W.1 107 15).toNat 0))) % 12) (d_X0_readHouses_r98d ((W.1 107 15) * 366) l3 (d_X0_readLaws_r98d ((W.1 107 15) * 366) l3 (vu (vu W 115 (W.1 107 15).toNat (-1)) 116 (W.1 107 15).toNat 0)))))).1 119 = W.1 119
    generalize d_X0_readLaws_r98d ((W.1 107 15) * 366) l3 (vu (vu W 115 (W.1 107 15).toNat (-1)) 116 (W.1 107 15).toNat 0) = W1 at *
    unfold d_X4_runTurns_r107d_157
    by_cases c1 : l2 < W.1 107 15
    · rw [if_pos c1]
    · rw [if_neg c1]
      by_cases c2 : d_X0_lastTurn_r98d l1 W1 = -1
      · rw [if_pos c2]; exact (ih _ _ _ _).trans ((vu_c (by decide)).trans e1)
      · rw [if_neg c2]
        exact (ih _ _ _ _).trans ((vu_c (by decide)).trans ((gr_n _ _ _ _).trans ((pF_c (fr_d_X0_readHouses_r98d _ _ _) rfl).trans e1)))
/-- TURNS are kept as they are worked out, up to some YEAR -/
def pTkn (X : jW) (E : pE) (kn o : Int) : Prop := ∃ y : Nat, y ≤ 400 ∧ X.1 107 15 = (y : Int) ∧ X.1 107 16 = (sYs E (sGs E kn).1 kn o y).2.2 ∧ (∀ j : Nat, j < y → X.1 115 j = (sYs E (sGs E kn).1 kn o y).1 j ∧ X.1 116 j = (sYs E (sGs E kn).1 kn o y).2.1 j) ∧ pLsv (X.1 117) (sYs E (sGs E kn).1 kn o y).1 y (E.1 7)
def pKt (X : jW) (E : pE) : Prop := X.1 119 2 = X.1 32 19 → pTkn X E (X.1 119 1) (X.1 119 0)
theorem x32r {E : pE} {kn o : Int} (h7 : E.1 7 ≤ 40) : ∀ (c h f : Nat) (yl : Int) (W : jW), h + c = 40 → c < f → pVk W E kn → W.1 107 15 = 0 → W.1 107 16 = -1 → (∀ i : Nat, i < h → W.1 117 i = -1) → ∃ V : jW, d_X4_runTurns_r107d_32 f o yl kn (h : Int) W = d_X4_runTurns_r107d_53 401 o yl kn V ∧ pYrx V E kn o 0 ∧ V.1 119 = W.1 119 := by
  intro c
  induction c with
  | zero =>
    intro h f yl W e hf P a b d
    obtain ⟨f, rfl⟩ : ∃ q, f = q + 1 := ⟨f - 1, by omega⟩
    exact ⟨W, if_pos (by omega), ⟨P, a, b, fun j hj => absurd hj (Nat.not_lt_zero j), fun i hi => Or.inl ⟨d i (by omega), fun j hj => absurd hj (Nat.not_lt_zero j)⟩⟩, rfl⟩
  | succ c ih =>
    intro h f yl W e hf P a b d
    obtain ⟨f, rfl⟩ : ∃ q, f = q + 1 := ⟨f - 1, by omega⟩
    have st : d_X4_runTurns_r107d_32 (f + 1) o yl kn (h : Int) W = d_X4_runTurns_r107d_32 f o yl kn ((h + 1 : Nat) : Int) (vu W 117 h (-1)) := by
      refine (if_neg (by omega)).trans ?_
      rw [show (h : Int).toNat = h from by omega]
      rfl
    obtain ⟨V, v1, v2, v3⟩ := ih (h + 1) f yl (vu W 117 h (-1)) (by omega) (by omega) (pVk_u P (by omega)) (by rw [vu_n (by omega)]; exact a) (by rw [vu_n (by omega)]; exact b) (fun i hi => by
      by_cases q : i = h
      · exact vu_e q
      · rw [vu_n (by omega)]; exact d i (by omega))
    exact ⟨V, st.trans v1, v2, v3.trans (vu_c (by decide))⟩
/-- the class: all TURNS up to a YEAR -/
theorem xrt3 {X : jW} {E : pE} {kn o : Int} {yl : Nat} (P : pVk X E kn) (K : pKt X E) (I : pIq E (sGs E kn).1) (hy : yl ≤ 399) (Ik : pIk E.1) (Il : pIl E.1) (I6 : pI6 E.1) (O : ∀ y : Nat, y ≤ 399 → ∀ p : Nat, p < sNl E → (sGs E kn).1 p = (p : Int) → qOk fun w => sQu E (sGs E kn).1 ((y : Int) * 366) kn w (p : Int)) : (∃ y1 : Nat, yl < y1 ∧ pYrx (d_X4_runTurns_r107d o (yl : Int) kn X) E kn o y1) ∧ pKt (d_X4_runTurns_r107d o (yl : Int) kn X) E ∧ (X.1 119 2 ≠ X.1 32 19 → (d_X4_runTurns_r107d o (yl : Int) kn X).1 107 15 = (yl : Int) + 1) := by
  have b7 := I.2.2.1.1
  have P0 : pVk (vu (vu (vu X 119 0 o) 119 1 kn) 119 2 (X.1 32 19)) E kn := pVk_u (pVk_u (pVk_u P (by omega)) (by omega)) (by omega)
  have k0 : (vu (vu (vu X 119 0 o) 119 1 kn) 119 2 (X.1 32 19)).1 119 0 = o := (vu_n (by omega)).trans ((vu_n (by omega)).trans (vu_e rfl))
  have k1 : (vu (vu (vu X 119 0 o) 119 1 kn) 119 2 (X.1 32 19)).1 119 1 = kn := (vu_n (by omega)).trans (vu_e rfl)
  have nn : ∀ c : Nat, c ≠ 119 → (vu (vu (vu X 119 0 o) 119 1 kn) 119 2 (X.1 32 19)).1 c = X.1 c := fun c hc => (vu_c hc).trans ((vu_c hc).trans (vu_c hc))
  have fin : ∀ (y : Nat) (V : jW), y ≤ 400 → pYrx V E kn o y → V.1 119 0 = o → V.1 119 1 = kn → (∃ y1 : Nat, yl < y1 ∧ pYrx (d_X4_runTurns_r107d_53 401 o (yl : Int) kn V) E kn o y1) ∧ pKt (d_X4_runTurns_r107d_53 401 o (yl : Int) kn V) E ∧ (y ≤ yl + 1 → (d_X4_runTurns_r107d_53 401 o (yl : Int) kn V).1 107 15 = (yl : Int) + 1) := fun y V h4 Q a b => by
    obtain ⟨y1, h1, Q1, h5, h6⟩ := xrn I P.1.1 hy Ik Il I6 O (yl + 1 - y) y 401 V rfl (by omega) Q h4
    refine ⟨⟨y1, h1, Q1⟩, fun _ => ?_, fun hh => by rw [Q1.2.1, h6 hh]; omega⟩
    rw [rt_n 401 o (yl : Int) kn V, a, b]
    exact ⟨y1, h5, Q1.2⟩
  have fresh : (∃ y1 : Nat, yl < y1 ∧ pYrx (d_X4_runTurns_r107d_32 41 o (yl : Int) kn 0 (vu (vu (vu (vu (vu X 119 0 o) 119 1 kn) 119 2 (X.1 32 19)) 107 15 0) 107 16 (-1))) E kn o y1) ∧ pKt (d_X4_runTurns_r107d_32 41 o (yl : Int) kn 0 (vu (vu (vu (vu (vu X 119 0 o) 119 1 kn) 119 2 (X.1 32 19)) 107 15 0) 107 16 (-1))) E ∧ (d_X4_runTurns_r107d_32 41 o (yl : Int) kn 0 (vu (vu (vu (vu (vu X 119 0 o) 119 1 kn) 119 2 (X.1 32 19)) 107 15 0) 107 16 (-1))).1 107 15 = (yl : Int) + 1 := by
    obtain ⟨V, v1, v2, v3⟩ := x32r (o := o) b7.2 40 0 41 (yl : Int) (vu (vu (vu (vu (vu X 119 0 o) 119 1 kn) 119 2 (X.1 32 19)) 107 15 0) 107 16 (-1)) (by omega) (by omega) (pVk_u (pVk_u P0 (by omega)) (by omega)) ((vu_n (by omega)).trans (vu_e rfl)) (vu_e rfl) (fun i hi => absurd hi (Nat.not_lt_zero i))
    have e9 : V.1 119 = (vu (vu (vu X 119 0 o) 119 1 kn) 119 2 (X.1 32 19)).1 119 := v3.trans ((vu_c (by decide)).trans (vu_c (by decide)))
    have st : d_X4_runTurns_r107d_32 41 o (yl : Int) kn 0 (vu (vu (vu (vu (vu X 119 0 o) 119 1 kn) 119 2 (X.1 32 19)) 107 15 0) 107 16 (-1)) = d_X4_runTurns_r107d_53 401 o (yl : Int) kn V := v1
    rw [st]
    have q := fin 0 V (by omega) v2 (by rw [e9]; exact k0) (by rw [e9]; exact k1)
    exact ⟨q.1, q.2.1, q.2.2 (by omega)⟩
  unfold d_X4_runTurns_r107d
  by_cases c0 : X.1 119 0 = o
  · rw [if_pos c0]
    by_cases c1 : X.1 119 1 = kn
    · rw [if_pos c1]
      by_cases c2 : X.1 119 2 = X.1 32 19
      · rw [if_pos c2]
        have G := K c2
        rw [c0, c1] at G
        obtain ⟨y, g0, g1, g2, g3, g4⟩ := G
        have q := fin y _ g0 ⟨P0, by rw [nn 107 (by decide)]; exact g1, by rw [nn 107 (by decide)]; exact g2, fun j hj => by rw [nn 115 (by decide), nn 116 (by decide)]; exact g3 j hj, by rw [nn 117 (by decide)]; exact g4⟩ k0 k1
        exact ⟨q.1, q.2.1, fun h => absurd c2 h⟩
      · rw [if_neg c2]; exact ⟨fresh.1, fresh.2.1, fun _ => fresh.2.2⟩
    · rw [if_neg c1]; exact ⟨fresh.1, fresh.2.1, fun _ => fresh.2.2⟩
  · rw [if_neg c0]; exact ⟨fresh.1, fresh.2.1, fun _ => fresh.2.2⟩
theorem xrt {X : jW} {E : pE} {kn o : Int} {yl : Nat} (P : pVk X E kn) (K : pKt X E) (I : pIq E (sGs E kn).1) (hy : yl ≤ 399) (Ik : pIk E.1) (Il : pIl E.1) (I6 : pI6 E.1) (O : ∀ y : Nat, y ≤ 399 → ∀ p : Nat, p < sNl E → (sGs E kn).1 p = (p : Int) → qOk fun w => sQu E (sGs E kn).1 ((y : Int) * 366) kn w (p : Int)) : (∃ y1 : Nat, yl < y1 ∧ pYrx (d_X4_runTurns_r107d o (yl : Int) kn X) E kn o y1) ∧ pKt (d_X4_runTurns_r107d o (yl : Int) kn X) E := ⟨(xrt3 P K I hy Ik Il I6 O).1, (xrt3 P K I hy Ik Il I6 O).2.1⟩
end jG93

section jG94
/-! pure: LEVIES kept at the class -/
theorem po_198 : ∀ (r : Nat) (l3 l7 : Int) (W : jW), (d_X4_partOut_r107d_198 r l3 l7 W).1 111 = W.1 111 := by
  intro r
  induction r with
  | zero => intro _ _ _; rfl
  | succ r ih =>
    intro l3 l7 W
    have we : (d_X0_weigh_r98d 2 l3 (W.1 103 l7.toNat) W).2.1 111 = W.1 111 := pF_c (fr_d_X0_weigh_r98d 2 l3 (W.1 103 l7.toNat) W) rfl
    show (if min 40 (W.1 49 3) ≤ l7 then W else if W.1 108 l7.toNat ≤ 0 then d_X4_partOut_r107d_198 r l3 (l7 + 1) W else if (d_X0_weigh_r98d 2 l3 (W.1 103 l7.toNat) W).1 = 0 then d_X4_partOut_r107d_198 r l3 (l7 + 1) (d_X0_weigh_r98d 2 l3 (W.1 103 l7.toNat) W).2 else d_X4_partOut_r107d_198 r l3 (l7 + 1) (vu (d_X0_weigh_r98d 2 l3 (W.1 103 l7.toNat) W).2 108 l7.toNat (min (W.1 108 l7.toNat) (max 0 ((d_X0_weigh_r98d 2 l3 (W.1 103 l7.toNat) W).2.2.1 98 14))))).1 111 = W.1 111
    by_cases c1 : min 40 (W.1 49 3) ≤ l7
    · rw [if_pos c1]
    · rw [if_neg c1]
      by_cases c2 : W.1 108 l7.toNat ≤ 0
      · rw [if_pos c2]; exact ih _ _ _
      · rw [if_neg c2]
        by_cases c3 : (d_X0_weigh_r98d 2 l3 (W.1 103 l7.toNat) W).1 = 0
        · rw [if_pos c3]; exact (ih _ _ _).trans we
        · rw [if_neg c3]; exact (ih _ _ _).trans ((vu_c (by decide)).trans we)
theorem po_77 : ∀ (r : Nat) (l3 l4 l5 l7 : Int) (W : jW), (d_X4_partOut_r107d_77 r l3 l4 l5 l7 W).1 111 = W.1 111 := by
  intro r
  induction r with
  | zero => intro _ _ _ _ _; rfl
  | succ r ih =>
    intro l3 l4 l5 l7 W
    have we : (d_X0_weigh_r98d 1 l3 (W.1 103 l7.toNat) W).2.1 111 = W.1 111 := pF_c (fr_d_X0_weigh_r98d 1 l3 (W.1 103 l7.toNat) W) rfl
    have go : ∀ (U : jW) (x y : Int), U.1 111 = W.1 111 → (d_X4_partOut_r107d_77 r l3 l4 y (l7 + 1) (vu U 109 l7.toNat x)).1 111 = W.1 111 := fun U x y e => (ih _ _ _ _ _).trans ((vu_c (by decide)).trans e)
    show (if min 40 (W.1 49 3) ≤ l7 then d_X4_partOut_r107d_198 41 l3 0 (d_X4_share_r107d l4 l5 W) else (if W.1 102 l7.toNat ≤ 0 then d_X4_partOut_r107d_77 r l3 l4 (j_ladd l5 ((vu W 109 l7.toNat 0).1 109 l7.toNat)) (l7 + 1) (vu W 109 l7.toNat 0) else (if W.1 103 l7.toNat = -1 then d_X4_partOut_r107d_77 r l3 l4 (j_ladd l5 ((vu W 109 l7.toNat 0).1 109 l7.toNat)) (l7 + 1) (vu W 109 l7.toNat 0) else (if (d_X0_weigh_r98d 1 l3 (W.1 103 l7.toNat) W).1 = 0 then d_X4_partOut_r107d_77 r l3 l4 (j_ladd l5 ((vu (d_X0_weigh_r98d 1 l3 (W.1 103 l7.toNat) W).2 109 l7.toNat ((d_X0_weigh_r98d 1 l3 (W.1 103 l7.toNat) W).2.1 102 l7.toNat)).1 109 l7.toNat)) (l7 + 1) (vu (d_X0_weigh_r98d 1 l3 (W.1 103 l7.toNat) W).2 109 l7.toNat ((d_X0_weigh_r98d 1 l3 (W.1 103 l7.toNat) W).2.1 102 l7.toNat)) else d_X4_partOut_r107d_77 r l3 l4 (j_ladd l5 ((vu (d_X0_weigh_r98d 1 l3 (W.1 103 l7.toNat) W).2 109 l7.toNat 0).1 109 l7.toNat)) (l7 + 1) (vu (d_X0_weigh_r98d 1 l3 (W.1 103 l7.toNat) W).2 109 l7.toNat 0))))).1 111 = W.1 111
    by_cases c1 : min 40 (W.1 49 3) ≤ l7
    · rw [if_pos c1]
      exact (po_198 _ _ _ _).trans (pF_c (fr_d_X4_share_r107d l4 l5 W) rfl)
    · rw [if_neg c1]
      by_cases c2 : W.1 102 l7.toNat ≤ 0
      · rw [if_pos c2]; exact go W _ _ rfl
      · rw [if_neg c2]
        by_cases c3 : W.1 103 l7.toNat = -1
        · rw [if_pos c3]; exact go W _ _ rfl
        · rw [if_neg c3]
          by_cases c4 : (d_X0_weigh_r98d 1 l3 (W.1 103 l7.toNat) W).1 = 0
          · rw [if_pos c4]; exact go _ _ _ we
          · rw [if_neg c4]; exact go _ _ _ we
/-- LEVIES are kept as they are parted -/
noncomputable def sLl (E : pE) (kn l : Int) (j : Nat) : Int := sLv E (sGs E kn).1 (E.1 (48300 + 4 * l + 1).toNat * 366) kn (E.1 (48300 + 4 * l + 0).toNat) (E.1 (48300 + 4 * l + 2).toNat) j
def pKv (X : jW) (E : pE) : Prop := X.1 111 2 = X.1 32 19 → 0 ≤ X.1 111 0 → X.1 111 0 < E.1 11 → ∀ j : Nat, (j : Int) < E.1 7 → X.1 108 j = sLl E (X.1 111 1) (X.1 111 0) j
theorem xpo {X : jW} {E : pE} {kn l : Int} (P : pVk X E kn) (T : pT X 32 pt_10 E.1) (K : pKv X E) (I : pIq E (sGs E kn).1) (hl : 0 ≤ l ∧ l < E.1 11) (hY : 0 ≤ E.1 (48300 + 4 * l + 1).toNat ∧ E.1 (48300 + 4 * l + 1).toNat ≤ 399) (hP : 0 ≤ E.1 (48300 + 4 * l + 2).toNat ∧ E.1 (48300 + 4 * l + 2).toNat ≤ 1000000) (Ik : pIk E.1) (Il : pIl E.1) (O : ∀ y : Int, 0 ≤ y → y ≤ 399 → ∀ p : Nat, p < sNl E → (sGs E kn).1 p = (p : Int) → qOk fun w => sQu E (sGs E kn).1 (y * 366) kn w (p : Int)) : (∀ j : Nat, (j : Int) < E.1 7 → (d_X4_partOut_r107d l kn X).1 108 j = sLl E kn l j) ∧ pVk (d_X4_partOut_r107d l kn X) E kn ∧ pKv (d_X4_partOut_r107d l kn X) E := by
  have P0 : pVk (vu (vu (vu X 111 0 l) 111 1 kn) 111 2 (X.1 32 19)) E kn := pVk_u (pVk_u (pVk_u P (by omega)) (by omega)) (by omega)
  have k0 : (vu (vu (vu X 111 0 l) 111 1 kn) 111 2 (X.1 32 19)).1 111 0 = l := (vu_n (by omega)).trans ((vu_n (by omega)).trans (vu_e rfl))
  have k1 : (vu (vu (vu X 111 0 l) 111 1 kn) 111 2 (X.1 32 19)).1 111 1 = kn := (vu_n (by omega)).trans (vu_e rfl)
  have n108 : (vu (vu (vu X 111 0 l) 111 1 kn) 111 2 (X.1 32 19)).1 108 = X.1 108 := (vu_c (by decide)).trans ((vu_c (by decide)).trans (vu_c (by decide)))
  have T0 : pT (vu (vu (vu X 111 0 l) 111 1 kn) 111 2 (X.1 32 19)) 32 pt_10 E.1 := pT_Qy (pQy_u (pQy_u (pQy_u pQy_r (by omega)) (by omega)) (by omega)) (by decide) T
  have a1 := at_53_1 T0 hl.1 hl.2
  have a2 := at_53_2 T0 hl.1 hl.2
  have a3 := at_53_3 T0 hl.1 hl.2
  have fresh : (∀ j : Nat, (j : Int) < E.1 7 → (d_X4_partOut_r107d_77 41 (E.1 (48300 + 4 * l + 0).toNat) (E.1 (48300 + 4 * l + 2).toNat) 0 0 (d_X0_readHouses_r98d (E.1 (48300 + 4 * l + 1).toNat * 366) kn (d_X0_readLaws_r98d (E.1 (48300 + 4 * l + 1).toNat * 366) kn (vu (vu (vu X 111 0 l) 111 1 kn) 111 2 (X.1 32 19))))).1 108 j = sLl E kn l j) ∧ pVk (d_X4_partOut_r107d_77 41 (E.1 (48300 + 4 * l + 0).toNat) (E.1 (48300 + 4 * l + 2).toNat) 0 0 (d_X0_readHouses_r98d (E.1 (48300 + 4 * l + 1).toNat * 366) kn (d_X0_readLaws_r98d (E.1 (48300 + 4 * l + 1).toNat * 366) kn (vu (vu (vu X 111 0 l) 111 1 kn) 111 2 (X.1 32 19))))) E kn ∧ pKv (d_X4_partOut_r107d_77 41 (E.1 (48300 + 4 * l + 0).toNat) (E.1 (48300 + 4 * l + 2).toNat) 0 0 (d_X0_readHouses_r98d (E.1 (48300 + 4 * l + 1).toNat * 366) kn (d_X0_readLaws_r98d (E.1 (48300 + 4 * l + 1).toNat * 366) kn (vu (vu (vu X 111 0 l) 111 1 kn) 111 2 (X.1 32 19))))) E := by
    obtain ⟨l1, l2, l3, l4, l5, l6, l7⟩ := xtl (d := E.1 (48300 + 4 * l + 1).toNat * 366) P0 Il Ik
    generalize hW1 : d_X0_readLaws_r98d (E.1 (48300 + 4 * l + 1).toNat * 366) kn (vu (vu (vu X 111 0 l) 111 1 kn) 111 2 (X.1 32 19)) = W1 at *
    obtain ⟨h1, h2, h3, h4⟩ := xth (d := E.1 (48300 + 4 * l + 1).toNat * 366) l2 I.2.1 l1
    generalize hW2 : d_X0_readHouses_r98d (E.1 (48300 + 4 * l + 1).toNat * 366) kn W1 = W2 at *
    have q := xpl (wh := E.1 (48300 + 4 * l + 0).toNat) h1 I (by omega) (ha_q I P.1.1) Ik Il (O _ hY.1 hY.2) hP
    have e := po_77 41 (E.1 (48300 + 4 * l + 0).toNat) (E.1 (48300 + 4 * l + 2).toNat) 0 0 W2
    generalize d_X4_partOut_r107d_77 41 (E.1 (48300 + 4 * l + 0).toNat) (E.1 (48300 + 4 * l + 2).toNat) 0 0 W2 = V at *
    have e2 : V.1 111 = (vu (vu (vu X 111 0 l) 111 1 kn) 111 2 (X.1 32 19)).1 111 := e.trans ((h4 111 (by omega)).1.trans (l6 111 (by omega)))
    exact ⟨q.2, pVk_Z h2 q.1, fun _ _ _ => by rw [e2, k0, k1]; exact q.2⟩
  unfold d_X4_partOut_r107d
  rw [a1, a2, a3]
  by_cases c0 : X.1 111 0 = l
  · rw [if_pos c0]
    by_cases c1 : X.1 111 1 = kn
    · rw [if_pos c1]
      by_cases c2 : X.1 111 2 = X.1 32 19
      · rw [if_pos c2]
        have G := K c2 (by rw [c0]; exact hl.1) (by rw [c0]; exact hl.2)
        rw [c0, c1] at G
        have s : ∀ j : Nat, (j : Int) < E.1 7 → (vu (vu (vu X 111 0 l) 111 1 kn) 111 2 (X.1 32 19)).1 108 j = sLl E kn l j := fun j hj => by rw [n108]; exact G j hj
        exact ⟨s, P0, fun _ _ _ => by rw [k0, k1]; exact s⟩
      · rw [if_neg c2]; exact fresh
    · rw [if_neg c1]; exact fresh
  · rw [if_neg c0]; exact fresh
end jG94

section jG95
/-! pure: where a SOUL BELONGS: GROUNDS whose CLAUSES hold, in their order -/
def sBg (r : Nat → Int) (k : Int) : Int := r ((((18820 + (924 * ((k % 360) / 12))) + 4) + (10 * (k % 12))) + 1).toNat
def sBh (E : pE) (g : Nat → Int) (d kn s : Int) (k : Int) : Prop := (0 ≤ ((k % 360) / 12) ∧ ((k % 360) / 12) ≤ (E.1 4 - 1)) ∧ (0 ≤ (k % 12) ∧ (k % 12) ≤ (E.1 ((18820 + (924 * ((k % 360) / 12))) + 3).toNat - 1)) ∧ E.1 (18820 + (924 * ((k % 360) / 12))).toNat = (k / 360) ∧ E.1 (((18820 + (924 * ((k % 360) / 12))) + 4) + (10 * (k % 12))).toNat = 1 ∧ sHd E.1 d kn ((k % 360) / 12) (k % 12) fun w => sQu E g d kn w s
abbrev sB4 := Nat × (Nat → Int) × (Nat → Int) × Int
noncomputable def sBl (E : pE) (g : Nat → Int) (d kn s : Int) : Nat → sB4
  | 0 => (0, fun _ => 0, fun _ => 0, 0)
  | k + 1 => if tv (sBh E g d kn s (k : Int) ∧ j_iand (j_ishr (sBl E g d kn s k).2.2.2 (sBg E.1 (k : Int))) 1 = 0) = 0 then sBl E g d kn s k else ((sBl E g d kn s k).1 + 1, sU (sBl E g d kn s k).2.1 (sBl E g d kn s k).1 (sBg E.1 (k : Int)), sU (sBl E g d kn s k).2.2.1 (sBl E g d kn s k).1 ((k : Int) % 360), j_ior (sBl E g d kn s k).2.2.2 (j_ishl 1 (sBg E.1 (k : Int))))
/-- GROUNDS are of six -/
def pI1 (r : Nat → Int) : Prop := ∀ t c : Int, 0 ≤ t → t < r 4 → 0 ≤ c → c < r ((18820 + (924 * t)) + 3).toNat → r (((18820 + (924 * t)) + 4) + (10 * c)).toNat = 1 → 0 ≤ r ((((18820 + (924 * t)) + 4) + (10 * c)) + 1).toNat ∧ r ((((18820 + (924 * t)) + 4) + (10 * c)) + 1).toNat ≤ 5
section
variable {E : pE} {g : Nat → Int} {d kn s : Int}
theorem bl_n {k : Nat} (h : ¬ (sBh E g d kn s (k : Int) ∧ j_iand (j_ishr (sBl E g d kn s k).2.2.2 (sBg E.1 (k : Int))) 1 = 0)) : sBl E g d kn s (k + 1) = sBl E g d kn s k := if_pos (tv_f h)
theorem bl_y {k : Nat} (h : sBh E g d kn s (k : Int)) (i : j_iand (j_ishr (sBl E g d kn s k).2.2.2 (sBg E.1 (k : Int))) 1 = 0) : sBl E g d kn s (k + 1) = ((sBl E g d kn s k).1 + 1, sU (sBl E g d kn s k).2.1 (sBl E g d kn s k).1 (sBg E.1 (k : Int)), sU (sBl E g d kn s k).2.2.1 (sBl E g d kn s k).1 ((k : Int) % 360), j_ior (sBl E g d kn s k).2.2.2 (j_ishl 1 (sBg E.1 (k : Int)))) := if_neg (by rw [tv_t ⟨h, i⟩]; decide)
theorem bl_t {k : Nat} : ∀ i : Nat, (∀ j : Nat, k ≤ j → j < k + i → ¬ sBh E g d kn s (j : Int)) → sBl E g d kn s (k + i) = sBl E g d kn s k := by
  intro i
  induction i with
  | zero => intro _; rfl
  | succ i ih =>
    intro n
    exact (bl_n (k := k + i) (fun y => n (k + i) (by omega) (by omega) y.1)).trans (ih (fun j a b => n j a (by omega)))
theorem bl_u {k l : Nat} (h : k ≤ l) (n : ∀ j : Nat, k ≤ j → j < l → ¬ sBh E g d kn s (j : Int)) : sBl E g d kn s l = sBl E g d kn s k := by
  have y := bl_t (E := E) (g := g) (d := d) (kn := kn) (s := s) (k := k) (l - k) (fun j a b => n j a (by omega))
  rw [show k + (l - k) = l from by omega] at y
  exact y
theorem bl_1 {k : Nat} : (sBl E g d kn s k).1 ≤ (sBl E g d kn s (k + 1)).1 ∧ ∀ i : Nat, i < (sBl E g d kn s k).1 → (sBl E g d kn s (k + 1)).2.1 i = (sBl E g d kn s k).2.1 i ∧ (sBl E g d kn s (k + 1)).2.2.1 i = (sBl E g d kn s k).2.2.1 i := by
  by_cases h : sBh E g d kn s (k : Int) ∧ j_iand (j_ishr (sBl E g d kn s k).2.2.2 (sBg E.1 (k : Int))) 1 = 0
  · rw [bl_y h.1 h.2]
    refine ⟨Nat.le_succ _, fun i hi => ⟨?_, ?_⟩⟩
    · exact if_neg (by omega)
    · exact if_neg (by omega)
  · rw [bl_n h]
    exact ⟨Nat.le_refl _, fun _ _ => ⟨rfl, rfl⟩⟩
theorem bl_m {k : Nat} : ∀ c : Nat, (sBl E g d kn s k).1 ≤ (sBl E g d kn s (k + c)).1 ∧ ∀ i : Nat, i < (sBl E g d kn s k).1 → (sBl E g d kn s (k + c)).2.1 i = (sBl E g d kn s k).2.1 i ∧ (sBl E g d kn s (k + c)).2.2.1 i = (sBl E g d kn s k).2.2.1 i := by
  intro c
  induction c with
  | zero => exact ⟨Nat.le_refl _, fun _ _ => ⟨rfl, rfl⟩⟩
  | succ c ih =>
    have q := bl_1 (E := E) (g := g) (d := d) (kn := kn) (s := s) (k := k + c)
    exact ⟨Nat.le_trans ih.1 q.1, fun i hi => ⟨(q.2 i (by omega)).1.trans (ih.2 i hi).1, (q.2 i (by omega)).2.trans (ih.2 i hi).2⟩⟩
def c6 (b : Int) : Nat := (if bt b 0 = true then 1 else 0) + (if bt b 1 = true then 1 else 0) + (if bt b 2 = true then 1 else 0) + (if bt b 3 = true then 1 else 0) + (if bt b 4 = true then 1 else 0) + (if bt b 5 = true then 1 else 0)
theorem c6_a {b : Int} {n : Nat} (hn : n < 6) (h : bt b n = false) : c6 (j_ior b (j_ishl 1 (n : Int))) = c6 b + 1 := by
  have q : ∀ c : Nat, c < 12 → bt (j_ior b (j_ishl 1 (n : Int))) c = (bt b c || decide (n = c)) := fun c hc => by rw [bt_or, bt_l (by omega) hc]
  unfold c6
  rw [q 0 (by decide), q 1 (by decide), q 2 (by decide), q 3 (by decide), q 4 (by decide), q 5 (by decide)]
  rcases (show n = 0 ∨ n = 1 ∨ n = 2 ∨ n = 3 ∨ n = 4 ∨ n = 5 from by omega) with rfl | rfl | rfl | rfl | rfl | rfl <;> rw [h] <;> cases bt b 0 <;> cases bt b 1 <;> cases bt b 2 <;> cases bt b 3 <;> cases bt b 4 <;> cases bt b 5 <;> rfl
theorem c6_b {b : Int} {n : Nat} (hn : n < 6) (h : bt b n = false) : c6 b < 6 := by
  unfold c6
  rcases (show n = 0 ∨ n = 1 ∨ n = 2 ∨ n = 3 ∨ n = 4 ∨ n = 5 from by omega) with rfl | rfl | rfl | rfl | rfl | rfl <;> rw [h] <;> cases bt b 0 <;> cases bt b 1 <;> cases bt b 2 <;> cases bt b 3 <;> cases bt b 4 <;> cases bt b 5 <;> decide
theorem bh_g (I : pI1 E.1) {k : Int} (h : sBh E g d kn s k) : 0 ≤ sBg E.1 k ∧ sBg E.1 k ≤ 5 := I _ _ h.1.1 (by have := h.1.2; omega) h.2.1.1 (by have := h.2.1.2; omega) h.2.2.2.1
theorem bl_f (I : pI1 E.1) {k : Int} {b : Int} (h : sBh E g d kn s k) (i : j_iand (j_ishr b (sBg E.1 k)) 1 = 0) : bt b (sBg E.1 k).toNat = false := by
  have q := bh_g I h
  cases e : bt b (sBg E.1 k).toNat with
  | false => rfl
  | true =>
    have f := (@bt_g b (sBg E.1 k).toNat (by omega)).mpr e
    rw [show (((sBg E.1 k).toNat : Nat) : Int) = sBg E.1 k from by omega, i] at f
    exact absurd f (by decide)
theorem bl_c (I : pI1 E.1) : ∀ k : Nat, (sBl E g d kn s k).1 = c6 (sBl E g d kn s k).2.2.2 ∧ ∀ i : Nat, i < (sBl E g d kn s k).1 → 0 ≤ (sBl E g d kn s k).2.1 i ∧ (sBl E g d kn s k).2.1 i ≤ 5 := by
  intro k
  induction k with
  | zero =>
    refine ⟨?_, fun i hi => absurd hi (Nat.not_lt_zero i)⟩
    show 0 = c6 0
    unfold c6
    rw [bt_0, bt_0, bt_0, bt_0, bt_0, bt_0]
    rfl
  | succ k ih =>
    by_cases h : sBh E g d kn s (k : Int) ∧ j_iand (j_ishr (sBl E g d kn s k).2.2.2 (sBg E.1 (k : Int))) 1 = 0
    · have q := bh_g I h.1
      have f := bl_f I h.1 h.2
      rw [bl_y h.1 h.2]
      refine ⟨?_, fun i hi => ?_⟩
      · have a := c6_a (by omega) f
        rw [show (((sBg E.1 (k : Int)).toNat : Nat) : Int) = sBg E.1 (k : Int) from by omega] at a
        exact (congrArg (· + 1) ih.1).trans a.symm
      · show 0 ≤ (if i = (sBl E g d kn s k).1 then sBg E.1 (k : Int) else (sBl E g d kn s k).2.1 i) ∧ (if i = (sBl E g d kn s k).1 then sBg E.1 (k : Int) else (sBl E g d kn s k).2.1 i) ≤ 5
        by_cases z : i = (sBl E g d kn s k).1
        · rw [if_pos z]; exact q
        · rw [if_neg z]
          refine ih.2 i ?_
          have hi' : i < (sBl E g d kn s k).1 + 1 := hi
          omega
    · rw [bl_n h]; exact ih
theorem bl_l (I : pI1 E.1) {k : Nat} (h : sBh E g d kn s (k : Int)) (i : j_iand (j_ishr (sBl E g d kn s k).2.2.2 (sBg E.1 (k : Int))) 1 = 0) : (sBl E g d kn s k).1 < 6 := by
  have q := bh_g I h
  rw [(bl_c I k).1]
  exact c6_b (n := (sBg E.1 (k : Int)).toNat) (by omega) (bl_f I h i)
theorem bl_6 (I : pI1 E.1) : ∀ k : Nat, (sBl E g d kn s k).1 ≤ 6 := by
  intro k
  induction k with
  | zero => exact Nat.zero_le _
  | succ k ih =>
    by_cases h : sBh E g d kn s (k : Int) ∧ j_iand (j_ishr (sBl E g d kn s k).2.2.2 (sBg E.1 (k : Int))) 1 = 0
    · have z := bl_l I h.1 h.2
      rw [bl_y h.1 h.2]
      exact z
    · rw [bl_n h]; exact ih
end
/-- the first that gives a PARISH, and its CLAUSE -/
def sFs (v : Int → Int) (gr cl : Nat → Int) : Nat → Nat → Int × Int
  | 0, _ => (-1, -1)
  | c + 1, i => if v (gr i) = -1 then sFs v gr cl c (i + 1) else (v (gr i), cl i)
theorem fs_1 {v : Int → Int} {gr cl : Nat → Int} : ∀ (c i : Nat), (sFs v gr cl c i).1 = -1 → (sFs v gr cl c i).2 = -1 := by
  intro c
  induction c with
  | zero => intro i _; rfl
  | succ c ih =>
    intro i h
    by_cases z : v (gr i) = -1
    · have e : sFs v gr cl (c + 1) i = sFs v gr cl c (i + 1) := if_pos z
      rw [e] at h ⊢
      exact ih (i + 1) h
    · have e : sFs v gr cl (c + 1) i = (v (gr i), cl i) := if_neg z
      rw [e] at h
      exact absurd h z
noncomputable def sNa (E : pE) (g : Nat → Int) (m : Nat) : Int := if tv (sIn E m 0 ∨ sIn E m 1) = 0 then -1 else g m
noncomputable def sVal (E : pE) (g : Nat → Int) (kn : Int) (re : Int → Int → Int) (s d gr : Int) : Int := if gr = 4 then (if sMo E g s 4 d = -1 then -1 else re (sNa E g ((sMo E g s 4 d).toNat - 1)) d) else if gr = 5 then (if sMo E g s 0 146399 = -1 then -1 else if re (sNa E g ((sMo E g s 0 146399).toNat + 1)) (sDy E (sMo E g s 0 146399).toNat) = -1 then re (sNa E g ((sMo E g s 0 146399).toNat + 2)) (sDy E (sMo E g s 0 146399).toNat) else re (sNa E g ((sMo E g s 0 146399).toNat + 1)) (sDy E (sMo E g s 0 146399).toNat)) else sPy E g gr s d kn
noncomputable def sFb (E : pE) (g : Nat → Int) (kn : Int) (re : Int → Int → Int) (s d : Int) : Int × Int := sFs (sVal E g kn re s d) (sBl E g d kn s 720).2.1 (sBl E g d kn s 720).2.2.1 (sBl E g d kn s 720).1 0
noncomputable def sBv (E : pE) (g : Nat → Int) (kn : Int) (re : Int → Int → Int) (s d : Int) : Int := if s = -1 then -1 else (sFb E g kn re s d).1
noncomputable def sBr (E : pE) (g : Nat → Int) (kn : Int) : Nat → Int → Int → Int
  | 0 => fun _ _ => -1
  | r + 1 => sBv E g kn (sBr E g kn r)
section
variable {E : pE} {g : Nat → Int} {d kn s : Int}
/-- a SOUL of those as known, or none -/
def sOs (E : pE) (g : Nat → Int) (s : Int) : Prop := s = -1 ∨ ∃ p : Nat, p < sNl E ∧ s = (p : Int) ∧ g p = (p : Int)
theorem na_s (G : sGi E g) {m : Nat} (hm : m < sNl E) : sOs E g (sNa E g m) := by
  unfold sNa
  by_cases z : tv (sIn E m 0 ∨ sIn E m 1) = 0
  · rw [if_pos z]; exact Or.inl rfl
  · rw [if_neg z]
    rcases G m hm with y | ⟨y1, y2, y3, y4⟩
    · exact Or.inl y
    · exact Or.inr ⟨(g m).toNat, by omega, by omega, by rw [y4]; omega⟩
theorem co_0b (I : pIr E) {m : Nat} (hm : m < sNl E) (h : sCo E m = 0) : m % 3 = 0 ∧ m + 2 < sNl E := by
  unfold sNl at *
  have b := (I (m / 3) (by omega)).1
  have m3 : m % 3 < 3 := Nat.mod_lt _ (by decide)
  unfold sCo at h
  by_cases z : sRo (E.1 (20 + 90 * (m / 3))) ≤ ((m % 3 : Nat) : Int)
  · rw [if_pos z] at h; omega
  · rw [if_neg z] at h
    by_cases z0 : E.1 (20 + 90 * (m / 3)) = 0
    · rw [if_pos z0] at h; omega
    · rw [if_neg z0] at h
      by_cases z1 : E.1 (20 + 90 * (m / 3)) = 1
      · rw [if_pos z1] at h; omega
      · rw [if_neg z1] at h; omega
theorem co_4b (I : pIr E) {m : Nat} (hm : m < sNl E) (h : sCo E m = 4) : m % 3 = 1 := by
  unfold sNl at *
  have b := (I (m / 3) (by omega)).1
  have m3 : m % 3 < 3 := Nat.mod_lt _ (by decide)
  unfold sCo at h
  by_cases z : sRo (E.1 (20 + 90 * (m / 3))) ≤ ((m % 3 : Nat) : Int)
  · rw [if_pos z] at h; omega
  · rw [if_neg z] at h
    by_cases z0 : E.1 (20 + 90 * (m / 3)) = 0
    · rw [if_pos z0] at h; omega
    · rw [if_neg z0] at h
      by_cases z1 : E.1 (20 + 90 * (m / 3)) = 1
      · rw [if_pos z1] at h; omega
      · rw [if_neg z1] at h; omega
theorem mo_0 (I : pIr E) (h : sMo E g s 0 146399 ≠ -1) : ∃ m : Nat, sMo E g s 0 146399 = (m : Int) ∧ m % 3 = 0 ∧ m + 2 < sNl E ∧ 0 ≤ sDy E m ∧ sDy E m ≤ 146399 := by
  rcases @sMo_p E g s 0 146399 with ⟨h1, _⟩ | ⟨m, h1, h2, _, h4, h5⟩
  · exact absurd h1 h
  · have q := co_0b I h2 h4
    unfold sNl at h2
    exact ⟨m, h1, q.1, q.2, (I (m / 3) (by omega)).2.2.1.1, h5⟩
theorem mo_4 (I : pIr E) (h : sMo E g s 4 d ≠ -1) : ∃ m : Nat, sMo E g s 4 d = (m : Int) ∧ m % 3 = 1 ∧ m < sNl E := by
  rcases @sMo_p E g s 4 d with ⟨h1, _⟩ | ⟨m, h1, h2, _, h4, _⟩
  · exact absurd h1 h
  · exact ⟨m, h1, co_4b I h2 h4, h2⟩
end
end jG95
