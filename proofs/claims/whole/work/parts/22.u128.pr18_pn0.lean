section jG124
/-! pure: a call that writes a row keeps the row's invariants -/
def pBnd (r : Nat → Int) : Prop := (0 ≤ r 1 ∧ r 1 ≤ 60) ∧ (0 ≤ r 13 ∧ r 13 ≤ 100) ∧ (0 ≤ r 14 ∧ r 14 ≤ 40) ∧ (0 ≤ r 15 ∧ r 15 ≤ 100) ∧ r 16 = r 0 + r 4 + r 5 + r 7
def pIv (E : pE) (t : jT) (w : Nat) (wm : Nat → Nat) : Prop := pEv E t w wm ∧ pEw E ∧ pIr E ∧ pIn E ∧ pBnd E.1
section
variable {r s : Nat → Int} {q : (Nat → Int) × (Nat → Int) × (Nat → Int) × Int} {W : jW} {t : jT} {w : Nat} {wm : Nat → Nat}
theorem tr_w (c0 : s 0 = r 0) (b0 : r 0 ≤ 200) (c3 : s 3 = r 3) (c6 : s 6 = r 6) (c11 : s 11 = r 11) (c12 : s 12 = r 12) (gl : rgn r s 48300 48460) (g0 : rgn r s 20 18020) (ga : rgn r s 47140 47260) (h : pEw (r, q)) : pEw (s, q) := by
  obtain ⟨h1, h2, h3, h6, h11, h12, h30⟩ := h
  change 0 ≤ r 6 ∧ r 6 ≤ 40 at h6
  change 0 ≤ r 11 ∧ r 11 ≤ 40 at h11
  change 0 ≤ r 12 ∧ r 12 ≤ 100 at h12
  change 0 ≤ r 3 ∧ r 3 ≤ 20 at h30
  refine ⟨fun l hl => ?_, fun l hl => ?_, fun l hl => ?_, by show 0 ≤ s 6 ∧ s 6 ≤ 40; omega, by show 0 ≤ s 11 ∧ s 11 ≤ 40; omega, by show 0 ≤ s 12 ∧ s 12 ≤ 100; omega, by show 0 ≤ s 3 ∧ s 3 ≤ 20; omega⟩
  · change (l : Int) < s 11 at hl
    show (0 ≤ s (48301 + 4 * l) ∧ s (48301 + 4 * l) ≤ 399) ∧ 0 ≤ s (48302 + 4 * l) ∧ s (48302 + 4 * l) ≤ 1000000
    rw [gl (48301 + 4 * l) (by omega) (by omega), gl (48302 + 4 * l) (by omega) (by omega)]
    exact h1 l (by show (l : Int) < r 11; omega)
  · change (l : Int) < s 0 at hl
    show s (20 + 90 * l) = 5 → 0 ≤ s (24 + 90 * l)
    rw [g0 (20 + 90 * l) (by omega) (by omega), g0 (24 + 90 * l) (by omega) (by omega)]
    exact h2 l (by show (l : Int) < r 0; omega)
  · change (l : Int) < s 6 at hl
    show 0 ≤ s (47141 + 3 * l)
    rw [ga (47141 + 3 * l) (by omega) (by omega)]
    exact h3 l (by show (l : Int) < r 6; omega)
/-- a LEVY more, an APPEAL more, a counter more -/
theorem gr_w {n6 n11 : Nat} (hn6 : r 6 = (n6 : Int)) (hn11 : r 11 = (n11 : Int)) (c0 : s 0 = r 0) (b0 : r 0 ≤ 200) (c3 : 0 ≤ s 3 ∧ s 3 ≤ 20) (c6 : r 6 ≤ s 6 ∧ s 6 ≤ r 6 + 1 ∧ s 6 ≤ 40) (c11 : r 11 ≤ s 11 ∧ s 11 ≤ r 11 + 1 ∧ s 11 ≤ 40) (c12 : 0 ≤ s 12 ∧ s 12 ≤ 100) (gl : rgn r s 48300 (48300 + 4 * n11)) (g0 : rgn r s 20 18020) (ga : rgn r s 47140 (47140 + 3 * n6)) (xl : s 11 = r 11 + 1 → (0 ≤ s (48301 + 4 * n11) ∧ s (48301 + 4 * n11) ≤ 399) ∧ 0 ≤ s (48302 + 4 * n11) ∧ s (48302 + 4 * n11) ≤ 1000000) (xa : s 6 = r 6 + 1 → 0 ≤ s (47141 + 3 * n6)) (h : pEw (r, q)) : pEw (s, q) := by
  obtain ⟨h1, h2, h3, h6, h11, h12, h30⟩ := h
  change 0 ≤ r 6 ∧ r 6 ≤ 40 at h6
  change 0 ≤ r 11 ∧ r 11 ≤ 40 at h11
  refine ⟨fun l hl => ?_, fun l hl => ?_, fun l hl => ?_, by show 0 ≤ s 6 ∧ s 6 ≤ 40; omega, by show 0 ≤ s 11 ∧ s 11 ≤ 40; omega, by show 0 ≤ s 12 ∧ s 12 ≤ 100; omega, by show 0 ≤ s 3 ∧ s 3 ≤ 20; omega⟩
  · change (l : Int) < s 11 at hl
    show (0 ≤ s (48301 + 4 * l) ∧ s (48301 + 4 * l) ≤ 399) ∧ 0 ≤ s (48302 + 4 * l) ∧ s (48302 + 4 * l) ≤ 1000000
    by_cases z : l = n11
    · rw [z]; exact xl (by omega)
    · rw [gl (48301 + 4 * l) (by omega) (by omega), gl (48302 + 4 * l) (by omega) (by omega)]
      exact h1 l (by show (l : Int) < r 11; omega)
  · change (l : Int) < s 0 at hl
    show s (20 + 90 * l) = 5 → 0 ≤ s (24 + 90 * l)
    rw [g0 (20 + 90 * l) (by omega) (by omega), g0 (24 + 90 * l) (by omega) (by omega)]
    exact h2 l (by show (l : Int) < r 0; omega)
  · change (l : Int) < s 6 at hl
    show 0 ≤ s (47141 + 3 * l)
    by_cases z : l = n6
    · rw [z]; exact xa (by omega)
    · rw [ga (47141 + 3 * l) (by omega) (by omega)]
      exact h3 l (by show (l : Int) < r 6; omega)
/-! apart -/
theorem iv_apart {u0 u1 : Int} (I : pIv (r, q) t w wm) (e : W.1 126 = r) (h : 0 ≤ r 1 ∧ r 1 < 60) : pIv ((vu (vu (vu (W) 126 (18020 + 2 * r 1).toNat u0) 126 (18020 + 2 * r 1 + 1).toNat u1) 126 1 (r 1 + 1)).1 126, q) t w wm := by
  obtain ⟨V, Ew, Ir, In, Bd⟩ := I
  obtain ⟨j0, f0, h0, s0, tx0, t0, e0, p0, _, _, _, b0⟩ := pEv_i.mp V
  have bs1 : 0 ≤ r 7 ∧ r 7 ≤ 40 := s0.1
  have bs2 : 0 ≤ r 9 ∧ r 9 ≤ r 7 := s0.2.1
  have bf : 0 ≤ r 5 ∧ r 5 ≤ 100 := f0.1
  have bx : 0 ≤ r 4 ∧ r 4 ≤ 30 := ⟨tx0.1.1, tx0.1.2.1⟩
  change 0 ≤ r 0 ∧ r 0 ≤ 200 at b0
  change pBnd r at Bd
  have B1 := Bd
  unfold pBnd at B1
  have w6 : 0 ≤ r 6 ∧ r 6 ≤ 40 := Ew.2.2.2.1
  have w11 : 0 ≤ r 11 ∧ r 11 ≤ 40 := Ew.2.2.2.2.1
  have w12 : 0 ≤ r 12 ∧ r 12 ≤ 100 := Ew.2.2.2.2.2.1
  have w3 : 0 ≤ r 3 ∧ r 3 ≤ 20 := Ew.2.2.2.2.2.2
  have R : ∀ j : Nat, ¬ (j = 1 ∨ (18020 ≤ j ∧ j < 18140)) → (vu (vu (vu (W) 126 (18020 + 2 * r 1).toNat u0) 126 (18020 + 2 * r 1 + 1).toNat u1) 126 1 (r 1 + 1)).1 126 j = r j := by
    intro j hj
    repeat rw [vu_n (by omega)]
    rw [e]
  have O : ∀ j : Nat, 18020 ≤ j → j < 18020 + 2 * (r 1).toNat → (vu (vu (vu (W) 126 (18020 + 2 * r 1).toNat u0) 126 (18020 + 2 * r 1 + 1).toNat u1) 126 1 (r 1 + 1)).1 126 j = r j := by
    intro j hj j2
    repeat rw [vu_n (by omega)]
    rw [e]
  have C : (vu (vu (vu (W) 126 (18020 + 2 * r 1).toNat u0) 126 (18020 + 2 * r 1 + 1).toNat u1) 126 1 (r 1 + 1)).1 126 1 = r 1 + 1 := by
    exact vu_e rfl
  generalize (vu (vu (vu (W) 126 (18020 + 2 * r 1).toNat u0) 126 (18020 + 2 * r 1 + 1).toNat u1) 126 1 (r 1 + 1)).1 126 = s at *
  have k1 := C
  have k13 := R 13 (by omega)
  have k14 := R 14 (by omega)
  have k15 := R 15 (by omega)
  have k16 := R 16 (by omega)
  have k0 := R 0 (by omega)
  have k4 := R 4 (by omega)
  have k5 := R 5 (by omega)
  have k7 := R 7 (by omega)
  refine ⟨ev_c V (R 0 (by omega)) (fun j j1 j2 => R j (by omega)) (tr_j (R 2 (by omega)) (by rw [R 0 (by omega)]; omega) (fun j j1 j2 => R j (by omega)) j0) (tr_f (R 5 (by omega)) (by rw [R 0 (by omega)]; omega) (fun j j1 j2 => R j (by omega)) f0) (sa_h (R 8 (by omega)) (R 10 (by omega)) (by rw [R 0 (by omega)]; omega) (by rw [R 7 (by omega)]; omega) (R 9 (by omega)) (by omega) (fun j j1 j2 => R j (by omega)) h0) (tr_s (by rw [R 7 (by omega)]; omega) (R 9 (by omega)) (fun j j1 j2 => R j (by omega)) s0) (tr_x (R 4 (by omega)) (fun j j1 j2 => R j (by omega)) tx0) (sa_t (by rw [R 0 (by omega)]; omega) (R 16 (by omega)) (by omega) (fun j j1 j2 => R j (by omega)) t0) (tr_e ⟨R 13 (by omega), by omega⟩ ⟨R 14 (by omega), by omega⟩ (fun j j1 j2 => R j (by omega)) e0) (tr_p ⟨R 15 (by omega), by omega⟩ (fun j j1 j2 => R j (by omega)) p0), (tr_w (R 0 (by omega)) (by omega) (R 3 (by omega)) (R 6 (by omega)) (R 11 (by omega)) (R 12 (by omega)) (fun j j1 j2 => R j (by omega)) (fun j j1 j2 => R j (by omega)) (fun j j1 j2 => R j (by omega)) Ew), (tr_r (R 0 (by omega)) (by omega) (fun j j1 j2 => R j (by omega)) Ir), (tr_n (R 0 (by omega)) (by omega) (fun j j1 j2 => R j (by omega)) In), ?_⟩
  show pBnd s
  unfold pBnd
  omega
/-! torn -/
theorem iv_torn {u0 u1 u2 u3 : Int} (I : pIv (r, q) t w wm) (e : W.1 126 = r) (h : 0 ≤ r 3 ∧ r 3 < 20) : pIv ((vu (vu (vu (vu (vu (W) 126 (18740 + 4 * r 3).toNat u0) 126 (18740 + 4 * r 3 + 1).toNat u1) 126 (18740 + 4 * r 3 + 2).toNat u2) 126 (18740 + 4 * r 3 + 3).toNat u3) 126 3 (r 3 + 1)).1 126, q) t w wm := by
  obtain ⟨V, Ew, Ir, In, Bd⟩ := I
  obtain ⟨j0, f0, h0, s0, tx0, t0, e0, p0, _, _, _, b0⟩ := pEv_i.mp V
  have bs1 : 0 ≤ r 7 ∧ r 7 ≤ 40 := s0.1
  have bs2 : 0 ≤ r 9 ∧ r 9 ≤ r 7 := s0.2.1
  have bf : 0 ≤ r 5 ∧ r 5 ≤ 100 := f0.1
  have bx : 0 ≤ r 4 ∧ r 4 ≤ 30 := ⟨tx0.1.1, tx0.1.2.1⟩
  change 0 ≤ r 0 ∧ r 0 ≤ 200 at b0
  change pBnd r at Bd
  have B1 := Bd
  unfold pBnd at B1
  have w6 : 0 ≤ r 6 ∧ r 6 ≤ 40 := Ew.2.2.2.1
  have w11 : 0 ≤ r 11 ∧ r 11 ≤ 40 := Ew.2.2.2.2.1
  have w12 : 0 ≤ r 12 ∧ r 12 ≤ 100 := Ew.2.2.2.2.2.1
  have w3 : 0 ≤ r 3 ∧ r 3 ≤ 20 := Ew.2.2.2.2.2.2
  have R : ∀ j : Nat, ¬ (j = 3 ∨ (18740 ≤ j ∧ j < 18820)) → (vu (vu (vu (vu (vu (W) 126 (18740 + 4 * r 3).toNat u0) 126 (18740 + 4 * r 3 + 1).toNat u1) 126 (18740 + 4 * r 3 + 2).toNat u2) 126 (18740 + 4 * r 3 + 3).toNat u3) 126 3 (r 3 + 1)).1 126 j = r j := by
    intro j hj
    repeat rw [vu_n (by omega)]
    rw [e]
  have O : ∀ j : Nat, 18740 ≤ j → j < 18740 + 4 * (r 3).toNat → (vu (vu (vu (vu (vu (W) 126 (18740 + 4 * r 3).toNat u0) 126 (18740 + 4 * r 3 + 1).toNat u1) 126 (18740 + 4 * r 3 + 2).toNat u2) 126 (18740 + 4 * r 3 + 3).toNat u3) 126 3 (r 3 + 1)).1 126 j = r j := by
    intro j hj j2
    repeat rw [vu_n (by omega)]
    rw [e]
  have C : (vu (vu (vu (vu (vu (W) 126 (18740 + 4 * r 3).toNat u0) 126 (18740 + 4 * r 3 + 1).toNat u1) 126 (18740 + 4 * r 3 + 2).toNat u2) 126 (18740 + 4 * r 3 + 3).toNat u3) 126 3 (r 3 + 1)).1 126 3 = r 3 + 1 := by
    exact vu_e rfl
  generalize (vu (vu (vu (vu (vu (W) 126 (18740 + 4 * r 3).toNat u0) 126 (18740 + 4 * r 3 + 1).toNat u1) 126 (18740 + 4 * r 3 + 2).toNat u2) 126 (18740 + 4 * r 3 + 3).toNat u3) 126 3 (r 3 + 1)).1 126 = s at *
  have k1 := R 1 (by omega)
  have k13 := R 13 (by omega)
  have k14 := R 14 (by omega)
  have k15 := R 15 (by omega)
  have k16 := R 16 (by omega)
  have k0 := R 0 (by omega)
  have k4 := R 4 (by omega)
  have k5 := R 5 (by omega)
  have k7 := R 7 (by omega)
  refine ⟨ev_c V (R 0 (by omega)) (fun j j1 j2 => R j (by omega)) (tr_j (R 2 (by omega)) (by rw [R 0 (by omega)]; omega) (fun j j1 j2 => R j (by omega)) j0) (tr_f (R 5 (by omega)) (by rw [R 0 (by omega)]; omega) (fun j j1 j2 => R j (by omega)) f0) (sa_h (R 8 (by omega)) (R 10 (by omega)) (by rw [R 0 (by omega)]; omega) (by rw [R 7 (by omega)]; omega) (R 9 (by omega)) (by omega) (fun j j1 j2 => R j (by omega)) h0) (tr_s (by rw [R 7 (by omega)]; omega) (R 9 (by omega)) (fun j j1 j2 => R j (by omega)) s0) (tr_x (R 4 (by omega)) (fun j j1 j2 => R j (by omega)) tx0) (sa_t (by rw [R 0 (by omega)]; omega) (R 16 (by omega)) (by omega) (fun j j1 j2 => R j (by omega)) t0) (tr_e ⟨R 13 (by omega), by omega⟩ ⟨R 14 (by omega), by omega⟩ (fun j j1 j2 => R j (by omega)) e0) (tr_p ⟨R 15 (by omega), by omega⟩ (fun j j1 j2 => R j (by omega)) p0), (gr_w (n6 := (r 6).toNat) (n11 := (r 11).toNat) (by omega) (by omega) (R 0 (by omega)) (by omega) (by have := C; omega) (by have := R 6 (by omega); omega) (by have := R 11 (by omega); omega) (by have := R 12 (by omega); omega) (fun j j1 j2 => R j (by omega)) (fun j j1 j2 => R j (by omega)) (fun j j1 j2 => R j (by omega)) (fun z => by have := R 11 (by omega); omega) (fun z => by have := R 6 (by omega); omega) Ew), (tr_r (R 0 (by omega)) (by omega) (fun j j1 j2 => R j (by omega)) Ir), (tr_n (R 0 (by omega)) (by omega) (fun j j1 j2 => R j (by omega)) In), ?_⟩
  show pBnd s
  unfold pBnd
  omega
/-! appeal -/
theorem iv_appeal {u0 u1 u2 : Int} (I : pIv (r, q) t w wm) (e : W.1 126 = r) (h : 0 ≤ r 6 ∧ r 6 < 40) (x1 : 0 ≤ u1) : pIv ((vu (vu (vu (vu (W) 126 (47140 + 3 * r 6).toNat u0) 126 (47140 + 3 * r 6 + 1).toNat u1) 126 (47140 + 3 * r 6 + 2).toNat u2) 126 6 (r 6 + 1)).1 126, q) t w wm := by
  obtain ⟨V, Ew, Ir, In, Bd⟩ := I
  obtain ⟨j0, f0, h0, s0, tx0, t0, e0, p0, _, _, _, b0⟩ := pEv_i.mp V
  have bs1 : 0 ≤ r 7 ∧ r 7 ≤ 40 := s0.1
  have bs2 : 0 ≤ r 9 ∧ r 9 ≤ r 7 := s0.2.1
  have bf : 0 ≤ r 5 ∧ r 5 ≤ 100 := f0.1
  have bx : 0 ≤ r 4 ∧ r 4 ≤ 30 := ⟨tx0.1.1, tx0.1.2.1⟩
  change 0 ≤ r 0 ∧ r 0 ≤ 200 at b0
  change pBnd r at Bd
  have B1 := Bd
  unfold pBnd at B1
  have w6 : 0 ≤ r 6 ∧ r 6 ≤ 40 := Ew.2.2.2.1
  have w11 : 0 ≤ r 11 ∧ r 11 ≤ 40 := Ew.2.2.2.2.1
  have w12 : 0 ≤ r 12 ∧ r 12 ≤ 100 := Ew.2.2.2.2.2.1
  have w3 : 0 ≤ r 3 ∧ r 3 ≤ 20 := Ew.2.2.2.2.2.2
  have R : ∀ j : Nat, ¬ (j = 6 ∨ (47140 ≤ j ∧ j < 47260)) → (vu (vu (vu (vu (W) 126 (47140 + 3 * r 6).toNat u0) 126 (47140 + 3 * r 6 + 1).toNat u1) 126 (47140 + 3 * r 6 + 2).toNat u2) 126 6 (r 6 + 1)).1 126 j = r j := by
    intro j hj
    repeat rw [vu_n (by omega)]
    rw [e]
  have O : ∀ j : Nat, 47140 ≤ j → j < 47140 + 3 * (r 6).toNat → (vu (vu (vu (vu (W) 126 (47140 + 3 * r 6).toNat u0) 126 (47140 + 3 * r 6 + 1).toNat u1) 126 (47140 + 3 * r 6 + 2).toNat u2) 126 6 (r 6 + 1)).1 126 j = r j := by
    intro j hj j2
    repeat rw [vu_n (by omega)]
    rw [e]
  have C : (vu (vu (vu (vu (W) 126 (47140 + 3 * r 6).toNat u0) 126 (47140 + 3 * r 6 + 1).toNat u1) 126 (47140 + 3 * r 6 + 2).toNat u2) 126 6 (r 6 + 1)).1 126 6 = r 6 + 1 := by
    exact vu_e rfl
  have N1 : (vu (vu (vu (vu (W) 126 (47140 + 3 * r 6).toNat u0) 126 (47140 + 3 * r 6 + 1).toNat u1) 126 (47140 + 3 * r 6 + 2).toNat u2) 126 6 (r 6 + 1)).1 126 (47141 + 3 * (r 6).toNat) = u1 := by
    repeat rw [vu_n (by omega)]
    exact vu_e (by omega)
  generalize (vu (vu (vu (vu (W) 126 (47140 + 3 * r 6).toNat u0) 126 (47140 + 3 * r 6 + 1).toNat u1) 126 (47140 + 3 * r 6 + 2).toNat u2) 126 6 (r 6 + 1)).1 126 = s at *
  have k1 := R 1 (by omega)
  have k13 := R 13 (by omega)
  have k14 := R 14 (by omega)
  have k15 := R 15 (by omega)
  have k16 := R 16 (by omega)
  have k0 := R 0 (by omega)
  have k4 := R 4 (by omega)
  have k5 := R 5 (by omega)
  have k7 := R 7 (by omega)
  refine ⟨ev_c V (R 0 (by omega)) (fun j j1 j2 => R j (by omega)) (tr_j (R 2 (by omega)) (by rw [R 0 (by omega)]; omega) (fun j j1 j2 => R j (by omega)) j0) (tr_f (R 5 (by omega)) (by rw [R 0 (by omega)]; omega) (fun j j1 j2 => R j (by omega)) f0) (sa_h (R 8 (by omega)) (R 10 (by omega)) (by rw [R 0 (by omega)]; omega) (by rw [R 7 (by omega)]; omega) (R 9 (by omega)) (by omega) (fun j j1 j2 => R j (by omega)) h0) (tr_s (by rw [R 7 (by omega)]; omega) (R 9 (by omega)) (fun j j1 j2 => R j (by omega)) s0) (tr_x (R 4 (by omega)) (fun j j1 j2 => R j (by omega)) tx0) (sa_t (by rw [R 0 (by omega)]; omega) (R 16 (by omega)) (by omega) (fun j j1 j2 => R j (by omega)) t0) (tr_e ⟨R 13 (by omega), by omega⟩ ⟨R 14 (by omega), by omega⟩ (fun j j1 j2 => R j (by omega)) e0) (tr_p ⟨R 15 (by omega), by omega⟩ (fun j j1 j2 => R j (by omega)) p0), (gr_w (n6 := (r 6).toNat) (n11 := (r 11).toNat) (by omega) (by omega) (R 0 (by omega)) (by omega) (by have := R 3 (by omega); omega) (by have := C; omega) (by have := R 11 (by omega); omega) (by have := R 12 (by omega); omega) (fun j j1 j2 => R j (by omega)) (fun j j1 j2 => R j (by omega)) O (fun z => by have := R 11 (by omega); omega) (fun _ => by rw [N1]; exact x1) Ew), (tr_r (R 0 (by omega)) (by omega) (fun j j1 j2 => R j (by omega)) Ir), (tr_n (R 0 (by omega)) (by omega) (fun j j1 j2 => R j (by omega)) In), ?_⟩
  show pBnd s
  unfold pBnd
  omega
/-! levy -/
theorem iv_levy {u0 u1 u2 u3 : Int} (I : pIv (r, q) t w wm) (e : W.1 126 = r) (h : 0 ≤ r 11 ∧ r 11 < 40) (x1 : 0 ≤ u1 ∧ u1 ≤ 399) (x2 : 0 ≤ u2 ∧ u2 ≤ 1000000) : pIv ((vu (vu (vu (vu (vu (W) 126 (48300 + 4 * r 11).toNat u0) 126 (48300 + 4 * r 11 + 1).toNat u1) 126 (48300 + 4 * r 11 + 2).toNat u2) 126 (48300 + 4 * r 11 + 3).toNat u3) 126 11 (r 11 + 1)).1 126, q) t w wm := by
  obtain ⟨V, Ew, Ir, In, Bd⟩ := I
  obtain ⟨j0, f0, h0, s0, tx0, t0, e0, p0, _, _, _, b0⟩ := pEv_i.mp V
  have bs1 : 0 ≤ r 7 ∧ r 7 ≤ 40 := s0.1
  have bs2 : 0 ≤ r 9 ∧ r 9 ≤ r 7 := s0.2.1
  have bf : 0 ≤ r 5 ∧ r 5 ≤ 100 := f0.1
  have bx : 0 ≤ r 4 ∧ r 4 ≤ 30 := ⟨tx0.1.1, tx0.1.2.1⟩
  change 0 ≤ r 0 ∧ r 0 ≤ 200 at b0
  change pBnd r at Bd
  have B1 := Bd
  unfold pBnd at B1
  have w6 : 0 ≤ r 6 ∧ r 6 ≤ 40 := Ew.2.2.2.1
  have w11 : 0 ≤ r 11 ∧ r 11 ≤ 40 := Ew.2.2.2.2.1
  have w12 : 0 ≤ r 12 ∧ r 12 ≤ 100 := Ew.2.2.2.2.2.1
  have w3 : 0 ≤ r 3 ∧ r 3 ≤ 20 := Ew.2.2.2.2.2.2
  have R : ∀ j : Nat, ¬ (j = 11 ∨ (48300 ≤ j ∧ j < 48460)) → (vu (vu (vu (vu (vu (W) 126 (48300 + 4 * r 11).toNat u0) 126 (48300 + 4 * r 11 + 1).toNat u1) 126 (48300 + 4 * r 11 + 2).toNat u2) 126 (48300 + 4 * r 11 + 3).toNat u3) 126 11 (r 11 + 1)).1 126 j = r j := by
    intro j hj
    repeat rw [vu_n (by omega)]
    rw [e]
  have O : ∀ j : Nat, 48300 ≤ j → j < 48300 + 4 * (r 11).toNat → (vu (vu (vu (vu (vu (W) 126 (48300 + 4 * r 11).toNat u0) 126 (48300 + 4 * r 11 + 1).toNat u1) 126 (48300 + 4 * r 11 + 2).toNat u2) 126 (48300 + 4 * r 11 + 3).toNat u3) 126 11 (r 11 + 1)).1 126 j = r j := by
    intro j hj j2
    repeat rw [vu_n (by omega)]
    rw [e]
  have C : (vu (vu (vu (vu (vu (W) 126 (48300 + 4 * r 11).toNat u0) 126 (48300 + 4 * r 11 + 1).toNat u1) 126 (48300 + 4 * r 11 + 2).toNat u2) 126 (48300 + 4 * r 11 + 3).toNat u3) 126 11 (r 11 + 1)).1 126 11 = r 11 + 1 := by
    exact vu_e rfl
  have N1 : (vu (vu (vu (vu (vu (W) 126 (48300 + 4 * r 11).toNat u0) 126 (48300 + 4 * r 11 + 1).toNat u1) 126 (48300 + 4 * r 11 + 2).toNat u2) 126 (48300 + 4 * r 11 + 3).toNat u3) 126 11 (r 11 + 1)).1 126 (48301 + 4 * (r 11).toNat) = u1 := by
    repeat rw [vu_n (by omega)]
    exact vu_e (by omega)
  have N2 : (vu (vu (vu (vu (vu (W) 126 (48300 + 4 * r 11).toNat u0) 126 (48300 + 4 * r 11 + 1).toNat u1) 126 (48300 + 4 * r 11 + 2).toNat u2) 126 (48300 + 4 * r 11 + 3).toNat u3) 126 11 (r 11 + 1)).1 126 (48302 + 4 * (r 11).toNat) = u2 := by
    repeat rw [vu_n (by omega)]
    exact vu_e (by omega)
  generalize (vu (vu (vu (vu (vu (W) 126 (48300 + 4 * r 11).toNat u0) 126 (48300 + 4 * r 11 + 1).toNat u1) 126 (48300 + 4 * r 11 + 2).toNat u2) 126 (48300 + 4 * r 11 + 3).toNat u3) 126 11 (r 11 + 1)).1 126 = s at *
  have k1 := R 1 (by omega)
  have k13 := R 13 (by omega)
  have k14 := R 14 (by omega)
  have k15 := R 15 (by omega)
  have k16 := R 16 (by omega)
  have k0 := R 0 (by omega)
  have k4 := R 4 (by omega)
  have k5 := R 5 (by omega)
  have k7 := R 7 (by omega)
  refine ⟨ev_c V (R 0 (by omega)) (fun j j1 j2 => R j (by omega)) (tr_j (R 2 (by omega)) (by rw [R 0 (by omega)]; omega) (fun j j1 j2 => R j (by omega)) j0) (tr_f (R 5 (by omega)) (by rw [R 0 (by omega)]; omega) (fun j j1 j2 => R j (by omega)) f0) (sa_h (R 8 (by omega)) (R 10 (by omega)) (by rw [R 0 (by omega)]; omega) (by rw [R 7 (by omega)]; omega) (R 9 (by omega)) (by omega) (fun j j1 j2 => R j (by omega)) h0) (tr_s (by rw [R 7 (by omega)]; omega) (R 9 (by omega)) (fun j j1 j2 => R j (by omega)) s0) (tr_x (R 4 (by omega)) (fun j j1 j2 => R j (by omega)) tx0) (sa_t (by rw [R 0 (by omega)]; omega) (R 16 (by omega)) (by omega) (fun j j1 j2 => R j (by omega)) t0) (tr_e ⟨R 13 (by omega), by omega⟩ ⟨R 14 (by omega), by omega⟩ (fun j j1 j2 => R j (by omega)) e0) (tr_p ⟨R 15 (by omega), by omega⟩ (fun j j1 j2 => R j (by omega)) p0), (gr_w (n6 := (r 6).toNat) (n11 := (r 11).toNat) (by omega) (by omega) (R 0 (by omega)) (by omega) (by have := R 3 (by omega); omega) (by have := R 6 (by omega); omega) (by have := C; omega) (by have := R 12 (by omega); omega) O (fun j j1 j2 => R j (by omega)) (fun j j1 j2 => R j (by omega)) (fun _ => by rw [N1, N2]; exact ⟨x1, x2⟩) (fun z => by have := R 6 (by omega); omega) Ew), (tr_r (R 0 (by omega)) (by omega) (fun j j1 j2 => R j (by omega)) Ir), (tr_n (R 0 (by omega)) (by omega) (fun j j1 j2 => R j (by omega)) In), ?_⟩
  show pBnd s
  unfold pBnd
  omega
/-! pay -/
theorem iv_pay {u0 u1 u2 u3 u4 : Int} (I : pIv (r, q) t w wm) (e : W.1 126 = r) (h : 0 ≤ r 12 ∧ r 12 < 100) : pIv ((vu (vu (vu (vu (vu (vu (W) 126 (48460 + 5 * r 12).toNat u0) 126 (48460 + 5 * r 12 + 1).toNat u1) 126 (48460 + 5 * r 12 + 2).toNat u2) 126 (48460 + 5 * r 12 + 3).toNat u3) 126 (48460 + 5 * r 12 + 4).toNat u4) 126 12 (r 12 + 1)).1 126, q) t w wm := by
  obtain ⟨V, Ew, Ir, In, Bd⟩ := I
  obtain ⟨j0, f0, h0, s0, tx0, t0, e0, p0, _, _, _, b0⟩ := pEv_i.mp V
  have bs1 : 0 ≤ r 7 ∧ r 7 ≤ 40 := s0.1
  have bs2 : 0 ≤ r 9 ∧ r 9 ≤ r 7 := s0.2.1
  have bf : 0 ≤ r 5 ∧ r 5 ≤ 100 := f0.1
  have bx : 0 ≤ r 4 ∧ r 4 ≤ 30 := ⟨tx0.1.1, tx0.1.2.1⟩
  change 0 ≤ r 0 ∧ r 0 ≤ 200 at b0
  change pBnd r at Bd
  have B1 := Bd
  unfold pBnd at B1
  have w6 : 0 ≤ r 6 ∧ r 6 ≤ 40 := Ew.2.2.2.1
  have w11 : 0 ≤ r 11 ∧ r 11 ≤ 40 := Ew.2.2.2.2.1
  have w12 : 0 ≤ r 12 ∧ r 12 ≤ 100 := Ew.2.2.2.2.2.1
  have w3 : 0 ≤ r 3 ∧ r 3 ≤ 20 := Ew.2.2.2.2.2.2
  have R : ∀ j : Nat, ¬ (j = 12 ∨ (48460 ≤ j ∧ j < 48960)) → (vu (vu (vu (vu (vu (vu (W) 126 (48460 + 5 * r 12).toNat u0) 126 (48460 + 5 * r 12 + 1).toNat u1) 126 (48460 + 5 * r 12 + 2).toNat u2) 126 (48460 + 5 * r 12 + 3).toNat u3) 126 (48460 + 5 * r 12 + 4).toNat u4) 126 12 (r 12 + 1)).1 126 j = r j := by
    intro j hj
    repeat rw [vu_n (by omega)]
    rw [e]
  have O : ∀ j : Nat, 48460 ≤ j → j < 48460 + 5 * (r 12).toNat → (vu (vu (vu (vu (vu (vu (W) 126 (48460 + 5 * r 12).toNat u0) 126 (48460 + 5 * r 12 + 1).toNat u1) 126 (48460 + 5 * r 12 + 2).toNat u2) 126 (48460 + 5 * r 12 + 3).toNat u3) 126 (48460 + 5 * r 12 + 4).toNat u4) 126 12 (r 12 + 1)).1 126 j = r j := by
    intro j hj j2
    repeat rw [vu_n (by omega)]
    rw [e]
  have C : (vu (vu (vu (vu (vu (vu (W) 126 (48460 + 5 * r 12).toNat u0) 126 (48460 + 5 * r 12 + 1).toNat u1) 126 (48460 + 5 * r 12 + 2).toNat u2) 126 (48460 + 5 * r 12 + 3).toNat u3) 126 (48460 + 5 * r 12 + 4).toNat u4) 126 12 (r 12 + 1)).1 126 12 = r 12 + 1 := by
    exact vu_e rfl
  generalize (vu (vu (vu (vu (vu (vu (W) 126 (48460 + 5 * r 12).toNat u0) 126 (48460 + 5 * r 12 + 1).toNat u1) 126 (48460 + 5 * r 12 + 2).toNat u2) 126 (48460 + 5 * r 12 + 3).toNat u3) 126 (48460 + 5 * r 12 + 4).toNat u4) 126 12 (r 12 + 1)).1 126 = s at *
  have k1 := R 1 (by omega)
  have k13 := R 13 (by omega)
  have k14 := R 14 (by omega)
  have k15 := R 15 (by omega)
  have k16 := R 16 (by omega)
  have k0 := R 0 (by omega)
  have k4 := R 4 (by omega)
  have k5 := R 5 (by omega)
  have k7 := R 7 (by omega)
  refine ⟨ev_c V (R 0 (by omega)) (fun j j1 j2 => R j (by omega)) (tr_j (R 2 (by omega)) (by rw [R 0 (by omega)]; omega) (fun j j1 j2 => R j (by omega)) j0) (tr_f (R 5 (by omega)) (by rw [R 0 (by omega)]; omega) (fun j j1 j2 => R j (by omega)) f0) (sa_h (R 8 (by omega)) (R 10 (by omega)) (by rw [R 0 (by omega)]; omega) (by rw [R 7 (by omega)]; omega) (R 9 (by omega)) (by omega) (fun j j1 j2 => R j (by omega)) h0) (tr_s (by rw [R 7 (by omega)]; omega) (R 9 (by omega)) (fun j j1 j2 => R j (by omega)) s0) (tr_x (R 4 (by omega)) (fun j j1 j2 => R j (by omega)) tx0) (sa_t (by rw [R 0 (by omega)]; omega) (R 16 (by omega)) (by omega) (fun j j1 j2 => R j (by omega)) t0) (tr_e ⟨R 13 (by omega), by omega⟩ ⟨R 14 (by omega), by omega⟩ (fun j j1 j2 => R j (by omega)) e0) (tr_p ⟨R 15 (by omega), by omega⟩ (fun j j1 j2 => R j (by omega)) p0), (gr_w (n6 := (r 6).toNat) (n11 := (r 11).toNat) (by omega) (by omega) (R 0 (by omega)) (by omega) (by have := R 3 (by omega); omega) (by have := R 6 (by omega); omega) (by have := R 11 (by omega); omega) (by have := C; omega) (fun j j1 j2 => R j (by omega)) (fun j j1 j2 => R j (by omega)) (fun j j1 j2 => R j (by omega)) (fun z => by have := R 11 (by omega); omega) (fun z => by have := R 6 (by omega); omega) Ew), (tr_r (R 0 (by omega)) (by omega) (fun j j1 j2 => R j (by omega)) Ir), (tr_n (R 0 (by omega)) (by omega) (fun j j1 j2 => R j (by omega)) In), ?_⟩
  show pBnd s
  unfold pBnd
  omega
/-! bond -/
theorem iv_bond {u0 u1 u2 : Int} (I : pIv (r, q) t w wm) (e : W.1 126 = r) (h : 0 ≤ r 2 ∧ r 2 < 200) (x0 : 0 ≤ u0 ∧ u0 < 3 * r 0) (x1 : 0 ≤ u1 ∧ u1 < 3 * r 0) : pIv ((vu (vu (vu (vu (W) 126 (18140 + 3 * r 2).toNat u0) 126 (18140 + 3 * r 2 + 1).toNat u1) 126 (18140 + 3 * r 2 + 2).toNat u2) 126 2 (r 2 + 1)).1 126, q) t w wm := by
  obtain ⟨V, Ew, Ir, In, Bd⟩ := I
  obtain ⟨j0, f0, h0, s0, tx0, t0, e0, p0, _, _, _, b0⟩ := pEv_i.mp V
  have bs1 : 0 ≤ r 7 ∧ r 7 ≤ 40 := s0.1
  have bs2 : 0 ≤ r 9 ∧ r 9 ≤ r 7 := s0.2.1
  have bf : 0 ≤ r 5 ∧ r 5 ≤ 100 := f0.1
  have bx : 0 ≤ r 4 ∧ r 4 ≤ 30 := ⟨tx0.1.1, tx0.1.2.1⟩
  change 0 ≤ r 0 ∧ r 0 ≤ 200 at b0
  change pBnd r at Bd
  have B1 := Bd
  unfold pBnd at B1
  have w6 : 0 ≤ r 6 ∧ r 6 ≤ 40 := Ew.2.2.2.1
  have w11 : 0 ≤ r 11 ∧ r 11 ≤ 40 := Ew.2.2.2.2.1
  have w12 : 0 ≤ r 12 ∧ r 12 ≤ 100 := Ew.2.2.2.2.2.1
  have w3 : 0 ≤ r 3 ∧ r 3 ≤ 20 := Ew.2.2.2.2.2.2
  have R : ∀ j : Nat, ¬ (j = 2 ∨ (18140 ≤ j ∧ j < 18740)) → (vu (vu (vu (vu (W) 126 (18140 + 3 * r 2).toNat u0) 126 (18140 + 3 * r 2 + 1).toNat u1) 126 (18140 + 3 * r 2 + 2).toNat u2) 126 2 (r 2 + 1)).1 126 j = r j := by
    intro j hj
    repeat rw [vu_n (by omega)]
    rw [e]
  have O : ∀ j : Nat, 18140 ≤ j → j < 18140 + 3 * (r 2).toNat → (vu (vu (vu (vu (W) 126 (18140 + 3 * r 2).toNat u0) 126 (18140 + 3 * r 2 + 1).toNat u1) 126 (18140 + 3 * r 2 + 2).toNat u2) 126 2 (r 2 + 1)).1 126 j = r j := by
    intro j hj j2
    repeat rw [vu_n (by omega)]
    rw [e]
  have C : (vu (vu (vu (vu (W) 126 (18140 + 3 * r 2).toNat u0) 126 (18140 + 3 * r 2 + 1).toNat u1) 126 (18140 + 3 * r 2 + 2).toNat u2) 126 2 (r 2 + 1)).1 126 2 = r 2 + 1 := by
    exact vu_e rfl
  have N0 : (vu (vu (vu (vu (W) 126 (18140 + 3 * r 2).toNat u0) 126 (18140 + 3 * r 2 + 1).toNat u1) 126 (18140 + 3 * r 2 + 2).toNat u2) 126 2 (r 2 + 1)).1 126 (18140 + 3 * (r 2).toNat) = u0 := by
    repeat rw [vu_n (by omega)]
    exact vu_e (by omega)
  have N1 : (vu (vu (vu (vu (W) 126 (18140 + 3 * r 2).toNat u0) 126 (18140 + 3 * r 2 + 1).toNat u1) 126 (18140 + 3 * r 2 + 2).toNat u2) 126 2 (r 2 + 1)).1 126 (18141 + 3 * (r 2).toNat) = u1 := by
    repeat rw [vu_n (by omega)]
    exact vu_e (by omega)
  generalize (vu (vu (vu (vu (W) 126 (18140 + 3 * r 2).toNat u0) 126 (18140 + 3 * r 2 + 1).toNat u1) 126 (18140 + 3 * r 2 + 2).toNat u2) 126 2 (r 2 + 1)).1 126 = s at *
  have k1 := R 1 (by omega)
  have k13 := R 13 (by omega)
  have k14 := R 14 (by omega)
  have k15 := R 15 (by omega)
  have k16 := R 16 (by omega)
  have k0 := R 0 (by omega)
  have k4 := R 4 (by omega)
  have k5 := R 5 (by omega)
  have k7 := R 7 (by omega)
  refine ⟨ev_c V (R 0 (by omega)) (fun j j1 j2 => R j (by omega)) (gr_j (n := (r 2).toNat) (by omega) h.2 C (by rw [R 0 (by omega)]; omega) O (by rw [N0, R 0 (by omega)]; exact x0) (by rw [N1, R 0 (by omega)]; exact x1) j0) (tr_f (R 5 (by omega)) (by rw [R 0 (by omega)]; omega) (fun j j1 j2 => R j (by omega)) f0) (sa_h (R 8 (by omega)) (R 10 (by omega)) (by rw [R 0 (by omega)]; omega) (by rw [R 7 (by omega)]; omega) (R 9 (by omega)) (by omega) (fun j j1 j2 => R j (by omega)) h0) (tr_s (by rw [R 7 (by omega)]; omega) (R 9 (by omega)) (fun j j1 j2 => R j (by omega)) s0) (tr_x (R 4 (by omega)) (fun j j1 j2 => R j (by omega)) tx0) (sa_t (by rw [R 0 (by omega)]; omega) (R 16 (by omega)) (by omega) (fun j j1 j2 => R j (by omega)) t0) (tr_e ⟨R 13 (by omega), by omega⟩ ⟨R 14 (by omega), by omega⟩ (fun j j1 j2 => R j (by omega)) e0) (tr_p ⟨R 15 (by omega), by omega⟩ (fun j j1 j2 => R j (by omega)) p0), (tr_w (R 0 (by omega)) (by omega) (R 3 (by omega)) (R 6 (by omega)) (R 11 (by omega)) (R 12 (by omega)) (fun j j1 j2 => R j (by omega)) (fun j j1 j2 => R j (by omega)) (fun j j1 j2 => R j (by omega)) Ew), (tr_r (R 0 (by omega)) (by omega) (fun j j1 j2 => R j (by omega)) Ir), (tr_n (R 0 (by omega)) (by omega) (fun j j1 j2 => R j (by omega)) In), ?_⟩
  show pBnd s
  unfold pBnd
  omega
/-! value -/
theorem iv_value {u0 u1 u2 u3 : Int} (I : pIv (r, q) t w wm) (e : W.1 126 = r) (h : 0 ≤ r 8 ∧ r 8 < 100) (x0 : 0 ≤ u0 ∧ u0 < r 7) (x1 : 0 ≤ u1 ∧ u1 ≤ 10000) (x2 : 0 ≤ u2) (xs : ∀ j : Nat, (j : Int) < r 9 → r (47660 + 6 * j) ≠ u0) : pIv ((vu (vu (vu (vu (vu (W) 126 (47260 + 4 * r 8).toNat u0) 126 (47260 + 4 * r 8 + 1).toNat u1) 126 (47260 + 4 * r 8 + 2).toNat u2) 126 (47260 + 4 * r 8 + 3).toNat u3) 126 8 (r 8 + 1)).1 126, q) t w wm := by
  obtain ⟨V, Ew, Ir, In, Bd⟩ := I
  obtain ⟨j0, f0, h0, s0, tx0, t0, e0, p0, _, _, _, b0⟩ := pEv_i.mp V
  have bs1 : 0 ≤ r 7 ∧ r 7 ≤ 40 := s0.1
  have bs2 : 0 ≤ r 9 ∧ r 9 ≤ r 7 := s0.2.1
  have bf : 0 ≤ r 5 ∧ r 5 ≤ 100 := f0.1
  have bx : 0 ≤ r 4 ∧ r 4 ≤ 30 := ⟨tx0.1.1, tx0.1.2.1⟩
  change 0 ≤ r 0 ∧ r 0 ≤ 200 at b0
  change pBnd r at Bd
  have B1 := Bd
  unfold pBnd at B1
  have w6 : 0 ≤ r 6 ∧ r 6 ≤ 40 := Ew.2.2.2.1
  have w11 : 0 ≤ r 11 ∧ r 11 ≤ 40 := Ew.2.2.2.2.1
  have w12 : 0 ≤ r 12 ∧ r 12 ≤ 100 := Ew.2.2.2.2.2.1
  have w3 : 0 ≤ r 3 ∧ r 3 ≤ 20 := Ew.2.2.2.2.2.2
  have R : ∀ j : Nat, ¬ (j = 8 ∨ (47260 ≤ j ∧ j < 47660)) → (vu (vu (vu (vu (vu (W) 126 (47260 + 4 * r 8).toNat u0) 126 (47260 + 4 * r 8 + 1).toNat u1) 126 (47260 + 4 * r 8 + 2).toNat u2) 126 (47260 + 4 * r 8 + 3).toNat u3) 126 8 (r 8 + 1)).1 126 j = r j := by
    intro j hj
    repeat rw [vu_n (by omega)]
    rw [e]
  have O : ∀ j : Nat, 47260 ≤ j → j < 47260 + 4 * (r 8).toNat → (vu (vu (vu (vu (vu (W) 126 (47260 + 4 * r 8).toNat u0) 126 (47260 + 4 * r 8 + 1).toNat u1) 126 (47260 + 4 * r 8 + 2).toNat u2) 126 (47260 + 4 * r 8 + 3).toNat u3) 126 8 (r 8 + 1)).1 126 j = r j := by
    intro j hj j2
    repeat rw [vu_n (by omega)]
    rw [e]
  have C : (vu (vu (vu (vu (vu (W) 126 (47260 + 4 * r 8).toNat u0) 126 (47260 + 4 * r 8 + 1).toNat u1) 126 (47260 + 4 * r 8 + 2).toNat u2) 126 (47260 + 4 * r 8 + 3).toNat u3) 126 8 (r 8 + 1)).1 126 8 = r 8 + 1 := by
    exact vu_e rfl
  have N0 : (vu (vu (vu (vu (vu (W) 126 (47260 + 4 * r 8).toNat u0) 126 (47260 + 4 * r 8 + 1).toNat u1) 126 (47260 + 4 * r 8 + 2).toNat u2) 126 (47260 + 4 * r 8 + 3).toNat u3) 126 8 (r 8 + 1)).1 126 (47260 + 4 * (r 8).toNat) = u0 := by
    repeat rw [vu_n (by omega)]
    exact vu_e (by omega)
  have N1 : (vu (vu (vu (vu (vu (W) 126 (47260 + 4 * r 8).toNat u0) 126 (47260 + 4 * r 8 + 1).toNat u1) 126 (47260 + 4 * r 8 + 2).toNat u2) 126 (47260 + 4 * r 8 + 3).toNat u3) 126 8 (r 8 + 1)).1 126 (47261 + 4 * (r 8).toNat) = u1 := by
    repeat rw [vu_n (by omega)]
    exact vu_e (by omega)
  have N2 : (vu (vu (vu (vu (vu (W) 126 (47260 + 4 * r 8).toNat u0) 126 (47260 + 4 * r 8 + 1).toNat u1) 126 (47260 + 4 * r 8 + 2).toNat u2) 126 (47260 + 4 * r 8 + 3).toNat u3) 126 8 (r 8 + 1)).1 126 (47262 + 4 * (r 8).toNat) = u2 := by
    repeat rw [vu_n (by omega)]
    exact vu_e (by omega)
  generalize (vu (vu (vu (vu (vu (W) 126 (47260 + 4 * r 8).toNat u0) 126 (47260 + 4 * r 8 + 1).toNat u1) 126 (47260 + 4 * r 8 + 2).toNat u2) 126 (47260 + 4 * r 8 + 3).toNat u3) 126 8 (r 8 + 1)).1 126 = s at *
  have k1 := R 1 (by omega)
  have k13 := R 13 (by omega)
  have k14 := R 14 (by omega)
  have k15 := R 15 (by omega)
  have k16 := R 16 (by omega)
  have k0 := R 0 (by omega)
  have k4 := R 4 (by omega)
  have k5 := R 5 (by omega)
  have k7 := R 7 (by omega)
  refine ⟨ev_c V (R 0 (by omega)) (fun j j1 j2 => R j (by omega)) (tr_j (R 2 (by omega)) (by rw [R 0 (by omega)]; omega) (fun j j1 j2 => R j (by omega)) j0) (tr_f (R 5 (by omega)) (by rw [R 0 (by omega)]; omega) (fun j j1 j2 => R j (by omega)) f0) (gr_v (n := (r 8).toNat) (by omega) h.2 C (R 10 (by omega)) (by rw [R 0 (by omega)]; omega) (R 7 (by omega)) (R 9 (by omega)) (by omega) O (fun j j1 j2 => R j (by omega)) (by rw [N0]; exact x0) (by rw [N1]; exact x1) (by rw [N2]; exact x2) (by rw [N0]; exact xs) h0) (tr_s (by rw [R 7 (by omega)]; omega) (R 9 (by omega)) (fun j j1 j2 => R j (by omega)) s0) (tr_x (R 4 (by omega)) (fun j j1 j2 => R j (by omega)) tx0) (sa_t (by rw [R 0 (by omega)]; omega) (R 16 (by omega)) (by omega) (fun j j1 j2 => R j (by omega)) t0) (tr_e ⟨R 13 (by omega), by omega⟩ ⟨R 14 (by omega), by omega⟩ (fun j j1 j2 => R j (by omega)) e0) (tr_p ⟨R 15 (by omega), by omega⟩ (fun j j1 j2 => R j (by omega)) p0), (tr_w (R 0 (by omega)) (by omega) (R 3 (by omega)) (R 6 (by omega)) (R 11 (by omega)) (R 12 (by omega)) (fun j j1 j2 => R j (by omega)) (fun j j1 j2 => R j (by omega)) (fun j j1 j2 => R j (by omega)) Ew), (tr_r (R 0 (by omega)) (by omega) (fun j j1 j2 => R j (by omega)) Ir), (tr_n (R 0 (by omega)) (by omega) (fun j j1 j2 => R j (by omega)) In), ?_⟩
  show pBnd s
  unfold pBnd
  omega
/-! hold -/
theorem iv_hold {u0 u1 u2 u3 : Int} (I : pIv (r, q) t w wm) (e : W.1 126 = r) (h : 0 ≤ r 10 ∧ r 10 < 100) (x0 : 0 ≤ u0 ∧ u0 < r 7) (x1 : -1 ≤ u1 ∧ u1 < 3 * r 0) (x2 : 0 ≤ u2) : pIv ((vu (vu (vu (vu (vu (W) 126 (47900 + 4 * r 10).toNat u0) 126 (47900 + 4 * r 10 + 1).toNat u1) 126 (47900 + 4 * r 10 + 2).toNat u2) 126 (47900 + 4 * r 10 + 3).toNat u3) 126 10 (r 10 + 1)).1 126, q) t w wm := by
  obtain ⟨V, Ew, Ir, In, Bd⟩ := I
  obtain ⟨j0, f0, h0, s0, tx0, t0, e0, p0, _, _, _, b0⟩ := pEv_i.mp V
  have bs1 : 0 ≤ r 7 ∧ r 7 ≤ 40 := s0.1
  have bs2 : 0 ≤ r 9 ∧ r 9 ≤ r 7 := s0.2.1
  have bf : 0 ≤ r 5 ∧ r 5 ≤ 100 := f0.1
  have bx : 0 ≤ r 4 ∧ r 4 ≤ 30 := ⟨tx0.1.1, tx0.1.2.1⟩
  change 0 ≤ r 0 ∧ r 0 ≤ 200 at b0
  change pBnd r at Bd
  have B1 := Bd
  unfold pBnd at B1
  have w6 : 0 ≤ r 6 ∧ r 6 ≤ 40 := Ew.2.2.2.1
  have w11 : 0 ≤ r 11 ∧ r 11 ≤ 40 := Ew.2.2.2.2.1
  have w12 : 0 ≤ r 12 ∧ r 12 ≤ 100 := Ew.2.2.2.2.2.1
  have w3 : 0 ≤ r 3 ∧ r 3 ≤ 20 := Ew.2.2.2.2.2.2
  have R : ∀ j : Nat, ¬ (j = 10 ∨ (47900 ≤ j ∧ j < 48300)) → (vu (vu (vu (vu (vu (W) 126 (47900 + 4 * r 10).toNat u0) 126 (47900 + 4 * r 10 + 1).toNat u1) 126 (47900 + 4 * r 10 + 2).toNat u2) 126 (47900 + 4 * r 10 + 3).toNat u3) 126 10 (r 10 + 1)).1 126 j = r j := by
    intro j hj
    repeat rw [vu_n (by omega)]
    rw [e]
  have O : ∀ j : Nat, 47900 ≤ j → j < 47900 + 4 * (r 10).toNat → (vu (vu (vu (vu (vu (W) 126 (47900 + 4 * r 10).toNat u0) 126 (47900 + 4 * r 10 + 1).toNat u1) 126 (47900 + 4 * r 10 + 2).toNat u2) 126 (47900 + 4 * r 10 + 3).toNat u3) 126 10 (r 10 + 1)).1 126 j = r j := by
    intro j hj j2
    repeat rw [vu_n (by omega)]
    rw [e]
  have C : (vu (vu (vu (vu (vu (W) 126 (47900 + 4 * r 10).toNat u0) 126 (47900 + 4 * r 10 + 1).toNat u1) 126 (47900 + 4 * r 10 + 2).toNat u2) 126 (47900 + 4 * r 10 + 3).toNat u3) 126 10 (r 10 + 1)).1 126 10 = r 10 + 1 := by
    exact vu_e rfl
  have N0 : (vu (vu (vu (vu (vu (W) 126 (47900 + 4 * r 10).toNat u0) 126 (47900 + 4 * r 10 + 1).toNat u1) 126 (47900 + 4 * r 10 + 2).toNat u2) 126 (47900 + 4 * r 10 + 3).toNat u3) 126 10 (r 10 + 1)).1 126 (47900 + 4 * (r 10).toNat) = u0 := by
    repeat rw [vu_n (by omega)]
    exact vu_e (by omega)
  have N1 : (vu (vu (vu (vu (vu (W) 126 (47900 + 4 * r 10).toNat u0) 126 (47900 + 4 * r 10 + 1).toNat u1) 126 (47900 + 4 * r 10 + 2).toNat u2) 126 (47900 + 4 * r 10 + 3).toNat u3) 126 10 (r 10 + 1)).1 126 (47901 + 4 * (r 10).toNat) = u1 := by
    repeat rw [vu_n (by omega)]
    exact vu_e (by omega)
  have N2 : (vu (vu (vu (vu (vu (W) 126 (47900 + 4 * r 10).toNat u0) 126 (47900 + 4 * r 10 + 1).toNat u1) 126 (47900 + 4 * r 10 + 2).toNat u2) 126 (47900 + 4 * r 10 + 3).toNat u3) 126 10 (r 10 + 1)).1 126 (47902 + 4 * (r 10).toNat) = u2 := by
    repeat rw [vu_n (by omega)]
    exact vu_e (by omega)
  generalize (vu (vu (vu (vu (vu (W) 126 (47900 + 4 * r 10).toNat u0) 126 (47900 + 4 * r 10 + 1).toNat u1) 126 (47900 + 4 * r 10 + 2).toNat u2) 126 (47900 + 4 * r 10 + 3).toNat u3) 126 10 (r 10 + 1)).1 126 = s at *
  have k1 := R 1 (by omega)
  have k13 := R 13 (by omega)
  have k14 := R 14 (by omega)
  have k15 := R 15 (by omega)
  have k16 := R 16 (by omega)
  have k0 := R 0 (by omega)
  have k4 := R 4 (by omega)
  have k5 := R 5 (by omega)
  have k7 := R 7 (by omega)
  refine ⟨ev_c V (R 0 (by omega)) (fun j j1 j2 => R j (by omega)) (tr_j (R 2 (by omega)) (by rw [R 0 (by omega)]; omega) (fun j j1 j2 => R j (by omega)) j0) (tr_f (R 5 (by omega)) (by rw [R 0 (by omega)]; omega) (fun j j1 j2 => R j (by omega)) f0) (gr_o (n := (r 10).toNat) (by omega) h.2 C (R 8 (by omega)) (by rw [R 0 (by omega)]; omega) (R 7 (by omega)) (R 9 (by omega)) (by omega) (fun j j1 j2 => by by_cases z : j < 47900; exact R j (by omega); exact O j (by omega) j2) (by rw [N0]; exact x0) (by rw [N1, R 0 (by omega)]; exact x1) (by rw [N2]; exact x2) h0) (tr_s (by rw [R 7 (by omega)]; omega) (R 9 (by omega)) (fun j j1 j2 => R j (by omega)) s0) (tr_x (R 4 (by omega)) (fun j j1 j2 => R j (by omega)) tx0) (sa_t (by rw [R 0 (by omega)]; omega) (R 16 (by omega)) (by omega) (fun j j1 j2 => R j (by omega)) t0) (tr_e ⟨R 13 (by omega), by omega⟩ ⟨R 14 (by omega), by omega⟩ (fun j j1 j2 => R j (by omega)) e0) (tr_p ⟨R 15 (by omega), by omega⟩ (fun j j1 j2 => R j (by omega)) p0), (tr_w (R 0 (by omega)) (by omega) (R 3 (by omega)) (R 6 (by omega)) (R 11 (by omega)) (R 12 (by omega)) (fun j j1 j2 => R j (by omega)) (fun j j1 j2 => R j (by omega)) (fun j j1 j2 => R j (by omega)) Ew), (tr_r (R 0 (by omega)) (by omega) (fun j j1 j2 => R j (by omega)) Ir), (tr_n (R 0 (by omega)) (by omega) (fun j j1 j2 => R j (by omega)) In), ?_⟩
  show pBnd s
  unfold pBnd
  omega
/-! entry -/
theorem iv_entry {u0 u1 u2 u3 : Int} (I : pIv (r, q) t w wm) (e : W.1 126 = r) (h : 0 ≤ r 13 ∧ r 13 < 100) (x1 : 0 ≤ u1 ∧ u1 ≤ 399) : pIv ((vu (vu (vu (vu (vu (W) 126 (48960 + 4 * r 13).toNat u0) 126 (48960 + 4 * r 13 + 1).toNat u1) 126 (48960 + 4 * r 13 + 2).toNat u2) 126 (48960 + 4 * r 13 + 3).toNat u3) 126 13 (r 13 + 1)).1 126, q) t w wm := by
  obtain ⟨V, Ew, Ir, In, Bd⟩ := I
  obtain ⟨j0, f0, h0, s0, tx0, t0, e0, p0, _, _, _, b0⟩ := pEv_i.mp V
  have bs1 : 0 ≤ r 7 ∧ r 7 ≤ 40 := s0.1
  have bs2 : 0 ≤ r 9 ∧ r 9 ≤ r 7 := s0.2.1
  have bf : 0 ≤ r 5 ∧ r 5 ≤ 100 := f0.1
  have bx : 0 ≤ r 4 ∧ r 4 ≤ 30 := ⟨tx0.1.1, tx0.1.2.1⟩
  change 0 ≤ r 0 ∧ r 0 ≤ 200 at b0
  change pBnd r at Bd
  have B1 := Bd
  unfold pBnd at B1
  have w6 : 0 ≤ r 6 ∧ r 6 ≤ 40 := Ew.2.2.2.1
  have w11 : 0 ≤ r 11 ∧ r 11 ≤ 40 := Ew.2.2.2.2.1
  have w12 : 0 ≤ r 12 ∧ r 12 ≤ 100 := Ew.2.2.2.2.2.1
  have w3 : 0 ≤ r 3 ∧ r 3 ≤ 20 := Ew.2.2.2.2.2.2
  have R : ∀ j : Nat, ¬ (j = 13 ∨ (48960 ≤ j ∧ j < 49360)) → (vu (vu (vu (vu (vu (W) 126 (48960 + 4 * r 13).toNat u0) 126 (48960 + 4 * r 13 + 1).toNat u1) 126 (48960 + 4 * r 13 + 2).toNat u2) 126 (48960 + 4 * r 13 + 3).toNat u3) 126 13 (r 13 + 1)).1 126 j = r j := by
    intro j hj
    repeat rw [vu_n (by omega)]
    rw [e]
  have O : ∀ j : Nat, 48960 ≤ j → j < 48960 + 4 * (r 13).toNat → (vu (vu (vu (vu (vu (W) 126 (48960 + 4 * r 13).toNat u0) 126 (48960 + 4 * r 13 + 1).toNat u1) 126 (48960 + 4 * r 13 + 2).toNat u2) 126 (48960 + 4 * r 13 + 3).toNat u3) 126 13 (r 13 + 1)).1 126 j = r j := by
    intro j hj j2
    repeat rw [vu_n (by omega)]
    rw [e]
  have C : (vu (vu (vu (vu (vu (W) 126 (48960 + 4 * r 13).toNat u0) 126 (48960 + 4 * r 13 + 1).toNat u1) 126 (48960 + 4 * r 13 + 2).toNat u2) 126 (48960 + 4 * r 13 + 3).toNat u3) 126 13 (r 13 + 1)).1 126 13 = r 13 + 1 := by
    exact vu_e rfl
  have N1 : (vu (vu (vu (vu (vu (W) 126 (48960 + 4 * r 13).toNat u0) 126 (48960 + 4 * r 13 + 1).toNat u1) 126 (48960 + 4 * r 13 + 2).toNat u2) 126 (48960 + 4 * r 13 + 3).toNat u3) 126 13 (r 13 + 1)).1 126 (48961 + 4 * (r 13).toNat) = u1 := by
    repeat rw [vu_n (by omega)]
    exact vu_e (by omega)
  generalize (vu (vu (vu (vu (vu (W) 126 (48960 + 4 * r 13).toNat u0) 126 (48960 + 4 * r 13 + 1).toNat u1) 126 (48960 + 4 * r 13 + 2).toNat u2) 126 (48960 + 4 * r 13 + 3).toNat u3) 126 13 (r 13 + 1)).1 126 = s at *
  have k1 := R 1 (by omega)
  have k13 := C
  have k14 := R 14 (by omega)
  have k15 := R 15 (by omega)
  have k16 := R 16 (by omega)
  have k0 := R 0 (by omega)
  have k4 := R 4 (by omega)
  have k5 := R 5 (by omega)
  have k7 := R 7 (by omega)
  refine ⟨ev_c V (R 0 (by omega)) (fun j j1 j2 => R j (by omega)) (tr_j (R 2 (by omega)) (by rw [R 0 (by omega)]; omega) (fun j j1 j2 => R j (by omega)) j0) (tr_f (R 5 (by omega)) (by rw [R 0 (by omega)]; omega) (fun j j1 j2 => R j (by omega)) f0) (sa_h (R 8 (by omega)) (R 10 (by omega)) (by rw [R 0 (by omega)]; omega) (by rw [R 7 (by omega)]; omega) (R 9 (by omega)) (by omega) (fun j j1 j2 => R j (by omega)) h0) (tr_s (by rw [R 7 (by omega)]; omega) (R 9 (by omega)) (fun j j1 j2 => R j (by omega)) s0) (tr_x (R 4 (by omega)) (fun j j1 j2 => R j (by omega)) tx0) (sa_t (by rw [R 0 (by omega)]; omega) (R 16 (by omega)) (by omega) (fun j j1 j2 => R j (by omega)) t0) (gr_e (n := (r 13).toNat) (by omega) C ⟨R 14 (by omega), by omega⟩ O (fun j j1 j2 => R j (by omega)) (by rw [N1]; exact x1) e0) (tr_p ⟨R 15 (by omega), by omega⟩ (fun j j1 j2 => R j (by omega)) p0), (tr_w (R 0 (by omega)) (by omega) (R 3 (by omega)) (R 6 (by omega)) (R 11 (by omega)) (R 12 (by omega)) (fun j j1 j2 => R j (by omega)) (fun j j1 j2 => R j (by omega)) (fun j j1 j2 => R j (by omega)) Ew), (tr_r (R 0 (by omega)) (by omega) (fun j j1 j2 => R j (by omega)) Ir), (tr_n (R 0 (by omega)) (by omega) (fun j j1 j2 => R j (by omega)) In), ?_⟩
  show pBnd s
  unfold pBnd
  omega
/-! price -/
theorem iv_price {u0 u1 u2 u3 : Int} (I : pIv (r, q) t w wm) (e : W.1 126 = r) (h : 0 ≤ r 15 ∧ r 15 < 100) (x1 : 0 ≤ u1) : pIv ((vu (vu (vu (vu (vu (W) 126 (49520 + 4 * r 15).toNat u0) 126 (49520 + 4 * r 15 + 1).toNat u1) 126 (49520 + 4 * r 15 + 2).toNat u2) 126 (49520 + 4 * r 15 + 3).toNat u3) 126 15 (r 15 + 1)).1 126, q) t w wm := by
  obtain ⟨V, Ew, Ir, In, Bd⟩ := I
  obtain ⟨j0, f0, h0, s0, tx0, t0, e0, p0, _, _, _, b0⟩ := pEv_i.mp V
  have bs1 : 0 ≤ r 7 ∧ r 7 ≤ 40 := s0.1
  have bs2 : 0 ≤ r 9 ∧ r 9 ≤ r 7 := s0.2.1
  have bf : 0 ≤ r 5 ∧ r 5 ≤ 100 := f0.1
  have bx : 0 ≤ r 4 ∧ r 4 ≤ 30 := ⟨tx0.1.1, tx0.1.2.1⟩
  change 0 ≤ r 0 ∧ r 0 ≤ 200 at b0
  change pBnd r at Bd
  have B1 := Bd
  unfold pBnd at B1
  have w6 : 0 ≤ r 6 ∧ r 6 ≤ 40 := Ew.2.2.2.1
  have w11 : 0 ≤ r 11 ∧ r 11 ≤ 40 := Ew.2.2.2.2.1
  have w12 : 0 ≤ r 12 ∧ r 12 ≤ 100 := Ew.2.2.2.2.2.1
  have w3 : 0 ≤ r 3 ∧ r 3 ≤ 20 := Ew.2.2.2.2.2.2
  have R : ∀ j : Nat, ¬ (j = 15 ∨ (49520 ≤ j ∧ j < 49920)) → (vu (vu (vu (vu (vu (W) 126 (49520 + 4 * r 15).toNat u0) 126 (49520 + 4 * r 15 + 1).toNat u1) 126 (49520 + 4 * r 15 + 2).toNat u2) 126 (49520 + 4 * r 15 + 3).toNat u3) 126 15 (r 15 + 1)).1 126 j = r j := by
    intro j hj
    repeat rw [vu_n (by omega)]
    rw [e]
  have O : ∀ j : Nat, 49520 ≤ j → j < 49520 + 4 * (r 15).toNat → (vu (vu (vu (vu (vu (W) 126 (49520 + 4 * r 15).toNat u0) 126 (49520 + 4 * r 15 + 1).toNat u1) 126 (49520 + 4 * r 15 + 2).toNat u2) 126 (49520 + 4 * r 15 + 3).toNat u3) 126 15 (r 15 + 1)).1 126 j = r j := by
    intro j hj j2
    repeat rw [vu_n (by omega)]
    rw [e]
  have C : (vu (vu (vu (vu (vu (W) 126 (49520 + 4 * r 15).toNat u0) 126 (49520 + 4 * r 15 + 1).toNat u1) 126 (49520 + 4 * r 15 + 2).toNat u2) 126 (49520 + 4 * r 15 + 3).toNat u3) 126 15 (r 15 + 1)).1 126 15 = r 15 + 1 := by
    exact vu_e rfl
  have N1 : (vu (vu (vu (vu (vu (W) 126 (49520 + 4 * r 15).toNat u0) 126 (49520 + 4 * r 15 + 1).toNat u1) 126 (49520 + 4 * r 15 + 2).toNat u2) 126 (49520 + 4 * r 15 + 3).toNat u3) 126 15 (r 15 + 1)).1 126 (49521 + 4 * (r 15).toNat) = u1 := by
    repeat rw [vu_n (by omega)]
    exact vu_e (by omega)
  generalize (vu (vu (vu (vu (vu (W) 126 (49520 + 4 * r 15).toNat u0) 126 (49520 + 4 * r 15 + 1).toNat u1) 126 (49520 + 4 * r 15 + 2).toNat u2) 126 (49520 + 4 * r 15 + 3).toNat u3) 126 15 (r 15 + 1)).1 126 = s at *
  have k1 := R 1 (by omega)
  have k13 := R 13 (by omega)
  have k14 := R 14 (by omega)
  have k15 := C
  have k16 := R 16 (by omega)
  have k0 := R 0 (by omega)
  have k4 := R 4 (by omega)
  have k5 := R 5 (by omega)
  have k7 := R 7 (by omega)
  refine ⟨ev_c V (R 0 (by omega)) (fun j j1 j2 => R j (by omega)) (tr_j (R 2 (by omega)) (by rw [R 0 (by omega)]; omega) (fun j j1 j2 => R j (by omega)) j0) (tr_f (R 5 (by omega)) (by rw [R 0 (by omega)]; omega) (fun j j1 j2 => R j (by omega)) f0) (sa_h (R 8 (by omega)) (R 10 (by omega)) (by rw [R 0 (by omega)]; omega) (by rw [R 7 (by omega)]; omega) (R 9 (by omega)) (by omega) (fun j j1 j2 => R j (by omega)) h0) (tr_s (by rw [R 7 (by omega)]; omega) (R 9 (by omega)) (fun j j1 j2 => R j (by omega)) s0) (tr_x (R 4 (by omega)) (fun j j1 j2 => R j (by omega)) tx0) (sa_t (by rw [R 0 (by omega)]; omega) (R 16 (by omega)) (by omega) (fun j j1 j2 => R j (by omega)) t0) (tr_e ⟨R 13 (by omega), by omega⟩ ⟨R 14 (by omega), by omega⟩ (fun j j1 j2 => R j (by omega)) e0) (gr_p (n := (r 15).toNat) (by omega) C O (by rw [N1]; exact x1) p0), (tr_w (R 0 (by omega)) (by omega) (R 3 (by omega)) (R 6 (by omega)) (R 11 (by omega)) (R 12 (by omega)) (fun j j1 j2 => R j (by omega)) (fun j j1 j2 => R j (by omega)) (fun j j1 j2 => R j (by omega)) Ew), (tr_r (R 0 (by omega)) (by omega) (fun j j1 j2 => R j (by omega)) Ir), (tr_n (R 0 (by omega)) (by omega) (fun j j1 j2 => R j (by omega)) In), ?_⟩
  show pBnd s
  unfold pBnd
  omega
/-! close -/
theorem iv_close {u0 u1 u2 u3 : Int} (I : pIv (r, q) t w wm) (e : W.1 126 = r) (h : 0 ≤ r 14 ∧ r 14 < 40) (x : ∀ i : Nat, (i : Int) < r 14 → r (49360 + 4 * i) = u0 → r (49361 + 4 * i) < u1) : pIv ((vu (vu (vu (vu (vu (W) 126 (49360 + 4 * r 14).toNat u0) 126 (49360 + 4 * r 14 + 1).toNat u1) 126 (49360 + 4 * r 14 + 2).toNat u2) 126 (49360 + 4 * r 14 + 3).toNat u3) 126 14 (r 14 + 1)).1 126, q) t w wm := by
  obtain ⟨V, Ew, Ir, In, Bd⟩ := I
  obtain ⟨j0, f0, h0, s0, tx0, t0, e0, p0, _, _, _, b0⟩ := pEv_i.mp V
  have bs1 : 0 ≤ r 7 ∧ r 7 ≤ 40 := s0.1
  have bs2 : 0 ≤ r 9 ∧ r 9 ≤ r 7 := s0.2.1
  have bf : 0 ≤ r 5 ∧ r 5 ≤ 100 := f0.1
  have bx : 0 ≤ r 4 ∧ r 4 ≤ 30 := ⟨tx0.1.1, tx0.1.2.1⟩
  change 0 ≤ r 0 ∧ r 0 ≤ 200 at b0
  change pBnd r at Bd
  have B1 := Bd
  unfold pBnd at B1
  have w6 : 0 ≤ r 6 ∧ r 6 ≤ 40 := Ew.2.2.2.1
  have w11 : 0 ≤ r 11 ∧ r 11 ≤ 40 := Ew.2.2.2.2.1
  have w12 : 0 ≤ r 12 ∧ r 12 ≤ 100 := Ew.2.2.2.2.2.1
  have w3 : 0 ≤ r 3 ∧ r 3 ≤ 20 := Ew.2.2.2.2.2.2
  have R : ∀ j : Nat, ¬ (j = 14 ∨ (49360 ≤ j ∧ j < 49520)) → (vu (vu (vu (vu (vu (W) 126 (49360 + 4 * r 14).toNat u0) 126 (49360 + 4 * r 14 + 1).toNat u1) 126 (49360 + 4 * r 14 + 2).toNat u2) 126 (49360 + 4 * r 14 + 3).toNat u3) 126 14 (r 14 + 1)).1 126 j = r j := by
    intro j hj
    repeat rw [vu_n (by omega)]
    rw [e]
  have O : ∀ j : Nat, 49360 ≤ j → j < 49360 + 4 * (r 14).toNat → (vu (vu (vu (vu (vu (W) 126 (49360 + 4 * r 14).toNat u0) 126 (49360 + 4 * r 14 + 1).toNat u1) 126 (49360 + 4 * r 14 + 2).toNat u2) 126 (49360 + 4 * r 14 + 3).toNat u3) 126 14 (r 14 + 1)).1 126 j = r j := by
    intro j hj j2
    repeat rw [vu_n (by omega)]
    rw [e]
  have C : (vu (vu (vu (vu (vu (W) 126 (49360 + 4 * r 14).toNat u0) 126 (49360 + 4 * r 14 + 1).toNat u1) 126 (49360 + 4 * r 14 + 2).toNat u2) 126 (49360 + 4 * r 14 + 3).toNat u3) 126 14 (r 14 + 1)).1 126 14 = r 14 + 1 := by
    exact vu_e rfl
  have N0 : (vu (vu (vu (vu (vu (W) 126 (49360 + 4 * r 14).toNat u0) 126 (49360 + 4 * r 14 + 1).toNat u1) 126 (49360 + 4 * r 14 + 2).toNat u2) 126 (49360 + 4 * r 14 + 3).toNat u3) 126 14 (r 14 + 1)).1 126 (49360 + 4 * (r 14).toNat) = u0 := by
    repeat rw [vu_n (by omega)]
    exact vu_e (by omega)
  have N1 : (vu (vu (vu (vu (vu (W) 126 (49360 + 4 * r 14).toNat u0) 126 (49360 + 4 * r 14 + 1).toNat u1) 126 (49360 + 4 * r 14 + 2).toNat u2) 126 (49360 + 4 * r 14 + 3).toNat u3) 126 14 (r 14 + 1)).1 126 (49361 + 4 * (r 14).toNat) = u1 := by
    repeat rw [vu_n (by omega)]
    exact vu_e (by omega)
  generalize (vu (vu (vu (vu (vu (W) 126 (49360 + 4 * r 14).toNat u0) 126 (49360 + 4 * r 14 + 1).toNat u1) 126 (49360 + 4 * r 14 + 2).toNat u2) 126 (49360 + 4 * r 14 + 3).toNat u3) 126 14 (r 14 + 1)).1 126 = s at *
  have k1 := R 1 (by omega)
  have k13 := R 13 (by omega)
  have k14 := C
  have k15 := R 15 (by omega)
  have k16 := R 16 (by omega)
  have k0 := R 0 (by omega)
  have k4 := R 4 (by omega)
  have k5 := R 5 (by omega)
  have k7 := R 7 (by omega)
  refine ⟨ev_c V (R 0 (by omega)) (fun j j1 j2 => R j (by omega)) (tr_j (R 2 (by omega)) (by rw [R 0 (by omega)]; omega) (fun j j1 j2 => R j (by omega)) j0) (tr_f (R 5 (by omega)) (by rw [R 0 (by omega)]; omega) (fun j j1 j2 => R j (by omega)) f0) (sa_h (R 8 (by omega)) (R 10 (by omega)) (by rw [R 0 (by omega)]; omega) (by rw [R 7 (by omega)]; omega) (R 9 (by omega)) (by omega) (fun j j1 j2 => R j (by omega)) h0) (tr_s (by rw [R 7 (by omega)]; omega) (R 9 (by omega)) (fun j j1 j2 => R j (by omega)) s0) (tr_x (R 4 (by omega)) (fun j j1 j2 => R j (by omega)) tx0) (sa_t (by rw [R 0 (by omega)]; omega) (R 16 (by omega)) (by omega) (fun j j1 j2 => R j (by omega)) t0) (gr_c (n := (r 14).toNat) (by omega) h.2 C ⟨R 13 (by omega), by omega⟩ (fun j j1 j2 => by by_cases z : j < 49360; exact R j (by omega); exact O j (by omega) j2) (fun i hi => by rw [N0, N1]; exact x i (by omega)) e0) (tr_p ⟨R 15 (by omega), by omega⟩ (fun j j1 j2 => R j (by omega)) p0), (tr_w (R 0 (by omega)) (by omega) (R 3 (by omega)) (R 6 (by omega)) (R 11 (by omega)) (R 12 (by omega)) (fun j j1 j2 => R j (by omega)) (fun j j1 j2 => R j (by omega)) (fun j j1 j2 => R j (by omega)) Ew), (tr_r (R 0 (by omega)) (by omega) (fun j j1 j2 => R j (by omega)) Ir), (tr_n (R 0 (by omega)) (by omega) (fun j j1 j2 => R j (by omega)) In), ?_⟩
  show pBnd s
  unfold pBnd
  omega
/-! fact -/
theorem iv_fact {u0 u1 u2 u3 u4 u5 : Int} (I : pIv (r, q) t w wm) (e : W.1 126 = r) (h : 0 ≤ r 5 ∧ r 5 < 100) (x0 : 0 ≤ u0 ∧ u0 < 3 * r 0) (x2 : 0 ≤ u2 ∧ u2 ≤ 11) (x3 : 0 ≤ u3 ∧ u3 ≤ 146399) (x4 : 0 ≤ u4 ∧ u4 ≤ 146399) : pIv ((vu (vu (vu (vu (vu (vu (vu (vu (vu (vu (W) 126 (46540 + 6 * r 5).toNat u0) 126 (46540 + 6 * r 5 + 1).toNat u1) 126 (46540 + 6 * r 5 + 2).toNat u2) 126 (46540 + 6 * r 5 + 3).toNat u3) 126 (46540 + 6 * r 5 + 4).toNat u4) 126 (46540 + 6 * r 5 + 5).toNat u5) 126 5 (r 5 + 1)) 126 (49920 + 2 * r 16).toNat 2) 126 (49920 + 2 * r 16 + 1).toNat (r 5 + 1 - 1)) 126 16 (r 16 + 1)).1 126, q) t w wm := by
  obtain ⟨V, Ew, Ir, In, Bd⟩ := I
  obtain ⟨j0, f0, h0, s0, tx0, t0, e0, p0, _, _, _, b0⟩ := pEv_i.mp V
  have bs1 : 0 ≤ r 7 ∧ r 7 ≤ 40 := s0.1
  have bs2 : 0 ≤ r 9 ∧ r 9 ≤ r 7 := s0.2.1
  have bf : 0 ≤ r 5 ∧ r 5 ≤ 100 := f0.1
  have bx : 0 ≤ r 4 ∧ r 4 ≤ 30 := ⟨tx0.1.1, tx0.1.2.1⟩
  change 0 ≤ r 0 ∧ r 0 ≤ 200 at b0
  change pBnd r at Bd
  have B1 := Bd
  unfold pBnd at B1
  have w6 : 0 ≤ r 6 ∧ r 6 ≤ 40 := Ew.2.2.2.1
  have w11 : 0 ≤ r 11 ∧ r 11 ≤ 40 := Ew.2.2.2.2.1
  have w12 : 0 ≤ r 12 ∧ r 12 ≤ 100 := Ew.2.2.2.2.2.1
  have w3 : 0 ≤ r 3 ∧ r 3 ≤ 20 := Ew.2.2.2.2.2.2
  have R : ∀ j : Nat, ¬ (j = 5 ∨ (46540 ≤ j ∧ j < 47140) ∨ j = 16 ∨ 49920 ≤ j) → (vu (vu (vu (vu (vu (vu (vu (vu (vu (vu (W) 126 (46540 + 6 * r 5).toNat u0) 126 (46540 + 6 * r 5 + 1).toNat u1) 126 (46540 + 6 * r 5 + 2).toNat u2) 126 (46540 + 6 * r 5 + 3).toNat u3) 126 (46540 + 6 * r 5 + 4).toNat u4) 126 (46540 + 6 * r 5 + 5).toNat u5) 126 5 (r 5 + 1)) 126 (49920 + 2 * r 16).toNat 2) 126 (49920 + 2 * r 16 + 1).toNat (r 5 + 1 - 1)) 126 16 (r 16 + 1)).1 126 j = r j := by
    intro j hj
    repeat rw [vu_n (by omega)]
    rw [e]
  have O : ∀ j : Nat, 46540 ≤ j → j < 46540 + 6 * (r 5).toNat → (vu (vu (vu (vu (vu (vu (vu (vu (vu (vu (W) 126 (46540 + 6 * r 5).toNat u0) 126 (46540 + 6 * r 5 + 1).toNat u1) 126 (46540 + 6 * r 5 + 2).toNat u2) 126 (46540 + 6 * r 5 + 3).toNat u3) 126 (46540 + 6 * r 5 + 4).toNat u4) 126 (46540 + 6 * r 5 + 5).toNat u5) 126 5 (r 5 + 1)) 126 (49920 + 2 * r 16).toNat 2) 126 (49920 + 2 * r 16 + 1).toNat (r 5 + 1 - 1)) 126 16 (r 16 + 1)).1 126 j = r j := by
    intro j hj j2
    repeat rw [vu_n (by omega)]
    rw [e]
  have C : (vu (vu (vu (vu (vu (vu (vu (vu (vu (vu (W) 126 (46540 + 6 * r 5).toNat u0) 126 (46540 + 6 * r 5 + 1).toNat u1) 126 (46540 + 6 * r 5 + 2).toNat u2) 126 (46540 + 6 * r 5 + 3).toNat u3) 126 (46540 + 6 * r 5 + 4).toNat u4) 126 (46540 + 6 * r 5 + 5).toNat u5) 126 5 (r 5 + 1)) 126 (49920 + 2 * r 16).toNat 2) 126 (49920 + 2 * r 16 + 1).toNat (r 5 + 1 - 1)) 126 16 (r 16 + 1)).1 126 5 = r 5 + 1 := by
    repeat rw [vu_n (by omega)]
    exact vu_e rfl
  have N0 : (vu (vu (vu (vu (vu (vu (vu (vu (vu (vu (W) 126 (46540 + 6 * r 5).toNat u0) 126 (46540 + 6 * r 5 + 1).toNat u1) 126 (46540 + 6 * r 5 + 2).toNat u2) 126 (46540 + 6 * r 5 + 3).toNat u3) 126 (46540 + 6 * r 5 + 4).toNat u4) 126 (46540 + 6 * r 5 + 5).toNat u5) 126 5 (r 5 + 1)) 126 (49920 + 2 * r 16).toNat 2) 126 (49920 + 2 * r 16 + 1).toNat (r 5 + 1 - 1)) 126 16 (r 16 + 1)).1 126 (46540 + 6 * (r 5).toNat) = u0 := by
    repeat rw [vu_n (by omega)]
    exact vu_e (by omega)
  have N2 : (vu (vu (vu (vu (vu (vu (vu (vu (vu (vu (W) 126 (46540 + 6 * r 5).toNat u0) 126 (46540 + 6 * r 5 + 1).toNat u1) 126 (46540 + 6 * r 5 + 2).toNat u2) 126 (46540 + 6 * r 5 + 3).toNat u3) 126 (46540 + 6 * r 5 + 4).toNat u4) 126 (46540 + 6 * r 5 + 5).toNat u5) 126 5 (r 5 + 1)) 126 (49920 + 2 * r 16).toNat 2) 126 (49920 + 2 * r 16 + 1).toNat (r 5 + 1 - 1)) 126 16 (r 16 + 1)).1 126 (46542 + 6 * (r 5).toNat) = u2 := by
    repeat rw [vu_n (by omega)]
    exact vu_e (by omega)
  have N3 : (vu (vu (vu (vu (vu (vu (vu (vu (vu (vu (W) 126 (46540 + 6 * r 5).toNat u0) 126 (46540 + 6 * r 5 + 1).toNat u1) 126 (46540 + 6 * r 5 + 2).toNat u2) 126 (46540 + 6 * r 5 + 3).toNat u3) 126 (46540 + 6 * r 5 + 4).toNat u4) 126 (46540 + 6 * r 5 + 5).toNat u5) 126 5 (r 5 + 1)) 126 (49920 + 2 * r 16).toNat 2) 126 (49920 + 2 * r 16 + 1).toNat (r 5 + 1 - 1)) 126 16 (r 16 + 1)).1 126 (46543 + 6 * (r 5).toNat) = u3 := by
    repeat rw [vu_n (by omega)]
    exact vu_e (by omega)
  have N4 : (vu (vu (vu (vu (vu (vu (vu (vu (vu (vu (W) 126 (46540 + 6 * r 5).toNat u0) 126 (46540 + 6 * r 5 + 1).toNat u1) 126 (46540 + 6 * r 5 + 2).toNat u2) 126 (46540 + 6 * r 5 + 3).toNat u3) 126 (46540 + 6 * r 5 + 4).toNat u4) 126 (46540 + 6 * r 5 + 5).toNat u5) 126 5 (r 5 + 1)) 126 (49920 + 2 * r 16).toNat 2) 126 (49920 + 2 * r 16 + 1).toNat (r 5 + 1 - 1)) 126 16 (r 16 + 1)).1 126 (46544 + 6 * (r 5).toNat) = u4 := by
    repeat rw [vu_n (by omega)]
    exact vu_e (by omega)
  have T0 : (vu (vu (vu (vu (vu (vu (vu (vu (vu (vu (W) 126 (46540 + 6 * r 5).toNat u0) 126 (46540 + 6 * r 5 + 1).toNat u1) 126 (46540 + 6 * r 5 + 2).toNat u2) 126 (46540 + 6 * r 5 + 3).toNat u3) 126 (46540 + 6 * r 5 + 4).toNat u4) 126 (46540 + 6 * r 5 + 5).toNat u5) 126 5 (r 5 + 1)) 126 (49920 + 2 * r 16).toNat 2) 126 (49920 + 2 * r 16 + 1).toNat (r 5 + 1 - 1)) 126 16 (r 16 + 1)).1 126 (49920 + 2 * (r 16).toNat) = 2 := by
    repeat rw [vu_n (by omega)]
    exact vu_e (by omega)
  have T1 : (vu (vu (vu (vu (vu (vu (vu (vu (vu (vu (W) 126 (46540 + 6 * r 5).toNat u0) 126 (46540 + 6 * r 5 + 1).toNat u1) 126 (46540 + 6 * r 5 + 2).toNat u2) 126 (46540 + 6 * r 5 + 3).toNat u3) 126 (46540 + 6 * r 5 + 4).toNat u4) 126 (46540 + 6 * r 5 + 5).toNat u5) 126 5 (r 5 + 1)) 126 (49920 + 2 * r 16).toNat 2) 126 (49920 + 2 * r 16 + 1).toNat (r 5 + 1 - 1)) 126 16 (r 16 + 1)).1 126 16 = r 16 + 1 := vu_e rfl
  have T2 : ∀ j : Nat, 49920 ≤ j → j < 49920 + 2 * (r 16).toNat → (vu (vu (vu (vu (vu (vu (vu (vu (vu (vu (W) 126 (46540 + 6 * r 5).toNat u0) 126 (46540 + 6 * r 5 + 1).toNat u1) 126 (46540 + 6 * r 5 + 2).toNat u2) 126 (46540 + 6 * r 5 + 3).toNat u3) 126 (46540 + 6 * r 5 + 4).toNat u4) 126 (46540 + 6 * r 5 + 5).toNat u5) 126 5 (r 5 + 1)) 126 (49920 + 2 * r 16).toNat 2) 126 (49920 + 2 * r 16 + 1).toNat (r 5 + 1 - 1)) 126 16 (r 16 + 1)).1 126 j = r j := by
    intro j hj j2
    repeat rw [vu_n (by omega)]
    rw [e]
  generalize (vu (vu (vu (vu (vu (vu (vu (vu (vu (vu (W) 126 (46540 + 6 * r 5).toNat u0) 126 (46540 + 6 * r 5 + 1).toNat u1) 126 (46540 + 6 * r 5 + 2).toNat u2) 126 (46540 + 6 * r 5 + 3).toNat u3) 126 (46540 + 6 * r 5 + 4).toNat u4) 126 (46540 + 6 * r 5 + 5).toNat u5) 126 5 (r 5 + 1)) 126 (49920 + 2 * r 16).toNat 2) 126 (49920 + 2 * r 16 + 1).toNat (r 5 + 1 - 1)) 126 16 (r 16 + 1)).1 126 = s at *
  have k1 := R 1 (by omega)
  have k13 := R 13 (by omega)
  have k14 := R 14 (by omega)
  have k15 := R 15 (by omega)
  have k16 := T1
  have k0 := R 0 (by omega)
  have k4 := R 4 (by omega)
  have k5 := C
  have k7 := R 7 (by omega)
  refine ⟨ev_c V (R 0 (by omega)) (fun j j1 j2 => R j (by omega)) (tr_j (R 2 (by omega)) (by rw [R 0 (by omega)]; omega) (fun j j1 j2 => R j (by omega)) j0) (gr_f (n := (r 5).toNat) (by omega) h.2 C (by rw [R 0 (by omega)]; omega) O (by rw [N0, R 0 (by omega)]; exact x0) (by rw [N2]; exact x2) (by rw [N3]; exact x3) (by rw [N4]; exact x4) f0) (sa_h (R 8 (by omega)) (R 10 (by omega)) (by rw [R 0 (by omega)]; omega) (by rw [R 7 (by omega)]; omega) (R 9 (by omega)) (by omega) (fun j j1 j2 => R j (by omega)) h0) (tr_s (by rw [R 7 (by omega)]; omega) (R 9 (by omega)) (fun j j1 j2 => R j (by omega)) s0) (tr_x (R 4 (by omega)) (fun j j1 j2 => R j (by omega)) tx0) (gr_t (n := (r 16).toNat) (by omega) (by rw [R 0 (by omega)]; omega) T1 (by omega) T2 (by rw [T0]; decide) t0) (tr_e ⟨R 13 (by omega), by omega⟩ ⟨R 14 (by omega), by omega⟩ (fun j j1 j2 => R j (by omega)) e0) (tr_p ⟨R 15 (by omega), by omega⟩ (fun j j1 j2 => R j (by omega)) p0), (tr_w (R 0 (by omega)) (by omega) (R 3 (by omega)) (R 6 (by omega)) (R 11 (by omega)) (R 12 (by omega)) (fun j j1 j2 => R j (by omega)) (fun j j1 j2 => R j (by omega)) (fun j j1 j2 => R j (by omega)) Ew), (tr_r (R 0 (by omega)) (by omega) (fun j j1 j2 => R j (by omega)) Ir), (tr_n (R 0 (by omega)) (by omega) (fun j j1 j2 => R j (by omega)) In), ?_⟩
  show pBnd s
  unfold pBnd
  omega
end
end jG124

section jG125
/-! pure: holding, split keep the invariants -/
section
variable {r s : Nat → Int} {q : (Nat → Int) × (Nat → Int) × (Nat → Int) × Int} {W : jW} {t : jT} {w : Nat} {wm : Nat → Nat}
/-! holding -/
theorem iv_holding (I : pIv (r, q) t w wm) (e : W.1 126 = r) (h : 0 ≤ r 7 ∧ r 7 < 40) : pIv ((vu (vu (vu (vu W 126 7 (r 7 + 1)) 126 (49920 + 2 * r 16).toNat 3) 126 (49920 + 2 * r 16 + 1).toNat (r 7 + 1 - 1)) 126 16 (r 16 + 1)).1 126, q) t w wm := by
  obtain ⟨V, Ew, Ir, In, Bd⟩ := I
  obtain ⟨j0, f0, h0, s0, tx0, t0, e0, p0, _, _, _, b0⟩ := pEv_i.mp V
  have bs2 : 0 ≤ r 9 ∧ r 9 ≤ r 7 := s0.2.1
  have bf : 0 ≤ r 5 ∧ r 5 ≤ 100 := f0.1
  have bx : 0 ≤ r 4 ∧ r 4 ≤ 30 := ⟨tx0.1.1, tx0.1.2.1⟩
  change 0 ≤ r 0 ∧ r 0 ≤ 200 at b0
  change pBnd r at Bd
  have B1 := Bd
  unfold pBnd at B1
  have w6 : 0 ≤ r 6 ∧ r 6 ≤ 40 := Ew.2.2.2.1
  have w11 : 0 ≤ r 11 ∧ r 11 ≤ 40 := Ew.2.2.2.2.1
  have R : ∀ j : Nat, ¬ (j = 7 ∨ j = 16 ∨ 49920 ≤ j) → (vu (vu (vu (vu W 126 7 (r 7 + 1)) 126 (49920 + 2 * r 16).toNat 3) 126 (49920 + 2 * r 16 + 1).toNat (r 7 + 1 - 1)) 126 16 (r 16 + 1)).1 126 j = r j := by
    intro j hj
    repeat rw [vu_n (by omega)]
    rw [e]
  have T0 : (vu (vu (vu (vu W 126 7 (r 7 + 1)) 126 (49920 + 2 * r 16).toNat 3) 126 (49920 + 2 * r 16 + 1).toNat (r 7 + 1 - 1)) 126 16 (r 16 + 1)).1 126 (49920 + 2 * (r 16).toNat) = 3 := by
    repeat rw [vu_n (by omega)]
    exact vu_e (by omega)
  have T1 : (vu (vu (vu (vu W 126 7 (r 7 + 1)) 126 (49920 + 2 * r 16).toNat 3) 126 (49920 + 2 * r 16 + 1).toNat (r 7 + 1 - 1)) 126 16 (r 16 + 1)).1 126 16 = r 16 + 1 := by
    exact vu_e rfl
  have T2 : ∀ j : Nat, 49920 ≤ j → j < 49920 + 2 * (r 16).toNat → (vu (vu (vu (vu W 126 7 (r 7 + 1)) 126 (49920 + 2 * r 16).toNat 3) 126 (49920 + 2 * r 16 + 1).toNat (r 7 + 1 - 1)) 126 16 (r 16 + 1)).1 126 j = r j := by
    intro j hj j2
    repeat rw [vu_n (by omega)]
    rw [e]
  have C7 : (vu (vu (vu (vu W 126 7 (r 7 + 1)) 126 (49920 + 2 * r 16).toNat 3) 126 (49920 + 2 * r 16 + 1).toNat (r 7 + 1 - 1)) 126 16 (r 16 + 1)).1 126 7 = r 7 + 1 := by
    repeat rw [vu_n (by omega)]
    exact vu_e rfl
  generalize (vu (vu (vu (vu W 126 7 (r 7 + 1)) 126 (49920 + 2 * r 16).toNat 3) 126 (49920 + 2 * r 16 + 1).toNat (r 7 + 1 - 1)) 126 16 (r 16 + 1)).1 126 = s at *
  have k1 := R 1 (by omega)
  have k13 := R 13 (by omega)
  have k14 := R 14 (by omega)
  have k15 := R 15 (by omega)
  have k0 := R 0 (by omega)
  have k4 := R 4 (by omega)
  have k5 := R 5 (by omega)
  refine ⟨ev_c V (R 0 (by omega)) (fun j j1 j2 => R j (by omega)) (tr_j (R 2 (by omega)) (by rw [R 0 (by omega)]; omega) (fun j j1 j2 => R j (by omega)) j0) (tr_f (R 5 (by omega)) (by rw [R 0 (by omega)]; omega) (fun j j1 j2 => R j (by omega)) f0) (sa_h (R 8 (by omega)) (R 10 (by omega)) (by rw [R 0 (by omega)]; omega) (by rw [C7]; omega) (R 9 (by omega)) (by omega) (fun j j1 j2 => R j (by omega)) h0) (tr_s (by rw [C7]; omega) (R 9 (by omega)) (fun j j1 j2 => R j (by omega)) s0) (tr_x (R 4 (by omega)) (fun j j1 j2 => R j (by omega)) tx0) (gr_t (n := (r 16).toNat) (by omega) (by rw [R 0 (by omega)]; omega) T1 (by omega) T2 (by rw [T0]; decide) t0) (tr_e ⟨R 13 (by omega), by omega⟩ ⟨R 14 (by omega), by omega⟩ (fun j j1 j2 => R j (by omega)) e0) (tr_p ⟨R 15 (by omega), by omega⟩ (fun j j1 j2 => R j (by omega)) p0), (tr_w (R 0 (by omega)) (by omega) (R 3 (by omega)) (R 6 (by omega)) (R 11 (by omega)) (R 12 (by omega)) (fun j j1 j2 => R j (by omega)) (fun j j1 j2 => R j (by omega)) (fun j j1 j2 => R j (by omega)) Ew), (tr_r (R 0 (by omega)) (by omega) (fun j j1 j2 => R j (by omega)) Ir), (tr_n (R 0 (by omega)) (by omega) (fun j j1 j2 => R j (by omega)) In), ?_⟩
  show pBnd s
  unfold pBnd
  omega
/-! split -/
theorem iv_split {u1 u2 u3 u4 u5 : Int} (I : pIv (r, q) t w wm) (e : W.1 126 = r) (h : 0 ≤ r 7 ∧ r 7 < 40) (x1 : 0 ≤ u1 ∧ u1 < r 7) (x2 : 1 ≤ u2 ∧ u2 < u3 ∧ u3 ≤ 100) : pIv ((vu (vu (vu (vu (vu (vu (vu (vu (vu (vu (vu (W) 126 (47660 + 6 * r 9).toNat (r 7)) 126 (47660 + 6 * r 9 + 1).toNat u1) 126 (47660 + 6 * r 9 + 2).toNat u2) 126 (47660 + 6 * r 9 + 3).toNat u3) 126 (47660 + 6 * r 9 + 4).toNat u4) 126 (47660 + 6 * r 9 + 5).toNat u5) 126 9 (r 9 + 1)) 126 7 (r 7 + 1)) 126 (49920 + 2 * r 16).toNat 3) 126 (49920 + 2 * r 16 + 1).toNat (r 7 + 1 - 1)) 126 16 (r 16 + 1)).1 126, q) t w wm := by
  obtain ⟨V, Ew, Ir, In, Bd⟩ := I
  obtain ⟨j0, f0, h0, s0, tx0, t0, e0, p0, _, _, _, b0⟩ := pEv_i.mp V
  have bs2 : 0 ≤ r 9 ∧ r 9 ≤ r 7 := s0.2.1
  have bf : 0 ≤ r 5 ∧ r 5 ≤ 100 := f0.1
  have bx : 0 ≤ r 4 ∧ r 4 ≤ 30 := ⟨tx0.1.1, tx0.1.2.1⟩
  change 0 ≤ r 0 ∧ r 0 ≤ 200 at b0
  change pBnd r at Bd
  have B1 := Bd
  unfold pBnd at B1
  have w6 : 0 ≤ r 6 ∧ r 6 ≤ 40 := Ew.2.2.2.1
  have w11 : 0 ≤ r 11 ∧ r 11 ≤ 40 := Ew.2.2.2.2.1
  have R : ∀ j : Nat, ¬ (j = 7 ∨ j = 9 ∨ (47660 ≤ j ∧ j < 47900) ∨ j = 16 ∨ 49920 ≤ j) → (vu (vu (vu (vu (vu (vu (vu (vu (vu (vu (vu (W) 126 (47660 + 6 * r 9).toNat (r 7)) 126 (47660 + 6 * r 9 + 1).toNat u1) 126 (47660 + 6 * r 9 + 2).toNat u2) 126 (47660 + 6 * r 9 + 3).toNat u3) 126 (47660 + 6 * r 9 + 4).toNat u4) 126 (47660 + 6 * r 9 + 5).toNat u5) 126 9 (r 9 + 1)) 126 7 (r 7 + 1)) 126 (49920 + 2 * r 16).toNat 3) 126 (49920 + 2 * r 16 + 1).toNat (r 7 + 1 - 1)) 126 16 (r 16 + 1)).1 126 j = r j := by
    intro j hj
    repeat rw [vu_n (by omega)]
    rw [e]
  have T0 : (vu (vu (vu (vu (vu (vu (vu (vu (vu (vu (vu (W) 126 (47660 + 6 * r 9).toNat (r 7)) 126 (47660 + 6 * r 9 + 1).toNat u1) 126 (47660 + 6 * r 9 + 2).toNat u2) 126 (47660 + 6 * r 9 + 3).toNat u3) 126 (47660 + 6 * r 9 + 4).toNat u4) 126 (47660 + 6 * r 9 + 5).toNat u5) 126 9 (r 9 + 1)) 126 7 (r 7 + 1)) 126 (49920 + 2 * r 16).toNat 3) 126 (49920 + 2 * r 16 + 1).toNat (r 7 + 1 - 1)) 126 16 (r 16 + 1)).1 126 (49920 + 2 * (r 16).toNat) = 3 := by
    repeat rw [vu_n (by omega)]
    exact vu_e (by omega)
  have T1 : (vu (vu (vu (vu (vu (vu (vu (vu (vu (vu (vu (W) 126 (47660 + 6 * r 9).toNat (r 7)) 126 (47660 + 6 * r 9 + 1).toNat u1) 126 (47660 + 6 * r 9 + 2).toNat u2) 126 (47660 + 6 * r 9 + 3).toNat u3) 126 (47660 + 6 * r 9 + 4).toNat u4) 126 (47660 + 6 * r 9 + 5).toNat u5) 126 9 (r 9 + 1)) 126 7 (r 7 + 1)) 126 (49920 + 2 * r 16).toNat 3) 126 (49920 + 2 * r 16 + 1).toNat (r 7 + 1 - 1)) 126 16 (r 16 + 1)).1 126 16 = r 16 + 1 := by
    exact vu_e rfl
  have T2 : ∀ j : Nat, 49920 ≤ j → j < 49920 + 2 * (r 16).toNat → (vu (vu (vu (vu (vu (vu (vu (vu (vu (vu (vu (W) 126 (47660 + 6 * r 9).toNat (r 7)) 126 (47660 + 6 * r 9 + 1).toNat u1) 126 (47660 + 6 * r 9 + 2).toNat u2) 126 (47660 + 6 * r 9 + 3).toNat u3) 126 (47660 + 6 * r 9 + 4).toNat u4) 126 (47660 + 6 * r 9 + 5).toNat u5) 126 9 (r 9 + 1)) 126 7 (r 7 + 1)) 126 (49920 + 2 * r 16).toNat 3) 126 (49920 + 2 * r 16 + 1).toNat (r 7 + 1 - 1)) 126 16 (r 16 + 1)).1 126 j = r j := by
    intro j hj j2
    repeat rw [vu_n (by omega)]
    rw [e]
  have C7 : (vu (vu (vu (vu (vu (vu (vu (vu (vu (vu (vu (W) 126 (47660 + 6 * r 9).toNat (r 7)) 126 (47660 + 6 * r 9 + 1).toNat u1) 126 (47660 + 6 * r 9 + 2).toNat u2) 126 (47660 + 6 * r 9 + 3).toNat u3) 126 (47660 + 6 * r 9 + 4).toNat u4) 126 (47660 + 6 * r 9 + 5).toNat u5) 126 9 (r 9 + 1)) 126 7 (r 7 + 1)) 126 (49920 + 2 * r 16).toNat 3) 126 (49920 + 2 * r 16 + 1).toNat (r 7 + 1 - 1)) 126 16 (r 16 + 1)).1 126 7 = r 7 + 1 := by
    repeat rw [vu_n (by omega)]
    exact vu_e rfl
  have C9 : (vu (vu (vu (vu (vu (vu (vu (vu (vu (vu (vu (W) 126 (47660 + 6 * r 9).toNat (r 7)) 126 (47660 + 6 * r 9 + 1).toNat u1) 126 (47660 + 6 * r 9 + 2).toNat u2) 126 (47660 + 6 * r 9 + 3).toNat u3) 126 (47660 + 6 * r 9 + 4).toNat u4) 126 (47660 + 6 * r 9 + 5).toNat u5) 126 9 (r 9 + 1)) 126 7 (r 7 + 1)) 126 (49920 + 2 * r 16).toNat 3) 126 (49920 + 2 * r 16 + 1).toNat (r 7 + 1 - 1)) 126 16 (r 16 + 1)).1 126 9 = r 9 + 1 := by
    repeat rw [vu_n (by omega)]
    exact vu_e rfl
  have O : ∀ j : Nat, 47660 ≤ j → j < 47660 + 6 * (r 9).toNat → (vu (vu (vu (vu (vu (vu (vu (vu (vu (vu (vu (W) 126 (47660 + 6 * r 9).toNat (r 7)) 126 (47660 + 6 * r 9 + 1).toNat u1) 126 (47660 + 6 * r 9 + 2).toNat u2) 126 (47660 + 6 * r 9 + 3).toNat u3) 126 (47660 + 6 * r 9 + 4).toNat u4) 126 (47660 + 6 * r 9 + 5).toNat u5) 126 9 (r 9 + 1)) 126 7 (r 7 + 1)) 126 (49920 + 2 * r 16).toNat 3) 126 (49920 + 2 * r 16 + 1).toNat (r 7 + 1 - 1)) 126 16 (r 16 + 1)).1 126 j = r j := by
    intro j hj j2
    repeat rw [vu_n (by omega)]
    rw [e]
  have N0 : (vu (vu (vu (vu (vu (vu (vu (vu (vu (vu (vu (W) 126 (47660 + 6 * r 9).toNat (r 7)) 126 (47660 + 6 * r 9 + 1).toNat u1) 126 (47660 + 6 * r 9 + 2).toNat u2) 126 (47660 + 6 * r 9 + 3).toNat u3) 126 (47660 + 6 * r 9 + 4).toNat u4) 126 (47660 + 6 * r 9 + 5).toNat u5) 126 9 (r 9 + 1)) 126 7 (r 7 + 1)) 126 (49920 + 2 * r 16).toNat 3) 126 (49920 + 2 * r 16 + 1).toNat (r 7 + 1 - 1)) 126 16 (r 16 + 1)).1 126 (47660 + 6 * (r 9).toNat) = r 7 := by
    repeat rw [vu_n (by omega)]
    exact vu_e (by omega)
  have N1 : (vu (vu (vu (vu (vu (vu (vu (vu (vu (vu (vu (W) 126 (47660 + 6 * r 9).toNat (r 7)) 126 (47660 + 6 * r 9 + 1).toNat u1) 126 (47660 + 6 * r 9 + 2).toNat u2) 126 (47660 + 6 * r 9 + 3).toNat u3) 126 (47660 + 6 * r 9 + 4).toNat u4) 126 (47660 + 6 * r 9 + 5).toNat u5) 126 9 (r 9 + 1)) 126 7 (r 7 + 1)) 126 (49920 + 2 * r 16).toNat 3) 126 (49920 + 2 * r 16 + 1).toNat (r 7 + 1 - 1)) 126 16 (r 16 + 1)).1 126 (47661 + 6 * (r 9).toNat) = u1 := by
    repeat rw [vu_n (by omega)]
    exact vu_e (by omega)
  have N2 : (vu (vu (vu (vu (vu (vu (vu (vu (vu (vu (vu (W) 126 (47660 + 6 * r 9).toNat (r 7)) 126 (47660 + 6 * r 9 + 1).toNat u1) 126 (47660 + 6 * r 9 + 2).toNat u2) 126 (47660 + 6 * r 9 + 3).toNat u3) 126 (47660 + 6 * r 9 + 4).toNat u4) 126 (47660 + 6 * r 9 + 5).toNat u5) 126 9 (r 9 + 1)) 126 7 (r 7 + 1)) 126 (49920 + 2 * r 16).toNat 3) 126 (49920 + 2 * r 16 + 1).toNat (r 7 + 1 - 1)) 126 16 (r 16 + 1)).1 126 (47662 + 6 * (r 9).toNat) = u2 := by
    repeat rw [vu_n (by omega)]
    exact vu_e (by omega)
  have N3 : (vu (vu (vu (vu (vu (vu (vu (vu (vu (vu (vu (W) 126 (47660 + 6 * r 9).toNat (r 7)) 126 (47660 + 6 * r 9 + 1).toNat u1) 126 (47660 + 6 * r 9 + 2).toNat u2) 126 (47660 + 6 * r 9 + 3).toNat u3) 126 (47660 + 6 * r 9 + 4).toNat u4) 126 (47660 + 6 * r 9 + 5).toNat u5) 126 9 (r 9 + 1)) 126 7 (r 7 + 1)) 126 (49920 + 2 * r 16).toNat 3) 126 (49920 + 2 * r 16 + 1).toNat (r 7 + 1 - 1)) 126 16 (r 16 + 1)).1 126 (47663 + 6 * (r 9).toNat) = u3 := by
    repeat rw [vu_n (by omega)]
    exact vu_e (by omega)
  generalize (vu (vu (vu (vu (vu (vu (vu (vu (vu (vu (vu (W) 126 (47660 + 6 * r 9).toNat (r 7)) 126 (47660 + 6 * r 9 + 1).toNat u1) 126 (47660 + 6 * r 9 + 2).toNat u2) 126 (47660 + 6 * r 9 + 3).toNat u3) 126 (47660 + 6 * r 9 + 4).toNat u4) 126 (47660 + 6 * r 9 + 5).toNat u5) 126 9 (r 9 + 1)) 126 7 (r 7 + 1)) 126 (49920 + 2 * r 16).toNat 3) 126 (49920 + 2 * r 16 + 1).toNat (r 7 + 1 - 1)) 126 16 (r 16 + 1)).1 126 = s at *
  have k1 := R 1 (by omega)
  have k13 := R 13 (by omega)
  have k14 := R 14 (by omega)
  have k15 := R 15 (by omega)
  have k0 := R 0 (by omega)
  have k4 := R 4 (by omega)
  have k5 := R 5 (by omega)
  refine ⟨ev_c V (R 0 (by omega)) (fun j j1 j2 => R j (by omega)) (tr_j (R 2 (by omega)) (by rw [R 0 (by omega)]; omega) (fun j j1 j2 => R j (by omega)) j0) (tr_f (R 5 (by omega)) (by rw [R 0 (by omega)]; omega) (fun j j1 j2 => R j (by omega)) f0) (tr_h (R 8 (by omega)) (R 10 (by omega)) (by rw [R 0 (by omega)]; omega) (by rw [C7]; omega) (fun j hj => by by_cases z : (j : Int) < r 9; exact Or.inl ⟨z, O _ (by omega) (by omega)⟩; exact Or.inr (by rw [show j = (r 9).toNat from by omega, N0]; exact Int.le_refl _)) (fun j j1 j2 => R j (by omega)) (fun j j1 j2 => R j (by omega)) h0) (gr_s (n := (r 9).toNat) (by omega) h.2 C7 C9 O N0 (by rw [N1]; exact x1) (by rw [N2, N3]; exact x2) s0) (tr_x (R 4 (by omega)) (fun j j1 j2 => R j (by omega)) tx0) (gr_t (n := (r 16).toNat) (by omega) (by rw [R 0 (by omega)]; omega) T1 (by omega) T2 (by rw [T0]; decide) t0) (tr_e ⟨R 13 (by omega), by omega⟩ ⟨R 14 (by omega), by omega⟩ (fun j j1 j2 => R j (by omega)) e0) (tr_p ⟨R 15 (by omega), by omega⟩ (fun j j1 j2 => R j (by omega)) p0), (tr_w (R 0 (by omega)) (by omega) (R 3 (by omega)) (R 6 (by omega)) (R 11 (by omega)) (R 12 (by omega)) (fun j j1 j2 => R j (by omega)) (fun j j1 j2 => R j (by omega)) (fun j j1 j2 => R j (by omega)) Ew), (tr_r (R 0 (by omega)) (by omega) (fun j j1 j2 => R j (by omega)) Ir), (tr_n (R 0 (by omega)) (by omega) (fun j j1 j2 => R j (by omega)) In), ?_⟩
  show pBnd s
  unfold pBnd
  omega
end
end jG125

section jG126
/-! pure: what an accepted value() and close() have asked -/
theorem lc_g {r : Nat → Int} {o : Int} (hy : ∀ i : Nat, (i : Int) < r 14 → 0 ≤ r (49361 + 4 * i)) (I : pIe r) : ∀ n : Nat, (n : Int) ≤ r 14 → ∀ i : Nat, i < n → r (49360 + 4 * i) = o → 0 ≤ pLc r o n ∧ r (49361 + 4 * i) ≤ pLc r o n := by
  intro n
  induction n with
  | zero => intro _ i hi; exact absurd hi (Nat.not_lt_zero i)
  | succ n ih =>
    intro hn i hi e
    rw [show pLc r o (n + 1) = if r (49360 + 4 * n) = o then r (49361 + 4 * n) else pLc r o n from rfl]
    by_cases c : r (49360 + 4 * n) = o
    · rw [if_pos c]
      refine ⟨hy n (by omega), ?_⟩
      by_cases z : i = n
      · rw [z]; exact Int.le_refl _
      · have := I.2 i n (by omega) (by omega) (e.trans c.symm)
        omega
    · rw [if_neg c]
      have z : i ≠ n := fun q => c (by rw [← q]; exact e)
      exact ih (by omega) i (by omega) e
/-- the YEAR that a book is closed at lies behind all its others -/
theorem lc_x2 {r : Nat → Int} {a b : Int} (hy : ∀ i : Nat, (i : Int) < r 14 → 0 ≤ r (49361 + 4 * i)) (h14 : 0 ≤ r 14) (I : pIe r) (g : pLc r a (r 14).toNat = -1 ∨ b = pLc r a (r 14).toNat + 1) : ∀ i : Nat, (i : Int) < r 14 → r (49360 + 4 * i) = a → r (49361 + 4 * i) < b := by
  intro i hi e
  have y := lc_g hy I (r 14).toNat (by omega) i (by omega) e
  omega
theorem v_ns {X M : jW} {a1 a2 a3 a4 : Int} (D : pD X 32 (M.1 126)) (g1 : 0 ≤ a1 ∧ a1 < M.1 126 7) (h : 0 ≤ (d_X12_value_r125d a1 a2 a3 a4 M).1) : ∀ j : Nat, (j : Int) < M.1 126 9 → M.1 126 (47660 + 6 * j) ≠ a1 := by
  have e : (vu M 125 0 0).1 126 = M.1 126 := vu_c (by decide)
  have H := D.2.2.2
  have H2 : pHo X 32 ((vu M 125 0 0).1 126) := by rw [e]; exact H
  rcases H.2.2.2.2 a1.toNat (by omega) with ⟨p, q⟩ | ⟨k, k1, k2⟩
  · intro j hj z
    exact q j hj (by omega)
  · exfalso
    have s := sp_no H2 (h := a1) g1.1 (by rw [e]; exact g1.2)
    have ne : d_X12_splitOf_r125d a1 (vu M 125 0 0) ≠ -1 := by
      rcases s with ⟨p, _⟩ | ⟨m, _, _, m3⟩
      · exfalso
        unfold pHs at k2
        obtain ⟨k21, k22, k23, k24, k25, k26, k27, k28, k29, k30⟩ := k2
        change M.1 126 (47661 + 6 * k) = X.1 50 (5 * a1.toNat + 2) at k22
        omega
      · rw [m3]; omega
    unfold d_X12_value_r125d d_X12_value_r125d_32 at h
    by_cases c1 : 0 ≤ a2 ∧ a2 ≤ 10000
    · rw [if_pos c1] at h
      by_cases c2 : 0 ≤ a3 ∧ a3 ≤ 146399
      · rw [if_pos c2] at h
        by_cases c3 : 0 ≤ a4 ∧ a4 ≤ 146399
        · rw [if_pos c3, if_pos (by omega), if_neg ne, told_n (by decide)] at h
          exact absurd (show (0 : Int) ≤ -3 from h) (by decide)
        · rw [if_neg c3, told_n (by decide)] at h
          exact absurd (show (0 : Int) ≤ -1 from h) (by decide)
      · rw [if_neg c2, told_n (by decide)] at h
        exact absurd (show (0 : Int) ≤ -1 from h) (by decide)
    · rw [if_neg c1, told_n (by decide)] at h
      exact absurd (show (0 : Int) ≤ -1 from h) (by decide)
end jG126

section jG127
/-! pure: fact, the chests stay alike -/
theorem dd_fact {X M : jW} {E : pE} {a k o d1 d2 kn : Int} (D : pD X 32 E.1) (e : M.1 126 = E.1) (h : 0 ≤ E.1 5 ∧ E.1 5 < 100) (h16 : 0 ≤ E.1 16 ∧ E.1 16 < 370) : pD (d_X8_add_r43d kn d1 d2 a k o (d_X8_add_r63d 2 (X.1 43 3) 0 0 0 0 X)) 32 ((mFa M E a k o d1 d2 kn).1 126) := by
  have e0 : (vu M 125 0 0).1 126 = E.1 := (vu_c (by decide)).trans e
  have e43 : X.1 43 3 = E.1 5 := (D.1 pt_5 (by decide)).1
  rw [show X.1 43 3 = E.1 5 + 1 - 1 from by omega]
  have A := da_15 (X := X) (V := vu M 125 0 0) (n := E.1 16) (u0 := 2) (u1 := E.1 5 + 1 - 1) (by rw [e0]) (by rw [e0]; exact D) h16.2
  have B := da_5 (V := vu (vu (vu (vu M 125 0 0) 126 (49920 + 2 * E.1 16).toNat 2) 126 (49920 + 2 * E.1 16 + 1).toNat (E.1 5 + 1 - 1)) 126 16 (E.1 16 + 1)) (n := E.1 5) (u0 := a) (u1 := k) (u2 := o) (u3 := d1) (u4 := d2) (u5 := kn) (by
    rw [vu_n (by omega), vu_n (by omega), vu_n (by omega), e0]) A h.2
  have r : (vu (vu (vu (vu (vu (vu (vu (vu (vu (vu (vu M 125 0 0) 126 (49920 + 2 * E.1 16).toNat 2) 126 (49920 + 2 * E.1 16 + 1).toNat (E.1 5 + 1 - 1)) 126 16 (E.1 16 + 1)) 126 (46540 + 6 * E.1 5).toNat a) 126 (46540 + 6 * E.1 5 + 1).toNat k) 126 (46540 + 6 * E.1 5 + 2).toNat o) 126 (46540 + 6 * E.1 5 + 3).toNat d1) 126 (46540 + 6 * E.1 5 + 4).toNat d2) 126 (46540 + 6 * E.1 5 + 5).toNat kn) 126 5 (E.1 5 + 1)).1 126 = (mFa M E a k o d1 d2 kn).1 126 := by
    funext j
    by_cases c : j = 5 ∨ (46540 ≤ j ∧ j < 47140)
    · have b : (vu (vu (vu (vu M 125 0 0) 126 (49920 + 2 * E.1 16).toNat 2) 126 (49920 + 2 * E.1 16 + 1).toNat (E.1 5 + 1 - 1)) 126 16 (E.1 16 + 1)).1 126 j = (vu M 125 0 0).1 126 j := by
        rw [vu_n (by omega), vu_n (by omega), vu_n (by omega)]
      have l : (vu (vu (vu (vu (vu (vu (vu (vu (vu (vu (vu M 125 0 0) 126 (49920 + 2 * E.1 16).toNat 2) 126 (49920 + 2 * E.1 16 + 1).toNat (E.1 5 + 1 - 1)) 126 16 (E.1 16 + 1)) 126 (46540 + 6 * E.1 5).toNat a) 126 (46540 + 6 * E.1 5 + 1).toNat k) 126 (46540 + 6 * E.1 5 + 2).toNat o) 126 (46540 + 6 * E.1 5 + 3).toNat d1) 126 (46540 + 6 * E.1 5 + 4).toNat d2) 126 (46540 + 6 * E.1 5 + 5).toNat kn) 126 5 (E.1 5 + 1)).1 126 j = (vu (vu (vu (vu (vu (vu (vu (vu M 125 0 0) 126 (46540 + 6 * E.1 5).toNat a) 126 (46540 + 6 * E.1 5 + 1).toNat k) 126 (46540 + 6 * E.1 5 + 2).toNat o) 126 (46540 + 6 * E.1 5 + 3).toNat d1) 126 (46540 + 6 * E.1 5 + 4).toNat d2) 126 (46540 + 6 * E.1 5 + 5).toNat kn) 126 5 (E.1 5 + 1)).1 126 j := vu_k (vu_k (vu_k (vu_k (vu_k (vu_k (vu_k b))))))
      refine l.trans ?_
      unfold mFa
      rw [vu_n (by omega) (W := vu (vu (vu (vu (vu (vu (vu (vu (vu (vu M 125 0 0) 126 (46540 + 6 * E.1 5).toNat a) 126 (46540 + 6 * E.1 5 + 1).toNat k) 126 (46540 + 6 * E.1 5 + 2).toNat o) 126 (46540 + 6 * E.1 5 + 3).toNat d1) 126 (46540 + 6 * E.1 5 + 4).toNat d2) 126 (46540 + 6 * E.1 5 + 5).toNat kn) 126 5 (E.1 5 + 1)) 126 (49920 + 2 * E.1 16).toNat 2) 126 (49920 + 2 * E.1 16 + 1).toNat (E.1 5 + 1 - 1)), vu_n (by omega) (W := vu (vu (vu (vu (vu (vu (vu (vu (vu M 125 0 0) 126 (46540 + 6 * E.1 5).toNat a) 126 (46540 + 6 * E.1 5 + 1).toNat k) 126 (46540 + 6 * E.1 5 + 2).toNat o) 126 (46540 + 6 * E.1 5 + 3).toNat d1) 126 (46540 + 6 * E.1 5 + 4).toNat d2) 126 (46540 + 6 * E.1 5 + 5).toNat kn) 126 5 (E.1 5 + 1)) 126 (49920 + 2 * E.1 16).toNat 2), vu_n (by omega) (W := vu (vu (vu (vu (vu (vu (vu (vu M 125 0 0) 126 (46540 + 6 * E.1 5).toNat a) 126 (46540 + 6 * E.1 5 + 1).toNat k) 126 (46540 + 6 * E.1 5 + 2).toNat o) 126 (46540 + 6 * E.1 5 + 3).toNat d1) 126 (46540 + 6 * E.1 5 + 4).toNat d2) 126 (46540 + 6 * E.1 5 + 5).toNat kn) 126 5 (E.1 5 + 1)) (k := (49920 + 2 * E.1 16).toNat)]
    · have b : (vu (vu (vu (vu (vu (vu (vu (vu M 125 0 0) 126 (46540 + 6 * E.1 5).toNat a) 126 (46540 + 6 * E.1 5 + 1).toNat k) 126 (46540 + 6 * E.1 5 + 2).toNat o) 126 (46540 + 6 * E.1 5 + 3).toNat d1) 126 (46540 + 6 * E.1 5 + 4).toNat d2) 126 (46540 + 6 * E.1 5 + 5).toNat kn) 126 5 (E.1 5 + 1)).1 126 j = (vu M 125 0 0).1 126 j := by
        rw [vu_n (by omega), vu_n (by omega), vu_n (by omega), vu_n (by omega), vu_n (by omega), vu_n (by omega), vu_n (by omega)]
      have l : (vu (vu (vu (vu (vu (vu (vu (vu (vu (vu (vu M 125 0 0) 126 (46540 + 6 * E.1 5).toNat a) 126 (46540 + 6 * E.1 5 + 1).toNat k) 126 (46540 + 6 * E.1 5 + 2).toNat o) 126 (46540 + 6 * E.1 5 + 3).toNat d1) 126 (46540 + 6 * E.1 5 + 4).toNat d2) 126 (46540 + 6 * E.1 5 + 5).toNat kn) 126 5 (E.1 5 + 1)) 126 (49920 + 2 * E.1 16).toNat 2) 126 (49920 + 2 * E.1 16 + 1).toNat (E.1 5 + 1 - 1)) 126 16 (E.1 16 + 1)).1 126 j = (vu (vu (vu (vu M 125 0 0) 126 (49920 + 2 * E.1 16).toNat 2) 126 (49920 + 2 * E.1 16 + 1).toNat (E.1 5 + 1 - 1)) 126 16 (E.1 16 + 1)).1 126 j := vu_k (vu_k (vu_k b))
      have m : (vu (vu (vu (vu (vu (vu (vu (vu (vu (vu (vu M 125 0 0) 126 (49920 + 2 * E.1 16).toNat 2) 126 (49920 + 2 * E.1 16 + 1).toNat (E.1 5 + 1 - 1)) 126 16 (E.1 16 + 1)) 126 (46540 + 6 * E.1 5).toNat a) 126 (46540 + 6 * E.1 5 + 1).toNat k) 126 (46540 + 6 * E.1 5 + 2).toNat o) 126 (46540 + 6 * E.1 5 + 3).toNat d1) 126 (46540 + 6 * E.1 5 + 4).toNat d2) 126 (46540 + 6 * E.1 5 + 5).toNat kn) 126 5 (E.1 5 + 1)).1 126 j = (vu (vu (vu (vu M 125 0 0) 126 (49920 + 2 * E.1 16).toNat 2) 126 (49920 + 2 * E.1 16 + 1).toNat (E.1 5 + 1 - 1)) 126 16 (E.1 16 + 1)).1 126 j := by
        rw [vu_n (by omega), vu_n (by omega), vu_n (by omega), vu_n (by omega), vu_n (by omega), vu_n (by omega), vu_n (by omega)]
      exact m.trans l.symm
  rw [← r]
  exact B
end jG127

section jG128
/-! pure: alter, the chests stay alike -/
theorem dd_alter {X M : jW} {E : pE} {a v : Int} (D : pD X 32 E.1) (e : M.1 126 = E.1) (ha : 0 ≤ a ∧ a < E.1 0) : pD (d_X7_learn_r78d a (vu X 34 (a * 6 + 4).toNat v)) 32 ((vu (vu M 125 0 0) 126 (20 + 90 * a + 4).toNat v).1 126) := by
  have R : ∀ j : Nat, j ≠ (20 + 90 * a + 4).toNat → (vu (vu M 125 0 0) 126 (20 + 90 * a + 4).toNat v).1 126 j = E.1 j := by
    intro j hj
    rw [vu_n (by omega), vu_n (by omega), e]
  have N : (vu (vu M 125 0 0) 126 (20 + 90 * a + 4).toNat v).1 126 (20 + 90 * a + 4).toNat = v := vu_e rfl
  have b0 := D.2.1.1
  refine pD_x (l := fw_X7_learn_r78d) (X := vu X 34 (a * 6 + 4).toNat v) (fr_d_X7_learn_r78d a _) rfl ?_
  generalize (vu (vu M 125 0 0) 126 (20 + 90 * a + 4).toNat v).1 126 = s at R N
  have Y : ∀ c j : Nat, ¬ (c = 34 ∧ j = (a * 6 + 4).toNat) → (vu X 34 (a * 6 + 4).toNat v).1 c j = X.1 c j := fun c j h => vu_n h
  have Yc : ∀ c : Nat, c ≠ 34 → (vu X 34 (a * 6 + 4).toNat v).1 c = X.1 c := fun c h => vu_c h
  have N1 : (vu X 34 (a * 6 + 4).toNat v).1 34 (a * 6 + 4).toNat = v := vu_e rfl
  generalize vu X 34 (a * 6 + 4).toNat v = Z at Y Yc N1
  refine ⟨fun t ht => ?_, ?_, pBo_e (by rw [Yc 39 (by decide)]) (Yc 40 (by decide)) (fun j hj => R j (by omega)) D.2.2.1, pHo_e (by rw [Yc 49 (by decide)]) (Yc 50 (by decide)) (fun j hj => R j (by omega)) D.2.2.2⟩
  · by_cases z : t = pt_0
    · rw [z]
      obtain ⟨t1, t2, t3⟩ := D.1 pt_0 (by decide)
      change X.1 33 3 = E.1 0 at t1
      refine ⟨by show Z.1 33 3 = s 0; rw [Yc 33 (by decide), t1, R 0 (by omega)], by show 0 ≤ s 0 ∧ s 0 ≤ 200; rw [R 0 (by omega)]; exact b0, fun i c hi hc => ?_⟩
      change (i : Int) < s 0 at hi
      rw [R 0 (by omega)] at hi
      have y := t3 i c hi hc
      change c < 6 at hc
      change X.1 34 (6 * i + c) = E.1 (20 + 90 * i + [3, 2, 0, 1, 4, 5].getD c 0) at y
      show Z.1 34 (6 * i + c) = s (20 + 90 * i + [3, 2, 0, 1, 4, 5].getD c 0)
      have g : c = 0 ∨ c = 1 ∨ c = 2 ∨ c = 3 ∨ c = 4 ∨ c = 5 := by omega
      rcases g with rfl | rfl | rfl | rfl | rfl | rfl
      · show Z.1 34 (6 * i + 0) = s (20 + 90 * i + 3)
        rw [Y 34 _ (by omega), R _ (by omega)]; exact y
      · show Z.1 34 (6 * i + 1) = s (20 + 90 * i + 2)
        rw [Y 34 _ (by omega), R _ (by omega)]; exact y
      · show Z.1 34 (6 * i + 2) = s (20 + 90 * i + 0)
        rw [Y 34 _ (by omega), R _ (by omega)]; exact y
      · show Z.1 34 (6 * i + 3) = s (20 + 90 * i + 1)
        rw [Y 34 _ (by omega), R _ (by omega)]; exact y
      · show Z.1 34 (6 * i + 4) = s (20 + 90 * i + 4)
        by_cases q : (i : Int) = a
        · rw [show 6 * i + 4 = (a * 6 + 4).toNat from by omega, N1, show 20 + 90 * i + 4 = (20 + 90 * a + 4).toNat from by omega, N]
        · rw [Y 34 _ (by omega), R _ (by omega)]; exact y
      · show Z.1 34 (6 * i + 5) = s (20 + 90 * i + 5)
        rw [Y 34 _ (by omega), R _ (by omega)]; exact y
    · have k1 : (pTs.all fun t => decide (t = pt_0) || (!(Nat.beq (32 + 1 + 2 * t.1) 34) && (!(Nat.beq (32 + 2 + 2 * t.1) 34) && (rok 60000 20 18020 t && pok t)))) = true := by decide
      have k2 := List.all_eq_true.1 k1 t ht
      simp only [Bool.or_eq_true, Bool.and_eq_true, decide_eq_true_eq] at k2
      rcases k2 with k2 | k2
      · exact absurd k2 z
      · have c1 : 32 + 1 + 2 * t.1 ≠ 34 := fun q => by rw [q] at k2; exact absurd k2.1 (by decide)
        have c2 : 32 + 2 + 2 * t.1 ≠ 34 := fun q => by rw [q] at k2; exact absurd k2.2.1 (by decide)
        refine pT_m (c := 60000) (lo := 20) (hi := 18020) (r := E.1) (fun j h1 h2 => R j (by omega)) k2.2.2.1 k2.2.2.2 ?_
        obtain ⟨t1, t2, t3⟩ := D.1 t ht
        exact ⟨by rw [Yc _ c1]; exact t1, t2, fun i c hi hc => by rw [Yc _ c2]; exact t3 i c hi hc⟩
  · obtain ⟨n0, n1, n2⟩ := D.2.1
    change X.1 35 3 = 6 * E.1 0 at n1
    refine ⟨by rw [R 0 (by omega)]; exact n0, by show Z.1 35 3 = 6 * s 0; rw [Yc 35 (by decide), R 0 (by omega)]; exact n1, fun l j hl hj => ?_⟩
    rw [R 0 (by omega)] at hl
    have y := n2 l j hl hj
    show Z.1 36 (84 * l + j) = s (26 + 90 * l + j)
    rw [Yc 36 (by decide), R _ (by omega)]
    exact y
end jG128

section jG129
/-! pure: keys of what is kept: each stays or becomes the version -/
def kyl : List (Nat × Nat) := [(86, 2), (101, 2), (105, 2), (111, 2), (114, 2), (119, 2), (87, 13)]
def nkc (a : Nat) : Bool := !(Nat.beq a 32) && kyl.all fun q => !(Nat.beq a q.1)
def nkk (a k : Nat) : Bool := !(Nat.beq a 32 && Nat.beq k 19) && kyl.all fun q => !(Nat.beq a q.1 && Nat.beq k q.2)
def nkF (l : List (Nat × Nat)) : Bool := !(pc l 32 19) && kyl.all fun q => !(pc l q.1 q.2)
def pQk (W V : jW) : Prop := V.1 32 19 = W.1 32 19 ∧ ∀ q : Nat × Nat, q ∈ kyl → V.1 q.1 q.2 = W.1 q.1 q.2 ∨ V.1 q.1 q.2 = W.1 32 19
theorem nb_n {a b : Nat} (h : (!(Nat.beq a b)) = true) : a ≠ b := by
  intro e
  rw [e, show Nat.beq b b = true from Nat.beq_refl b] at h
  exact absurd h (by decide)
theorem nb_n2 {a b k j : Nat} (h : (!(Nat.beq a b && Nat.beq k j)) = true) : ¬ (a = b ∧ k = j) := by
  intro e
  rw [e.1, e.2, show Nat.beq b b = true from Nat.beq_refl b, show Nat.beq j j = true from Nat.beq_refl j] at h
  exact absurd h (by decide)
theorem qk_r {W : jW} : pQk W W := ⟨rfl, fun _ _ => Or.inl rfl⟩
theorem qk_t {W V U : jW} (h : pQk W V) (g : pQk V U) : pQk W U := ⟨g.1.trans h.1, fun q hq => (g.2 q hq).elim (fun e => (h.2 q hq).elim (fun f => Or.inl (e.trans f)) (fun f => Or.inr (e.trans f))) (fun e => Or.inr (e.trans h.1))⟩
theorem qk_i {W A B : jW} {c : Prop} [Decidable c] (h : pQk W A) (g : pQk W B) : pQk W (if c then A else B) := by
  by_cases e : c
  · rw [if_pos e]; exact h
  · rw [if_neg e]; exact g
theorem qk_i2 {W : jW} {A B : Int × jW} {c : Prop} [Decidable c] (h : pQk W A.2) (g : pQk W B.2) : pQk W (if c then A else B).2 := by
  by_cases e : c
  · rw [if_pos e]; exact h
  · rw [if_neg e]; exact g
theorem qk_u {W V : jW} {a k : Nat} {x : Int} (h : pQk W V) (e : nkk a k = true) : pQk W (vu V a k x) := by
  unfold nkk at e
  rw [Bool.and_eq_true, List.all_eq_true] at e
  refine ⟨(vu_n (fun z => nb_n2 e.1 ⟨z.1.symm, z.2.symm⟩)).trans h.1, fun q hq => ?_⟩
  have z := nb_n2 (e.2 q hq)
  rw [vu_n (fun y => z ⟨y.1.symm, y.2.symm⟩)]
  exact h.2 q hq
theorem nkc_k {a : Nat} (e : nkc a = true) (k : Nat) : nkk a k = true := by
  unfold nkc at e
  unfold nkk
  rw [Bool.and_eq_true, List.all_eq_true] at e ⊢
  have f : ∀ b j : Nat, (!(Nat.beq a b)) = true → (!(Nat.beq a b && Nat.beq k j)) = true := fun b j h => by
    cases g : Nat.beq a b with
    | false => rfl
    | true => rw [g] at h; exact absurd h (by decide)
  exact ⟨f _ _ e.1, fun q hq => f _ _ (e.2 q hq)⟩
theorem qk_v {W V : jW} {a k : Nat} {x : Int} (h : pQk W V) (e : nkc a = true) : pQk W (vu V a k x) := qk_u h (nkc_k e k)
theorem qk_L {W V : jW} {a k : Nat} {x : Int} (h : pQk W V) : pQk W (vuL V a k x) := h
theorem qk_R {W V : jW} {a k : Nat} {x : Option Nat} (h : pQk W V) : pQk W (vuR V a k x) := h
theorem qk_C {W V : jW} {a b i j l : Nat} (h : pQk W V) (e : nkc b = true) : pQk W (vuC V a b i j l) := by
  unfold nkc at e
  rw [Bool.and_eq_true, List.all_eq_true] at e
  refine ⟨(vC_o (fun z => nb_n e.1 z.1.symm)).trans h.1, fun q hq => ?_⟩
  rw [vC_o (fun z => nb_n (e.2 q hq) z.1.symm)]
  exact h.2 q hq
theorem qk_kk {W V : jW} {a k : Nat} (h : pQk W V) (e : a ≠ 32) : pQk W (vu V a k (W.1 32 19)) := by
  refine ⟨(vu_n (fun z => e z.1.symm)).trans h.1, fun q hq => ?_⟩
  by_cases z : q.1 = a ∧ q.2 = k
  · right
    exact if_pos z
  · rw [vu_n z]
    exact h.2 q hq
theorem qk_k86 {W V : jW} (h : pQk W V) : pQk W (vu V 86 2 (W.1 32 19)) := qk_kk h (by decide)
theorem qk_k101 {W V : jW} (h : pQk W V) : pQk W (vu V 101 2 (W.1 32 19)) := qk_kk h (by decide)
theorem qk_k105 {W V : jW} (h : pQk W V) : pQk W (vu V 105 2 (W.1 32 19)) := qk_kk h (by decide)
theorem qk_k111 {W V : jW} (h : pQk W V) : pQk W (vu V 111 2 (W.1 32 19)) := qk_kk h (by decide)
theorem qk_k114 {W V : jW} (h : pQk W V) : pQk W (vu V 114 2 (W.1 32 19)) := qk_kk h (by decide)
theorem qk_k119 {W V : jW} (h : pQk W V) : pQk W (vu V 119 2 (W.1 32 19)) := qk_kk h (by decide)
theorem qk_k87 {W V : jW} (h : pQk W V) : pQk W (vu V 87 13 (W.1 32 19)) := qk_kk h (by decide)
theorem qk_F {l : List (Nat × Nat)} {W V : jW} (F : pF l W V) (e : nkF l = true) : pQk W V := by
  unfold nkF at e
  rw [Bool.and_eq_true, List.all_eq_true] at e
  have f : ∀ b : Bool, (!b) = true → b = false := fun b h => by
    cases b with
    | false => rfl
    | true => exact absurd h (by decide)
  exact ⟨F.1 32 19 (f _ e.1), fun q hq => Or.inl (F.1 q.1 q.2 (f _ (e.2 q hq)))⟩
end jG129
