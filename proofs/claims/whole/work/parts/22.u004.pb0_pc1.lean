section jG1
/-! pure: views -/
theorem vu_n {W : jW} {a k b j : Nat} {x : Int} (h : ¬ (b = a ∧ j = k)) : (vu W a k x).1 b j = W.1 b j := if_neg h
theorem vu_e {W : jW} {a k j : Nat} {x : Int} (h : j = k) : (vu W a k x).1 a j = x := if_pos ⟨rfl, h⟩
theorem vu_c {W : jW} {a k b : Nat} {x : Int} (h : b ≠ a) : (vu W a k x).1 b = W.1 b := funext fun _ => if_neg (fun z => h z.1)
theorem pF_c {l : List (Nat × Nat)} {W V : jW} (h : pF l W V) {c : Nat} (e : (l.any fun q => Nat.beq q.1 c) = false) : V.1 c = W.1 c := by
  funext k
  refine h.1 c k ?_
  cases g : pc l c k with
  | false => rfl
  | true =>
    unfold pc at g
    rw [List.any_eq_true] at g
    rcases g with ⟨q, q1, q2⟩
    rw [Bool.and_eq_true] at q2
    have : (l.any fun q => Nat.beq q.1 c) = true := List.any_eq_true.2 ⟨q, q1, q2.1⟩
    rw [this] at e
    exact absurd e (by decide)
theorem j_of {x : Int} (h : -2147483648 ≤ x ∧ x ≤ 2147483647) : (Int32.ofInt x).toInt = x := by
  rw [Int32.toInt_ofInt]
  show Int.bmod x 4294967296 = x
  exact Int.bmod_eq_of_le (by omega) (by omega)
theorem j_ia {x y : Int} (hx : -2147483648 ≤ x ∧ x ≤ 2147483647) (hy : -2147483648 ≤ y ∧ y ≤ 2147483647) (h : -2147483648 ≤ x + y ∧ x + y ≤ 2147483647) : j_iadd x y = x + y := by
  unfold j_iadd
  rw [Int32.toInt_add, j_of hx, j_of hy]
  exact Int.bmod_eq_of_le (by omega) (by omega)
/-! pure: tables (f, width, counter, begin, stride, most, columns) -/
abbrev pTup := Nat × Nat × Nat × Nat × Nat × Nat × List Nat
def pT (X : jW) (A : Nat) (t : pTup) (r : Nat → Int) : Prop := X.1 (A + 1 + 2 * t.1) 3 = r t.2.2.1 ∧ (0 ≤ r t.2.2.1 ∧ r t.2.2.1 ≤ (t.2.2.2.2.2.1 : Int)) ∧ ∀ i c : Nat, (i : Int) < r t.2.2.1 → c < t.2.1 → X.1 (A + 2 + 2 * t.1) (t.2.1 * i + c) = r (t.2.2.2.1 + t.2.2.2.2.1 * i + t.2.2.2.2.2.2.getD c 0)
def pt_0 : pTup := (0, 6, 0, 20, 90, 200, [3, 2, 0, 1, 4, 5])
def pt_2 : pTup := (2, 2, 1, 18020, 2, 60, [0, 1])
def pt_4 : pTup := (4, 4, 3, 18740, 4, 20, [3, 1, 2, 0])
def pt_5 : pTup := (5, 6, 5, 46540, 6, 100, [5, 3, 4, 0, 1, 2])
def pt_6 : pTup := (6, 3, 6, 47140, 3, 40, [2, 1, 0])
def pt_7 : pTup := (7, 4, 8, 47260, 4, 100, [3, 2, 0, 1])
def pt_9 : pTup := (9, 4, 10, 47900, 4, 100, [3, 2, 0, 1])
def pt_10 : pTup := (10, 4, 11, 48300, 4, 40, [3, 1, 0, 2])
def pt_11 : pTup := (11, 5, 12, 48460, 5, 100, [4, 3, 1, 0, 2])
def pt_12 : pTup := (12, 4, 13, 48960, 4, 100, [3, 1, 0, 2])
def pt_13 : pTup := (13, 4, 14, 49360, 4, 40, [3, 1, 0, 2])
def pt_14 : pTup := (14, 4, 15, 49520, 4, 100, [3, 1, 0, 2])
def pt_15 : pTup := (15, 2, 16, 49920, 2, 370, [0, 1])
def pTs : List pTup := [pt_0, pt_2, pt_4, pt_5, pt_6, pt_7, pt_9, pt_10, pt_11, pt_12, pt_13, pt_14, pt_15]
def pTl (X : jW) (A : Nat) (r : Nat → Int) : Prop := ∀ t ∈ pTs, pT X A t r
theorem pT_at {X : jW} {A : Nat} {t : pTup} {r : Nat → Int} (h : pT X A t r) {i : Int} (h0 : 0 ≤ i) (h1 : i < r t.2.2.1) {c : Nat} (hc : c < t.2.1) {k q : Nat} (hk : k = t.2.1 * i.toNat + c) (hq : q = t.2.2.2.1 + t.2.2.2.2.1 * i.toNat + t.2.2.2.2.2.2.getD c 0) : X.1 (A + 2 + 2 * t.1) k = r q := by
  subst hk hq
  exact h.2.2 i.toNat c (by omega) hc
theorem pT_add {X X' : jW} {A : Nat} {t : pTup} {r r' : Nat → Int} (v : Nat → Int) (h : pT X A t r) (hn : r t.2.2.1 < (t.2.2.2.2.2.1 : Int)) (x0 : X'.1 (A + 1 + 2 * t.1) 3 = r t.2.2.1 + 1) (x1 : ∀ k : Nat, (k : Int) < t.2.1 * r t.2.2.1 → X'.1 (A + 2 + 2 * t.1) k = X.1 (A + 2 + 2 * t.1) k) (x2 : ∀ c : Nat, c < t.2.1 → X'.1 (A + 2 + 2 * t.1) (t.2.1 * (r t.2.2.1).toNat + c) = v c) (r0 : r' t.2.2.1 = r t.2.2.1 + 1) (r1 : ∀ i c : Nat, (i : Int) < r t.2.2.1 → c < t.2.1 → r' (t.2.2.2.1 + t.2.2.2.2.1 * i + t.2.2.2.2.2.2.getD c 0) = r (t.2.2.2.1 + t.2.2.2.2.1 * i + t.2.2.2.2.2.2.getD c 0)) (r2 : ∀ c : Nat, c < t.2.1 → r' (t.2.2.2.1 + t.2.2.2.2.1 * (r t.2.2.1).toNat + t.2.2.2.2.2.2.getD c 0) = v c) : pT X' A t r' := by
  have b := h.2.1
  refine ⟨x0.trans r0.symm, by rw [r0]; omega, fun i c hi hc => ?_⟩
  rw [r0] at hi
  by_cases e : (i : Int) < r t.2.2.1
  · rw [r1 i c e hc, ← h.2.2 i c e hc]
    refine x1 _ ?_
    have n1 : (i : Int) + 1 ≤ r t.2.2.1 := by omega
    have n2 : ((t.2.1 : Nat) : Int) * ((i : Int) + 1) ≤ (t.2.1 : Int) * r t.2.2.1 := Int.mul_le_mul_of_nonneg_left n1 (by omega)
    rw [Int.mul_add, Int.mul_one] at n2
    rw [Int.natCast_add, Int.natCast_mul]
    omega
  · have g : i = (r t.2.2.1).toNat := by omega
    rw [g, x2 c hc, r2 c hc]
def tok (l : List (Nat × Nat)) (A : Nat) (t : pTup) : Bool := !pc l (A + 1 + 2 * t.1) 3 && !(l.any fun q => Nat.beq q.1 (A + 2 + 2 * t.1))
def rok (c lo hi : Nat) (t : pTup) : Bool := (!Nat.beq c t.2.2.1 && (Nat.blt t.2.2.1 lo || Nat.ble hi t.2.2.1)) && ((Nat.blt c t.2.2.2.1 || Nat.ble (t.2.2.2.1 + t.2.2.2.2.1 * t.2.2.2.2.2.1) c) && (Nat.ble hi t.2.2.2.1 || Nat.ble (t.2.2.2.1 + t.2.2.2.2.1 * t.2.2.2.2.2.1) lo))
def pok (t : pTup) : Bool := (List.range t.2.1).all fun c => Nat.blt (t.2.2.2.2.2.2.getD c 0) t.2.2.2.2.1
theorem pT_x {l : List (Nat × Nat)} {X X' : jW} {A : Nat} {t : pTup} {r : Nat → Int} (F : pF l X X') (ck : tok l A t = true) (h : pT X A t r) : pT X' A t r := by
  unfold tok at ck
  rw [Bool.and_eq_true, Bool.not_eq_true', Bool.not_eq_true'] at ck
  have e := pF_c F ck.2
  exact ⟨(F.1 _ _ ck.1).trans h.1, h.2.1, fun i c hi hc => by rw [e]; exact h.2.2 i c hi hc⟩
theorem pT_m {X : jW} {A : Nat} {t : pTup} {r r' : Nat → Int} {c lo hi : Nat} (Rw : ∀ j, j ≠ c → (j < lo ∨ hi ≤ j) → r' j = r j) (ck : rok c lo hi t = true) (pk : pok t = true) (h : pT X A t r) : pT X A t r' := by
  unfold rok at ck
  simp only [Bool.and_eq_true, Bool.or_eq_true, Bool.not_eq_true', Nat.blt_eq, Nat.ble_eq] at ck
  have e : r' t.2.2.1 = r t.2.2.1 := Rw _ (fun z => by have := ck.1.1; rw [z] at this; simp at this) ck.1.2
  refine ⟨h.1.trans e.symm, by rw [e]; exact h.2.1, fun i k hi hk => ?_⟩
  rw [e] at hi
  rw [h.2.2 i k hi hk]
  unfold pok at pk
  rw [List.all_eq_true] at pk
  have p1 := pk k (List.mem_range.2 hk)
  rw [Nat.blt_eq] at p1
  have b := h.2.1
  have n1 : i + 1 ≤ t.2.2.2.2.2.1 := by omega
  have n2 : t.2.2.2.2.1 * (i + 1) ≤ t.2.2.2.2.1 * t.2.2.2.2.2.1 := Nat.mul_le_mul_left _ n1
  rw [Nat.mul_add, Nat.mul_one] at n2
  refine (Rw _ ?_ ?_).symm
  · rcases ck.2.1 with a | a <;> omega
  · rcases ck.2.2 with a | a
    · right; omega
    · left; omega
theorem pTl_x {l : List (Nat × Nat)} {X X' : jW} {A : Nat} {r : Nat → Int} (F : pF l X X') (ck : (pTs.all fun t => tok l A t) = true) (h : pTl X A r) : pTl X' A r := fun t ht => pT_x F (List.all_eq_true.1 ck t ht) (h t ht)
theorem pTl_a {l : List (Nat × Nat)} {X X' : jW} {A : Nat} {r r' : Nat → Int} {c lo hi : Nat} (t0 : pTup) (F : pF l X X') (Rw : ∀ j, j ≠ c → (j < lo ∨ hi ≤ j) → r' j = r j) (H : pT X' A t0 r') (ck : (pTs.all fun t => decide (t = t0) || (tok l A t && (rok c lo hi t && pok t))) = true) (h : pTl X A r) : pTl X' A r' := by
  intro t ht
  have q := List.all_eq_true.1 ck t ht
  rw [Bool.or_eq_true, decide_eq_true_eq] at q
  rcases q with q | q
  · rw [q]; exact H
  · rw [Bool.and_eq_true, Bool.and_eq_true] at q
    exact pT_m Rw q.2.1 q.2.2 (pT_x F q.1 (h t ht))
/-! pure: names, bonds, holdings -/
def pNm (X : jW) (A : Nat) (r : Nat → Int) : Prop := (0 ≤ r 0 ∧ r 0 ≤ 200) ∧ X.1 (A + 3) 3 = 6 * r 0 ∧ ∀ l j : Nat, (l : Int) < r 0 → j < 84 → X.1 (A + 4) (84 * l + j) = r (26 + 90 * l + j)
def pBo (X : jW) (A : Nat) (r : Nat → Int) : Prop := (0 ≤ r 2 ∧ r 2 ≤ 200) ∧ X.1 (A + 7) 3 = r 2 ∧ ∀ i : Nat, (i : Int) < r 2 → X.1 (A + 8) (3 * i) = r (18142 + 3 * i) ∧ ((X.1 (A + 8) (3 * i + 1) = r (18140 + 3 * i) ∧ X.1 (A + 8) (3 * i + 2) = r (18141 + 3 * i)) ∨ (X.1 (A + 8) (3 * i + 1) = r (18141 + 3 * i) ∧ X.1 (A + 8) (3 * i + 2) = r (18140 + 3 * i)))
def pHs (X : jW) (A : Nat) (r : Nat → Int) (h k : Nat) : Prop := r (47660 + 6 * k) = (h : Int) ∧ r (47661 + 6 * k) = X.1 (A + 18) (5 * h + 2) ∧ r (47662 + 6 * k) = X.1 (A + 18) (5 * h + 3) ∧ r (47663 + 6 * k) = X.1 (A + 18) (5 * h + 4) ∧ r (47664 + 6 * k) = X.1 (A + 18) (5 * h + 1) ∧ r (47665 + 6 * k) = X.1 (A + 18) (5 * h) ∧ (0 ≤ r (47661 + 6 * k) ∧ r (47661 + 6 * k) < (h : Int)) ∧ 1 ≤ r (47662 + 6 * k) ∧ r (47662 + 6 * k) < r (47663 + 6 * k) ∧ r (47663 + 6 * k) ≤ 100
def pHo (X : jW) (A : Nat) (r : Nat → Int) : Prop := (0 ≤ r 7 ∧ r 7 ≤ 40 ∧ 0 ≤ r 9 ∧ r 9 ≤ r 7) ∧ X.1 (A + 17) 3 = r 7 ∧ (∀ k : Nat, (k : Int) < r 9 → 0 ≤ r (47660 + 6 * k) ∧ r (47660 + 6 * k) < r 7) ∧ (∀ k m : Nat, k < m → (m : Int) < r 9 → r (47660 + 6 * k) < r (47660 + 6 * m)) ∧ ∀ h : Nat, (h : Int) < r 7 → (X.1 (A + 18) (5 * h + 2) = -1 ∧ ∀ k : Nat, (k : Int) < r 9 → r (47660 + 6 * k) ≠ (h : Int)) ∨ ∃ k : Nat, (k : Int) < r 9 ∧ pHs X A r h k
theorem pNm_e {X X' : jW} {A : Nat} {r r' : Nat → Int} (x1 : X'.1 (A + 3) 3 = X.1 (A + 3) 3) (x2 : X'.1 (A + 4) = X.1 (A + 4)) (e : ∀ j, (j = 0 ∨ (20 ≤ j ∧ j < 18020)) → r' j = r j) (h : pNm X A r) : pNm X' A r' := by
  have b := h.1
  have e0 := e 0 (Or.inl rfl)
  refine ⟨by rw [e0]; exact b, by rw [x1, e0]; exact h.2.1, fun l j hl hj => ?_⟩
  rw [e0] at hl
  rw [x2, e _ (Or.inr (by omega))]
  exact h.2.2 l j hl hj
theorem pBo_e {X X' : jW} {A : Nat} {r r' : Nat → Int} (x1 : X'.1 (A + 7) 3 = X.1 (A + 7) 3) (x2 : X'.1 (A + 8) = X.1 (A + 8)) (e : ∀ j, (j = 2 ∨ (18140 ≤ j ∧ j < 18740)) → r' j = r j) (h : pBo X A r) : pBo X' A r' := by
  have b := h.1
  have e0 := e 2 (Or.inl rfl)
  refine ⟨by rw [e0]; exact b, by rw [x1, e0]; exact h.2.1, fun i hi => ?_⟩
  rw [e0] at hi
  rw [x2, e (18142 + 3 * i) (Or.inr (by omega)), e (18140 + 3 * i) (Or.inr (by omega)), e (18141 + 3 * i) (Or.inr (by omega))]
  exact h.2.2 i hi
theorem pHo_e {X X' : jW} {A : Nat} {r r' : Nat → Int} (x1 : X'.1 (A + 17) 3 = X.1 (A + 17) 3) (x2 : X'.1 (A + 18) = X.1 (A + 18)) (e : ∀ j, (j = 7 ∨ j = 9 ∨ (47660 ≤ j ∧ j < 47900)) → r' j = r j) (h : pHo X A r) : pHo X' A r' := by
  have b := h.1
  have e0 := e 7 (Or.inl rfl)
  have e9 := e 9 (Or.inr (Or.inl rfl))
  have ee : ∀ k q : Nat, (k : Int) < r 9 → q < 6 → r' (47660 + q + 6 * k) = r (47660 + q + 6 * k) := fun k q hk hq => e _ (Or.inr (Or.inr (by omega)))
  refine ⟨by rw [e0, e9]; exact b, by rw [x1, e0]; exact h.2.1, fun k hk => ?_, fun k m hk hm => ?_, fun i hi => ?_⟩
  · rw [e9] at hk
    have z := ee k 0 hk (by omega)
    rw [show 47660 + 0 + 6 * k = 47660 + 6 * k from by omega] at z
    rw [z, e0]
    exact h.2.2.1 k hk
  · rw [e9] at hm
    have z := ee k 0 (by omega) (by omega)
    have y := ee m 0 hm (by omega)
    rw [show 47660 + 0 + 6 * k = 47660 + 6 * k from by omega] at z
    rw [show 47660 + 0 + 6 * m = 47660 + 6 * m from by omega] at y
    rw [z, y]
    exact h.2.2.2.1 k m hk hm
  · rw [e0] at hi
    rcases h.2.2.2.2 i hi with ⟨p, q⟩ | ⟨k, hk, p⟩
    · refine Or.inl ⟨by rw [x2]; exact p, fun k hk => ?_⟩
      rw [e9] at hk
      have z := ee k 0 hk (by omega)
      rw [show 47660 + 0 + 6 * k = 47660 + 6 * k from by omega] at z
      rw [z]
      exact q k hk
    · refine Or.inr ⟨k, by rw [e9]; exact hk, ?_⟩
      have z0 := ee k 0 hk (by omega)
      rw [show 47660 + 0 + 6 * k = 47660 + 6 * k from by omega] at z0
      have z1 := ee k 1 hk (by omega)
      have z2 := ee k 2 hk (by omega)
      have z3 := ee k 3 hk (by omega)
      have z4 := ee k 4 hk (by omega)
      have z5 := ee k 5 hk (by omega)
      unfold pHs
      rw [z0, z1, z2, z3, z4, z5, x2]
      exact p
def pD (X : jW) (A : Nat) (r : Nat → Int) : Prop := pTl X A r ∧ pNm X A r ∧ pBo X A r ∧ pHo X A r
def cok (l : List (Nat × Nat)) (A f : Nat) : Bool := !pc l (A + 1 + 2 * f) 3 && !(l.any fun q => Nat.beq q.1 (A + 2 + 2 * f))
def gok (c lo hi a b : Nat) : Bool := (Nat.blt c a || Nat.ble b c) && (Nat.ble hi a || Nat.ble b lo)
def dok (l : List (Nat × Nat)) (A c lo hi : Nat) : Bool := (cok l A 1 && (cok l A 3 && cok l A 8)) && ((gok c lo hi 0 1 && gok c lo hi 20 18020) && ((gok c lo hi 2 3 && gok c lo hi 18140 18740) && (gok c lo hi 7 8 && (gok c lo hi 9 10 && gok c lo hi 47660 47900))))
theorem gok_e {r r' : Nat → Int} {c lo hi a b : Nat} (Rw : ∀ j, j ≠ c → (j < lo ∨ hi ≤ j) → r' j = r j) (ck : gok c lo hi a b = true) {j : Nat} (h : a ≤ j ∧ j < b) : r' j = r j := by
  unfold gok at ck
  simp only [Bool.and_eq_true, Bool.or_eq_true, Nat.blt_eq, Nat.ble_eq] at ck
  refine Rw j ?_ ?_
  · rcases ck.1 with a | a <;> omega
  · rcases ck.2 with a | a
    · right; omega
    · left; omega
theorem cok_e {l : List (Nat × Nat)} {X X' : jW} {A f : Nat} (F : pF l X X') (ck : cok l A f = true) : X'.1 (A + 1 + 2 * f) 3 = X.1 (A + 1 + 2 * f) 3 ∧ X'.1 (A + 2 + 2 * f) = X.1 (A + 2 + 2 * f) := by
  unfold cok at ck
  rw [Bool.and_eq_true, Bool.not_eq_true', Bool.not_eq_true'] at ck
  exact ⟨F.1 _ _ ck.1, pF_c F ck.2⟩
theorem pD_a {l : List (Nat × Nat)} {X X' : jW} {A : Nat} {r r' : Nat → Int} {c lo hi : Nat} (t0 : pTup) (F : pF l X X') (Rw : ∀ j, j ≠ c → (j < lo ∨ hi ≤ j) → r' j = r j) (H : pT X' A t0 r') (ck : ((pTs.all fun t => decide (t = t0) || (tok l A t && (rok c lo hi t && pok t))) && dok l A c lo hi) = true) (h : pD X A r) : pD X' A r' := by
  rw [Bool.and_eq_true] at ck
  have d := ck.2
  unfold dok at d
  simp only [Bool.and_eq_true] at d
  have c1 := cok_e F d.1.1
  have c3 := cok_e F d.1.2.1
  have c8 := cok_e F d.1.2.2
  refine ⟨pTl_a t0 F Rw H ck.1 h.1, pNm_e c1.1 c1.2 (fun j hj => ?_) h.2.1, pBo_e c3.1 c3.2 (fun j hj => ?_) h.2.2.1, pHo_e c8.1 c8.2 (fun j hj => ?_) h.2.2.2⟩
  · rcases hj with hj | hj
    · exact gok_e Rw d.2.1.1 (by omega)
    · exact gok_e Rw d.2.1.2 hj
  · rcases hj with hj | hj
    · exact gok_e Rw d.2.2.1.1 (by omega)
    · exact gok_e Rw d.2.2.1.2 hj
  · rcases hj with hj | hj | hj
    · exact gok_e Rw d.2.2.2.1 (by omega)
    · exact gok_e Rw d.2.2.2.2.1 (by omega)
    · exact gok_e Rw d.2.2.2.2.2 hj
/-- nothing of the chest changes -/
theorem pD_x {l : List (Nat × Nat)} {X X' : jW} {A : Nat} {r : Nat → Int} (F : pF l X X') (ck : ((pTs.all fun t => tok l A t) && (cok l A 1 && (cok l A 3 && cok l A 8))) = true) (h : pD X A r) : pD X' A r := by
  simp only [Bool.and_eq_true] at ck
  have c1 := cok_e F ck.2.1
  have c3 := cok_e F ck.2.2.1
  have c8 := cok_e F ck.2.2.2
  exact ⟨pTl_x F ck.1 h.1, pNm_e c1.1 c1.2 (fun _ _ => rfl) h.2.1, pBo_e c3.1 c3.2 (fun _ _ => rfl) h.2.2.1, pHo_e c8.1 c8.2 (fun _ _ => rfl) h.2.2.2⟩
/-! pure: the class's tables at work -/
section
variable {X : jW} {r : Nat → Int} {i : Int}
theorem at_43_1 (h : pT X 32 pt_5 r) (h0 : 0 ≤ i) (h1 : i < r 5) : d_X8_at_r43_c1d i X = r (46540 + 6 * i + 3).toNat := by
  have e := h.1
  change X.1 43 3 = r 5 at e
  unfold d_X8_at_r43_c1d
  rw [if_neg (by omega)]
  exact pT_at h h0 h1 (c := 1) (by decide) (by show _ = 6 * i.toNat + 1; omega) (by show _ = 46540 + 6 * i.toNat + 3; omega)
theorem ao_43_1 (h : pT X 32 pt_5 r) (h1 : r 5 ≤ i) : d_X8_at_r43_c1d i X = 0 := by
  have e := h.1
  change X.1 43 3 = r 5 at e
  unfold d_X8_at_r43_c1d
  rw [if_pos (by omega)]
  rfl
theorem at_43_2 (h : pT X 32 pt_5 r) (h0 : 0 ≤ i) (h1 : i < r 5) : d_X8_at_r43_c2d i X = r (46540 + 6 * i + 4).toNat := by
  have e := h.1
  change X.1 43 3 = r 5 at e
  unfold d_X8_at_r43_c2d
  rw [if_neg (by omega)]
  exact pT_at h h0 h1 (c := 2) (by decide) (by show _ = 6 * i.toNat + 2; omega) (by show _ = 46540 + 6 * i.toNat + 4; omega)
theorem ao_43_2 (h : pT X 32 pt_5 r) (h1 : r 5 ≤ i) : d_X8_at_r43_c2d i X = 0 := by
  have e := h.1
  change X.1 43 3 = r 5 at e
  unfold d_X8_at_r43_c2d
  rw [if_pos (by omega)]
  rfl
theorem at_43_3 (h : pT X 32 pt_5 r) (h0 : 0 ≤ i) (h1 : i < r 5) : d_X8_at_r43_c3d i X = r (46540 + 6 * i + 0).toNat := by
  have e := h.1
  change X.1 43 3 = r 5 at e
  unfold d_X8_at_r43_c3d
  rw [if_neg (by omega)]
  exact pT_at h h0 h1 (c := 3) (by decide) (by show _ = 6 * i.toNat + 3; omega) (by show _ = 46540 + 6 * i.toNat + 0; omega)
theorem ao_43_3 (h : pT X 32 pt_5 r) (h1 : r 5 ≤ i) : d_X8_at_r43_c3d i X = 0 := by
  have e := h.1
  change X.1 43 3 = r 5 at e
  unfold d_X8_at_r43_c3d
  rw [if_pos (by omega)]
  rfl
theorem at_43_4 (h : pT X 32 pt_5 r) (h0 : 0 ≤ i) (h1 : i < r 5) : d_X8_at_r43_c4d i X = r (46540 + 6 * i + 1).toNat := by
  have e := h.1
  change X.1 43 3 = r 5 at e
  unfold d_X8_at_r43_c4d
  rw [if_neg (by omega)]
  exact pT_at h h0 h1 (c := 4) (by decide) (by show _ = 6 * i.toNat + 4; omega) (by show _ = 46540 + 6 * i.toNat + 1; omega)
theorem ao_43_4 (h : pT X 32 pt_5 r) (h1 : r 5 ≤ i) : d_X8_at_r43_c4d i X = 0 := by
  have e := h.1
  change X.1 43 3 = r 5 at e
  unfold d_X8_at_r43_c4d
  rw [if_pos (by omega)]
  rfl
theorem at_43_5 (h : pT X 32 pt_5 r) (h0 : 0 ≤ i) (h1 : i < r 5) : d_X8_at_r43_c5d i X = r (46540 + 6 * i + 2).toNat := by
  have e := h.1
  change X.1 43 3 = r 5 at e
  unfold d_X8_at_r43_c5d
  rw [if_neg (by omega)]
  exact pT_at h h0 h1 (c := 5) (by decide) (by show _ = 6 * i.toNat + 5; omega) (by show _ = 46540 + 6 * i.toNat + 2; omega)
theorem ao_43_5 (h : pT X 32 pt_5 r) (h1 : r 5 ≤ i) : d_X8_at_r43_c5d i X = 0 := by
  have e := h.1
  change X.1 43 3 = r 5 at e
  unfold d_X8_at_r43_c5d
  rw [if_pos (by omega)]
  rfl
theorem at_47_1 (h : pT X 32 pt_7 r) (h0 : 0 ≤ i) (h1 : i < r 8) : d_X8_at_r47_c1d i X = r (47260 + 4 * i + 2).toNat := by
  have e := h.1
  change X.1 47 3 = r 8 at e
  unfold d_X8_at_r47_c1d
  rw [if_neg (by omega)]
  exact pT_at h h0 h1 (c := 1) (by decide) (by show _ = 4 * i.toNat + 1; omega) (by show _ = 47260 + 4 * i.toNat + 2; omega)
theorem ao_47_1 (h : pT X 32 pt_7 r) (h1 : r 8 ≤ i) : d_X8_at_r47_c1d i X = 0 := by
  have e := h.1
  change X.1 47 3 = r 8 at e
  unfold d_X8_at_r47_c1d
  rw [if_pos (by omega)]
  rfl
theorem at_47_2 (h : pT X 32 pt_7 r) (h0 : 0 ≤ i) (h1 : i < r 8) : d_X8_at_r47_c2d i X = r (47260 + 4 * i + 0).toNat := by
  have e := h.1
  change X.1 47 3 = r 8 at e
  unfold d_X8_at_r47_c2d
  rw [if_neg (by omega)]
  exact pT_at h h0 h1 (c := 2) (by decide) (by show _ = 4 * i.toNat + 2; omega) (by show _ = 47260 + 4 * i.toNat + 0; omega)
theorem ao_47_2 (h : pT X 32 pt_7 r) (h1 : r 8 ≤ i) : d_X8_at_r47_c2d i X = 0 := by
  have e := h.1
  change X.1 47 3 = r 8 at e
  unfold d_X8_at_r47_c2d
  rw [if_pos (by omega)]
  rfl
theorem at_51_1 (h : pT X 32 pt_9 r) (h0 : 0 ≤ i) (h1 : i < r 10) : d_X8_at_r51_c1d i X = r (47900 + 4 * i + 2).toNat := by
  have e := h.1
  change X.1 51 3 = r 10 at e
  unfold d_X8_at_r51_c1d
  rw [if_neg (by omega)]
  exact pT_at h h0 h1 (c := 1) (by decide) (by show _ = 4 * i.toNat + 1; omega) (by show _ = 47900 + 4 * i.toNat + 2; omega)
theorem ao_51_1 (h : pT X 32 pt_9 r) (h1 : r 10 ≤ i) : d_X8_at_r51_c1d i X = 0 := by
  have e := h.1
  change X.1 51 3 = r 10 at e
  unfold d_X8_at_r51_c1d
  rw [if_pos (by omega)]
  rfl
theorem at_51_2 (h : pT X 32 pt_9 r) (h0 : 0 ≤ i) (h1 : i < r 10) : d_X8_at_r51_c2d i X = r (47900 + 4 * i + 0).toNat := by
  have e := h.1
  change X.1 51 3 = r 10 at e
  unfold d_X8_at_r51_c2d
  rw [if_neg (by omega)]
  exact pT_at h h0 h1 (c := 2) (by decide) (by show _ = 4 * i.toNat + 2; omega) (by show _ = 47900 + 4 * i.toNat + 0; omega)
theorem ao_51_2 (h : pT X 32 pt_9 r) (h1 : r 10 ≤ i) : d_X8_at_r51_c2d i X = 0 := by
  have e := h.1
  change X.1 51 3 = r 10 at e
  unfold d_X8_at_r51_c2d
  rw [if_pos (by omega)]
  rfl
theorem at_37_0 (h : pT X 32 pt_2 r) (h0 : 0 ≤ i) (h1 : i < r 1) : d_X8_at_r37_c0d i X = r (18020 + 2 * i + 0).toNat := by
  have e := h.1
  change X.1 37 3 = r 1 at e
  unfold d_X8_at_r37_c0d
  rw [if_neg (by omega)]
  exact pT_at h h0 h1 (c := 0) (by decide) (by show _ = 2 * i.toNat + 0; omega) (by show _ = 18020 + 2 * i.toNat + 0; omega)
theorem ao_37_0 (h : pT X 32 pt_2 r) (h1 : r 1 ≤ i) : d_X8_at_r37_c0d i X = 0 := by
  have e := h.1
  change X.1 37 3 = r 1 at e
  unfold d_X8_at_r37_c0d
  rw [if_pos (by omega)]
  rfl
theorem at_37_1 (h : pT X 32 pt_2 r) (h0 : 0 ≤ i) (h1 : i < r 1) : d_X8_at_r37_c1d i X = r (18020 + 2 * i + 1).toNat := by
  have e := h.1
  change X.1 37 3 = r 1 at e
  unfold d_X8_at_r37_c1d
  rw [if_neg (by omega)]
  exact pT_at h h0 h1 (c := 1) (by decide) (by show _ = 2 * i.toNat + 1; omega) (by show _ = 18020 + 2 * i.toNat + 1; omega)
theorem ao_37_1 (h : pT X 32 pt_2 r) (h1 : r 1 ≤ i) : d_X8_at_r37_c1d i X = 0 := by
  have e := h.1
  change X.1 37 3 = r 1 at e
  unfold d_X8_at_r37_c1d
  rw [if_pos (by omega)]
  rfl
theorem at_33_1 (h : pT X 32 pt_0 r) (h0 : 0 ≤ i) (h1 : i < r 0) : d_X8_at_r33_c1d i X = r (20 + 90 * i + 2).toNat := by
  have e := h.1
  change X.1 33 3 = r 0 at e
  unfold d_X8_at_r33_c1d
  rw [if_neg (by omega), if_neg (by omega)]
  exact pT_at h h0 h1 (c := 1) (by decide) (by show _ = 6 * i.toNat + 1; omega) (by show _ = 20 + 90 * i.toNat + 2; omega)
theorem ao_33_1 (h : pT X 32 pt_0 r) (h1 : i < 0 ∨ r 0 ≤ i) : d_X8_at_r33_c1d i X = 0 := by
  have e := h.1
  change X.1 33 3 = r 0 at e
  unfold d_X8_at_r33_c1d
  by_cases g : i < 0
  · rw [if_pos g]
    rfl
  · rw [if_neg g, if_pos (by omega)]
    rfl
theorem at_33_2 (h : pT X 32 pt_0 r) (h0 : 0 ≤ i) (h1 : i < r 0) : d_X8_at_r33_c2d i X = r (20 + 90 * i + 0).toNat := by
  have e := h.1
  change X.1 33 3 = r 0 at e
  unfold d_X8_at_r33_c2d
  rw [if_neg (by omega), if_neg (by omega)]
  exact pT_at h h0 h1 (c := 2) (by decide) (by show _ = 6 * i.toNat + 2; omega) (by show _ = 20 + 90 * i.toNat + 0; omega)
theorem ao_33_2 (h : pT X 32 pt_0 r) (h1 : i < 0 ∨ r 0 ≤ i) : d_X8_at_r33_c2d i X = 0 := by
  have e := h.1
  change X.1 33 3 = r 0 at e
  unfold d_X8_at_r33_c2d
  by_cases g : i < 0
  · rw [if_pos g]
    rfl
  · rw [if_neg g, if_pos (by omega)]
    rfl
theorem at_33_4 (h : pT X 32 pt_0 r) (h0 : 0 ≤ i) (h1 : i < r 0) : d_X8_at_r33_c4d i X = r (20 + 90 * i + 4).toNat := by
  have e := h.1
  change X.1 33 3 = r 0 at e
  unfold d_X8_at_r33_c4d
  rw [if_neg (by omega), if_neg (by omega)]
  exact pT_at h h0 h1 (c := 4) (by decide) (by show _ = 6 * i.toNat + 4; omega) (by show _ = 20 + 90 * i.toNat + 4; omega)
theorem ao_33_4 (h : pT X 32 pt_0 r) (h1 : i < 0 ∨ r 0 ≤ i) : d_X8_at_r33_c4d i X = 0 := by
  have e := h.1
  change X.1 33 3 = r 0 at e
  unfold d_X8_at_r33_c4d
  by_cases g : i < 0
  · rw [if_pos g]
    rfl
  · rw [if_neg g, if_pos (by omega)]
    rfl
theorem at_53_1 (h : pT X 32 pt_10 r) (h0 : 0 ≤ i) (h1 : i < r 11) : d_X8_at_r53_c1d i X = r (48300 + 4 * i + 1).toNat := by
  have e := h.1
  change X.1 53 3 = r 11 at e
  unfold d_X8_at_r53_c1d
  rw [if_neg (by omega), if_neg (by omega)]
  exact pT_at h h0 h1 (c := 1) (by decide) (by show _ = 4 * i.toNat + 1; omega) (by show _ = 48300 + 4 * i.toNat + 1; omega)
theorem ao_53_1 (h : pT X 32 pt_10 r) (h1 : i < 0 ∨ r 11 ≤ i) : d_X8_at_r53_c1d i X = 0 := by
  have e := h.1
  change X.1 53 3 = r 11 at e
  unfold d_X8_at_r53_c1d
  by_cases g : i < 0
  · rw [if_pos g]
    rfl
  · rw [if_neg g, if_pos (by omega)]
    rfl
theorem at_53_2 (h : pT X 32 pt_10 r) (h0 : 0 ≤ i) (h1 : i < r 11) : d_X8_at_r53_c2d i X = r (48300 + 4 * i + 0).toNat := by
  have e := h.1
  change X.1 53 3 = r 11 at e
  unfold d_X8_at_r53_c2d
  rw [if_neg (by omega), if_neg (by omega)]
  exact pT_at h h0 h1 (c := 2) (by decide) (by show _ = 4 * i.toNat + 2; omega) (by show _ = 48300 + 4 * i.toNat + 0; omega)
theorem ao_53_2 (h : pT X 32 pt_10 r) (h1 : i < 0 ∨ r 11 ≤ i) : d_X8_at_r53_c2d i X = 0 := by
  have e := h.1
  change X.1 53 3 = r 11 at e
  unfold d_X8_at_r53_c2d
  by_cases g : i < 0
  · rw [if_pos g]
    rfl
  · rw [if_neg g, if_pos (by omega)]
    rfl
theorem at_53_3 (h : pT X 32 pt_10 r) (h0 : 0 ≤ i) (h1 : i < r 11) : d_X8_at_r53_c3d i X = r (48300 + 4 * i + 2).toNat := by
  have e := h.1
  change X.1 53 3 = r 11 at e
  unfold d_X8_at_r53_c3d
  rw [if_neg (by omega), if_neg (by omega)]
  exact pT_at h h0 h1 (c := 3) (by decide) (by show _ = 4 * i.toNat + 3; omega) (by show _ = 48300 + 4 * i.toNat + 2; omega)
theorem ao_53_3 (h : pT X 32 pt_10 r) (h1 : i < 0 ∨ r 11 ≤ i) : d_X8_at_r53_c3d i X = 0 := by
  have e := h.1
  change X.1 53 3 = r 11 at e
  unfold d_X8_at_r53_c3d
  by_cases g : i < 0
  · rw [if_pos g]
    rfl
  · rw [if_neg g, if_pos (by omega)]
    rfl
theorem at_55_1 (h : pT X 32 pt_11 r) (h0 : 0 ≤ i) (h1 : i < r 12) : d_X8_at_r55_c1d i X = r (48460 + 5 * i + 3).toNat := by
  have e := h.1
  change X.1 55 3 = r 12 at e
  unfold d_X8_at_r55_c1d
  rw [if_neg (by omega)]
  exact pT_at h h0 h1 (c := 1) (by decide) (by show _ = 5 * i.toNat + 1; omega) (by show _ = 48460 + 5 * i.toNat + 3; omega)
theorem ao_55_1 (h : pT X 32 pt_11 r) (h1 : r 12 ≤ i) : d_X8_at_r55_c1d i X = 0 := by
  have e := h.1
  change X.1 55 3 = r 12 at e
  unfold d_X8_at_r55_c1d
  rw [if_pos (by omega)]
  rfl
theorem at_55_2 (h : pT X 32 pt_11 r) (h0 : 0 ≤ i) (h1 : i < r 12) : d_X8_at_r55_c2d i X = r (48460 + 5 * i + 1).toNat := by
  have e := h.1
  change X.1 55 3 = r 12 at e
  unfold d_X8_at_r55_c2d
  rw [if_neg (by omega)]
  exact pT_at h h0 h1 (c := 2) (by decide) (by show _ = 5 * i.toNat + 2; omega) (by show _ = 48460 + 5 * i.toNat + 1; omega)
theorem ao_55_2 (h : pT X 32 pt_11 r) (h1 : r 12 ≤ i) : d_X8_at_r55_c2d i X = 0 := by
  have e := h.1
  change X.1 55 3 = r 12 at e
  unfold d_X8_at_r55_c2d
  rw [if_pos (by omega)]
  rfl
theorem at_55_3 (h : pT X 32 pt_11 r) (h0 : 0 ≤ i) (h1 : i < r 12) : d_X8_at_r55_c3d i X = r (48460 + 5 * i + 0).toNat := by
  have e := h.1
  change X.1 55 3 = r 12 at e
  unfold d_X8_at_r55_c3d
  rw [if_neg (by omega)]
  exact pT_at h h0 h1 (c := 3) (by decide) (by show _ = 5 * i.toNat + 3; omega) (by show _ = 48460 + 5 * i.toNat + 0; omega)
theorem ao_55_3 (h : pT X 32 pt_11 r) (h1 : r 12 ≤ i) : d_X8_at_r55_c3d i X = 0 := by
  have e := h.1
  change X.1 55 3 = r 12 at e
  unfold d_X8_at_r55_c3d
  rw [if_pos (by omega)]
  rfl
theorem at_55_4 (h : pT X 32 pt_11 r) (h0 : 0 ≤ i) (h1 : i < r 12) : d_X8_at_r55_c4d i X = r (48460 + 5 * i + 2).toNat := by
  have e := h.1
  change X.1 55 3 = r 12 at e
  unfold d_X8_at_r55_c4d
  rw [if_neg (by omega)]
  exact pT_at h h0 h1 (c := 4) (by decide) (by show _ = 5 * i.toNat + 4; omega) (by show _ = 48460 + 5 * i.toNat + 2; omega)
theorem ao_55_4 (h : pT X 32 pt_11 r) (h1 : r 12 ≤ i) : d_X8_at_r55_c4d i X = 0 := by
  have e := h.1
  change X.1 55 3 = r 12 at e
  unfold d_X8_at_r55_c4d
  rw [if_pos (by omega)]
  rfl
theorem at_63_0 (h : pT X 32 pt_15 r) (h0 : 0 ≤ i) (h1 : i < r 16) : d_X8_at_r63_c0d i X = r (49920 + 2 * i + 0).toNat := by
  have e := h.1
  change X.1 63 3 = r 16 at e
  unfold d_X8_at_r63_c0d
  rw [if_neg (by omega)]
  exact pT_at h h0 h1 (c := 0) (by decide) (by show _ = 2 * i.toNat + 0; omega) (by show _ = 49920 + 2 * i.toNat + 0; omega)
theorem ao_63_0 (h : pT X 32 pt_15 r) (h1 : r 16 ≤ i) : d_X8_at_r63_c0d i X = 0 := by
  have e := h.1
  change X.1 63 3 = r 16 at e
  unfold d_X8_at_r63_c0d
  rw [if_pos (by omega)]
  rfl
theorem at_63_1 (h : pT X 32 pt_15 r) (h0 : 0 ≤ i) (h1 : i < r 16) : d_X8_at_r63_c1d i X = r (49920 + 2 * i + 1).toNat := by
  have e := h.1
  change X.1 63 3 = r 16 at e
  unfold d_X8_at_r63_c1d
  rw [if_neg (by omega)]
  exact pT_at h h0 h1 (c := 1) (by decide) (by show _ = 2 * i.toNat + 1; omega) (by show _ = 49920 + 2 * i.toNat + 1; omega)
theorem ao_63_1 (h : pT X 32 pt_15 r) (h1 : r 16 ≤ i) : d_X8_at_r63_c1d i X = 0 := by
  have e := h.1
  change X.1 63 3 = r 16 at e
  unfold d_X8_at_r63_c1d
  rw [if_pos (by omega)]
  rfl
theorem at_33_3 (h : pT X 32 pt_0 r) (h0 : 0 ≤ i) (h1 : i < r 0) : d_X8_at_r33_c3d i X = r (20 + 90 * i + 1).toNat := by
  have e := h.1
  change X.1 33 3 = r 0 at e
  unfold d_X8_at_r33_c3d
  rw [if_neg (by omega)]
  exact pT_at h h0 h1 (c := 3) (by decide) (by show _ = 6 * i.toNat + 3; omega) (by show _ = 20 + 90 * i.toNat + 1; omega)
theorem ao_33_3 (h : pT X 32 pt_0 r) (h1 : r 0 ≤ i) : d_X8_at_r33_c3d i X = 0 := by
  have e := h.1
  change X.1 33 3 = r 0 at e
  unfold d_X8_at_r33_c3d
  rw [if_pos (by omega)]
  rfl
theorem at_59_1 (h : pT X 32 pt_13 r) (h0 : 0 ≤ i) (h1 : i < r 14) : d_X8_at_r59_c1d i X = r (49360 + 4 * i + 1).toNat := by
  have e := h.1
  change X.1 59 3 = r 14 at e
  unfold d_X8_at_r59_c1d
  rw [if_neg (by omega)]
  exact pT_at h h0 h1 (c := 1) (by decide) (by show _ = 4 * i.toNat + 1; omega) (by show _ = 49360 + 4 * i.toNat + 1; omega)
theorem ao_59_1 (h : pT X 32 pt_13 r) (h1 : r 14 ≤ i) : d_X8_at_r59_c1d i X = 0 := by
  have e := h.1
  change X.1 59 3 = r 14 at e
  unfold d_X8_at_r59_c1d
  rw [if_pos (by omega)]
  rfl
theorem at_59_2 (h : pT X 32 pt_13 r) (h0 : 0 ≤ i) (h1 : i < r 14) : d_X8_at_r59_c2d i X = r (49360 + 4 * i + 0).toNat := by
  have e := h.1
  change X.1 59 3 = r 14 at e
  unfold d_X8_at_r59_c2d
  rw [if_neg (by omega)]
  exact pT_at h h0 h1 (c := 2) (by decide) (by show _ = 4 * i.toNat + 2; omega) (by show _ = 49360 + 4 * i.toNat + 0; omega)
theorem ao_59_2 (h : pT X 32 pt_13 r) (h1 : r 14 ≤ i) : d_X8_at_r59_c2d i X = 0 := by
  have e := h.1
  change X.1 59 3 = r 14 at e
  unfold d_X8_at_r59_c2d
  rw [if_pos (by omega)]
  rfl
theorem at_57_0 (h : pT X 32 pt_12 r) (h0 : 0 ≤ i) (h1 : i < r 13) : d_X8_at_r57_c0d i X = r (48960 + 4 * i + 3).toNat := by
  have e := h.1
  change X.1 57 3 = r 13 at e
  unfold d_X8_at_r57_c0d
  rw [if_neg (by omega)]
  exact pT_at h h0 h1 (c := 0) (by decide) (by show _ = 4 * i.toNat + 0; omega) (by show _ = 48960 + 4 * i.toNat + 3; omega)
theorem ao_57_0 (h : pT X 32 pt_12 r) (h1 : r 13 ≤ i) : d_X8_at_r57_c0d i X = 0 := by
  have e := h.1
  change X.1 57 3 = r 13 at e
  unfold d_X8_at_r57_c0d
  rw [if_pos (by omega)]
  rfl
theorem at_57_1 (h : pT X 32 pt_12 r) (h0 : 0 ≤ i) (h1 : i < r 13) : d_X8_at_r57_c1d i X = r (48960 + 4 * i + 1).toNat := by
  have e := h.1
  change X.1 57 3 = r 13 at e
  unfold d_X8_at_r57_c1d
  rw [if_neg (by omega)]
  exact pT_at h h0 h1 (c := 1) (by decide) (by show _ = 4 * i.toNat + 1; omega) (by show _ = 48960 + 4 * i.toNat + 1; omega)
theorem ao_57_1 (h : pT X 32 pt_12 r) (h1 : r 13 ≤ i) : d_X8_at_r57_c1d i X = 0 := by
  have e := h.1
  change X.1 57 3 = r 13 at e
  unfold d_X8_at_r57_c1d
  rw [if_pos (by omega)]
  rfl
theorem at_57_2 (h : pT X 32 pt_12 r) (h0 : 0 ≤ i) (h1 : i < r 13) : d_X8_at_r57_c2d i X = r (48960 + 4 * i + 0).toNat := by
  have e := h.1
  change X.1 57 3 = r 13 at e
  unfold d_X8_at_r57_c2d
  rw [if_neg (by omega)]
  exact pT_at h h0 h1 (c := 2) (by decide) (by show _ = 4 * i.toNat + 2; omega) (by show _ = 48960 + 4 * i.toNat + 0; omega)
theorem ao_57_2 (h : pT X 32 pt_12 r) (h1 : r 13 ≤ i) : d_X8_at_r57_c2d i X = 0 := by
  have e := h.1
  change X.1 57 3 = r 13 at e
  unfold d_X8_at_r57_c2d
  rw [if_pos (by omega)]
  rfl
theorem at_59_0 (h : pT X 32 pt_13 r) (h0 : 0 ≤ i) (h1 : i < r 14) : d_X8_at_r59_c0d i X = r (49360 + 4 * i + 3).toNat := by
  have e := h.1
  change X.1 59 3 = r 14 at e
  unfold d_X8_at_r59_c0d
  rw [if_neg (by omega)]
  exact pT_at h h0 h1 (c := 0) (by decide) (by show _ = 4 * i.toNat + 0; omega) (by show _ = 49360 + 4 * i.toNat + 3; omega)
theorem ao_59_0 (h : pT X 32 pt_13 r) (h1 : r 14 ≤ i) : d_X8_at_r59_c0d i X = 0 := by
  have e := h.1
  change X.1 59 3 = r 14 at e
  unfold d_X8_at_r59_c0d
  rw [if_pos (by omega)]
  rfl
theorem at_57_3 (h : pT X 32 pt_12 r) (h0 : 0 ≤ i) (h1 : i < r 13) : d_X8_at_r57_c3d i X = r (48960 + 4 * i + 2).toNat := by
  have e := h.1
  change X.1 57 3 = r 13 at e
  unfold d_X8_at_r57_c3d
  rw [if_neg (by omega)]
  exact pT_at h h0 h1 (c := 3) (by decide) (by show _ = 4 * i.toNat + 3; omega) (by show _ = 48960 + 4 * i.toNat + 2; omega)
theorem ao_57_3 (h : pT X 32 pt_12 r) (h1 : r 13 ≤ i) : d_X8_at_r57_c3d i X = 0 := by
  have e := h.1
  change X.1 57 3 = r 13 at e
  unfold d_X8_at_r57_c3d
  rw [if_pos (by omega)]
  rfl
theorem at_59_3 (h : pT X 32 pt_13 r) (h0 : 0 ≤ i) (h1 : i < r 14) : d_X8_at_r59_c3d i X = r (49360 + 4 * i + 2).toNat := by
  have e := h.1
  change X.1 59 3 = r 14 at e
  unfold d_X8_at_r59_c3d
  rw [if_neg (by omega)]
  exact pT_at h h0 h1 (c := 3) (by decide) (by show _ = 4 * i.toNat + 3; omega) (by show _ = 49360 + 4 * i.toNat + 2; omega)
theorem ao_59_3 (h : pT X 32 pt_13 r) (h1 : r 14 ≤ i) : d_X8_at_r59_c3d i X = 0 := by
  have e := h.1
  change X.1 59 3 = r 14 at e
  unfold d_X8_at_r59_c3d
  rw [if_pos (by omega)]
  rfl
theorem at_61_1 (h : pT X 32 pt_14 r) (h0 : 0 ≤ i) (h1 : i < r 15) : d_X8_at_r61_c1d i X = r (49520 + 4 * i + 1).toNat := by
  have e := h.1
  change X.1 61 3 = r 15 at e
  unfold d_X8_at_r61_c1d
  rw [if_neg (by omega)]
  exact pT_at h h0 h1 (c := 1) (by decide) (by show _ = 4 * i.toNat + 1; omega) (by show _ = 49520 + 4 * i.toNat + 1; omega)
theorem ao_61_1 (h : pT X 32 pt_14 r) (h1 : r 15 ≤ i) : d_X8_at_r61_c1d i X = 0 := by
  have e := h.1
  change X.1 61 3 = r 15 at e
  unfold d_X8_at_r61_c1d
  rw [if_pos (by omega)]
  rfl
theorem at_61_2 (h : pT X 32 pt_14 r) (h0 : 0 ≤ i) (h1 : i < r 15) : d_X8_at_r61_c2d i X = r (49520 + 4 * i + 0).toNat := by
  have e := h.1
  change X.1 61 3 = r 15 at e
  unfold d_X8_at_r61_c2d
  rw [if_neg (by omega)]
  exact pT_at h h0 h1 (c := 2) (by decide) (by show _ = 4 * i.toNat + 2; omega) (by show _ = 49520 + 4 * i.toNat + 0; omega)
theorem ao_61_2 (h : pT X 32 pt_14 r) (h1 : r 15 ≤ i) : d_X8_at_r61_c2d i X = 0 := by
  have e := h.1
  change X.1 61 3 = r 15 at e
  unfold d_X8_at_r61_c2d
  rw [if_pos (by omega)]
  rfl
theorem at_61_3 (h : pT X 32 pt_14 r) (h0 : 0 ≤ i) (h1 : i < r 15) : d_X8_at_r61_c3d i X = r (49520 + 4 * i + 2).toNat := by
  have e := h.1
  change X.1 61 3 = r 15 at e
  unfold d_X8_at_r61_c3d
  rw [if_neg (by omega)]
  exact pT_at h h0 h1 (c := 3) (by decide) (by show _ = 4 * i.toNat + 3; omega) (by show _ = 49520 + 4 * i.toNat + 2; omega)
theorem ao_61_3 (h : pT X 32 pt_14 r) (h1 : r 15 ≤ i) : d_X8_at_r61_c3d i X = 0 := by
  have e := h.1
  change X.1 61 3 = r 15 at e
  unfold d_X8_at_r61_c3d
  rw [if_pos (by omega)]
  rfl
theorem at_41_1 (h : pT X 32 pt_4 r) (h0 : 0 ≤ i) (h1 : i < r 3) : d_X8_at_r41_c1d i X = r (18740 + 4 * i + 1).toNat := by
  have e := h.1
  change X.1 41 3 = r 3 at e
  unfold d_X8_at_r41_c1d
  rw [if_neg (by omega)]
  exact pT_at h h0 h1 (c := 1) (by decide) (by show _ = 4 * i.toNat + 1; omega) (by show _ = 18740 + 4 * i.toNat + 1; omega)
theorem ao_41_1 (h : pT X 32 pt_4 r) (h1 : r 3 ≤ i) : d_X8_at_r41_c1d i X = 0 := by
  have e := h.1
  change X.1 41 3 = r 3 at e
  unfold d_X8_at_r41_c1d
  rw [if_pos (by omega)]
  rfl
theorem at_41_2 (h : pT X 32 pt_4 r) (h0 : 0 ≤ i) (h1 : i < r 3) : d_X8_at_r41_c2d i X = r (18740 + 4 * i + 2).toNat := by
  have e := h.1
  change X.1 41 3 = r 3 at e
  unfold d_X8_at_r41_c2d
  rw [if_neg (by omega)]
  exact pT_at h h0 h1 (c := 2) (by decide) (by show _ = 4 * i.toNat + 2; omega) (by show _ = 18740 + 4 * i.toNat + 2; omega)
theorem ao_41_2 (h : pT X 32 pt_4 r) (h1 : r 3 ≤ i) : d_X8_at_r41_c2d i X = 0 := by
  have e := h.1
  change X.1 41 3 = r 3 at e
  unfold d_X8_at_r41_c2d
  rw [if_pos (by omega)]
  rfl
theorem at_41_3 (h : pT X 32 pt_4 r) (h0 : 0 ≤ i) (h1 : i < r 3) : d_X8_at_r41_c3d i X = r (18740 + 4 * i + 0).toNat := by
  have e := h.1
  change X.1 41 3 = r 3 at e
  unfold d_X8_at_r41_c3d
  rw [if_neg (by omega)]
  exact pT_at h h0 h1 (c := 3) (by decide) (by show _ = 4 * i.toNat + 3; omega) (by show _ = 18740 + 4 * i.toNat + 0; omega)
theorem ao_41_3 (h : pT X 32 pt_4 r) (h1 : r 3 ≤ i) : d_X8_at_r41_c3d i X = 0 := by
  have e := h.1
  change X.1 41 3 = r 3 at e
  unfold d_X8_at_r41_c3d
  rw [if_pos (by omega)]
  rfl
theorem at_45_2 (h : pT X 32 pt_6 r) (h0 : 0 ≤ i) (h1 : i < r 6) : d_X8_at_r45_c2d i X = r (47140 + 3 * i + 0).toNat := by
  have e := h.1
  change X.1 45 3 = r 6 at e
  unfold d_X8_at_r45_c2d
  rw [if_neg (by omega)]
  exact pT_at h h0 h1 (c := 2) (by decide) (by show _ = 3 * i.toNat + 2; omega) (by show _ = 47140 + 3 * i.toNat + 0; omega)
theorem ao_45_2 (h : pT X 32 pt_6 r) (h1 : r 6 ≤ i) : d_X8_at_r45_c2d i X = 0 := by
  have e := h.1
  change X.1 45 3 = r 6 at e
  unfold d_X8_at_r45_c2d
  rw [if_pos (by omega)]
  rfl
theorem at_33_5 (h : pT X 32 pt_0 r) (h0 : 0 ≤ i) (h1 : i < r 0) : d_X8_at_r33_c5d i X = r (20 + 90 * i + 5).toNat := by
  have e := h.1
  change X.1 33 3 = r 0 at e
  unfold d_X8_at_r33_c5d
  rw [if_neg (by omega)]
  exact pT_at h h0 h1 (c := 5) (by decide) (by show _ = 6 * i.toNat + 5; omega) (by show _ = 20 + 90 * i.toNat + 5; omega)
theorem ao_33_5 (h : pT X 32 pt_0 r) (h1 : r 0 ≤ i) : d_X8_at_r33_c5d i X = 0 := by
  have e := h.1
  change X.1 33 3 = r 0 at e
  unfold d_X8_at_r33_c5d
  rw [if_pos (by omega)]
  rfl
theorem at_45_1 (h : pT X 32 pt_6 r) (h0 : 0 ≤ i) (h1 : i < r 6) : d_X8_at_r45_c1d i X = r (47140 + 3 * i + 1).toNat := by
  have e := h.1
  change X.1 45 3 = r 6 at e
  unfold d_X8_at_r45_c1d
  rw [if_neg (by omega)]
  exact pT_at h h0 h1 (c := 1) (by decide) (by show _ = 3 * i.toNat + 1; omega) (by show _ = 47140 + 3 * i.toNat + 1; omega)
theorem ao_45_1 (h : pT X 32 pt_6 r) (h1 : r 6 ≤ i) : d_X8_at_r45_c1d i X = 0 := by
  have e := h.1
  change X.1 45 3 = r 6 at e
  unfold d_X8_at_r45_c1d
  rw [if_pos (by omega)]
  rfl
theorem kn_43 (h : pT X 32 pt_5 r) {k : Int} (h0 : 0 ≤ i) (h1 : i < r 5) : d_X8_isKnown_r43d i k X = if k < r (46540 + 6 * i + 5).toNat then 0 else 1 := by
  have e := h.1
  change X.1 43 3 = r 5 at e
  unfold d_X8_isKnown_r43d
  rw [if_neg (by omega), show X.1 44 (i * 6).toNat = r (46540 + 6 * i + 5).toNat from pT_at h h0 h1 (c := 0) (by decide) (by show _ = 6 * i.toNat + 0; omega) (by show _ = 46540 + 6 * i.toNat + 5; omega)]
  rfl
theorem ko_43 (h : pT X 32 pt_5 r) {k : Int} (h1 : r 5 ≤ i) : d_X8_isKnown_r43d i k X = 0 := by
  have e := h.1
  change X.1 43 3 = r 5 at e
  unfold d_X8_isKnown_r43d
  rw [if_pos (by omega)]
  rfl
theorem kn_47 (h : pT X 32 pt_7 r) {k : Int} (h0 : 0 ≤ i) (h1 : i < r 8) : d_X8_isKnown_r47d i k X = if k < r (47260 + 4 * i + 3).toNat then 0 else 1 := by
  have e := h.1
  change X.1 47 3 = r 8 at e
  unfold d_X8_isKnown_r47d
  rw [if_neg (by omega), show X.1 48 (i * 4).toNat = r (47260 + 4 * i + 3).toNat from pT_at h h0 h1 (c := 0) (by decide) (by show _ = 4 * i.toNat + 0; omega) (by show _ = 47260 + 4 * i.toNat + 3; omega)]
  rfl
theorem ko_47 (h : pT X 32 pt_7 r) {k : Int} (h1 : r 8 ≤ i) : d_X8_isKnown_r47d i k X = 0 := by
  have e := h.1
  change X.1 47 3 = r 8 at e
  unfold d_X8_isKnown_r47d
  rw [if_pos (by omega)]
  rfl
theorem kn_51 (h : pT X 32 pt_9 r) {k : Int} (h0 : 0 ≤ i) (h1 : i < r 10) : d_X8_isKnown_r51d i k X = if k < r (47900 + 4 * i + 3).toNat then 0 else 1 := by
  have e := h.1
  change X.1 51 3 = r 10 at e
  unfold d_X8_isKnown_r51d
  rw [if_neg (by omega), show X.1 52 (i * 4).toNat = r (47900 + 4 * i + 3).toNat from pT_at h h0 h1 (c := 0) (by decide) (by show _ = 4 * i.toNat + 0; omega) (by show _ = 47900 + 4 * i.toNat + 3; omega)]
  rfl
theorem ko_51 (h : pT X 32 pt_9 r) {k : Int} (h1 : r 10 ≤ i) : d_X8_isKnown_r51d i k X = 0 := by
  have e := h.1
  change X.1 51 3 = r 10 at e
  unfold d_X8_isKnown_r51d
  rw [if_pos (by omega)]
  rfl
theorem kn_33 (h : pT X 32 pt_0 r) {k : Int} (h0 : 0 ≤ i) (h1 : i < r 0) : d_X8_isKnown_r33d i k X = if k < r (20 + 90 * i + 3).toNat then 0 else 1 := by
  have e := h.1
  change X.1 33 3 = r 0 at e
  unfold d_X8_isKnown_r33d
  rw [if_neg (by omega), if_neg (by omega), show X.1 34 (i * 6).toNat = r (20 + 90 * i + 3).toNat from pT_at h h0 h1 (c := 0) (by decide) (by show _ = 6 * i.toNat + 0; omega) (by show _ = 20 + 90 * i.toNat + 3; omega)]
  rfl
theorem ko_33 (h : pT X 32 pt_0 r) {k : Int} (h1 : i < 0 ∨ r 0 ≤ i) : d_X8_isKnown_r33d i k X = 0 := by
  have e := h.1
  change X.1 33 3 = r 0 at e
  unfold d_X8_isKnown_r33d
  by_cases g : i < 0
  · rw [if_pos g]
    rfl
  · rw [if_neg g, if_pos (by omega)]
    rfl
theorem kn_53 (h : pT X 32 pt_10 r) {k : Int} (h0 : 0 ≤ i) (h1 : i < r 11) : d_X8_isKnown_r53d i k X = if k < r (48300 + 4 * i + 3).toNat then 0 else 1 := by
  have e := h.1
  change X.1 53 3 = r 11 at e
  unfold d_X8_isKnown_r53d
  rw [if_neg (by omega), if_neg (by omega), show X.1 54 (i * 4).toNat = r (48300 + 4 * i + 3).toNat from pT_at h h0 h1 (c := 0) (by decide) (by show _ = 4 * i.toNat + 0; omega) (by show _ = 48300 + 4 * i.toNat + 3; omega)]
  rfl
theorem ko_53 (h : pT X 32 pt_10 r) {k : Int} (h1 : i < 0 ∨ r 11 ≤ i) : d_X8_isKnown_r53d i k X = 0 := by
  have e := h.1
  change X.1 53 3 = r 11 at e
  unfold d_X8_isKnown_r53d
  by_cases g : i < 0
  · rw [if_pos g]
    rfl
  · rw [if_neg g, if_pos (by omega)]
    rfl
theorem kn_55 (h : pT X 32 pt_11 r) {k : Int} (h0 : 0 ≤ i) (h1 : i < r 12) : d_X8_isKnown_r55d i k X = if k < r (48460 + 5 * i + 4).toNat then 0 else 1 := by
  have e := h.1
  change X.1 55 3 = r 12 at e
  unfold d_X8_isKnown_r55d
  rw [if_neg (by omega), show X.1 56 (i * 5).toNat = r (48460 + 5 * i + 4).toNat from pT_at h h0 h1 (c := 0) (by decide) (by show _ = 5 * i.toNat + 0; omega) (by show _ = 48460 + 5 * i.toNat + 4; omega)]
  rfl
theorem ko_55 (h : pT X 32 pt_11 r) {k : Int} (h1 : r 12 ≤ i) : d_X8_isKnown_r55d i k X = 0 := by
  have e := h.1
  change X.1 55 3 = r 12 at e
  unfold d_X8_isKnown_r55d
  rw [if_pos (by omega)]
  rfl
theorem kn_57 (h : pT X 32 pt_12 r) {k : Int} (h0 : 0 ≤ i) (h1 : i < r 13) : d_X8_isKnown_r57d i k X = if k < r (48960 + 4 * i + 3).toNat then 0 else 1 := by
  have e := h.1
  change X.1 57 3 = r 13 at e
  unfold d_X8_isKnown_r57d
  rw [if_neg (by omega), show X.1 58 (i * 4).toNat = r (48960 + 4 * i + 3).toNat from pT_at h h0 h1 (c := 0) (by decide) (by show _ = 4 * i.toNat + 0; omega) (by show _ = 48960 + 4 * i.toNat + 3; omega)]
  rfl
theorem ko_57 (h : pT X 32 pt_12 r) {k : Int} (h1 : r 13 ≤ i) : d_X8_isKnown_r57d i k X = 0 := by
  have e := h.1
  change X.1 57 3 = r 13 at e
  unfold d_X8_isKnown_r57d
  rw [if_pos (by omega)]
  rfl
theorem kn_61 (h : pT X 32 pt_14 r) {k : Int} (h0 : 0 ≤ i) (h1 : i < r 15) : d_X8_isKnown_r61d i k X = if k < r (49520 + 4 * i + 3).toNat then 0 else 1 := by
  have e := h.1
  change X.1 61 3 = r 15 at e
  unfold d_X8_isKnown_r61d
  rw [if_neg (by omega), show X.1 62 (i * 4).toNat = r (49520 + 4 * i + 3).toNat from pT_at h h0 h1 (c := 0) (by decide) (by show _ = 4 * i.toNat + 0; omega) (by show _ = 49520 + 4 * i.toNat + 3; omega)]
  rfl
theorem ko_61 (h : pT X 32 pt_14 r) {k : Int} (h1 : r 15 ≤ i) : d_X8_isKnown_r61d i k X = 0 := by
  have e := h.1
  change X.1 61 3 = r 15 at e
  unfold d_X8_isKnown_r61d
  rw [if_pos (by omega)]
  rfl
theorem kn_41 (h : pT X 32 pt_4 r) {k : Int} (h0 : 0 ≤ i) (h1 : i < r 3) : d_X8_isKnown_r41d i k X = if k < r (18740 + 4 * i + 3).toNat then 0 else 1 := by
  have e := h.1
  change X.1 41 3 = r 3 at e
  unfold d_X8_isKnown_r41d
  rw [if_neg (by omega), show X.1 42 (i * 4).toNat = r (18740 + 4 * i + 3).toNat from pT_at h h0 h1 (c := 0) (by decide) (by show _ = 4 * i.toNat + 0; omega) (by show _ = 18740 + 4 * i.toNat + 3; omega)]
  rfl
theorem ko_41 (h : pT X 32 pt_4 r) {k : Int} (h1 : r 3 ≤ i) : d_X8_isKnown_r41d i k X = 0 := by
  have e := h.1
  change X.1 41 3 = r 3 at e
  unfold d_X8_isKnown_r41d
  rw [if_pos (by omega)]
  rfl
theorem kn_45 (h : pT X 32 pt_6 r) {k : Int} (h0 : 0 ≤ i) (h1 : i < r 6) : d_X8_isKnown_r45d i k X = if k < r (47140 + 3 * i + 2).toNat then 0 else 1 := by
  have e := h.1
  change X.1 45 3 = r 6 at e
  unfold d_X8_isKnown_r45d
  rw [if_neg (by omega), show X.1 46 (i * 3).toNat = r (47140 + 3 * i + 2).toNat from pT_at h h0 h1 (c := 0) (by decide) (by show _ = 3 * i.toNat + 0; omega) (by show _ = 47140 + 3 * i.toNat + 2; omega)]
  rfl
theorem ko_45 (h : pT X 32 pt_6 r) {k : Int} (h1 : r 6 ≤ i) : d_X8_isKnown_r45d i k X = 0 := by
  have e := h.1
  change X.1 45 3 = r 6 at e
  unfold d_X8_isKnown_r45d
  rw [if_pos (by omega)]
  rfl
end
section
variable {W : jW} {a1 a2 a3 a4 a5 a6 : Int}
theorem pu_37_0 {i x : Int} (h : i < W.1 37 3) : d_X8_put_r37_c0d i x W = vu W 38 (i * 2 + 0).toNat x := by
  unfold d_X8_put_r37_c0d
  rw [if_neg (by omega)]
  rfl
theorem pu_37_1 {i x : Int} (h : i < W.1 37 3) : d_X8_put_r37_c1d i x W = vu W 38 (i * 2 + 1).toNat x := by
  unfold d_X8_put_r37_c1d
  rw [if_neg (by omega)]
  rfl
theorem pu_37_2 {i x : Int} (h : i < W.1 37 3) : d_X8_put_r37_c2d i x W = W := by
  unfold d_X8_put_r37_c2d
  rw [if_neg (by omega)]
  rfl
theorem pu_37_3 {i x : Int} (h : i < W.1 37 3) : d_X8_put_r37_c3d i x W = W := by
  unfold d_X8_put_r37_c3d
  rw [if_neg (by omega)]
  rfl
theorem pu_37_4 {i x : Int} (h : i < W.1 37 3) : d_X8_put_r37_c4d i x W = W := by
  unfold d_X8_put_r37_c4d
  rw [if_neg (by omega)]
  rfl
theorem pu_37_5 {i x : Int} (h : i < W.1 37 3) : d_X8_put_r37_c5d i x W = W := by
  unfold d_X8_put_r37_c5d
  rw [if_neg (by omega)]
  rfl
theorem ad_37 (h : W.1 37 3 < 60) : d_X8_add_r37d a1 a2 a3 a4 a5 a6 W = (vu (vu (vu W 37 3 (W.1 37 3 + 1)) 38 (W.1 37 3 * 2 + 0).toNat a1) 38 (W.1 37 3 * 2 + 1).toNat a2) := by
  have z : ∀ (V : jW) (k : Nat) (x : Int), (vu V 38 k x).1 37 3 = V.1 37 3 := fun V k x => vu_n (fun q => absurd q.1 (by decide))
  have y : (vu W 37 3 (W.1 37 3 + 1)).1 37 3 = W.1 37 3 + 1 := vu_e rfl
  unfold d_X8_add_r37d
  rw [if_pos h, pu_37_0 (by rw [y]; omega), pu_37_1 (by rw [z, y]; omega), pu_37_2 (by rw [z, z, y]; omega), pu_37_3 (by rw [z, z, y]; omega), pu_37_4 (by rw [z, z, y]; omega), pu_37_5 (by rw [z, z, y]; omega)]
theorem an_37 (h : W.1 37 3 < 60) : (d_X8_add_r37d a1 a2 a3 a4 a5 a6 W).1 37 3 = W.1 37 3 + 1 := by
  rw [ad_37 h, vu_c (by decide), vu_c (by decide)]
  exact vu_e rfl
theorem pu_45_0 {i x : Int} (h : i < W.1 45 3) : d_X8_put_r45_c0d i x W = vu W 46 (i * 3 + 0).toNat x := by
  unfold d_X8_put_r45_c0d
  rw [if_neg (by omega)]
  rfl
theorem pu_45_1 {i x : Int} (h : i < W.1 45 3) : d_X8_put_r45_c1d i x W = vu W 46 (i * 3 + 1).toNat x := by
  unfold d_X8_put_r45_c1d
  rw [if_neg (by omega)]
  rfl
theorem pu_45_2 {i x : Int} (h : i < W.1 45 3) : d_X8_put_r45_c2d i x W = vu W 46 (i * 3 + 2).toNat x := by
  unfold d_X8_put_r45_c2d
  rw [if_neg (by omega)]
  rfl
theorem pu_45_3 {i x : Int} (h : i < W.1 45 3) : d_X8_put_r45_c3d i x W = W := by
  unfold d_X8_put_r45_c3d
  rw [if_neg (by omega)]
  rfl
theorem pu_45_4 {i x : Int} (h : i < W.1 45 3) : d_X8_put_r45_c4d i x W = W := by
  unfold d_X8_put_r45_c4d
  rw [if_neg (by omega)]
  rfl
theorem pu_45_5 {i x : Int} (h : i < W.1 45 3) : d_X8_put_r45_c5d i x W = W := by
  unfold d_X8_put_r45_c5d
  rw [if_neg (by omega)]
  rfl
theorem ad_45 (h : W.1 45 3 < 40) : d_X8_add_r45d a1 a2 a3 a4 a5 a6 W = (vu (vu (vu (vu W 45 3 (W.1 45 3 + 1)) 46 (W.1 45 3 * 3 + 0).toNat a1) 46 (W.1 45 3 * 3 + 1).toNat a2) 46 (W.1 45 3 * 3 + 2).toNat a3) := by
  have z : ∀ (V : jW) (k : Nat) (x : Int), (vu V 46 k x).1 45 3 = V.1 45 3 := fun V k x => vu_n (fun q => absurd q.1 (by decide))
  have y : (vu W 45 3 (W.1 45 3 + 1)).1 45 3 = W.1 45 3 + 1 := vu_e rfl
  unfold d_X8_add_r45d
  rw [if_pos h, pu_45_0 (by rw [y]; omega), pu_45_1 (by rw [z, y]; omega), pu_45_2 (by rw [z, z, y]; omega), pu_45_3 (by rw [z, z, z, y]; omega), pu_45_4 (by rw [z, z, z, y]; omega), pu_45_5 (by rw [z, z, z, y]; omega)]
theorem an_45 (h : W.1 45 3 < 40) : (d_X8_add_r45d a1 a2 a3 a4 a5 a6 W).1 45 3 = W.1 45 3 + 1 := by
  rw [ad_45 h, vu_c (by decide), vu_c (by decide), vu_c (by decide)]
  exact vu_e rfl
theorem pu_59_0 {i x : Int} (h : i < W.1 59 3) : d_X8_put_r59_c0d i x W = vu W 60 (i * 4 + 0).toNat x := by
  unfold d_X8_put_r59_c0d
  rw [if_neg (by omega)]
  rfl
theorem pu_59_1 {i x : Int} (h : i < W.1 59 3) : d_X8_put_r59_c1d i x W = vu W 60 (i * 4 + 1).toNat x := by
  unfold d_X8_put_r59_c1d
  rw [if_neg (by omega)]
  rfl
theorem pu_59_2 {i x : Int} (h : i < W.1 59 3) : d_X8_put_r59_c2d i x W = vu W 60 (i * 4 + 2).toNat x := by
  unfold d_X8_put_r59_c2d
  rw [if_neg (by omega)]
  rfl
theorem pu_59_3 {i x : Int} (h : i < W.1 59 3) : d_X8_put_r59_c3d i x W = vu W 60 (i * 4 + 3).toNat x := by
  unfold d_X8_put_r59_c3d
  rw [if_neg (by omega)]
  rfl
theorem pu_59_4 {i x : Int} (h : i < W.1 59 3) : d_X8_put_r59_c4d i x W = W := by
  unfold d_X8_put_r59_c4d
  rw [if_neg (by omega)]
  rfl
theorem pu_59_5 {i x : Int} (h : i < W.1 59 3) : d_X8_put_r59_c5d i x W = W := by
  unfold d_X8_put_r59_c5d
  rw [if_neg (by omega)]
  rfl
theorem ad_59 (h : W.1 59 3 < 40) : d_X8_add_r59d a1 a2 a3 a4 a5 a6 W = (vu (vu (vu (vu (vu W 59 3 (W.1 59 3 + 1)) 60 (W.1 59 3 * 4 + 0).toNat a1) 60 (W.1 59 3 * 4 + 1).toNat a2) 60 (W.1 59 3 * 4 + 2).toNat a3) 60 (W.1 59 3 * 4 + 3).toNat a4) := by
  have z : ∀ (V : jW) (k : Nat) (x : Int), (vu V 60 k x).1 59 3 = V.1 59 3 := fun V k x => vu_n (fun q => absurd q.1 (by decide))
  have y : (vu W 59 3 (W.1 59 3 + 1)).1 59 3 = W.1 59 3 + 1 := vu_e rfl
  unfold d_X8_add_r59d
  rw [if_pos h, pu_59_0 (by rw [y]; omega), pu_59_1 (by rw [z, y]; omega), pu_59_2 (by rw [z, z, y]; omega), pu_59_3 (by rw [z, z, z, y]; omega), pu_59_4 (by rw [z, z, z, z, y]; omega), pu_59_5 (by rw [z, z, z, z, y]; omega)]
theorem an_59 (h : W.1 59 3 < 40) : (d_X8_add_r59d a1 a2 a3 a4 a5 a6 W).1 59 3 = W.1 59 3 + 1 := by
  rw [ad_59 h, vu_c (by decide), vu_c (by decide), vu_c (by decide), vu_c (by decide)]
  exact vu_e rfl
theorem pu_57_0 {i x : Int} (h : i < W.1 57 3) : d_X8_put_r57_c0d i x W = vu W 58 (i * 4 + 0).toNat x := by
  unfold d_X8_put_r57_c0d
  rw [if_neg (by omega)]
  rfl
theorem pu_57_1 {i x : Int} (h : i < W.1 57 3) : d_X8_put_r57_c1d i x W = vu W 58 (i * 4 + 1).toNat x := by
  unfold d_X8_put_r57_c1d
  rw [if_neg (by omega)]
  rfl
theorem pu_57_2 {i x : Int} (h : i < W.1 57 3) : d_X8_put_r57_c2d i x W = vu W 58 (i * 4 + 2).toNat x := by
  unfold d_X8_put_r57_c2d
  rw [if_neg (by omega)]
  rfl
theorem pu_57_3 {i x : Int} (h : i < W.1 57 3) : d_X8_put_r57_c3d i x W = vu W 58 (i * 4 + 3).toNat x := by
  unfold d_X8_put_r57_c3d
  rw [if_neg (by omega)]
  rfl
theorem pu_57_4 {i x : Int} (h : i < W.1 57 3) : d_X8_put_r57_c4d i x W = W := by
  unfold d_X8_put_r57_c4d
  rw [if_neg (by omega)]
  rfl
theorem pu_57_5 {i x : Int} (h : i < W.1 57 3) : d_X8_put_r57_c5d i x W = W := by
  unfold d_X8_put_r57_c5d
  rw [if_neg (by omega)]
  rfl
theorem ad_57 (h : W.1 57 3 < 100) : d_X8_add_r57d a1 a2 a3 a4 a5 a6 W = (vu (vu (vu (vu (vu W 57 3 (W.1 57 3 + 1)) 58 (W.1 57 3 * 4 + 0).toNat a1) 58 (W.1 57 3 * 4 + 1).toNat a2) 58 (W.1 57 3 * 4 + 2).toNat a3) 58 (W.1 57 3 * 4 + 3).toNat a4) := by
  have z : ∀ (V : jW) (k : Nat) (x : Int), (vu V 58 k x).1 57 3 = V.1 57 3 := fun V k x => vu_n (fun q => absurd q.1 (by decide))
  have y : (vu W 57 3 (W.1 57 3 + 1)).1 57 3 = W.1 57 3 + 1 := vu_e rfl
  unfold d_X8_add_r57d
  rw [if_pos h, pu_57_0 (by rw [y]; omega), pu_57_1 (by rw [z, y]; omega), pu_57_2 (by rw [z, z, y]; omega), pu_57_3 (by rw [z, z, z, y]; omega), pu_57_4 (by rw [z, z, z, z, y]; omega), pu_57_5 (by rw [z, z, z, z, y]; omega)]
theorem an_57 (h : W.1 57 3 < 100) : (d_X8_add_r57d a1 a2 a3 a4 a5 a6 W).1 57 3 = W.1 57 3 + 1 := by
  rw [ad_57 h, vu_c (by decide), vu_c (by decide), vu_c (by decide), vu_c (by decide)]
  exact vu_e rfl
theorem pu_43_0 {i x : Int} (h : i < W.1 43 3) : d_X8_put_r43_c0d i x W = vu W 44 (i * 6 + 0).toNat x := by
  unfold d_X8_put_r43_c0d
  rw [if_neg (by omega)]
  rfl
theorem pu_43_1 {i x : Int} (h : i < W.1 43 3) : d_X8_put_r43_c1d i x W = vu W 44 (i * 6 + 1).toNat x := by
  unfold d_X8_put_r43_c1d
  rw [if_neg (by omega)]
  rfl
theorem pu_43_2 {i x : Int} (h : i < W.1 43 3) : d_X8_put_r43_c2d i x W = vu W 44 (i * 6 + 2).toNat x := by
  unfold d_X8_put_r43_c2d
  rw [if_neg (by omega)]
  rfl
theorem pu_43_3 {i x : Int} (h : i < W.1 43 3) : d_X8_put_r43_c3d i x W = vu W 44 (i * 6 + 3).toNat x := by
  unfold d_X8_put_r43_c3d
  rw [if_neg (by omega)]
  rfl
theorem pu_43_4 {i x : Int} (h : i < W.1 43 3) : d_X8_put_r43_c4d i x W = vu W 44 (i * 6 + 4).toNat x := by
  unfold d_X8_put_r43_c4d
  rw [if_neg (by omega)]
  rfl
theorem pu_43_5 {i x : Int} (h : i < W.1 43 3) : d_X8_put_r43_c5d i x W = vu W 44 (i * 6 + 5).toNat x := by
  unfold d_X8_put_r43_c5d
  rw [if_neg (by omega)]
  rfl
theorem ad_43 (h : W.1 43 3 < 100) : d_X8_add_r43d a1 a2 a3 a4 a5 a6 W = (vu (vu (vu (vu (vu (vu (vu W 43 3 (W.1 43 3 + 1)) 44 (W.1 43 3 * 6 + 0).toNat a1) 44 (W.1 43 3 * 6 + 1).toNat a2) 44 (W.1 43 3 * 6 + 2).toNat a3) 44 (W.1 43 3 * 6 + 3).toNat a4) 44 (W.1 43 3 * 6 + 4).toNat a5) 44 (W.1 43 3 * 6 + 5).toNat a6) := by
  have z : ∀ (V : jW) (k : Nat) (x : Int), (vu V 44 k x).1 43 3 = V.1 43 3 := fun V k x => vu_n (fun q => absurd q.1 (by decide))
  have y : (vu W 43 3 (W.1 43 3 + 1)).1 43 3 = W.1 43 3 + 1 := vu_e rfl
  unfold d_X8_add_r43d
  rw [if_pos h, pu_43_0 (by rw [y]; omega), pu_43_1 (by rw [z, y]; omega), pu_43_2 (by rw [z, z, y]; omega), pu_43_3 (by rw [z, z, z, y]; omega), pu_43_4 (by rw [z, z, z, z, y]; omega), pu_43_5 (by rw [z, z, z, z, z, y]; omega)]
theorem an_43 (h : W.1 43 3 < 100) : (d_X8_add_r43d a1 a2 a3 a4 a5 a6 W).1 43 3 = W.1 43 3 + 1 := by
  rw [ad_43 h, vu_c (by decide), vu_c (by decide), vu_c (by decide), vu_c (by decide), vu_c (by decide), vu_c (by decide)]
  exact vu_e rfl
theorem pu_63_0 {i x : Int} (h : i < W.1 63 3) : d_X8_put_r63_c0d i x W = vu W 64 (i * 2 + 0).toNat x := by
  unfold d_X8_put_r63_c0d
  rw [if_neg (by omega)]
  rfl
theorem pu_63_1 {i x : Int} (h : i < W.1 63 3) : d_X8_put_r63_c1d i x W = vu W 64 (i * 2 + 1).toNat x := by
  unfold d_X8_put_r63_c1d
  rw [if_neg (by omega)]
  rfl
theorem pu_63_2 {i x : Int} (h : i < W.1 63 3) : d_X8_put_r63_c2d i x W = W := by
  unfold d_X8_put_r63_c2d
  rw [if_neg (by omega)]
  rfl
theorem pu_63_3 {i x : Int} (h : i < W.1 63 3) : d_X8_put_r63_c3d i x W = W := by
  unfold d_X8_put_r63_c3d
  rw [if_neg (by omega)]
  rfl
theorem pu_63_4 {i x : Int} (h : i < W.1 63 3) : d_X8_put_r63_c4d i x W = W := by
  unfold d_X8_put_r63_c4d
  rw [if_neg (by omega)]
  rfl
theorem pu_63_5 {i x : Int} (h : i < W.1 63 3) : d_X8_put_r63_c5d i x W = W := by
  unfold d_X8_put_r63_c5d
  rw [if_neg (by omega)]
  rfl
theorem ad_63 (h : W.1 63 3 < 370) : d_X8_add_r63d a1 a2 a3 a4 a5 a6 W = (vu (vu (vu W 63 3 (W.1 63 3 + 1)) 64 (W.1 63 3 * 2 + 0).toNat a1) 64 (W.1 63 3 * 2 + 1).toNat a2) := by
  have z : ∀ (V : jW) (k : Nat) (x : Int), (vu V 64 k x).1 63 3 = V.1 63 3 := fun V k x => vu_n (fun q => absurd q.1 (by decide))
  have y : (vu W 63 3 (W.1 63 3 + 1)).1 63 3 = W.1 63 3 + 1 := vu_e rfl
  unfold d_X8_add_r63d
  rw [if_pos h, pu_63_0 (by rw [y]; omega), pu_63_1 (by rw [z, y]; omega), pu_63_2 (by rw [z, z, y]; omega), pu_63_3 (by rw [z, z, y]; omega), pu_63_4 (by rw [z, z, y]; omega), pu_63_5 (by rw [z, z, y]; omega)]
theorem an_63 (h : W.1 63 3 < 370) : (d_X8_add_r63d a1 a2 a3 a4 a5 a6 W).1 63 3 = W.1 63 3 + 1 := by
  rw [ad_63 h, vu_c (by decide), vu_c (by decide)]
  exact vu_e rfl
theorem pu_51_0 {i x : Int} (h : i < W.1 51 3) : d_X8_put_r51_c0d i x W = vu W 52 (i * 4 + 0).toNat x := by
  unfold d_X8_put_r51_c0d
  rw [if_neg (by omega)]
  rfl
theorem pu_51_1 {i x : Int} (h : i < W.1 51 3) : d_X8_put_r51_c1d i x W = vu W 52 (i * 4 + 1).toNat x := by
  unfold d_X8_put_r51_c1d
  rw [if_neg (by omega)]
  rfl
theorem pu_51_2 {i x : Int} (h : i < W.1 51 3) : d_X8_put_r51_c2d i x W = vu W 52 (i * 4 + 2).toNat x := by
  unfold d_X8_put_r51_c2d
  rw [if_neg (by omega)]
  rfl
theorem pu_51_3 {i x : Int} (h : i < W.1 51 3) : d_X8_put_r51_c3d i x W = vu W 52 (i * 4 + 3).toNat x := by
  unfold d_X8_put_r51_c3d
  rw [if_neg (by omega)]
  rfl
theorem pu_51_4 {i x : Int} (h : i < W.1 51 3) : d_X8_put_r51_c4d i x W = W := by
  unfold d_X8_put_r51_c4d
  rw [if_neg (by omega)]
  rfl
theorem pu_51_5 {i x : Int} (h : i < W.1 51 3) : d_X8_put_r51_c5d i x W = W := by
  unfold d_X8_put_r51_c5d
  rw [if_neg (by omega)]
  rfl
theorem ad_51 (h : W.1 51 3 < 100) : d_X8_add_r51d a1 a2 a3 a4 a5 a6 W = (vu (vu (vu (vu (vu W 51 3 (W.1 51 3 + 1)) 52 (W.1 51 3 * 4 + 0).toNat a1) 52 (W.1 51 3 * 4 + 1).toNat a2) 52 (W.1 51 3 * 4 + 2).toNat a3) 52 (W.1 51 3 * 4 + 3).toNat a4) := by
  have z : ∀ (V : jW) (k : Nat) (x : Int), (vu V 52 k x).1 51 3 = V.1 51 3 := fun V k x => vu_n (fun q => absurd q.1 (by decide))
  have y : (vu W 51 3 (W.1 51 3 + 1)).1 51 3 = W.1 51 3 + 1 := vu_e rfl
  unfold d_X8_add_r51d
  rw [if_pos h, pu_51_0 (by rw [y]; omega), pu_51_1 (by rw [z, y]; omega), pu_51_2 (by rw [z, z, y]; omega), pu_51_3 (by rw [z, z, z, y]; omega), pu_51_4 (by rw [z, z, z, z, y]; omega), pu_51_5 (by rw [z, z, z, z, y]; omega)]
theorem an_51 (h : W.1 51 3 < 100) : (d_X8_add_r51d a1 a2 a3 a4 a5 a6 W).1 51 3 = W.1 51 3 + 1 := by
  rw [ad_51 h, vu_c (by decide), vu_c (by decide), vu_c (by decide), vu_c (by decide)]
  exact vu_e rfl
theorem pu_49_0 {i x : Int} (h : i < W.1 49 3) : d_X8_put_r49_c0d i x W = vu W 50 (i * 5 + 0).toNat x := by
  unfold d_X8_put_r49_c0d
  rw [if_neg (by omega)]
  rfl
theorem pu_49_1 {i x : Int} (h : i < W.1 49 3) : d_X8_put_r49_c1d i x W = vu W 50 (i * 5 + 1).toNat x := by
  unfold d_X8_put_r49_c1d
  rw [if_neg (by omega)]
  rfl
theorem pu_49_2 {i x : Int} (h : i < W.1 49 3) : d_X8_put_r49_c2d i x W = vu W 50 (i * 5 + 2).toNat x := by
  unfold d_X8_put_r49_c2d
  rw [if_neg (by omega)]
  rfl
theorem pu_49_3 {i x : Int} (h : i < W.1 49 3) : d_X8_put_r49_c3d i x W = vu W 50 (i * 5 + 3).toNat x := by
  unfold d_X8_put_r49_c3d
  rw [if_neg (by omega)]
  rfl
theorem pu_49_4 {i x : Int} (h : i < W.1 49 3) : d_X8_put_r49_c4d i x W = vu W 50 (i * 5 + 4).toNat x := by
  unfold d_X8_put_r49_c4d
  rw [if_neg (by omega)]
  rfl
theorem pu_49_5 {i x : Int} (h : i < W.1 49 3) : d_X8_put_r49_c5d i x W = W := by
  unfold d_X8_put_r49_c5d
  rw [if_neg (by omega)]
  rfl
theorem ad_49 (h : W.1 49 3 < 40) : d_X8_add_r49d a1 a2 a3 a4 a5 a6 W = (vu (vu (vu (vu (vu (vu W 49 3 (W.1 49 3 + 1)) 50 (W.1 49 3 * 5 + 0).toNat a1) 50 (W.1 49 3 * 5 + 1).toNat a2) 50 (W.1 49 3 * 5 + 2).toNat a3) 50 (W.1 49 3 * 5 + 3).toNat a4) 50 (W.1 49 3 * 5 + 4).toNat a5) := by
  have z : ∀ (V : jW) (k : Nat) (x : Int), (vu V 50 k x).1 49 3 = V.1 49 3 := fun V k x => vu_n (fun q => absurd q.1 (by decide))
  have y : (vu W 49 3 (W.1 49 3 + 1)).1 49 3 = W.1 49 3 + 1 := vu_e rfl
  unfold d_X8_add_r49d
  rw [if_pos h, pu_49_0 (by rw [y]; omega), pu_49_1 (by rw [z, y]; omega), pu_49_2 (by rw [z, z, y]; omega), pu_49_3 (by rw [z, z, z, y]; omega), pu_49_4 (by rw [z, z, z, z, y]; omega), pu_49_5 (by rw [z, z, z, z, z, y]; omega)]
theorem an_49 (h : W.1 49 3 < 40) : (d_X8_add_r49d a1 a2 a3 a4 a5 a6 W).1 49 3 = W.1 49 3 + 1 := by
  rw [ad_49 h, vu_c (by decide), vu_c (by decide), vu_c (by decide), vu_c (by decide), vu_c (by decide)]
  exact vu_e rfl
theorem pu_39_0 {i x : Int} (h : i < W.1 39 3) : d_X8_put_r39_c0d i x W = vu W 40 (i * 3 + 0).toNat x := by
  unfold d_X8_put_r39_c0d
  rw [if_neg (by omega)]
  rfl
theorem pu_39_1 {i x : Int} (h : i < W.1 39 3) : d_X8_put_r39_c1d i x W = vu W 40 (i * 3 + 1).toNat x := by
  unfold d_X8_put_r39_c1d
  rw [if_neg (by omega)]
  rfl
theorem pu_39_2 {i x : Int} (h : i < W.1 39 3) : d_X8_put_r39_c2d i x W = vu W 40 (i * 3 + 2).toNat x := by
  unfold d_X8_put_r39_c2d
  rw [if_neg (by omega)]
  rfl
theorem pu_39_3 {i x : Int} (h : i < W.1 39 3) : d_X8_put_r39_c3d i x W = W := by
  unfold d_X8_put_r39_c3d
  rw [if_neg (by omega)]
  rfl
theorem pu_39_4 {i x : Int} (h : i < W.1 39 3) : d_X8_put_r39_c4d i x W = W := by
  unfold d_X8_put_r39_c4d
  rw [if_neg (by omega)]
  rfl
theorem pu_39_5 {i x : Int} (h : i < W.1 39 3) : d_X8_put_r39_c5d i x W = W := by
  unfold d_X8_put_r39_c5d
  rw [if_neg (by omega)]
  rfl
theorem ad_39 (h : W.1 39 3 < 200) : d_X8_add_r39d a1 a2 a3 a4 a5 a6 W = (vu (vu (vu (vu W 39 3 (W.1 39 3 + 1)) 40 (W.1 39 3 * 3 + 0).toNat a1) 40 (W.1 39 3 * 3 + 1).toNat a2) 40 (W.1 39 3 * 3 + 2).toNat a3) := by
  have z : ∀ (V : jW) (k : Nat) (x : Int), (vu V 40 k x).1 39 3 = V.1 39 3 := fun V k x => vu_n (fun q => absurd q.1 (by decide))
  have y : (vu W 39 3 (W.1 39 3 + 1)).1 39 3 = W.1 39 3 + 1 := vu_e rfl
  unfold d_X8_add_r39d
  rw [if_pos h, pu_39_0 (by rw [y]; omega), pu_39_1 (by rw [z, y]; omega), pu_39_2 (by rw [z, z, y]; omega), pu_39_3 (by rw [z, z, z, y]; omega), pu_39_4 (by rw [z, z, z, y]; omega), pu_39_5 (by rw [z, z, z, y]; omega)]
theorem an_39 (h : W.1 39 3 < 200) : (d_X8_add_r39d a1 a2 a3 a4 a5 a6 W).1 39 3 = W.1 39 3 + 1 := by
  rw [ad_39 h, vu_c (by decide), vu_c (by decide), vu_c (by decide)]
  exact vu_e rfl
theorem pu_53_0 {i x : Int} (h : i < W.1 53 3) : d_X8_put_r53_c0d i x W = vu W 54 (i * 4 + 0).toNat x := by
  unfold d_X8_put_r53_c0d
  rw [if_neg (by omega)]
  rfl
theorem pu_53_1 {i x : Int} (h : i < W.1 53 3) : d_X8_put_r53_c1d i x W = vu W 54 (i * 4 + 1).toNat x := by
  unfold d_X8_put_r53_c1d
  rw [if_neg (by omega)]
  rfl
theorem pu_53_2 {i x : Int} (h : i < W.1 53 3) : d_X8_put_r53_c2d i x W = vu W 54 (i * 4 + 2).toNat x := by
  unfold d_X8_put_r53_c2d
  rw [if_neg (by omega)]
  rfl
theorem pu_53_3 {i x : Int} (h : i < W.1 53 3) : d_X8_put_r53_c3d i x W = vu W 54 (i * 4 + 3).toNat x := by
  unfold d_X8_put_r53_c3d
  rw [if_neg (by omega)]
  rfl
theorem pu_53_4 {i x : Int} (h : i < W.1 53 3) : d_X8_put_r53_c4d i x W = W := by
  unfold d_X8_put_r53_c4d
  rw [if_neg (by omega)]
  rfl
theorem pu_53_5 {i x : Int} (h : i < W.1 53 3) : d_X8_put_r53_c5d i x W = W := by
  unfold d_X8_put_r53_c5d
  rw [if_neg (by omega)]
  rfl
theorem ad_53 (h : W.1 53 3 < 40) : d_X8_add_r53d a1 a2 a3 a4 a5 a6 W = (vu (vu (vu (vu (vu W 53 3 (W.1 53 3 + 1)) 54 (W.1 53 3 * 4 + 0).toNat a1) 54 (W.1 53 3 * 4 + 1).toNat a2) 54 (W.1 53 3 * 4 + 2).toNat a3) 54 (W.1 53 3 * 4 + 3).toNat a4) := by
  have z : ∀ (V : jW) (k : Nat) (x : Int), (vu V 54 k x).1 53 3 = V.1 53 3 := fun V k x => vu_n (fun q => absurd q.1 (by decide))
  have y : (vu W 53 3 (W.1 53 3 + 1)).1 53 3 = W.1 53 3 + 1 := vu_e rfl
  unfold d_X8_add_r53d
  rw [if_pos h, pu_53_0 (by rw [y]; omega), pu_53_1 (by rw [z, y]; omega), pu_53_2 (by rw [z, z, y]; omega), pu_53_3 (by rw [z, z, z, y]; omega), pu_53_4 (by rw [z, z, z, z, y]; omega), pu_53_5 (by rw [z, z, z, z, y]; omega)]
theorem an_53 (h : W.1 53 3 < 40) : (d_X8_add_r53d a1 a2 a3 a4 a5 a6 W).1 53 3 = W.1 53 3 + 1 := by
  rw [ad_53 h, vu_c (by decide), vu_c (by decide), vu_c (by decide), vu_c (by decide)]
  exact vu_e rfl
theorem pu_33_0 {i x : Int} (h : i < W.1 33 3) : d_X8_put_r33_c0d i x W = vu W 34 (i * 6 + 0).toNat x := by
  unfold d_X8_put_r33_c0d
  rw [if_neg (by omega)]
  rfl
theorem pu_33_1 {i x : Int} (h : i < W.1 33 3) : d_X8_put_r33_c1d i x W = vu W 34 (i * 6 + 1).toNat x := by
  unfold d_X8_put_r33_c1d
  rw [if_neg (by omega)]
  rfl
theorem pu_33_2 {i x : Int} (h : i < W.1 33 3) : d_X8_put_r33_c2d i x W = vu W 34 (i * 6 + 2).toNat x := by
  unfold d_X8_put_r33_c2d
  rw [if_neg (by omega)]
  rfl
theorem pu_33_3 {i x : Int} (h : i < W.1 33 3) : d_X8_put_r33_c3d i x W = vu W 34 (i * 6 + 3).toNat x := by
  unfold d_X8_put_r33_c3d
  rw [if_neg (by omega)]
  rfl
theorem pu_33_4 {i x : Int} (h : i < W.1 33 3) : d_X8_put_r33_c4d i x W = vu W 34 (i * 6 + 4).toNat x := by
  unfold d_X8_put_r33_c4d
  rw [if_neg (by omega)]
  rfl
theorem pu_33_5 {i x : Int} (h : i < W.1 33 3) : d_X8_put_r33_c5d i x W = vu W 34 (i * 6 + 5).toNat x := by
  unfold d_X8_put_r33_c5d
  rw [if_neg (by omega)]
  rfl
theorem ad_33 (h : W.1 33 3 < 200) : d_X8_add_r33d a1 a2 a3 a4 a5 a6 W = (vu (vu (vu (vu (vu (vu (vu W 33 3 (W.1 33 3 + 1)) 34 (W.1 33 3 * 6 + 0).toNat a1) 34 (W.1 33 3 * 6 + 1).toNat a2) 34 (W.1 33 3 * 6 + 2).toNat a3) 34 (W.1 33 3 * 6 + 3).toNat a4) 34 (W.1 33 3 * 6 + 4).toNat a5) 34 (W.1 33 3 * 6 + 5).toNat a6) := by
  have z : ∀ (V : jW) (k : Nat) (x : Int), (vu V 34 k x).1 33 3 = V.1 33 3 := fun V k x => vu_n (fun q => absurd q.1 (by decide))
  have y : (vu W 33 3 (W.1 33 3 + 1)).1 33 3 = W.1 33 3 + 1 := vu_e rfl
  unfold d_X8_add_r33d
  rw [if_pos h, pu_33_0 (by rw [y]; omega), pu_33_1 (by rw [z, y]; omega), pu_33_2 (by rw [z, z, y]; omega), pu_33_3 (by rw [z, z, z, y]; omega), pu_33_4 (by rw [z, z, z, z, y]; omega), pu_33_5 (by rw [z, z, z, z, z, y]; omega)]
theorem an_33 (h : W.1 33 3 < 200) : (d_X8_add_r33d a1 a2 a3 a4 a5 a6 W).1 33 3 = W.1 33 3 + 1 := by
  rw [ad_33 h, vu_c (by decide), vu_c (by decide), vu_c (by decide), vu_c (by decide), vu_c (by decide), vu_c (by decide)]
  exact vu_e rfl
theorem pu_55_0 {i x : Int} (h : i < W.1 55 3) : d_X8_put_r55_c0d i x W = vu W 56 (i * 5 + 0).toNat x := by
  unfold d_X8_put_r55_c0d
  rw [if_neg (by omega)]
  rfl
theorem pu_55_1 {i x : Int} (h : i < W.1 55 3) : d_X8_put_r55_c1d i x W = vu W 56 (i * 5 + 1).toNat x := by
  unfold d_X8_put_r55_c1d
  rw [if_neg (by omega)]
  rfl
theorem pu_55_2 {i x : Int} (h : i < W.1 55 3) : d_X8_put_r55_c2d i x W = vu W 56 (i * 5 + 2).toNat x := by
  unfold d_X8_put_r55_c2d
  rw [if_neg (by omega)]
  rfl
theorem pu_55_3 {i x : Int} (h : i < W.1 55 3) : d_X8_put_r55_c3d i x W = vu W 56 (i * 5 + 3).toNat x := by
  unfold d_X8_put_r55_c3d
  rw [if_neg (by omega)]
  rfl
theorem pu_55_4 {i x : Int} (h : i < W.1 55 3) : d_X8_put_r55_c4d i x W = vu W 56 (i * 5 + 4).toNat x := by
  unfold d_X8_put_r55_c4d
  rw [if_neg (by omega)]
  rfl
theorem pu_55_5 {i x : Int} (h : i < W.1 55 3) : d_X8_put_r55_c5d i x W = W := by
  unfold d_X8_put_r55_c5d
  rw [if_neg (by omega)]
  rfl
theorem ad_55 (h : W.1 55 3 < 100) : d_X8_add_r55d a1 a2 a3 a4 a5 a6 W = (vu (vu (vu (vu (vu (vu W 55 3 (W.1 55 3 + 1)) 56 (W.1 55 3 * 5 + 0).toNat a1) 56 (W.1 55 3 * 5 + 1).toNat a2) 56 (W.1 55 3 * 5 + 2).toNat a3) 56 (W.1 55 3 * 5 + 3).toNat a4) 56 (W.1 55 3 * 5 + 4).toNat a5) := by
  have z : ∀ (V : jW) (k : Nat) (x : Int), (vu V 56 k x).1 55 3 = V.1 55 3 := fun V k x => vu_n (fun q => absurd q.1 (by decide))
  have y : (vu W 55 3 (W.1 55 3 + 1)).1 55 3 = W.1 55 3 + 1 := vu_e rfl
  unfold d_X8_add_r55d
  rw [if_pos h, pu_55_0 (by rw [y]; omega), pu_55_1 (by rw [z, y]; omega), pu_55_2 (by rw [z, z, y]; omega), pu_55_3 (by rw [z, z, z, y]; omega), pu_55_4 (by rw [z, z, z, z, y]; omega), pu_55_5 (by rw [z, z, z, z, z, y]; omega)]
theorem an_55 (h : W.1 55 3 < 100) : (d_X8_add_r55d a1 a2 a3 a4 a5 a6 W).1 55 3 = W.1 55 3 + 1 := by
  rw [ad_55 h, vu_c (by decide), vu_c (by decide), vu_c (by decide), vu_c (by decide), vu_c (by decide)]
  exact vu_e rfl
theorem pu_61_0 {i x : Int} (h : i < W.1 61 3) : d_X8_put_r61_c0d i x W = vu W 62 (i * 4 + 0).toNat x := by
  unfold d_X8_put_r61_c0d
  rw [if_neg (by omega)]
  rfl
theorem pu_61_1 {i x : Int} (h : i < W.1 61 3) : d_X8_put_r61_c1d i x W = vu W 62 (i * 4 + 1).toNat x := by
  unfold d_X8_put_r61_c1d
  rw [if_neg (by omega)]
  rfl
theorem pu_61_2 {i x : Int} (h : i < W.1 61 3) : d_X8_put_r61_c2d i x W = vu W 62 (i * 4 + 2).toNat x := by
  unfold d_X8_put_r61_c2d
  rw [if_neg (by omega)]
  rfl
theorem pu_61_3 {i x : Int} (h : i < W.1 61 3) : d_X8_put_r61_c3d i x W = vu W 62 (i * 4 + 3).toNat x := by
  unfold d_X8_put_r61_c3d
  rw [if_neg (by omega)]
  rfl
theorem pu_61_4 {i x : Int} (h : i < W.1 61 3) : d_X8_put_r61_c4d i x W = W := by
  unfold d_X8_put_r61_c4d
  rw [if_neg (by omega)]
  rfl
theorem pu_61_5 {i x : Int} (h : i < W.1 61 3) : d_X8_put_r61_c5d i x W = W := by
  unfold d_X8_put_r61_c5d
  rw [if_neg (by omega)]
  rfl
theorem ad_61 (h : W.1 61 3 < 100) : d_X8_add_r61d a1 a2 a3 a4 a5 a6 W = (vu (vu (vu (vu (vu W 61 3 (W.1 61 3 + 1)) 62 (W.1 61 3 * 4 + 0).toNat a1) 62 (W.1 61 3 * 4 + 1).toNat a2) 62 (W.1 61 3 * 4 + 2).toNat a3) 62 (W.1 61 3 * 4 + 3).toNat a4) := by
  have z : ∀ (V : jW) (k : Nat) (x : Int), (vu V 62 k x).1 61 3 = V.1 61 3 := fun V k x => vu_n (fun q => absurd q.1 (by decide))
  have y : (vu W 61 3 (W.1 61 3 + 1)).1 61 3 = W.1 61 3 + 1 := vu_e rfl
  unfold d_X8_add_r61d
  rw [if_pos h, pu_61_0 (by rw [y]; omega), pu_61_1 (by rw [z, y]; omega), pu_61_2 (by rw [z, z, y]; omega), pu_61_3 (by rw [z, z, z, y]; omega), pu_61_4 (by rw [z, z, z, z, y]; omega), pu_61_5 (by rw [z, z, z, z, y]; omega)]
theorem an_61 (h : W.1 61 3 < 100) : (d_X8_add_r61d a1 a2 a3 a4 a5 a6 W).1 61 3 = W.1 61 3 + 1 := by
  rw [ad_61 h, vu_c (by decide), vu_c (by decide), vu_c (by decide), vu_c (by decide)]
  exact vu_e rfl
theorem pu_41_0 {i x : Int} (h : i < W.1 41 3) : d_X8_put_r41_c0d i x W = vu W 42 (i * 4 + 0).toNat x := by
  unfold d_X8_put_r41_c0d
  rw [if_neg (by omega)]
  rfl
theorem pu_41_1 {i x : Int} (h : i < W.1 41 3) : d_X8_put_r41_c1d i x W = vu W 42 (i * 4 + 1).toNat x := by
  unfold d_X8_put_r41_c1d
  rw [if_neg (by omega)]
  rfl
theorem pu_41_2 {i x : Int} (h : i < W.1 41 3) : d_X8_put_r41_c2d i x W = vu W 42 (i * 4 + 2).toNat x := by
  unfold d_X8_put_r41_c2d
  rw [if_neg (by omega)]
  rfl
theorem pu_41_3 {i x : Int} (h : i < W.1 41 3) : d_X8_put_r41_c3d i x W = vu W 42 (i * 4 + 3).toNat x := by
  unfold d_X8_put_r41_c3d
  rw [if_neg (by omega)]
  rfl
theorem pu_41_4 {i x : Int} (h : i < W.1 41 3) : d_X8_put_r41_c4d i x W = W := by
  unfold d_X8_put_r41_c4d
  rw [if_neg (by omega)]
  rfl
theorem pu_41_5 {i x : Int} (h : i < W.1 41 3) : d_X8_put_r41_c5d i x W = W := by
  unfold d_X8_put_r41_c5d
  rw [if_neg (by omega)]
  rfl
theorem ad_41 (h : W.1 41 3 < 20) : d_X8_add_r41d a1 a2 a3 a4 a5 a6 W = (vu (vu (vu (vu (vu W 41 3 (W.1 41 3 + 1)) 42 (W.1 41 3 * 4 + 0).toNat a1) 42 (W.1 41 3 * 4 + 1).toNat a2) 42 (W.1 41 3 * 4 + 2).toNat a3) 42 (W.1 41 3 * 4 + 3).toNat a4) := by
  have z : ∀ (V : jW) (k : Nat) (x : Int), (vu V 42 k x).1 41 3 = V.1 41 3 := fun V k x => vu_n (fun q => absurd q.1 (by decide))
  have y : (vu W 41 3 (W.1 41 3 + 1)).1 41 3 = W.1 41 3 + 1 := vu_e rfl
  unfold d_X8_add_r41d
  rw [if_pos h, pu_41_0 (by rw [y]; omega), pu_41_1 (by rw [z, y]; omega), pu_41_2 (by rw [z, z, y]; omega), pu_41_3 (by rw [z, z, z, y]; omega), pu_41_4 (by rw [z, z, z, z, y]; omega), pu_41_5 (by rw [z, z, z, z, y]; omega)]
theorem an_41 (h : W.1 41 3 < 20) : (d_X8_add_r41d a1 a2 a3 a4 a5 a6 W).1 41 3 = W.1 41 3 + 1 := by
  rw [ad_41 h, vu_c (by decide), vu_c (by decide), vu_c (by decide), vu_c (by decide)]
  exact vu_e rfl
theorem pu_47_0 {i x : Int} (h : i < W.1 47 3) : d_X8_put_r47_c0d i x W = vu W 48 (i * 4 + 0).toNat x := by
  unfold d_X8_put_r47_c0d
  rw [if_neg (by omega)]
  rfl
theorem pu_47_1 {i x : Int} (h : i < W.1 47 3) : d_X8_put_r47_c1d i x W = vu W 48 (i * 4 + 1).toNat x := by
  unfold d_X8_put_r47_c1d
  rw [if_neg (by omega)]
  rfl
theorem pu_47_2 {i x : Int} (h : i < W.1 47 3) : d_X8_put_r47_c2d i x W = vu W 48 (i * 4 + 2).toNat x := by
  unfold d_X8_put_r47_c2d
  rw [if_neg (by omega)]
  rfl
theorem pu_47_3 {i x : Int} (h : i < W.1 47 3) : d_X8_put_r47_c3d i x W = vu W 48 (i * 4 + 3).toNat x := by
  unfold d_X8_put_r47_c3d
  rw [if_neg (by omega)]
  rfl
theorem pu_47_4 {i x : Int} (h : i < W.1 47 3) : d_X8_put_r47_c4d i x W = W := by
  unfold d_X8_put_r47_c4d
  rw [if_neg (by omega)]
  rfl
theorem pu_47_5 {i x : Int} (h : i < W.1 47 3) : d_X8_put_r47_c5d i x W = W := by
  unfold d_X8_put_r47_c5d
  rw [if_neg (by omega)]
  rfl
theorem ad_47 (h : W.1 47 3 < 100) : d_X8_add_r47d a1 a2 a3 a4 a5 a6 W = (vu (vu (vu (vu (vu W 47 3 (W.1 47 3 + 1)) 48 (W.1 47 3 * 4 + 0).toNat a1) 48 (W.1 47 3 * 4 + 1).toNat a2) 48 (W.1 47 3 * 4 + 2).toNat a3) 48 (W.1 47 3 * 4 + 3).toNat a4) := by
  have z : ∀ (V : jW) (k : Nat) (x : Int), (vu V 48 k x).1 47 3 = V.1 47 3 := fun V k x => vu_n (fun q => absurd q.1 (by decide))
  have y : (vu W 47 3 (W.1 47 3 + 1)).1 47 3 = W.1 47 3 + 1 := vu_e rfl
  unfold d_X8_add_r47d
  rw [if_pos h, pu_47_0 (by rw [y]; omega), pu_47_1 (by rw [z, y]; omega), pu_47_2 (by rw [z, z, y]; omega), pu_47_3 (by rw [z, z, z, y]; omega), pu_47_4 (by rw [z, z, z, z, y]; omega), pu_47_5 (by rw [z, z, z, z, y]; omega)]
theorem an_47 (h : W.1 47 3 < 100) : (d_X8_add_r47d a1 a2 a3 a4 a5 a6 W).1 47 3 = W.1 47 3 + 1 := by
  rw [ad_47 h, vu_c (by decide), vu_c (by decide), vu_c (by decide), vu_c (by decide)]
  exact vu_e rfl
end
theorem da_2 {X V : jW} {n u0 u1 : Int} (hn : V.1 126 1 = n) (T : pD X 32 (V.1 126)) (h : n < 60) : pD (d_X8_add_r37d u0 u1 0 0 0 0 X) 32 ((vu (vu (vu V 126 (18020 + 2 * n).toNat u0) 126 (18020 + 2 * n + 1).toNat u1) 126 1 (n + 1)).1 126) := by
  have t := T.1 pt_2 (by decide)
  have e : X.1 37 3 = n := t.1.trans hn
  have b : 0 ≤ V.1 126 1 ∧ V.1 126 1 ≤ 60 := t.2.1
  rw [hn] at b
  have a := @ad_37 X u0 u1 0 0 0 0 (by omega)
  refine pD_a (l := fw_X8_add_r37d) (c := 1) (lo := 18020) (hi := 18140) pt_2 (fr_d_X8_add_r37d _ _ _ _ _ _ _) ?_ ?_ rfl T
  · intro j h1 h2
    repeat rw [vu_n (by omega)]
  · refine pT_add (fun q => [u0, u1].getD q 0) t (by show V.1 126 1 < 60; omega) ?_ ?_ ?_ ?_ ?_ ?_
    · show (d_X8_add_r37d u0 u1 0 0 0 0 X).1 37 3 = V.1 126 1 + 1
      rw [an_37 (by omega), e, hn]
    · intro k hk
      change (k : Int) < 2 * V.1 126 1 at hk
      show (d_X8_add_r37d u0 u1 0 0 0 0 X).1 38 k = X.1 38 k
      rw [a]
      repeat rw [vu_n (by omega)]
    · intro q hq
      change q < 2 at hq
      show (d_X8_add_r37d u0 u1 0 0 0 0 X).1 38 (2 * (V.1 126 1).toNat + q) = [u0, u1].getD q 0
      rw [a, hn]
      rcases (show q = 0 ∨ q = 1 from by omega) with rfl | rfl
      · repeat rw [vu_n (by omega)]
        exact vu_e (by omega)
      · repeat rw [vu_n (by omega)]
        exact vu_e (by omega)
    · show (vu (vu (vu V 126 (18020 + 2 * n).toNat u0) 126 (18020 + 2 * n + 1).toNat u1) 126 1 (n + 1)).1 126 1 = V.1 126 1 + 1
      rw [hn]
      exact vu_e rfl
    · intro i q hi hq
      change q < 2 at hq
      change (i : Int) < V.1 126 1 at hi
      rw [hn] at hi
      rcases (show q = 0 ∨ q = 1 from by omega) with rfl | rfl
      · show (vu (vu (vu V 126 (18020 + 2 * n).toNat u0) 126 (18020 + 2 * n + 1).toNat u1) 126 1 (n + 1)).1 126 (18020 + 2 * i + 0) = V.1 126 (18020 + 2 * i + 0)
        repeat rw [vu_n (by omega)]
      · show (vu (vu (vu V 126 (18020 + 2 * n).toNat u0) 126 (18020 + 2 * n + 1).toNat u1) 126 1 (n + 1)).1 126 (18020 + 2 * i + 1) = V.1 126 (18020 + 2 * i + 1)
        repeat rw [vu_n (by omega)]
    · intro q hq
      change q < 2 at hq
      rw [show V.1 126 pt_2.2.2.1 = n from hn]
      rcases (show q = 0 ∨ q = 1 from by omega) with rfl | rfl
      · show (vu (vu (vu V 126 (18020 + 2 * n).toNat u0) 126 (18020 + 2 * n + 1).toNat u1) 126 1 (n + 1)).1 126 (18020 + 2 * n.toNat + 0) = u0
        repeat rw [vu_n (by omega)]
        exact vu_e (by omega)
      · show (vu (vu (vu V 126 (18020 + 2 * n).toNat u0) 126 (18020 + 2 * n + 1).toNat u1) 126 1 (n + 1)).1 126 (18020 + 2 * n.toNat + 1) = u1
        repeat rw [vu_n (by omega)]
        exact vu_e (by omega)
theorem da_4 {X V : jW} {n u0 u1 u2 u3 : Int} (hn : V.1 126 3 = n) (T : pD X 32 (V.1 126)) (h : n < 20) : pD (d_X8_add_r41d u3 u1 u2 u0 0 0 X) 32 ((vu (vu (vu (vu (vu V 126 (18740 + 4 * n).toNat u0) 126 (18740 + 4 * n + 1).toNat u1) 126 (18740 + 4 * n + 2).toNat u2) 126 (18740 + 4 * n + 3).toNat u3) 126 3 (n + 1)).1 126) := by
  have t := T.1 pt_4 (by decide)
  have e : X.1 41 3 = n := t.1.trans hn
  have b : 0 ≤ V.1 126 3 ∧ V.1 126 3 ≤ 20 := t.2.1
  rw [hn] at b
  have a := @ad_41 X u3 u1 u2 u0 0 0 (by omega)
  refine pD_a (l := fw_X8_add_r41d) (c := 3) (lo := 18740) (hi := 18820) pt_4 (fr_d_X8_add_r41d _ _ _ _ _ _ _) ?_ ?_ rfl T
  · intro j h1 h2
    repeat rw [vu_n (by omega)]
  · refine pT_add (fun q => [u3, u1, u2, u0].getD q 0) t (by show V.1 126 3 < 20; omega) ?_ ?_ ?_ ?_ ?_ ?_
    · show (d_X8_add_r41d u3 u1 u2 u0 0 0 X).1 41 3 = V.1 126 3 + 1
      rw [an_41 (by omega), e, hn]
    · intro k hk
      change (k : Int) < 4 * V.1 126 3 at hk
      show (d_X8_add_r41d u3 u1 u2 u0 0 0 X).1 42 k = X.1 42 k
      rw [a]
      repeat rw [vu_n (by omega)]
    · intro q hq
      change q < 4 at hq
      show (d_X8_add_r41d u3 u1 u2 u0 0 0 X).1 42 (4 * (V.1 126 3).toNat + q) = [u3, u1, u2, u0].getD q 0
      rw [a, hn]
      rcases (show q = 0 ∨ q = 1 ∨ q = 2 ∨ q = 3 from by omega) with rfl | rfl | rfl | rfl
      · repeat rw [vu_n (by omega)]
        exact vu_e (by omega)
      · repeat rw [vu_n (by omega)]
        exact vu_e (by omega)
      · repeat rw [vu_n (by omega)]
        exact vu_e (by omega)
      · repeat rw [vu_n (by omega)]
        exact vu_e (by omega)
    · show (vu (vu (vu (vu (vu V 126 (18740 + 4 * n).toNat u0) 126 (18740 + 4 * n + 1).toNat u1) 126 (18740 + 4 * n + 2).toNat u2) 126 (18740 + 4 * n + 3).toNat u3) 126 3 (n + 1)).1 126 3 = V.1 126 3 + 1
      rw [hn]
      exact vu_e rfl
    · intro i q hi hq
      change q < 4 at hq
      change (i : Int) < V.1 126 3 at hi
      rw [hn] at hi
      rcases (show q = 0 ∨ q = 1 ∨ q = 2 ∨ q = 3 from by omega) with rfl | rfl | rfl | rfl
      · show (vu (vu (vu (vu (vu V 126 (18740 + 4 * n).toNat u0) 126 (18740 + 4 * n + 1).toNat u1) 126 (18740 + 4 * n + 2).toNat u2) 126 (18740 + 4 * n + 3).toNat u3) 126 3 (n + 1)).1 126 (18740 + 4 * i + 3) = V.1 126 (18740 + 4 * i + 3)
        repeat rw [vu_n (by omega)]
      · show (vu (vu (vu (vu (vu V 126 (18740 + 4 * n).toNat u0) 126 (18740 + 4 * n + 1).toNat u1) 126 (18740 + 4 * n + 2).toNat u2) 126 (18740 + 4 * n + 3).toNat u3) 126 3 (n + 1)).1 126 (18740 + 4 * i + 1) = V.1 126 (18740 + 4 * i + 1)
        repeat rw [vu_n (by omega)]
      · show (vu (vu (vu (vu (vu V 126 (18740 + 4 * n).toNat u0) 126 (18740 + 4 * n + 1).toNat u1) 126 (18740 + 4 * n + 2).toNat u2) 126 (18740 + 4 * n + 3).toNat u3) 126 3 (n + 1)).1 126 (18740 + 4 * i + 2) = V.1 126 (18740 + 4 * i + 2)
        repeat rw [vu_n (by omega)]
      · show (vu (vu (vu (vu (vu V 126 (18740 + 4 * n).toNat u0) 126 (18740 + 4 * n + 1).toNat u1) 126 (18740 + 4 * n + 2).toNat u2) 126 (18740 + 4 * n + 3).toNat u3) 126 3 (n + 1)).1 126 (18740 + 4 * i + 0) = V.1 126 (18740 + 4 * i + 0)
        repeat rw [vu_n (by omega)]
    · intro q hq
      change q < 4 at hq
      rw [show V.1 126 pt_4.2.2.1 = n from hn]
      rcases (show q = 0 ∨ q = 1 ∨ q = 2 ∨ q = 3 from by omega) with rfl | rfl | rfl | rfl
      · show (vu (vu (vu (vu (vu V 126 (18740 + 4 * n).toNat u0) 126 (18740 + 4 * n + 1).toNat u1) 126 (18740 + 4 * n + 2).toNat u2) 126 (18740 + 4 * n + 3).toNat u3) 126 3 (n + 1)).1 126 (18740 + 4 * n.toNat + 3) = u3
        repeat rw [vu_n (by omega)]
        exact vu_e (by omega)
      · show (vu (vu (vu (vu (vu V 126 (18740 + 4 * n).toNat u0) 126 (18740 + 4 * n + 1).toNat u1) 126 (18740 + 4 * n + 2).toNat u2) 126 (18740 + 4 * n + 3).toNat u3) 126 3 (n + 1)).1 126 (18740 + 4 * n.toNat + 1) = u1
        repeat rw [vu_n (by omega)]
        exact vu_e (by omega)
      · show (vu (vu (vu (vu (vu V 126 (18740 + 4 * n).toNat u0) 126 (18740 + 4 * n + 1).toNat u1) 126 (18740 + 4 * n + 2).toNat u2) 126 (18740 + 4 * n + 3).toNat u3) 126 3 (n + 1)).1 126 (18740 + 4 * n.toNat + 2) = u2
        repeat rw [vu_n (by omega)]
        exact vu_e (by omega)
      · show (vu (vu (vu (vu (vu V 126 (18740 + 4 * n).toNat u0) 126 (18740 + 4 * n + 1).toNat u1) 126 (18740 + 4 * n + 2).toNat u2) 126 (18740 + 4 * n + 3).toNat u3) 126 3 (n + 1)).1 126 (18740 + 4 * n.toNat + 0) = u0
        repeat rw [vu_n (by omega)]
        exact vu_e (by omega)
theorem da_5 {X V : jW} {n u0 u1 u2 u3 u4 u5 : Int} (hn : V.1 126 5 = n) (T : pD X 32 (V.1 126)) (h : n < 100) : pD (d_X8_add_r43d u5 u3 u4 u0 u1 u2 X) 32 ((vu (vu (vu (vu (vu (vu (vu V 126 (46540 + 6 * n).toNat u0) 126 (46540 + 6 * n + 1).toNat u1) 126 (46540 + 6 * n + 2).toNat u2) 126 (46540 + 6 * n + 3).toNat u3) 126 (46540 + 6 * n + 4).toNat u4) 126 (46540 + 6 * n + 5).toNat u5) 126 5 (n + 1)).1 126) := by
  have t := T.1 pt_5 (by decide)
  have e : X.1 43 3 = n := t.1.trans hn
  have b : 0 ≤ V.1 126 5 ∧ V.1 126 5 ≤ 100 := t.2.1
  rw [hn] at b
  have a := @ad_43 X u5 u3 u4 u0 u1 u2 (by omega)
  refine pD_a (l := fw_X8_add_r43d) (c := 5) (lo := 46540) (hi := 47140) pt_5 (fr_d_X8_add_r43d _ _ _ _ _ _ _) ?_ ?_ rfl T
  · intro j h1 h2
    repeat rw [vu_n (by omega)]
  · refine pT_add (fun q => [u5, u3, u4, u0, u1, u2].getD q 0) t (by show V.1 126 5 < 100; omega) ?_ ?_ ?_ ?_ ?_ ?_
    · show (d_X8_add_r43d u5 u3 u4 u0 u1 u2 X).1 43 3 = V.1 126 5 + 1
      rw [an_43 (by omega), e, hn]
    · intro k hk
      change (k : Int) < 6 * V.1 126 5 at hk
      show (d_X8_add_r43d u5 u3 u4 u0 u1 u2 X).1 44 k = X.1 44 k
      rw [a]
      repeat rw [vu_n (by omega)]
    · intro q hq
      change q < 6 at hq
      show (d_X8_add_r43d u5 u3 u4 u0 u1 u2 X).1 44 (6 * (V.1 126 5).toNat + q) = [u5, u3, u4, u0, u1, u2].getD q 0
      rw [a, hn]
      rcases (show q = 0 ∨ q = 1 ∨ q = 2 ∨ q = 3 ∨ q = 4 ∨ q = 5 from by omega) with rfl | rfl | rfl | rfl | rfl | rfl
      · repeat rw [vu_n (by omega)]
        exact vu_e (by omega)
      · repeat rw [vu_n (by omega)]
        exact vu_e (by omega)
      · repeat rw [vu_n (by omega)]
        exact vu_e (by omega)
      · repeat rw [vu_n (by omega)]
        exact vu_e (by omega)
      · repeat rw [vu_n (by omega)]
        exact vu_e (by omega)
      · repeat rw [vu_n (by omega)]
        exact vu_e (by omega)
    · show (vu (vu (vu (vu (vu (vu (vu V 126 (46540 + 6 * n).toNat u0) 126 (46540 + 6 * n + 1).toNat u1) 126 (46540 + 6 * n + 2).toNat u2) 126 (46540 + 6 * n + 3).toNat u3) 126 (46540 + 6 * n + 4).toNat u4) 126 (46540 + 6 * n + 5).toNat u5) 126 5 (n + 1)).1 126 5 = V.1 126 5 + 1
      rw [hn]
      exact vu_e rfl
    · intro i q hi hq
      change q < 6 at hq
      change (i : Int) < V.1 126 5 at hi
      rw [hn] at hi
      rcases (show q = 0 ∨ q = 1 ∨ q = 2 ∨ q = 3 ∨ q = 4 ∨ q = 5 from by omega) with rfl | rfl | rfl | rfl | rfl | rfl
      · show (vu (vu (vu (vu (vu (vu (vu V 126 (46540 + 6 * n).toNat u0) 126 (46540 + 6 * n + 1).toNat u1) 126 (46540 + 6 * n + 2).toNat u2) 126 (46540 + 6 * n + 3).toNat u3) 126 (46540 + 6 * n + 4).toNat u4) 126 (46540 + 6 * n + 5).toNat u5) 126 5 (n + 1)).1 126 (46540 + 6 * i + 5) = V.1 126 (46540 + 6 * i + 5)
        repeat rw [vu_n (by omega)]
      · show (vu (vu (vu (vu (vu (vu (vu V 126 (46540 + 6 * n).toNat u0) 126 (46540 + 6 * n + 1).toNat u1) 126 (46540 + 6 * n + 2).toNat u2) 126 (46540 + 6 * n + 3).toNat u3) 126 (46540 + 6 * n + 4).toNat u4) 126 (46540 + 6 * n + 5).toNat u5) 126 5 (n + 1)).1 126 (46540 + 6 * i + 3) = V.1 126 (46540 + 6 * i + 3)
        repeat rw [vu_n (by omega)]
      · show (vu (vu (vu (vu (vu (vu (vu V 126 (46540 + 6 * n).toNat u0) 126 (46540 + 6 * n + 1).toNat u1) 126 (46540 + 6 * n + 2).toNat u2) 126 (46540 + 6 * n + 3).toNat u3) 126 (46540 + 6 * n + 4).toNat u4) 126 (46540 + 6 * n + 5).toNat u5) 126 5 (n + 1)).1 126 (46540 + 6 * i + 4) = V.1 126 (46540 + 6 * i + 4)
        repeat rw [vu_n (by omega)]
      · show (vu (vu (vu (vu (vu (vu (vu V 126 (46540 + 6 * n).toNat u0) 126 (46540 + 6 * n + 1).toNat u1) 126 (46540 + 6 * n + 2).toNat u2) 126 (46540 + 6 * n + 3).toNat u3) 126 (46540 + 6 * n + 4).toNat u4) 126 (46540 + 6 * n + 5).toNat u5) 126 5 (n + 1)).1 126 (46540 + 6 * i + 0) = V.1 126 (46540 + 6 * i + 0)
        repeat rw [vu_n (by omega)]
      · show (vu (vu (vu (vu (vu (vu (vu V 126 (46540 + 6 * n).toNat u0) 126 (46540 + 6 * n + 1).toNat u1) 126 (46540 + 6 * n + 2).toNat u2) 126 (46540 + 6 * n + 3).toNat u3) 126 (46540 + 6 * n + 4).toNat u4) 126 (46540 + 6 * n + 5).toNat u5) 126 5 (n + 1)).1 126 (46540 + 6 * i + 1) = V.1 126 (46540 + 6 * i + 1)
        repeat rw [vu_n (by omega)]
      · show (vu (vu (vu (vu (vu (vu (vu V 126 (46540 + 6 * n).toNat u0) 126 (46540 + 6 * n + 1).toNat u1) 126 (46540 + 6 * n + 2).toNat u2) 126 (46540 + 6 * n + 3).toNat u3) 126 (46540 + 6 * n + 4).toNat u4) 126 (46540 + 6 * n + 5).toNat u5) 126 5 (n + 1)).1 126 (46540 + 6 * i + 2) = V.1 126 (46540 + 6 * i + 2)
        repeat rw [vu_n (by omega)]
    · intro q hq
      change q < 6 at hq
      rw [show V.1 126 pt_5.2.2.1 = n from hn]
      rcases (show q = 0 ∨ q = 1 ∨ q = 2 ∨ q = 3 ∨ q = 4 ∨ q = 5 from by omega) with rfl | rfl | rfl | rfl | rfl | rfl
      · show (vu (vu (vu (vu (vu (vu (vu V 126 (46540 + 6 * n).toNat u0) 126 (46540 + 6 * n + 1).toNat u1) 126 (46540 + 6 * n + 2).toNat u2) 126 (46540 + 6 * n + 3).toNat u3) 126 (46540 + 6 * n + 4).toNat u4) 126 (46540 + 6 * n + 5).toNat u5) 126 5 (n + 1)).1 126 (46540 + 6 * n.toNat + 5) = u5
        repeat rw [vu_n (by omega)]
        exact vu_e (by omega)
      · show (vu (vu (vu (vu (vu (vu (vu V 126 (46540 + 6 * n).toNat u0) 126 (46540 + 6 * n + 1).toNat u1) 126 (46540 + 6 * n + 2).toNat u2) 126 (46540 + 6 * n + 3).toNat u3) 126 (46540 + 6 * n + 4).toNat u4) 126 (46540 + 6 * n + 5).toNat u5) 126 5 (n + 1)).1 126 (46540 + 6 * n.toNat + 3) = u3
        repeat rw [vu_n (by omega)]
        exact vu_e (by omega)
      · show (vu (vu (vu (vu (vu (vu (vu V 126 (46540 + 6 * n).toNat u0) 126 (46540 + 6 * n + 1).toNat u1) 126 (46540 + 6 * n + 2).toNat u2) 126 (46540 + 6 * n + 3).toNat u3) 126 (46540 + 6 * n + 4).toNat u4) 126 (46540 + 6 * n + 5).toNat u5) 126 5 (n + 1)).1 126 (46540 + 6 * n.toNat + 4) = u4
        repeat rw [vu_n (by omega)]
        exact vu_e (by omega)
      · show (vu (vu (vu (vu (vu (vu (vu V 126 (46540 + 6 * n).toNat u0) 126 (46540 + 6 * n + 1).toNat u1) 126 (46540 + 6 * n + 2).toNat u2) 126 (46540 + 6 * n + 3).toNat u3) 126 (46540 + 6 * n + 4).toNat u4) 126 (46540 + 6 * n + 5).toNat u5) 126 5 (n + 1)).1 126 (46540 + 6 * n.toNat + 0) = u0
        repeat rw [vu_n (by omega)]
        exact vu_e (by omega)
      · show (vu (vu (vu (vu (vu (vu (vu V 126 (46540 + 6 * n).toNat u0) 126 (46540 + 6 * n + 1).toNat u1) 126 (46540 + 6 * n + 2).toNat u2) 126 (46540 + 6 * n + 3).toNat u3) 126 (46540 + 6 * n + 4).toNat u4) 126 (46540 + 6 * n + 5).toNat u5) 126 5 (n + 1)).1 126 (46540 + 6 * n.toNat + 1) = u1
        repeat rw [vu_n (by omega)]
        exact vu_e (by omega)
      · show (vu (vu (vu (vu (vu (vu (vu V 126 (46540 + 6 * n).toNat u0) 126 (46540 + 6 * n + 1).toNat u1) 126 (46540 + 6 * n + 2).toNat u2) 126 (46540 + 6 * n + 3).toNat u3) 126 (46540 + 6 * n + 4).toNat u4) 126 (46540 + 6 * n + 5).toNat u5) 126 5 (n + 1)).1 126 (46540 + 6 * n.toNat + 2) = u2
        repeat rw [vu_n (by omega)]
        exact vu_e (by omega)
theorem da_6 {X V : jW} {n u0 u1 u2 : Int} (hn : V.1 126 6 = n) (T : pD X 32 (V.1 126)) (h : n < 40) : pD (d_X8_add_r45d u2 u1 u0 0 0 0 X) 32 ((vu (vu (vu (vu V 126 (47140 + 3 * n).toNat u0) 126 (47140 + 3 * n + 1).toNat u1) 126 (47140 + 3 * n + 2).toNat u2) 126 6 (n + 1)).1 126) := by
  have t := T.1 pt_6 (by decide)
  have e : X.1 45 3 = n := t.1.trans hn
  have b : 0 ≤ V.1 126 6 ∧ V.1 126 6 ≤ 40 := t.2.1
  rw [hn] at b
  have a := @ad_45 X u2 u1 u0 0 0 0 (by omega)
  refine pD_a (l := fw_X8_add_r45d) (c := 6) (lo := 47140) (hi := 47260) pt_6 (fr_d_X8_add_r45d _ _ _ _ _ _ _) ?_ ?_ rfl T
  · intro j h1 h2
    repeat rw [vu_n (by omega)]
  · refine pT_add (fun q => [u2, u1, u0].getD q 0) t (by show V.1 126 6 < 40; omega) ?_ ?_ ?_ ?_ ?_ ?_
    · show (d_X8_add_r45d u2 u1 u0 0 0 0 X).1 45 3 = V.1 126 6 + 1
      rw [an_45 (by omega), e, hn]
    · intro k hk
      change (k : Int) < 3 * V.1 126 6 at hk
      show (d_X8_add_r45d u2 u1 u0 0 0 0 X).1 46 k = X.1 46 k
      rw [a]
      repeat rw [vu_n (by omega)]
    · intro q hq
      change q < 3 at hq
      show (d_X8_add_r45d u2 u1 u0 0 0 0 X).1 46 (3 * (V.1 126 6).toNat + q) = [u2, u1, u0].getD q 0
      rw [a, hn]
      rcases (show q = 0 ∨ q = 1 ∨ q = 2 from by omega) with rfl | rfl | rfl
      · repeat rw [vu_n (by omega)]
        exact vu_e (by omega)
      · repeat rw [vu_n (by omega)]
        exact vu_e (by omega)
      · repeat rw [vu_n (by omega)]
        exact vu_e (by omega)
    · show (vu (vu (vu (vu V 126 (47140 + 3 * n).toNat u0) 126 (47140 + 3 * n + 1).toNat u1) 126 (47140 + 3 * n + 2).toNat u2) 126 6 (n + 1)).1 126 6 = V.1 126 6 + 1
      rw [hn]
      exact vu_e rfl
    · intro i q hi hq
      change q < 3 at hq
      change (i : Int) < V.1 126 6 at hi
      rw [hn] at hi
      rcases (show q = 0 ∨ q = 1 ∨ q = 2 from by omega) with rfl | rfl | rfl
      · show (vu (vu (vu (vu V 126 (47140 + 3 * n).toNat u0) 126 (47140 + 3 * n + 1).toNat u1) 126 (47140 + 3 * n + 2).toNat u2) 126 6 (n + 1)).1 126 (47140 + 3 * i + 2) = V.1 126 (47140 + 3 * i + 2)
        repeat rw [vu_n (by omega)]
      · show (vu (vu (vu (vu V 126 (47140 + 3 * n).toNat u0) 126 (47140 + 3 * n + 1).toNat u1) 126 (47140 + 3 * n + 2).toNat u2) 126 6 (n + 1)).1 126 (47140 + 3 * i + 1) = V.1 126 (47140 + 3 * i + 1)
        repeat rw [vu_n (by omega)]
      · show (vu (vu (vu (vu V 126 (47140 + 3 * n).toNat u0) 126 (47140 + 3 * n + 1).toNat u1) 126 (47140 + 3 * n + 2).toNat u2) 126 6 (n + 1)).1 126 (47140 + 3 * i + 0) = V.1 126 (47140 + 3 * i + 0)
        repeat rw [vu_n (by omega)]
    · intro q hq
      change q < 3 at hq
      rw [show V.1 126 pt_6.2.2.1 = n from hn]
      rcases (show q = 0 ∨ q = 1 ∨ q = 2 from by omega) with rfl | rfl | rfl
      · show (vu (vu (vu (vu V 126 (47140 + 3 * n).toNat u0) 126 (47140 + 3 * n + 1).toNat u1) 126 (47140 + 3 * n + 2).toNat u2) 126 6 (n + 1)).1 126 (47140 + 3 * n.toNat + 2) = u2
        repeat rw [vu_n (by omega)]
        exact vu_e (by omega)
      · show (vu (vu (vu (vu V 126 (47140 + 3 * n).toNat u0) 126 (47140 + 3 * n + 1).toNat u1) 126 (47140 + 3 * n + 2).toNat u2) 126 6 (n + 1)).1 126 (47140 + 3 * n.toNat + 1) = u1
        repeat rw [vu_n (by omega)]
        exact vu_e (by omega)
      · show (vu (vu (vu (vu V 126 (47140 + 3 * n).toNat u0) 126 (47140 + 3 * n + 1).toNat u1) 126 (47140 + 3 * n + 2).toNat u2) 126 6 (n + 1)).1 126 (47140 + 3 * n.toNat + 0) = u0
        repeat rw [vu_n (by omega)]
        exact vu_e (by omega)
theorem da_7 {X V : jW} {n u0 u1 u2 u3 : Int} (hn : V.1 126 8 = n) (T : pD X 32 (V.1 126)) (h : n < 100) : pD (d_X8_add_r47d u3 u2 u0 u1 0 0 X) 32 ((vu (vu (vu (vu (vu V 126 (47260 + 4 * n).toNat u0) 126 (47260 + 4 * n + 1).toNat u1) 126 (47260 + 4 * n + 2).toNat u2) 126 (47260 + 4 * n + 3).toNat u3) 126 8 (n + 1)).1 126) := by
  have t := T.1 pt_7 (by decide)
  have e : X.1 47 3 = n := t.1.trans hn
  have b : 0 ≤ V.1 126 8 ∧ V.1 126 8 ≤ 100 := t.2.1
  rw [hn] at b
  have a := @ad_47 X u3 u2 u0 u1 0 0 (by omega)
  refine pD_a (l := fw_X8_add_r47d) (c := 8) (lo := 47260) (hi := 47660) pt_7 (fr_d_X8_add_r47d _ _ _ _ _ _ _) ?_ ?_ rfl T
  · intro j h1 h2
    repeat rw [vu_n (by omega)]
  · refine pT_add (fun q => [u3, u2, u0, u1].getD q 0) t (by show V.1 126 8 < 100; omega) ?_ ?_ ?_ ?_ ?_ ?_
    · show (d_X8_add_r47d u3 u2 u0 u1 0 0 X).1 47 3 = V.1 126 8 + 1
      rw [an_47 (by omega), e, hn]
    · intro k hk
      change (k : Int) < 4 * V.1 126 8 at hk
      show (d_X8_add_r47d u3 u2 u0 u1 0 0 X).1 48 k = X.1 48 k
      rw [a]
      repeat rw [vu_n (by omega)]
    · intro q hq
      change q < 4 at hq
      show (d_X8_add_r47d u3 u2 u0 u1 0 0 X).1 48 (4 * (V.1 126 8).toNat + q) = [u3, u2, u0, u1].getD q 0
      rw [a, hn]
      rcases (show q = 0 ∨ q = 1 ∨ q = 2 ∨ q = 3 from by omega) with rfl | rfl | rfl | rfl
      · repeat rw [vu_n (by omega)]
        exact vu_e (by omega)
      · repeat rw [vu_n (by omega)]
        exact vu_e (by omega)
      · repeat rw [vu_n (by omega)]
        exact vu_e (by omega)
      · repeat rw [vu_n (by omega)]
        exact vu_e (by omega)
    · show (vu (vu (vu (vu (vu V 126 (47260 + 4 * n).toNat u0) 126 (47260 + 4 * n + 1).toNat u1) 126 (47260 + 4 * n + 2).toNat u2) 126 (47260 + 4 * n + 3).toNat u3) 126 8 (n + 1)).1 126 8 = V.1 126 8 + 1
      rw [hn]
      exact vu_e rfl
    · intro i q hi hq
      change q < 4 at hq
      change (i : Int) < V.1 126 8 at hi
      rw [hn] at hi
      rcases (show q = 0 ∨ q = 1 ∨ q = 2 ∨ q = 3 from by omega) with rfl | rfl | rfl | rfl
      · show (vu (vu (vu (vu (vu V 126 (47260 + 4 * n).toNat u0) 126 (47260 + 4 * n + 1).toNat u1) 126 (47260 + 4 * n + 2).toNat u2) 126 (47260 + 4 * n + 3).toNat u3) 126 8 (n + 1)).1 126 (47260 + 4 * i + 3) = V.1 126 (47260 + 4 * i + 3)
        repeat rw [vu_n (by omega)]
      · show (vu (vu (vu (vu (vu V 126 (47260 + 4 * n).toNat u0) 126 (47260 + 4 * n + 1).toNat u1) 126 (47260 + 4 * n + 2).toNat u2) 126 (47260 + 4 * n + 3).toNat u3) 126 8 (n + 1)).1 126 (47260 + 4 * i + 2) = V.1 126 (47260 + 4 * i + 2)
        repeat rw [vu_n (by omega)]
      · show (vu (vu (vu (vu (vu V 126 (47260 + 4 * n).toNat u0) 126 (47260 + 4 * n + 1).toNat u1) 126 (47260 + 4 * n + 2).toNat u2) 126 (47260 + 4 * n + 3).toNat u3) 126 8 (n + 1)).1 126 (47260 + 4 * i + 0) = V.1 126 (47260 + 4 * i + 0)
        repeat rw [vu_n (by omega)]
      · show (vu (vu (vu (vu (vu V 126 (47260 + 4 * n).toNat u0) 126 (47260 + 4 * n + 1).toNat u1) 126 (47260 + 4 * n + 2).toNat u2) 126 (47260 + 4 * n + 3).toNat u3) 126 8 (n + 1)).1 126 (47260 + 4 * i + 1) = V.1 126 (47260 + 4 * i + 1)
        repeat rw [vu_n (by omega)]
    · intro q hq
      change q < 4 at hq
      rw [show V.1 126 pt_7.2.2.1 = n from hn]
      rcases (show q = 0 ∨ q = 1 ∨ q = 2 ∨ q = 3 from by omega) with rfl | rfl | rfl | rfl
      · show (vu (vu (vu (vu (vu V 126 (47260 + 4 * n).toNat u0) 126 (47260 + 4 * n + 1).toNat u1) 126 (47260 + 4 * n + 2).toNat u2) 126 (47260 + 4 * n + 3).toNat u3) 126 8 (n + 1)).1 126 (47260 + 4 * n.toNat + 3) = u3
        repeat rw [vu_n (by omega)]
        exact vu_e (by omega)
      · show (vu (vu (vu (vu (vu V 126 (47260 + 4 * n).toNat u0) 126 (47260 + 4 * n + 1).toNat u1) 126 (47260 + 4 * n + 2).toNat u2) 126 (47260 + 4 * n + 3).toNat u3) 126 8 (n + 1)).1 126 (47260 + 4 * n.toNat + 2) = u2
        repeat rw [vu_n (by omega)]
        exact vu_e (by omega)
      · show (vu (vu (vu (vu (vu V 126 (47260 + 4 * n).toNat u0) 126 (47260 + 4 * n + 1).toNat u1) 126 (47260 + 4 * n + 2).toNat u2) 126 (47260 + 4 * n + 3).toNat u3) 126 8 (n + 1)).1 126 (47260 + 4 * n.toNat + 0) = u0
        repeat rw [vu_n (by omega)]
        exact vu_e (by omega)
      · show (vu (vu (vu (vu (vu V 126 (47260 + 4 * n).toNat u0) 126 (47260 + 4 * n + 1).toNat u1) 126 (47260 + 4 * n + 2).toNat u2) 126 (47260 + 4 * n + 3).toNat u3) 126 8 (n + 1)).1 126 (47260 + 4 * n.toNat + 1) = u1
        repeat rw [vu_n (by omega)]
        exact vu_e (by omega)
theorem da_9 {X V : jW} {n u0 u1 u2 u3 : Int} (hn : V.1 126 10 = n) (T : pD X 32 (V.1 126)) (h : n < 100) : pD (d_X8_add_r51d u3 u2 u0 u1 0 0 X) 32 ((vu (vu (vu (vu (vu V 126 (47900 + 4 * n).toNat u0) 126 (47900 + 4 * n + 1).toNat u1) 126 (47900 + 4 * n + 2).toNat u2) 126 (47900 + 4 * n + 3).toNat u3) 126 10 (n + 1)).1 126) := by
  have t := T.1 pt_9 (by decide)
  have e : X.1 51 3 = n := t.1.trans hn
  have b : 0 ≤ V.1 126 10 ∧ V.1 126 10 ≤ 100 := t.2.1
  rw [hn] at b
  have a := @ad_51 X u3 u2 u0 u1 0 0 (by omega)
  refine pD_a (l := fw_X8_add_r51d) (c := 10) (lo := 47900) (hi := 48300) pt_9 (fr_d_X8_add_r51d _ _ _ _ _ _ _) ?_ ?_ rfl T
  · intro j h1 h2
    repeat rw [vu_n (by omega)]
  · refine pT_add (fun q => [u3, u2, u0, u1].getD q 0) t (by show V.1 126 10 < 100; omega) ?_ ?_ ?_ ?_ ?_ ?_
    · show (d_X8_add_r51d u3 u2 u0 u1 0 0 X).1 51 3 = V.1 126 10 + 1
      rw [an_51 (by omega), e, hn]
    · intro k hk
      change (k : Int) < 4 * V.1 126 10 at hk
      show (d_X8_add_r51d u3 u2 u0 u1 0 0 X).1 52 k = X.1 52 k
      rw [a]
      repeat rw [vu_n (by omega)]
    · intro q hq
      change q < 4 at hq
      show (d_X8_add_r51d u3 u2 u0 u1 0 0 X).1 52 (4 * (V.1 126 10).toNat + q) = [u3, u2, u0, u1].getD q 0
      rw [a, hn]
      rcases (show q = 0 ∨ q = 1 ∨ q = 2 ∨ q = 3 from by omega) with rfl | rfl | rfl | rfl
      · repeat rw [vu_n (by omega)]
        exact vu_e (by omega)
      · repeat rw [vu_n (by omega)]
        exact vu_e (by omega)
      · repeat rw [vu_n (by omega)]
        exact vu_e (by omega)
      · repeat rw [vu_n (by omega)]
        exact vu_e (by omega)
    · show (vu (vu (vu (vu (vu V 126 (47900 + 4 * n).toNat u0) 126 (47900 + 4 * n + 1).toNat u1) 126 (47900 + 4 * n + 2).toNat u2) 126 (47900 + 4 * n + 3).toNat u3) 126 10 (n + 1)).1 126 10 = V.1 126 10 + 1
      rw [hn]
      exact vu_e rfl
    · intro i q hi hq
      change q < 4 at hq
      change (i : Int) < V.1 126 10 at hi
      rw [hn] at hi
      rcases (show q = 0 ∨ q = 1 ∨ q = 2 ∨ q = 3 from by omega) with rfl | rfl | rfl | rfl
      · show (vu (vu (vu (vu (vu V 126 (47900 + 4 * n).toNat u0) 126 (47900 + 4 * n + 1).toNat u1) 126 (47900 + 4 * n + 2).toNat u2) 126 (47900 + 4 * n + 3).toNat u3) 126 10 (n + 1)).1 126 (47900 + 4 * i + 3) = V.1 126 (47900 + 4 * i + 3)
        repeat rw [vu_n (by omega)]
      · show (vu (vu (vu (vu (vu V 126 (47900 + 4 * n).toNat u0) 126 (47900 + 4 * n + 1).toNat u1) 126 (47900 + 4 * n + 2).toNat u2) 126 (47900 + 4 * n + 3).toNat u3) 126 10 (n + 1)).1 126 (47900 + 4 * i + 2) = V.1 126 (47900 + 4 * i + 2)
        repeat rw [vu_n (by omega)]
      · show (vu (vu (vu (vu (vu V 126 (47900 + 4 * n).toNat u0) 126 (47900 + 4 * n + 1).toNat u1) 126 (47900 + 4 * n + 2).toNat u2) 126 (47900 + 4 * n + 3).toNat u3) 126 10 (n + 1)).1 126 (47900 + 4 * i + 0) = V.1 126 (47900 + 4 * i + 0)
        repeat rw [vu_n (by omega)]
      · show (vu (vu (vu (vu (vu V 126 (47900 + 4 * n).toNat u0) 126 (47900 + 4 * n + 1).toNat u1) 126 (47900 + 4 * n + 2).toNat u2) 126 (47900 + 4 * n + 3).toNat u3) 126 10 (n + 1)).1 126 (47900 + 4 * i + 1) = V.1 126 (47900 + 4 * i + 1)
        repeat rw [vu_n (by omega)]
    · intro q hq
      change q < 4 at hq
      rw [show V.1 126 pt_9.2.2.1 = n from hn]
      rcases (show q = 0 ∨ q = 1 ∨ q = 2 ∨ q = 3 from by omega) with rfl | rfl | rfl | rfl
      · show (vu (vu (vu (vu (vu V 126 (47900 + 4 * n).toNat u0) 126 (47900 + 4 * n + 1).toNat u1) 126 (47900 + 4 * n + 2).toNat u2) 126 (47900 + 4 * n + 3).toNat u3) 126 10 (n + 1)).1 126 (47900 + 4 * n.toNat + 3) = u3
        repeat rw [vu_n (by omega)]
        exact vu_e (by omega)
      · show (vu (vu (vu (vu (vu V 126 (47900 + 4 * n).toNat u0) 126 (47900 + 4 * n + 1).toNat u1) 126 (47900 + 4 * n + 2).toNat u2) 126 (47900 + 4 * n + 3).toNat u3) 126 10 (n + 1)).1 126 (47900 + 4 * n.toNat + 2) = u2
        repeat rw [vu_n (by omega)]
        exact vu_e (by omega)
      · show (vu (vu (vu (vu (vu V 126 (47900 + 4 * n).toNat u0) 126 (47900 + 4 * n + 1).toNat u1) 126 (47900 + 4 * n + 2).toNat u2) 126 (47900 + 4 * n + 3).toNat u3) 126 10 (n + 1)).1 126 (47900 + 4 * n.toNat + 0) = u0
        repeat rw [vu_n (by omega)]
        exact vu_e (by omega)
      · show (vu (vu (vu (vu (vu V 126 (47900 + 4 * n).toNat u0) 126 (47900 + 4 * n + 1).toNat u1) 126 (47900 + 4 * n + 2).toNat u2) 126 (47900 + 4 * n + 3).toNat u3) 126 10 (n + 1)).1 126 (47900 + 4 * n.toNat + 1) = u1
        repeat rw [vu_n (by omega)]
        exact vu_e (by omega)
theorem da_10 {X V : jW} {n u0 u1 u2 u3 : Int} (hn : V.1 126 11 = n) (T : pD X 32 (V.1 126)) (h : n < 40) : pD (d_X8_add_r53d u3 u1 u0 u2 0 0 X) 32 ((vu (vu (vu (vu (vu V 126 (48300 + 4 * n).toNat u0) 126 (48300 + 4 * n + 1).toNat u1) 126 (48300 + 4 * n + 2).toNat u2) 126 (48300 + 4 * n + 3).toNat u3) 126 11 (n + 1)).1 126) := by
  have t := T.1 pt_10 (by decide)
  have e : X.1 53 3 = n := t.1.trans hn
  have b : 0 ≤ V.1 126 11 ∧ V.1 126 11 ≤ 40 := t.2.1
  rw [hn] at b
  have a := @ad_53 X u3 u1 u0 u2 0 0 (by omega)
  refine pD_a (l := fw_X8_add_r53d) (c := 11) (lo := 48300) (hi := 48460) pt_10 (fr_d_X8_add_r53d _ _ _ _ _ _ _) ?_ ?_ rfl T
  · intro j h1 h2
    repeat rw [vu_n (by omega)]
  · refine pT_add (fun q => [u3, u1, u0, u2].getD q 0) t (by show V.1 126 11 < 40; omega) ?_ ?_ ?_ ?_ ?_ ?_
    · show (d_X8_add_r53d u3 u1 u0 u2 0 0 X).1 53 3 = V.1 126 11 + 1
      rw [an_53 (by omega), e, hn]
    · intro k hk
      change (k : Int) < 4 * V.1 126 11 at hk
      show (d_X8_add_r53d u3 u1 u0 u2 0 0 X).1 54 k = X.1 54 k
      rw [a]
      repeat rw [vu_n (by omega)]
    · intro q hq
      change q < 4 at hq
      show (d_X8_add_r53d u3 u1 u0 u2 0 0 X).1 54 (4 * (V.1 126 11).toNat + q) = [u3, u1, u0, u2].getD q 0
      rw [a, hn]
      rcases (show q = 0 ∨ q = 1 ∨ q = 2 ∨ q = 3 from by omega) with rfl | rfl | rfl | rfl
      · repeat rw [vu_n (by omega)]
        exact vu_e (by omega)
      · repeat rw [vu_n (by omega)]
        exact vu_e (by omega)
      · repeat rw [vu_n (by omega)]
        exact vu_e (by omega)
      · repeat rw [vu_n (by omega)]
        exact vu_e (by omega)
    · show (vu (vu (vu (vu (vu V 126 (48300 + 4 * n).toNat u0) 126 (48300 + 4 * n + 1).toNat u1) 126 (48300 + 4 * n + 2).toNat u2) 126 (48300 + 4 * n + 3).toNat u3) 126 11 (n + 1)).1 126 11 = V.1 126 11 + 1
      rw [hn]
      exact vu_e rfl
    · intro i q hi hq
      change q < 4 at hq
      change (i : Int) < V.1 126 11 at hi
      rw [hn] at hi
      rcases (show q = 0 ∨ q = 1 ∨ q = 2 ∨ q = 3 from by omega) with rfl | rfl | rfl | rfl
      · show (vu (vu (vu (vu (vu V 126 (48300 + 4 * n).toNat u0) 126 (48300 + 4 * n + 1).toNat u1) 126 (48300 + 4 * n + 2).toNat u2) 126 (48300 + 4 * n + 3).toNat u3) 126 11 (n + 1)).1 126 (48300 + 4 * i + 3) = V.1 126 (48300 + 4 * i + 3)
        repeat rw [vu_n (by omega)]
      · show (vu (vu (vu (vu (vu V 126 (48300 + 4 * n).toNat u0) 126 (48300 + 4 * n + 1).toNat u1) 126 (48300 + 4 * n + 2).toNat u2) 126 (48300 + 4 * n + 3).toNat u3) 126 11 (n + 1)).1 126 (48300 + 4 * i + 1) = V.1 126 (48300 + 4 * i + 1)
        repeat rw [vu_n (by omega)]
      · show (vu (vu (vu (vu (vu V 126 (48300 + 4 * n).toNat u0) 126 (48300 + 4 * n + 1).toNat u1) 126 (48300 + 4 * n + 2).toNat u2) 126 (48300 + 4 * n + 3).toNat u3) 126 11 (n + 1)).1 126 (48300 + 4 * i + 0) = V.1 126 (48300 + 4 * i + 0)
        repeat rw [vu_n (by omega)]
      · show (vu (vu (vu (vu (vu V 126 (48300 + 4 * n).toNat u0) 126 (48300 + 4 * n + 1).toNat u1) 126 (48300 + 4 * n + 2).toNat u2) 126 (48300 + 4 * n + 3).toNat u3) 126 11 (n + 1)).1 126 (48300 + 4 * i + 2) = V.1 126 (48300 + 4 * i + 2)
        repeat rw [vu_n (by omega)]
    · intro q hq
      change q < 4 at hq
      rw [show V.1 126 pt_10.2.2.1 = n from hn]
      rcases (show q = 0 ∨ q = 1 ∨ q = 2 ∨ q = 3 from by omega) with rfl | rfl | rfl | rfl
      · show (vu (vu (vu (vu (vu V 126 (48300 + 4 * n).toNat u0) 126 (48300 + 4 * n + 1).toNat u1) 126 (48300 + 4 * n + 2).toNat u2) 126 (48300 + 4 * n + 3).toNat u3) 126 11 (n + 1)).1 126 (48300 + 4 * n.toNat + 3) = u3
        repeat rw [vu_n (by omega)]
        exact vu_e (by omega)
      · show (vu (vu (vu (vu (vu V 126 (48300 + 4 * n).toNat u0) 126 (48300 + 4 * n + 1).toNat u1) 126 (48300 + 4 * n + 2).toNat u2) 126 (48300 + 4 * n + 3).toNat u3) 126 11 (n + 1)).1 126 (48300 + 4 * n.toNat + 1) = u1
        repeat rw [vu_n (by omega)]
        exact vu_e (by omega)
      · show (vu (vu (vu (vu (vu V 126 (48300 + 4 * n).toNat u0) 126 (48300 + 4 * n + 1).toNat u1) 126 (48300 + 4 * n + 2).toNat u2) 126 (48300 + 4 * n + 3).toNat u3) 126 11 (n + 1)).1 126 (48300 + 4 * n.toNat + 0) = u0
        repeat rw [vu_n (by omega)]
        exact vu_e (by omega)
      · show (vu (vu (vu (vu (vu V 126 (48300 + 4 * n).toNat u0) 126 (48300 + 4 * n + 1).toNat u1) 126 (48300 + 4 * n + 2).toNat u2) 126 (48300 + 4 * n + 3).toNat u3) 126 11 (n + 1)).1 126 (48300 + 4 * n.toNat + 2) = u2
        repeat rw [vu_n (by omega)]
        exact vu_e (by omega)
theorem da_11 {X V : jW} {n u0 u1 u2 u3 u4 : Int} (hn : V.1 126 12 = n) (T : pD X 32 (V.1 126)) (h : n < 100) : pD (d_X8_add_r55d u4 u3 u1 u0 u2 0 X) 32 ((vu (vu (vu (vu (vu (vu V 126 (48460 + 5 * n).toNat u0) 126 (48460 + 5 * n + 1).toNat u1) 126 (48460 + 5 * n + 2).toNat u2) 126 (48460 + 5 * n + 3).toNat u3) 126 (48460 + 5 * n + 4).toNat u4) 126 12 (n + 1)).1 126) := by
  have t := T.1 pt_11 (by decide)
  have e : X.1 55 3 = n := t.1.trans hn
  have b : 0 ≤ V.1 126 12 ∧ V.1 126 12 ≤ 100 := t.2.1
  rw [hn] at b
  have a := @ad_55 X u4 u3 u1 u0 u2 0 (by omega)
  refine pD_a (l := fw_X8_add_r55d) (c := 12) (lo := 48460) (hi := 48960) pt_11 (fr_d_X8_add_r55d _ _ _ _ _ _ _) ?_ ?_ rfl T
  · intro j h1 h2
    repeat rw [vu_n (by omega)]
  · refine pT_add (fun q => [u4, u3, u1, u0, u2].getD q 0) t (by show V.1 126 12 < 100; omega) ?_ ?_ ?_ ?_ ?_ ?_
    · show (d_X8_add_r55d u4 u3 u1 u0 u2 0 X).1 55 3 = V.1 126 12 + 1
      rw [an_55 (by omega), e, hn]
    · intro k hk
      change (k : Int) < 5 * V.1 126 12 at hk
      show (d_X8_add_r55d u4 u3 u1 u0 u2 0 X).1 56 k = X.1 56 k
      rw [a]
      repeat rw [vu_n (by omega)]
    · intro q hq
      change q < 5 at hq
      show (d_X8_add_r55d u4 u3 u1 u0 u2 0 X).1 56 (5 * (V.1 126 12).toNat + q) = [u4, u3, u1, u0, u2].getD q 0
      rw [a, hn]
      rcases (show q = 0 ∨ q = 1 ∨ q = 2 ∨ q = 3 ∨ q = 4 from by omega) with rfl | rfl | rfl | rfl | rfl
      · repeat rw [vu_n (by omega)]
        exact vu_e (by omega)
      · repeat rw [vu_n (by omega)]
        exact vu_e (by omega)
      · repeat rw [vu_n (by omega)]
        exact vu_e (by omega)
      · repeat rw [vu_n (by omega)]
        exact vu_e (by omega)
      · repeat rw [vu_n (by omega)]
        exact vu_e (by omega)
    · show (vu (vu (vu (vu (vu (vu V 126 (48460 + 5 * n).toNat u0) 126 (48460 + 5 * n + 1).toNat u1) 126 (48460 + 5 * n + 2).toNat u2) 126 (48460 + 5 * n + 3).toNat u3) 126 (48460 + 5 * n + 4).toNat u4) 126 12 (n + 1)).1 126 12 = V.1 126 12 + 1
      rw [hn]
      exact vu_e rfl
    · intro i q hi hq
      change q < 5 at hq
      change (i : Int) < V.1 126 12 at hi
      rw [hn] at hi
      rcases (show q = 0 ∨ q = 1 ∨ q = 2 ∨ q = 3 ∨ q = 4 from by omega) with rfl | rfl | rfl | rfl | rfl
      · show (vu (vu (vu (vu (vu (vu V 126 (48460 + 5 * n).toNat u0) 126 (48460 + 5 * n + 1).toNat u1) 126 (48460 + 5 * n + 2).toNat u2) 126 (48460 + 5 * n + 3).toNat u3) 126 (48460 + 5 * n + 4).toNat u4) 126 12 (n + 1)).1 126 (48460 + 5 * i + 4) = V.1 126 (48460 + 5 * i + 4)
        repeat rw [vu_n (by omega)]
      · show (vu (vu (vu (vu (vu (vu V 126 (48460 + 5 * n).toNat u0) 126 (48460 + 5 * n + 1).toNat u1) 126 (48460 + 5 * n + 2).toNat u2) 126 (48460 + 5 * n + 3).toNat u3) 126 (48460 + 5 * n + 4).toNat u4) 126 12 (n + 1)).1 126 (48460 + 5 * i + 3) = V.1 126 (48460 + 5 * i + 3)
        repeat rw [vu_n (by omega)]
      · show (vu (vu (vu (vu (vu (vu V 126 (48460 + 5 * n).toNat u0) 126 (48460 + 5 * n + 1).toNat u1) 126 (48460 + 5 * n + 2).toNat u2) 126 (48460 + 5 * n + 3).toNat u3) 126 (48460 + 5 * n + 4).toNat u4) 126 12 (n + 1)).1 126 (48460 + 5 * i + 1) = V.1 126 (48460 + 5 * i + 1)
        repeat rw [vu_n (by omega)]
      · show (vu (vu (vu (vu (vu (vu V 126 (48460 + 5 * n).toNat u0) 126 (48460 + 5 * n + 1).toNat u1) 126 (48460 + 5 * n + 2).toNat u2) 126 (48460 + 5 * n + 3).toNat u3) 126 (48460 + 5 * n + 4).toNat u4) 126 12 (n + 1)).1 126 (48460 + 5 * i + 0) = V.1 126 (48460 + 5 * i + 0)
        repeat rw [vu_n (by omega)]
      · show (vu (vu (vu (vu (vu (vu V 126 (48460 + 5 * n).toNat u0) 126 (48460 + 5 * n + 1).toNat u1) 126 (48460 + 5 * n + 2).toNat u2) 126 (48460 + 5 * n + 3).toNat u3) 126 (48460 + 5 * n + 4).toNat u4) 126 12 (n + 1)).1 126 (48460 + 5 * i + 2) = V.1 126 (48460 + 5 * i + 2)
        repeat rw [vu_n (by omega)]
    · intro q hq
      change q < 5 at hq
      rw [show V.1 126 pt_11.2.2.1 = n from hn]
      rcases (show q = 0 ∨ q = 1 ∨ q = 2 ∨ q = 3 ∨ q = 4 from by omega) with rfl | rfl | rfl | rfl | rfl
      · show (vu (vu (vu (vu (vu (vu V 126 (48460 + 5 * n).toNat u0) 126 (48460 + 5 * n + 1).toNat u1) 126 (48460 + 5 * n + 2).toNat u2) 126 (48460 + 5 * n + 3).toNat u3) 126 (48460 + 5 * n + 4).toNat u4) 126 12 (n + 1)).1 126 (48460 + 5 * n.toNat + 4) = u4
        repeat rw [vu_n (by omega)]
        exact vu_e (by omega)
      · show (vu (vu (vu (vu (vu (vu V 126 (48460 + 5 * n).toNat u0) 126 (48460 + 5 * n + 1).toNat u1) 126 (48460 + 5 * n + 2).toNat u2) 126 (48460 + 5 * n + 3).toNat u3) 126 (48460 + 5 * n + 4).toNat u4) 126 12 (n + 1)).1 126 (48460 + 5 * n.toNat + 3) = u3
        repeat rw [vu_n (by omega)]
        exact vu_e (by omega)
      · show (vu (vu (vu (vu (vu (vu V 126 (48460 + 5 * n).toNat u0) 126 (48460 + 5 * n + 1).toNat u1) 126 (48460 + 5 * n + 2).toNat u2) 126 (48460 + 5 * n + 3).toNat u3) 126 (48460 + 5 * n + 4).toNat u4) 126 12 (n + 1)).1 126 (48460 + 5 * n.toNat + 1) = u1
        repeat rw [vu_n (by omega)]
        exact vu_e (by omega)
      · show (vu (vu (vu (vu (vu (vu V 126 (48460 + 5 * n).toNat u0) 126 (48460 + 5 * n + 1).toNat u1) 126 (48460 + 5 * n + 2).toNat u2) 126 (48460 + 5 * n + 3).toNat u3) 126 (48460 + 5 * n + 4).toNat u4) 126 12 (n + 1)).1 126 (48460 + 5 * n.toNat + 0) = u0
        repeat rw [vu_n (by omega)]
        exact vu_e (by omega)
      · show (vu (vu (vu (vu (vu (vu V 126 (48460 + 5 * n).toNat u0) 126 (48460 + 5 * n + 1).toNat u1) 126 (48460 + 5 * n + 2).toNat u2) 126 (48460 + 5 * n + 3).toNat u3) 126 (48460 + 5 * n + 4).toNat u4) 126 12 (n + 1)).1 126 (48460 + 5 * n.toNat + 2) = u2
        repeat rw [vu_n (by omega)]
        exact vu_e (by omega)
theorem da_12 {X V : jW} {n u0 u1 u2 u3 : Int} (hn : V.1 126 13 = n) (T : pD X 32 (V.1 126)) (h : n < 100) : pD (d_X8_add_r57d u3 u1 u0 u2 0 0 X) 32 ((vu (vu (vu (vu (vu V 126 (48960 + 4 * n).toNat u0) 126 (48960 + 4 * n + 1).toNat u1) 126 (48960 + 4 * n + 2).toNat u2) 126 (48960 + 4 * n + 3).toNat u3) 126 13 (n + 1)).1 126) := by
  have t := T.1 pt_12 (by decide)
  have e : X.1 57 3 = n := t.1.trans hn
  have b : 0 ≤ V.1 126 13 ∧ V.1 126 13 ≤ 100 := t.2.1
  rw [hn] at b
  have a := @ad_57 X u3 u1 u0 u2 0 0 (by omega)
  refine pD_a (l := fw_X8_add_r57d) (c := 13) (lo := 48960) (hi := 49360) pt_12 (fr_d_X8_add_r57d _ _ _ _ _ _ _) ?_ ?_ rfl T
  · intro j h1 h2
    repeat rw [vu_n (by omega)]
  · refine pT_add (fun q => [u3, u1, u0, u2].getD q 0) t (by show V.1 126 13 < 100; omega) ?_ ?_ ?_ ?_ ?_ ?_
    · show (d_X8_add_r57d u3 u1 u0 u2 0 0 X).1 57 3 = V.1 126 13 + 1
      rw [an_57 (by omega), e, hn]
    · intro k hk
      change (k : Int) < 4 * V.1 126 13 at hk
      show (d_X8_add_r57d u3 u1 u0 u2 0 0 X).1 58 k = X.1 58 k
      rw [a]
      repeat rw [vu_n (by omega)]
    · intro q hq
      change q < 4 at hq
      show (d_X8_add_r57d u3 u1 u0 u2 0 0 X).1 58 (4 * (V.1 126 13).toNat + q) = [u3, u1, u0, u2].getD q 0
      rw [a, hn]
      rcases (show q = 0 ∨ q = 1 ∨ q = 2 ∨ q = 3 from by omega) with rfl | rfl | rfl | rfl
      · repeat rw [vu_n (by omega)]
        exact vu_e (by omega)
      · repeat rw [vu_n (by omega)]
        exact vu_e (by omega)
      · repeat rw [vu_n (by omega)]
        exact vu_e (by omega)
      · repeat rw [vu_n (by omega)]
        exact vu_e (by omega)
    · show (vu (vu (vu (vu (vu V 126 (48960 + 4 * n).toNat u0) 126 (48960 + 4 * n + 1).toNat u1) 126 (48960 + 4 * n + 2).toNat u2) 126 (48960 + 4 * n + 3).toNat u3) 126 13 (n + 1)).1 126 13 = V.1 126 13 + 1
      rw [hn]
      exact vu_e rfl
    · intro i q hi hq
      change q < 4 at hq
      change (i : Int) < V.1 126 13 at hi
      rw [hn] at hi
      rcases (show q = 0 ∨ q = 1 ∨ q = 2 ∨ q = 3 from by omega) with rfl | rfl | rfl | rfl
      · show (vu (vu (vu (vu (vu V 126 (48960 + 4 * n).toNat u0) 126 (48960 + 4 * n + 1).toNat u1) 126 (48960 + 4 * n + 2).toNat u2) 126 (48960 + 4 * n + 3).toNat u3) 126 13 (n + 1)).1 126 (48960 + 4 * i + 3) = V.1 126 (48960 + 4 * i + 3)
        repeat rw [vu_n (by omega)]
      · show (vu (vu (vu (vu (vu V 126 (48960 + 4 * n).toNat u0) 126 (48960 + 4 * n + 1).toNat u1) 126 (48960 + 4 * n + 2).toNat u2) 126 (48960 + 4 * n + 3).toNat u3) 126 13 (n + 1)).1 126 (48960 + 4 * i + 1) = V.1 126 (48960 + 4 * i + 1)
        repeat rw [vu_n (by omega)]
      · show (vu (vu (vu (vu (vu V 126 (48960 + 4 * n).toNat u0) 126 (48960 + 4 * n + 1).toNat u1) 126 (48960 + 4 * n + 2).toNat u2) 126 (48960 + 4 * n + 3).toNat u3) 126 13 (n + 1)).1 126 (48960 + 4 * i + 0) = V.1 126 (48960 + 4 * i + 0)
        repeat rw [vu_n (by omega)]
      · show (vu (vu (vu (vu (vu V 126 (48960 + 4 * n).toNat u0) 126 (48960 + 4 * n + 1).toNat u1) 126 (48960 + 4 * n + 2).toNat u2) 126 (48960 + 4 * n + 3).toNat u3) 126 13 (n + 1)).1 126 (48960 + 4 * i + 2) = V.1 126 (48960 + 4 * i + 2)
        repeat rw [vu_n (by omega)]
    · intro q hq
      change q < 4 at hq
      rw [show V.1 126 pt_12.2.2.1 = n from hn]
      rcases (show q = 0 ∨ q = 1 ∨ q = 2 ∨ q = 3 from by omega) with rfl | rfl | rfl | rfl
      · show (vu (vu (vu (vu (vu V 126 (48960 + 4 * n).toNat u0) 126 (48960 + 4 * n + 1).toNat u1) 126 (48960 + 4 * n + 2).toNat u2) 126 (48960 + 4 * n + 3).toNat u3) 126 13 (n + 1)).1 126 (48960 + 4 * n.toNat + 3) = u3
        repeat rw [vu_n (by omega)]
        exact vu_e (by omega)
      · show (vu (vu (vu (vu (vu V 126 (48960 + 4 * n).toNat u0) 126 (48960 + 4 * n + 1).toNat u1) 126 (48960 + 4 * n + 2).toNat u2) 126 (48960 + 4 * n + 3).toNat u3) 126 13 (n + 1)).1 126 (48960 + 4 * n.toNat + 1) = u1
        repeat rw [vu_n (by omega)]
        exact vu_e (by omega)
      · show (vu (vu (vu (vu (vu V 126 (48960 + 4 * n).toNat u0) 126 (48960 + 4 * n + 1).toNat u1) 126 (48960 + 4 * n + 2).toNat u2) 126 (48960 + 4 * n + 3).toNat u3) 126 13 (n + 1)).1 126 (48960 + 4 * n.toNat + 0) = u0
        repeat rw [vu_n (by omega)]
        exact vu_e (by omega)
      · show (vu (vu (vu (vu (vu V 126 (48960 + 4 * n).toNat u0) 126 (48960 + 4 * n + 1).toNat u1) 126 (48960 + 4 * n + 2).toNat u2) 126 (48960 + 4 * n + 3).toNat u3) 126 13 (n + 1)).1 126 (48960 + 4 * n.toNat + 2) = u2
        repeat rw [vu_n (by omega)]
        exact vu_e (by omega)
theorem da_13 {X V : jW} {n u0 u1 u2 u3 : Int} (hn : V.1 126 14 = n) (T : pD X 32 (V.1 126)) (h : n < 40) : pD (d_X8_add_r59d u3 u1 u0 u2 0 0 X) 32 ((vu (vu (vu (vu (vu V 126 (49360 + 4 * n).toNat u0) 126 (49360 + 4 * n + 1).toNat u1) 126 (49360 + 4 * n + 2).toNat u2) 126 (49360 + 4 * n + 3).toNat u3) 126 14 (n + 1)).1 126) := by
  have t := T.1 pt_13 (by decide)
  have e : X.1 59 3 = n := t.1.trans hn
  have b : 0 ≤ V.1 126 14 ∧ V.1 126 14 ≤ 40 := t.2.1
  rw [hn] at b
  have a := @ad_59 X u3 u1 u0 u2 0 0 (by omega)
  refine pD_a (l := fw_X8_add_r59d) (c := 14) (lo := 49360) (hi := 49520) pt_13 (fr_d_X8_add_r59d _ _ _ _ _ _ _) ?_ ?_ rfl T
  · intro j h1 h2
    repeat rw [vu_n (by omega)]
  · refine pT_add (fun q => [u3, u1, u0, u2].getD q 0) t (by show V.1 126 14 < 40; omega) ?_ ?_ ?_ ?_ ?_ ?_
    · show (d_X8_add_r59d u3 u1 u0 u2 0 0 X).1 59 3 = V.1 126 14 + 1
      rw [an_59 (by omega), e, hn]
    · intro k hk
      change (k : Int) < 4 * V.1 126 14 at hk
      show (d_X8_add_r59d u3 u1 u0 u2 0 0 X).1 60 k = X.1 60 k
      rw [a]
      repeat rw [vu_n (by omega)]
    · intro q hq
      change q < 4 at hq
      show (d_X8_add_r59d u3 u1 u0 u2 0 0 X).1 60 (4 * (V.1 126 14).toNat + q) = [u3, u1, u0, u2].getD q 0
      rw [a, hn]
      rcases (show q = 0 ∨ q = 1 ∨ q = 2 ∨ q = 3 from by omega) with rfl | rfl | rfl | rfl
      · repeat rw [vu_n (by omega)]
        exact vu_e (by omega)
      · repeat rw [vu_n (by omega)]
        exact vu_e (by omega)
      · repeat rw [vu_n (by omega)]
        exact vu_e (by omega)
      · repeat rw [vu_n (by omega)]
        exact vu_e (by omega)
    · show (vu (vu (vu (vu (vu V 126 (49360 + 4 * n).toNat u0) 126 (49360 + 4 * n + 1).toNat u1) 126 (49360 + 4 * n + 2).toNat u2) 126 (49360 + 4 * n + 3).toNat u3) 126 14 (n + 1)).1 126 14 = V.1 126 14 + 1
      rw [hn]
      exact vu_e rfl
    · intro i q hi hq
      change q < 4 at hq
      change (i : Int) < V.1 126 14 at hi
      rw [hn] at hi
      rcases (show q = 0 ∨ q = 1 ∨ q = 2 ∨ q = 3 from by omega) with rfl | rfl | rfl | rfl
      · show (vu (vu (vu (vu (vu V 126 (49360 + 4 * n).toNat u0) 126 (49360 + 4 * n + 1).toNat u1) 126 (49360 + 4 * n + 2).toNat u2) 126 (49360 + 4 * n + 3).toNat u3) 126 14 (n + 1)).1 126 (49360 + 4 * i + 3) = V.1 126 (49360 + 4 * i + 3)
        repeat rw [vu_n (by omega)]
      · show (vu (vu (vu (vu (vu V 126 (49360 + 4 * n).toNat u0) 126 (49360 + 4 * n + 1).toNat u1) 126 (49360 + 4 * n + 2).toNat u2) 126 (49360 + 4 * n + 3).toNat u3) 126 14 (n + 1)).1 126 (49360 + 4 * i + 1) = V.1 126 (49360 + 4 * i + 1)
        repeat rw [vu_n (by omega)]
      · show (vu (vu (vu (vu (vu V 126 (49360 + 4 * n).toNat u0) 126 (49360 + 4 * n + 1).toNat u1) 126 (49360 + 4 * n + 2).toNat u2) 126 (49360 + 4 * n + 3).toNat u3) 126 14 (n + 1)).1 126 (49360 + 4 * i + 0) = V.1 126 (49360 + 4 * i + 0)
        repeat rw [vu_n (by omega)]
      · show (vu (vu (vu (vu (vu V 126 (49360 + 4 * n).toNat u0) 126 (49360 + 4 * n + 1).toNat u1) 126 (49360 + 4 * n + 2).toNat u2) 126 (49360 + 4 * n + 3).toNat u3) 126 14 (n + 1)).1 126 (49360 + 4 * i + 2) = V.1 126 (49360 + 4 * i + 2)
        repeat rw [vu_n (by omega)]
    · intro q hq
      change q < 4 at hq
      rw [show V.1 126 pt_13.2.2.1 = n from hn]
      rcases (show q = 0 ∨ q = 1 ∨ q = 2 ∨ q = 3 from by omega) with rfl | rfl | rfl | rfl
      · show (vu (vu (vu (vu (vu V 126 (49360 + 4 * n).toNat u0) 126 (49360 + 4 * n + 1).toNat u1) 126 (49360 + 4 * n + 2).toNat u2) 126 (49360 + 4 * n + 3).toNat u3) 126 14 (n + 1)).1 126 (49360 + 4 * n.toNat + 3) = u3
        repeat rw [vu_n (by omega)]
        exact vu_e (by omega)
      · show (vu (vu (vu (vu (vu V 126 (49360 + 4 * n).toNat u0) 126 (49360 + 4 * n + 1).toNat u1) 126 (49360 + 4 * n + 2).toNat u2) 126 (49360 + 4 * n + 3).toNat u3) 126 14 (n + 1)).1 126 (49360 + 4 * n.toNat + 1) = u1
        repeat rw [vu_n (by omega)]
        exact vu_e (by omega)
      · show (vu (vu (vu (vu (vu V 126 (49360 + 4 * n).toNat u0) 126 (49360 + 4 * n + 1).toNat u1) 126 (49360 + 4 * n + 2).toNat u2) 126 (49360 + 4 * n + 3).toNat u3) 126 14 (n + 1)).1 126 (49360 + 4 * n.toNat + 0) = u0
        repeat rw [vu_n (by omega)]
        exact vu_e (by omega)
      · show (vu (vu (vu (vu (vu V 126 (49360 + 4 * n).toNat u0) 126 (49360 + 4 * n + 1).toNat u1) 126 (49360 + 4 * n + 2).toNat u2) 126 (49360 + 4 * n + 3).toNat u3) 126 14 (n + 1)).1 126 (49360 + 4 * n.toNat + 2) = u2
        repeat rw [vu_n (by omega)]
        exact vu_e (by omega)
theorem da_14 {X V : jW} {n u0 u1 u2 u3 : Int} (hn : V.1 126 15 = n) (T : pD X 32 (V.1 126)) (h : n < 100) : pD (d_X8_add_r61d u3 u1 u0 u2 0 0 X) 32 ((vu (vu (vu (vu (vu V 126 (49520 + 4 * n).toNat u0) 126 (49520 + 4 * n + 1).toNat u1) 126 (49520 + 4 * n + 2).toNat u2) 126 (49520 + 4 * n + 3).toNat u3) 126 15 (n + 1)).1 126) := by
  have t := T.1 pt_14 (by decide)
  have e : X.1 61 3 = n := t.1.trans hn
  have b : 0 ≤ V.1 126 15 ∧ V.1 126 15 ≤ 100 := t.2.1
  rw [hn] at b
  have a := @ad_61 X u3 u1 u0 u2 0 0 (by omega)
  refine pD_a (l := fw_X8_add_r61d) (c := 15) (lo := 49520) (hi := 49920) pt_14 (fr_d_X8_add_r61d _ _ _ _ _ _ _) ?_ ?_ rfl T
  · intro j h1 h2
    repeat rw [vu_n (by omega)]
  · refine pT_add (fun q => [u3, u1, u0, u2].getD q 0) t (by show V.1 126 15 < 100; omega) ?_ ?_ ?_ ?_ ?_ ?_
    · show (d_X8_add_r61d u3 u1 u0 u2 0 0 X).1 61 3 = V.1 126 15 + 1
      rw [an_61 (by omega), e, hn]
    · intro k hk
      change (k : Int) < 4 * V.1 126 15 at hk
      show (d_X8_add_r61d u3 u1 u0 u2 0 0 X).1 62 k = X.1 62 k
      rw [a]
      repeat rw [vu_n (by omega)]
    · intro q hq
      change q < 4 at hq
      show (d_X8_add_r61d u3 u1 u0 u2 0 0 X).1 62 (4 * (V.1 126 15).toNat + q) = [u3, u1, u0, u2].getD q 0
      rw [a, hn]
      rcases (show q = 0 ∨ q = 1 ∨ q = 2 ∨ q = 3 from by omega) with rfl | rfl | rfl | rfl
      · repeat rw [vu_n (by omega)]
        exact vu_e (by omega)
      · repeat rw [vu_n (by omega)]
        exact vu_e (by omega)
      · repeat rw [vu_n (by omega)]
        exact vu_e (by omega)
      · repeat rw [vu_n (by omega)]
        exact vu_e (by omega)
    · show (vu (vu (vu (vu (vu V 126 (49520 + 4 * n).toNat u0) 126 (49520 + 4 * n + 1).toNat u1) 126 (49520 + 4 * n + 2).toNat u2) 126 (49520 + 4 * n + 3).toNat u3) 126 15 (n + 1)).1 126 15 = V.1 126 15 + 1
      rw [hn]
      exact vu_e rfl
    · intro i q hi hq
      change q < 4 at hq
      change (i : Int) < V.1 126 15 at hi
      rw [hn] at hi
      rcases (show q = 0 ∨ q = 1 ∨ q = 2 ∨ q = 3 from by omega) with rfl | rfl | rfl | rfl
      · show (vu (vu (vu (vu (vu V 126 (49520 + 4 * n).toNat u0) 126 (49520 + 4 * n + 1).toNat u1) 126 (49520 + 4 * n + 2).toNat u2) 126 (49520 + 4 * n + 3).toNat u3) 126 15 (n + 1)).1 126 (49520 + 4 * i + 3) = V.1 126 (49520 + 4 * i + 3)
        repeat rw [vu_n (by omega)]
      · show (vu (vu (vu (vu (vu V 126 (49520 + 4 * n).toNat u0) 126 (49520 + 4 * n + 1).toNat u1) 126 (49520 + 4 * n + 2).toNat u2) 126 (49520 + 4 * n + 3).toNat u3) 126 15 (n + 1)).1 126 (49520 + 4 * i + 1) = V.1 126 (49520 + 4 * i + 1)
        repeat rw [vu_n (by omega)]
      · show (vu (vu (vu (vu (vu V 126 (49520 + 4 * n).toNat u0) 126 (49520 + 4 * n + 1).toNat u1) 126 (49520 + 4 * n + 2).toNat u2) 126 (49520 + 4 * n + 3).toNat u3) 126 15 (n + 1)).1 126 (49520 + 4 * i + 0) = V.1 126 (49520 + 4 * i + 0)
        repeat rw [vu_n (by omega)]
      · show (vu (vu (vu (vu (vu V 126 (49520 + 4 * n).toNat u0) 126 (49520 + 4 * n + 1).toNat u1) 126 (49520 + 4 * n + 2).toNat u2) 126 (49520 + 4 * n + 3).toNat u3) 126 15 (n + 1)).1 126 (49520 + 4 * i + 2) = V.1 126 (49520 + 4 * i + 2)
        repeat rw [vu_n (by omega)]
    · intro q hq
      change q < 4 at hq
      rw [show V.1 126 pt_14.2.2.1 = n from hn]
      rcases (show q = 0 ∨ q = 1 ∨ q = 2 ∨ q = 3 from by omega) with rfl | rfl | rfl | rfl
      · show (vu (vu (vu (vu (vu V 126 (49520 + 4 * n).toNat u0) 126 (49520 + 4 * n + 1).toNat u1) 126 (49520 + 4 * n + 2).toNat u2) 126 (49520 + 4 * n + 3).toNat u3) 126 15 (n + 1)).1 126 (49520 + 4 * n.toNat + 3) = u3
        repeat rw [vu_n (by omega)]
        exact vu_e (by omega)
      · show (vu (vu (vu (vu (vu V 126 (49520 + 4 * n).toNat u0) 126 (49520 + 4 * n + 1).toNat u1) 126 (49520 + 4 * n + 2).toNat u2) 126 (49520 + 4 * n + 3).toNat u3) 126 15 (n + 1)).1 126 (49520 + 4 * n.toNat + 1) = u1
        repeat rw [vu_n (by omega)]
        exact vu_e (by omega)
      · show (vu (vu (vu (vu (vu V 126 (49520 + 4 * n).toNat u0) 126 (49520 + 4 * n + 1).toNat u1) 126 (49520 + 4 * n + 2).toNat u2) 126 (49520 + 4 * n + 3).toNat u3) 126 15 (n + 1)).1 126 (49520 + 4 * n.toNat + 0) = u0
        repeat rw [vu_n (by omega)]
        exact vu_e (by omega)
      · show (vu (vu (vu (vu (vu V 126 (49520 + 4 * n).toNat u0) 126 (49520 + 4 * n + 1).toNat u1) 126 (49520 + 4 * n + 2).toNat u2) 126 (49520 + 4 * n + 3).toNat u3) 126 15 (n + 1)).1 126 (49520 + 4 * n.toNat + 2) = u2
        repeat rw [vu_n (by omega)]
        exact vu_e (by omega)
theorem da_15 {X V : jW} {n u0 u1 : Int} (hn : V.1 126 16 = n) (T : pD X 32 (V.1 126)) (h : n < 370) : pD (d_X8_add_r63d u0 u1 0 0 0 0 X) 32 ((vu (vu (vu V 126 (49920 + 2 * n).toNat u0) 126 (49920 + 2 * n + 1).toNat u1) 126 16 (n + 1)).1 126) := by
  have t := T.1 pt_15 (by decide)
  have e : X.1 63 3 = n := t.1.trans hn
  have b : 0 ≤ V.1 126 16 ∧ V.1 126 16 ≤ 370 := t.2.1
  rw [hn] at b
  have a := @ad_63 X u0 u1 0 0 0 0 (by omega)
  refine pD_a (l := fw_X8_add_r63d) (c := 16) (lo := 49920) (hi := 50660) pt_15 (fr_d_X8_add_r63d _ _ _ _ _ _ _) ?_ ?_ rfl T
  · intro j h1 h2
    repeat rw [vu_n (by omega)]
  · refine pT_add (fun q => [u0, u1].getD q 0) t (by show V.1 126 16 < 370; omega) ?_ ?_ ?_ ?_ ?_ ?_
    · show (d_X8_add_r63d u0 u1 0 0 0 0 X).1 63 3 = V.1 126 16 + 1
      rw [an_63 (by omega), e, hn]
    · intro k hk
      change (k : Int) < 2 * V.1 126 16 at hk
      show (d_X8_add_r63d u0 u1 0 0 0 0 X).1 64 k = X.1 64 k
      rw [a]
      repeat rw [vu_n (by omega)]
    · intro q hq
      change q < 2 at hq
      show (d_X8_add_r63d u0 u1 0 0 0 0 X).1 64 (2 * (V.1 126 16).toNat + q) = [u0, u1].getD q 0
      rw [a, hn]
      rcases (show q = 0 ∨ q = 1 from by omega) with rfl | rfl
      · repeat rw [vu_n (by omega)]
        exact vu_e (by omega)
      · repeat rw [vu_n (by omega)]
        exact vu_e (by omega)
    · show (vu (vu (vu V 126 (49920 + 2 * n).toNat u0) 126 (49920 + 2 * n + 1).toNat u1) 126 16 (n + 1)).1 126 16 = V.1 126 16 + 1
      rw [hn]
      exact vu_e rfl
    · intro i q hi hq
      change q < 2 at hq
      change (i : Int) < V.1 126 16 at hi
      rw [hn] at hi
      rcases (show q = 0 ∨ q = 1 from by omega) with rfl | rfl
      · show (vu (vu (vu V 126 (49920 + 2 * n).toNat u0) 126 (49920 + 2 * n + 1).toNat u1) 126 16 (n + 1)).1 126 (49920 + 2 * i + 0) = V.1 126 (49920 + 2 * i + 0)
        repeat rw [vu_n (by omega)]
      · show (vu (vu (vu V 126 (49920 + 2 * n).toNat u0) 126 (49920 + 2 * n + 1).toNat u1) 126 16 (n + 1)).1 126 (49920 + 2 * i + 1) = V.1 126 (49920 + 2 * i + 1)
        repeat rw [vu_n (by omega)]
    · intro q hq
      change q < 2 at hq
      rw [show V.1 126 pt_15.2.2.1 = n from hn]
      rcases (show q = 0 ∨ q = 1 from by omega) with rfl | rfl
      · show (vu (vu (vu V 126 (49920 + 2 * n).toNat u0) 126 (49920 + 2 * n + 1).toNat u1) 126 16 (n + 1)).1 126 (49920 + 2 * n.toNat + 0) = u0
        repeat rw [vu_n (by omega)]
        exact vu_e (by omega)
      · show (vu (vu (vu V 126 (49920 + 2 * n).toNat u0) 126 (49920 + 2 * n + 1).toNat u1) 126 16 (n + 1)).1 126 (49920 + 2 * n.toNat + 1) = u1
        repeat rw [vu_n (by omega)]
        exact vu_e (by omega)
theorem fu_37 {W : jW} : d_X8_isFull_r37d W = if W.1 37 3 < 60 then 0 else 1 := rfl
theorem fu_45 {W : jW} : d_X8_isFull_r45d W = if W.1 45 3 < 40 then 0 else 1 := rfl
theorem fu_59 {W : jW} : d_X8_isFull_r59d W = if W.1 59 3 < 40 then 0 else 1 := rfl
theorem fu_57 {W : jW} : d_X8_isFull_r57d W = if W.1 57 3 < 100 then 0 else 1 := rfl
theorem fu_43 {W : jW} : d_X8_isFull_r43d W = if W.1 43 3 < 100 then 0 else 1 := rfl
theorem fu_51 {W : jW} : d_X8_isFull_r51d W = if W.1 51 3 < 100 then 0 else 1 := rfl
theorem fu_49 {W : jW} : d_X8_isFull_r49d W = if W.1 49 3 < 40 then 0 else 1 := rfl
theorem fu_53 {W : jW} : d_X8_isFull_r53d W = if W.1 53 3 < 40 then 0 else 1 := rfl
theorem fu_33 {W : jW} : d_X8_isFull_r33d W = if W.1 33 3 < 200 then 0 else 1 := rfl
theorem fu_55 {W : jW} : d_X8_isFull_r55d W = if W.1 55 3 < 100 then 0 else 1 := rfl
theorem fu_61 {W : jW} : d_X8_isFull_r61d W = if W.1 61 3 < 100 then 0 else 1 := rfl
theorem fu_39 {W : jW} : d_X8_isFull_r39d W = if W.1 39 3 < 200 then 0 else 1 := rfl
theorem fu_41 {W : jW} : d_X8_isFull_r41d W = if W.1 41 3 < 20 then 0 else 1 := rfl
theorem fu_47 {W : jW} : d_X8_isFull_r47d W = if W.1 47 3 < 100 then 0 else 1 := rfl
end jG1

section jG2
/-! pure: how a call ends -/
theorem told_n {e : Int} {V : jW} (h : e < 0) : d_X12_told_r125d e V = (e, vu V 125 1 e) := by
  unfold d_X12_told_r125d
  rw [if_neg (by omega)]
  rfl
theorem told_p {e : Int} {V : jW} (h : 0 ≤ e) : d_X12_told_r125d e V = (e, vu V 125 1 0) := by
  unfold d_X12_told_r125d
  rw [if_pos h]
  rfl
def pRf (X M : jW) (x m : Int × jW) : Prop := ∃ e : Int, (-6 ≤ e ∧ e < 0) ∧ x = (e, vu X 31 12 e) ∧ m = (e, vu (vu M 125 0 0) 125 1 e)
def pAx (X X1 : jW) : jW := vu (vu X1 31 12 0) 32 19 (j_iadd (X.1 32 19) 1)
def pOk (X X1 M1 : jW) (v : Int) (x m : Int × jW) : Prop := 0 ≤ v ∧ x = (v, pAx X X1) ∧ m = (v, vu M1 125 1 0)
def pOu (X M X1 M1 : jW) (v : Int) (G : Prop) (x m : Int × jW) : Prop := pRf X M x m ∨ (G ∧ pOk X X1 M1 v x m)
/-! pure: the split of a holding -/
theorem sp_s {W : jW} {r : Nat} {h t i : Int} : d_X12_splitOf_r125d_4 (r + 1) h t i W = if W.1 126 9 ≤ i then t else if W.1 126 (47660 + 6 * i).toNat = h then d_X12_splitOf_r125d_4 r h (47660 + 6 * i) (i + 1) W else d_X12_splitOf_r125d_4 r h t (i + 1) W := rfl
theorem sp_n {W : jW} {h : Int} : ∀ (r : Nat) (t i : Int), W.1 126 9 - i < (r : Int) → (∀ k : Int, i ≤ k → k < W.1 126 9 → W.1 126 (47660 + 6 * k).toNat ≠ h) → d_X12_splitOf_r125d_4 r h t i W = if r = 0 then 0 else t := by
  intro r
  induction r with
  | zero => intros; rfl
  | succ r ih =>
    intro t i h1 h2
    rw [sp_s, if_neg (c := r + 1 = 0) (by omega)]
    by_cases c : W.1 126 9 ≤ i
    · rw [if_pos c]
    · rw [if_neg c, if_neg (h2 i (by omega) (by omega)), ih t (i + 1) (by omega) (fun k k1 k2 => h2 k (by omega) k2), if_neg (by omega)]
theorem sp_f {W : jW} {h k : Int} (k0 : 0 ≤ k) (k1 : k < W.1 126 9) (k2 : W.1 126 (47660 + 6 * k).toNat = h) (k3 : ∀ j : Int, k < j → j < W.1 126 9 → W.1 126 (47660 + 6 * j).toNat ≠ h) : ∀ (r : Nat) (t i : Int), i ≤ k → W.1 126 9 - i < (r : Int) → d_X12_splitOf_r125d_4 r h t i W = 47660 + 6 * k := by
  intro r
  induction r with
  | zero => intros; exfalso; omega
  | succ r ih =>
    intro t i h1 h2
    rw [sp_s, if_neg (by omega)]
    by_cases e : i = k
    · subst e
      rw [if_pos k2, sp_n r _ (i + 1) (by omega) (fun j j1 j2 => k3 j (by omega) j2), if_neg (by omega)]
    · by_cases c : W.1 126 (47660 + 6 * i).toNat = h
      · rw [if_pos c]; exact ih _ (i + 1) (by omega) (by omega)
      · rw [if_neg c]; exact ih _ (i + 1) (by omega) (by omega)
theorem sp_no {X W : jW} (H : pHo X 32 (W.1 126)) {h : Int} (h0 : 0 ≤ h) (h1 : h < W.1 126 7) : (X.1 50 (5 * h.toNat + 2) = -1 ∧ d_X12_splitOf_r125d h W = -1) ∨ ∃ k : Nat, (k : Int) < W.1 126 9 ∧ pHs X 32 (W.1 126) h.toNat k ∧ d_X12_splitOf_r125d h W = 47660 + 6 * (k : Int) := by
  have b := H.1
  unfold d_X12_splitOf_r125d
  rcases H.2.2.2.2 h.toNat (by omega) with ⟨p, q⟩ | ⟨k, k1, k2⟩
  · refine Or.inl ⟨p, ?_⟩
    rw [sp_n 41 _ 0 (by omega) (fun k k0 k1 => ?_), if_neg (by omega)]
    rw [show (47660 + 6 * k).toNat = 47660 + 6 * k.toNat from by omega]
    have := q k.toNat (by omega)
    omega
  · refine Or.inr ⟨k, k1, k2, ?_⟩
    refine sp_f (k := (k : Int)) (by omega) k1 ?_ (fun j j1 j2 => ?_) 41 _ 0 (by omega) (by omega)
    · rw [show (47660 + 6 * (k : Int)).toNat = 47660 + 6 * k from by omega]
      have := k2.1
      omega
    · rw [show (47660 + 6 * j).toNat = 47660 + 6 * j.toNat from by omega]
      have z := H.2.2.2.1 k j.toNat (by omega) (by omega)
      have := k2.1
      omega
theorem ht_2 {X : jW} {h : Int} (h0 : 0 ≤ h) (h1 : h < X.1 49 3) : d_X8_at_r49_c2d h X = X.1 50 (5 * h.toNat + 2) := by
  unfold d_X8_at_r49_c2d
  rw [if_neg (by omega), show (h * 5 + 2).toNat = 5 * h.toNat + 2 from by omega]
theorem to_torn {X M : jW} {a1 a2 a3 a4 : Int} (D : pD X 32 (M.1 126)) : pOu X M (d_X8_add_r41d a4 a2 a3 a1 0 0 X) (vu (vu (vu (vu (vu (vu M 125 0 0) 126 (18740 + 4 * M.1 126 3).toNat a1) 126 (18740 + 4 * M.1 126 3 + 1).toNat a2) 126 (18740 + 4 * M.1 126 3 + 2).toNat a3) 126 (18740 + 4 * M.1 126 3 + 3).toNat a4) 126 3 (M.1 126 3 + 1)) (M.1 126 3 + 1) (M.1 126 3 < 20 ∧ (0 ≤ a1 ∧ a1 ≤ 5) ∧ (0 ≤ a2 ∧ a2 ≤ a3) ∧ a3 ≤ 146399 ∧ (0 ≤ a4 ∧ a4 ≤ 146399)) (d_X11_torn_r31d a1 a2 a3 a4 X) (d_X12_torn_r125d a1 a2 a3 a4 M) := by
  have e : X.1 41 3 = M.1 126 3 := (D.1 pt_4 (by decide)).1
  have b : 0 ≤ M.1 126 3 ∧ M.1 126 3 ≤ 20 := (D.1 pt_4 (by decide)).2.1
  have f := @fu_41 X
  unfold d_X11_torn_r31d d_X12_torn_r125d
  by_cases hf : X.1 41 3 < 20
  · rw [if_pos hf] at f
    have a := @an_41 X (a4) (a2) (a3) (a1) (0) (0) hf
    rw [e] at a
    repeat' split
    all_goals first
      | exact Or.inl ⟨-1, by decide, rfl, told_n (by decide)⟩
      | exact Or.inl ⟨-2, by decide, rfl, told_n (by decide)⟩
      | exact Or.inl ⟨-3, by decide, rfl, told_n (by decide)⟩
      | exact Or.inl ⟨-5, by decide, rfl, told_n (by decide)⟩
      | exact Or.inr ⟨by omega, by omega, Prod.ext (by dsimp only; rw [a]) rfl, told_p (by omega)⟩
      | (exfalso; omega)
  · rw [if_neg hf] at f
    repeat' split
    all_goals first
      | exact Or.inl ⟨-1, by decide, rfl, told_n (by decide)⟩
      | exact Or.inl ⟨-2, by decide, rfl, told_n (by decide)⟩
      | exact Or.inl ⟨-3, by decide, rfl, told_n (by decide)⟩
      | exact Or.inl ⟨-5, by decide, rfl, told_n (by decide)⟩
      | (exfalso; omega)
theorem to_levy {X M : jW} {a1 a2 a3 a4 : Int} (D : pD X 32 (M.1 126)) : pOu X M (d_X8_add_r53d a4 a2 a1 a3 0 0 X) (vu (vu (vu (vu (vu (vu M 125 0 0) 126 (48300 + 4 * M.1 126 11).toNat a1) 126 (48300 + 4 * M.1 126 11 + 1).toNat a2) 126 (48300 + 4 * M.1 126 11 + 2).toNat a3) 126 (48300 + 4 * M.1 126 11 + 3).toNat a4) 126 11 (M.1 126 11 + 1)) (M.1 126 11 + 1 - 1) (M.1 126 11 < 40 ∧ (0 ≤ a1 ∧ a1 ≤ 2) ∧ (0 ≤ a2 ∧ a2 ≤ 399) ∧ (0 ≤ a3 ∧ a3 ≤ 1000000) ∧ (0 ≤ a4 ∧ a4 ≤ 146399)) (d_X11_levy_r31d a1 a2 a3 a4 X) (d_X12_levy_r125d a1 a2 a3 a4 M) := by
  have e : X.1 53 3 = M.1 126 11 := (D.1 pt_10 (by decide)).1
  have b : 0 ≤ M.1 126 11 ∧ M.1 126 11 ≤ 40 := (D.1 pt_10 (by decide)).2.1
  have f := @fu_53 X
  unfold d_X11_levy_r31d d_X12_levy_r125d
  by_cases hf : X.1 53 3 < 40
  · rw [if_pos hf] at f
    have a := @an_53 X (a4) (a2) (a1) (a3) (0) (0) hf
    rw [e] at a
    repeat' split
    all_goals first
      | exact Or.inl ⟨-1, by decide, rfl, told_n (by decide)⟩
      | exact Or.inl ⟨-2, by decide, rfl, told_n (by decide)⟩
      | exact Or.inl ⟨-3, by decide, rfl, told_n (by decide)⟩
      | exact Or.inl ⟨-5, by decide, rfl, told_n (by decide)⟩
      | exact Or.inr ⟨by omega, by omega, Prod.ext (by dsimp only; rw [a]) rfl, told_p (by omega)⟩
      | (exfalso; omega)
  · rw [if_neg hf] at f
    repeat' split
    all_goals first
      | exact Or.inl ⟨-1, by decide, rfl, told_n (by decide)⟩
      | exact Or.inl ⟨-2, by decide, rfl, told_n (by decide)⟩
      | exact Or.inl ⟨-3, by decide, rfl, told_n (by decide)⟩
      | exact Or.inl ⟨-5, by decide, rfl, told_n (by decide)⟩
      | (exfalso; omega)
theorem to_entry {X M : jW} {a1 a2 a3 a4 : Int} (D : pD X 32 (M.1 126)) : pOu X M (d_X8_add_r57d a4 a2 a1 a3 0 0 X) (vu (vu (vu (vu (vu (vu M 125 0 0) 126 (48960 + 4 * M.1 126 13).toNat a1) 126 (48960 + 4 * M.1 126 13 + 1).toNat a2) 126 (48960 + 4 * M.1 126 13 + 2).toNat a3) 126 (48960 + 4 * M.1 126 13 + 3).toNat a4) 126 13 (M.1 126 13 + 1)) (M.1 126 13 + 1) (M.1 126 13 < 100 ∧ (0 ≤ a1 ∧ a1 ≤ 3) ∧ (0 ≤ a2 ∧ a2 ≤ 399) ∧ (-1000000 ≤ a3 ∧ a3 ≤ 1000000) ∧ (0 ≤ a4 ∧ a4 ≤ 146399)) (d_X11_entry_r31d a1 a2 a3 a4 X) (d_X12_entry_r125d a1 a2 a3 a4 M) := by
  have e : X.1 57 3 = M.1 126 13 := (D.1 pt_12 (by decide)).1
  have b : 0 ≤ M.1 126 13 ∧ M.1 126 13 ≤ 100 := (D.1 pt_12 (by decide)).2.1
  have f := @fu_57 X
  unfold d_X11_entry_r31d d_X12_entry_r125d
  by_cases hf : X.1 57 3 < 100
  · rw [if_pos hf] at f
    have a := @an_57 X (a4) (a2) (a1) (a3) (0) (0) hf
    rw [e] at a
    repeat' split
    all_goals first
      | exact Or.inl ⟨-1, by decide, rfl, told_n (by decide)⟩
      | exact Or.inl ⟨-2, by decide, rfl, told_n (by decide)⟩
      | exact Or.inl ⟨-3, by decide, rfl, told_n (by decide)⟩
      | exact Or.inl ⟨-5, by decide, rfl, told_n (by decide)⟩
      | exact Or.inr ⟨by omega, by omega, Prod.ext (by dsimp only; rw [a]) rfl, told_p (by omega)⟩
      | (exfalso; omega)
  · rw [if_neg hf] at f
    repeat' split
    all_goals first
      | exact Or.inl ⟨-1, by decide, rfl, told_n (by decide)⟩
      | exact Or.inl ⟨-2, by decide, rfl, told_n (by decide)⟩
      | exact Or.inl ⟨-3, by decide, rfl, told_n (by decide)⟩
      | exact Or.inl ⟨-5, by decide, rfl, told_n (by decide)⟩
      | (exfalso; omega)
theorem to_price {X M : jW} {a1 a2 a3 a4 : Int} (D : pD X 32 (M.1 126)) : pOu X M (d_X8_add_r61d a4 a2 a1 a3 0 0 X) (vu (vu (vu (vu (vu (vu M 125 0 0) 126 (49520 + 4 * M.1 126 15).toNat a1) 126 (49520 + 4 * M.1 126 15 + 1).toNat a2) 126 (49520 + 4 * M.1 126 15 + 2).toNat a3) 126 (49520 + 4 * M.1 126 15 + 3).toNat a4) 126 15 (M.1 126 15 + 1)) (M.1 126 15 + 1) (M.1 126 15 < 100 ∧ (0 ≤ a1 ∧ a1 ≤ 2) ∧ (0 ≤ a2 ∧ a2 ≤ 399) ∧ (0 ≤ a3 ∧ a3 ≤ 10000) ∧ (0 ≤ a4 ∧ a4 ≤ 146399)) (d_X11_price_r31d a1 a2 a3 a4 X) (d_X12_price_r125d a1 a2 a3 a4 M) := by
  have e : X.1 61 3 = M.1 126 15 := (D.1 pt_14 (by decide)).1
  have b : 0 ≤ M.1 126 15 ∧ M.1 126 15 ≤ 100 := (D.1 pt_14 (by decide)).2.1
  have f := @fu_61 X
  unfold d_X11_price_r31d d_X12_price_r125d
  by_cases hf : X.1 61 3 < 100
  · rw [if_pos hf] at f
    have a := @an_61 X (a4) (a2) (a1) (a3) (0) (0) hf
    rw [e] at a
    repeat' split
    all_goals first
      | exact Or.inl ⟨-1, by decide, rfl, told_n (by decide)⟩
      | exact Or.inl ⟨-2, by decide, rfl, told_n (by decide)⟩
      | exact Or.inl ⟨-3, by decide, rfl, told_n (by decide)⟩
      | exact Or.inl ⟨-5, by decide, rfl, told_n (by decide)⟩
      | exact Or.inr ⟨by omega, by omega, Prod.ext (by dsimp only; rw [a]) rfl, told_p (by omega)⟩
      | (exfalso; omega)
  · rw [if_neg hf] at f
    repeat' split
    all_goals first
      | exact Or.inl ⟨-1, by decide, rfl, told_n (by decide)⟩
      | exact Or.inl ⟨-2, by decide, rfl, told_n (by decide)⟩
      | exact Or.inl ⟨-3, by decide, rfl, told_n (by decide)⟩
      | exact Or.inl ⟨-5, by decide, rfl, told_n (by decide)⟩
      | (exfalso; omega)
theorem to_pay {X M : jW} {a1 a2 a3 a4 a5 : Int} (D : pD X 32 (M.1 126)) : pOu X M (d_X8_add_r55d a5 a4 a2 a1 a3 0 X) (vu (vu (vu (vu (vu (vu (vu M 125 0 0) 126 (48460 + 5 * M.1 126 12).toNat a1) 126 (48460 + 5 * M.1 126 12 + 1).toNat a2) 126 (48460 + 5 * M.1 126 12 + 2).toNat a3) 126 (48460 + 5 * M.1 126 12 + 3).toNat a4) 126 (48460 + 5 * M.1 126 12 + 4).toNat a5) 126 12 (M.1 126 12 + 1)) (M.1 126 12 + 1) (M.1 126 12 < 100 ∧ (1 ≤ a3 ∧ a3 ≤ 1000000) ∧ (0 ≤ a4 ∧ a4 ≤ 146399) ∧ (0 ≤ a5 ∧ a5 ≤ 146399) ∧ (0 ≤ a1 ∧ a1 < M.1 126 11) ∧ (0 ≤ a2 ∧ a2 < M.1 126 7)) (d_X11_pay_r31d a1 a2 a3 a4 a5 X) (d_X12_pay_r125d a1 a2 a3 a4 a5 M) := by
  have e : X.1 55 3 = M.1 126 12 := (D.1 pt_11 (by decide)).1
  have b : 0 ≤ M.1 126 12 ∧ M.1 126 12 ≤ 100 := (D.1 pt_11 (by decide)).2.1
  have f := @fu_55 X
  have e2 : X.1 49 3 = M.1 126 7 := D.2.2.2.2.1
  have e3 : X.1 53 3 = M.1 126 11 := (D.1 pt_10 (by decide)).1
  unfold d_X11_pay_r31d d_X12_pay_r125d
  by_cases hf : X.1 55 3 < 100
  · rw [if_pos hf] at f
    have a := @an_55 X (a5) (a4) (a2) (a1) (a3) (0) hf
    rw [e] at a
    repeat' split
    all_goals first
      | exact Or.inl ⟨-1, by decide, rfl, told_n (by decide)⟩
      | exact Or.inl ⟨-2, by decide, rfl, told_n (by decide)⟩
      | exact Or.inl ⟨-3, by decide, rfl, told_n (by decide)⟩
      | exact Or.inl ⟨-5, by decide, rfl, told_n (by decide)⟩
      | exact Or.inr ⟨by omega, by omega, Prod.ext (by dsimp only; rw [a]) rfl, told_p (by omega)⟩
      | (exfalso; omega)
  · rw [if_neg hf] at f
    repeat' split
    all_goals first
      | exact Or.inl ⟨-1, by decide, rfl, told_n (by decide)⟩
      | exact Or.inl ⟨-2, by decide, rfl, told_n (by decide)⟩
      | exact Or.inl ⟨-3, by decide, rfl, told_n (by decide)⟩
      | exact Or.inl ⟨-5, by decide, rfl, told_n (by decide)⟩
      | (exfalso; omega)
theorem to_appeal {X M : jW} {a1 a2 a3 : Int} (D : pD X 32 (M.1 126)) : pOu X M (d_X8_add_r45d a3 a2 a1 0 0 0 X) (vu (vu (vu (vu (vu M 125 0 0) 126 (47140 + 3 * M.1 126 6).toNat a1) 126 (47140 + 3 * M.1 126 6 + 1).toNat a2) 126 (47140 + 3 * M.1 126 6 + 2).toNat a3) 126 6 (M.1 126 6 + 1)) (M.1 126 6 + 1) (M.1 126 6 < 40 ∧ (0 ≤ a2 ∧ a2 ≤ 146399) ∧ (0 ≤ a3 ∧ a3 ≤ 146399) ∧ (0 ≤ a1 ∧ a1 < M.1 126 0) ∧ M.1 126 (20 + 90 * a1).toNat = 5 ∧ M.1 126 (20 + 90 * a1 + 2).toNat ≤ a2) (d_X11_appeal_r31d a1 a2 a3 X) (d_X12_appeal_r125d a1 a2 a3 M) := by
  have e : X.1 45 3 = M.1 126 6 := (D.1 pt_6 (by decide)).1
  have b : 0 ≤ M.1 126 6 ∧ M.1 126 6 ≤ 40 := (D.1 pt_6 (by decide)).2.1
  have f := @fu_45 X
  have e2 : X.1 33 3 = M.1 126 0 := (D.1 pt_0 (by decide)).1
  have e3 : 0 ≤ a1 → a1 < M.1 126 0 → d_X8_at_r33_c2d a1 X = M.1 126 (20 + 90 * a1).toNat ∧ d_X8_at_r33_c1d a1 X = M.1 126 (20 + 90 * a1 + 2).toNat := fun h0 h1 => ⟨(at_33_2 (D.1 pt_0 (by decide)) h0 h1).trans (by rw [Int.add_zero]), at_33_1 (D.1 pt_0 (by decide)) h0 h1⟩
  unfold d_X11_appeal_r31d d_X12_appeal_r125d
  by_cases hf : X.1 45 3 < 40
  · rw [if_pos hf] at f
    have a := @an_45 X (a3) (a2) (a1) (0) (0) (0) hf
    rw [e] at a
    repeat' split
    all_goals first
      | exact Or.inl ⟨-1, by decide, rfl, told_n (by decide)⟩
      | exact Or.inl ⟨-2, by decide, rfl, told_n (by decide)⟩
      | exact Or.inl ⟨-3, by decide, rfl, told_n (by decide)⟩
      | exact Or.inl ⟨-5, by decide, rfl, told_n (by decide)⟩
      | exact Or.inr ⟨by omega, by omega, Prod.ext (by dsimp only; rw [a]) rfl, told_p (by omega)⟩
      | (exfalso; omega)
  · rw [if_neg hf] at f
    repeat' split
    all_goals first
      | exact Or.inl ⟨-1, by decide, rfl, told_n (by decide)⟩
      | exact Or.inl ⟨-2, by decide, rfl, told_n (by decide)⟩
      | exact Or.inl ⟨-3, by decide, rfl, told_n (by decide)⟩
      | exact Or.inl ⟨-5, by decide, rfl, told_n (by decide)⟩
      | (exfalso; omega)
theorem to_value {X M : jW} {a1 a2 a3 a4 : Int} (D : pD X 32 (M.1 126)) : pOu X M (d_X8_add_r47d a4 a3 a1 a2 0 0 X) (vu (vu (vu (vu (vu (vu M 125 0 0) 126 (47260 + 4 * M.1 126 8).toNat a1) 126 (47260 + 4 * M.1 126 8 + 1).toNat a2) 126 (47260 + 4 * M.1 126 8 + 2).toNat a3) 126 (47260 + 4 * M.1 126 8 + 3).toNat a4) 126 8 (M.1 126 8 + 1)) (M.1 126 8 + 1) (M.1 126 8 < 100 ∧ (0 ≤ a1 ∧ a1 < M.1 126 7) ∧ (0 ≤ a2 ∧ a2 ≤ 10000) ∧ (0 ≤ a3 ∧ a3 ≤ 146399) ∧ (0 ≤ a4 ∧ a4 ≤ 146399)) (d_X11_value_r31d a1 a2 a3 a4 X) (d_X12_value_r125d a1 a2 a3 a4 M) := by
  have e : X.1 47 3 = M.1 126 8 := (D.1 pt_7 (by decide)).1
  have b : 0 ≤ M.1 126 8 ∧ M.1 126 8 ≤ 100 := (D.1 pt_7 (by decide)).2.1
  have f := @fu_47 X
  have e2 : X.1 49 3 = M.1 126 7 := D.2.2.2.2.1
  have e3 : 0 ≤ a1 → a1 < M.1 126 7 → (d_X8_at_r49_c2d a1 X = -1 ∧ d_X12_splitOf_r125d a1 (vu M 125 0 0) = -1) ∨ (d_X8_at_r49_c2d a1 X ≠ -1 ∧ d_X12_splitOf_r125d a1 (vu M 125 0 0) ≠ -1) := by
    intro h0 h1
    have e4 : (vu M 125 0 0).1 126 = M.1 126 := vu_c (by decide)
    rw [ht_2 h0 (by omega)]
    rcases sp_no (X := X) (W := vu M 125 0 0) (by rw [e4]; exact D.2.2.2) h0 (by rw [e4]; exact h1) with p | ⟨k, k1, k2, k3⟩
    · exact Or.inl p
    · refine Or.inr ⟨?_, by omega⟩
      have z1 := k2.2.1
      have z2 := k2.2.2.2.2.2.2.1
      change _ = X.1 50 _ at z1
      omega
  unfold d_X11_value_r31d d_X12_value_r125d
  by_cases hf : X.1 47 3 < 100
  · rw [if_pos hf] at f
    have a := @an_47 X (a4) (a3) (a1) (a2) (0) (0) hf
    rw [e] at a
    repeat' split
    all_goals first
      | exact Or.inl ⟨-1, by decide, rfl, told_n (by decide)⟩
      | exact Or.inl ⟨-2, by decide, rfl, told_n (by decide)⟩
      | exact Or.inl ⟨-3, by decide, rfl, told_n (by decide)⟩
      | exact Or.inl ⟨-5, by decide, rfl, told_n (by decide)⟩
      | exact Or.inr ⟨by omega, by omega, Prod.ext (by dsimp only; rw [a]) rfl, told_p (by omega)⟩
      | (exfalso; omega)
  · rw [if_neg hf] at f
    repeat' split
    all_goals first
      | exact Or.inl ⟨-1, by decide, rfl, told_n (by decide)⟩
      | exact Or.inl ⟨-2, by decide, rfl, told_n (by decide)⟩
      | exact Or.inl ⟨-3, by decide, rfl, told_n (by decide)⟩
      | exact Or.inl ⟨-5, by decide, rfl, told_n (by decide)⟩
      | (exfalso; omega)
theorem dd_torn {X M : jW} {a1 a2 a3 a4 : Int} (D : pD X 32 (M.1 126)) (h : M.1 126 3 < 20) : pD (d_X8_add_r41d a4 a2 a3 a1 0 0 X) 32 ((vu (vu (vu (vu (vu (vu M 125 0 0) 126 (18740 + 4 * M.1 126 3).toNat a1) 126 (18740 + 4 * M.1 126 3 + 1).toNat a2) 126 (18740 + 4 * M.1 126 3 + 2).toNat a3) 126 (18740 + 4 * M.1 126 3 + 3).toNat a4) 126 3 (M.1 126 3 + 1)).1 126) := da_4 (V := vu M 125 0 0) (n := M.1 126 3) (vu_n (by omega)) (by rw [vu_c (by decide)]; exact D) h
theorem dd_levy {X M : jW} {a1 a2 a3 a4 : Int} (D : pD X 32 (M.1 126)) (h : M.1 126 11 < 40) : pD (d_X8_add_r53d a4 a2 a1 a3 0 0 X) 32 ((vu (vu (vu (vu (vu (vu M 125 0 0) 126 (48300 + 4 * M.1 126 11).toNat a1) 126 (48300 + 4 * M.1 126 11 + 1).toNat a2) 126 (48300 + 4 * M.1 126 11 + 2).toNat a3) 126 (48300 + 4 * M.1 126 11 + 3).toNat a4) 126 11 (M.1 126 11 + 1)).1 126) := da_10 (V := vu M 125 0 0) (n := M.1 126 11) (vu_n (by omega)) (by rw [vu_c (by decide)]; exact D) h
theorem dd_entry {X M : jW} {a1 a2 a3 a4 : Int} (D : pD X 32 (M.1 126)) (h : M.1 126 13 < 100) : pD (d_X8_add_r57d a4 a2 a1 a3 0 0 X) 32 ((vu (vu (vu (vu (vu (vu M 125 0 0) 126 (48960 + 4 * M.1 126 13).toNat a1) 126 (48960 + 4 * M.1 126 13 + 1).toNat a2) 126 (48960 + 4 * M.1 126 13 + 2).toNat a3) 126 (48960 + 4 * M.1 126 13 + 3).toNat a4) 126 13 (M.1 126 13 + 1)).1 126) := da_12 (V := vu M 125 0 0) (n := M.1 126 13) (vu_n (by omega)) (by rw [vu_c (by decide)]; exact D) h
theorem dd_price {X M : jW} {a1 a2 a3 a4 : Int} (D : pD X 32 (M.1 126)) (h : M.1 126 15 < 100) : pD (d_X8_add_r61d a4 a2 a1 a3 0 0 X) 32 ((vu (vu (vu (vu (vu (vu M 125 0 0) 126 (49520 + 4 * M.1 126 15).toNat a1) 126 (49520 + 4 * M.1 126 15 + 1).toNat a2) 126 (49520 + 4 * M.1 126 15 + 2).toNat a3) 126 (49520 + 4 * M.1 126 15 + 3).toNat a4) 126 15 (M.1 126 15 + 1)).1 126) := da_14 (V := vu M 125 0 0) (n := M.1 126 15) (vu_n (by omega)) (by rw [vu_c (by decide)]; exact D) h
theorem dd_pay {X M : jW} {a1 a2 a3 a4 a5 : Int} (D : pD X 32 (M.1 126)) (h : M.1 126 12 < 100) : pD (d_X8_add_r55d a5 a4 a2 a1 a3 0 X) 32 ((vu (vu (vu (vu (vu (vu (vu M 125 0 0) 126 (48460 + 5 * M.1 126 12).toNat a1) 126 (48460 + 5 * M.1 126 12 + 1).toNat a2) 126 (48460 + 5 * M.1 126 12 + 2).toNat a3) 126 (48460 + 5 * M.1 126 12 + 3).toNat a4) 126 (48460 + 5 * M.1 126 12 + 4).toNat a5) 126 12 (M.1 126 12 + 1)).1 126) := da_11 (V := vu M 125 0 0) (n := M.1 126 12) (vu_n (by omega)) (by rw [vu_c (by decide)]; exact D) h
theorem dd_appeal {X M : jW} {a1 a2 a3 : Int} (D : pD X 32 (M.1 126)) (h : M.1 126 6 < 40) : pD (d_X8_add_r45d a3 a2 a1 0 0 0 X) 32 ((vu (vu (vu (vu (vu M 125 0 0) 126 (47140 + 3 * M.1 126 6).toNat a1) 126 (47140 + 3 * M.1 126 6 + 1).toNat a2) 126 (47140 + 3 * M.1 126 6 + 2).toNat a3) 126 6 (M.1 126 6 + 1)).1 126) := da_6 (V := vu M 125 0 0) (n := M.1 126 6) (vu_n (by omega)) (by rw [vu_c (by decide)]; exact D) h
theorem dd_value {X M : jW} {a1 a2 a3 a4 : Int} (D : pD X 32 (M.1 126)) (h : M.1 126 8 < 100) : pD (d_X8_add_r47d a4 a3 a1 a2 0 0 X) 32 ((vu (vu (vu (vu (vu (vu M 125 0 0) 126 (47260 + 4 * M.1 126 8).toNat a1) 126 (47260 + 4 * M.1 126 8 + 1).toNat a2) 126 (47260 + 4 * M.1 126 8 + 2).toNat a3) 126 (47260 + 4 * M.1 126 8 + 3).toNat a4) 126 8 (M.1 126 8 + 1)).1 126) := da_7 (V := vu M 125 0 0) (n := M.1 126 8) (vu_n (by omega)) (by rw [vu_c (by decide)]; exact D) h
end jG2
