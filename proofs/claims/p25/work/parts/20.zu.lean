/-! text: the code and the pile of a SUM or TEST, as functions -/
def jhn (O : Nat → Int32) (a : Nat) : Nat → Int | 0 => 0 | n + 1 => jhn O a n + jwt (O (a + n)).toInt
def jbi (P : Nat → Int32) : Nat → Int | 0 => 0 | i + 1 => jbi P i + (if 6 ≤ (P i).toInt ∧ (P i).toInt ≤ 12 then 1 else 0)
def jct (P : Nat → Int32) : Nat → Int | 0 => 0 | i + 1 => jct P i + (if (P i).toInt = 19 ∨ (P i).toInt = 20 then 0 else 1)
theorem jhn_c {O O' : Nat → Int32} {a : Nat} : ∀ {n : Nat}, (∀ k, k < n → O' (a + k) = O (a + k)) → jhn O' a n = jhn O a n
  | 0, _ => rfl
  | n + 1, e => by
    show jhn O' a n + jwt (O' (a + n)).toInt = jhn O a n + jwt (O (a + n)).toInt
    rw [jhn_c (fun k hk => e k (by omega)), e n (by omega)]
theorem jbi_c {P P' : Nat → Int32} : ∀ {n : Nat}, (∀ k, k < n → P' k = P k) → jbi P' n = jbi P n
  | 0, _ => rfl
  | n + 1, e => by
    show jbi P' n + (if 6 ≤ (P' n).toInt ∧ (P' n).toInt ≤ 12 then 1 else 0) = jbi P n + (if 6 ≤ (P n).toInt ∧ (P n).toInt ≤ 12 then 1 else 0)
    rw [jbi_c (fun k hk => e k (by omega)), e n (by omega)]
theorem jct_c {P P' : Nat → Int32} : ∀ {n : Nat}, (∀ k, k < n → P' k = P k) → jct P' n = jct P n
  | 0, _ => rfl
  | n + 1, e => by
    show jct P' n + (if (P' n).toInt = 19 ∨ (P' n).toInt = 20 then 0 else 1) = jct P n + (if (P n).toInt = 19 ∨ (P n).toInt = 20 then 0 else 1)
    rw [jct_c (fun k hk => e k (by omega)), e n (by omega)]
theorem jbi_nn {P : Nat → Int32} : ∀ n, 0 ≤ jbi P n
  | 0 => Int.le_refl _
  | n + 1 => by
    have a := jbi_nn (P := P) n
    show 0 ≤ jbi P n + _
    split <;> omega
theorem jct_nn {P : Nat → Int32} : ∀ n, 0 ≤ jct P n
  | 0 => Int.le_refl _
  | n + 1 => by
    have a := jct_nn (P := P) n
    show 0 ≤ jct P n + _
    split <;> omega
theorem jbi_1 {P : Nat → Int32} {n : Nat} (e : 6 ≤ (P n).toInt ∧ (P n).toInt ≤ 12) : jbi P (n + 1) = jbi P n + 1 := by show jbi P n + _ = _; rw [if_pos e]
theorem jbi_0 {P : Nat → Int32} {n : Nat} (e : ¬ (6 ≤ (P n).toInt ∧ (P n).toInt ≤ 12)) : jbi P (n + 1) = jbi P n := by show jbi P n + _ = _; rw [if_neg e, Int.add_zero]
theorem jct_0 {P : Nat → Int32} {n : Nat} (e : (P n).toInt = 19 ∨ (P n).toInt = 20) : jct P (n + 1) = jct P n := by show jct P n + _ = _; rw [if_pos e, Int.add_zero]
theorem jct_1 {P : Nat → Int32} {n : Nat} (e : ¬ ((P n).toInt = 19 ∨ (P n).toInt = 20)) : jct P (n + 1) = jct P n + 1 := by show jct P n + _ = _; rw [if_neg e]
def jAo_ (x : Int32) : Prop := x.toInt = 19 ∨ x.toInt = 20
/-- an AND or OR of the code at n: its arm ends at q; or it waits on the pile -/
def jEnd (O A : Nat → Int32) (a C n : Nat) : Prop := ∃ q : Nat, (A (a + n)).toInt = ((a + q : Nat) : Int) ∧ n < q ∧ a + q ≤ C ∧ jhn O a q = jhn O a n
def jWt (P T : Nat → Int32) (a L n : Nat) : Prop := ∃ i : Nat, i < L ∧ jAo_ (P i) ∧ (T i).toInt = ((a + n : Nat) : Int)
def jXc (O A P T : Nat → Int32) (a C L : Nat) : Prop := ∀ n : Nat, a + n < C → (6 ≤ (O (a + n)).toInt → (O (a + n)).toInt ≤ 12 → 2 ≤ jhn O a n) ∧ (18 ≤ (O (a + n)).toInt → 1 ≤ jhn O a n) ∧ (18 < (O (a + n)).toInt → jEnd O A a C n ∨ jWt P T a L n)
def jXt (O P T : Nat → Int32) (a C L : Nat) : Prop := ∀ i : Nat, i < L → jAo_ (P i) → ∃ n : Nat, (T i).toInt = ((a + n : Nat) : Int) ∧ a + n < C ∧ jhn O a n = jbi P i + 1
def jXs (P : Nat → Int32) (L : Nat) : Prop := ∀ i j : Nat, i < j → j < L → (P i).toInt = 31 → (6 ≤ (P j).toInt ∧ (P j).toInt ≤ 9) ∨ (P j).toInt = 31
def jXp (O A P T : Nat → Int32) (a C L : Nat) (o : Int) : Prop := a ≤ C ∧ jXc O A P T a C L ∧ jhn O a (C - a) = jbi P L + o ∧ jXt O P T a C L ∧ jXs P L
theorem jXs_d {P : Nat → Int32} {L : Nat} (S : jXs P (L + 1)) : jXs P L := fun i j h1 h2 h3 => S i j h1 (by omega) h3
/-- settle: an AND or OR is taken off the pile -/
theorem jXp_and {O A A' P T : Nat → Int32} {a C L : Nat} (X : jXp O A P T a C (L + 1) 1) (e : jAo_ (P L)) (k : Nat) (hk : (T L).toInt = (k : Int)) (w : (A' k).toInt = (C : Int)) (o : ∀ j, j ≠ k → A' j = A j) : jXp O A' P T a C L 1 := by
  obtain ⟨x1, x2, x3, x4, x5⟩ := X
  obtain ⟨n, n1, n2, n3⟩ := x4 L (by omega) e
  have kn : k = a + n := by omega
  have b0 : jbi P (L + 1) = jbi P L := jbi_0 (by rcases e with e | e <;> omega)
  rw [b0] at x3
  refine ⟨x1, fun m hm => ?_, x3, fun i hi => x4 i (by omega), jXs_d x5⟩
  have c := x2 m hm
  refine ⟨c.1, c.2.1, fun d => ?_⟩
  by_cases z : m = n
  · subst z
    exact Or.inl ⟨C - a, by rw [← kn, w]; omega, by omega, by omega, by rw [x3, n3]⟩
  · rcases c.2.2 d with ⟨q, q1, q2, q3, q4⟩ | ⟨i, i1, i2, i3⟩
    · exact Or.inl ⟨q, by rw [o _ (by omega)]; exact q1, q2, q3, q4⟩
    · by_cases y : i = L
      · subst y
        omega
      · exact Or.inr ⟨i, by omega, i2, i3⟩
/-- settle: a sign goes from the pile to the code -/
theorem jXp_op {O O' A A' P T : Nat → Int32} {a C L : Nat} (X : jXp O A P T a C (L + 1) 1) (e : (6 ≤ (P L).toInt ∧ (P L).toInt ≤ 12) ∨ (P L).toInt = 18) (w : O' C = P L) (o : ∀ j, j < C → O' j = O j) (o2 : ∀ j, j < C → A' j = A j) : jXp O' A' P T a (C + 1) L 1 := by
  obtain ⟨x1, x2, x3, x4, x5⟩ := X
  have hc : ∀ n, a + n ≤ C → jhn O' a n = jhn O a n := fun n hn => jhn_c (fun k hk => o _ (by omega))
  have na : ¬ jAo_ (P L) := by unfold jAo_; omega
  have b := jbi_nn (P := P) L
  have hC : a + (C - a) = C := by omega
  refine ⟨by omega, fun m hm => ?_, ?_, fun i hi q => ?_, jXs_d x5⟩
  · by_cases z : a + m = C
    · rw [z, w, show m = C - a from by omega, hc _ (by omega), x3]
      refine ⟨fun c1 c2 => by rw [jbi_1 ⟨c1, c2⟩]; omega, fun c => ?_, fun c => by omega⟩
      have := jbi_nn (P := P) (L + 1)
      omega
    · have c := x2 m (by omega)
      rw [o _ (by omega), hc m (by omega)]
      refine ⟨c.1, c.2.1, fun d => ?_⟩
      rcases c.2.2 d with ⟨q, q1, q2, q3, q4⟩ | ⟨i, i1, i2, i3⟩
      · exact Or.inl ⟨q, by rw [o2 _ (by omega)]; exact q1, q2, by omega, by rw [hc q q3, hc m (by omega)]; exact q4⟩
      · by_cases y : i = L
        · subst y
          exact absurd i2 na
        · exact Or.inr ⟨i, by omega, i2, i3⟩
  · rw [show C + 1 - a = (C - a) + 1 from by omega]
    show jhn O' a (C - a) + jwt (O' (a + (C - a))).toInt = _
    rw [hC, hc _ (by omega), x3, w]
    rcases e with e | e
    · rw [jbi_1 e, show jwt (P L).toInt = -1 from by unfold jwt; rw [if_neg (by omega), if_pos e.2]]
      omega
    · rw [jbi_0 (by omega), e, show jwt 18 = 0 from by decide]
      omega
  · obtain ⟨n, n1, n2, n3⟩ := x4 i (by omega) q
    exact ⟨n, n1, by omega, by rw [hc n (by omega)]; exact n3⟩
/-- a leaf -/
theorem jXp_leaf {O O' A A' P T : Nat → Int32} {a C L : Nat} (X : jXp O A P T a C L 0) (e : (0 ≤ (O' C).toInt ∧ (O' C).toInt < 6) ∨ (13 ≤ (O' C).toInt ∧ (O' C).toInt < 18)) (o : ∀ j, j < C → O' j = O j) (o2 : ∀ j, j < C → A' j = A j) : jXp O' A' P T a (C + 1) L 1 := by
  obtain ⟨x1, x2, x3, x4, x5⟩ := X
  have hc : ∀ n, a + n ≤ C → jhn O' a n = jhn O a n := fun n hn => jhn_c (fun k hk => o _ (by omega))
  have hC : a + (C - a) = C := by omega
  refine ⟨by omega, fun m hm => ?_, ?_, fun i hi q => ?_, x5⟩
  · by_cases z : a + m = C
    · rw [z]
      exact ⟨fun c1 c2 => by omega, fun c => by omega, fun c => by omega⟩
    · have c := x2 m (by omega)
      rw [o _ (by omega), hc m (by omega)]
      refine ⟨c.1, c.2.1, fun d => ?_⟩
      rcases c.2.2 d with ⟨q, q1, q2, q3, q4⟩ | y
      · exact Or.inl ⟨q, by rw [o2 _ (by omega)]; exact q1, q2, by omega, by rw [hc q q3, hc m (by omega)]; exact q4⟩
      · exact Or.inr y
  · rw [show C + 1 - a = (C - a) + 1 from by omega]
    show jhn O' a (C - a) + jwt (O' (a + (C - a))).toInt = _
    rw [hC, hc _ (by omega), x3, show jwt (O' C).toInt = 1 from by
      unfold jwt
      rcases e with e | e
      · rw [if_pos e.2]
      · rw [if_neg (by omega), if_neg (by omega), if_pos e.2]]
    omega
  · obtain ⟨n, n1, n2, n3⟩ := x4 i hi q
    exact ⟨n, n1, by omega, by rw [hc n (by omega)]; exact n3⟩
theorem jWt_p {P P' T T' : Nat → Int32} {a L n : Nat} (p : ∀ j, j < L → P' j = P j) (t : ∀ j, j < L → T' j = T j) (W : jWt P T a L n) : jWt P' T' a (L + 1) n := by
  obtain ⟨i, i1, i2, i3⟩ := W
  exact ⟨i, by omega, by rw [p i i1]; exact i2, by rw [t i i1]; exact i3⟩
theorem jXs_p {P P' : Nat → Int32} {L : Nat} (p : ∀ j, j < L → P' j = P j) (S : jXs P L) (hs : ∀ i, i < L → (P i).toInt = 31 → (6 ≤ (P' L).toInt ∧ (P' L).toInt ≤ 9) ∨ (P' L).toInt = 31) : jXs P' (L + 1) := by
  intro i j h1 h2 h3
  rw [p i (by omega)] at h3
  by_cases z : j = L
  · rw [z]; exact hs i (by omega) h3
  · rw [p j (by omega)]; exact S i j h1 (by omega) h3
/-- a sign of two sides is put on the pile -/
theorem jXp_bin {O A P P' T T' : Nat → Int32} {a C L : Nat} (X : jXp O A P T a C L 1) (e : 6 ≤ (P' L).toInt ∧ (P' L).toInt ≤ 12) (p : ∀ j, j < L → P' j = P j) (t : ∀ j, j < L → T' j = T j) (hs : ∀ i, i < L → (P i).toInt = 31 → (P' L).toInt ≤ 9) : jXp O A P' T' a C (L + 1) 0 := by
  obtain ⟨x1, x2, x3, x4, x5⟩ := X
  refine ⟨x1, fun m hm => ?_, ?_, fun i hi q => ?_, jXs_p p x5 (fun i hi z => Or.inl ⟨e.1, hs i hi z⟩)⟩
  · have c := x2 m hm
    exact ⟨c.1, c.2.1, fun d => (c.2.2 d).imp id (jWt_p p t)⟩
  · rw [x3, jbi_1 e, jbi_c p]
    omega
  · by_cases z : i = L
    · subst z
      rcases q with q | q <;> omega
    · have hi2 : i < L := by omega
      rw [p i hi2] at q
      obtain ⟨n, n1, n2, n3⟩ := x4 i hi2 q
      exact ⟨n, by rw [t i hi2]; exact n1, n2, by rw [jbi_c (fun k hk => p k (by omega))]; exact n3⟩
/-- a NOT or an open mark is put on the pile -/
theorem jXp_mark {O A P P' T T' : Nat → Int32} {a C L : Nat} (X : jXp O A P T a C L 0) (e : (P' L).toInt = 18 ∨ (P' L).toInt = 30 ∨ (P' L).toInt = 31) (p : ∀ j, j < L → P' j = P j) (t : ∀ j, j < L → T' j = T j) (hs : ∀ i, i < L → (P i).toInt = 31 → (P' L).toInt = 31) : jXp O A P' T' a C (L + 1) 0 := by
  obtain ⟨x1, x2, x3, x4, x5⟩ := X
  refine ⟨x1, fun m hm => ?_, ?_, fun i hi q => ?_, jXs_p p x5 (fun i hi z => Or.inr (hs i hi z))⟩
  · have c := x2 m hm
    exact ⟨c.1, c.2.1, fun d => (c.2.2 d).imp id (jWt_p p t)⟩
  · rw [x3, jbi_0 (by omega), jbi_c p]
  · by_cases z : i = L
    · subst z
      rcases q with q | q <;> omega
    · have hi2 : i < L := by omega
      rw [p i hi2] at q
      obtain ⟨n, n1, n2, n3⟩ := x4 i hi2 q
      exact ⟨n, by rw [t i hi2]; exact n1, n2, by rw [jbi_c (fun k hk => p k (by omega))]; exact n3⟩
/-- an AND or OR is put on the pile and into the code -/
theorem jXp_ao {O O' A A' P P' T T' : Nat → Int32} {a C L : Nat} (X : jXp O A P T a C L 1) (e : jAo_ (P' L)) (w : jAo_ (O' C)) (tw : (T' L).toInt = (C : Int)) (o : ∀ j, j < C → O' j = O j) (o2 : ∀ j, j < C → A' j = A j) (p : ∀ j, j < L → P' j = P j) (t : ∀ j, j < L → T' j = T j) (hs : ∀ i, i < L → (P i).toInt ≠ 31) : jXp O' A' P' T' a (C + 1) (L + 1) 0 := by
  obtain ⟨x1, x2, x3, x4, x5⟩ := X
  have hc : ∀ n, a + n ≤ C → jhn O' a n = jhn O a n := fun n hn => jhn_c (fun k hk => o _ (by omega))
  have hC : a + (C - a) = C := by omega
  have b := jbi_nn (P := P) L
  refine ⟨by omega, fun m hm => ?_, ?_, fun i hi q => ?_, jXs_p p x5 (fun i hi z => absurd z (hs i hi))⟩
  · by_cases z : a + m = C
    · rw [z, show m = C - a from by omega, hc _ (by omega), x3]
      refine ⟨fun c1 c2 => by rcases w with w | w <;> omega, fun c => by omega, fun c => Or.inr ⟨L, by omega, e, by rw [tw]; omega⟩⟩
    · have c := x2 m (by omega)
      rw [o _ (by omega), hc m (by omega)]
      refine ⟨c.1, c.2.1, fun d => ?_⟩
      rcases c.2.2 d with ⟨q, q1, q2, q3, q4⟩ | y
      · exact Or.inl ⟨q, by rw [o2 _ (by omega)]; exact q1, q2, by omega, by rw [hc q q3, hc m (by omega)]; exact q4⟩
      · exact Or.inr (jWt_p p t y)
  · rw [show C + 1 - a = (C - a) + 1 from by omega]
    show jhn O' a (C - a) + jwt (O' (a + (C - a))).toInt = _
    rw [hC, hc _ (by omega), x3, jbi_0 (by rcases e with e | e <;> omega), jbi_c p, show jwt (O' C).toInt = -1 from by rcases w with w | w <;> rw [w] <;> decide]
    omega
  · by_cases z : i = L
    · subst z
      exact ⟨C - a, by rw [tw]; omega, by omega, by rw [hc _ (by omega), x3, jbi_c (fun k hk => p k (by omega))]⟩
    · have hi2 : i < L := by omega
      rw [p i hi2] at q
      obtain ⟨n, n1, n2, n3⟩ := x4 i hi2 q
      exact ⟨n, by rw [t i hi2]; exact n1, by omega, by rw [hc n (by omega), jbi_c (fun k hk => p k (by omega))]; exact n3⟩
/-- an open mark is taken off -/
theorem jXp_pop {O A P T : Nat → Int32} {a C L : Nat} {o : Int} (X : jXp O A P T a C (L + 1) o) (e : 30 ≤ (P L).toInt) : jXp O A P T a C L o := by
  obtain ⟨x1, x2, x3, x4, x5⟩ := X
  rw [jbi_0 (by omega)] at x3
  refine ⟨x1, fun m hm => ?_, x3, fun i hi => x4 i (by omega), jXs_d x5⟩
  have c := x2 m hm
  refine ⟨c.1, c.2.1, fun d => (c.2.2 d).imp id ?_⟩
  rintro ⟨i, i1, i2, i3⟩
  by_cases z : i = L
  · subst z
    rcases i2 with q | q <;> omega
  · exact ⟨i, by omega, i2, i3⟩
theorem jXp_new {O A P T : Nat → Int32} {a : Nat} : jXp O A P T a a 0 0 :=
  ⟨Nat.le_refl _, fun m hm => by omega, by rw [Nat.sub_self]; rfl, fun i hi => by omega, fun i j _ h2 => by omega⟩
theorem jXp_c {O O' A A' P P' T T' : Nat → Int32} {a C L : Nat} {o : Int} (X : jXp O A P T a C L o) (eo : ∀ j, j < C → O' j = O j) (ea : ∀ j, j < C → A' j = A j) (p : ∀ j, j < L → P' j = P j) (t : ∀ j, j < L → T' j = T j) : jXp O' A' P' T' a C L o := by
  obtain ⟨x1, x2, x3, x4, x5⟩ := X
  have hc : ∀ n, a + n ≤ C → jhn O' a n = jhn O a n := fun n hn => jhn_c (fun k hk => eo _ (by omega))
  refine ⟨x1, fun m hm => ?_, by rw [hc _ (by omega), x3, jbi_c p], fun i hi q => ?_, fun i j h1 h2 h3 => ?_⟩
  · have c := x2 m hm
    rw [eo _ hm, hc m (by omega)]
    refine ⟨c.1, c.2.1, fun d => ?_⟩
    rcases c.2.2 d with ⟨q, q1, q2, q3, q4⟩ | ⟨i, i1, i2, i3⟩
    · exact Or.inl ⟨q, by rw [ea _ hm]; exact q1, q2, q3, by rw [hc q q3, hc m (by omega)]; exact q4⟩
    · exact Or.inr ⟨i, i1, by rw [p i i1]; exact i2, by rw [t i i1]; exact i3⟩
  · rw [p i hi] at q
    obtain ⟨n, n1, n2, n3⟩ := x4 i hi q
    exact ⟨n, by rw [t i hi]; exact n1, n2, by rw [hc n (by omega), jbi_c (fun k hk => p k (by omega))]; exact n3⟩
  · rw [p i (by omega)] at h3
    rw [p j h2]
    exact x5 i j h1 h2 h3
/-- a stretch of code that can be gone through -/
def jPn_ (O A : Nat → Int32) (a b : Nat) : Prop := a ≤ b ∧ b ≤ 400 ∧ ∀ n : Nat, a + n < b → (6 ≤ (O (a + n)).toInt → (O (a + n)).toInt ≤ 12 → 2 ≤ jhn O a n) ∧ (18 ≤ (O (a + n)).toInt → 1 ≤ jhn O a n) ∧ (18 < (O (a + n)).toInt → jEnd O A a b n)
theorem jXp_end {O A P T : Nat → Int32} {a C : Nat} {o : Int} (X : jXp O A P T a C 0 o) (h : C ≤ 400) : jPn_ O A a C :=
  ⟨X.1, h, fun n hn => ⟨(X.2.1 n hn).1, (X.2.1 n hn).2.1, fun d => ((X.2.1 n hn).2.2 d).elim id (fun ⟨i, hi, _⟩ => by omega)⟩⟩
theorem jPn_nil {O A : Nat → Int32} {a : Nat} (h : a ≤ 400) : jPn_ O A a a := ⟨Nat.le_refl _, h, fun n hn => by omega⟩
theorem jPn_c {O O' A A' : Nat → Int32} {a b : Nat} (X : jPn_ O A a b) (eo : ∀ j, j < b → O' j = O j) (ea : ∀ j, j < b → A' j = A j) : jPn_ O' A' a b := by
  have hc : ∀ n, a + n ≤ b → jhn O' a n = jhn O a n := fun n hn => jhn_c (fun k hk => eo _ (by omega))
  refine ⟨X.1, X.2.1, fun m hm => ?_⟩
  have c := X.2.2 m hm
  rw [eo _ hm, hc m (by omega)]
  refine ⟨c.1, c.2.1, fun d => ?_⟩
  obtain ⟨q, q1, q2, q3, q4⟩ := c.2.2 d
  exact ⟨q, by rw [ea _ hm]; exact q1, q2, q3, by rw [hc q q3, hc m (by omega)]; exact q4⟩
/-- copied into the row it is what run wants -/
theorem jPc_of {f O A : Nat → Int32} {t a b : Nat} (X : jPn_ O A a b) (eo : ∀ j, j < b → f (18944 + 924 * t + 2 * j) = O j) (ea : ∀ j, j < b → f (18944 + 924 * t + 2 * j + 1) = A j) : jPc f t a b := by
  have hc : ∀ n, a + n ≤ b → jht f t a n = jhn O a n := by
    intro n
    induction n with
    | zero => intro _; rfl
    | succ n ih =>
      intro hn
      show jht f t a n + jwt (f (18944 + 924 * t + 2 * (a + n))).toInt = jhn O a n + jwt (O (a + n)).toInt
      rw [ih (by omega), eo _ (by omega)]
  refine ⟨X.2.1, fun m hm => ?_⟩
  have c := X.2.2 m hm
  rw [eo _ hm, hc m (by omega)]
  refine ⟨c.1, c.2.1, fun d => ?_⟩
  obtain ⟨q, q1, q2, q3, q4⟩ := c.2.2 d
  exact ⟨q, by rw [ea _ hm]; exact q1, q2, q3, by rw [hc q q3]; exact q4⟩
