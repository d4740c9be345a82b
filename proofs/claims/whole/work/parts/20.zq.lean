/-! what stays the same of a cell -/
def jEq (a : Nat) (P : Nat → Prop) (h h0 : jH) : Prop := ∀ i, P i → jiv h a i = jiv h0 a i
theorem jeq_0 {a : Nat} {P : Nat → Prop} {h : jH} : jEq a P h h := fun _ _ => rfl
theorem jeq_w {a : Nat} {P P' : Nat → Prop} {h h0 : jH} (e : ∀ i, P' i → P i) (E : jEq a P h h0) : jEq a P' h h0 := fun i hi => E i (e i hi)
theorem jeq_t {a : Nat} {P : Nat → Prop} {h h0 h1 : jH} (E : jEq a P h h0) (G : jEq a P h0 h1) : jEq a P h h1 := fun i hi => (E i hi).trans (G i hi)
theorem jfc_of {F : jFp} {a i : Nat} (e : (F.all fun q => !Nat.beq q.1 a) = true) : jfo F a i = false := by
  unfold jfo
  rw [List.any_eq_false]
  intro q hq
  have := (List.all_eq_true.mp e) q hq
  revert this
  cases Nat.beq q.1 a <;> simp
theorem jeq_c {F : jFp} {a : Nat} {P : Nat → Prop} {h hx9 h0 : jH} (S : jSm F h hx9) (e : (Nat.blt a 174 && (F.all fun q => !Nat.beq q.1 a)) = true) (E : jEq a P h h0) : jEq a P hx9 h0 := by
  intro i hi
  have e1 : Nat.blt a 174 = true := by revert e; cases Nat.blt a 174 <;> simp
  have e2 : (F.all fun q => !Nat.beq q.1 a) = true := by revert e; rw [e1]; simp
  rw [(S.2.2 a i (Or.inl e1) (jfc_of e2)).1]
  exact E i hi
theorem jeq_l {a b k : Nat} {P : Nat → Prop} {h hx9 h0 : jH} {x : Int64} (w : hx9 = jsl h b k x) (E : jEq a P h h0) : jEq a P hx9 h0 := fun i hi => jml w (E i hi)
theorem jeq_r {a j : Nat} {P : Nat → Prop} {h hx9 h0 : jH} {o : Option Nat} (w : hx9 = jsr h 66 j o) (E : jEq a P h h0) : jEq a P hx9 h0 := fun i hi => jmr w (E i hi)
theorem jeq_k {a b c i j l : Nat} {P : Nat → Prop} {h hx9 h0 : jH} (w : hx9 = jci h b c i j l) (e : Nat.beq a c = false) (E : jEq a P h h0) : jEq a P hx9 h0 := fun i hi => jmk w e (E i hi)
theorem jeq_o {a b k : Nat} {P : Nat → Prop} {h hx9 h0 : jH} {x : Int32} (w : hx9 = jsi h b k x) (e : Nat.beq a b = false) (E : jEq a P h h0) : jEq a P hx9 h0 := fun i hi => jmo w (by rw [e]; rfl) (E i hi)
theorem jeq_s {a k : Nat} {P : Nat → Prop} {h hx9 h0 : jH} {x : Int32} (w : hx9 = jsi h a k x) (hk : ¬ P k) (E : jEq a P h h0) : jEq a P hx9 h0 := by
  intro i hi
  refine jmo w ?_ (E i hi)
  rw [jbne (a := i) (b := k) (fun c => hk (c ▸ hi)), Bool.and_false]
theorem jnlt {x d : Int32} {m c : Int} (hx : x.toInt = m) (hd : d.toInt = c) (e : 0 ≤ c ∧ c ≤ m) : ¬ x.toNatClampNeg < d.toNatClampNeg := by
  have a := jcl_nat hx (by omega)
  have b := jcl_nat hd (by omega)
  omega
theorem jnne {x d : Int32} {m c : Int} (hx : x.toInt = m) (hd : d.toInt = c) (e : 0 ≤ c ∧ 0 ≤ m ∧ c = m) : ¬ (x.toNatClampNeg ≠ d.toNatClampNeg) := by
  have a := jcl_nat hx (by omega)
  have b := jcl_nat hd (by omega)
  omega
theorem jcn_e {h hx9 : jH} {t c : Int} (E : jEq 126 (fun _ => True) hx9 h) (C : jCn h t c) : jCn hx9 t c := by unfold jCn; rw [E _ trivial]; exact C
theorem jtc_e {h hx9 : jH} {v : Int32} (E : jEq 126 (fun _ => True) hx9 h) (C : jTc v h) : jTc v hx9 := C.imp id (jcn_e E)
/-! nextGround, askOn: what they say of the asked -/
def jNg (v : Int32) (h0 h : jH) : Prop := jEq 158 (fun i => i ≠ (jiv h0 125 74).toNatClampNeg) h h0 ∧ (jiv h0 158 (jiv h0 125 74).toNatClampNeg).toInt ≤ (jiv h 158 (jiv h0 125 74).toNatClampNeg).toInt ∧ (v.toInt = -1 ∨ (jiv h0 158 (jiv h0 125 74).toNatClampNeg).toInt < (jiv h 158 (jiv h0 125 74).toNatClampNeg).toInt)
theorem jng_of {v l g : Int32} {h0 h : jH} (C : jEq 158 (fun i => i ≠ l.toNatClampNeg) h h0 ∧ (jiv h0 158 l.toNatClampNeg).toInt ≤ g.toInt ∧ jiv h0 125 74 = l) (q : jiv h 158 l.toNatClampNeg = g) (o : v.toInt = -1 ∨ (jiv h0 158 l.toNatClampNeg).toInt < g.toInt) : jNg v h0 h := by
  obtain ⟨c1, c2, c3⟩ := C
  subst c3
  subst q
  exact ⟨c1, c2, o⟩
def jAo (h0 h : jH) : Prop := (jiv h 125 74 = jiv h0 125 74 ∧ jEq 158 (fun _ => True) h h0 ∧ jEq 159 (fun _ => True) h h0) ∨ ((jiv h 125 74).toInt = (jiv h0 125 74).toInt + 1 ∧ jEq 158 (fun i => i ≠ (jiv h 125 74).toNatClampNeg) h h0 ∧ jEq 159 (fun i => i < (jiv h0 125 74).toNatClampNeg) h h0 ∧ jiv h 158 (jiv h 125 74).toNatClampNeg = 0 ∧ jiv h 159 (jiv h 125 74).toNatClampNeg = 0)
theorem jao_of {h h0 : jH} {d u : Int32} (e0 : jiv h0 125 74 = d) (e1 : jiv h 125 74 = u) (o : u.toInt = d.toInt + 1) (a : jEq 158 (fun i => i ≠ u.toNatClampNeg) h h0) (b : jEq 159 (fun i => i < d.toNatClampNeg) h h0) (c : jiv h 158 u.toNatClampNeg = 0) (c2 : jiv h 159 u.toNatClampNeg = 0) : jAo h0 h := by
  subst e0
  subst e1
  exact Or.inr ⟨o, a, b, c, c2⟩
theorem jao_id {h h0 : jH} {d : Int32} (e0 : jiv h0 125 74 = d) (e1 : jiv h 125 74 = d) (a : jEq 158 (fun _ => True) h h0) (b : jEq 159 (fun _ => True) h h0) : jAo h0 h := Or.inl ⟨e1.trans e0.symm, a, b⟩
/-! belongs: the asked as a number that falls -/
def jbw : Nat → Int | 0 => 64000000000000000000 | 1 => 32000000000000000 | 2 => 16000000000000 | 3 => 8000000000 | 4 => 4000000 | 5 => 2000 | _ => 1
theorem jbw_pos : ∀ n, 1 ≤ jbw n
  | 0 => by decide | 1 => by decide | 2 => by decide | 3 => by decide | 4 => by decide | 5 => by decide | _ + 6 => by show (1 : Int) ≤ 1; decide
theorem jbw_s {n : Nat} (hn : n < 6) : 2000 * jbw (n + 1) = jbw n := by
  have : n = 0 ∨ n = 1 ∨ n = 2 ∨ n = 3 ∨ n = 4 ∨ n = 5 := by omega
  rcases this with rfl | rfl | rfl | rfl | rfl | rfl <;> decide
def jbq (x : Nat → Int) : Nat → Int | 0 => 0 | n + 1 => jbq x n + x n * jbw n
theorem jbq_c {x y : Nat → Int} : ∀ {n : Nat}, (∀ i, i < n → x i = y i) → jbq x n = jbq y n
  | 0, _ => rfl
  | n + 1, e => by
    show jbq x n + x n * jbw n = jbq y n + y n * jbw n
    rw [jbq_c (fun i hi => e i (by omega)), e n (by omega)]
theorem jbq_nn {x : Nat → Int} : ∀ {n : Nat}, (∀ i, i < n → 0 ≤ x i) → 0 ≤ jbq x n
  | 0, _ => by show (0 : Int) ≤ 0; decide
  | n + 1, e => by
    show 0 ≤ jbq x n + x n * jbw n
    have a := jbq_nn (x := x) (n := n) (fun i hi => e i (by omega))
    have b := Int.mul_nonneg (e n (by omega)) (show 0 ≤ jbw n from by have := jbw_pos n; omega)
    omega
theorem jbq_le {x : Nat → Int} : ∀ {n : Nat}, (∀ i, i < n → x i ≤ 1442) → jbq x n ≤ jbq (fun _ => 1442) n
  | 0, _ => by show (0 : Int) ≤ 0; decide
  | n + 1, e => by
    show jbq x n + x n * jbw n ≤ jbq (fun _ => 1442) n + 1442 * jbw n
    have a := jbq_le (x := x) (n := n) (fun i hi => e i (by omega))
    have b := Int.mul_le_mul_of_nonneg_right (e n (by omega)) (show 0 ≤ jbw n from by have := jbw_pos n; omega)
    omega
def jlq (h : jH) (i : Nat) : Int := 1 + 2 * (720 - (jiv h 158 i).toInt) + (if (jiv h 159 i).toInt = 2 then 1 else 0)
theorem jlq_b {h : jH} {i : Nat} : 1 + 2 * (720 - (jiv h 158 i).toInt) ≤ jlq h i ∧ jlq h i ≤ 2 + 2 * (720 - (jiv h 158 i).toInt) := by
  unfold jlq
  split <;> omega
def jbm (h : jH) : Int := jbq (jlq h) ((jiv h 125 74).toInt + 1).toNat
theorem jbm_at {h : jH} {d : Int32} {n : Nat} (e : jiv h 125 74 = d) (hn : d.toInt = (n : Int)) : jbm h = jbq (jlq h) n + jlq h n * jbw n := by
  unfold jbm
  rw [e, hn, show ((n : Int) + 1).toNat = n + 1 from by omega]
  rfl
theorem jlq_c {h hx9 : jH} {i : Nat} (a : jiv hx9 158 i = jiv h 158 i) (b : jiv hx9 159 i = jiv h 159 i) : jlq hx9 i = jlq h i := by unfold jlq; rw [a, b]
theorem jcl_of {d : Int32} (hd : 0 ≤ d.toInt) : d.toInt = (d.toNatClampNeg : Int) := (jcl_nat (i := d) rfl hd).symm
theorem jbm_e {h hx9 : jH} (e : jiv hx9 125 74 = jiv h 125 74) (a : jEq 158 (fun _ => True) hx9 h) (b : jEq 159 (fun _ => True) hx9 h) : jbm hx9 = jbm h := by
  unfold jbm
  rw [e]
  exact jbq_c (fun i _ => jlq_c (a i trivial) (b i trivial))
theorem jbm_t0 {h hx9 : jH} {d : Int32} (e : jiv h 125 74 = d) (hd : 0 ≤ d.toInt) (w : hx9 = jsi h 159 d.toNatClampNeg 0) : jbm hx9 ≤ jbm h := by
  have hn := jcl_of hd
  have a : ∀ i, jiv hx9 158 i = jiv h 158 i := fun i => jmo w rfl rfl
  have b : ∀ i, i ≠ d.toNatClampNeg → jiv hx9 159 i = jiv h 159 i := fun i hi => jmo w (by rw [jbne hi, Bool.and_false]) rfl
  have c : jiv hx9 159 d.toNatClampNeg = 0 := jmw w
  rw [jbm_at (h := hx9) (jmo w rfl e) hn, jbm_at e hn, jbq_c (n := d.toNatClampNeg) (x := jlq hx9) (y := jlq h) (fun i hi => jlq_c (a i) (b i (by omega)))]
  have q : jlq hx9 d.toNatClampNeg ≤ jlq h d.toNatClampNeg := by
    have := (jlq_b (h := h) (i := d.toNatClampNeg)).1
    have z : jlq hx9 d.toNatClampNeg = 1 + 2 * (720 - (jiv h 158 d.toNatClampNeg).toInt) := by
      unfold jlq
      rw [c, a, if_neg (show ¬ ((0 : Int32).toInt = 2) from by decide)]
      omega
    omega
  have := Int.mul_le_mul_of_nonneg_right q (show 0 ≤ jbw d.toNatClampNeg from by have := jbw_pos d.toNatClampNeg; omega)
  omega
theorem jbm_ng {v d : Int32} {h hx9 : jH} (N : jNg v h hx9) (e : jiv h 125 74 = d) (hd : 0 ≤ d.toInt) (e1 : jiv hx9 125 74 = d) (b : jEq 159 (fun _ => True) hx9 h) : jbm hx9 ≤ jbm h ∧ (v.toInt = -1 ∨ jbm hx9 + 2 * jbw d.toNatClampNeg ≤ jbm h) := by
  have hn := jcl_of hd
  obtain ⟨n1, n2, n3⟩ := N
  rw [e] at n1 n2 n3
  rw [jbm_at e1 hn, jbm_at e hn, jbq_c (n := d.toNatClampNeg) (x := jlq hx9) (y := jlq h) (fun i hi => jlq_c (n1 i (by omega)) (b i trivial))]
  have wp := jbw_pos d.toNatClampNeg
  have q : jlq hx9 d.toNatClampNeg ≤ jlq h d.toNatClampNeg := by
    unfold jlq
    rw [b _ trivial]
    split <;> omega
  refine ⟨?_, n3.elim Or.inl (fun n3 => Or.inr ?_)⟩
  · have := Int.mul_le_mul_of_nonneg_right q (show 0 ≤ jbw d.toNatClampNeg from by omega)
    omega
  · have q2 : jlq hx9 d.toNatClampNeg + 2 ≤ jlq h d.toNatClampNeg := by
      unfold jlq
      rw [b _ trivial]
      split <;> omega
    have := Int.mul_le_mul_of_nonneg_right q2 (show 0 ≤ jbw d.toNatClampNeg from by omega)
    rw [Int.add_mul] at this
    omega
theorem jbm_pop {h hx9 : jH} {d u : Int32} (e : jiv h 125 74 = d) (hd : 0 ≤ d.toInt) (w : hx9 = jsi h 125 74 u) (o : u.toInt = d.toInt - 1) (hp : (jiv hx9 158 d.toNatClampNeg).toInt ≤ 720) : jbm hx9 < jbm h := by
  have hn := jcl_of hd
  have a : ∀ i, jiv hx9 158 i = jiv h 158 i := fun i => jmo w rfl rfl
  have b : ∀ i, jiv hx9 159 i = jiv h 159 i := fun i => jmo w rfl rfl
  have c : jiv hx9 125 74 = u := jmw w
  rw [jbm_at e hn]
  unfold jbm
  rw [c, o, show (d.toInt - 1 + 1).toNat = d.toNatClampNeg from by omega, jbq_c (n := d.toNatClampNeg) (x := jlq hx9) (y := jlq h) (fun i _ => jlq_c (a i) (b i))]
  have q := (jlq_b (h := h) (i := d.toNatClampNeg)).1
  rw [a] at hp
  have wp := jbw_pos d.toNatClampNeg
  have := Int.mul_le_mul_of_nonneg_right (show 1 ≤ jlq h d.toNatClampNeg from by omega) (show 0 ≤ jbw d.toNatClampNeg from by omega)
  omega
theorem jbm_push {h hx9 : jH} {d u : Int32} (e : jiv h 125 74 = d) (hd : 0 ≤ d.toInt ∧ d.toInt ≤ 5) (e1 : jiv hx9 125 74 = u) (o : u.toInt = d.toInt + 1) (a : jEq 158 (fun i => i ≠ u.toNatClampNeg) hx9 h) (b : jEq 159 (fun i => i < d.toNatClampNeg) hx9 h) (c : jiv hx9 158 u.toNatClampNeg = 0) (c2 : jiv hx9 159 u.toNatClampNeg = 0) : jbm hx9 < jbm h + (jlq hx9 d.toNatClampNeg - jlq h d.toNatClampNeg) * jbw d.toNatClampNeg + jbw d.toNatClampNeg := by
  have hn := jcl_of hd.1
  have hu := jcl_of (d := u) (by omega)
  have ed : u.toNatClampNeg = d.toNatClampNeg + 1 := by omega
  rw [ed] at c c2 hu
  rw [jbm_at e hn, jbm_at e1 hu]
  show jbq (jlq hx9) d.toNatClampNeg + jlq hx9 d.toNatClampNeg * jbw d.toNatClampNeg + jlq hx9 (d.toNatClampNeg + 1) * jbw (d.toNatClampNeg + 1) < _
  rw [jbq_c (n := d.toNatClampNeg) (x := jlq hx9) (y := jlq h) (fun i hi => jlq_c (a i (by omega)) (b i hi)), Int.sub_mul]
  have z : jlq hx9 (d.toNatClampNeg + 1) = 1441 := by
    unfold jlq
    rw [c, c2]
    rfl
  rw [z]
  have w := jbw_s (n := d.toNatClampNeg) (by omega)
  have wp := jbw_pos (d.toNatClampNeg + 1)
  omega
theorem jbm_A {h hx9 : jH} {d u : Int32} (e : jiv h 125 74 = d) (hd : 0 ≤ d.toInt ∧ d.toInt ≤ 5) (t2 : (jiv h 159 d.toNatClampNeg).toInt = 2) (e1 : jiv hx9 125 74 = u) (o : u.toInt = d.toInt + 1) (a : jEq 158 (fun i => i ≠ u.toNatClampNeg) hx9 h) (b : jEq 159 (fun i => i < d.toNatClampNeg) hx9 h) (t3 : jiv hx9 159 d.toNatClampNeg = 3) (c : jiv hx9 158 u.toNatClampNeg = 0) (c2 : jiv hx9 159 u.toNatClampNeg = 0) : jbm hx9 < jbm h := by
  have p := jbm_push e hd e1 o a b c c2
  have hn := jcl_of hd.1
  have hu := jcl_of (d := u) (by omega)
  have q : jlq hx9 d.toNatClampNeg - jlq h d.toNatClampNeg = -1 := by
    unfold jlq
    rw [t3, t2, a _ (by omega), if_neg (show ¬ ((3 : Int32).toInt = 2) from by decide), if_pos rfl]
    omega
  rw [q] at p
  omega
theorem jbm_ao {h hx9 : jH} {d : Int32} (A : jAo h hx9) (hu : (jiv hx9 125 74).toInt ≤ 6) (e : jiv h 125 74 = d) (hd : 0 ≤ d.toInt) : jbm hx9 < jbm h + 2 * jbw d.toNatClampNeg := by
  have wp := jbw_pos d.toNatClampNeg
  rcases A with ⟨a1, a2, a3⟩ | ⟨a1, a2, a3, a4, a5⟩
  · rw [jbm_e a1 a2 a3]
    omega
  · rw [e] at a1 a3
    have p := jbm_push e (by omega) rfl a1 a2 a3 a4 a5
    have hn := jcl_of hd
    have hu2 := jcl_of (d := jiv hx9 125 74) (by omega)
    have q : jlq hx9 d.toNatClampNeg - jlq h d.toNatClampNeg ≤ 1 := by
      have b1 := (jlq_b (h := h) (i := d.toNatClampNeg)).1
      have b2 := (jlq_b (h := hx9) (i := d.toNatClampNeg)).2
      rw [a2 _ (by omega)] at b2
      omega
    have := Int.mul_le_mul_of_nonneg_right q (show 0 ≤ jbw d.toNatClampNeg from by omega)
    omega
theorem jbm_nn {h : jH} (hp : ∀ i, i < 8 → (jiv h 158 i).toInt ≤ 720) (hu : (jiv h 125 74).toInt ≤ 6) : 0 ≤ jbm h := by
  unfold jbm
  refine jbq_nn (fun i hi => ?_)
  have := (jlq_b (h := h) (i := i)).1
  have := hp i (by omega)
  omega
theorem jbm_top {h : jH} (hp : ∀ i, i < 8 → 0 ≤ (jiv h 158 i).toInt) (hu : (jiv h 125 74).toInt = 0) : jbm h < ((100000000000000000000000 : Nat) : Int) := by
  unfold jbm
  rw [hu]
  have := jbq_le (x := jlq h) (n := ((0 : Int) + 1).toNat) (fun i hi => by
    have := (jlq_b (h := h) (i := i)).2
    have := hp i (by omega)
    omega)
  have e : jbq (fun _ => 1442) ((0 : Int) + 1).toNat = 92288000000000000000000 := by decide
  omega
/-! the groups of best: each at most its place; a number that falls -/
def jGp (h : jH) : Prop := ∀ i : Nat, i < 9 → 0 ≤ (jiv h 145 i).toInt ∧ (jiv h 145 i).toInt ≤ (i : Int)
def jdg (f : Nat → Int32) : Nat → Int | 0 => 0 | n + 1 => 9 * jdg f n + (8 - (f n).toInt)
def jdm (h : jH) : Int := jdg (jiv h 145) 9
theorem jdg_c {f g : Nat → Int32} : ∀ {n : Nat}, (∀ i, i < n → f i = g i) → jdg f n = jdg g n
  | 0, _ => rfl
  | n + 1, e => by
    show 9 * jdg f n + (8 - (f n).toInt) = 9 * jdg g n + (8 - (g n).toInt)
    rw [jdg_c (fun i hi => e i (by omega)), e n (by omega)]
theorem jdg_lt {f g : Nat → Int32} {k : Nat} (e : ∀ i, i < k → f i = g i) (ek : (f k).toInt = (g k).toInt + 1) : ∀ m : Nat, (∀ i, k < i → i < k + 1 + m → 0 ≤ (f i).toInt ∧ (g i).toInt ≤ 8) → jdg f (k + 1 + m) < jdg g (k + 1 + m)
  | 0, _ => by
    show 9 * jdg f k + (8 - (f k).toInt) < 9 * jdg g k + (8 - (g k).toInt)
    rw [jdg_c e]
    omega
  | m + 1, b => by
    show 9 * jdg f (k + 1 + m) + (8 - (f (k + 1 + m)).toInt) < 9 * jdg g (k + 1 + m) + (8 - (g (k + 1 + m)).toInt)
    have a := jdg_lt e ek m (fun i h1 h2 => b i h1 (by omega))
    have c := b (k + 1 + m) (by omega) (by omega)
    omega
theorem jdm_nn {h : jH} (G : jGp h) : 0 ≤ jdm h := by
  have g0 := G 0 (by omega); have g1 := G 1 (by omega); have g2 := G 2 (by omega); have g3 := G 3 (by omega); have g4 := G 4 (by omega); have g5 := G 5 (by omega); have g6 := G 6 (by omega); have g7 := G 7 (by omega); have g8 := G 8 (by omega)
  simp only [jdm, jdg]
  omega
theorem jdm_top {h : jH} (G : jGp h) : jdm h < 387420489 := by
  have g0 := G 0 (by omega); have g1 := G 1 (by omega); have g2 := G 2 (by omega); have g3 := G 3 (by omega); have g4 := G 4 (by omega); have g5 := G 5 (by omega); have g6 := G 6 (by omega); have g7 := G 7 (by omega); have g8 := G 8 (by omega)
  simp only [jdm, jdg]
  omega
theorem jdm_e {h hx9 : jH} (E : jEq 145 (fun _ => True) hx9 h) : jdm hx9 = jdm h := jdg_c (fun i _ => E i trivial)
theorem jgp_e {h hx9 : jH} (E : jEq 145 (fun _ => True) hx9 h) (G : jGp h) : jGp hx9 := fun i hi => by rw [E i trivial]; exact G i hi
theorem jgp_at {h h0 : jH} {i v : Int32} {m : Int} (E : jEq 145 (fun _ => True) h h0) (G : jGp h0) (q : jiv h 145 i.toNatClampNeg = v) (hi : i.toInt = m) (hm : 0 ≤ m ∧ m < 9) : 0 ≤ v.toInt ∧ v.toInt ≤ m := by
  have e := jcl_nat hi hm.1
  have g := jgp_e E G i.toNatClampNeg (by omega)
  rw [q] at g
  omega
def jNx (v : Int32) (h0 h : jH) : Prop := jGp h ∧ jdm h ≤ jdm h0 ∧ (v.toInt = 0 ∨ jdm h < jdm h0)
theorem jnx_0 {h0 h : jH} (E : jEq 145 (fun _ => True) h h0) (G : jGp h0) : jNx 0 h0 h := ⟨jgp_e E G, Int.le_of_eq (jdm_e E), Or.inl (by decide)⟩
def jNz (x : Int32) (h0 h : jH) : Prop := ∃ k : Nat, k < 9 ∧ (k : Int) < x.toInt ∧ jEq 145 (fun i => i < k) h h0 ∧ (jiv h 145 k).toInt = (jiv h0 145 k).toInt + 1 ∧ (jiv h 145 k).toInt ≤ (k : Int) ∧ (∀ i : Nat, k < i → (i : Int) < x.toInt → jiv h 145 i = 0) ∧ ∀ i : Nat, x.toInt ≤ (i : Int) → jiv h 145 i = jiv h0 145 i
theorem jnz_0 {h hx9 h0 : jH} {k x y g : Int32} (E : jEq 145 (fun _ => True) h h0) (q : jiv h 145 k.toNatClampNeg = g) (w : hx9 = jsi h 145 k.toNatClampNeg y) (hk : 0 ≤ k.toInt ∧ k.toInt < 9) (hy : y.toInt = g.toInt + 1) (hy2 : y.toInt ≤ k.toInt) (hx : x.toInt = k.toInt + 1) : jNz x h0 hx9 := by
  have e := jcl_of hk.1
  have o : ∀ i, i ≠ k.toNatClampNeg → jiv hx9 145 i = jiv h0 145 i := fun i hi => jmo w (by rw [jbne hi, Bool.and_false]) (E i trivial)
  refine ⟨k.toNatClampNeg, by omega, by omega, fun i hi => o i (by omega), ?_, ?_, fun i h1 h2 => by omega, fun i h1 => o i (by omega)⟩
  · rw [jmw w, ← E _ trivial, q]; exact hy
  · rw [jmw w]; omega
theorem jnz_s {h hx9 h0 : jH} {x y : Int32} (C : jNz x h0 h) (w : hx9 = jsi h 145 x.toNatClampNeg 0) (hx : y.toInt = x.toInt + 1) : jNz y h0 hx9 := by
  obtain ⟨k, c1, c2, c3, c4, c5, c6, c7⟩ := C
  have e := jcl_of (d := x) (by omega)
  have o : ∀ i, i ≠ x.toNatClampNeg → jiv hx9 145 i = jiv h 145 i := fun i hi => jmo w (by rw [jbne hi, Bool.and_false]) rfl
  refine ⟨k, c1, by omega, fun i hi => ?_, ?_, ?_, fun i h1 h2 => ?_, fun i h1 => ?_⟩
  · rw [o i (by omega)]; exact c3 i hi
  · rw [o k (by omega)]; exact c4
  · rw [o k (by omega)]; exact c5
  · by_cases z : i = x.toNatClampNeg
    · rw [z]; exact jmw w
    · rw [o i z]; exact c6 i h1 (by omega)
  · rw [o i (by omega)]; exact c7 i (by omega)
theorem jnz_f {h h0 : jH} {x : Int32} (C : jNz x h0 h) (G : jGp h0) : jNx 1 h0 h := by
  obtain ⟨k, c1, c2, c3, c4, c5, c6, c7⟩ := C
  have z0 : (0 : Int32).toInt = 0 := by decide
  have g : jGp h := by
    intro i hi
    have gi := G i hi
    by_cases z : i < k
    · rw [c3 i z]; exact gi
    · by_cases z2 : i = k
      · subst z2
        omega
      · by_cases z3 : (i : Int) < x.toInt
        · rw [c6 i (by omega) z3, z0]; omega
        · rw [c7 i (by omega)]; exact gi
  have l : jdm h < jdm h0 := by
    have := jdg_lt (f := jiv h 145) (g := jiv h0 145) (k := k) (fun i hi => c3 i hi) c4 (8 - k) (fun i h1 h2 => ⟨(g i (by omega)).1, by have := G i (by omega); omega⟩)
    rw [show k + 1 + (8 - k) = 9 from by omega] at this
    exact this
  exact ⟨g, by omega, Or.inr l⟩
theorem jgp_z {h : jH} {x : Int32} (C : ∀ i : Nat, (i : Int) < x.toInt → jiv h 145 i = 0) (hx : 9 ≤ x.toInt) : jGp h := by
  intro i hi
  rw [C i (by omega), show (0 : Int32).toInt = 0 from by decide]
  omega
theorem jgz_s {h hx9 : jH} {x y : Int32} (C : ∀ i : Nat, (i : Int) < x.toInt → jiv h 145 i = 0) (w : hx9 = jsi h 145 x.toNatClampNeg 0) (hx : y.toInt = x.toInt + 1 ∧ 0 ≤ x.toInt) : ∀ i : Nat, (i : Int) < y.toInt → jiv hx9 145 i = 0 := by
  intro i hi
  have e := jcl_of (d := x) hx.2
  by_cases z : i = x.toNatClampNeg
  · rw [z]; exact jmw w
  · exact jmo w (by rw [jbne z, Bool.and_false]) (C i (by omega))
