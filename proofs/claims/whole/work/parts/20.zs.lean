/-! partLevy: rests that are given out -/
theorem jldivn {x y : Int64} {n : Int} (hy : y.toInt = n) (hn : 0 < n) (hx : 0 ≤ x.toInt) : (x / y).toInt = x.toInt / n := by
  have h2 := Int64.toInt_lt x
  have h3 : x.toInt / n ≤ x.toInt := Int.ediv_le_self _ hx
  have h4 : 0 ≤ x.toInt / n := Int.ediv_nonneg hx (by omega)
  rw [Int64.toInt_div, hy, Int.tdiv_eq_ediv_of_nonneg hx]
  exact Int.bmod_eq_of_le (by omega) (by omega)
theorem z_ldivQ {M : jM} {d K S pc : Nat} {ls : jL} {st : List Value} {h : jH} {k n : Nat} {Q : Option Value → jH → Prop} {p q : Int64} {a b : Int} (hat : jat M pc = some (.ldiv, 1)) (hx : p.toInt = a) (hy : q.toInt = b) (h0 : 0 < b) (h1 : 0 ≤ a) (kk : ∀ v : Int64, v.toInt = a / b → jX M d K S (pc + 1) ls (.long v :: st) h k n Q) : jX M d K S pc ls (.long q :: .long p :: st) h k n Q := by
  refine x_ldiv hat ?_ (kk _ ?_)
  · intro c
    have z : (0 : Int64).toInt = 0 := by decide
    rw [c, z] at hy
    omega
  · rw [← hx]
    exact jldivn hy h0 (by omega)
theorem z_lremQ {M : jM} {d K S pc : Nat} {ls : jL} {st : List Value} {h : jH} {k n : Nat} {Q : Option Value → jH → Prop} {p q : Int64} {a b : Int} (hat : jat M pc = some (.lrem, 1)) (hx : p.toInt = a) (hy : q.toInt = b) (h0 : 0 < b) (h1 : 0 ≤ a) (kk : ∀ v : Int64, v.toInt = a % b → jX M d K S (pc + 1) ls (.long v :: st) h k n Q) : jX M d K S pc ls (.long q :: .long p :: st) h k n Q := by
  refine x_lrem hat ?_ (kk _ ?_)
  · intro c
    have z : (0 : Int64).toInt = 0 := by decide
    rw [c, z] at hy
    omega
  · have l1 := Int64.toInt_lt p
    have e1 : (p / q).toInt = a / b := by rw [← hx]; exact jldivn hy h0 (by omega)
    have e4 : a / b * b ≤ a := Int.ediv_mul_le a (by omega)
    have e5 : 0 ≤ a / b * b := Int.mul_nonneg (Int.ediv_nonneg h1 (by omega)) (by omega)
    have e2 : (p / q * q).toInt = a / b * b := by
      rw [Int64.toInt_mul, e1, hy]
      exact Int.bmod_eq_of_le (by omega) (by omega)
    have e6 := Int.emod_def a b
    have e7 : b * (a / b) = a / b * b := Int.mul_comm _ _
    rw [Int64.toInt_sub, hx, e2, Int.bmod_eq_of_le (by omega) (by omega)]
    omega
theorem z_laldQ {M : jM} {d K S pc : Nat} {ls : jL} {st : List Value} {h : jH} {k n : Nat} {Q : Option Value → jH → Prop} {Sg : List jSg} {Dy : jH → Prop} {a N : Nat} {i : Int32} {m : Int} (hat : jat M pc = some (.laload, 1)) (J : jJ Sg Dy h) (hs : (jtO ++ jtS).lookup a = some (101, N)) (hm : i.toInt = m) (hb : 0 ≤ m ∧ m < N) (kk : ∀ v : Int64, jlv h a i.toNatClampNeg = v → jX M d K S (pc + 1) ls (.long v :: st) h k n Q) : jX M d K S pc ls (.int i :: .ref a :: st) h k n Q :=
  x_lald hat (J.1.1 a _ hs) (vpi (by rw [hm]; omega)) (kk _ rfl)
def jLq (a : Nat) (P : Nat → Prop) (h h0 : jH) : Prop := ∀ i, P i → jlv h a i = jlv h0 a i
theorem jlq_0 {a : Nat} {P : Nat → Prop} {h : jH} : jLq a P h h := fun _ _ => rfl
theorem jlq_cc {F : jFp} {a : Nat} {P : Nat → Prop} {h hx9 h0 : jH} (S : jSm F h hx9) (e : (Nat.blt a 174 && (F.all fun q => !Nat.beq q.1 a)) = true) (E : jLq a P h h0) : jLq a P hx9 h0 := by
  intro i hi
  have e1 : Nat.blt a 174 = true := by revert e; cases Nat.blt a 174 <;> simp
  have e2 : (F.all fun q => !Nat.beq q.1 a) = true := by revert e; rw [e1]; simp
  rw [(S.2.2 a i (Or.inl e1) (jfc_of e2)).2.1]
  exact E i hi
theorem jlq_i {a b k : Nat} {P : Nat → Prop} {h hx9 h0 : jH} {x : Int32} (w : hx9 = jsi h b k x) (E : jLq a P h h0) : jLq a P hx9 h0 := by subst w; exact E
theorem jlq_o {a b k : Nat} {P : Nat → Prop} {h hx9 h0 : jH} {x : Int64} (w : hx9 = jsl h b k x) (e : Nat.beq a b = false) (E : jLq a P h h0) : jLq a P hx9 h0 := by
  subst w
  intro i hi
  exact ju2_ne (by rw [e]; rfl) (E i hi)
theorem jlq_s {a k : Nat} {P : Nat → Prop} {h hx9 h0 : jH} {x : Int64} (w : hx9 = jsl h a k x) (hk : ¬ P k) (E : jLq a P h h0) : jLq a P hx9 h0 := by
  subst w
  intro i hi
  exact ju2_ne (by rw [jbne (a := i) (b := k) (fun c => hk (c ▸ hi)), Bool.and_false]) (E i hi)
theorem jlv_w {h hx9 : jH} {a k : Nat} {x : Int64} (w : hx9 = jsl h a k x) : jlv hx9 a k = x := by subst w; exact ju2_eq
theorem jfc_of2 {F : jFp} {a i lo : Nat} (e : (F.all fun q => !Nat.beq q.1 a || Nat.ble q.2.2 lo) = true) (hi : lo ≤ i) : jfo F a i = false := by
  unfold jfo
  rw [List.any_eq_false]
  intro q hq
  have t := (List.all_eq_true.mp e) q hq
  by_cases z : Nat.beq q.1 a = true
  · rw [z] at t
    have t2 : q.2.2 ≤ lo := Nat.le_of_ble_eq_true (by simpa using t)
    have : Nat.blt i q.2.2 = false := by
      cases b : Nat.blt i q.2.2
      · rfl
      · have := Nat.le_of_ble_eq_true b
        omega
    simp [this]
  · have : Nat.beq q.1 a = false := by revert z; cases Nat.beq q.1 a <;> simp
    simp [this]
theorem jeq_c2 {F : jFp} {a lo : Nat} {P : Nat → Prop} {h hx9 h0 : jH} (S : jSm F h hx9) (e : (Nat.blt a 174 && (F.all fun q => !Nat.beq q.1 a || Nat.ble q.2.2 lo)) = true) (hP : ∀ i, P i → lo ≤ i) (E : jEq a P h h0) : jEq a P hx9 h0 := by
  intro i hi
  have e1 : Nat.blt a 174 = true := by revert e; cases Nat.blt a 174 <;> simp
  have e2 : (F.all fun q => !Nat.beq q.1 a || Nat.ble q.2.2 lo) = true := by revert e; rw [e1]; simp
  rw [(S.2.2 a i (Or.inl e1) (jfc_of2 e2 (hP i hi))).1]
  exact E i hi
def jpv (h : jH) (j : Nat) : Int := if (jiv h 167 j).toInt = 0 then 0 else (jiv h 162 (40 + j)).toInt
def jsv (h : jH) : Nat → Int | 0 => 0 | n + 1 => jsv h n + jpv h n
def jPp (h : jH) (i : Nat) : Prop := ∀ j : Nat, j < i → (jiv h 167 j).toInt ≠ 0 → 0 < (jiv h 162 (40 + j)).toInt
def jRm (h : jH) (a b : Nat) : Prop := ∀ j : Nat, a ≤ j → j < b → (jlv h 166 j).toInt = -1
def jrp (h : jH) (j : Nat) : Int := if 0 < (jlv h 166 j).toInt then (jlv h 166 j).toInt else 0
def jrs (h : jH) : Nat → Int | 0 => 0 | n + 1 => jrs h n + jrp h n
def jF1 (h : jH) (all : Int64) (i : Nat) : Prop := all.toInt = jsv h i ∧ jPp h i ∧ jRm h 0 i
theorem jpv_b {h : jH} {i j : Nat} (P : jPp h i) (hj : j < i) : 0 ≤ jpv h j ∧ jpv h j ≤ 2147483647 := by
  have a := jfull (jiv h 162 (40 + j))
  unfold jpv
  split
  · omega
  · have := P j hj (by assumption)
    omega
theorem jsv_b {h : jH} : ∀ {i : Nat}, jPp h i → 0 ≤ jsv h i ∧ jsv h i ≤ 2147483647 * (i : Int)
  | 0, _ => by show (0 : Int) ≤ 0 ∧ (0 : Int) ≤ _; omega
  | i + 1, P => by
    have a := jsv_b (h := h) (i := i) (fun j hj => P j (by omega))
    have b := jpv_b P (show i < i + 1 from by omega)
    show 0 ≤ jsv h i + jpv h i ∧ jsv h i + jpv h i ≤ _
    omega
theorem jsv_le {h : jH} {j : Nat} : ∀ {i : Nat}, jPp h i → j < i → jsv h j + jpv h j ≤ jsv h i
  | 0, _, hj => by omega
  | i + 1, P, hj => by
    show jsv h j + jpv h j ≤ jsv h i + jpv h i
    by_cases z : j = i
    · rw [z]; exact Int.le_refl _
    · have a := jsv_le (h := h) (j := j) (i := i) (fun j hj => P j (by omega)) (by omega)
      have b := jpv_b P (show i < i + 1 from by omega)
      omega
theorem jpv_e {h hx9 : jH} {j : Nat} (a : jiv hx9 167 j = jiv h 167 j) (b : jEq 162 (fun i => 40 ≤ i) hx9 h) : jpv hx9 j = jpv h j := by unfold jpv; rw [a, b _ (by omega)]
theorem jsv_e {h hx9 : jH} : ∀ {i : Nat}, jEq 167 (fun j => j < i) hx9 h → jEq 162 (fun j => 40 ≤ j) hx9 h → jsv hx9 i = jsv h i
  | 0, _, _ => rfl
  | i + 1, a, b => by
    show jsv hx9 i + jpv hx9 i = jsv h i + jpv h i
    rw [jsv_e (i := i) (fun j hj => a j (by omega)) b, jpv_e (a i (by omega)) b]
theorem jPp_e {h hx9 : jH} {i : Nat} (a : jEq 167 (fun j => j < i) hx9 h) (b : jEq 162 (fun j => 40 ≤ j) hx9 h) (P : jPp h i) : jPp hx9 i := fun j hj z => by rw [b _ (by omega)]; exact P j hj (by rw [← a j hj]; exact z)
theorem jF1_e {h hx9 : jH} {all : Int64} {i : Nat} (a : jEq 167 (fun j => j < i) hx9 h) (b : jEq 162 (fun j => 40 ≤ j) hx9 h) (c : jLq 166 (fun j => j < i) hx9 h) (F : jF1 h all i) : jF1 hx9 all i :=
  ⟨by rw [jsv_e a b]; exact F.1, jPp_e a b F.2.1, fun j h1 h2 => by rw [c j h2]; exact F.2.2 j h1 h2⟩
theorem jF1_0 {h : jH} : jF1 h 0 (0 : Int32).toNatClampNeg := by
  rw [show (0 : Int32).toNatClampNeg = 0 from by decide]
  exact ⟨by show (0 : Int64).toInt = 0; decide, fun j hj => by omega, fun j _ hj => by omega⟩
theorem jcl_40 {x l : Int32} (e : x.toInt = 40 + l.toInt) (hl : 0 ≤ l.toInt) : x.toNatClampNeg = 40 + l.toNatClampNeg := by
  have a := jcl_of hl
  have b := jcl_of (d := x) (by omega)
  omega
/-- the pays written; c is 0, or the value is above 0 -/
theorem jF1_p {h hx9 : jH} {all : Int64} {l s c : Int32} (F : jF1 h all l.toNatClampNeg) (e : s = l) (w : hx9 = jsi h 167 s.toNatClampNeg c) (r : (jlv h 166 l.toNatClampNeg).toInt = -1) (o : c.toInt = 0 ∨ 0 < (jiv h 162 (40 + l.toNatClampNeg)).toInt) : all.toInt = jsv hx9 l.toNatClampNeg ∧ jPp hx9 (l.toNatClampNeg + 1) ∧ jRm hx9 0 (l.toNatClampNeg + 1) := by
  subst e
  have a : jEq 167 (fun j => j < s.toNatClampNeg) hx9 h := jeq_s w (by omega) jeq_0
  have b : jEq 162 (fun j => 40 ≤ j) hx9 h := jeq_o w rfl jeq_0
  have c2 : jLq 166 (fun _ => True) hx9 h := jlq_i w jlq_0
  refine ⟨by rw [jsv_e a b]; exact F.1, fun j hj z => ?_, fun j h1 h2 => ?_⟩
  · by_cases y : j = s.toNatClampNeg
    · subst y
      rw [b _ (by omega)]
      rw [jmw w] at z
      omega
    · rw [b _ (by omega)]
      exact F.2.1 j (by omega) (by rw [← a j (by omega)]; exact z)
  · rw [c2 j trivial]
    by_cases y : j = s.toNatClampNeg
    · rw [y]; exact r
    · exact F.2.2 j h1 (by omega)
theorem jF1_n {h : jH} {all v : Int64} {l l' : Int32} {x : Int} (F : all.toInt = jsv h l.toNatClampNeg ∧ jPp h (l.toNatClampNeg + 1) ∧ jRm h 0 (l.toNatClampNeg + 1)) (q : x = jpv h l.toNatClampNeg) (e : v.toInt = all.toInt + x) (e2 : l'.toInt = l.toInt + 1 ∧ 0 ≤ l.toInt) : jF1 h v l'.toNatClampNeg := by
  rw [jcl_s e2]
  exact ⟨by show v.toInt = jsv h _ + jpv h _; omega, F.2.1, F.2.2⟩
theorem jpv_t {h : jH} {l x p v : Int32} (q : jiv h 167 l.toNatClampNeg = p) (z : p.toInt ≠ 0) (q2 : jiv h 162 x.toNatClampNeg = v) (e : x.toInt = 40 + l.toInt) (hl : 0 ≤ l.toInt) : v.toInt = jpv h l.toNatClampNeg := by
  unfold jpv
  rw [q, if_neg z, ← jcl_40 e hl, q2]
theorem jpv_f {h : jH} {l p : Int32} (q : jiv h 167 l.toNatClampNeg = p) (z : p.toInt = 0) : (0 : Int) = jpv h l.toNatClampNeg := by
  unfold jpv
  rw [q, if_pos z]
/-! the second walk -/
theorem jrp_m {h : jH} {j : Nat} (e : (jlv h 166 j).toInt = -1) : jrp h j = 0 := by unfold jrp; rw [if_neg (by omega)]
theorem jrp_b {h : jH} {j : Nat} : 0 ≤ jrp h j ∧ (jlv h 166 j).toInt ≤ jrp h j := by unfold jrp; split <;> omega
theorem jrs_nn {h : jH} : ∀ n, 0 ≤ jrs h n
  | 0 => Int.le_refl _
  | n + 1 => by
    have a := jrs_nn (h := h) n
    have b := (jrp_b (h := h) (j := n)).1
    show 0 ≤ jrs h n + jrp h n
    omega
theorem jrs_z {h : jH} : ∀ n : Nat, (∀ j, j < n → (jlv h 166 j).toInt ≤ 0) → jrs h n = 0
  | 0, _ => rfl
  | n + 1, a => by
    show jrs h n + jrp h n = 0
    rw [jrs_z n (fun j hj => a j (by omega)), show jrp h n = 0 from by unfold jrp; rw [if_neg (by have := a n (by omega); omega)]]
    rfl
theorem jrs_c {h hx9 : jH} : ∀ n : Nat, (∀ j, j < n → jlv hx9 166 j = jlv h 166 j) → jrs hx9 n = jrs h n
  | 0, _ => rfl
  | n + 1, a => by
    show jrs hx9 n + jrp hx9 n = jrs h n + jrp h n
    rw [jrs_c n (fun j hj => a j (by omega)), show jrp hx9 n = jrp h n from by unfold jrp; rw [a n (by omega)]]
theorem jrs_u {h hx9 : jH} {k : Nat} : ∀ n : Nat, k < n → (∀ j, j < n → j ≠ k → jlv hx9 166 j = jlv h 166 j) → jrs hx9 n = jrs h n - jrp h k + jrp hx9 k
  | 0, hk, _ => by omega
  | n + 1, hk, a => by
    show jrs hx9 n + jrp hx9 n = jrs h n + jrp h n - jrp h k + jrp hx9 k
    by_cases z : k = n
    · subst z
      rw [jrs_c k (fun j hj => a j (by omega) (by omega))]
      omega
    · rw [jrs_u n (by omega) (fun j hj => a j (by omega)), show jrp hx9 n = jrp h n from by unfold jrp; rw [a n (by omega) (by omega)]]
      omega
def jPn (h : jH) (at_ : Int32) : Int := (jiv h 126 (at_.toNatClampNeg + 2)).toInt
def jF2 (h : jH) (n at_ : Int32) (all left : Int64) (i : Nat) : Prop := all.toInt = jsv h n.toNatClampNeg ∧ jPp h n.toNatClampNeg ∧ (∀ j : Nat, j < n.toNatClampNeg → (jlv h 166 j).toInt < all.toInt) ∧ jRm h i n.toNatClampNeg ∧ left.toInt * all.toInt = jrs h n.toNatClampNeg + jPn h at_ * (all.toInt - jsv h i) ∧ (all.toInt = 0 → left.toInt = 0) ∧ 0 ≤ jPn h at_ ∧ jPn h at_ ≤ 1000000 ∧ left.toInt ≤ jPn h at_
theorem jF2_0 {h : jH} {n at_ l : Int32} {all : Int64} (F : jF1 h all l.toNatClampNeg) (e : l.toInt = n.toInt) (z : all.toInt = 0) (p : 0 ≤ jPn h at_ ∧ jPn h at_ ≤ 1000000) : jF2 h n at_ all 0 (0 : Int32).toNatClampNeg := by
  rw [jcl_e e] at F
  rw [show (0 : Int32).toNatClampNeg = 0 from by decide]
  have y : (0 : Int64).toInt = 0 := by decide
  have m : ∀ j : Nat, j < n.toNatClampNeg → (jlv h 166 j).toInt = -1 := fun j hj => F.2.2 j (by omega) hj
  refine ⟨F.1, F.2.1, fun j hj => by rw [m j hj]; omega, F.2.2, ?_, fun _ => y, p.1, p.2, by rw [y]; exact p.1⟩
  rw [y, z, jrs_z _ (fun j hj => by rw [m j hj]; omega)]
  show (0 : Int) * 0 = 0 + jPn h at_ * (0 - 0)
  omega
theorem jF2_1 {h : jH} {n at_ l : Int32} {all left : Int64} (F : jF1 h all l.toNatClampNeg) (e : l.toInt = n.toInt) (z : all.toInt ≠ 0) (p : 0 ≤ jPn h at_ ∧ jPn h at_ ≤ 1000000) (q : left.toInt = jPn h at_) : jF2 h n at_ all left (0 : Int32).toNatClampNeg := by
  rw [jcl_e e] at F
  rw [show (0 : Int32).toNatClampNeg = 0 from by decide]
  have m : ∀ j : Nat, j < n.toNatClampNeg → (jlv h 166 j).toInt = -1 := fun j hj => F.2.2 j (by omega) hj
  have b := (jsv_b F.2.1).1
  refine ⟨F.1, F.2.1, fun j hj => by rw [m j hj, F.1]; omega, F.2.2, ?_, fun c => absurd c z, p.1, p.2, by omega⟩
  rw [q, jrs_z _ (fun j hj => by rw [m j hj]; omega)]
  show jPn h at_ * all.toInt = 0 + jPn h at_ * (all.toInt - 0)
  rw [Int.sub_zero, Int.zero_add]
/-- what is left is never below 0 -/
theorem jF2_b {h : jH} {n at_ : Int32} {all left : Int64} {i : Nat} (F : jF2 h n at_ all left i) (hi : i ≤ n.toNatClampNeg) : 0 ≤ all.toInt ∧ 0 ≤ left.toInt ∧ left.toInt ≤ 1000000 := by
  obtain ⟨f1, f2, f3, f4, f5, f6, f7, f8, f9⟩ := F
  have b := jsv_b f2
  have bi : 0 ≤ jsv h i ∧ jsv h i ≤ all.toInt := by
    have c := (jsv_b (h := h) (i := i) (fun j hj => f2 j (by omega))).1
    by_cases z : i = n.toNatClampNeg
    · rw [z]; omega
    · have := jsv_le (j := i) f2 (by omega)
      have := (jpv_b f2 (show i < n.toNatClampNeg from by omega)).1
      omega
  have rn := jrs_nn (h := h) n.toNatClampNeg
  by_cases z : all.toInt = 0
  · have := f6 z
    omega
  · have ap : 0 < all.toInt := by omega
    have m := Int.mul_nonneg f7 (show 0 ≤ all.toInt - jsv h i from by omega)
    have l0 : 0 ≤ left.toInt := by
      by_cases c : left.toInt < 0
      · have := Int.mul_neg_of_neg_of_pos c ap
        omega
      · omega
    omega
theorem jF2_v {h : jH} {n at_ l : Int32} {all left : Int64} (F : jF2 h n at_ all left l.toNatClampNeg) (hl : 0 ≤ l.toInt ∧ l.toInt < n.toInt) : jpv h l.toNatClampNeg ≤ all.toInt ∧ 0 ≤ jpv h l.toNatClampNeg := by
  have a := jcl_of hl.1
  have b := jcl_of (d := n) (by omega)
  have c := jsv_le (j := l.toNatClampNeg) F.2.1 (by omega)
  have e := (jsv_b (h := h) (i := l.toNatClampNeg) (fun j hj => F.2.1 j (by omega))).1
  have g := (jpv_b F.2.1 (show l.toNatClampNeg < n.toNatClampNeg from by omega)).1
  have f := F.1
  omega
theorem jF2_k {h : jH} {n at_ l p : Int32} {all left : Int64} (F : jF2 h n at_ all left l.toNatClampNeg) (q : jiv h 167 l.toNatClampNeg = p) (z : p.toInt = 0) : jF2 h n at_ all left (l.toNatClampNeg + 1) := by
  obtain ⟨f1, f2, f3, f4, f5, f6, f7, f8, f9⟩ := F
  refine ⟨f1, f2, f3, fun j h1 h2 => f4 j (by omega) h2, ?_, f6, f7, f8, f9⟩
  show _ = _ + jPn h at_ * (all.toInt - (jsv h l.toNatClampNeg + jpv h l.toNatClampNeg))
  rw [← jpv_f q z, Int.add_zero]
  exact f5
theorem jF2_p {h hx9 : jH} {n at_ l : Int32} {all left left' sh rm : Int64} {v : Int} (F : jF2 h n at_ all left l.toNatClampNeg) (hl : 0 ≤ l.toInt ∧ l.toInt < n.toInt) (qv : v = jpv h l.toNatClampNeg) (vp : 0 < v) (s : sh.toInt = jPn h at_ * v / all.toInt) (r : rm.toInt = jPn h at_ * v % all.toInt) (a : jEq 167 (fun _ => True) hx9 h) (b : jEq 162 (fun _ => True) hx9 h) (c : jEq 126 (fun _ => True) hx9 h) (e : jLq 166 (fun j => j ≠ l.toNatClampNeg) hx9 h) (g : jlv hx9 166 l.toNatClampNeg = rm) (o : left'.toInt = left.toInt - sh.toInt) : jF2 hx9 n at_ all left' (l.toNatClampNeg + 1) := by
  have vb := jF2_v F hl
  obtain ⟨f1, f2, f3, f4, f5, f6, f7, f8, f9⟩ := F
  have cl := jcl_of hl.1
  have cn := jcl_of (d := n) (by omega)
  have ap : 0 < all.toInt := by omega
  have pn : jPn hx9 at_ = jPn h at_ := by unfold jPn; rw [c _ trivial]
  have a2 : ∀ i : Nat, jsv hx9 i = jsv h i := fun i => jsv_e (fun j _ => a j trivial) (fun j _ => b j trivial)
  have a3 : jpv hx9 l.toNatClampNeg = jpv h l.toNatClampNeg := jpv_e (a _ trivial) (fun j _ => b j trivial)
  have r0 : 0 ≤ rm.toInt := by rw [r]; exact Int.emod_nonneg _ (by omega)
  have r1 : rm.toInt < all.toInt := by rw [r]; exact Int.emod_lt_of_pos _ ap
  have pv : 0 ≤ jPn h at_ * v := Int.mul_nonneg f7 (by omega)
  have s0 : 0 ≤ sh.toInt := by rw [s]; exact Int.ediv_nonneg pv (by omega)
  have dm : sh.toInt * all.toInt + rm.toInt = jPn h at_ * v := by
    have := Int.mul_ediv_add_emod (jPn h at_ * v) all.toInt
    rw [← s, ← r, Int.mul_comm] at this
    exact this
  have ru := jrs_u (h := h) (hx9 := hx9) (k := l.toNatClampNeg) n.toNatClampNeg (by omega) (fun j _ hj => e j hj)
  have p0 : jrp h l.toNatClampNeg = 0 := jrp_m (f4 _ (by omega) (by omega))
  have p1 : jrp hx9 l.toNatClampNeg = rm.toInt := by unfold jrp; rw [g]; split <;> omega
  refine ⟨by rw [a2]; exact f1, jPp_e (fun j _ => a j trivial) (fun j _ => b j trivial) f2, fun j hj => ?_, fun j h1 h2 => ?_, ?_, fun q => by omega, by rw [pn]; exact f7, by rw [pn]; exact f8, by rw [pn]; omega⟩
  · by_cases z : j = l.toNatClampNeg
    · rw [z, g]; exact r1
    · rw [e j z]; exact f3 j hj
  · rw [e j (by omega)]; exact f4 j (by omega) h2
  · show _ = _ + jPn hx9 at_ * (all.toInt - (jsv hx9 l.toNatClampNeg + jpv hx9 l.toNatClampNeg))
    rw [pn, a2, a3, ← qv, ru, p0, p1, o, Int.sub_mul, f5, show all.toInt - (jsv h l.toNatClampNeg + v) = all.toInt - jsv h l.toNatClampNeg - v from by omega, Int.mul_sub _ _ v]
    omega
def jF3 (h : jH) (n : Int32) (left : Int64) : Prop := 0 ≤ left.toInt ∧ left.toInt ≤ 1000000 ∧ (left.toInt = 0 ∨ ∃ A : Int, 0 < A ∧ left.toInt * A ≤ jrs h n.toNatClampNeg ∧ ∀ j : Nat, j < n.toNatClampNeg → (jlv h 166 j).toInt < A)
theorem jF3_of {h : jH} {n at_ l : Int32} {all left : Int64} (F : jF2 h n at_ all left l.toNatClampNeg) (e : l.toInt = n.toInt) : jF3 h n left := by
  rw [jcl_e e] at F
  have b := jF2_b F (Nat.le_refl _)
  obtain ⟨f1, f2, f3, f4, f5, f6, f7, f8, f9⟩ := F
  refine ⟨b.2.1, b.2.2, ?_⟩
  by_cases z : all.toInt = 0
  · exact Or.inl (f6 z)
  · refine Or.inr ⟨all.toInt, by omega, ?_, f3⟩
    rw [f5, ← f1, Int.sub_self, Int.mul_zero]
    omega
theorem jF3_no {h : jH} {n : Int32} {left : Int64} (F : jF3 h n left) (hl : 0 < left.toInt) (Z : ∀ j : Nat, j < n.toNatClampNeg → (jlv h 166 j).toInt < 0) : False := by
  rcases F.2.2 with c | ⟨A, a1, a2, _⟩
  · omega
  · rw [jrs_z _ (fun j hj => by have := Z j hj; omega)] at a2
    have := Int.mul_pos hl a1
    omega
theorem jF3_s {h hx9 : jH} {n k : Int32} {left left' : Int64} (F : jF3 h n left) (hl : 0 < left.toInt) (hk : 0 ≤ k.toInt ∧ k.toInt < n.toInt) (e : jLq 166 (fun j => j ≠ k.toNatClampNeg) hx9 h) (g : (jlv hx9 166 k.toNatClampNeg).toInt = -1) (o : left'.toInt = left.toInt - 1) : jF3 hx9 n left' := by
  have ck := jcl_of hk.1
  have cn := jcl_of (d := n) (by omega)
  refine ⟨by omega, by have := F.2.1; omega, ?_⟩
  rcases F.2.2 with c | ⟨A, a1, a2, a3⟩
  · omega
  · refine Or.inr ⟨A, a1, ?_, fun j hj => ?_⟩
    · have ru := jrs_u (h := h) (hx9 := hx9) (k := k.toNatClampNeg) n.toNatClampNeg (by omega) (fun j _ hj => e j hj)
      have p1 : jrp hx9 k.toNatClampNeg = 0 := jrp_m g
      have p0 : jrp h k.toNatClampNeg ≤ A := by
        have := a3 k.toNatClampNeg (by omega)
        unfold jrp
        split <;> omega
      rw [ru, p1, o, Int.sub_mul]
      omega
    · by_cases z : j = k.toNatClampNeg
      · rw [z, g]; omega
      · rw [e j z]; exact a3 j hj
def jF4 (h : jH) (n its : Int32) (left : Int64) (i : Nat) : Prop := jF3 h n left ∧ 0 < left.toInt ∧ (its.toInt < 0 → ∀ j : Nat, j < i → (jlv h 166 j).toInt < 0)
theorem jF4_0 {h : jH} {n : Int32} {left : Int64} (F : jF3 h n left) (hl : 0 < left.toInt) : jF4 h n (-1) left (0 : Int32).toNatClampNeg := ⟨F, hl, fun _ j hj => by rw [show (0 : Int32).toNatClampNeg = 0 from by decide] at hj; omega⟩
theorem jF4_t {h : jH} {n its x : Int32} {left : Int64} {i : Nat} (F : jF4 h n its left i) (hx : 0 ≤ x.toInt) : jF4 h n x left (i + 1) := ⟨F.1, F.2.1, fun c => by omega⟩
theorem jF4_f {h : jH} {n its : Int32} {left : Int64} {i : Nat} (F : jF4 h n its left i) (o : its.toInt < 0 → (jlv h 166 i).toInt < 0) : jF4 h n its left (i + 1) := ⟨F.1, F.2.1, fun c j hj => by
  by_cases z : j = i
  · rw [z]; exact o c
  · exact F.2.2 c j (by omega)⟩
theorem jF4_n {h : jH} {n its l v : Int32} {left : Int64} (F : jF4 h n its left (l.toNatClampNeg + 1)) (e : v.toInt = l.toInt + 1 ∧ 0 ≤ l.toInt) : jF4 h n its left v.toNatClampNeg := by rw [jcl_s e]; exact F
theorem jF4_its {h : jH} {n its l : Int32} {left : Int64} (F : jF4 h n its left l.toNatClampNeg) (e : n.toInt ≤ l.toInt ∧ 0 ≤ n.toInt) : 0 ≤ its.toInt := by
  by_cases c : its.toInt < 0
  · have a := jcl_of e.2
    have b := jcl_of (d := l) (by omega)
    exact (jF3_no F.1 F.2.1 (fun j hj => F.2.2 c j (by omega))).elim
  · omega
theorem jF2_n {h : jH} {n at_ l v : Int32} {all left : Int64} (F : jF2 h n at_ all left (l.toNatClampNeg + 1)) (e : v.toInt = l.toInt + 1 ∧ 0 ≤ l.toInt) : jF2 h n at_ all left v.toNatClampNeg := by rw [jcl_s e]; exact F
theorem jcl_2 {x l : Int32} (e : x.toInt = l.toInt + 2) (hl : 0 ≤ l.toInt) : x.toNatClampNeg = l.toNatClampNeg + 2 := by
  have a := jcl_of hl
  have b := jcl_of (d := x) (by omega)
  omega
theorem jPn_q {h : jH} {x l v : Int32} (q : jiv h 126 x.toNatClampNeg = v) (e : x.toInt = l.toInt + 2) (hl : 0 ≤ l.toInt) : v.toInt = jPn h l := by
  unfold jPn
  rw [← jcl_2 e hl, q]
theorem z_lmulQ {M : jM} {d K S pc : Nat} {ls : jL} {st : List Value} {h : jH} {k n : Nat} {Q : Option Value → jH → Prop} {p q : Int64} {a b A B C : Int} (hat : jat M pc = some (.lmul, 1)) (hx : p.toInt = a) (hy : q.toInt = b) (h1 : 0 ≤ a ∧ a ≤ A) (h2 : 0 ≤ b ∧ b ≤ B) (hC : A * B = C) (hC2 : C ≤ 9223372036854775807) (kk : ∀ v : Int64, (v.toInt = a * b ∧ 0 ≤ v.toInt ∧ v.toInt ≤ C) → jX M d K S (pc + 1) ls (.long v :: st) h k n Q) : jX M d K S pc ls (.long q :: .long p :: st) h k n Q := by
  have e1 : 0 ≤ a * b := Int.mul_nonneg h1.1 h2.1
  have e2 : a * b ≤ A * B := Int.mul_le_mul h1.2 h2.2 h2.1 (Int.le_trans h1.1 h1.2)
  exact z_lmul hat hx hy ⟨by omega, by omega⟩ (fun v e => kk v ⟨e, by omega, by omega⟩)
theorem jlv_c {h hx9 : jH} {a b k j : Nat} {x v : Int64} (w : hx9 = jsl h b k x) (e : Nat.beq a b = false) (q : jlv h a j = v) : jlv hx9 a j = v := jlq_o (P := fun _ => True) w e (fun _ _ => rfl) j trivial |>.trans q
theorem jPp_v {h : jH} {n l x p v : Int32} (P : jPp h n.toNatClampNeg) (q : jiv h 167 l.toNatClampNeg = p) (z : p.toInt ≠ 0) (q2 : jiv h 162 x.toNatClampNeg = v) (e : x.toInt = 40 + l.toInt) (hl : 0 ≤ l.toInt ∧ l.toInt < n.toInt) : 0 < v.toInt := by
  have a := jcl_of hl.1
  have b := jcl_of (d := n) (by omega)
  have := P l.toNatClampNeg (by omega) (by rw [q]; exact z)
  rw [← jcl_40 e hl.1, q2] at this
  exact this
theorem jmc2 {F : jFp} {h hx9 : jH} {b lo : Nat} {i v : Int32} {m : Int} (S : jSm F h hx9) (e : (Nat.blt b 174 && (F.all fun q => !Nat.beq q.1 b || Nat.ble q.2.2 lo)) = true) (hi : i.toInt = m) (hm : (lo : Int) ≤ m) (q : jiv h b i.toNatClampNeg = v) : jiv hx9 b i.toNatClampNeg = v := by
  have n := jcl_nat hi (by omega)
  exact (jeq_c2 (P := fun j => lo ≤ j) S e (fun _ q => q) jeq_0 i.toNatClampNeg (by omega)).trans q
theorem jF4_u {h : jH} {n x : Int32} {left : Int64} {i : Nat} (F : jF3 h n left) (hl : 0 < left.toInt) (hx : 0 ≤ x.toInt) : jF4 h n x left (i + 1) := ⟨F, hl, fun c => by omega⟩
theorem jPn_e {h hx9 : jH} {l : Int32} (E : jEq 126 (fun _ => True) hx9 h) : jPn hx9 l = jPn h l := by unfold jPn; rw [E _ trivial]
