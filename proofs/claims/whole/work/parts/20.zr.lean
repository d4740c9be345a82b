/-! join: which wishes come ahead, how many are to be joined -/
def jah (f : Nat → Int32) (k : Nat) : Nat → Int | 0 => -1 | n + 1 => if f n = f k then (n : Int) else jah f k n
theorem jah_t {h : jH} {a l x y : Int32} (q1 : jiv h 146 l.toNatClampNeg = x) (q2 : jiv h 146 a.toNatClampNeg = y) (e : x.toInt = y.toInt) (hl : 0 ≤ l.toInt) : l.toInt = jah (jiv h 146) a.toNatClampNeg (l.toNatClampNeg + 1) := by
  show l.toInt = if jiv h 146 l.toNatClampNeg = jiv h 146 a.toNatClampNeg then (l.toNatClampNeg : Int) else _
  rw [q1, q2, if_pos (Int32.toInt_inj.mp e)]
  exact jcl_of hl
theorem jah_f {h : jH} {a l x y p : Int32} (q1 : jiv h 146 l.toNatClampNeg = x) (q2 : jiv h 146 a.toNatClampNeg = y) (e : x.toInt ≠ y.toInt) (C : p.toInt = jah (jiv h 146) a.toNatClampNeg l.toNatClampNeg) : p.toInt = jah (jiv h 146) a.toNatClampNeg (l.toNatClampNeg + 1) := by
  show p.toInt = if jiv h 146 l.toNatClampNeg = jiv h 146 a.toNatClampNeg then (l.toNatClampNeg : Int) else _
  rw [q1, q2, if_neg (fun c => e (congrArg Int32.toInt c))]
  exact C
theorem jcl_s {v l : Int32} (e : v.toInt = l.toInt + 1 ∧ 0 ≤ l.toInt) : v.toNatClampNeg = l.toNatClampNeg + 1 := by
  have a := jcl_of e.2
  have b := jcl_of (d := v) (by omega)
  omega
theorem jcl_e {v l : Int32} (e : v.toInt = l.toInt) : v = l := Int32.toInt_inj.mp e
theorem jah_n {f : Nat → Int32} {a s l v : Int32} (C : s.toInt = jah f a.toNatClampNeg (l.toNatClampNeg + 1)) (e : v.toInt = l.toInt + 1 ∧ 0 ≤ l.toInt) : s.toInt = jah f a.toNatClampNeg v.toNatClampNeg := by rw [jcl_s e]; exact C
def jj1 (h : jH) (k : Nat) : Int := if jah (jiv h 146) k k = -1 then 0 else if jiv h 139 (jiv h 141 (jah (jiv h 146) k k).toNat).toNatClampNeg = jiv h 139 (jiv h 141 k).toNatClampNeg then 0 else 1
def jjc (h : jH) : Nat → Int | 0 => 0 | n + 1 => jjc h n + jj1 h n
theorem jj1_b {h : jH} {k : Nat} : 0 ≤ jj1 h k ∧ jj1 h k ≤ 1 := by
  unfold jj1
  split
  · omega
  · split <;> omega
theorem jj1_n {h : jH} {k x : Int32} (P : x.toInt = jah (jiv h 146) k.toNatClampNeg k.toNatClampNeg) (e : x.toInt = -1) : jj1 h k.toNatClampNeg = 0 := by
  unfold jj1
  rw [← P, if_pos e]
theorem jj1_q {h : jH} {k x a b c d : Int32} (P : x.toInt = jah (jiv h 146) k.toNatClampNeg k.toNatClampNeg) (e : 0 ≤ x.toInt) (qa : jiv h 141 x.toNatClampNeg = a) (qb : jiv h 139 a.toNatClampNeg = b) (qc : jiv h 141 k.toNatClampNeg = c) (qd : jiv h 139 c.toNatClampNeg = d) : (b.toInt = d.toInt → jj1 h k.toNatClampNeg = 0) ∧ (b.toInt ≠ d.toInt → jj1 h k.toNatClampNeg = 1) := by
  have n : x.toInt.toNat = x.toNatClampNeg := by have := jcl_of e; omega
  unfold jj1
  rw [← P, if_neg (by omega), n, qa, qb, qc, qd]
  exact ⟨fun z => if_pos (jcl_e z), fun z => if_neg (fun y => z (congrArg Int32.toInt y))⟩
theorem jjc_le {h : jH} {m : Nat} : ∀ n, jjc h m ≤ jjc h (m + n)
  | 0 => Int.le_refl _
  | n + 1 => by
    have a := jjc_le (h := h) (m := m) n
    have b := (jj1_b (h := h) (k := m + n)).1
    show jjc h m ≤ jjc h (m + n) + jj1 h (m + n)
    omega
theorem jjc_mx {h : jH} : ∀ n : Nat, 0 ≤ jjc h n ∧ jjc h n ≤ (n : Int)
  | 0 => by show (0 : Int) ≤ 0 ∧ (0 : Int) ≤ 0; omega
  | n + 1 => by
    have a := jjc_mx (h := h) n
    have b := jj1_b (h := h) (k := n)
    show 0 ≤ jjc h n + jj1 h n ∧ jjc h n + jj1 h n ≤ _
    omega
theorem jj1_e {h hx9 : jH} {k : Nat} (a : jEq 146 (fun _ => True) hx9 h) (b : jEq 141 (fun _ => True) hx9 h) (c : jEq 139 (fun _ => True) hx9 h) : jj1 hx9 k = jj1 h k := by
  have e : jiv hx9 146 = jiv h 146 := funext fun i => a i trivial
  unfold jj1
  rw [e, b _ trivial, b _ trivial, c _ trivial, c _ trivial]
theorem jjc_e {h hx9 : jH} (a : jEq 146 (fun _ => True) hx9 h) (b : jEq 141 (fun _ => True) hx9 h) (c : jEq 139 (fun _ => True) hx9 h) : ∀ n, jjc hx9 n = jjc h n
  | 0 => rfl
  | n + 1 => by
    show jjc hx9 n + jj1 hx9 n = jjc h n + jj1 h n
    rw [jjc_e a b c n, jj1_e a b c]
theorem jjc_s {h : jH} {l v : Int32} (e : v.toInt = l.toInt + 1 ∧ 0 ≤ l.toInt) : jjc h v.toNatClampNeg = jjc h l.toNatClampNeg + jj1 h l.toNatClampNeg := by rw [jcl_s e]; rfl
theorem jjc_w {h : jH} {l W : Int32} (e : l.toInt < W.toInt ∧ 0 ≤ l.toInt) : jjc h l.toNatClampNeg + jj1 h l.toNatClampNeg ≤ jjc h W.toNatClampNeg := by
  have a := jcl_of e.2
  have b := jcl_of (d := W) (by omega)
  have := jjc_le (h := h) (m := l.toNatClampNeg + 1) (W.toNatClampNeg - (l.toNatClampNeg + 1))
  rw [show l.toNatClampNeg + 1 + (W.toNatClampNeg - (l.toNatClampNeg + 1)) = W.toNatClampNeg from by omega] at this
  exact this
theorem jjc_z {h : jH} : jjc h (0 : Int32).toNatClampNeg = 0 := by rw [show (0 : Int32).toNatClampNeg = 0 from by decide]; rfl
theorem jah_0 {f : Nat → Int32} {a : Nat} : (-1 : Int32).toInt = jah f a (0 : Int32).toNatClampNeg := by
  rw [show (0 : Int32).toNatClampNeg = 0 from by decide]
  show (-1 : Int32).toInt = -1
  decide
theorem jah_x {f : Nat → Int32} {p l a : Int32} (C : p.toInt = jah f a.toNatClampNeg l.toNatClampNeg) (e : l.toInt = a.toInt) : p.toInt = jah f a.toNatClampNeg a.toNatClampNeg := by
  rw [jcl_e e] at C
  exact C
def jjF (h : jH) (l : Int32) : Prop := (jiv h 126 (2 : Int32).toNatClampNeg).toInt + jjc h (jiv h 125 36).toNatClampNeg - jjc h l.toNatClampNeg ≤ 200
theorem jj_in {h : jH} {l n r w : Int32} (C : n.toInt = jjc h l.toNatClampNeg) (W : jiv h 125 36 = w) (e : l.toInt = w.toInt) (q : jiv h 126 (2 : Int32).toNatClampNeg = r) (b : r.toInt + n.toInt ≤ 200) : jjF h 0 := by
  unfold jjF
  rw [q, W, ← jcl_e e, ← C, jjc_z]
  omega
theorem jj_mv {h hx9 : jH} {l : Int32} (a : jEq 146 (fun _ => True) hx9 h) (b : jEq 141 (fun _ => True) hx9 h) (c : jEq 139 (fun _ => True) hx9 h) (W : jiv hx9 125 36 = jiv h 125 36) (R : jiv hx9 126 (2 : Int32).toNatClampNeg = jiv h 126 (2 : Int32).toNatClampNeg) (F : jjF h l) : jjF hx9 l := by
  unfold jjF
  rw [R, W, jjc_e a b c, jjc_e a b c]
  exact F
theorem jj_hit {h : jH} {l w v : Int32} (F : jjF h l) (o : jj1 h l.toNatClampNeg = 1) (W : jiv h 125 36 = w) (e : l.toInt < w.toInt ∧ 0 ≤ l.toInt) (q : jiv h 126 (2 : Int32).toNatClampNeg = v) : v.toInt ≤ 199 := by
  unfold jjF at F
  have m := jjc_w (h := h) e
  rw [W, q] at F
  omega
def jjG (h : jH) (l : Int32) : Prop := (jiv h 126 (2 : Int32).toNatClampNeg).toInt + jjc h (jiv h 125 36).toNatClampNeg - jjc h l.toNatClampNeg - jj1 h l.toNatClampNeg ≤ 200
theorem jj_g0 {h : jH} {l : Int32} (F : jjF h l) (o : jj1 h l.toNatClampNeg = 0) : jjG h l := by
  unfold jjF at F
  unfold jjG
  omega
theorem jj_g1 {h hx9 : jH} {l r r' : Int32} (a : jEq 146 (fun _ => True) hx9 h) (b : jEq 141 (fun _ => True) hx9 h) (c : jEq 139 (fun _ => True) hx9 h) (W : jiv hx9 125 36 = jiv h 125 36) (R : jiv h 126 (2 : Int32).toNatClampNeg = r) (R' : jiv hx9 126 (2 : Int32).toNatClampNeg = r') (F : jjF h l) (o : jj1 h l.toNatClampNeg = 1) (x : r'.toInt = r.toInt + 1) : jjG hx9 l := by
  unfold jjF at F
  unfold jjG
  rw [R', W, jjc_e a b c, jjc_e a b c, jj1_e a b c]
  rw [R] at F
  omega
theorem jj_go {h : jH} {l v : Int32} (G : jjG h l) (e : v.toInt = l.toInt + 1 ∧ 0 ≤ l.toInt) : jjF h v := by
  unfold jjG at G
  unfold jjF
  rw [jjc_s e]
  omega
