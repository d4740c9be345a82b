/-! text: the same of a heap -/
def jnC (h : jH) : Nat := (jiv h 125 49).toNatClampNeg
def jnL (h : jH) : Nat := (jiv h 125 55).toNatClampNeg
def jTz (h : jH) (a : Nat) (o : Int) : Prop := jXp (jiv h 148) (jiv h 149) (jiv h 150) (jiv h 151) a (jnC h) (jnL h) o
def jplx (x : Int32) : Prop := (6 ≤ x.toInt ∧ x.toInt ≤ 12) ∨ (18 ≤ x.toInt ∧ x.toInt ≤ 20) ∨ x.toInt = 30 ∨ x.toInt = 31
def jTw (k : Int) (h : jH) : Prop := 0 ≤ (jiv h 125 49).toInt ∧ 0 ≤ (jiv h 125 55).toInt ∧ (jiv h 125 49).toInt + jct (jiv h 150) (jnL h) + k ≤ (jiv h 125 9).toInt ∧ (jiv h 125 55).toInt + k ≤ (jiv h 125 9).toInt ∧ ∀ i : Nat, i < jnL h → jplx (jiv h 150 i) ∧ (jAo_ (jiv h 150 i) → 0 ≤ (jiv h 151 i).toInt ∧ (jiv h 151 i).toInt < 400)
/-- bad, or the code and the pile fit; o: 1 behind an operand; k: what the tape has given beyond them -/
def jTu (k : Int) (h : jH) (a : Nat) (o : Int) : Prop := jTw k h ∧ ((jiv h 125 14).toInt ≠ 0 ∨ jTz h a o)
/-- how a sign binds -/
def jbd (x : Int) : Int := if 30 ≤ x then 0 else if x = 20 then 1 else if x = 19 then 2 else if x = 18 then 3 else if 10 ≤ x then 4 else if 8 ≤ x then 6 else 5
theorem jbd_all (x : Int) : (x < 30 ∨ jbd x = 0) ∧ (x ≠ 20 ∨ jbd x = 1) ∧ (x ≠ 19 ∨ jbd x = 2) ∧ (x ≠ 18 ∨ jbd x = 3) ∧ (x < 10 ∨ (18 ≤ x ∧ x ≤ 20) ∨ 30 ≤ x ∨ jbd x = 4) ∧ (x < 8 ∨ 10 ≤ x ∨ jbd x = 6) ∧ (8 ≤ x ∨ jbd x = 5) := by
  unfold jbd
  refine ⟨?_, ?_, ?_, ?_, ?_, ?_, ?_⟩ <;> (split; omega; split; omega; split; omega; split; omega; split; omega; split <;> omega)
/-- settle: where it stands -/
def jSe (k e : Int) (a : Nat) (h0 h : jH) : Prop := jTu k h a 1 ∧ jnL h ≤ jnL h0 ∧ jEq 150 (fun _ => True) h h0 ∧ jEq 151 (fun _ => True) h h0 ∧ (∀ i : Nat, jnL h ≤ i → i < jnL h0 → e ≤ jbd (jiv h0 150 i).toInt) ∧ ((jiv h 125 14).toInt ≠ 0 ∨ (jEq 148 (fun i => i < a) h h0 ∧ jEq 149 (fun i => i < a) h h0))
theorem jse_0 {k e : Int} {a : Nat} {h : jH} (T : jTu k h a 1) : jSe k e a h h := ⟨T, Nat.le_refl _, jeq_0, jeq_0, fun i h1 h2 => by omega, Or.inr ⟨jeq_0, jeq_0⟩⟩
/-- an AND or OR goes: the pile is one less, its arm ends here -/
theorem jse_and {k e : Int} {a : Nat} {h0 h h1 h2 : jH} {l u c t x : Int32} (S : jSe k e a h0 h) (ql : jiv h 125 55 = l) (hl : 1 ≤ l.toInt) (w1 : h1 = jsi h 125 55 u) (hu : u.toInt = l.toInt - 1) (qx : jiv h 150 u.toNatClampNeg = x) (ax : jAo_ x) (ex : e ≤ jbd x.toInt) (qt : jiv h 151 u.toNatClampNeg = t) (qc : jiv h 125 49 = c) (w2 : h2 = jsi h1 149 t.toNatClampNeg c) : jSe k e a h0 h2 := by
  obtain ⟨⟨⟨t1, t2, t3, t4, t5⟩, tz⟩, s2, s3, s4, s5, s6⟩ := S
  have el := jcl_of (d := l) (by omega)
  have eu := jcl_of (d := u) (by omega)
  have ec : (jiv h 125 49).toInt = (jnC h : Int) := jcl_of t1
  have nl : jnL h = u.toNatClampNeg + 1 := by unfold jnL; rw [ql]; omega
  have f55 : jiv h2 125 55 = u := jmo w2 rfl (jmw w1)
  have nl2 : jnL h2 = u.toNatClampNeg := by unfold jnL; rw [f55]
  have f49 : jiv h2 125 49 = jiv h 125 49 := jmo w2 rfl (jmo w1 rfl rfl)
  have nc2 : jnC h2 = jnC h := by unfold jnC; rw [f49]
  have f9 : jiv h2 125 9 = jiv h 125 9 := jmo w2 rfl (jmo w1 rfl rfl)
  have f14 : jiv h2 125 14 = jiv h 125 14 := jmo w2 rfl (jmo w1 rfl rfl)
  have c0 : jiv h2 150 = jiv h 150 := funext fun i => jmo w2 rfl (jmo w1 rfl rfl)
  have c1 : jiv h2 151 = jiv h 151 := funext fun i => jmo w2 rfl (jmo w1 rfl rfl)
  have c8 : jiv h2 148 = jiv h 148 := funext fun i => jmo w2 rfl (jmo w1 rfl rfl)
  have tp := (t5 u.toNatClampNeg (by omega)).2 (by rw [qx]; exact ax)
  rw [qt] at tp
  have et := jcl_of tp.1
  have c9 : ∀ j, j ≠ t.toNatClampNeg → jiv h2 149 j = jiv h 149 j := fun j hj => jmo w2 (by rw [jbne hj, Bool.and_false]) (jmo w1 rfl rfl)
  have c9w : jiv h2 149 t.toNatClampNeg = c := jmw w2
  have ct : jct (jiv h 150) (u.toNatClampNeg + 1) = jct (jiv h 150) u.toNatClampNeg := jct_0 (by rw [qx]; exact ax)
  have key : (jiv h 125 14).toInt ≠ 0 ∨ (jTz h2 a 1 ∧ a ≤ t.toNatClampNeg) := by
    rcases tz with z | z
    · exact Or.inl z
    · refine Or.inr ?_
      unfold jTz at z ⊢
      rw [nl] at z
      rw [nc2, nl2, c0, c1, c8]
      obtain ⟨n, n1, n2, n3⟩ := z.2.2.2.1 u.toNatClampNeg (by omega) (by rw [qx]; exact ax)
      rw [qt] at n1
      exact ⟨jXp_and z (by rw [qx]; exact ax) t.toNatClampNeg (by rw [qt]; exact et) (by rw [c9w, ← qc]; exact ec) c9, by omega⟩
  refine ⟨⟨⟨by rw [f49]; exact t1, by rw [f55]; omega, ?_, by rw [f55, f9]; rw [ql] at t4; omega, fun i hi => ?_⟩, ?_⟩, by omega, ?_, ?_, fun i h1 h2 => ?_, ?_⟩
  · rw [f49, f9, nl2, c0, ← ct, ← nl]
    exact t3
  · rw [c0, c1]
    exact t5 i (by omega)
  · rw [f14]
    exact key.imp id And.left
  · intro i _
    rw [c0]; exact s3 i trivial
  · intro i _
    rw [c1]; exact s4 i trivial
  · by_cases z : i = u.toNatClampNeg
    · rw [z, ← s3 _ trivial, qx]; exact ex
    · exact s5 i (by omega) h2
  · rw [f14]
    rcases key with z | z
    · exact Or.inl z
    · rcases s6 with y | y
      · exact Or.inl y
      · refine Or.inr ⟨fun i hi => by rw [c8]; exact y.1 i hi, fun i hi => by rw [c9 i (by omega)]; exact y.2 i hi⟩
/-- a sign goes into the code -/
theorem jse_op {k e : Int} {a : Nat} {h0 h h1 h2 h3 h4 : jH} {l u c c' x : Int32} (S : jSe k e a h0 h) (ql : jiv h 125 55 = l) (hl : 1 ≤ l.toInt) (w1 : h1 = jsi h 125 55 u) (hu : u.toInt = l.toInt - 1) (qx : jiv h 150 u.toNatClampNeg = x) (ax : x.toInt ≠ 19 ∧ x.toInt ≠ 20) (he : 1 ≤ e) (ex : e ≤ jbd x.toInt) (qc : jiv h 125 49 = c) (w2 : h2 = jsi h1 148 c.toNatClampNeg x) (w3 : h3 = jsi h2 149 c.toNatClampNeg 0) (w4 : h4 = jsi h3 125 49 c') (hc : c'.toInt = c.toInt + 1) : jSe k e a h0 h4 := by
  obtain ⟨⟨⟨t1, t2, t3, t4, t5⟩, tz⟩, s2, s3, s4, s5, s6⟩ := S
  have el := jcl_of (d := l) (by omega)
  have eu := jcl_of (d := u) (by omega)
  rw [qc] at t1
  have ec := jcl_of t1
  have ec' := jcl_of (d := c') (by omega)
  have nl : jnL h = u.toNatClampNeg + 1 := by unfold jnL; rw [ql]; omega
  have nc : jnC h = c.toNatClampNeg := by unfold jnC; rw [qc]
  have f55 : jiv h4 125 55 = u := jmo w4 rfl (jmo w3 rfl (jmo w2 rfl (jmw w1)))
  have f49 : jiv h4 125 49 = c' := jmw w4
  have nl2 : jnL h4 = u.toNatClampNeg := by unfold jnL; rw [f55]
  have nc2 : jnC h4 = c.toNatClampNeg + 1 := by unfold jnC; rw [f49]; omega
  have f9 : jiv h4 125 9 = jiv h 125 9 := jmo w4 rfl (jmo w3 rfl (jmo w2 rfl (jmo w1 rfl rfl)))
  have f14 : jiv h4 125 14 = jiv h 125 14 := jmo w4 rfl (jmo w3 rfl (jmo w2 rfl (jmo w1 rfl rfl)))
  have c0 : jiv h4 150 = jiv h 150 := funext fun i => jmo w4 rfl (jmo w3 rfl (jmo w2 rfl (jmo w1 rfl rfl)))
  have c1 : jiv h4 151 = jiv h 151 := funext fun i => jmo w4 rfl (jmo w3 rfl (jmo w2 rfl (jmo w1 rfl rfl)))
  have c8 : ∀ j, j ≠ c.toNatClampNeg → jiv h4 148 j = jiv h 148 j := fun j hj => jmo w4 rfl (jmo w3 rfl (jmo w2 (by rw [jbne hj, Bool.and_false]) (jmo w1 rfl rfl)))
  have c8w : jiv h4 148 c.toNatClampNeg = x := jmo w4 rfl (jmo w3 rfl (jmw w2))
  have c9 : ∀ j, j ≠ c.toNatClampNeg → jiv h4 149 j = jiv h 149 j := fun j hj => jmo w4 rfl (jmo w3 (by rw [jbne hj, Bool.and_false]) (jmo w2 rfl (jmo w1 rfl rfl)))
  have jd := jbd_all x.toInt
  have tp := (t5 u.toNatClampNeg (by omega)).1
  rw [qx] at tp
  have xs : (6 ≤ x.toInt ∧ x.toInt ≤ 12) ∨ x.toInt = 18 := by unfold jplx at tp; omega
  have ct : jct (jiv h 150) (u.toNatClampNeg + 1) = jct (jiv h 150) u.toNatClampNeg + 1 := jct_1 (by rw [qx]; omega)
  refine ⟨⟨⟨by rw [f49]; omega, by rw [f55]; omega, ?_, by rw [f55, f9]; rw [ql] at t4; omega, fun i hi => ?_⟩, ?_⟩, by omega, ?_, ?_, fun i h1 h2 => ?_, ?_⟩
  · rw [f49, f9, nl2, c0]
    rw [nl, ct, qc] at t3
    omega
  · rw [c0, c1]
    exact t5 i (by omega)
  · rw [f14]
    refine tz.imp id (fun z => ?_)
    unfold jTz at z ⊢
    rw [nl, nc] at z
    rw [nl2, nc2, c0, c1]
    exact jXp_op z (by rw [qx]; exact xs) (by rw [c8w, qx]) (fun j hj => c8 j (by omega)) (fun j hj => c9 j (by omega))
  · intro i _
    rw [c0]; exact s3 i trivial
  · intro i _
    rw [c1]; exact s4 i trivial
  · by_cases z : i = u.toNatClampNeg
    · rw [z, ← s3 _ trivial, qx]; exact ex
    · exact s5 i (by omega) h2
  · rw [f14]
    rcases tz with z | z
    · exact Or.inl z
    · rcases s6 with y | y
      · exact Or.inl y
      · have ac := z.1
        rw [nc] at ac
        exact Or.inr ⟨fun i hi => by rw [c8 i (by omega)]; exact y.1 i hi, fun i hi => by rw [c9 i (by omega)]; exact y.2 i hi⟩
/-- settle's end: what stays on top binds less -/
def jSf (k e : Int) (a : Nat) (h0 h : jH) : Prop := jSe k e a h0 h ∧ (jnL h = 0 ∨ jbd (jiv h0 150 (jnL h - 1)).toInt < e)
theorem jsf_0 {k e : Int} {a : Nat} {h0 h : jH} {l : Int32} (S : jSe k e a h0 h) (ql : jiv h 125 55 = l) (hl : l.toInt ≤ 0) : jSf k e a h0 h := by
  refine ⟨S, Or.inl ?_⟩
  have t2 := S.1.1.2.1
  rw [ql] at t2
  have := jcl_of t2
  unfold jnL
  rw [ql]
  omega
theorem jsf_1 {k e : Int} {a : Nat} {h0 h : jH} {l u x : Int32} (S : jSe k e a h0 h) (ql : jiv h 125 55 = l) (hl : 1 ≤ l.toInt) (hu : u.toInt = l.toInt - 1) (qx : jiv h 150 u.toNatClampNeg = x) (ex : jbd x.toInt < e) : jSf k e a h0 h := by
  refine ⟨S, Or.inr ?_⟩
  have el := jcl_of (d := l) (by omega)
  have eu := jcl_of (d := u) (by omega)
  have nl : jnL h - 1 = u.toNatClampNeg := by unfold jnL; rw [ql]; omega
  rw [nl, ← S.2.2.1 _ trivial, qx]
  exact ex
def jS63 (k e : Int) (a : Nat) (h0 h1 : jH) : Prop := ∃ (h : jH) (l u x : Int32), jSe k e a h0 h ∧ jiv h 125 55 = l ∧ 1 ≤ l.toInt ∧ h1 = jsi h 125 55 u ∧ u.toInt = l.toInt - 1 ∧ jiv h 150 u.toNatClampNeg = x ∧ jAo_ x ∧ e ≤ jbd x.toInt
theorem jse_63t {k e : Int} {a : Nat} {h0 h1 : jH} {u t : Int32} (C : jS63 k e a h0 h1) (qu : jiv h1 125 55 = u) (qt : jiv h1 151 u.toNatClampNeg = t) : 0 ≤ t.toInt ∧ t.toInt < 400 := by
  obtain ⟨h, l, u', x, c1, c2, c3, c4, c5, c6, c7, c8⟩ := C
  have : u' = u := (jmw c4).symm.trans qu
  subst this
  have el := jcl_of (d := l) (by omega)
  have eu := jcl_of (d := u') (by omega)
  have q2 : jiv h 151 u'.toNatClampNeg = t := by rw [← qt]; exact (jmo c4 rfl rfl).symm
  have := (c1.1.1.2.2.2.2 u'.toNatClampNeg (by unfold jnL; rw [c2]; omega)).2 (by rw [c6]; exact c7)
  rw [q2] at this
  exact this
theorem jse_63 {k e : Int} {a : Nat} {h0 h1 h2 : jH} {u t c : Int32} (C : jS63 k e a h0 h1) (qu : jiv h1 125 55 = u) (qt : jiv h1 151 u.toNatClampNeg = t) (qc : jiv h1 125 49 = c) (w2 : h2 = jsi h1 149 t.toNatClampNeg c) : jSe k e a h0 h2 := by
  obtain ⟨h, l, u', x, c1, c2, c3, c4, c5, c6, c7, c8⟩ := C
  have : u' = u := (jmw c4).symm.trans qu
  subst this
  exact jse_and c1 c2 c3 c4 c5 c6 c7 c8 (by rw [← qt]; exact (jmo c4 rfl rfl).symm) (by rw [← qc]; exact (jmo c4 rfl rfl).symm) w2
theorem jse_c {k e : Int} {a : Nat} {h0 h : jH} {l u x c : Int32} (S : jSe k e a h0 h) (ql : jiv h 125 55 = l) (hl : 1 ≤ l.toInt) (hu : u.toInt = l.toInt - 1) (qx : jiv h 150 u.toNatClampNeg = x) (ax : x.toInt ≠ 19 ∧ x.toInt ≠ 20) (qc : jiv h 125 49 = c) (hf : (jiv h 125 9).toInt ≤ 400) (hk : 0 ≤ k) : c.toInt ≤ 399 := by
  have el := jcl_of (d := l) (by omega)
  have eu := jcl_of (d := u) (by omega)
  have nl : jnL h = u.toNatClampNeg + 1 := by unfold jnL; rw [ql]; omega
  have t3 := S.1.1.2.2.1
  have n := jct_nn (P := jiv h 150) u.toNatClampNeg
  rw [nl, jct_1 (by rw [qx]; omega), qc] at t3
  omega
theorem jidx {h : jH} {a : Nat} {i j x y : Int32} (e : i.toInt = j.toInt) (p : jiv h a i.toNatClampNeg = x) (q : jiv h a j.toNatClampNeg = y) : x.toInt = y.toInt := by rw [← p, ← q, jcl_e e]
