/-! text: the last open mark; what next says -/
theorem jnf {h0 h : jH} {x y : Int32} (P : (jiv h0 125 10).toInt ≤ (jiv h 125 9).toInt) (a : jiv h0 125 10 = x) (b : jiv h 125 9 = y) : x.toInt ≤ y.toInt := by rw [← a, ← b]; exact P
def jIr (P : Nat → Int32) (v : Int32) (n : Nat) : Prop := (v.toInt = -1 ∧ ∀ i : Nat, i < n → (P i).toInt < 30) ∨ ∃ b : Nat, b < n ∧ P b = v ∧ 30 ≤ v.toInt ∧ ∀ j : Nat, b < j → j < n → (P j).toInt < 30
theorem jir_0 {P : Nat → Int32} : jIr P (-1) (0 : Int32).toNatClampNeg := Or.inl ⟨by decide, fun i hi => by rw [show (0 : Int32).toNatClampNeg = 0 from by decide] at hi; omega⟩
theorem jir_t {h : jH} {l x : Int32} (q : jiv h 150 l.toNatClampNeg = x) (e : 30 ≤ x.toInt) : jIr (jiv h 150) x (l.toNatClampNeg + 1) := Or.inr ⟨l.toNatClampNeg, by omega, q, e, fun j h1 h2 => by omega⟩
theorem jir_f {h : jH} {v l x : Int32} (C : jIr (jiv h 150) v l.toNatClampNeg) (q : jiv h 150 l.toNatClampNeg = x) (e : x.toInt < 30) : jIr (jiv h 150) v (l.toNatClampNeg + 1) := by
  rcases C with ⟨c1, c2⟩ | ⟨b, b1, b2, b3, b4⟩
  · refine Or.inl ⟨c1, fun i hi => ?_⟩
    by_cases z : i = l.toNatClampNeg
    · rw [z, q]; exact e
    · exact c2 i (by omega)
  · refine Or.inr ⟨b, by omega, b2, b3, fun j h1 h2 => ?_⟩
    by_cases z : j = l.toNatClampNeg
    · rw [z, q]; exact e
    · exact b4 j h1 (by omega)
theorem jir_n {P : Nat → Int32} {v l u : Int32} (C : jIr P v (l.toNatClampNeg + 1)) (e : u.toInt = l.toInt + 1 ∧ 0 ≤ l.toInt) : jIr P v u.toNatClampNeg := by rw [jcl_s e]; exact C
theorem jir_x {h : jH} {v l g : Int32} (C : jIr (jiv h 150) v l.toNatClampNeg) (q : jiv h 125 55 = g) (e : l.toInt = g.toInt) : jIr (jiv h 150) v (jnL h) := by
  unfold jnL
  rw [q, ← jcl_e e]
  exact C
/-- behind settle a mark that stood still stands, and what stands on top of it binds less -/
theorem jsf_top {k e : Int} {a : Nat} {h0 h : jH} {v : Int32} (S : jSf k e a h0 h) (he : 1 ≤ e) (I : jIr (jiv h0 150) v (jnL h0)) (hv : 30 ≤ v.toInt) (hs : ∀ j : Nat, j < jnL h0 → (jiv h0 150 j).toInt < 30 → (∃ b : Nat, b < j ∧ jiv h0 150 b = v) → e ≤ jbd (jiv h0 150 j).toInt) : 1 ≤ jnL h ∧ jiv h 150 (jnL h - 1) = v := by
  rcases I with c | ⟨b, b1, b2, b3, b4⟩
  · omega
  · have hb : b < jnL h := by
      by_cases z : b < jnL h
      · exact z
      · have := S.1.2.2.2.2.1 b (by omega) b1
        have jd := (jbd_all (jiv h0 150 b).toInt).1
        rw [b2] at this jd
        omega
    refine ⟨by omega, ?_⟩
    rcases S.2 with z | z
    · omega
    · by_cases y : jnL h - 1 = b
      · rw [y, S.1.2.2.1 _ trivial]; exact b2
      · have l := S.1.2.1
        have := hs (jnL h - 1) (by omega) (b4 _ (by omega) (by omega)) ⟨b, by omega, b2⟩
        omega
/-! steps of the parser -/
theorem jtu_mv {k k' o : Int} {a : Nat} {h hx9 : jH} {f f' : Int32} (T : jTu k h a o) (e0 : jEq 148 (fun _ => True) hx9 h) (e1 : jEq 149 (fun _ => True) hx9 h) (e2 : jEq 150 (fun _ => True) hx9 h) (e3 : jEq 151 (fun _ => True) hx9 h) (c : jiv hx9 125 49 = jiv h 125 49) (l : jiv hx9 125 55 = jiv h 125 55) (b : (jiv h 125 14).toInt ≠ 0 → (jiv hx9 125 14).toInt ≠ 0) (q : jiv h 125 9 = f) (q' : jiv hx9 125 9 = f') (hk : k' + f.toInt ≤ k + f'.toInt) : jTu k' hx9 a o := by
  have n1 : jnC hx9 = jnC h := by unfold jnC; rw [c]
  have n2 : jnL hx9 = jnL h := by unfold jnL; rw [l]
  have f0 : jiv hx9 148 = jiv h 148 := funext fun i => e0 i trivial
  have f1 : jiv hx9 149 = jiv h 149 := funext fun i => e1 i trivial
  have f2 : jiv hx9 150 = jiv h 150 := funext fun i => e2 i trivial
  have f3 : jiv hx9 151 = jiv h 151 := funext fun i => e3 i trivial
  obtain ⟨⟨t1, t2, t3, t4, t5⟩, tz⟩ := T
  rw [q] at t3 t4
  refine ⟨⟨by rw [c]; exact t1, by rw [l]; exact t2, by rw [c, n2, f2, q']; omega, by rw [l, q']; omega, by rw [n2, f2, f3]; exact t5⟩, ?_⟩
  rcases tz with z | z
  · exact Or.inl (b z)
  · refine Or.inr ?_
    unfold jTz
    rw [f0, f1, f2, f3, n1, n2]
    exact z
theorem jtu_leaf {k : Int} {a : Nat} {h h1 h2 h3 : jH} {c c' x y : Int32} (T : jTu k h a 0) (qc : jiv h 125 49 = c) (w1 : h1 = jsi h 148 c.toNatClampNeg x) (w2 : h2 = jsi h1 149 c.toNatClampNeg y) (w3 : h3 = jsi h2 125 49 c') (hc : c'.toInt = c.toInt + 1) (hx : (0 ≤ x.toInt ∧ x.toInt < 6) ∨ (13 ≤ x.toInt ∧ x.toInt < 18)) : jTu (k - 1) h3 a 1 := by
  obtain ⟨⟨t1, t2, t3, t4, t5⟩, tz⟩ := T
  rw [qc] at t1 t3
  have ec := jcl_of t1
  have ec' := jcl_of (d := c') (by omega)
  have nc : jnC h = c.toNatClampNeg := by unfold jnC; rw [qc]
  have f49 : jiv h3 125 49 = c' := jmw w3
  have f55 : jiv h3 125 55 = jiv h 125 55 := jmo w3 rfl (jmo w2 rfl (jmo w1 rfl rfl))
  have f9 : jiv h3 125 9 = jiv h 125 9 := jmo w3 rfl (jmo w2 rfl (jmo w1 rfl rfl))
  have f14 : jiv h3 125 14 = jiv h 125 14 := jmo w3 rfl (jmo w2 rfl (jmo w1 rfl rfl))
  have nl2 : jnL h3 = jnL h := by unfold jnL; rw [f55]
  have nc2 : jnC h3 = c.toNatClampNeg + 1 := by unfold jnC; rw [f49]; omega
  have c0 : jiv h3 150 = jiv h 150 := funext fun i => jmo w3 rfl (jmo w2 rfl (jmo w1 rfl rfl))
  have c1 : jiv h3 151 = jiv h 151 := funext fun i => jmo w3 rfl (jmo w2 rfl (jmo w1 rfl rfl))
  have c8 : ∀ j, j ≠ c.toNatClampNeg → jiv h3 148 j = jiv h 148 j := fun j hj => jmo w3 rfl (jmo w2 rfl (jmo w1 (by rw [jbne hj, Bool.and_false]) rfl))
  have c8w : jiv h3 148 c.toNatClampNeg = x := jmo w3 rfl (jmo w2 rfl (jmw w1))
  have c9 : ∀ j, j ≠ c.toNatClampNeg → jiv h3 149 j = jiv h 149 j := fun j hj => jmo w3 rfl (jmo w2 (by rw [jbne hj, Bool.and_false]) (jmo w1 rfl rfl))
  refine ⟨⟨by rw [f49]; omega, by rw [f55]; exact t2, by rw [f49, f9, nl2, c0]; omega, by rw [f55, f9]; omega, by rw [nl2, c0, c1]; exact t5⟩, ?_⟩
  rw [f14]
  refine tz.imp id (fun z => ?_)
  unfold jTz at z ⊢
  rw [nc] at z
  rw [nl2, nc2, c0, c1]
  exact jXp_leaf z (by rw [c8w]; exact hx) (fun j hj => c8 j (by omega)) (fun j hj => c9 j (by omega))
def jNsq (h : jH) : Prop := ∀ i : Nat, i < jnL h → (jiv h 150 i).toInt ≠ 31
def jNbr (h : jH) : Prop := ∀ i : Nat, i < jnL h → (jiv h 150 i).toInt < 30
/-- what a push leaves: the pile is one more -/
theorem jtu_psh {k : Int} {h h1 h2 h3 : jH} {l l' x y : Int32} (W : jTw k h) (ql : jiv h 125 55 = l) (w1 : h1 = jsi h 150 l.toNatClampNeg x) (w2 : h2 = jsi h1 151 l.toNatClampNeg y) (w3 : h3 = jsi h2 125 55 l') (hl : l'.toInt = l.toInt + 1) (hx : jplx x) (hy : jAo_ x → 0 ≤ y.toInt ∧ y.toInt < 400) : (0 ≤ (jiv h3 125 49).toInt ∧ 0 ≤ (jiv h3 125 55).toInt ∧ (jiv h3 125 49).toInt + jct (jiv h3 150) (jnL h3) + (k - (if x.toInt = 19 ∨ x.toInt = 20 then 0 else 1)) ≤ (jiv h3 125 9).toInt ∧ (jiv h3 125 55).toInt + (k - 1) ≤ (jiv h3 125 9).toInt ∧ ∀ i : Nat, i < jnL h3 → jplx (jiv h3 150 i) ∧ (jAo_ (jiv h3 150 i) → 0 ≤ (jiv h3 151 i).toInt ∧ (jiv h3 151 i).toInt < 400)) ∧ jnL h = l.toNatClampNeg ∧ jnL h3 = l.toNatClampNeg + 1 ∧ jiv h3 150 l.toNatClampNeg = x ∧ jiv h3 151 l.toNatClampNeg = y ∧ (∀ j, j < l.toNatClampNeg → jiv h3 150 j = jiv h 150 j) ∧ (∀ j, j < l.toNatClampNeg → jiv h3 151 j = jiv h 151 j) ∧ jiv h3 148 = jiv h 148 ∧ jiv h3 149 = jiv h 149 ∧ jiv h3 125 49 = jiv h 125 49 ∧ jiv h3 125 14 = jiv h 125 14 := by
  obtain ⟨t1, t2, t3, t4, t5⟩ := W
  rw [ql] at t2 t4
  have el := jcl_of t2
  have el' := jcl_of (d := l') (by omega)
  have nl : jnL h = l.toNatClampNeg := by unfold jnL; rw [ql]
  have f55 : jiv h3 125 55 = l' := jmw w3
  have nl2 : jnL h3 = l.toNatClampNeg + 1 := by unfold jnL; rw [f55]; omega
  have f49 : jiv h3 125 49 = jiv h 125 49 := jmo w3 rfl (jmo w2 rfl (jmo w1 rfl rfl))
  have f9 : jiv h3 125 9 = jiv h 125 9 := jmo w3 rfl (jmo w2 rfl (jmo w1 rfl rfl))
  have f14 : jiv h3 125 14 = jiv h 125 14 := jmo w3 rfl (jmo w2 rfl (jmo w1 rfl rfl))
  have c8 : jiv h3 148 = jiv h 148 := funext fun i => jmo w3 rfl (jmo w2 rfl (jmo w1 rfl rfl))
  have c9 : jiv h3 149 = jiv h 149 := funext fun i => jmo w3 rfl (jmo w2 rfl (jmo w1 rfl rfl))
  have c0 : ∀ j, j ≠ l.toNatClampNeg → jiv h3 150 j = jiv h 150 j := fun j hj => jmo w3 rfl (jmo w2 rfl (jmo w1 (by rw [jbne hj, Bool.and_false]) rfl))
  have c0w : jiv h3 150 l.toNatClampNeg = x := jmo w3 rfl (jmo w2 rfl (jmw w1))
  have c1 : ∀ j, j ≠ l.toNatClampNeg → jiv h3 151 j = jiv h 151 j := fun j hj => jmo w3 rfl (jmo w2 (by rw [jbne hj, Bool.and_false]) (jmo w1 rfl rfl))
  have c1w : jiv h3 151 l.toNatClampNeg = y := jmo w3 rfl (jmw w2)
  have ct : jct (jiv h3 150) l.toNatClampNeg = jct (jiv h 150) l.toNatClampNeg := jct_c (fun j hj => c0 j (by omega))
  rw [nl] at t3 t5
  refine ⟨⟨by rw [f49]; exact t1, by rw [f55]; omega, ?_, by rw [f55, f9]; omega, fun i hi => ?_⟩, nl, nl2, c0w, c1w, fun j hj => c0 j (by omega), fun j hj => c1 j (by omega), c8, c9, f49, f14⟩
  · rw [f49, f9, nl2]
    by_cases z : (x.toInt = 19 ∨ x.toInt = 20)
    · rw [if_pos z, jct_0 (by rw [c0w]; exact z), ct]
      omega
    · rw [if_neg z, jct_1 (by rw [c0w]; exact z), ct]
      omega
  · by_cases z : i = l.toNatClampNeg
    · rw [z, c0w, c1w]; exact ⟨hx, hy⟩
    · rw [c0 i z, c1 i z]; exact t5 i (by omega)
theorem jtu_bin {k : Int} {a : Nat} {h h1 h2 h3 : jH} {l l' x y : Int32} (T : jTu k h a 1) (ql : jiv h 125 55 = l) (w1 : h1 = jsi h 150 l.toNatClampNeg x) (w2 : h2 = jsi h1 151 l.toNatClampNeg y) (w3 : h3 = jsi h2 125 55 l') (hl : l'.toInt = l.toInt + 1) (hx : 6 ≤ x.toInt ∧ x.toInt ≤ 12) (hs : (jiv h 125 14).toInt ≠ 0 ∨ jNsq h ∨ x.toInt ≤ 9) : jTu (k - 1) h3 a 0 := by
  have na : ¬ jAo_ x := by unfold jAo_; omega
  obtain ⟨p1, p2, p3, p4, p5, p6, p7, p8, p9, p10, p11⟩ := jtu_psh T.1 ql w1 w2 w3 hl (Or.inl hx) (fun c => absurd c na)
  rw [if_neg (show ¬ (x.toInt = 19 ∨ x.toInt = 20) from na)] at p1
  refine ⟨p1, ?_⟩
  rw [p11]
  rcases T.2 with z | z
  · exact Or.inl z
  · rcases hs with c | hs
    · exact Or.inl c
    · refine Or.inr ?_
      have nc : jnC h3 = jnC h := by unfold jnC; rw [p10]
      unfold jTz at z ⊢
      rw [p2] at z
      rw [nc, p3, p8, p9]
      refine jXp_bin z (by rw [p4]; exact hx) p6 p7 (fun i hi c => ?_)
      rw [p4]
      rcases hs with hs | hs
      · exact absurd c (hs i (by rw [p2]; exact hi))
      · exact hs
theorem jtu_mark {k : Int} {a : Nat} {h h1 h2 h3 : jH} {l l' x y : Int32} (T : jTu k h a 0) (ql : jiv h 125 55 = l) (w1 : h1 = jsi h 150 l.toNatClampNeg x) (w2 : h2 = jsi h1 151 l.toNatClampNeg y) (w3 : h3 = jsi h2 125 55 l') (hl : l'.toInt = l.toInt + 1) (hx : x.toInt = 18 ∨ x.toInt = 30 ∨ x.toInt = 31) (hs : (jiv h 125 14).toInt ≠ 0 ∨ jNsq h ∨ x.toInt = 31) : jTu (k - 1) h3 a 0 := by
  have na : ¬ jAo_ x := by unfold jAo_; omega
  obtain ⟨p1, p2, p3, p4, p5, p6, p7, p8, p9, p10, p11⟩ := jtu_psh T.1 ql w1 w2 w3 hl (by unfold jplx; omega) (fun c => absurd c na)
  rw [if_neg (show ¬ (x.toInt = 19 ∨ x.toInt = 20) from na)] at p1
  refine ⟨p1, ?_⟩
  rw [p11]
  rcases T.2 with z | z
  · exact Or.inl z
  · rcases hs with c | hs
    · exact Or.inl c
    · refine Or.inr ?_
      have nc : jnC h3 = jnC h := by unfold jnC; rw [p10]
      unfold jTz at z ⊢
      rw [p2] at z
      rw [nc, p3, p8, p9]
      refine jXp_mark z (by rw [p4]; exact hx) p6 p7 (fun i hi c => ?_)
      rw [p4]
      rcases hs with hs | hs
      · exact absurd c (hs i (by rw [p2]; exact hi))
      · exact hs
theorem jtu_ao {k : Int} {a : Nat} {h h1 h2 h3 h4 h5 h6 : jH} {l l' x y c c' : Int32} (T : jTu k h a 1) (ql : jiv h 125 55 = l) (qc : jiv h 125 49 = c) (w1 : h1 = jsi h 150 l.toNatClampNeg x) (w2 : h2 = jsi h1 151 l.toNatClampNeg c) (w3 : h3 = jsi h2 125 55 l') (hl : l'.toInt = l.toInt + 1) (w4 : h4 = jsi h3 148 c.toNatClampNeg y) (w5 : h5 = jsi h4 149 c.toNatClampNeg 0) (w6 : h6 = jsi h5 125 49 c') (hc : c'.toInt = c.toInt + 1) (hx : jAo_ x) (hy : jAo_ y) (c400 : c.toInt < 400) (hs : (jiv h 125 14).toInt ≠ 0 ∨ jNsq h) : jTu (k - 1) h6 a 0 := by
  have t1 := T.1.1
  rw [qc] at t1
  have ec := jcl_of t1
  have ec' := jcl_of (d := c') (by omega)
  obtain ⟨p1, p2, p3, p4, p5, p6, p7, p8, p9, p10, p11⟩ := jtu_psh T.1 ql w1 w2 w3 hl (by unfold jplx; rcases hx with e | e <;> omega) (fun _ => ⟨t1, c400⟩)
  rw [if_pos (show x.toInt = 19 ∨ x.toInt = 20 from hx)] at p1
  obtain ⟨r1, r2, r3, r4, r5⟩ := p1
  rw [p10, qc] at r1 r3
  have nc : jnC h = c.toNatClampNeg := by unfold jnC; rw [qc]
  have f49 : jiv h6 125 49 = c' := jmw w6
  have f55 : jiv h6 125 55 = jiv h3 125 55 := jmo w6 rfl (jmo w5 rfl (jmo w4 rfl rfl))
  have f9 : jiv h6 125 9 = jiv h3 125 9 := jmo w6 rfl (jmo w5 rfl (jmo w4 rfl rfl))
  have f14 : jiv h6 125 14 = jiv h3 125 14 := jmo w6 rfl (jmo w5 rfl (jmo w4 rfl rfl))
  have nl2 : jnL h6 = jnL h3 := by unfold jnL; rw [f55]
  have nc2 : jnC h6 = c.toNatClampNeg + 1 := by unfold jnC; rw [f49]; omega
  have c0 : jiv h6 150 = jiv h3 150 := funext fun i => jmo w6 rfl (jmo w5 rfl (jmo w4 rfl rfl))
  have c1 : jiv h6 151 = jiv h3 151 := funext fun i => jmo w6 rfl (jmo w5 rfl (jmo w4 rfl rfl))
  have c8 : ∀ j, j ≠ c.toNatClampNeg → jiv h6 148 j = jiv h3 148 j := fun j hj => jmo w6 rfl (jmo w5 rfl (jmo w4 (by rw [jbne hj, Bool.and_false]) rfl))
  have c8w : jiv h6 148 c.toNatClampNeg = y := jmo w6 rfl (jmo w5 rfl (jmw w4))
  have c9 : ∀ j, j ≠ c.toNatClampNeg → jiv h6 149 j = jiv h3 149 j := fun j hj => jmo w6 rfl (jmo w5 (by rw [jbne hj, Bool.and_false]) (jmo w4 rfl rfl))
  refine ⟨⟨by rw [f49]; omega, by rw [f55]; exact r2, by rw [f49, f9, nl2, c0]; omega, by rw [f55, f9]; exact r4, by rw [nl2, c0, c1]; exact r5⟩, ?_⟩
  rw [f14, p11]
  rcases T.2 with z | z
  · exact Or.inl z
  · rcases hs with q | hs
    · exact Or.inl q
    · refine Or.inr ?_
      unfold jTz at z ⊢
      rw [p2, nc] at z
      rw [nc2, nl2, p3, c0, c1]
      refine jXp_ao z (by rw [p4]; exact hx) (by rw [c8w]; exact hy) (by rw [p5]; exact ec) (fun j hj => by rw [c8 j (by omega), p8]) (fun j hj => by rw [c9 j (by omega), p9]) p6 p7 (fun i hi => hs i (by rw [p2]; exact hi))
theorem jtu_pop {k : Int} {a : Nat} {h h1 : jH} {l u : Int32} (T : jTu k h a 1) (ql : jiv h 125 55 = l) (hl : 1 ≤ l.toInt) (w : h1 = jsi h 125 55 u) (hu : u.toInt = l.toInt - 1) (hx : 30 ≤ (jiv h 150 u.toNatClampNeg).toInt) : jTu k h1 a 1 := by
  obtain ⟨⟨t1, t2, t3, t4, t5⟩, tz⟩ := T
  have el := jcl_of (d := l) (by omega)
  have eu := jcl_of (d := u) (by omega)
  have nl : jnL h = u.toNatClampNeg + 1 := by unfold jnL; rw [ql]; omega
  have f55 : jiv h1 125 55 = u := jmw w
  have nl2 : jnL h1 = u.toNatClampNeg := by unfold jnL; rw [f55]
  have f49 : jiv h1 125 49 = jiv h 125 49 := jmo w rfl rfl
  have f9 : jiv h1 125 9 = jiv h 125 9 := jmo w rfl rfl
  have f14 : jiv h1 125 14 = jiv h 125 14 := jmo w rfl rfl
  have nc : jnC h1 = jnC h := by unfold jnC; rw [f49]
  have c0 : jiv h1 150 = jiv h 150 := funext fun i => jmo w rfl rfl
  have c1 : jiv h1 151 = jiv h 151 := funext fun i => jmo w rfl rfl
  have c8 : jiv h1 148 = jiv h 148 := funext fun i => jmo w rfl rfl
  have c9 : jiv h1 149 = jiv h 149 := funext fun i => jmo w rfl rfl
  rw [ql] at t4
  rw [nl, jct_1 (by omega)] at t3
  refine ⟨⟨by rw [f49]; exact t1, by rw [f55]; omega, by rw [f49, f9, nl2, c0]; omega, by rw [f55, f9]; omega, fun i hi => by rw [c0, c1]; exact t5 i (by omega)⟩, ?_⟩
  rw [f14]
  refine tz.imp id (fun z => ?_)
  unfold jTz at z ⊢
  rw [nl] at z
  rw [nc, nl2, c0, c1, c8, c9]
  exact jXp_pop z hx
theorem jns_se {k e : Int} {a : Nat} {h0 h : jH} (S : jSe k e a h0 h) (N : jNsq h0) : jNsq h := fun i hi => by rw [S.2.2.1 i trivial]; exact N i (by have := S.2.1; omega)
theorem jns_ir {h : jH} {v : Int32} {a : Nat} {o : Int} (X : jTz h a o) (I : jIr (jiv h 150) v (jnL h)) (hv : v.toInt ≠ 31) : jNsq h := by
  intro i hi c
  rcases I with ⟨_, c2⟩ | ⟨b, b1, b2, b3, b4⟩
  · have := c2 i hi
    omega
  · by_cases z : i < b
    · have := X.2.2.2.2 i b z b1 c
      rw [b2] at this
      omega
    · by_cases y : i = b
      · rw [y, b2] at c
        exact hv c
      · have := b4 i (by omega) hi
        omega
theorem jnb_ir {h : jH} {v : Int32} (I : jIr (jiv h 150) v (jnL h)) (hv : v.toInt = -1) : jNbr h := by
  rcases I with ⟨_, c2⟩ | ⟨b, b1, b2, b3, b4⟩
  · exact c2
  · omega
theorem jsf_top5 {k : Int} {a : Nat} {h0 h : jH} {v : Int32} (S : jSf k 5 a h0 h) (X : jTz h0 a 1) (I : jIr (jiv h0 150) v (jnL h0)) (hv : v.toInt = 31) : 1 ≤ jnL h ∧ jiv h 150 (jnL h - 1) = v := by
  refine jsf_top S (by omega) I (by omega) (fun j hj c ⟨b, hb, e⟩ => ?_)
  have := X.2.2.2.2 b j hb hj (by rw [e]; exact hv)
  have jd := jbd_all (jiv h0 150 j).toInt
  omega
theorem jsf_top1 {k : Int} {a : Nat} {h0 h : jH} {v : Int32} (S : jSf k 1 a h0 h) (W : jTw k h0) (I : jIr (jiv h0 150) v (jnL h0)) (hv : 30 ≤ v.toInt) : 1 ≤ jnL h ∧ jiv h 150 (jnL h - 1) = v := by
  refine jsf_top S (by omega) I hv (fun j hj c _ => ?_)
  have p := (W.2.2.2.2 j hj).1
  have jd := jbd_all (jiv h0 150 j).toInt
  unfold jplx at p
  omega
/-- at the end of a SUM or TEST nothing is left on the pile -/
theorem jsf_end {k : Int} {a : Nat} {h0 h : jH} (S : jSf k 1 a h0 h) (W : jTw k h0) (N : jNbr h0) : jnL h = 0 := by
  rcases S.2 with z | z
  · exact z
  · by_cases y : jnL h = 0
    · exact y
    · have l := S.1.2.1
      have p := (W.2.2.2.2 (jnL h - 1) (by omega)).1
      have n := N (jnL h - 1) (by omega)
      have jd := jbd_all (jiv h0 150 (jnL h - 1)).toInt
      unfold jplx at p
      omega
/-! what a step of the parser leaves of what was -/
def jSa (h0 h : jH) : Prop := jEq 148 (fun _ => True) h h0 ∧ jEq 149 (fun _ => True) h h0 ∧ jEq 150 (fun _ => True) h h0 ∧ jEq 151 (fun _ => True) h h0 ∧ jiv h 125 49 = jiv h0 125 49 ∧ jiv h 125 55 = jiv h0 125 55 ∧ jiv h 125 9 = jiv h0 125 9 ∧ jiv h 125 14 = jiv h0 125 14
theorem jsa_0 {h : jH} : jSa h h := ⟨jeq_0, jeq_0, jeq_0, jeq_0, rfl, rfl, rfl, rfl⟩
theorem jtu_sa {k o : Int} {a : Nat} {h0 h : jH} (T : jTu k h0 a o) (S : jSa h0 h) : jTu k h a o := by
  obtain ⟨s1, s2, s3, s4, s5, s6, s7, s8⟩ := S
  exact jtu_mv T s1 s2 s3 s4 s5 s6 (fun z => by rw [s8]; exact z) rfl s7 (by omega)
/-- bad stays bad; else the code below a is as it was, and the tape has gone on -/
def jFm (d : Int) (a : Nat) (h0 h : jH) : Prop := ((jiv h0 125 14).toInt ≠ 0 → (jiv h 125 14).toInt ≠ 0) ∧ (jiv h0 125 9).toInt ≤ (jiv h 125 9).toInt ∧ ((jiv h 125 14).toInt ≠ 0 ∨ (jEq 148 (fun i => i < a) h h0 ∧ jEq 149 (fun i => i < a) h h0 ∧ (jiv h0 125 9).toInt + d ≤ (jiv h 125 9).toInt))
/-- behind must: k more is given where it is not bad -/
def jMu (a : Nat) (o : Int) (h0 h : jH) : Prop := jTu 0 h a o ∧ ((jiv h0 125 14).toInt ≠ 0 → (jiv h 125 14).toInt ≠ 0) ∧ (jiv h0 125 9).toInt ≤ (jiv h 125 9).toInt ∧ ((jiv h 125 14).toInt ≠ 0 ∨ (jTu 1 h a o ∧ jEq 148 (fun _ => True) h h0 ∧ jEq 149 (fun _ => True) h h0 ∧ jEq 150 (fun _ => True) h h0 ∧ jiv h 125 55 = jiv h0 125 55 ∧ jiv h 125 49 = jiv h0 125 49 ∧ (jiv h0 125 9).toInt + 1 ≤ (jiv h 125 9).toInt))
/-- must that fails -/
theorem jmu_bad {a : Nat} {o : Int} {h0 h : jH} {b : Int32} (T : jTu 0 h0 a o) (e0 : jEq 148 (fun _ => True) h h0) (e1 : jEq 149 (fun _ => True) h h0) (e2 : jEq 150 (fun _ => True) h h0) (e3 : jEq 151 (fun _ => True) h h0) (c : jiv h 125 49 = jiv h0 125 49) (l : jiv h 125 55 = jiv h0 125 55) (f : jiv h 125 9 = jiv h0 125 9) (q : jiv h 125 14 = b) (z : b.toInt ≠ 0) : jMu a o h0 h := by
  have zb : (jiv h 125 14).toInt ≠ 0 := by rw [q]; exact z
  exact ⟨jtu_mv T e0 e1 e2 e3 c l (fun _ => zb) rfl f (by omega), fun _ => zb, by rw [f]; exact Int.le_refl _, Or.inl zb⟩
/-- must that goes on -/
theorem jmu_on {a : Nat} {o : Int} {h0 h : jH} {x y : Int32} (T : jTu 0 h0 a o) (e0 : jEq 148 (fun _ => True) h h0) (e1 : jEq 149 (fun _ => True) h h0) (e2 : jEq 150 (fun _ => True) h h0) (e3 : jEq 151 (fun _ => True) h h0) (c : jiv h 125 49 = jiv h0 125 49) (l : jiv h 125 55 = jiv h0 125 55) (b : jiv h 125 14 = jiv h0 125 14) (f : jiv h0 125 9 = x) (f' : jiv h 125 9 = y) (e : x.toInt + 1 ≤ y.toInt) : jMu a o h0 h :=
  ⟨jtu_mv T e0 e1 e2 e3 c l (fun z => by rw [b]; exact z) f f' (by omega), fun z => by rw [b]; exact z, by rw [f, f']; omega, Or.inr ⟨jtu_mv T e0 e1 e2 e3 c l (fun z => by rw [b]; exact z) f f' (by omega), e0, e1, e2, l, c, by rw [f, f']; exact e⟩⟩
theorem jmu_fm {a : Nat} {o : Int} {h0 h : jH} (M : jMu a o h0 h) : jFm 1 a h0 h := ⟨M.2.1, M.2.2.1, M.2.2.2.imp id (fun z => ⟨fun i _ => z.2.1 i trivial, fun i _ => z.2.2.1 i trivial, z.2.2.2.2.2.2⟩)⟩
/-- a leaf behind must -/
theorem jmu_leaf {a : Nat} {h0 h h1 h2 h3 : jH} {c c' x y b : Int32} (M : jMu a 0 h0 h) (qb : jiv h 125 14 = b) (zb : b.toInt = 0) (qc : jiv h 125 49 = c) (w1 : h1 = jsi h 148 c.toNatClampNeg x) (w2 : h2 = jsi h1 149 c.toNatClampNeg y) (w3 : h3 = jsi h2 125 49 c') (hc : c'.toInt = c.toInt + 1) (hx : (0 ≤ x.toInt ∧ x.toInt < 6) ∨ (13 ≤ x.toInt ∧ x.toInt < 18)) : jTu 0 h3 a 1 ∧ jFm 1 a h0 h3 := by
  obtain ⟨m1, m2, m3, m4⟩ := M
  rcases m4 with z | ⟨t, e0, e1, e2, l, c9, f⟩
  · rw [qb] at z; exact absurd zb z
  · have f9 : jiv h3 125 9 = jiv h 125 9 := jmo w3 rfl (jmo w2 rfl (jmo w1 rfl rfl))
    have f14 : jiv h3 125 14 = jiv h 125 14 := jmo w3 rfl (jmo w2 rfl (jmo w1 rfl rfl))
    refine ⟨jtu_leaf t qc w1 w2 w3 hc hx, fun z => by rw [f14]; exact m2 z, by rw [f9]; exact m3, ?_⟩
    rcases t.2 with z | z
    · rw [qb] at z; exact absurd zb z
    · have t1 := t.1.1
      rw [qc] at t1
      have ec := jcl_of t1
      have ac := z.1
      have nc : jnC h = c.toNatClampNeg := by unfold jnC; rw [qc]
      rw [nc] at ac
      refine Or.inr ⟨fun i hi => ?_, fun i hi => ?_, by rw [f9]; exact f⟩
      · rw [show jiv h3 148 i = jiv h 148 i from jmo w3 rfl (jmo w2 rfl (jmo w1 (by rw [jbne (a := i) (b := c.toNatClampNeg) (by omega), Bool.and_false]) rfl)), e0 i trivial]
      · rw [show jiv h3 149 i = jiv h 149 i from jmo w3 rfl (jmo w2 (by rw [jbne (a := i) (b := c.toNatClampNeg) (by omega), Bool.and_false]) (jmo w1 rfl rfl)), e1 i trivial]
/-- room for it -/
theorem jmu_c {a : Nat} {o : Int} {h0 h : jH} {c b : Int32} (M : jMu a o h0 h) (qb : jiv h 125 14 = b) (zb : b.toInt = 0) (qc : jiv h 125 49 = c) (hf : (jiv h 125 9).toInt ≤ 400) : c.toInt ≤ 399 := by
  rcases M.2.2.2 with z | z
  · rw [qb] at z; exact absurd zb z
  · have t3 := z.1.1.2.2.1
    have n := jct_nn (P := jiv h 150) (jnL h)
    rw [qc] at t3
    omega
theorem jmu_pb {a : Nat} {o o' : Int} {h0 h : jH} {b : Int32} (M : jMu a o h0 h) (qb : jiv h 125 14 = b) (zb : b.toInt ≠ 0) : jTu 0 h a o' ∧ jFm 1 a h0 h := ⟨⟨M.1.1, Or.inl (by rw [qb]; exact zb)⟩, jmu_fm M⟩
theorem jpo_mv {a f : Nat} {o d : Int} {h0 h hx9 : jH} {x : Int32} (P : jTu 0 h a o ∧ jFm d a h0 h) (w : hx9 = jsi h 125 f x) (e : (Nat.beq 49 f || Nat.beq 55 f || Nat.beq 9 f || Nat.beq 14 f) = false) : jTu 0 hx9 a o ∧ jFm d a h0 hx9 := by
  have n : ∀ g, (g = 49 ∨ g = 55 ∨ g = 9 ∨ g = 14) → jiv hx9 125 g = jiv h 125 g := by
    intro g hg
    refine jmo w ?_ rfl
    revert e
    rcases hg with rfl | rfl | rfl | rfl <;> (cases Nat.beq 49 f <;> cases Nat.beq 55 f <;> cases Nat.beq 9 f <;> cases Nat.beq 14 f <;> simp)
  have c : ∀ k, k ≠ 125 → ∀ i, jiv hx9 k i = jiv h k i := fun k hk i => jmo w (by rw [jbne hk]; rfl) rfl
  refine ⟨jtu_mv P.1 (fun i _ => c 148 (by decide) i) (fun i _ => c 149 (by decide) i) (fun i _ => c 150 (by decide) i) (fun i _ => c 151 (by decide) i) (n 49 (by simp)) (n 55 (by simp)) (fun z => by rw [n 14 (by simp)]; exact z) rfl (n 9 (by simp)) (by omega), ?_⟩
  refine ⟨fun z => by rw [n 14 (by simp)]; exact P.2.1 z, by rw [n 9 (by simp)]; exact P.2.2.1, ?_⟩
  rw [n 14 (by simp), n 9 (by simp)]
  exact P.2.2.2.imp id (fun z => ⟨fun i hi => by rw [c 148 (by decide)]; exact z.1 i hi, fun i hi => by rw [c 149 (by decide)]; exact z.2.1 i hi, z.2.2⟩)
