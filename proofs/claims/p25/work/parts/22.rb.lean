/-! the ledger: tables of the class, and the reference's row -/
abbrev jTup := Nat × Nat × Nat × Nat × Nat × Nat × List Nat
/-- table, width, counter, base, width there, most, columns there -/
def jLd : List jTup := [(4, 4, 3, 18740, 4, 20, [3, 1, 2, 0]), (8, 0, 7, 20, 0, 40, []), (10, 4, 11, 48300, 4, 40, [3, 1, 0, 2]), (11, 5, 12, 48460, 5, 100, [4, 3, 1, 0, 2]), (12, 4, 13, 48960, 4, 100, [3, 1, 0, 2]), (14, 4, 15, 49520, 4, 100, [3, 1, 0, 2])]
def jRt (h : jH) (X : Nat) (t : jTup) (r : Nat → Int32) : Prop := jiv h (X + 1 + 2 * t.1) 3 = r t.2.2.1 ∧ (0 ≤ (r t.2.2.1).toInt ∧ (r t.2.2.1).toInt ≤ (t.2.2.2.2.2.1 : Int)) ∧ ∀ i c : Nat, (i : Int) < (r t.2.2.1).toInt → c < t.2.1 → jiv h (X + 2 + 2 * t.1) (t.2.1 * i + c) = r (t.2.2.2.1 + t.2.2.2.2.1 * i + t.2.2.2.2.2.2.getD c 0)
def jRc (h : jH) (X : Nat) (r : Nat → Int32) : Prop := ∀ t ∈ jLd, jRt h X t r
def jLok (t : jTup) : Bool := Nat.blt t.1 16 && (Nat.blt t.2.2.1 t.2.2.2.1 && (Nat.ble (t.2.2.2.1 + t.2.2.2.2.1 * t.2.2.2.2.2.1) 50660 && ((List.range t.2.1).all (fun c => Nat.blt (t.2.2.2.2.2.2.getD c 0) t.2.2.2.2.1) && (Nat.beq t.2.1 0 || decide ((jw8 t.1).toInt = (t.2.1 : Int))))))
theorem ld_ok : jLd.all jLok = true := by decide
theorem ld_f {t : jTup} (ht : t ∈ jLd) : t.1 < 16 ∧ t.2.2.1 < t.2.2.2.1 ∧ t.2.2.2.1 + t.2.2.2.2.1 * t.2.2.2.2.2.1 ≤ 50660 ∧ (∀ c, c < t.2.1 → t.2.2.2.2.2.2.getD c 0 < t.2.2.2.2.1) ∧ (t.2.1 = 0 ∨ (jw8 t.1).toInt = (t.2.1 : Int)) := by
  have q := List.all_eq_true.mp ld_ok t ht
  unfold jLok at q
  simp only [Bool.and_eq_true, Bool.or_eq_true, decide_eq_true_eq, Nat.blt_eq, Nat.ble_eq] at q
  obtain ⟨q1, q2, q3, q4, q5⟩ := q
  exact ⟨q1, q2, q3, fun c hc => Nat.blt_eq.mp (List.all_eq_true.mp q4 c (List.mem_range.mpr hc)), q5.imp Nat.eq_of_beq_eq_true id⟩
/-- a place of a row -/
theorem ld_i {t : jTup} (ht : t ∈ jLd) {i c : Nat} (hi : i < t.2.2.2.2.2.1) (hc : c < t.2.1) : t.2.2.2.1 + t.2.2.2.2.1 * i + t.2.2.2.2.2.2.getD c 0 < t.2.2.2.1 + t.2.2.2.2.1 * t.2.2.2.2.2.1 := by
  have p := (ld_f ht).2.2.2.1 c hc
  have q := Nat.mul_le_mul_left t.2.2.2.2.1 (show i + 1 ≤ t.2.2.2.2.2.1 from hi)
  rw [Nat.mul_succ] at q
  omega
theorem rt_m {h hx9 : jH} {X : Nat} {t : jTup} {r r' : Nat → Int32} (ht : t ∈ jLd) (T : jRt h X t r) (a : jiv hx9 (X + 1 + 2 * t.1) 3 = jiv h (X + 1 + 2 * t.1) 3) (b : ∀ k, jiv hx9 (X + 2 + 2 * t.1) k = jiv h (X + 2 + 2 * t.1) k) (c : r' t.2.2.1 = r t.2.2.1) (d : ∀ j, t.2.2.2.1 ≤ j → j < t.2.2.2.1 + t.2.2.2.2.1 * t.2.2.2.2.2.1 → r' j = r j) : jRt hx9 X t r' := by
  obtain ⟨t1, t2, t3⟩ := T
  refine ⟨by rw [a, c]; exact t1, by rw [c]; exact t2, fun i k hi hk => ?_⟩
  rw [c] at hi
  rw [b, t3 i k hi hk, d _ (by omega) (ld_i ht (by omega) hk)]
/-- a chest that was copied -/
theorem rt_cp {h hx9 : jH} {X Y : Nat} {t : jTup} {r r' : Nat → Int32} (ht : t ∈ jLd) (T : jRt h Y t r) (C : jCpy X Y h hx9) (c : r' t.2.2.1 = r t.2.2.1) (d : ∀ j, t.2.2.2.1 ≤ j → j < t.2.2.2.1 + t.2.2.2.2.1 * t.2.2.2.2.2.1 → r' j = r j) : jRt hx9 X t r' := by
  obtain ⟨t1, t2, t3⟩ := T
  obtain ⟨f1, f2, f3, f4, f5⟩ := ld_f ht
  have e := C t.1 f1
  refine ⟨by rw [e.1, c]; exact t1, by rw [c]; exact t2, fun i k hi hk => ?_⟩
  rw [c] at hi
  rw [e.2 _ ?_, t3 i k hi hk, d _ (by omega) (ld_i ht (by omega) hk)]
  have w : (jw8 t.1).toInt = (t.2.1 : Int) := f5.resolve_left (by omega)
  unfold ju8
  rw [w, t1]
  have b := jcl_of t2.1
  rw [b, ← Int.natCast_mul, Int.toNat_natCast]
  have q := Nat.mul_le_mul_left t.2.1 (show i + 1 ≤ (r t.2.2.1).toNatClampNeg from by omega)
  rw [Nat.mul_succ] at q
  omega
/-- a row more on both sides -/
theorem rt_add {h h1 h2 : jH} {t : jTup} {vx vm : List Int32} (ht : t ∈ jLd) (T : jRt h 32 t (jiv h 126)) (lt : (jiv h 126 t.2.2.1).toInt < (t.2.2.2.2.2.1 : Int)) (P : jTwr (32 + 1 + 2 * t.1) t.2.1 vx h h1) (Q : jMw t.2.2.1 t.2.2.2.1 t.2.2.2.2.1 vm h1 h2) (e6 : jiv h1 126 = jiv h 126) (ea : jiv h2 (32 + 1 + 2 * t.1) = jiv h1 (32 + 1 + 2 * t.1)) (eb : jiv h2 (32 + 1 + 2 * t.1 + 1) = jiv h1 (32 + 1 + 2 * t.1 + 1)) (lx : vx.length = t.2.1) (lm : vm.length = t.2.2.2.2.1) (hv : ∀ c, c < t.2.1 → vx.getD c 0 = vm.getD (t.2.2.2.2.2.2.getD c 0) 0) : jRt h2 32 t (jiv h2 126) := by
  obtain ⟨t1, t2, t3⟩ := T
  obtain ⟨p1, p2⟩ := P
  obtain ⟨q1, q2⟩ := Q
  obtain ⟨f1, f2, f3, f4, f5⟩ := ld_f ht
  rw [e6] at q1 q2
  have b := jcl_of t2.1
  rw [t1] at p1 p2
  refine ⟨?_, by omega, fun i c hi hc => ?_⟩
  · rw [ea]
    exact Int32.toInt_inj.mp (by omega)
  · rw [show 32 + 2 + 2 * t.1 = 32 + 1 + 2 * t.1 + 1 from by omega, eb, p2]
    have pc := f4 c hc
    rw [q2 _ (by omega)]
    by_cases z : i = (jiv h 126 t.2.2.1).toNatClampNeg
    · subst z
      rw [wb_p (by omega), wb_p (by omega)]
      exact hv c hc
    · have hn : i + 1 ≤ (jiv h 126 t.2.2.1).toNatClampNeg := by omega
      have u1 := Nat.mul_le_mul_left t.2.1 hn
      have u2 := Nat.mul_le_mul_left t.2.2.2.2.1 hn
      rw [Nat.mul_succ] at u1 u2
      rw [wb_q (Or.inl (by omega)), wb_q (Or.inl (by omega))]
      have := t3 i c (by omega) hc
      rw [show 32 + 2 + 2 * t.1 = 32 + 1 + 2 * t.1 + 1 from by omega] at this
      exact this
/-- a count of both sides -/
theorem rt_cnt {h h1 h2 : jH} {t : jTup} (T : jRt h 32 t (jiv h 126)) (w0 : t.2.1 = 0) (lt : (jiv h 126 t.2.2.1).toInt < (t.2.2.2.2.2.1 : Int)) (P : (jiv h1 (32 + 1 + 2 * t.1) 3).toInt = (jiv h (32 + 1 + 2 * t.1) 3).toInt + 1) (Q : (jiv h2 126 t.2.2.1).toInt = (jiv h1 126 t.2.2.1).toInt + 1) (e6 : jiv h1 126 = jiv h 126) (ea : jiv h2 (32 + 1 + 2 * t.1) = jiv h1 (32 + 1 + 2 * t.1)) : jRt h2 32 t (jiv h2 126) := by
  obtain ⟨t1, t2, t3⟩ := T
  rw [e6] at Q
  rw [t1] at P
  refine ⟨?_, by omega, fun i c hi hc => by omega⟩
  rw [ea]
  exact Int32.toInt_inj.mp (by omega)
/-- where a footprint leaves a table alone -/
def jkx (F : jFp) (t : jTup) : Bool := !jfo F (33 + 2 * t.1) 3 && F.all (fun q => !Nat.beq q.1 (34 + 2 * t.1))
def jkm (F : jFp) (t : jTup) : Bool := !jfo F 126 t.2.2.1 && F.all (fun q => !Nat.beq q.1 126 || (Nat.ble q.2.2 t.2.2.2.1 || Nat.ble (t.2.2.2.1 + t.2.2.2.2.1 * t.2.2.2.2.2.1) q.2.1))
theorem kx_i {F : jFp} {h hx9 : jH} {a k : Nat} (S : jSm F h hx9) (ha : a < 174) (e : jfo F a k = false) : jiv hx9 a k = jiv h a k := (S.2.2 a k (Or.inl (Nat.blt_eq.mpr ha)) e).1
theorem kx_c {F : jFp} {h hx9 : jH} {a : Nat} (S : jSm F h hx9) (ha : a < 174) (e : (F.all fun q => !Nat.beq q.1 a) = true) : jiv hx9 a = jiv h a := ov_c S (by rw [Bool.and_eq_true]; exact ⟨Nat.blt_eq.mpr ha, e⟩) rfl
theorem km_r {F : jFp} {h hx9 : jH} {a l u j : Nat} (S : jSm F h hx9) (ha : a < 174) (e : (F.all fun q => !Nat.beq q.1 a || (Nat.ble q.2.2 l || Nat.ble u q.2.1)) = true) (j1 : l ≤ j) (j2 : j < u) : jiv hx9 a j = jiv h a j := by
  refine kx_i S ha ?_
  cases c : jfo F a j
  · rfl
  · obtain ⟨q, hq, z⟩ := List.any_eq_true.mp c
    rw [Bool.and_eq_true, Bool.and_eq_true, Nat.ble_eq, Nat.blt_eq] at z
    have y := List.all_eq_true.mp e q hq
    rw [z.1.1] at y
    simp only [Bool.not_true, Bool.false_or, Bool.or_eq_true, Nat.ble_eq] at y
    omega
/-- two calls that leave a table alone -/
theorem rt_k {F1 F2 : jFp} {h h1 h2 : jH} {t : jTup} (ht : t ∈ jLd) (T : jRt h 32 t (jiv h 126)) (S1 : jSm F1 h h1) (S2 : jSm F2 h1 h2) (x1 : jfX F1 = true) (m2 : jfM F2 = true) (c1 : jkx F1 t = true) (c2 : jkm F2 t = true) : jRt h2 32 t (jiv h2 126) := by
  obtain ⟨f1, f2, f3, f4, f5⟩ := ld_f ht
  unfold jkx at c1
  unfold jkm at c2
  rw [Bool.and_eq_true, Bool.not_eq_true'] at c1 c2
  have e6 : ∀ j, jiv h1 126 j = jiv h 126 j := fun j => kx_i S1 (by decide) (fX_no x1 (by omega))
  have g : ∀ a k, a < 125 → jiv h2 a k = jiv h1 a k := fun a k ha => kx_i S2 (by omega) (fM_no m2 ha)
  refine rt_m ht T ?_ (fun k => ?_) ?_ (fun j j1 j2 => ?_)
  · rw [g _ _ (by omega), show 32 + 1 + 2 * t.1 = 33 + 2 * t.1 from by omega]
    exact kx_i S1 (by omega) c1.1
  · rw [g _ _ (by omega), show 32 + 2 + 2 * t.1 = 34 + 2 * t.1 from by omega]
    exact congrFun (kx_c S1 (by omega) c1.2) k
  · exact (kx_i S2 (by decide) c2.1).trans (e6 _)
  · exact (km_r S2 (by decide) c2.2 j1 j2).trans (e6 _)
theorem rc_k {F1 F2 : jFp} {h h1 h2 : jH} (C : jRc h 32 (jiv h 126)) (S1 : jSm F1 h h1) (S2 : jSm F2 h1 h2) (x1 : jfX F1 = true) (m2 : jfM F2 = true) (c : (jLd.all fun t => jkx F1 t && jkm F2 t) = true) : jRc h2 32 (jiv h2 126) := fun t ht => by
  have q := List.all_eq_true.mp c t ht
  rw [Bool.and_eq_true] at q
  exact rt_k ht (C t ht) S1 S2 x1 m2 q.1 q.2
theorem rc_o {F1 F2 : jFp} {h h1 h2 : jH} (t0 : jTup) (C : jRc h 32 (jiv h 126)) (S1 : jSm F1 h h1) (S2 : jSm F2 h1 h2) (x1 : jfX F1 = true) (m2 : jfM F2 = true) (c : (jLd.all fun t => decide (t = t0) || (jkx F1 t && jkm F2 t)) = true) (own : jRt h 32 t0 (jiv h 126) → jRt h2 32 t0 (jiv h2 126)) : jRc h2 32 (jiv h2 126) := fun t ht => by
  have q := List.all_eq_true.mp c t ht
  rw [Bool.or_eq_true, decide_eq_true_eq, Bool.and_eq_true] at q
  rcases q with rfl | q
  · exact own (C t ht)
  · exact rt_k ht (C t ht) S1 S2 x1 m2 q.1 q.2
/-- a refused call leaves the table as it was -/
theorem rt_same {h h1 h2 : jH} {t : jTup} (ht : t ∈ jLd) (T : jRt h 32 t (jiv h 126)) (P : jTe (32 + 1 + 2 * t.1) h h1) (e6 : jiv h1 126 = jiv h 126) (ea : jiv h2 (32 + 1 + 2 * t.1) = jiv h1 (32 + 1 + 2 * t.1)) (eb : jiv h2 (32 + 1 + 2 * t.1 + 1) = jiv h1 (32 + 1 + 2 * t.1 + 1)) (Q : jiv h2 126 t.2.2.1 = jiv h1 126 t.2.2.1) (Q2 : ∀ j, t.2.2.2.1 ≤ j → j < t.2.2.2.1 + t.2.2.2.2.1 * t.2.2.2.2.2.1 → jiv h2 126 j = jiv h1 126 j) : jRt h2 32 t (jiv h2 126) :=
  rt_m ht T (by rw [ea]; exact P.1) (fun k => by rw [show 32 + 2 + 2 * t.1 = 32 + 1 + 2 * t.1 + 1 from by omega, eb, P.2]) (Q.trans (congrFun e6 _)) (fun j j1 j2 => (Q2 j j1 j2).trans (congrFun e6 _))
/-! images -/
def jNj (h : jH) : Prop := ∀ k l a, k < 4 → l < 4 → jrv h 67 k = some a → jrv h 67 l = some a → k = l
def jVi (h : jH) : Prop := (∀ k, k < 4 → ((jrv h 67 k = none ↔ (jiv h 128 k).toInt = 0) ∧ ∀ a, jrv h 67 k = some a → jRc h a (fun i => jiv h 127 (50660 * k + i)))) ∧ jNj h
theorem rc_m {h hx9 : jH} {X : Nat} {r r' : Nat → Int32} (C : jRc h X r) (a : ∀ b, X < b → b ≤ X + 32 → jiv hx9 b = jiv h b) (e : ∀ j, j < 50660 → r' j = r j) : jRc hx9 X r' := fun t ht => by
  obtain ⟨f1, f2, f3, f4, f5⟩ := ld_f ht
  exact rt_m ht (C t ht) (by rw [a _ (by omega) (by omega)]) (fun k => by rw [a _ (by omega) (by omega)]) (e _ (by omega)) (fun j j1 j2 => e j (by omega))
theorem rc_cp {h hx9 : jH} {X Y : Nat} {r r' : Nat → Int32} (C : jRc h Y r) (P : jCpy X Y h hx9) (e : ∀ j, j < 50660 → r' j = r j) : jRc hx9 X r' := fun t ht => by
  obtain ⟨f1, f2, f3, f4, f5⟩ := ld_f ht
  exact rt_cp ht (C t ht) P (e _ (by omega)) (fun j j1 j2 => e j (by omega))
theorem vi_m {h h2 : jH} (V : jVi h) (D : jIx h) (a : ∀ k, jrv h2 67 k = jrv h 67 k) (b : jiv h2 128 = jiv h 128) (c : jiv h2 127 = jiv h 127) (d : ∀ b, 174 ≤ b → b < jnx h → jiv h2 b = jiv h b) : jVi h2 := by
  refine ⟨fun k hk => ?_, fun k l x hk hl => by rw [a, a]; exact V.2 k l x hk hl⟩
  rw [a, b, c]
  refine ⟨(V.1 k hk).1, fun x hx => ?_⟩
  have i := (D k x hk hx).1
  exact rc_m ((V.1 k hk).2 x hx) (fun b b1 b2 => d b (by omega) (by omega)) (fun _ _ => rfl)
theorem fX_hi {F : jFp} {b k : Nat} (e : jfX F = true) (hb : 125 ≤ b) : jfo F b k = false := fX_no e (Or.inr (Or.inl hb))
theorem fM_hi {F : jFp} {b k : Nat} (e : jfM F = true) (hb : b < 125 ∨ 174 ≤ b) : jfo F b k = false := by
  refine jfo_fl (fun q hq z => ?_)
  have := List.all_eq_true.mp e q hq
  rw [Bool.and_eq_true] at this
  have h1 := Nat.ble_eq.mp this.1
  have h2 := Nat.blt_eq.mp this.2
  omega
theorem vi_k {F1 F2 : jFp} {h h1 h2 : jH} (V : jVi h) (D : jIx h) (S1 : jSm F1 h h1) (S2 : jSm F2 h1 h2) (x1 : jfX F1 = true) (m2 : jfM F2 = true) (c : (F2.all fun q => !(Nat.beq q.1 127 || Nat.beq q.1 128)) = true) : jVi h2 := by
  have g : ∀ a k, (a < 174 ∨ a < jnx h) → (a = 67 ∨ 125 ≤ a) → jiv h1 a k = jiv h a k ∧ jrv h1 a k = jrv h a k := fun a k ha hb => by
    have s := S1.2.2 a k (ha.imp_left Nat.blt_eq.mpr) (fX_no x1 (by omega))
    exact ⟨s.1, s.2.2⟩
  have no : ∀ a k, (a = 67 ∨ a = 127 ∨ a = 128 ∨ 174 ≤ a) → jfo F2 a k = false := fun a k ha => by
    by_cases z : a = 127 ∨ a = 128
    · refine jfo_fl (fun q hq y => ?_)
      have u := List.all_eq_true.mp c q hq
      rw [Bool.not_eq_true', Bool.or_eq_false_iff] at u
      rcases z with z | z
      · rw [y, z] at u
        exact absurd u.1 (by decide)
      · rw [y, z] at u
        exact absurd u.2 (by decide)
    · exact fM_hi m2 (by omega)
  have n1 := S1.1
  have g2 : ∀ a k, (a < 174 ∨ a < jnx h) → (a = 67 ∨ a = 127 ∨ a = 128 ∨ 174 ≤ a) → jiv h2 a k = jiv h1 a k ∧ jrv h2 a k = jrv h1 a k := fun a k ha hb => by
    have s := S2.2.2 a k (by rcases ha with z | z; exact Or.inl (Nat.blt_eq.mpr z); exact Or.inr (by omega)) (no a k hb)
    exact ⟨s.1, s.2.2⟩
  exact vi_m V D (fun k => (g2 67 k (by omega) (by omega)).2.trans (g 67 k (by omega) (by omega)).2) (funext fun k => (g2 128 k (by omega) (by omega)).1.trans (g 128 k (by omega) (by omega)).1) (funext fun k => (g2 127 k (by omega) (by omega)).1.trans (g 127 k (by omega) (by omega)).1) (fun b b1 b2 => funext fun k => (g2 b k (by omega) (by omega)).1.trans (g b k (by omega) (by omega)).1)
/-- what image of the class leaves: the image is the chest as it was, the others stay -/
def jIp (x : Int32) (h h2 : jH) : Prop := ∃ a, jrv h2 67 x.toNatClampNeg = some a ∧ jCpy a 32 h h2 ∧ ∀ k b, k < 4 → k ≠ x.toNatClampNeg → jrv h 67 k = some b → b ≠ a ∧ ∀ i, i < 35 → jiv h2 (b + i) = jiv h (b + i)
theorem vi_im {F2 : jFp} {x : Int32} {h h1 h2 : jH} (hx : 0 ≤ x.toInt ∧ x.toInt ≤ 3) (V : jVi h) (C : jRc h 32 (jiv h 126)) (Iq : jIq x h h1) (Ip : jIp x h h1) (S2 : jSm F2 h1 h2) (m2 : jfM F2 = true) (D1 : jIx h1) (M1 : jIm h1 h2 x 50660) (M2 : jiv h2 128 = jov (jiv h1 128) x.toNatClampNeg 1) : jVi h2 := by
  have xe := jcl_of hx.1
  obtain ⟨i1, i2, i3, i4, i5, i6⟩ := Iq
  obtain ⟨a, p1, p2, p3⟩ := Ip
  have e6 : jiv h1 126 = jiv h 126 := funext fun k => i3 126 (by decide) (by decide) (by decide) k
  have e7 : jiv h1 127 = jiv h 127 := funext fun k => i3 127 (by decide) (by decide) (by decide) k
  have e8 : jiv h1 128 = jiv h 128 := funext fun k => i3 128 (by decide) (by decide) (by decide) k
  have r2 : ∀ k, jrv h2 67 k = jrv h1 67 k := fun k => (S2.2.2 67 k (Or.inl rfl) (fM_hi m2 (by decide))).2.2
  have hi2 : ∀ b, 174 ≤ b → b < jnx h1 → jiv h2 b = jiv h1 b := fun b b1 b2 => funext fun k => (S2.2.2 b k (Or.inr b2) (fM_hi m2 (Or.inr b1))).1
  refine ⟨fun k hk => ?_, fun k l y hk hl q1 q2 => ?_⟩
  · rw [r2]
    by_cases z : k = x.toNatClampNeg
    · subst z
      refine ⟨⟨fun q => (by rw [p1] at q; cases q), fun q => (by rw [M2, ov_p rfl] at q; exact absurd q (by decide))⟩, fun b hb => ?_⟩
      rw [p1] at hb
      injection hb with hb
      subst hb
      have d := (D1 _ a hk p1).1
      refine rc_m (r := jiv h 126) (rc_cp (r := jiv h 126) C p2 (fun _ _ => rfl)) (fun b b1 b2 => hi2 b (by omega) (by omega)) (fun j hj => ?_)
      rw [M1.1 j (by omega), e6]
    · rw [M2, ov_q z, e8, i5 67 (by decide) k (Or.inr z)]
      refine ⟨(V.1 k hk).1, fun b hb => ?_⟩
      have d := (D1 k b hk ((i5 67 (by decide) k (Or.inr z)).trans hb)).1
      have o := (p3 k b hk z hb).2
      refine rc_m ((V.1 k hk).2 b hb) (fun c c1 c2 => ?_) (fun j hj => ?_)
      · rw [hi2 c (by omega) (by omega)]
        have := o (c - b) (by omega)
        rw [show b + (c - b) = c from by omega] at this
        exact this
      · show jiv h2 127 (50660 * k + j) = jiv h 127 (50660 * k + j)
        rw [M1.2 _ (by omega), e7]
  · rw [r2] at q1 q2
    by_cases z1 : k = x.toNatClampNeg
    · by_cases z2 : l = x.toNatClampNeg
      · exact z1.trans z2.symm
      · exfalso
        rw [i5 67 (by decide) l (Or.inr z2)] at q2
        rw [z1, p1] at q1
        injection q1 with q1
        exact (p3 l y hl z2 q2).1 q1.symm
    · rw [i5 67 (by decide) k (Or.inr z1)] at q1
      by_cases z2 : l = x.toNatClampNeg
      · exfalso
        rw [z2, p1] at q2
        injection q2 with q2
        exact (p3 k y hk z1 q1).1 q2.symm
      · rw [i5 67 (by decide) l (Or.inr z2)] at q2
        exact V.2 k l y hk hl q1 q2
/-- the chest itself behind image -/
theorem rc_im {F2 : jFp} {x : Int32} {h h1 h2 : jH} (C : jRc h 32 (jiv h 126)) (Iq : jIq x h h1) (S2 : jSm F2 h1 h2) (m2 : jfM F2 = true) (c : (F2.all fun q => !Nat.beq q.1 126) = true) : jRc h2 32 (jiv h2 126) := by
  obtain ⟨i1, i2, i3, i4, i5, i6⟩ := Iq
  refine rc_m C (fun b b1 b2 => funext fun k => ?_) (fun j _ => ?_)
  · exact (kx_i S2 (by omega) (fM_no m2 (by omega))).trans (i3 b (by omega) (by omega) (by omega) k)
  · rw [kx_c S2 (by decide) c]
    exact i3 126 (by decide) (by decide) (by decide) j
/-- the chest behind back -/
theorem rc_bk {F1 : jFp} {x : Int32} {h h1 h2 : jH} (hx : 0 ≤ x.toInt ∧ x.toInt ≤ 3) (V : jVi h) (S1 : jSm F1 h h1) (x1 : jfX F1 = true) (B : jBx x h h1) (M : jBm h1 h2 x 50660) (e : ∀ b, b < 125 → jiv h2 b = jiv h1 b) : jRc h2 32 (jiv h2 126) := by
  have xe := jcl_of hx.1
  obtain ⟨a, q, P⟩ := B
  refine rc_m (r := jiv h2 126) (rc_cp ((V.1 _ (by omega)).2 a q) P (fun j hj => ?_)) (fun b b1 b2 => e b (by omega)) (fun _ _ => rfl)
  rw [M j (by omega)]
  exact kx_i S1 (by decide) (fX_hi x1 (by decide))
/-! all of it -/
def jVr (h : jH) : Prop := (jiv h 68 1).toInt = (jiv h 125 8).toInt ∧ jRc h 32 (jiv h 126) ∧ jiv h 123 = jiv h 173 ∧ jVi h
theorem vt_k {F1 F2 : jFp} {h h1 h2 : jH} (T : (jiv h 68 1).toInt = (jiv h 125 8).toInt) (S1 : jSm F1 h h1) (S2 : jSm F2 h1 h2) (x1 : jfX F1 = true) (m2 : jfM F2 = true) (c1 : jfo F1 68 1 = false) (c2 : jfo F2 125 8 = false) : (jiv h2 68 1).toInt = (jiv h2 125 8).toInt := by
  rw [kx_i S2 (by decide) (fM_no m2 (by decide)), kx_i S1 (by decide) c1, kx_i S2 (by decide) c2, kx_i S1 (by decide) (fX_hi x1 (by decide))]
  exact T
theorem va_k {F1 F2 : jFp} {h h1 h2 : jH} (A : jiv h 123 = jiv h 173) (S1 : jSm F1 h h1) (S2 : jSm F2 h1 h2) (x1 : jfX F1 = true) (m2 : jfM F2 = true) (c1 : (F1.all fun q => !Nat.beq q.1 123) = true) (c2 : (F2.all fun q => !Nat.beq q.1 173) = true) : jiv h2 123 = jiv h2 173 := by
  have e1 : jiv h2 123 = jiv h1 123 := funext fun k => kx_i S2 (by decide) (fM_no m2 (by decide))
  have e2 : jiv h1 173 = jiv h 173 := funext fun k => kx_i S1 (by decide) (fX_hi x1 (by decide))
  rw [e1, kx_c S1 (by decide) c1, kx_c S2 (by decide) c2, e2]
  exact A
/-- the cells of one side where the other side calls -/
theorem mx_i {F : jFp} {h hx9 : jH} {a : Nat} (S : jSm F h hx9) (e : jfX F = true) (ha : 125 ≤ a ∧ a < 174) : jiv hx9 a = jiv h a := funext fun k => kx_i S ha.2 (fX_hi e ha.1)
theorem mm_i {F : jFp} {h hx9 : jH} {a : Nat} (S : jSm F h hx9) (e : jfM F = true) (ha : a < 125) : jiv hx9 a = jiv h a := funext fun k => kx_i S (by omega) (fM_no e ha)
theorem vi_e {F1 F2 : jFp} {h h1 h2 : jH} (V : jVi h) (D : jIx h) (S1 : jSm F1 h h1) (S2 : jSm F2 h1 h2) (x1 : jfX F1 = true) (m2 : jfM F2 = true) (e7 : jiv h2 127 = jiv h1 127) (e8 : jiv h2 128 = jiv h1 128) : jVi h2 := by
  have n1 := S1.1
  refine vi_m V D (fun k => ?_) (e8.trans (mx_i S1 x1 (by decide))) (e7.trans (mx_i S1 x1 (by decide))) (fun b b1 b2 => funext fun k => ?_)
  · exact (S2.2.2 67 k (Or.inl rfl) (fM_no m2 (by decide))).2.2.trans (S1.2.2 67 k (Or.inl rfl) (fX_no x1 (by decide))).2.2
  · exact (S2.2.2 b k (Or.inr (by omega)) (fM_hi m2 (Or.inr b1))).1.trans (S1.2.2 b k (Or.inr b2) (fX_hi x1 (by omega))).1
theorem vt_q {F2 : jFp} {x : Int32} {h h1 h2 : jH} (T : (jiv h 68 1).toInt = (jiv h 125 8).toInt) (Iq : jIq x h h1) (S2 : jSm F2 h1 h2) (m2 : jfM F2 = true) (c2 : jfo F2 125 8 = false) : (jiv h2 68 1).toInt = (jiv h2 125 8).toInt := by
  rw [kx_i S2 (by decide) (fM_no m2 (by decide)), kx_i S2 (by decide) c2, Iq.2.2.1 68 (by decide) (by decide) (by decide), Iq.2.2.1 125 (by decide) (by decide) (by decide)]
  exact T
theorem va_q {F2 : jFp} {x : Int32} {h h1 h2 : jH} (A : jiv h 123 = jiv h 173) (Iq : jIq x h h1) (S2 : jSm F2 h1 h2) (m2 : jfM F2 = true) (c2 : (F2.all fun q => !Nat.beq q.1 173) = true) : jiv h2 123 = jiv h2 173 := by
  rw [mm_i S2 m2 (by decide), kx_c S2 (by decide) c2, funext (Iq.2.2.1 123 (by decide) (by decide) (by decide)), funext (Iq.2.2.1 173 (by decide) (by decide) (by decide))]
  exact A
/-- two calls that leave all of it alone -/
def jck (F1 F2 : jFp) : Bool := !jfo F1 68 1 && (!jfo F2 125 8 && ((jLd.all fun t => jkx F1 t && jkm F2 t) && ((F1.all fun q => !Nat.beq q.1 123) && ((F2.all fun q => !Nat.beq q.1 173) && (F2.all fun q => !(Nat.beq q.1 127 || Nat.beq q.1 128))))))
theorem vr_k {F1 F2 : jFp} {h h1 h2 : jH} (V : jVr h) (D : jIx h) (S1 : jSm F1 h h1) (S2 : jSm F2 h1 h2) (x1 : jfX F1 = true) (m2 : jfM F2 = true) (c : jck F1 F2 = true) : jVr h2 := by
  unfold jck at c
  simp only [Bool.and_eq_true, Bool.not_eq_true'] at c
  obtain ⟨c1, c2, c3, c4, c5, c6⟩ := c
  exact ⟨vt_k V.1 S1 S2 x1 m2 c1 c2, rc_k V.2.1 S1 S2 x1 m2 (by simpa only [Bool.and_eq_true] using c3), va_k V.2.2.1 S1 S2 x1 m2 (by simpa only [Bool.not_eq_true'] using c4) (by simpa only [Bool.not_eq_true'] using c5), vi_k V.2.2.2 D S1 S2 x1 m2 (by simpa only [Bool.not_eq_true'] using c6)⟩
theorem j4 {P : Nat → Prop} (h : P 0 ∧ P 1 ∧ P 2 ∧ P 3) : ∀ c, c < 4 → P c := by
  intro c hc
  obtain ⟨h0, h1, h2, h3⟩ := h
  have : c = 0 ∨ c = 1 ∨ c = 2 ∨ c = 3 := by omega
  rcases this with rfl | rfl | rfl | rfl <;> assumption
theorem j5 {P : Nat → Prop} (h : P 0 ∧ P 1 ∧ P 2 ∧ P 3 ∧ P 4) : ∀ c, c < 5 → P c := by
  intro c hc
  obtain ⟨h0, h1, h2, h3, h4⟩ := h
  have : c = 0 ∨ c = 1 ∨ c = 2 ∨ c = 3 ∨ c = 4 := by omega
  rcases this with rfl | rfl | rfl | rfl | rfl <;> assumption
/-- the fresh pair -/
def jLv (L : Nat) (xs : Nat → Int32) (h : jH) : Prop := jLi L xs h ∧ jVr h
theorem rt_0 {h : jH} {t : jTup} (e : jiv h (32 + 1 + 2 * t.1) 3 = 0) (z : ∀ k, jiv h 126 k = 0) : jRt h 32 t (jiv h 126) := by
  have t0 : (0 : Int32).toInt = 0 := by decide
  refine ⟨by rw [e, z], by rw [z, t0]; omega, fun i c hi hc => ?_⟩
  rw [z, t0] at hi
  omega
theorem vr_0 {h : jH} (F : jFr h) : jVr h := by
  have z6 : ∀ k, jiv h 126 k = 0 := fun k => (F.2.2.2.1 126 rfl k).1
  have n7 : ∀ k, jrv h 67 k = none := fun k => F.2.2.2.2.2.1 67 rfl k
  refine ⟨?_, ?_, ?_, fun k hk => ⟨⟨fun _ => ?_, fun _ => n7 k⟩, fun a q => ?_⟩, fun k l a hk hl q => ?_⟩
  · rw [(F.2.2.1 8705 0 rfl : jiv h 68 1 = 0), (F.2.2.1 16008 0 rfl : jiv h 125 8 = 0)]
  · exact List.forall_mem_cons.mpr ⟨rt_0 (F.2.2.1 5251 0 rfl : jiv h 41 3 = 0) z6, List.forall_mem_cons.mpr ⟨rt_0 (F.2.2.1 6275 0 rfl : jiv h 49 3 = 0) z6, List.forall_mem_cons.mpr ⟨rt_0 (F.2.2.1 6787 0 rfl : jiv h 53 3 = 0) z6, List.forall_mem_cons.mpr ⟨rt_0 (F.2.2.1 7043 0 rfl : jiv h 55 3 = 0) z6, List.forall_mem_cons.mpr ⟨rt_0 (F.2.2.1 7299 0 rfl : jiv h 57 3 = 0) z6, List.forall_mem_cons.mpr ⟨rt_0 (F.2.2.1 7811 0 rfl : jiv h 61 3 = 0) z6, fun _ q => absurd q List.not_mem_nil⟩⟩⟩⟩⟩⟩
  · exact funext fun k => ((F.2.2.2.1 123 rfl k).1).trans ((F.2.2.2.1 173 rfl k).1).symm
  · rw [(F.2.2.2.1 128 rfl k).1]
    decide
  · rw [n7] at q
    cases q
  · rw [n7] at q
    cases q
