/-! text: what next says of worth; must, number, choice, readPieces, readClause -/
def jWd (h : jH) : Prop := (jiv h 125 11).toInt = 2 → 0 ≤ (jlv h 125 12).toInt
theorem z_getLQ {M : jM} {d K S pc : Nat} {ls : jL} {st : List Value} {h : jH} {k n : Nat} {Q : Option Value → jH → Prop} {Sg : List jSg} {Dy : jH → Prop} {a N idx : Nat} (c f : Nat) (hat : jat M pc = some (.getfield idx, 3)) (hF : jF M idx c f) (hk : jkd (jft c f) = 0) (J : jJ Sg Dy h) (hs : (jtO ++ jtS).lookup a = some (c, N)) (kk : ∀ v : Int64, jlv h a f = v → jX M d K S (pc + 3) ls (.long v :: st) h k n Q) : jX M d K S pc ls (.ref a :: st) h k n Q :=
  x_getL c f hat hF hk (congrArg Prod.fst (J.1.1 a _ hs)) (kk _ rfl)
theorem z_l2iW {M : jM} {d K S pc : Nat} {ls : jL} {st : List Value} {h : jH} {k n : Nat} {Q : Option Value → jH → Prop} {p : Int64} (hat : jat M pc = some (.l2i, 1)) (kk : ∀ v : Int32, (-2147483648 ≤ p.toInt ∧ p.toInt ≤ 2147483647 → v.toInt = p.toInt) → jX M d K S (pc + 1) ls (.int v :: st) h k n Q) : jX M d K S pc ls (.long p :: st) h k n Q := by
  refine x_l2i hat (kk _ (fun hb => ?_))
  rw [Int64.toInt_toInt32]
  exact Int.bmod_eq_of_le (by omega) (by omega)
theorem jlw {h hx9 : jH} {a k : Nat} {x : Int64} (w : hx9 = jsl h a k x) : jlv hx9 a k = x := by rw [w]; exact lv_eq
theorem jlvi {h hx9 : jH} {a k b j : Nat} {x : Int32} (w : hx9 = jsi h a k x) : jlv hx9 b j = jlv h b j := by rw [w]; exact lv_si rfl
theorem jwd_0 {h : jH} (e : jlv h 125 12 = 0) : jWd h := fun _ => by rw [e]; decide
theorem jwd_n {h : jH} {x : Int32} (q : jiv h 125 11 = x) (n : x.toInt ≠ 2) : jWd h := fun c => by rw [q] at c; exact absurd c n
theorem jwd_p {h : jH} {x : Int64} (e : jlv h 125 12 = x) (hx : 0 ≤ x.toInt) : jWd h := fun _ => by rw [e]; exact hx
theorem jwd_u {h : jH} {x : Int64} {s : Int32} (D : jWd h) (e : jlv h 125 12 = x) (q : jiv h 125 11 = s) (hs : s.toInt = 2) : 0 ≤ x.toInt := by rw [← e]; exact D (by rw [q]; exact hs)
/-- bad stays, the tape goes on, what is read has its worth -/
def jMo (h0 h : jH) : Prop := ((jiv h0 125 14).toInt ≠ 0 → (jiv h 125 14).toInt ≠ 0) ∧ (jiv h0 125 9).toInt ≤ (jiv h 125 9).toInt ∧ ((jiv h 125 14).toInt ≠ 0 ∨ jWd h)
def jMs (x : Int32) (h0 h : jH) : Prop := jMo h0 h ∧ ((jiv h 125 14).toInt ≠ 0 ∨ x.toInt ≠ 0)
def jM24 (x : Int32) (h0 h : jH) : Prop := ((jiv h0 125 14).toInt ≠ 0 → (jiv h 125 14).toInt ≠ 0) ∧ jiv h 125 9 = jiv h0 125 9 ∧ ((jiv h 125 14).toInt ≠ 0 ∨ x.toInt ≠ 0)
theorem ms_b {x b : Int32} {h0 h : jH} (C : jM24 x h0 h) (q : jiv h 125 14 = b) (z : b.toInt ≠ 0) : jMs x h0 h := ⟨⟨C.1, by rw [C.2.1]; exact Int.le_refl _, Or.inl (by rw [q]; exact z)⟩, Or.inl (by rw [q]; exact z)⟩
theorem ms_n {x f f' : Int32} {h0 h hx9 : jH} (C : jM24 x h0 h) (D : jWd hx9) (qf : jiv h 125 9 = f) (qf' : jiv hx9 125 9 = f') (hf : f.toInt ≤ f'.toInt) (bb : jiv hx9 125 14 = jiv h 125 14) : jMs x h0 hx9 :=
  ⟨⟨fun c => by rw [bb]; exact C.1 c, by rw [← C.2.1, qf, qf']; exact hf, Or.inr D⟩, by rw [bb]; exact C.2.2⟩
/-- behind must: what omega can take -/
theorem ms_k {x b : Int32} {h0 h : jH} (P : jMs x h0 h) (q : jiv h 125 14 = b) : b.toInt ≠ 0 ∨ x.toInt ≠ 0 := by have := P.2; rw [q] at this; exact this
theorem mo_k {h0 h hx9 : jH} (K : jiv h 125 9 = jiv h0 125 9 ∧ jiv h 125 14 = jiv h0 125 14) (P : jMo h hx9) : jMo h0 hx9 := ⟨fun z => P.1 (by rw [K.2]; exact z), by rw [← K.1]; exact P.2.1, P.2.2⟩
theorem nm_1 {h : jH} {x1 x2 : Int64} {v s : Int32} {b : Int} (W : (jiv h 125 14).toInt ≠ 0 ∨ jWd h) (q1 : jlv h 125 12 = x1) (ev : -2147483648 ≤ x1.toInt ∧ x1.toInt ≤ 2147483647 → v.toInt = x1.toInt) (q2 : jlv h 125 12 = x2) (qs : jiv h 125 11 = s) (hs : s.toInt = 2) (hx : x2.toInt ≤ b) (hb : b ≤ 399) : (jiv h 125 14).toInt ≠ 0 ∨ (0 ≤ v.toInt ∧ v.toInt ≤ b) := by
  refine W.imp id (fun d => ?_)
  have a := jwd_u d q1 qs hs
  have e : x1 = x2 := q1.symm.trans q2
  subst e
  have := ev ⟨by omega, by omega⟩
  omega
theorem nm_2 {x : Int32} {h hx9 : jH} {R : Prop} (P : jMs x h hx9) (C : (jiv h 125 14).toInt ≠ 0 ∨ R) : (jiv hx9 125 14).toInt ≠ 0 ∨ R := C.imp P.1.1 id
theorem nm_3 {h hx9 : jH} {R : Prop} (P : jMs 0 h hx9) : (jiv hx9 125 14).toInt ≠ 0 ∨ R := Or.inl (P.2.resolve_right (fun q => q (by decide)))
/-! readPieces -/
def jP26 (x : Int32) (a : Nat) (h0 h : jH) : Prop := jRe a h0 h ∧ (jiv h 147 x.toNatClampNeg).toInt = (a : Int) ∧ jEq 147 (fun i => i ≠ x.toNatClampNeg) h h0
theorem ps_0 {x c : Int32} {a : Nat} {h0 h : jH} (hA : a = jnC h0) (hC : (jiv h0 125 49).toInt ≤ (jiv h0 125 9).toInt) (hn : 0 ≤ (jiv h0 125 49).toInt ∧ (jiv h0 125 49).toInt ≤ 400) (q : jiv h0 125 49 = c) (w : h = jsi h0 147 x.toNatClampNeg c) : jP26 x a h0 h := by
  have f49 : jiv h 125 49 = jiv h0 125 49 := jmo w rfl rfl
  have f9 : jiv h 125 9 = jiv h0 125 9 := jmo w rfl rfl
  have f14 : jiv h 125 14 = jiv h0 125 14 := jmo w rfl rfl
  have nc : jnC h = a := by rw [hA]; unfold jnC; rw [f49]
  have e : (jiv h0 125 49).toInt = (jnC h0 : Int) := jcl_of hn.1
  refine ⟨⟨⟨fun z => by rw [f14]; exact z, by rw [f9]; exact Int.le_refl _, Or.inr ⟨fun i _ => jmo w rfl rfl, fun i _ => jmo w rfl rfl, by rw [f9]; omega⟩⟩, by rw [f49, f9]; exact hC, Or.inr ?_⟩, ?_, jeq_s w (fun z => z rfl) jeq_0⟩
  · rw [nc]
    exact jPn_nil (by rw [hA]; omega)
  · rw [jmw w, ← q, e, hA]
theorem ps_a {x c : Int32} {a : Nat} {h0 h : jH} (hA : a = jnC h0) (w : h = jsi h0 147 x.toNatClampNeg c) : a = jnC h := by rw [hA]; unfold jnC; rw [show jiv h 125 49 = jiv h0 125 49 from jmo w rfl rfl]
theorem ps_c {x c : Int32} {h0 h : jH} (hC : (jiv h0 125 49).toInt ≤ (jiv h0 125 9).toInt) (w : h = jsi h0 147 x.toNatClampNeg c) : (jiv h 125 49).toInt ≤ (jiv h 125 9).toInt := by rw [show jiv h 125 49 = jiv h0 125 49 from jmo w rfl rfl, show jiv h 125 9 = jiv h0 125 9 from jmo w rfl rfl]; exact hC
theorem ps_1 {x : Int32} {a : Nat} {h0 h1 h2 : jH} (B : jP26 x a h0 h1) (R : jRe a h1 h2) (e : jEq 147 (fun _ => True) h2 h1) : jP26 x a h0 h2 := ⟨⟨jfm_tr B.1.1 R.1 (by omega), R.2⟩, by rw [e _ trivial]; exact B.2.1, fun i hi => (e i trivial).trans (B.2.2 i hi)⟩
def jPs (x : Int32) (a : Nat) (h0 h : jH) : Prop := jRe a h0 h ∧ a = jnC h0 ∧ (jiv h 147 x.toNatClampNeg).toInt = (a : Int) ∧ (jiv h 147 (x.toNatClampNeg + 1)).toInt = (jnC h : Int) ∧ jEq 147 (fun i => i ≠ x.toNatClampNeg ∧ i ≠ x.toNatClampNeg + 1) h h0
theorem ps_2 {x y c : Int32} {a : Nat} {h0 h hx9 : jH} (hA : a = jnC h0) (B : jP26 x a h0 h) (hx : 0 ≤ x.toInt) (hy : y.toInt = x.toInt + 1) (q : jiv h 125 49 = c) (hc : 0 ≤ c.toInt) (w : hx9 = jsi h 147 y.toNatClampNeg c) : jPs x a h0 hx9 := by
  have ey : y.toNatClampNeg = x.toNatClampNeg + 1 := jcl_s ⟨hy, hx⟩
  have ec := jcl_of hc
  have f49 : jiv hx9 125 49 = jiv h 125 49 := jmo w rfl rfl
  have f9 : jiv hx9 125 9 = jiv h 125 9 := jmo w rfl rfl
  have f14 : jiv hx9 125 14 = jiv h 125 14 := jmo w rfl rfl
  have nc : jnC hx9 = jnC h := by unfold jnC; rw [f49]
  have c8 : jiv hx9 148 = jiv h 148 := funext fun i => jmo w rfl rfl
  have c9 : jiv hx9 149 = jiv h 149 := funext fun i => jmo w rfl rfl
  obtain ⟨⟨⟨r1, r2, r3⟩, r4, r5⟩, b2, b3⟩ := B
  refine ⟨⟨⟨fun z => by rw [f14]; exact r1 z, by rw [f9]; exact r2, ?_⟩, by rw [f49, f9]; exact r4, by rw [f14, c8, c9, nc]; exact r5⟩, hA, ?_, ?_, fun i hi => ?_⟩
  · rw [f14, f9]
    exact r3.imp id (fun z => ⟨fun i hi => by rw [c8]; exact z.1 i hi, fun i hi => by rw [c9]; exact z.2.1 i hi, z.2.2⟩)
  · rw [jmo w (show (Nat.beq 147 147 && Nat.beq x.toNatClampNeg y.toNatClampNeg) = false from by rw [jbne (a := x.toNatClampNeg) (b := y.toNatClampNeg) (by omega), Bool.and_false]) rfl]
    exact b2
  · rw [← ey, jmw w, nc]
    unfold jnC
    rw [q]
    exact ec
  · rw [jmo w (show (Nat.beq 147 147 && Nat.beq i y.toNatClampNeg) = false from by rw [jbne (a := i) (b := y.toNatClampNeg) (by omega), Bool.and_false]) rfl]
    exact b3 i hi.1
/-! readClause -/
def jnK (h : jH) : Nat := (jiv h 125 47).toNatClampNeg
def jCg (f O A : Nat → Int32) (c C : Nat) : Prop := ((f c).toInt = 0 → 0 ≤ (f (c + 2)).toInt ∧ (f (c + 2)).toInt ≤ 29 ∧ 0 ≤ (f (c + 3)).toInt ∧ (f (c + 3)).toInt ≤ 11) ∧ (0 ≤ (f (c + 2)).toInt ∧ (f (c + 2)).toInt ≤ 399) ∧
  ∀ e, e = 4 ∨ e = 6 ∨ e = 8 → ∃ a b : Nat, (f (c + e)).toInt = (a : Int) ∧ (f (c + e + 1)).toInt = (b : Int) ∧ jPn_ O A a b ∧ b ≤ C
theorem jcg_c {f f' O O' A A' : Nat → Int32} {c C C' : Nat} (X : jCg f O A c C) (e : ∀ j, j < 10 → f' (c + j) = f (c + j)) (eo : ∀ j, j < C → O' j = O j) (ea : ∀ j, j < C → A' j = A j) (hC : C ≤ C') : jCg f' O' A' c C' := by
  obtain ⟨x1, x2, x3⟩ := X
  have e0 : f' c = f c := e 0 (by omega)
  refine ⟨by rw [e0, e 2 (by omega), e 3 (by omega)]; exact x1, by rw [e 2 (by omega)]; exact x2, fun k hk => ?_⟩
  obtain ⟨a, b, p1, p2, p3, p4⟩ := x3 k hk
  exact ⟨a, b, by rw [e k (by omega)]; exact p1, by rw [Nat.add_assoc, e (k + 1) (by omega), ← Nat.add_assoc]; exact p2, jPn_c p3 (fun j hj => eo j (by omega)) (fun j hj => ea j (by omega)), by omega⟩
/-- the tape has gone on; bad, or the first n clauses can be gone through -/
def jRk (n : Nat) (h0 h : jH) : Prop := (jiv h0 125 9).toInt ≤ (jiv h 125 9).toInt ∧ (jiv h 125 49).toInt ≤ (jiv h 125 9).toInt ∧ ((jiv h 125 14).toInt ≠ 0 ∨ ∀ k, k < n → jCg (jiv h 147) (jiv h 148) (jiv h 149) (10 * k) (jnC h))
/-- nothing of clauses (where P) and code changes -/
def jKe (P : Nat → Prop) (h hx9 : jH) : Prop := jEq 147 P hx9 h ∧ jEq 148 (fun _ => True) hx9 h ∧ jEq 149 (fun _ => True) hx9 h ∧ jiv hx9 125 47 = jiv h 125 47 ∧ jiv hx9 125 49 = jiv h 125 49 ∧ (jiv h 125 9).toInt ≤ (jiv hx9 125 9).toInt ∧ ((jiv h 125 14).toInt ≠ 0 → (jiv hx9 125 14).toInt ≠ 0)
theorem ke_0 {P : Nat → Prop} {h : jH} : jKe P h h := ⟨jeq_0, jeq_0, jeq_0, rfl, rfl, Int.le_refl _, fun z => z⟩
theorem ke_t {P : Nat → Prop} {h h1 h2 : jH} (E : jKe P h h1) (G : jKe P h1 h2) : jKe P h h2 := by
  obtain ⟨e1, e2, e3, e4, e5, e6, e7⟩ := E
  obtain ⟨g1, g2, g3, g4, g5, g6, g7⟩ := G
  exact ⟨jeq_t g1 e1, jeq_t g2 e2, jeq_t g3 e3, g4.trans e4, g5.trans e5, Int.le_trans e6 g6, fun z => g7 (e7 z)⟩
theorem ke_p {P : Nat → Prop} {h h1 : jH} (E : jKe (fun _ => True) h h1) : jKe P h h1 := ⟨fun i _ => E.1 i trivial, E.2⟩
theorem ke_w {P : Nat → Prop} {h hx9 : jH} {k : Nat} {x : Int32} (w : hx9 = jsi h 147 k x) (hk : ¬ P k) : jKe P h hx9 := by
  have f9 : jiv hx9 125 9 = jiv h 125 9 := jmo w rfl rfl
  have f14 : jiv hx9 125 14 = jiv h 125 14 := jmo w rfl rfl
  exact ⟨jeq_s w hk jeq_0, jeq_o w rfl jeq_0, jeq_o w rfl jeq_0, jmo w rfl rfl, jmo w rfl rfl, by rw [f9]; exact Int.le_refl _, fun z => by rw [f14]; exact z⟩
theorem ke_c {F : jFp} {h hx9 : jH} (S : jSm F h hx9) (e7 : (Nat.blt 147 174 && (F.all fun q => !Nat.beq q.1 147)) = true) (e8 : (Nat.blt 148 174 && (F.all fun q => !Nat.beq q.1 148)) = true) (e9 : (Nat.blt 149 174 && (F.all fun q => !Nat.beq q.1 149)) = true) (k7 : (Nat.blt 125 174 && !jfo F 125 47) = true) (k9 : (Nat.blt 125 174 && !jfo F 125 49) = true) (P : jMo h hx9) : jKe (fun _ => True) h hx9 :=
  ⟨jeq_c S e7 jeq_0, jeq_c S e8 jeq_0, jeq_c S e9 jeq_0, jmc S k7 rfl, jmc S k9 rfl, P.2.1, P.1⟩
theorem ke_f {F : jFp} {h hx9 : jH} {f f' : Int32} (S : jSm F h hx9) (e7 : (Nat.blt 147 174 && (F.all fun q => !Nat.beq q.1 147)) = true) (e8 : (Nat.blt 148 174 && (F.all fun q => !Nat.beq q.1 148)) = true) (e9 : (Nat.blt 149 174 && (F.all fun q => !Nat.beq q.1 149)) = true) (k7 : (Nat.blt 125 174 && !jfo F 125 47) = true) (k9 : (Nat.blt 125 174 && !jfo F 125 49) = true) (kb : (Nat.blt 125 174 && !jfo F 125 14) = true) (qf : jiv h 125 9 = f) (qf' : jiv hx9 125 9 = f') (hf : f.toInt ≤ f'.toInt) : jKe (fun _ => True) h hx9 :=
  ⟨jeq_c S e7 jeq_0, jeq_c S e8 jeq_0, jeq_c S e9 jeq_0, jmc S k7 rfl, jmc S k9 rfl, by rw [qf, qf']; exact hf, fun z => by rw [show jiv hx9 125 14 = jiv h 125 14 from jmc S kb rfl]; exact z⟩
theorem jrk_ke {n : Nat} {h0 h hx9 : jH} (K : jRk n h0 h) (E : jKe (fun i => i < 10 * n) h hx9) : jRk n h0 hx9 := by
  obtain ⟨e1, e2, e3, e4, e5, e6, e7⟩ := E
  have nc : jnC hx9 = jnC h := by unfold jnC; rw [e5]
  refine ⟨Int.le_trans K.1 e6, by rw [e5]; exact Int.le_trans K.2.1 e6, ?_⟩
  rcases K.2.2 with z | z
  · exact Or.inl (e7 z)
  · exact Or.inr (fun k hk => jcg_c (z k hk) (fun j hj => e1 _ (by omega)) (fun j _ => e2 j trivial) (fun j _ => e3 j trivial) (by omega))
theorem rk_h {n : Nat} {h0 h : jH} (K : jRk n h0 h) : jRk n h h := ⟨Int.le_refl _, K.2⟩
theorem rk_f {n : Nat} {h0 h : jH} {f f' : Int32} (K : jRk n h0 h) (qf : jiv h0 125 9 = f) (qf' : jiv h 125 9 = f') : f.toInt ≤ f'.toInt := by have := K.1; rw [qf, qf'] at this; exact this
theorem rk_0 {h : jH} {f : Int32} (q7 : jiv h 125 47 = 0) (q9 : jiv h 125 49 = 0) (qf : jiv h 125 9 = f) (hf : 0 ≤ f.toInt) : jRk (jnK h) h h := by
  have n : jnK h = 0 := by unfold jnK; rw [q7]; decide
  rw [n]
  exact ⟨Int.le_refl _, by rw [q9, qf, show (0 : Int32).toInt = 0 from by decide]; exact hf, Or.inr (fun k hk => by omega)⟩
def jZb (l2 : Int32) (h : jH) : Prop := l2.toInt = 10 * (jiv h 125 47).toInt ∧ 0 ≤ (jiv h 125 47).toInt ∧ (jiv h 125 47).toInt ≤ 11
theorem zb_n {l2 : Int32} {h : jH} (Z : jZb l2 h) : l2.toNatClampNeg = 10 * jnK h := by
  have a := jcl_of Z.2.1
  have b := jcl_of (d := l2) (by have := Z.1; have := Z.2.1; omega)
  have := Z.1
  unfold jnK
  omega
theorem zb_m {l2 : Int32} {h hx9 : jH} (Z : jZb l2 h) (e : jiv hx9 125 47 = jiv h 125 47) : jZb l2 hx9 := by unfold jZb; rw [e]; exact Z
theorem nk_m {h hx9 : jH} (e : jiv hx9 125 47 = jiv h 125 47) : jnK hx9 = jnK h := by unfold jnK; rw [e]
def jZz (h0 : jH) (l2 l3 : Int32) (h : jH) : Prop := jRk (jnK h) h0 h ∧ jZb l2 h ∧ ((jiv h 125 14).toInt ≠ 0 ∨ jWd h) ∧ ∀ j : Nat, j < l3.toNatClampNeg → jiv h 147 (l2.toNatClampNeg + j) = 0
def jZy (h0 : jH) (l2 : Int32) (h : jH) : Prop := jRk (jnK h) h0 h ∧ jZb l2 h ∧ ((jiv h 125 14).toInt ≠ 0 ∨ jWd h) ∧ (jiv h 147 l2.toNatClampNeg).toInt ≠ 0 ∧ ∀ j : Nat, 2 ≤ j → j < 10 → jiv h 147 (l2.toNatClampNeg + j) = 0
def jZs (h0 : jH) (l2 : Int32) (h : jH) : Prop := jRk (jnK h) h0 h ∧ jZb l2 h ∧ (∀ j : Nat, j ≠ 2 → j < 10 → jiv h 147 (l2.toNatClampNeg + j) = 0) ∧ ((jiv h 125 14).toInt ≠ 0 ∨ (0 ≤ (jiv h 147 (l2.toNatClampNeg + 2)).toInt ∧ (jiv h 147 (l2.toNatClampNeg + 2)).toInt ≤ 29))
def jZl (h0 : jH) (l2 : Int32) (h : jH) : Prop := jRk (jnK h + 1) h0 h ∧ jZb l2 h
theorem wd_w {h hx9 : jH} {k : Nat} {x : Int32} (w : hx9 = jsi h 147 k x) (D : (jiv h 125 14).toInt ≠ 0 ∨ jWd h) : (jiv hx9 125 14).toInt ≠ 0 ∨ jWd hx9 := by
  rw [show jiv hx9 125 14 = jiv h 125 14 from jmo w rfl rfl]
  refine D.imp id (fun d => ?_)
  unfold jWd
  rw [show jiv hx9 125 11 = jiv h 125 11 from jmo w rfl rfl, jlvi w]
  exact d
theorem rk_w {n k : Nat} {h0 h hx9 : jH} {x : Int32} (K : jRk n h0 h) (w : hx9 = jsi h 147 k x) (hk : 10 * n ≤ k) : jRk n h0 hx9 := jrk_ke K (ke_w w (by omega))
theorem zz_0 {h0 h hx9 : jH} {l2 n : Int32} (K : jRk (jnK h) h0 h) (E : jKe (fun _ => True) h hx9) (D : (jiv hx9 125 14).toInt ≠ 0 ∨ jWd hx9) (q : jiv hx9 125 47 = n) (hn : 0 ≤ n.toInt ∧ n.toInt ≤ 11) (hl : l2.toInt = 10 * n.toInt) : jZz h0 l2 0 hx9 := by
  refine ⟨by rw [nk_m E.2.2.2.1]; exact jrk_ke K (ke_p E), by unfold jZb; rw [q]; exact ⟨hl, hn⟩, D, fun j hj => ?_⟩
  rw [show (0 : Int32).toNatClampNeg = 0 from by decide] at hj
  omega
theorem zz_s {h0 h hx9 : jH} {l2 l3 l3' i : Int32} (Z : jZz h0 l2 l3 h) (hi : i.toInt = l2.toInt + l3.toInt) (h3 : 0 ≤ l3.toInt) (w : hx9 = jsi h 147 i.toNatClampNeg 0) (hl : l3'.toInt = l3.toInt + 1) : jZz h0 l2 l3' hx9 := by
  obtain ⟨z1, z2, z3, z4⟩ := Z
  have e := zb_n z2
  have l0 : 0 ≤ l2.toInt := by have := z2.1; have := z2.2.1; omega
  have a := jcl_of l0
  have b := jcl_of h3
  have c := jcl_of (d := i) (by omega)
  have f : l3'.toNatClampNeg = l3.toNatClampNeg + 1 := jcl_s ⟨hl, h3⟩
  have f47 : jiv hx9 125 47 = jiv h 125 47 := jmo w rfl rfl
  refine ⟨by rw [nk_m f47]; exact rk_w z1 w (by omega), zb_m z2 f47, wd_w w z3, fun j hj => ?_⟩
  by_cases y : j = l3.toNatClampNeg
  · rw [show l2.toNatClampNeg + j = i.toNatClampNeg from by omega]
    exact jmw w
  · rw [jmo w (show (Nat.beq 147 147 && Nat.beq (l2.toNatClampNeg + j) i.toNatClampNeg) = false from by rw [jbne (a := l2.toNatClampNeg + j) (b := i.toNatClampNeg) (by omega), Bool.and_false]) rfl]
    exact z4 j (by omega)
theorem zz_k {h0 h hx9 : jH} {l2 l3 x : Int32} (Z : jZz h0 l2 l3 h) (w : hx9 = jsi h 147 l2.toNatClampNeg x) (hx : x = 0) : jZz h0 l2 l3 hx9 := by
  obtain ⟨z1, z2, z3, z4⟩ := Z
  have e := zb_n z2
  have f47 : jiv hx9 125 47 = jiv h 125 47 := jmo w rfl rfl
  refine ⟨by rw [nk_m f47]; exact rk_w z1 w (by omega), zb_m z2 f47, wd_w w z3, fun j hj => ?_⟩
  by_cases y : j = 0
  · rw [y, Nat.add_zero, jmw w]
    exact hx
  · rw [jmo w (show (Nat.beq 147 147 && Nat.beq (l2.toNatClampNeg + j) l2.toNatClampNeg) = false from by rw [jbne (a := l2.toNatClampNeg + j) (b := l2.toNatClampNeg) (by omega), Bool.and_false]) rfl]
    exact z4 j hj
theorem zz_m {h0 h hx9 : jH} {l2 l3 : Int32} (Z : jZz h0 l2 l3 h) (E : jKe (fun _ => True) h hx9) (D : (jiv hx9 125 14).toInt ≠ 0 ∨ jWd hx9) : jZz h0 l2 l3 hx9 :=
  ⟨by rw [nk_m E.2.2.2.1]; exact jrk_ke Z.1 (ke_p E), zb_m Z.2.1 E.2.2.2.1, D, fun j hj => (E.1 _ trivial).trans (Z.2.2.2 j hj)⟩
theorem zy_0 {h0 h hx9 : jH} {l2 l3 x : Int32} (Z : jZz h0 l2 l3 h) (h3 : 10 ≤ l3.toInt) (w : hx9 = jsi h 147 l2.toNatClampNeg x) (hx : x.toInt ≠ 0) : jZy h0 l2 hx9 := by
  obtain ⟨z1, z2, z3, z4⟩ := Z
  have e := zb_n z2
  have b := jcl_of (d := l3) (by omega)
  have f47 : jiv hx9 125 47 = jiv h 125 47 := jmo w rfl rfl
  refine ⟨by rw [nk_m f47]; exact rk_w z1 w (by omega), zb_m z2 f47, wd_w w z3, by rw [jmw w]; exact hx, fun j hj hj2 => ?_⟩
  rw [jmo w (show (Nat.beq 147 147 && Nat.beq (l2.toNatClampNeg + j) l2.toNatClampNeg) = false from by rw [jbne (a := l2.toNatClampNeg + j) (b := l2.toNatClampNeg) (by omega), Bool.and_false]) rfl]
  exact z4 j (by omega)
theorem zy_m {h0 h hx9 : jH} {l2 : Int32} (Z : jZy h0 l2 h) (E : jKe (fun _ => True) h hx9) (D : (jiv hx9 125 14).toInt ≠ 0 ∨ jWd hx9) : jZy h0 l2 hx9 :=
  ⟨by rw [nk_m E.2.2.2.1]; exact jrk_ke Z.1 (ke_p E), zb_m Z.2.1 E.2.2.2.1, D, by rw [E.1 _ trivial]; exact Z.2.2.2.1, fun j hj hj2 => (E.1 _ trivial).trans (Z.2.2.2.2 j hj hj2)⟩
theorem zy_w {h0 h hx9 : jH} {l2 i x : Int32} (Z : jZy h0 l2 h) (hi : i.toInt = l2.toInt + 1) (w : hx9 = jsi h 147 i.toNatClampNeg x) : jZy h0 l2 hx9 := by
  obtain ⟨z1, z2, z3, z4, z5⟩ := Z
  have e := zb_n z2
  have l0 : 0 ≤ l2.toInt := by have := z2.1; have := z2.2.1; omega
  have f := jcl_s ⟨hi, l0⟩
  have f47 : jiv hx9 125 47 = jiv h 125 47 := jmo w rfl rfl
  refine ⟨by rw [nk_m f47]; exact rk_w z1 w (by omega), zb_m z2 f47, wd_w w z3, ?_, fun j hj hj2 => ?_⟩
  · rw [jmo w (show (Nat.beq 147 147 && Nat.beq l2.toNatClampNeg i.toNatClampNeg) = false from by rw [jbne (a := l2.toNatClampNeg) (b := i.toNatClampNeg) (by omega), Bool.and_false]) rfl]
    exact z4
  · rw [jmo w (show (Nat.beq 147 147 && Nat.beq (l2.toNatClampNeg + j) i.toNatClampNeg) = false from by rw [jbne (a := l2.toNatClampNeg + j) (b := i.toNatClampNeg) (by omega), Bool.and_false]) rfl]
    exact z5 j hj hj2
/-- the clauses so far, and one more at their end -/
theorem zl_of {h0 h hx9 : jH} {l2 : Int32} (K : jRk (jnK h) h0 h) (B : jZb l2 h) (E : jKe (fun i => i < 10 * jnK h) h hx9) (N : (jiv hx9 125 14).toInt ≠ 0 ∨ jCg (jiv hx9 147) (jiv hx9 148) (jiv hx9 149) (10 * jnK h) (jnC hx9)) : jZl h0 l2 hx9 := by
  have K2 := jrk_ke K E
  refine ⟨?_, zb_m B E.2.2.2.1⟩
  rw [nk_m E.2.2.2.1]
  refine ⟨K2.1, K2.2.1, ?_⟩
  rcases K2.2.2 with z | z
  · exact Or.inl z
  · refine N.imp id (fun y k hk => ?_)
    by_cases c : k = jnK h
    · rw [c]; exact y
    · exact z k (by omega)
theorem zl_0 {h0 h hx9 : jH} {l2 i x : Int32} (Z : jZy h0 l2 h) (hi : i.toInt = l2.toInt + 2) (w : hx9 = jsi h 147 i.toNatClampNeg x) (hx : (jiv h 125 14).toInt ≠ 0 ∨ (0 ≤ x.toInt ∧ x.toInt ≤ 399)) : jZl h0 l2 hx9 := by
  obtain ⟨z1, z2, z3, z4, z5⟩ := Z
  have e := zb_n z2
  have l0 : 0 ≤ l2.toInt := by have := z2.1; have := z2.2.1; omega
  have a := jcl_of l0
  have c := jcl_of (d := i) (by omega)
  have o : ∀ j : Nat, j ≠ 2 → jiv hx9 147 (l2.toNatClampNeg + j) = jiv h 147 (l2.toNatClampNeg + j) := fun j hj => jmo w (show (Nat.beq 147 147 && Nat.beq (l2.toNatClampNeg + j) i.toNatClampNeg) = false from by rw [jbne (a := l2.toNatClampNeg + j) (b := i.toNatClampNeg) (by omega), Bool.and_false]) rfl
  have o2 : jiv hx9 147 (l2.toNatClampNeg + 2) = x := by rw [show l2.toNatClampNeg + 2 = i.toNatClampNeg from by omega]; exact jmw w
  have t0 : (0 : Int32).toInt = 0 := by decide
  refine zl_of z1 z2 (ke_w w (by omega)) ?_
  rw [show jiv hx9 125 14 = jiv h 125 14 from jmo w rfl rfl, ← e]
  refine hx.imp id (fun y => ⟨fun q => ?_, by rw [o2]; exact y, fun k hk => ⟨0, 0, ?_, ?_, jPn_nil (by omega), by omega⟩⟩)
  · have := o 0 (by omega)
    rw [Nat.add_zero] at this
    rw [this] at q
    exact absurd q z4
  · rw [o k (by omega), z5 k (by omega) (by omega), t0]
    rfl
  · rw [Nat.add_assoc, o (k + 1) (by omega), z5 (k + 1) (by omega) (by omega), t0]
    rfl
theorem zl_m {h0 h hx9 : jH} {l2 : Int32} (Z : jZl h0 l2 h) (E : jKe (fun _ => True) h hx9) : jZl h0 l2 hx9 := ⟨by rw [nk_m E.2.2.2.1]; exact jrk_ke Z.1 (ke_p E), zb_m Z.2 E.2.2.2.1⟩
theorem zl_p {h0 h hx9 : jH} {l2 x : Int32} {a : Nat} (Z : jZl h0 l2 h) (P : jPs x a h hx9) (k7 : jiv hx9 125 47 = jiv h 125 47) (hx : x.toInt = l2.toInt + 4 ∨ x.toInt = l2.toInt + 6 ∨ x.toInt = l2.toInt + 8) : jZl h0 l2 hx9 := by
  obtain ⟨z1, z2⟩ := Z
  obtain ⟨⟨⟨r1, r2, r3⟩, r4, r5⟩, p2, p3, p4, p5⟩ := P
  have e := zb_n z2
  have l0 : 0 ≤ l2.toInt := by have := z2.1; have := z2.2.1; omega
  have al := jcl_of l0
  have ax := jcl_of (d := x) (by omega)
  refine ⟨?_, zb_m z2 k7⟩
  rw [nk_m k7]
  refine ⟨Int.le_trans z1.1 r2, r4, ?_⟩
  rcases r5 with b | pn
  · exact Or.inl b
  · rcases r3 with b | ⟨s8, s9, _⟩
    · exact Or.inl b
    · rcases z1.2.2 with b | z
      · exact Or.inl (r1 b)
      · refine Or.inr (fun k hk => ?_)
        have hC : jnC h ≤ jnC hx9 := by have := pn.1; omega
        by_cases c : k = jnK h
        · obtain ⟨q1, q2, q3⟩ := z k hk
          have o : ∀ j, j < 4 → jiv hx9 147 (10 * k + j) = jiv h 147 (10 * k + j) := fun j hj => p5 _ (by omega)
          have o0 := o 0 (by omega)
          rw [Nat.add_zero] at o0
          refine ⟨by rw [o0, o 2 (by omega), o 3 (by omega)]; exact q1, by rw [o 2 (by omega)]; exact q2, fun m hm => ?_⟩
          by_cases y : 10 * k + m = x.toNatClampNeg
          · exact ⟨a, jnC hx9, by rw [y]; exact p3, by rw [y]; exact p4, pn, Nat.le_refl _⟩
          · obtain ⟨u, v, w1, w2, w3, w4⟩ := q3 m hm
            exact ⟨u, v, by rw [p5 _ (by omega)]; exact w1, by rw [p5 _ (by omega)]; exact w2, jPn_c w3 (fun j hj => s8 j (by omega)) (fun j hj => s9 j (by omega)), by omega⟩
        · exact jcg_c (z k hk) (fun j hj => p5 _ (by omega)) (fun j hj => s8 j (by omega)) (fun j hj => s9 j (by omega)) hC
theorem zs_0 {h0 h hx9 : jH} {l2 l3 i x : Int32} (Z : jZz h0 l2 l3 h) (h3 : 10 ≤ l3.toInt) (hi : i.toInt = l2.toInt + 2) (w : hx9 = jsi h 147 i.toNatClampNeg x) (hx : (jiv h 125 14).toInt ≠ 0 ∨ (0 ≤ x.toInt ∧ x.toInt ≤ 29)) : jZs h0 l2 hx9 := by
  obtain ⟨z1, z2, z3, z4⟩ := Z
  have e := zb_n z2
  have b := jcl_of (d := l3) (by omega)
  have l0 : 0 ≤ l2.toInt := by have := z2.1; have := z2.2.1; omega
  have a := jcl_of l0
  have c := jcl_of (d := i) (by omega)
  have f47 : jiv hx9 125 47 = jiv h 125 47 := jmo w rfl rfl
  refine ⟨by rw [nk_m f47]; exact rk_w z1 w (by omega), zb_m z2 f47, fun j hj hj2 => ?_, ?_⟩
  · rw [jmo w (show (Nat.beq 147 147 && Nat.beq (l2.toNatClampNeg + j) i.toNatClampNeg) = false from by rw [jbne (a := l2.toNatClampNeg + j) (b := i.toNatClampNeg) (by omega), Bool.and_false]) rfl]
    exact z4 j (by omega)
  · rw [show jiv hx9 125 14 = jiv h 125 14 from jmo w rfl rfl, show l2.toNatClampNeg + 2 = i.toNatClampNeg from by omega, jmw w]
    exact hx
theorem zs_m {h0 h hx9 : jH} {l2 : Int32} (Z : jZs h0 l2 h) (E : jKe (fun _ => True) h hx9) : jZs h0 l2 hx9 :=
  ⟨by rw [nk_m E.2.2.2.1]; exact jrk_ke Z.1 (ke_p E), zb_m Z.2.1 E.2.2.2.1, fun j hj hj2 => (E.1 _ trivial).trans (Z.2.2.1 j hj hj2), by rw [E.1 _ trivial]; exact Z.2.2.2.imp E.2.2.2.2.2.2 id⟩
theorem zs_l {h0 h hx9 : jH} {l2 i x : Int32} (Z : jZs h0 l2 h) (hi : i.toInt = l2.toInt + 3) (w : hx9 = jsi h 147 i.toNatClampNeg x) (hx : (jiv h 125 14).toInt ≠ 0 ∨ (0 ≤ x.toInt ∧ x.toInt ≤ 11)) : jZl h0 l2 hx9 := by
  obtain ⟨z1, z2, z4, z5⟩ := Z
  have e := zb_n z2
  have l0 : 0 ≤ l2.toInt := by have := z2.1; have := z2.2.1; omega
  have a := jcl_of l0
  have c := jcl_of (d := i) (by omega)
  have o : ∀ j : Nat, j ≠ 3 → jiv hx9 147 (l2.toNatClampNeg + j) = jiv h 147 (l2.toNatClampNeg + j) := fun j hj => jmo w (show (Nat.beq 147 147 && Nat.beq (l2.toNatClampNeg + j) i.toNatClampNeg) = false from by rw [jbne (a := l2.toNatClampNeg + j) (b := i.toNatClampNeg) (by omega), Bool.and_false]) rfl
  have o3 : jiv hx9 147 (l2.toNatClampNeg + 3) = x := by rw [show l2.toNatClampNeg + 3 = i.toNatClampNeg from by omega]; exact jmw w
  have t0 : (0 : Int32).toInt = 0 := by decide
  refine zl_of z1 z2 (ke_w w (by omega)) ?_
  rw [show jiv hx9 125 14 = jiv h 125 14 from jmo w rfl rfl, ← e]
  rcases hx with y | y
  · exact Or.inl y
  · refine z5.imp id (fun z => ⟨fun _ => by rw [o 2 (by omega), o3]; exact ⟨z.1, z.2, y.1, y.2⟩, by rw [o 2 (by omega)]; omega, fun k hk => ⟨0, 0, ?_, ?_, jPn_nil (by omega), by omega⟩⟩)
    · rw [o k (by omega), z4 k (by omega) (by omega), t0]
      rfl
    · rw [Nat.add_assoc, o (k + 1) (by omega), z4 (k + 1) (by omega) (by omega), t0]
      rfl
theorem rk_e {h0 h hx9 : jH} {l2 n n' : Int32} (Z : jZl h0 l2 h) (q : jiv h 125 47 = n) (w : hx9 = jsi h 125 47 n') (hn : n'.toInt = n.toInt + 1) : jRk (jnK hx9) h0 hx9 := by
  obtain ⟨z1, z2⟩ := Z
  have n0 := z2.2.1
  rw [q] at n0
  have e : jnK hx9 = jnK h + 1 := by unfold jnK; rw [jmw w, q]; exact jcl_s ⟨hn, n0⟩
  have f9 : jiv hx9 125 9 = jiv h 125 9 := jmo w rfl rfl
  have f14 : jiv hx9 125 14 = jiv h 125 14 := jmo w rfl rfl
  have f49 : jiv hx9 125 49 = jiv h 125 49 := jmo w rfl rfl
  have nc : jnC hx9 = jnC h := by unfold jnC; rw [f49]
  rw [e]
  refine ⟨by rw [f9]; exact z1.1, by rw [f9, f49]; exact z1.2.1, ?_⟩
  rw [f14, nc, show jiv hx9 147 = jiv h 147 from funext fun i => jmo w rfl rfl, show jiv hx9 148 = jiv h 148 from funext fun i => jmo w rfl rfl, show jiv hx9 149 = jiv h 149 from funext fun i => jmo w rfl rfl]
  exact z1.2.2
theorem zl_n {h0 h : jH} {l2 n : Int32} (Z : jZl h0 l2 h) (q : jiv h 125 47 = n) : 0 ≤ n.toInt ∧ n.toInt ≤ 11 := by have := Z.2.2; rw [q] at this; exact this
theorem ke_z {F : jFp} {h hx9 : jH} (S : jSm F h hx9) (e7 : (Nat.blt 147 174 && (F.all fun q => !Nat.beq q.1 147)) = true) (e8 : (Nat.blt 148 174 && (F.all fun q => !Nat.beq q.1 148)) = true) (e9 : (Nat.blt 149 174 && (F.all fun q => !Nat.beq q.1 149)) = true) (k7 : (Nat.blt 125 174 && !jfo F 125 47) = true) (k9 : (Nat.blt 125 174 && !jfo F 125 49) = true) (kf : (Nat.blt 125 174 && !jfo F 125 9) = true) (kb : (Nat.blt 125 174 && !jfo F 125 14) = true) : jKe (fun _ => True) h hx9 :=
  ke_f S e7 e8 e9 k7 k9 kb rfl (jmc S kf rfl) (Int.le_refl _)
theorem rk_z {h0 h hx9 : jH} (K : jRk (jnK h) h0 h) (E : jKe (fun _ => True) h hx9) : jRk (jnK hx9) h0 hx9 := by
  rw [nk_m E.2.2.2.1]
  exact jrk_ke K (ke_p E)
theorem nm_4 {B : Prop} {v : Int32} {x : Int64} {c : Int} (p : B ∨ (0 ≤ v.toInt ∧ v.toInt ≤ x.toInt)) (e : x.toInt = c) : B ∨ (0 ≤ v.toInt ∧ v.toInt ≤ c) := by rw [← e]; exact p
/-- a field of the object that has nothing to do with them -/
theorem ke_o {P : Nat → Prop} {h hx9 : jH} {f : Nat} {x : Int32} (w : hx9 = jsi h 125 f x) (e1 : Nat.beq 47 f = false) (e2 : Nat.beq 49 f = false) (e3 : Nat.beq 9 f = false) (e4 : Nat.beq 14 f = false) : jKe P h hx9 := by
  have g : ∀ k, Nat.beq k f = false → jiv hx9 125 k = jiv h 125 k := fun k hk => jmo w (by rw [hk]; rfl) rfl
  exact ⟨jeq_o w rfl jeq_0, jeq_o w rfl jeq_0, jeq_o w rfl jeq_0, g 47 e1, g 49 e2, by rw [g 9 e3]; exact Int.le_refl _, fun z => by rw [g 14 e4]; exact z⟩
theorem jrole {v a b : Int} (e : v = a + 6 + 28 * b) (ha : a % 90 = 20) (hb : 0 ≤ b ∧ b ≤ 2) : v % 90 = 26 ∨ v % 90 = 54 ∨ v % 90 = 82 := by
  have h : b = 0 ∨ b = 1 ∨ b = 2 := by omega
  rcases h with rfl | rfl | rfl <;> omega
