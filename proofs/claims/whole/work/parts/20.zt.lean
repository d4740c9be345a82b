/-! spell: sides with a letter -/
def jRs (s : Int32) (h0 h : jH) : Prop := jEq 135 (fun i => i ≠ s.toNatClampNeg) h h0 ∧ ((jiv h 125 14).toInt ≠ 0 ∨ ((jiv h0 125 14).toInt = 0 ∧ 1 ≤ (jiv h 135 s.toNatClampNeg).toInt))
theorem jrs_bad {s v : Int32} {h0 h : jH} (E : jEq 135 (fun _ => True) h h0) (q : jiv h 125 14 = v) (z : v.toInt ≠ 0) : jRs s h0 h := ⟨jeq_w (fun _ _ => trivial) E, Or.inl (by rw [q]; exact z)⟩
theorem jrs_w {s v x : Int32} {h hx9 h0 : jH} (E : jEq 135 (fun _ => True) h h0) (w : hx9 = jsi h 135 s.toNatClampNeg x) (z : (jiv h0 125 14).toInt = 0) (hx : 1 ≤ x.toInt) : jRs s h0 hx9 := ⟨jeq_s w (fun q => q rfl) (jeq_w (fun _ _ => trivial) E), Or.inr ⟨z, by rw [jmw w]; exact hx⟩⟩
theorem jrs_mv {s : Int32} {h hx9 h0 : jH} (E : jEq 135 (fun _ => True) hx9 h) (b : jiv hx9 125 14 = jiv h 125 14) (R : jRs s h0 h) : jRs s h0 hx9 := ⟨fun i hi => (E i trivial).trans (R.1 i hi), by rw [b, E _ trivial]; exact R.2⟩
def jRq (h0 h : jH) : Prop := (jiv h 125 14).toInt ≠ 0 ∨ ((jiv h0 125 14).toInt = 0 ∧ jEq 135 (fun i => i < 2 * (jiv h0 125 18).toNatClampNeg) h h0 ∧ 1 ≤ (jiv h 135 (2 * (jiv h0 125 18).toNatClampNeg)).toInt)
def jRp (h0 h : jH) : Prop := (jiv h 125 14).toInt ≠ 0 ∨ ((jiv h0 125 14).toInt = 0 ∧ (jiv h 125 18).toInt = (jiv h0 125 18).toInt + 1 ∧ jEq 135 (fun i => i < 2 * (jiv h0 125 18).toNatClampNeg) h h0 ∧ 1 ≤ (jiv h 135 (2 * (jiv h0 125 18).toNatClampNeg)).toInt)
theorem jcl_d {x n : Int32} (e : x.toInt = 2 * n.toInt) (hn : 0 ≤ n.toInt) : x.toNatClampNeg = 2 * n.toNatClampNeg := by
  have a := jcl_of hn
  have b := jcl_of (d := x) (by omega)
  omega
theorem jrq_1 {h0 h1 h : jH} {s n v : Int32} (R : jRs s h0 h1) (qn : jiv h0 125 18 = n) (hn : 0 ≤ n.toInt) (es : s.toInt = 2 * n.toInt) (q : jiv h1 125 14 = v) (z : v.toInt = 0) (E : jEq 135 (fun i => i ≤ 2 * n.toNatClampNeg) h h1) : jRq h0 h := by
  have e := jcl_d es hn
  unfold jRq
  rw [qn]
  refine Or.inr ?_
  rcases R.2 with c | c
  · rw [q] at c; omega
  · refine ⟨c.1, fun i hi => ?_, ?_⟩
    · rw [E i (by omega), R.1 i (by omega)]
    · rw [E _ (by omega), ← e]; exact c.2
theorem jrq_2 {h0 h2 h3 : jH} {s n : Int32} (R : jRs s h2 h3) (qn : jiv h0 125 18 = n) (hn : 0 ≤ n.toInt) (es : s.toInt = 2 * n.toInt + 1) (Qq : jRq h0 h2) (b2 : (jiv h2 125 14).toInt = 0) : jRq h0 h3 := by
  have a := jcl_of hn
  have b := jcl_of (d := s) (by omega)
  rcases R.2 with c | c
  · exact Or.inl c
  · rcases Qq with d | d
    · exact absurd b2 d
    · rw [qn] at d
      unfold jRq
      rw [qn]
      exact Or.inr ⟨d.1, fun i hi => by rw [R.1 i (by omega)]; exact d.2.1 i hi, by rw [R.1 _ (by omega)]; exact d.2.2⟩
theorem jrp_of {h0 h hx9 : jH} {u g : Int32} (Qq : jRq h0 h) (qg : jiv h 125 18 = g) (g0 : jiv h 125 18 = jiv h0 125 18) (w : hx9 = jsi h 125 18 u) (e : u.toInt = g.toInt + 1) : jRp h0 hx9 := by
  have b : jiv hx9 125 14 = jiv h 125 14 := jmo w rfl rfl
  have E : ∀ i, jiv hx9 135 i = jiv h 135 i := fun i => jmo w rfl rfl
  rcases Qq with c | c
  · exact Or.inl (by rw [b]; exact c)
  · refine Or.inr ⟨c.1, ?_, fun i hi => by rw [E]; exact c.2.1 i hi, by rw [E]; exact c.2.2⟩
    rw [jmw w, e, ← qg, g0]
def jSo (h : jH) : Prop := (jiv h 125 14).toInt ≠ 0 ∨ ∀ p : Nat, (p : Int) < (jiv h 125 18).toInt → 1 ≤ (jiv h 135 (2 * p)).toInt
theorem jso_0 {h : jH} (q : jiv h 125 18 = 0) : jSo h := Or.inr (fun p hp => by rw [q, show (0 : Int32).toInt = 0 from by decide] at hp; omega)
theorem jso_mv {h hx9 : jH} (E : jEq 135 (fun _ => True) hx9 h) (b : jiv hx9 125 14 = jiv h 125 14) (n : jiv hx9 125 18 = jiv h 125 18) (S : jSo h) : jSo hx9 := by
  unfold jSo
  rw [b, n]
  exact S.imp id (fun a p hp => by rw [E _ trivial]; exact a p hp)
theorem jso_p {h hx9 : jH} (S : jSo h) (R : jRp h hx9) (hn : 0 ≤ (jiv h 125 18).toInt) : jSo hx9 := by
  rcases R with c | ⟨c0, c1, c2, c3⟩
  · exact Or.inl c
  · rcases S with d | d
    · exact absurd c0 d
    · refine Or.inr (fun p hp => ?_)
      have e := jcl_of hn
      by_cases z : (p : Int) < (jiv h 125 18).toInt
      · rw [c2 (2 * p) (by omega)]; exact d p z
      · have : p = (jiv h 125 18).toNatClampNeg := by omega
        rw [this]; exact c3
def jsm (h : jH) : Int := if (jiv h 125 14).toInt ≠ 0 then 0 else 10 - (jiv h 125 18).toInt
theorem jsm_p {h hx9 : jH} (R : jRp h hx9) (z : (jiv h 125 14).toInt = 0) (hn : (jiv h 125 18).toInt ≤ 9) : jsm hx9 < jsm h := by
  unfold jsm
  rw [if_neg (show ¬ ((jiv h 125 14).toInt ≠ 0) from fun c => c z)]
  split
  · omega
  · rcases R with c | c
    · exact absurd c (by assumption)
    · omega
theorem jsm_e {h hx9 : jH} (b : jiv hx9 125 14 = jiv h 125 14) (n : jiv hx9 125 18 = jiv h 125 18) : jsm hx9 = jsm h := by unfold jsm; rw [b, n]
theorem jsm_b {h : jH} (hn : 0 ≤ (jiv h 125 18).toInt ∧ (jiv h 125 18).toInt ≤ 8) : 0 ≤ jsm h ∧ jsm h ≤ 10 := by unfold jsm; split <;> omega
/-! a stretch of code that breaks jB and mends it -/
def jDw (p : Nat → Bool) (Dy : jH → Prop) : Prop := (∀ h a k v, p a = true → Dy h → Dy (jsi h a k v)) ∧ ∀ h a k v, Nat.blt a 174 = true → Dy h → Dy (jsl h a k v)
theorem jJ_wi {Sg : List jSg} {Dy : jH → Prop} {p : Nat → Bool} {h : jH} {a k : Nat} {v : Int32} (hD : jDw p Dy) (J : jJ Sg Dy h) (ha : p a = true) (hw : ∀ s ∈ Sg, s.1 = a → jin s k → s.2.2.2.2.2.2.1 ≤ v.toInt ∧ v.toInt ≤ s.2.2.2.2.2.2.2) : jJ Sg Dy (jsi h a k v) := by
  refine ⟨⟨J.1.1, J.1.2⟩, fun s hs j hj => ?_, hD.1 h a k v ha J.2.2⟩
  by_cases c : s.1 = a ∧ j = k
  · obtain ⟨c1, c2⟩ := c
    subst c2
    have e : jiv (jsi h a j v) s.1 j = v := by rw [c1]; exact iv_eq
    rw [e]
    exact hw s hs c1 hj
  · have e : jiv (jsi h a k v) s.1 j = jiv h s.1 j := by
      refine iv_si ?_ rfl
      cases c1 : Nat.beq s.1 a
      · rfl
      · cases c2 : Nat.beq j k
        · rfl
        · exact absurd ⟨Nat.eq_of_beq_eq_true c1, Nat.eq_of_beq_eq_true c2⟩ c
    rw [e]
    exact J.2.1 s hs j hj
theorem zw_iast {M : jM} {d K S pc : Nat} {ls : jL} {st : List Value} {h h0 : jH} {k n : Nat} {Q : Option Value → jH → Prop} {Sg : List jSg} {Dy : jH → Prop} {p : Nat → Bool} {FP : jFp} {a N : Nat} {i x : Int32} {m w : Int} {l u : Nat} (hat : jat M pc = some (.iastore, 1)) (hD : jDw p Dy) (J : jJ Sg Dy h) (Sm : jSm FP h0 h) (hs : (jtO ++ jtS).lookup a = some (100, N)) (ha : Nat.ble 31 a = true) (hp : p a = true) (hm : i.toInt = m) (hb : 0 ≤ m ∧ m < N ∧ (l : Int) ≤ m ∧ m < u) (hx : x.toInt = w) (hw : jwr Sg a m w) (hf : FP.contains (a, l, u) = true) (kk : ∀ hx9, hx9 = jsi h a i.toNatClampNeg x → jJ Sg Dy hx9 → jSm FP h0 hx9 → jX M d K S (pc + 1) ls st hx9 k n Q) : jX M d K S pc ls (.int x :: .int i :: .ref a :: st) h k n Q := by
  have e := jcl_nat hm hb.1
  exact x_iast hat (J.1.1 a _ hs) ha (vpi (by rw [hm]; omega)) (kk _ rfl (jJ_wi hD J hp (jwr_at hm hb.1 hx hw)) (jSm_si Sm (jfo_of hf ⟨by omega, by omega⟩)))
def jWk (p : Nat → Bool) (h1 h : jH) : Prop := jnx h = jnx h1 ∧ (∀ a, jsh h a = jsh h1 a) ∧ (∀ a k, jrv h a k = jrv h1 a k) ∧ (∀ a k, p a = false → jiv h a k = jiv h1 a k) ∧ ∀ a k, 174 ≤ a → jlv h a k = jlv h1 a k
theorem jWk_0 {p : Nat → Bool} {h : jH} : jWk p h h := ⟨rfl, fun _ => rfl, fun _ _ => rfl, fun _ _ _ => rfl, fun _ _ _ => rfl⟩
theorem jWk_d {p : Nat → Bool} {h1 : jH} : jDw p (jWk p h1) := by
  refine ⟨fun h a k v ha w => ⟨w.1, w.2.1, w.2.2.1, fun b j hb => ?_, w.2.2.2.2⟩, fun h a k v ha w => ⟨w.1, w.2.1, w.2.2.1, w.2.2.2.1, fun b j hb => ?_⟩⟩
  · refine iv_si ?_ (w.2.2.2.1 b j hb)
    rw [jbne (a := b) (b := a) (fun c => by rw [c, ha] at hb; exact Bool.noConfusion hb)]
    rfl
  · refine lv_sl ?_ (w.2.2.2.2 b j hb)
    have := Nat.le_of_ble_eq_true ha
    rw [jbne (a := b) (b := a) (by omega)]
    rfl
theorem jWk_tx {p : Nat → Bool} {h1 h : jH} {a : Nat} (hp : ∀ b, 174 ≤ b → p b = false) (w : jWk p h1 h) (T : jTx h1 a) : jTx h a := by
  obtain ⟨⟨t1, t2, t3⟩, t4, ⟨b, nb, b1, b2, b3, b4, b5⟩, c, nc, c1, c2, c3, c4⟩ := T
  have e := w.2.2.2.1 a 3 (hp a t1)
  exact ⟨⟨t1, by rw [w.1]; exact t2, by rw [w.2.1]; exact t3⟩, by rw [e]; exact t4, ⟨b, nb, by rw [w.2.2.1]; exact b1, b2, by rw [w.1]; exact b3, by rw [w.2.1]; exact b4, by rw [e]; exact b5⟩, c, nc, by rw [w.2.2.1]; exact c1, c2, by rw [w.1]; exact c3, by rw [w.2.1]; exact c4⟩
theorem jWk_back {Sg : List jSg} {Dy : jH → Prop} {p : Nat → Bool} {h1 h : jH} (hD : jDk Dy) (J1 : jJ Sg Dy h1) (hp : ∀ b, 174 ≤ b → p b = false) (h127 : p 127 = false) (J : jJ Sg (jWk p h1) h) (B : jB h) : jJ Sg Dy h :=
  ⟨J.1, J.2.1, hD.2.2.2.2.2.2 h1 h J.2.2.1 J.2.2.2.1 J.2.2.2.2.1 (fun a k ha => ⟨J.2.2.2.2.2.1 a k (hp a ha), J.2.2.2.2.2.2 a k ha⟩) (fun k => J.2.2.2.2.2.1 127 k h127) J1.2.2 B⟩
theorem jWk_in {Sg : List jSg} {Dy : jH → Prop} {p : Nat → Bool} {h : jH} (J : jJ Sg Dy h) : jJ Sg (jWk p h) h := ⟨J.1, J.2.1, jWk_0⟩
def jps (a : Nat) : Bool := Nat.beq a 132 || Nat.beq a 133 || Nat.beq a 134
theorem jps_hi : ∀ b, 174 ≤ b → jps b = false := by
  intro b hb
  unfold jps
  rw [jbne (a := b) (b := 132) (by omega), jbne (a := b) (b := 133) (by omega), jbne (a := b) (b := 134) (by omega)]
  rfl
/-- the SPELLINGS copied: what stands at last -/
def jTl (h1 h : jH) (x n : Int32) (k : Int) : Prop := jiv h 132 x.toNatClampNeg = n ∧ (∀ i : Nat, i ≠ x.toNatClampNeg → jiv h 132 i = jiv h1 132 i) ∧ (∀ j : Nat, (j : Int) < k → jiv h 133 (16 * x.toNatClampNeg + j) = jiv h1 135 j) ∧ ∀ i : Nat, (i < 16 * x.toNatClampNeg ∨ 16 * x.toNatClampNeg + 16 ≤ i) → jiv h 133 i = jiv h1 133 i
theorem jTl_0 {h1 h : jH} {x n : Int32} (w : h = jsi h1 132 x.toNatClampNeg n) : jTl h1 h x n 0 :=
  ⟨jmw w, fun i hi => jmo w (by rw [jbne hi, Bool.and_false]) rfl, fun j hj => by omega, fun i _ => jmo w rfl rfl⟩
theorem jTl_s {h1 h hx9 : jH} {x n i y k : Int32} (T : jTl h1 h x n k.toInt) (hx : 0 ≤ x.toInt) (hk : 0 ≤ k.toInt ∧ k.toInt < 16) (hi : i.toInt = 16 * x.toInt + k.toInt) (e : ∀ j, jiv h 135 j = jiv h1 135 j) (q : jiv h 135 k.toNatClampNeg = y) (w : hx9 = jsi h 133 i.toNatClampNeg y) : jTl h1 hx9 x n (k.toInt + 1) := by
  have a := jcl_of hx
  have b := jcl_of hk.1
  have c := jcl_of (d := i) (by omega)
  refine ⟨jmo w rfl T.1, fun j hj => jmo w rfl (T.2.1 j hj), fun j hj => ?_, fun j hj => ?_⟩
  · by_cases z : j = k.toNatClampNeg
    · rw [z, show 16 * x.toNatClampNeg + k.toNatClampNeg = i.toNatClampNeg from by omega, jmw w, ← q, e]
    · exact jmo w (by rw [jbne (a := 16 * x.toNatClampNeg + j) (b := i.toNatClampNeg) (by omega), Bool.and_false]) (T.2.2.1 j (by omega))
  · exact jmo w (by rw [jbne (a := j) (b := i.toNatClampNeg) (by omega), Bool.and_false]) (T.2.2.2 j hj)
theorem jTl_m {h1 h hx9 : jH} {x n : Int32} {k : Int} {i : Nat} {y : Int32} (w : hx9 = jsi h 134 i y) (T : jTl h1 h x n k) : jTl h1 hx9 x n k :=
  ⟨jmo w rfl T.1, fun j hj => jmo w rfl (T.2.1 j hj), fun j hj => jmo w rfl (T.2.2.1 j hj), fun j hj => jmo w rfl (T.2.2.2 j hj)⟩
theorem jTl_B {h1 h : jH} {x n : Int32} {k : Int} (B : jB h1) (W : jWk jps h1 h) (hx : 0 ≤ x.toInt ∧ x.toInt < 16) (T : jTl h1 h x n k) (hk : 2 * n.toInt ≤ k) (So : ∀ p : Nat, (p : Int) < n.toInt → 1 ≤ (jiv h1 135 (2 * p)).toInt) : jB h := by
  obtain ⟨b1, b2, b3, b4, b5, b6, b7⟩ := B
  have e6 : jiv h 126 = jiv h1 126 := funext fun i => W.2.2.2.1 126 i rfl
  have e7 : jiv h 127 = jiv h1 127 := funext fun i => W.2.2.2.1 127 i rfl
  have a := jcl_of hx.1
  refine ⟨by rw [W.1]; exact b1, fun t c ht q => jWk_tx jps_hi W (b2 t c ht (by rw [← W.2.2.1]; exact q)), by rw [e6]; exact b3, by rw [e7]; exact b4, fun s p hs hp q => ?_, by rw [e6]; exact b6, by rw [e7]; exact b7⟩
  by_cases z : s = x.toNatClampNeg
  · rw [z, T.1] at q
    rw [z, T.2.2.1 (2 * p) (by omega)]
    exact So p q
  · rw [T.2.1 s z] at q
    rw [T.2.2.2 _ (by omega)]
    exact b5 s p hs hp q
theorem jso_use {h : jH} {g n : Int32} (S : jSo h) (q : jiv h 125 14 = g) (z : g.toInt = 0) (qn : jiv h 125 18 = n) : ∀ p : Nat, (p : Int) < n.toInt → 1 ≤ (jiv h 135 (2 * p)).toInt := by
  rcases S with c | c
  · rw [q] at c; exact absurd z c
  · intro p hp
    exact c p (by rw [qn]; exact hp)
