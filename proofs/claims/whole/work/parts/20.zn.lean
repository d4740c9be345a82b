/-! the reference's TEXTS, SPLITS, SPELLINGS kept by writes elsewhere -/
theorem jht_c {f g : Nat → Int32} {t a : Nat} (ht : t < 30) (e : ∀ i, 18820 ≤ i → i < 46540 → f i = g i) : ∀ n, a + n ≤ 400 → jht f t a n = jht g t a n := by
  intro n
  induction n with
  | zero => intro _; rfl
  | succ n ih =>
    intro hn
    show jht f t a n + _ = jht g t a n + _
    rw [ih (by omega), e _ (by omega) (by omega)]
theorem jPc_c {f g : Nat → Int32} {t a b : Nat} (ht : t < 30) (e : ∀ i, 18820 ≤ i → i < 46540 → f i = g i) (h : jPc f t a b) : jPc g t a b := by
  refine ⟨h.1, fun n hn => ?_⟩
  have hb := h.1
  have e1 := e (18944 + 924 * t + 2 * (a + n)) (by omega) (by omega)
  have e2 := e (18944 + 924 * t + 2 * (a + n) + 1) (by omega) (by omega)
  have e3 := jht_c (f := f) (g := g) (a := a) ht e n (by omega)
  have k := h.2 n hn
  rw [e1, e2, e3] at k
  refine ⟨k.1, k.2.1, fun q => ?_⟩
  obtain ⟨r, r1, r2, r3, r4⟩ := k.2.2 q
  exact ⟨r, r1, r2, r3, by rw [← jht_c (f := f) (g := g) ht e r (by omega)]; exact r4⟩
theorem jWv_c {f g : Nat → Int32} (e : ∀ i, 18820 ≤ i → i < 46540 → f i = g i) (h : jWv f) : jWv g := by
  intro t c ht hc
  have k := h t c ht hc
  have e0 : ∀ j, j < 10 → jcv f t c j = jcv g t c j := fun j hj => by unfold jcv; rw [e _ (by omega) (by omega)]
  refine ⟨?_, ?_, fun x hx => ?_⟩
  · rw [← e0 0 (by omega), ← e0 2 (by omega), ← e0 3 (by omega)]; exact k.1
  · rw [← e0 2 (by omega)]; exact k.2.1
  · obtain ⟨a, b, k1, k2, k3⟩ := k.2.2 x hx
    exact ⟨a, b, by rw [← e0 x (by omega)]; exact k1, by rw [← e0 (x + 1) (by omega)]; exact k2, jPc_c ht e k3⟩
theorem jB_wr {h : jH} {k : Nat} {x : Int32} (B : jB h) (h1 : jWv (jiv (jsi h 126 k x) 126)) (h2 : jSpt (jiv (jsi h 126 k x) 126)) : jB (jsi h 126 k x) := by
  obtain ⟨b1, b2, b3, b4, b5, b6, b7⟩ := B
  have e7 : ∀ i, jiv (jsi h 126 k x) 127 i = jiv h 127 i := fun i => iv_si rfl rfl
  refine ⟨b1, fun t a ht q => jTx_i rfl rfl (b2 t a ht q), h1, fun j hj => ?_, fun s p hs hp q => ?_, h2, fun j hj => ?_⟩
  · exact jWv_c (fun i _ _ => (e7 _).symm) (b4 j hj)
  · have e1 : jiv (jsi h 126 k x) 132 s = jiv h 132 s := iv_si rfl rfl
    have e2 : jiv (jsi h 126 k x) 133 (16 * s + 2 * p) = jiv h 133 (16 * s + 2 * p) := iv_si rfl rfl
    rw [e1] at q
    rw [e2]
    exact b5 s p hs hp q
  · intro n hn
    have := b7 j hj n (by rw [← e7]; exact hn)
    rw [e7]
    exact this
theorem jrow_ne {h : jH} {k i : Nat} {x : Int32} (e : i ≠ k) : jiv (jsi h 126 k x) 126 i = jiv h 126 i := iv_si (by rw [jbne e, Bool.and_false]) rfl
theorem jB_sp {h : jH} {i x g : Int32} (B : jB h) (q9 : jiv h 126 (9 : Int32).toNatClampNeg = g) (hi : 0 ≤ g.toInt ∧ 47660 + 6 * g.toInt ≤ i.toInt ∧ i.toInt < 47900) : jB (jsi h 126 i.toNatClampNeg x) := by
  have e9 : (9 : Int32).toNatClampNeg = 9 := by decide
  rw [e9] at q9
  have e := jcl_nat (i := i) rfl (by omega)
  refine jB_wr B (jWv_c (fun j j1 j2 => (jrow_ne (by omega)).symm) B.2.2.1) (fun n hn => ?_)
  rw [jrow_ne (by omega)] at hn
  rw [q9] at hn
  rw [jrow_ne (by omega)]
  exact B.2.2.2.2.2.1 n (by rw [q9]; exact hn)
theorem jB_s9 {h : jH} {x g v j : Int32} (B : jB h) (q9 : jiv h 126 (9 : Int32).toNatClampNeg = g) (hx : x.toInt = g.toInt + 1 ∧ 0 ≤ g.toInt ∧ g.toInt ≤ 39) (q3 : jiv h 126 j.toNatClampNeg = v) (hj : j.toInt = 47660 + 6 * g.toInt + 3) (hv : 1 ≤ v.toInt) : jB (jsi h 126 (9 : Int32).toNatClampNeg x) := by
  have e9 : (9 : Int32).toNatClampNeg = 9 := by decide
  rw [e9] at q9 ⊢
  have e := jcl_nat (i := j) rfl (by omega)
  refine jB_wr B (jWv_c (fun j j1 j2 => (jrow_ne (by omega)).symm) B.2.2.1) (fun n hn => ?_)
  have e0 : jiv (jsi h 126 9 x) 126 9 = x := iv_eq
  rw [e0] at hn
  rw [jrow_ne (by omega)]
  by_cases c : (n : Int) < g.toInt
  · exact B.2.2.2.2.2.1 n (by rw [q9]; exact c)
  · have : 47660 + 6 * n + 3 = j.toNatClampNeg := by omega
    rw [this, q3]
    exact hv
theorem z_iastB {M : jM} {d K S pc : Nat} {ls : jL} {st : List Value} {h h0 : jH} {k n : Nat} {Q : Option Value → jH → Prop} {Sg : List jSg} {Dy : jH → Prop} {FP : jFp} {N : Nat} {i x : Int32} {m w : Int} {l u : Nat} (hat : jat M pc = some (.iastore, 1)) (hD : jDk Dy) (J : jJ Sg Dy h) (Sm : jSm FP h0 h) (hs : (jtO ++ jtS).lookup 126 = some (100, N)) (hm : i.toInt = m) (hb : 0 ≤ m ∧ m < N ∧ (l : Int) ≤ m ∧ m < u) (hx : x.toInt = w) (hw : jwr Sg 126 m w) (hB : jB (jsi h 126 i.toNatClampNeg x)) (hf : FP.contains (126, l, u) = true) (kk : ∀ h', h' = jsi h 126 i.toNatClampNeg x → jJ Sg Dy h' → jSm FP h0 h' → jX M d K S (pc + 1) ls st h' k n Q) : jX M d K S pc ls (.int x :: .int i :: .ref 126 :: st) h k n Q := by
  have e := jcl_nat hm hb.1
  have hJ : jRg Sg (jsi h 126 i.toNatClampNeg x) := by
    intro s hs j hj
    by_cases c : s.1 = 126 ∧ j = i.toNatClampNeg
    · obtain ⟨c1, c2⟩ := c
      subst c2
      have e : jiv (jsi h 126 i.toNatClampNeg x) s.1 i.toNatClampNeg = x := by rw [c1]; exact iv_eq
      rw [e]
      exact jwr_at hm hb.1 hx hw s hs c1 hj
    · have e : jiv (jsi h 126 i.toNatClampNeg x) s.1 j = jiv h s.1 j := by
        refine iv_si ?_ rfl
        cases c1 : Nat.beq s.1 126
        · rfl
        · cases c2 : Nat.beq j i.toNatClampNeg
          · rfl
          · exact absurd ⟨Nat.eq_of_beq_eq_true c1, Nat.eq_of_beq_eq_true c2⟩ c
      rw [e]
      exact J.2.1 s hs j hj
  exact x_iast hat (J.1.1 126 _ hs) rfl (vpi (by rw [hm]; omega)) (kk _ rfl ⟨⟨J.1.1, J.1.2⟩, hJ, hD.2.2.2.2.2.2 h _ rfl (fun _ => rfl) (fun _ _ => rfl) (fun a j ha => ⟨iv_si (by rw [jbne (show a ≠ 126 by omega)]; rfl) rfl, rfl⟩) (fun j => iv_si rfl rfl) J.2.2 hB⟩ (jSm_si Sm (jfo_of hf ⟨by omega, by omega⟩)))
