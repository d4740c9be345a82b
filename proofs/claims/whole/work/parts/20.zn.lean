/-! the reference's TEXTS, SPLITS, SPELLINGS kept by writes elsewhere -/
theorem jht_c {f g : Nat → Int32} {t a : Nat} (ht : t < 30) (e : ∀ i, 18820 ≤ i → i < 46540 → f i = g i) : ∀ n, a + n ≤ 400 → jht f t a n = jht g t a n := by
  intro n
  induction n with
  | zero => intro _; rfl
  | succ n ih =>
    intro hn
    show jht f t a n + _ = jht g t a n + _
    rw [ih (by omega), e _ (by omega) (by omega)]
theorem jPc_c {f g : Nat → Int32} {t a b : Nat} (ht : t < 30) (e : ∀ i, 18820 ≤ i → i < 46540 → f i = g i) (h : jPc f t a b) : jPc g t a b := by
  refine ⟨h.1, fun n hn => ?_⟩
  have hb := h.1
  have e1 := e (18944 + 924 * t + 2 * (a + n)) (by omega) (by omega)
  have e2 := e (18944 + 924 * t + 2 * (a + n) + 1) (by omega) (by omega)
  have e3 := jht_c (f := f) (g := g) (a := a) ht e n (by omega)
  have k := h.2 n hn
  rw [e1, e2, e3] at k
  refine ⟨k.1, k.2.1, fun q => ?_⟩
  obtain ⟨r, r1, r2, r3, r4⟩ := k.2.2 q
  exact ⟨r, r1, r2, r3, by rw [← jht_c (f := f) (g := g) ht e r (by omega)]; exact r4⟩
theorem jWv_c {f g : Nat → Int32} (e : ∀ i, 18820 ≤ i → i < 46540 → f i = g i) (h : jWv f) : jWv g := by
  intro t c ht hc hn
  have k := h t c ht hc (by rw [e _ (by omega) (by omega)]; exact hn)
  have e0 : ∀ j, j < 10 → jcv f t c j = jcv g t c j := fun j hj => by unfold jcv; rw [e _ (by omega) (by omega)]
  refine ⟨?_, ?_, fun x hx => ?_⟩
  · rw [← e0 0 (by omega), ← e0 2 (by omega), ← e0 3 (by omega)]; exact k.1
  · rw [← e0 2 (by omega)]; exact k.2.1
  · obtain ⟨a, b, k1, k2, k3⟩ := k.2.2 x hx
    exact ⟨a, b, by rw [← e0 x (by omega)]; exact k1, by rw [← e0 (x + 1) (by omega)]; exact k2, jPc_c ht e k3⟩
theorem jB_wr {h : jH} {k : Nat} {x : Int32} (B : jB h) (h1 : jWv (jiv (jsi h 126 k x) 126)) (h2 : jSpt (jiv (jsi h 126 k x) 126)) : jB (jsi h 126 k x) := by
  obtain ⟨b1, b2, b3, b4, b5, b6, b7⟩ := B
  have e7 : ∀ i, jiv (jsi h 126 k x) 127 i = jiv h 127 i := fun i => iv_si rfl rfl
  refine ⟨b1, fun t a ht q => jTx_i rfl rfl (b2 t a ht q), h1, fun j hj => ?_, fun s p hs hp q => ?_, h2, fun j hj => ?_⟩
  · exact jWv_c (fun i _ _ => (e7 _).symm) (b4 j hj)
  · have e1 : jiv (jsi h 126 k x) 132 s = jiv h 132 s := iv_si rfl rfl
    have e2 : jiv (jsi h 126 k x) 133 (16 * s + 2 * p) = jiv h 133 (16 * s + 2 * p) := iv_si rfl rfl
    rw [e1] at q
    rw [e2]
    exact b5 s p hs hp q
  · intro n n40 hn
    have hn2 : (n : Int) < (jiv h 127 (50660 * j + 9)).toInt := by rw [← e7]; exact hn
    have := b7 j hj n n40 hn2
    show 1 ≤ (jiv (jsi h 126 k x) 127 (50660 * j + (47660 + 6 * n + 3))).toInt
    rw [e7]
    exact this
theorem jrow_ne {h : jH} {k i : Nat} {x : Int32} (e : i ≠ k) : jiv (jsi h 126 k x) 126 i = jiv h 126 i := iv_si (by rw [jbne e, Bool.and_false]) rfl
theorem jB_sp {h : jH} {i x g : Int32} (B : jB h) (q9 : jiv h 126 (9 : Int32).toNatClampNeg = g) (hi : 0 ≤ g.toInt ∧ 47660 + 6 * g.toInt ≤ i.toInt ∧ i.toInt < 47900) : jB (jsi h 126 i.toNatClampNeg x) := by
  have e9 : (9 : Int32).toNatClampNeg = 9 := by decide
  rw [e9] at q9
  have e := jcl_nat (i := i) rfl (by omega)
  refine jB_wr B (jWv_c (fun j j1 j2 => (jrow_ne (by omega)).symm) B.2.2.1) (fun n n40 hn => ?_)
  rw [jrow_ne (by omega)] at hn
  rw [q9] at hn
  rw [jrow_ne (by omega)]
  exact B.2.2.2.2.2.1 n n40 (by rw [q9]; exact hn)
theorem jB_s9 {h : jH} {x g v j : Int32} (B : jB h) (q9 : jiv h 126 (9 : Int32).toNatClampNeg = g) (hx : x.toInt = g.toInt + 1 ∧ 0 ≤ g.toInt ∧ g.toInt ≤ 39) (q3 : jiv h 126 j.toNatClampNeg = v) (hj : j.toInt = 47660 + 6 * g.toInt + 3) (hv : 1 ≤ v.toInt) : jB (jsi h 126 (9 : Int32).toNatClampNeg x) := by
  have e9 : (9 : Int32).toNatClampNeg = 9 := by decide
  rw [e9] at q9 ⊢
  have e := jcl_nat (i := j) rfl (by omega)
  refine jB_wr B (jWv_c (fun j j1 j2 => (jrow_ne (by omega)).symm) B.2.2.1) (fun n n40 hn => ?_)
  have e0 : jiv (jsi h 126 9 x) 126 9 = x := iv_eq
  rw [e0] at hn
  rw [jrow_ne (by omega)]
  by_cases c : (n : Int) < g.toInt
  · exact B.2.2.2.2.2.1 n n40 (by rw [q9]; exact c)
  · have : 47660 + 6 * n + 3 = j.toNatClampNeg := by omega
    rw [this, q3]
    exact hv
theorem z_iastB {M : jM} {d K S pc : Nat} {ls : jL} {st : List Value} {h h0 : jH} {k n : Nat} {Q : Option Value → jH → Prop} {Sg : List jSg} {Dy : jH → Prop} {FP : jFp} {N : Nat} {i x : Int32} {m w : Int} {l u : Nat} (hat : jat M pc = some (.iastore, 1)) (hD : jDk Dy) (J : jJ Sg Dy h) (Sm : jSm FP h0 h) (hs : (jtO ++ jtS).lookup 126 = some (100, N)) (hm : i.toInt = m) (hb : 0 ≤ m ∧ m < N ∧ (l : Int) ≤ m ∧ m < u) (hx : x.toInt = w) (hw : jwr Sg 126 m w) (hB : jB (jsi h 126 i.toNatClampNeg x)) (hf : FP.contains (126, l, u) = true) (kk : ∀ hx9, hx9 = jsi h 126 i.toNatClampNeg x → jJ Sg Dy hx9 → jSm FP h0 hx9 → jX M d K S (pc + 1) ls st hx9 k n Q) : jX M d K S pc ls (.int x :: .int i :: .ref 126 :: st) h k n Q := by
  have e := jcl_nat hm hb.1
  have hJ : jRg Sg (jsi h 126 i.toNatClampNeg x) := by
    intro s hs j hj
    by_cases c : s.1 = 126 ∧ j = i.toNatClampNeg
    · obtain ⟨c1, c2⟩ := c
      subst c2
      have e : jiv (jsi h 126 i.toNatClampNeg x) s.1 i.toNatClampNeg = x := by rw [c1]; exact iv_eq
      rw [e]
      exact jwr_at hm hb.1 hx hw s hs c1 hj
    · have e : jiv (jsi h 126 i.toNatClampNeg x) s.1 j = jiv h s.1 j := by
        refine iv_si ?_ rfl
        cases c1 : Nat.beq s.1 126
        · rfl
        · cases c2 : Nat.beq j i.toNatClampNeg
          · rfl
          · exact absurd ⟨Nat.eq_of_beq_eq_true c1, Nat.eq_of_beq_eq_true c2⟩ c
      rw [e]
      exact J.2.1 s hs j hj
  exact x_iast hat (J.1.1 126 _ hs) rfl (vpi (by rw [hm]; omega)) (kk _ rfl ⟨⟨J.1.1, J.1.2⟩, hJ, hD.2.2.2.2.2.2 h _ rfl (fun _ => rfl) (fun _ _ => rfl) (fun a j ha => ⟨iv_si (by rw [jbne (show a ≠ 126 by omega)]; rfl) rfl, rfl⟩) (fun j => iv_si rfl rfl) J.2.2 hB⟩ (jSm_si Sm (jfo_of hf ⟨by omega, by omega⟩)))
/-! how many CLAUSES count at most -/
def jA (f : Nat → Int32) : Nat → Int
  | 0 => 0
  | k + 1 => jA f k + (if (f (18820 + 924 * (k % 360 / 12))).toInt = ((k / 360 : Nat) : Int) then 1 else 0)
theorem jA_s (f : Nat → Int32) (k : Nat) : jA f k ≤ jA f (k + 1) ∧ jA f (k + 1) ≤ jA f k + 1 := by
  show jA f k ≤ jA f k + _ ∧ jA f k + _ ≤ _
  split <;> omega
theorem jA_add (f : Nat → Int32) (m : Nat) : ∀ d, jA f m ≤ jA f (m + d) ∧ jA f (m + d) ≤ jA f m + d := by
  intro d
  induction d with
  | zero => exact ⟨Int.le_refl _, by simp⟩
  | succ d ih =>
    have := jA_s f (m + d)
    rw [show m + (d + 1) = m + d + 1 from rfl]
    omega
theorem jA_ab (f : Nat → Int32) : ∀ j, j ≤ 360 → jA f j + (jA f (360 + j) - jA f 360) ≤ j := by
  intro j
  induction j with
  | zero =>
    intro _
    have e : jA f (360 + 0) = jA f 360 := congrArg (jA f) (Nat.add_zero 360)
    have e0 : jA f 0 = 0 := rfl
    rw [e, e0]
    omega
  | succ j ih =>
    intro hj
    have ih := ih (by omega)
    have e1 : jA f (j + 1) = jA f j + (if (f (18820 + 924 * (j % 360 / 12))).toInt = ((j / 360 : Nat) : Int) then 1 else 0) := rfl
    have e2 : jA f (360 + (j + 1)) = jA f (360 + j) + (if (f (18820 + 924 * ((360 + j) % 360 / 12))).toInt = (((360 + j) / 360 : Nat) : Int) then 1 else 0) := rfl
    rw [show (360 + j) % 360 / 12 = j % 360 / 12 by omega, show (360 + j) / 360 = 1 by omega] at e2
    rw [show j / 360 = 0 by omega] at e1
    split at e1 <;> split at e2 <;> omega
theorem jA_le360 (f : Nat → Int32) {k : Nat} (hk : k ≤ 720) : jA f k ≤ 360 := by
  have e0 : jA f 0 = 0 := rfl
  by_cases c : k ≤ 360
  · have := jA_add f 0 k
    rw [Nat.zero_add] at this
    omega
  · obtain ⟨j, rfl⟩ : ∃ j, k = 360 + j := ⟨k - 360, by omega⟩
    have h1 := jA_ab f j (by omega)
    have h2 := jA_add f j (360 - j)
    rw [show j + (360 - j) = 360 by omega] at h2
    omega
theorem jA_00 {f : Nat → Int32} : (0 : Int32).toInt ≤ jA f (0 : Int32).toInt.toNat := by
  have e : (0 : Int32).toInt = 0 := by decide
  rw [e]
  exact Int.le_refl 0
theorem jA_le {f : Nat → Int32} {n k : Int32} (C : n.toInt ≤ jA f k.toInt.toNat) (hk : 0 ≤ k.toInt) : n.toInt ≤ jA f (k.toInt + 1).toNat := by
  rw [show (k.toInt + 1).toNat = k.toInt.toNat + 1 by omega]
  exact Int.le_trans C (jA_s f _).1
theorem jA_max {f : Nat → Int32} {n k : Int32} (C : n.toInt ≤ jA f k.toInt.toNat) (hk : k.toInt ≤ 720) : n.toInt ≤ 360 := Int.le_trans C (jA_le360 f (by omega))
/-- a footprint without the reference's TEXTS -/
def jnt (F : jFp) : Bool := F.all (fun q => !(Nat.beq q.1 126 && (Nat.blt 18820 q.2.2 && Nat.blt q.2.1 46540)))
theorem jnt_of {F : jFp} (h : jnt F = true) {k : Nat} (hk : 18820 ≤ k ∧ k < 46540) : jfo F 126 k = false := by
  cases c : jfo F 126 k
  · rfl
  · obtain ⟨q, hq, e⟩ := List.any_eq_true.mp c
    exfalso
    have g : (!(Nat.beq q.1 126 && (Nat.blt 18820 q.2.2 && Nat.blt q.2.1 46540))) = true := List.all_eq_true.mp h q hq
    rw [Bool.not_eq_true'] at g
    have g2 : ¬ ((Nat.beq q.1 126 && (Nat.blt 18820 q.2.2 && Nat.blt q.2.1 46540)) = true) := by rw [g]; exact Bool.false_ne_true
    apply g2
    simp only [Bool.and_eq_true, Nat.beq_eq, Nat.ble_eq, Nat.blt_eq] at e ⊢
    omega
theorem jtx_same {F : jFp} {h0 h : jH} (S : jSm F h0 h) (e : jnt F = true) : ∀ i, 18820 ≤ i → i < 46540 → jiv h 126 i = jiv h0 126 i := fun i h1 h2 => (S.2.2 126 i (Or.inl rfl) (jnt_of e ⟨h1, h2⟩)).1
theorem jA_hit2 {F : jFp} {h0 h : jH} {n k i v : Int32} (S : jSm F h0 h) (e : jnt F = true) (C : n.toInt ≤ jA (jiv h0 126) k.toInt.toNat) (hk : 0 ≤ k.toInt ∧ k.toInt < 720) (hi : i.toInt = 18820 + 924 * (k.toInt % 360 / 12)) (q : jiv h 126 i.toNatClampNeg = v) (hv : v.toInt = k.toInt / 360) : n.toInt + 1 ≤ jA (jiv h0 126) (k.toInt + 1).toNat ∧ n.toInt + 1 ≤ 360 := by
  have e1 := jrow_at hi (n := 18820 + 924 * (k.toInt.toNat % 360 / 12)) (by omega) q
  rw [jtx_same S e _ (by omega) (by omega)] at e1
  have e2 : jA (jiv h0 126) (k.toInt + 1).toNat = jA (jiv h0 126) k.toInt.toNat + 1 := by
    rw [show (k.toInt + 1).toNat = k.toInt.toNat + 1 by omega]
    show _ + (if _ then _ else _) = _
    rw [if_pos]
    rw [e1, hv]
    omega
  have e3 := jA_le360 (jiv h0 126) (k := (k.toInt + 1).toNat) (by omega)
  omega
/-! a stretch of a TEXT's signs gone through -/
theorem jht_le (f : Nat → Int32) (t a : Nat) : ∀ n, jht f t a n ≤ n := by
  intro n
  induction n with
  | zero => exact Int.le_refl _
  | succ n ih =>
    show jht f t a n + jwt _ ≤ _
    have : ∀ o, jwt o ≤ 1 := fun o => by unfold jwt; repeat' split <;> omega
    have := this (f (18944 + 924 * t + 2 * (a + n))).toInt
    omega
theorem jht_nn {f : Nat → Int32} {t a b : Nat} (hP : jPc f t a b) : ∀ n, a + n ≤ b → 0 ≤ jht f t a n := by
  intro n
  induction n with
  | zero => intro _; exact Int.le_refl _
  | succ n ih =>
    intro hn
    have ih := ih (by omega)
    have k := hP.2 n (by omega)
    show 0 ≤ jht f t a n + jwt _
    have k1 := k.1
    have k2 := k.2.1
    generalize (f (18944 + 924 * t + 2 * (a + n))).toInt = o at k1 k2
    unfold jwt
    split
    · omega
    · split
      · have := k1 (by omega) (by omega); omega
      · split
        · omega
        · split
          · have := k2 (by omega); omega
          · have := k2 (by omega); omega
theorem jrun_0 {F : Nat → Int32} {T A B : Nat} {k : Int32} (x : k.toInt = (A : Int)) : ((A : Int) ≤ k.toInt ∧ (k.toInt ≤ (B : Int) ∨ k.toInt = (A : Int)) ∧ (0 : Int32).toInt = jht F T A (k.toInt - (A : Int)).toNat) := by
  refine ⟨by omega, Or.inr x, ?_⟩
  rw [show (k.toInt - (A : Int)).toNat = 0 by omega]
  show (0 : Int32).toInt = 0
  decide
theorem jrun {G : jFp} {h0 h : jH} {F : Nat → Int32} {T A B : Nat} {x n k i j o g : Int32} (hT : T < 30) (hP : jPc F T A B) (hF : ∀ i, 18820 ≤ i → i < 46540 → jiv h0 126 i = F i) (S : jSm G h0 h) (hG : jnt G = true) (C : (A : Int) ≤ k.toInt ∧ (k.toInt ≤ (B : Int) ∨ k.toInt = (A : Int)) ∧ n.toInt = jht F T A (k.toInt - (A : Int)).toNat) (hx : x.toInt = (T : Int)) (hk : k.toInt < (B : Int)) (hi : i.toInt = 18944 + 924 * x.toInt + 2 * k.toInt) (q : jiv h 126 i.toNatClampNeg = o) (hj : j.toInt = 18944 + 924 * x.toInt + 2 * k.toInt + 1) (qj : jiv h 126 j.toNatClampNeg = g) :
    (0 ≤ n.toInt ∧ n.toInt ≤ 399) ∧ (o.toInt < 6 ∨ 12 < o.toInt ∨ 2 ≤ n.toInt) ∧ (o.toInt < 18 ∨ 1 ≤ n.toInt) ∧
    ((o.toInt < 6 ∧ jht F T A (k.toInt + 1 - (A : Int)).toNat = n.toInt + 1) ∨ (6 ≤ o.toInt ∧ o.toInt ≤ 12 ∧ jht F T A (k.toInt + 1 - (A : Int)).toNat = n.toInt - 1) ∨ (13 ≤ o.toInt ∧ o.toInt < 18 ∧ jht F T A (k.toInt + 1 - (A : Int)).toNat = n.toInt + 1) ∨ (o.toInt = 18 ∧ jht F T A (k.toInt + 1 - (A : Int)).toNat = n.toInt) ∨ (18 < o.toInt ∧ jht F T A (k.toInt + 1 - (A : Int)).toNat = n.toInt - 1)) ∧
    (o.toInt ≤ 18 ∨ (k.toInt + 1 ≤ g.toInt ∧ g.toInt ≤ (B : Int) ∧ jht F T A (g.toInt - (A : Int)).toNat = n.toInt)) := by
  have hB := hP.1
  obtain ⟨m, hm⟩ : ∃ m : Nat, k.toInt = ((A + m : Nat) : Int) := ⟨(k.toInt - (A : Int)).toNat, by omega⟩
  have e0 : (k.toInt - (A : Int)).toNat = m := by omega
  have e1 : (k.toInt + 1 - (A : Int)).toNat = m + 1 := by omega
  have p1 := jrow_at hi (n := 18944 + 924 * T + 2 * (A + m)) (by omega) q
  have p2 := jrow_at hj (n := 18944 + 924 * T + 2 * (A + m) + 1) (by omega) qj
  rw [jtx_same S hG _ (by omega) (by omega), hF _ (by omega) (by omega)] at p1 p2
  have w := hP.2 m (by omega)
  rw [p1, p2] at w
  have c3 := C.2.2
  rw [e0] at c3
  have l1 := jht_le F T A m
  have l2 := jht_nn hP m (by omega)
  have st : jht F T A (m + 1) = jht F T A m + jwt o.toInt := by show _ + jwt _ = _; rw [p1]
  rw [e1, st, ← c3]
  rw [← c3] at w l1 l2
  refine ⟨⟨l2, by omega⟩, ?_, ?_, ?_, ?_⟩
  · by_cases c : 6 ≤ o.toInt ∧ o.toInt ≤ 12
    · exact Or.inr (Or.inr (w.1 c.1 c.2))
    · omega
  · by_cases c : 18 ≤ o.toInt
    · exact Or.inr (w.2.1 c)
    · omega
  · unfold jwt
    split
    · omega
    · split
      · omega
      · split
        · omega
        · split <;> omega
  · by_cases c : 18 < o.toInt
    · obtain ⟨r, r1, r2, r3, r4⟩ := w.2.2 c
      refine Or.inr ⟨by omega, by omega, ?_⟩
      rw [show (g.toInt - (A : Int)).toNat = r by omega, r4]
    · omega
theorem jwv_p {h : jH} {Sg : List jSg} {Dy : jH → Prop} {i j v w : Int32} {t c : Int} {e : Nat} (hD : jDk Dy) (J : jJ Sg Dy h) (ht : 0 ≤ t ∧ t < 30) (hc : 0 ≤ c ∧ c < 12) (hn : jCn h t c) (he : e = 4 ∨ e = 6 ∨ e = 8) (hi : i.toInt = 18824 + 924 * t + 10 * c + e) (q : jiv h 126 i.toNatClampNeg = v) (hj : j.toInt = 18824 + 924 * t + 10 * c + ((e + 1 : Nat) : Int)) (qj : jiv h 126 j.toNatClampNeg = w) : ∃ A B : Nat, v.toInt = (A : Int) ∧ w.toInt = (B : Int) ∧ jPc (jiv h 126) t.toNat A B := by
  obtain ⟨a, b, k1, k2, k3⟩ := (jwv_of hD J ht hc hn).2.2 e he
  rw [jcv_at ht hc hi q] at k1
  rw [jcv_at (e := e + 1) ht hc hj qj] at k2
  exact ⟨a, b, k1, k2, k3⟩
