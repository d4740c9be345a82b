/-! the reference's: places of several rows, SPELLINGS -/
theorem jrg_w {x lo hi lo' hi' : Int} (h : lo ≤ x ∧ x ≤ hi) (w : lo' ≤ lo ∧ hi ≤ hi') : lo' ≤ x ∧ x ≤ hi' := ⟨Int.le_trans w.1 h.1, Int.le_trans h.2 w.2⟩
theorem z_ialdU {M : jM} {d K S pc : Nat} {ls : jL} {st : List Value} {h : jH} {k n : Nat} {Q : Option Value → jH → Prop} {Sg : List jSg} {Dy : jH → Prop} {a N : Nat} {i : Int32} {m lo hi : Int} (hat : jat M pc = some (.iaload, 1)) (J : jJ Sg Dy h) (hs : (jtO ++ jtS).lookup a = some (100, N)) (hm : i.toInt = m) (hb : 0 ≤ m ∧ m < N) (hr : lo ≤ (jiv h a i.toNatClampNeg).toInt ∧ (jiv h a i.toNatClampNeg).toInt ≤ hi) (kk : ∀ v : Int32, jiv h a i.toNatClampNeg = v → lo ≤ v.toInt ∧ v.toInt ≤ hi → jX M d K S (pc + 1) ls (.int v :: st) h k n Q) : jX M d K S pc ls (.int i :: .ref a :: st) h k n Q :=
  x_iald hat (J.1.1 a _ hs) (vpi (by rw [hm]; omega)) (kk _ rfl hr)
/-- a SPELLING's left side has a letter -/
theorem jspl_at {h : jH} {Sg : List jSg} {Dy : jH → Prop} {s i g v : Int32} {p : Int} (hD : jDk Dy) (J : jJ Sg Dy h) (hs : 0 ≤ s.toInt ∧ s.toInt < 16) (hi : i.toInt = 16 * s.toInt + 2 * p) (hp : 0 ≤ p ∧ p < 8 ∧ p < g.toInt) (q : jiv h 132 s.toNatClampNeg = g) (qv : jiv h 133 i.toNatClampNeg = v) : 1 ≤ v.toInt := by
  have e1 := jcl_nat (i := s) rfl hs.1
  have e2 := jcl_nat (i := i) rfl (by omega)
  have hp2 : (p.toNat : Int) = p := by omega
  have := (hD.2.2.2.1 h J.2.2).2.2.2.2.1 s.toNatClampNeg p.toNat (by omega) (by omega) (by rw [q]; omega)
  have e3 : 16 * s.toNatClampNeg + 2 * p.toNat = i.toNatClampNeg := by omega
  rw [e3, qv] at this
  exact this
theorem jrow_at {h : jH} {i v : Int32} {m : Int} {n : Nat} (hi : i.toInt = m) (hm : m = (n : Int)) (q : jiv h 126 i.toNatClampNeg = v) : (jiv h 126 n).toInt = v.toInt := by
  have e := jcl_nat hi (by omega)
  have : i.toNatClampNeg = n := by omega
  rw [← this, q]
/-! a clause that stands -/
def jCn (h : jH) (t c : Int) : Prop := c < (jiv h 126 (18823 + 924 * t.toNat)).toInt
theorem jcn {h : jH} {x n : Int32} {t c : Int} (q : jiv h 126 x.toNatClampNeg = n) (e : x.toInt = 18823 + 924 * t) (ht : 0 ≤ t) (hc : c < n.toInt) : jCn h t c := by
  unfold jCn
  have a := jcl_nat (i := x) rfl (by omega)
  rw [show 18823 + 924 * t.toNat = x.toNatClampNeg from by omega, q]
  exact hc
theorem jcn_s {F : jFp} {h hx9 : jH} {t c : Int} (S : jSm F h hx9) (e : (F.all fun q => !Nat.beq q.1 126) = true) (C : jCn h t c) : jCn hx9 t c := by
  unfold jCn
  have : jfo F 126 (18823 + 924 * t.toNat) = false := by
    unfold jfo
    rw [List.any_eq_false]
    intro q hq
    have := (List.all_eq_true.mp e) q hq
    revert this
    cases Nat.beq q.1 126 <;> simp
  rw [(S.2.2 126 _ (Or.inl rfl) this).1]
  exact C
def jTc (v : Int32) (h : jH) : Prop := v.toInt = -1 ∨ jCn h (v.toInt / 12) (v.toInt % 12)
theorem jtc_n {h : jH} {v t c : Int32} (C : jCn h t.toInt c.toInt) (e : v.toInt = 12 * t.toInt + c.toInt) (hc : 0 ≤ c.toInt ∧ c.toInt < 12 ∧ 0 ≤ t.toInt) : jTc v h := by
  refine Or.inr ?_
  rw [show v.toInt / 12 = t.toInt from by omega, show v.toInt % 12 = c.toInt from by omega]
  exact C
theorem jtc_h {h : jH} {v t c : Int32} (C : jTc v h) (hv : v.toInt ≠ -1) (e1 : t.toInt = v.toInt / 12) (e2 : c.toInt = v.toInt % 12) : jCn h t.toInt c.toInt := by
  rw [e1, e2]
  exact C.resolve_left hv
section ZW
variable {h : jH} {Sg : List jSg} {Dy : jH → Prop} {i j v w : Int32} {t c : Int}
theorem jwv_of (hD : jDk Dy) (J : jJ Sg Dy h) (ht : 0 ≤ t ∧ t < 30) (hc : 0 ≤ c ∧ c < 12) (hn : jCn h t c) : (jcv (jiv h 126) t.toNat c.toNat 0 = 0 → 0 ≤ jcv (jiv h 126) t.toNat c.toNat 2 ∧ jcv (jiv h 126) t.toNat c.toNat 2 ≤ 29 ∧ 0 ≤ jcv (jiv h 126) t.toNat c.toNat 3 ∧ jcv (jiv h 126) t.toNat c.toNat 3 ≤ 11) ∧ (0 ≤ jcv (jiv h 126) t.toNat c.toNat 2 ∧ jcv (jiv h 126) t.toNat c.toNat 2 ≤ 399) ∧
    ∀ e, e = 4 ∨ e = 6 ∨ e = 8 → ∃ a b : Nat, jcv (jiv h 126) t.toNat c.toNat e = a ∧ jcv (jiv h 126) t.toNat c.toNat (e + 1) = b ∧ jPc (jiv h 126) t.toNat a b :=
  (hD.2.2.2.1 h J.2.2).2.2.1 t.toNat c.toNat (by omega) (by omega) (by rw [show (c.toNat : Int) = c from by omega]; exact hn)
theorem jcv_at {e : Nat} (ht : 0 ≤ t ∧ t < 30) (hc : 0 ≤ c ∧ c < 12) (hi : i.toInt = 18824 + 924 * t + 10 * c + e) (q : jiv h 126 i.toNatClampNeg = v) : jcv (jiv h 126) t.toNat c.toNat e = v.toInt := by
  unfold jcv
  refine jrow_at hi ?_ q
  omega
theorem jwv_2 (hD : jDk Dy) (J : jJ Sg Dy h) (ht : 0 ≤ t ∧ t < 30) (hc : 0 ≤ c ∧ c < 12) (hn : jCn h t c) (hi : i.toInt = 18824 + 924 * t + 10 * c + 2) (q : jiv h 126 i.toNatClampNeg = v) : 0 ≤ v.toInt ∧ v.toInt ≤ 399 := by
  have e := (jwv_of hD J ht hc hn).2.1
  rw [jcv_at ht hc hi q] at e
  exact e
theorem jwv_s2 (hD : jDk Dy) (J : jJ Sg Dy h) (ht : 0 ≤ t ∧ t < 30) (hc : 0 ≤ c ∧ c < 12) (hn : jCn h t c) (hi : i.toInt = 18824 + 924 * t + 10 * c + 2) (q : jiv h 126 i.toNatClampNeg = v) (hj : j.toInt = 18824 + 924 * t + 10 * c) (qj : jiv h 126 j.toNatClampNeg = w) (hw : w.toInt = 0) : 0 ≤ v.toInt ∧ v.toInt ≤ 29 := by
  have e := (jwv_of hD J ht hc hn).1 (by rw [jcv_at (e := 0) ht hc (by omega) qj]; exact hw)
  rw [jcv_at ht hc hi q] at e
  exact ⟨e.1, e.2.1⟩
theorem jwv_s3 (hD : jDk Dy) (J : jJ Sg Dy h) (ht : 0 ≤ t ∧ t < 30) (hc : 0 ≤ c ∧ c < 12) (hn : jCn h t c) (hi : i.toInt = 18824 + 924 * t + 10 * c + 3) (q : jiv h 126 i.toNatClampNeg = v) (hj : j.toInt = 18824 + 924 * t + 10 * c) (qj : jiv h 126 j.toNatClampNeg = w) (hw : w.toInt = 0) : 0 ≤ v.toInt ∧ v.toInt ≤ 11 := by
  have e := (jwv_of hD J ht hc hn).1 (by rw [jcv_at (e := 0) ht hc (by omega) qj]; exact hw)
  rw [jcv_at (e := 3) ht hc hi q] at e
  exact ⟨e.2.2.1, e.2.2.2⟩
end ZW
theorem z_lneg1 {M : jM} {d K S pc : Nat} {ls : jL} {st : List Value} {h : jH} {k n : Nat} {Q : Option Value → jH → Prop} {p : Int64} {a : Int} (hat : jat M pc = some (.lneg, 1)) (hp : p.toInt = a) (h0 : a ≠ 0) (kk : ∀ v : Int64, v.toInt ≠ 0 → jX M d K S (pc + 1) ls (.long v :: st) h k n Q) : jX M d K S pc ls (.long p :: st) h k n Q :=
  x_lneg hat (kk _ (jneg0 (by rw [hp]; exact h0)))
theorem jspt_at {h : jH} {Sg : List jSg} {Dy : jH → Prop} {i g v : Int32} {p : Int} (hD : jDk Dy) (J : jJ Sg Dy h) (hi : i.toInt = 47660 + 6 * p + 3) (hp : 0 ≤ p ∧ p < g.toInt ∧ p < 40) (q9 : jiv h 126 (9 : Int32).toNatClampNeg = g) (q : jiv h 126 i.toNatClampNeg = v) : 1 ≤ v.toInt := by
  have e9 : (9 : Int32).toNatClampNeg = 9 := by decide
  rw [e9] at q9
  have e := (hD.2.2.2.1 h J.2.2).2.2.2.2.2.1 p.toNat (by omega) (by rw [q9]; omega)
  rw [jrow_at hi (n := 47660 + 6 * p.toNat + 3) (by omega) q] at e
  exact e
