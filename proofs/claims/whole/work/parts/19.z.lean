/-! RANGES: what each int of a heap lies in; rules that take a number as a name with its range -/
abbrev jSg : Type := Nat × Nat × Nat × Nat × Nat × Nat × Int × Int
/-- the place k is of the row s: cell, from, to, stride, first and last offset, least, most -/
def jin (s : jSg) (k : Nat) : Prop := s.2.1 ≤ k ∧ k < s.2.2.1 ∧ s.2.2.2.2.1 ≤ (k - s.2.1) % s.2.2.2.1 ∧ (k - s.2.1) % s.2.2.2.1 < s.2.2.2.2.2.1
def jRg (Sg : List jSg) (h : jH) : Prop := ∀ s ∈ Sg, ∀ k, jin s k → s.2.2.2.2.2.2.1 ≤ (jiv h s.1 k).toInt ∧ (jiv h s.1 k).toInt ≤ s.2.2.2.2.2.2.2
def jtO : List (Nat × (Nat × Nat)) := [(1, (100, 6)), (2, (100, 6)), (3, (100, 8)), (4, (100, 8)), (18, (103, 53)), (19, (103, 7)), (20, (103, 35)), (21, (103, 16)), (22, (103, 35)), (23, (103, 19)), (24, (103, 34)), (25, (103, 3)), (26, (103, 7)), (27, (103, 4)), (28, (103, 34)), (29, (103, 4)), (30, (103, 3))]
/-- shapes and references that never change -/
def jSt (h : jH) : Prop := (∀ a s, (jtO ++ jtS).lookup a = some s → jsh h a = s) ∧ (∀ q c, jtR.lookup q = some c → jrv h (q / 128) (q % 128) = some c)
abbrev jFp : Type := List (Nat × Nat × Nat)
def jfo (F : jFp) (a k : Nat) : Bool := F.any (fun q => Nat.beq q.1 a && Nat.ble q.2.1 k && Nat.blt k q.2.2)
/-- h differs from h0 at places of F alone, and by new cells -/
def jSm (F : jFp) (h0 h : jH) : Prop := jnx h0 ≤ jnx h ∧ (∀ a, Nat.blt a 174 = true ∨ a < jnx h0 → jsh h a = jsh h0 a) ∧ ∀ a k, Nat.blt a 174 = true ∨ a < jnx h0 → jfo F a k = false → jiv h a k = jiv h0 a k ∧ jlv h a k = jlv h0 a k ∧ jrv h a k = jrv h0 a k
def jfs (F G : jFp) : Bool := F.all (fun q => G.contains q)
theorem jfs_in {F G : jFp} (h : jfs F G = true) {q : Nat × Nat × Nat} (m : F.contains q = true) : G.contains q = true := List.all_eq_true.mp h q (List.contains_iff_mem.mp m)
theorem jfs_tr {E F G : jFp} (h1 : jfs E F = true) (h2 : jfs F G = true) : jfs E G = true := List.all_eq_true.mpr fun q hq => jfs_in h2 (List.all_eq_true.mp h1 q hq)
theorem jfo_of {F : jFp} {a l u k : Nat} (m : F.contains (a, l, u) = true) (hk : l ≤ k ∧ k < u) : jfo F a k = true := by
  refine List.any_eq_true.mpr ⟨(a, l, u), List.contains_iff_mem.mp m, ?_⟩
  show (Nat.beq a a && Nat.ble l k && Nat.blt k u) = true
  rw [Nat.beq_refl, Nat.ble_eq.mpr hk.1, Nat.blt_eq.mpr hk.2]
  rfl
theorem jSm_ex {F : jFp} {h0 h hx9 : jH} {a k0 : Nat} (S : jSm F h0 h) (hx : jEx a h hx9) (e : ∀ k, k ≠ k0 → jiv hx9 a k = jiv h a k ∧ jlv hx9 a k = jlv h a k ∧ jrv hx9 a k = jrv h a k) (hk : jfo F a k0 = true) : jSm F h0 hx9 := by
  refine ⟨by rw [hx.2.1]; exact S.1, fun b hb => ?_, fun b k hb g => ?_⟩
  · have : jsh hx9 b = jsh h b := by unfold jsh; rw [hx.1]
    exact this.trans (S.2.1 b hb)
  · have := S.2.2 b k hb g
    by_cases c : b = a
    · subst c
      have c2 : k ≠ k0 := fun z => by subst z; rw [hk] at g; cases g
      have e2 := e k c2
      exact ⟨e2.1.trans this.1, e2.2.1.trans this.2.1, e2.2.2.trans this.2.2⟩
    · have e2 := hx.2.2 b c
      exact ⟨(e2.1 k).trans this.1, (e2.2.1 k).trans this.2.1, (e2.2.2 k).trans this.2.2⟩
theorem jbne {a b : Nat} (e : a ≠ b) : Nat.beq a b = false := by
  cases c : Nat.beq a b
  · rfl
  · exact absurd (Nat.eq_of_beq_eq_true c) e
def jJ (Sg : List jSg) (Dy : jH → Prop) (h : jH) : Prop := jSt h ∧ jRg Sg h ∧ Dy h
/-- places that only a few methods write: the reference's TEXTS, IMAGES, SPELLINGS -/
def jpk (a k : Nat) : Bool := Nat.beq a 126 && (Nat.ble 18820 k && Nat.blt k 46540 || (Nat.beq k 9 || Nat.ble 47660 k && Nat.blt k 47900)) || (Nat.beq a 127 || (Nat.beq a 132 || Nat.beq a 133))
def jpr (a l u : Nat) : Bool := Nat.beq a 126 && (Nat.blt 18820 u && Nat.blt l 46540 || (Nat.ble l 9 && Nat.blt 9 u || Nat.blt 47660 u && Nat.blt l 47900)) || (Nat.beq a 127 || (Nat.beq a 132 || Nat.beq a 133))
def jfr (a k : Nat) : Bool := Nat.blt a 174 && !jpk a k
theorem jfr_of {a l u k : Nat} (ha : Nat.blt a 174 = true) (h : jpr a l u = false) (hk : l ≤ k ∧ k < u) : jfr a k = true := by
  unfold jfr
  rw [ha, Bool.true_and]
  have : jpk a k = false := by
    cases c : jpk a k
    · rfl
    · exfalso
      refine (show ¬ (jpr a l u = true) by rw [h]; exact Bool.false_ne_true) ?_
      unfold jpk at c
      unfold jpr
      simp only [Bool.or_eq_true, Bool.and_eq_true, Nat.beq_eq, Nat.ble_eq, Nat.blt_eq] at c ⊢
      omega
  rw [this]
  rfl
/-- a TEXT of the class -/
def jTx (h : jH) (a : Nat) : Prop := (174 ≤ a ∧ a < jnx h ∧ jsh h a = (10, 6)) ∧ (0 ≤ (jiv h a 3).toInt ∧ (jiv h a 3).toInt ≤ 12) ∧
  (∃ b nb : Nat, jrv h a 4 = some b ∧ 174 ≤ b ∧ b < jnx h ∧ jsh h b = (100, nb) ∧ 6 * (jiv h a 3).toInt ≤ nb ∧ nb ≤ 72) ∧ ∃ c nc : Nat, jrv h a 5 = some c ∧ 174 ≤ c ∧ c < jnx h ∧ jsh h c = (100, nc) ∧ nc ≤ 1200
/-- a TEXT's row of numbers -/
def jTa (h : jH) (b n : Nat) : Prop := 174 ≤ b ∧ b < jnx h ∧ jsh h b = (100, n) ∧ n ≤ 1200
def jTs (h : jH) : Prop := ∀ t a, t < 30 → jrv h 66 t = some a → jTx h a
/-- the reference's TEXTS: how much a sign of a SUM or TEST puts on the pile, how high it is behind n of them, whether a stretch can be gone through -/
def jwt (o : Int) : Int := if o < 6 then 1 else if o ≤ 12 then -1 else if o < 18 then 1 else if o = 18 then 0 else -1
def jht (f : Nat → Int32) (t a : Nat) : Nat → Int
  | 0 => 0
  | n + 1 => jht f t a n + jwt (f (18944 + 924 * t + 2 * (a + n))).toInt
def jPc (f : Nat → Int32) (t a b : Nat) : Prop := b ≤ 400 ∧ ∀ n, a + n < b → (6 ≤ (f (18944 + 924 * t + 2 * (a + n))).toInt → (f (18944 + 924 * t + 2 * (a + n))).toInt ≤ 12 → 2 ≤ jht f t a n) ∧ (18 ≤ (f (18944 + 924 * t + 2 * (a + n))).toInt → 1 ≤ jht f t a n) ∧
  (18 < (f (18944 + 924 * t + 2 * (a + n))).toInt → ∃ q : Nat, (f (18944 + 924 * t + 2 * (a + n) + 1)).toInt = ((a + q : Nat) : Int) ∧ n < q ∧ a + q ≤ b ∧ jht f t a q = jht f t a n)
def jcv (f : Nat → Int32) (t c e : Nat) : Int := (f (18824 + 924 * t + 10 * c + e)).toInt
def jWv (f : Nat → Int32) : Prop := ∀ t c : Nat, t < 30 → c < 12 → (c : Int) < (f (18823 + 924 * t)).toInt → (jcv f t c 0 = 0 → 0 ≤ jcv f t c 2 ∧ jcv f t c 2 ≤ 29 ∧ 0 ≤ jcv f t c 3 ∧ jcv f t c 3 ≤ 11) ∧ (0 ≤ jcv f t c 2 ∧ jcv f t c 2 ≤ 399) ∧
  ∀ e, e = 4 ∨ e = 6 ∨ e = 8 → ∃ a b : Nat, jcv f t c e = a ∧ jcv f t c (e + 1) = b ∧ jPc f t a b
/-- the reference's SPELLINGS: what is written has a letter -/
def jSpl (h : jH) : Prop := ∀ s p : Nat, s < 16 → p < 8 → (p : Int) < (jiv h 132 s).toInt → 1 ≤ (jiv h 133 (16 * s + 2 * p)).toInt
/-- the reference's SPLITS: no part of nothing -/
def jSpt (f : Nat → Int32) : Prop := ∀ k : Nat, k < 40 → (k : Int) < (f 9).toInt → 1 ≤ (f (47660 + 6 * k + 3)).toInt
def jB (h : jH) : Prop := 174 ≤ jnx h ∧ jTs h ∧ jWv (jiv h 126) ∧ (∀ k, k < 4 → jWv (fun i => jiv h 127 (50660 * k + i))) ∧ jSpl h ∧ jSpt (jiv h 126) ∧ ∀ k, k < 4 → jSpt (fun i => jiv h 127 (50660 * k + i))
/-- Dy says jB, and numbers written to the two objects' own cells, but for those that few methods write, don't touch it; nor do new cells, nor a TEXT put beside the others -/
def jDk (Dy : jH → Prop) : Prop := (∀ h a k v, jfr a k = true → Dy h → Dy (jsi h a k v)) ∧ (∀ h a k v, Nat.blt a 174 = true → Dy h → Dy (jsl h a k v)) ∧ (∀ h b a i j l, (Nat.blt a 174 && !jpr a 0 50660) = true → Dy h → Dy (jci h b a i j l)) ∧ (∀ h, Dy h → jB h) ∧ (∀ h t a, t < 30 → jTx h a → Dy h → Dy (jsr h 66 t (some a))) ∧ (∀ h hx9, jSm [] h hx9 → Dy h → Dy hx9) ∧ ∀ h hx9, jnx hx9 = jnx h → (∀ a, jsh hx9 a = jsh h a) → (∀ a k, jrv hx9 a k = jrv h a k) → (∀ a k, 174 ≤ a → jiv hx9 a k = jiv h a k ∧ jlv hx9 a k = jlv h a k) → (∀ k, jiv hx9 127 k = jiv h 127 k) → Dy h → jB hx9 → Dy hx9
theorem jJ_si {Sg : List jSg} {Dy : jH → Prop} {h : jH} {a k : Nat} {v : Int32} (hD : jDk Dy) (J : jJ Sg Dy h) (ha : jfr a k = true) (hw : ∀ s ∈ Sg, s.1 = a → jin s k → s.2.2.2.2.2.2.1 ≤ v.toInt ∧ v.toInt ≤ s.2.2.2.2.2.2.2) : jJ Sg Dy (jsi h a k v) := by
  refine ⟨⟨J.1.1, J.1.2⟩, fun s hs j hj => ?_, hD.1 h a k v ha J.2.2⟩
  by_cases c : s.1 = a ∧ j = k
  · obtain ⟨c1, c2⟩ := c
    subst c2
    have e : jiv (jsi h a j v) s.1 j = v := by rw [c1]; exact iv_eq
    rw [e]
    exact hw s hs c1 hj
  · have e : jiv (jsi h a k v) s.1 j = jiv h s.1 j := by
      refine iv_si ?_ rfl
      cases c1 : Nat.beq s.1 a
      · rfl
      · cases c2 : Nat.beq j k
        · rfl
        · exact absurd ⟨Nat.eq_of_beq_eq_true c1, Nat.eq_of_beq_eq_true c2⟩ c
    rw [e]
    exact J.2.1 s hs j hj
theorem jJ_sl {Sg : List jSg} {Dy : jH → Prop} {h : jH} {a k : Nat} {v : Int64} (hD : jDk Dy) (J : jJ Sg Dy h) (ha : Nat.blt a 174 = true) : jJ Sg Dy (jsl h a k v) := ⟨⟨J.1.1, J.1.2⟩, fun s hs j hj => J.2.1 s hs j hj, hD.2.1 h a k v ha J.2.2⟩
theorem jSm_si {F : jFp} {h0 h : jH} {a k : Nat} {v : Int32} (S : jSm F h0 h) (hk : jfo F a k = true) : jSm F h0 (jsi h a k v) :=
  jSm_ex S (jEx_si h a k v) (fun j hj => ⟨iv_si (by rw [jbne hj, Bool.and_false]) rfl, rfl, rfl⟩) hk
theorem jSm_sl {F : jFp} {h0 h : jH} {a k : Nat} {v : Int64} (S : jSm F h0 h) (hk : jfo F a k = true) : jSm F h0 (jsl h a k v) :=
  jSm_ex S (jEx_sl h a k v) (fun j hj => ⟨rfl, lv_sl (by rw [jbne hj, Bool.and_false]) rfl, rfl⟩) hk
theorem jSm_rf (F : jFp) (h : jH) : jSm F h h := ⟨Nat.le_refl _, fun _ _ => rfl, fun _ _ _ _ => ⟨rfl, rfl, rfl⟩⟩
def jsb (ls : jL) : jL → Prop
  | [] => True
  | q :: r => ls.lookup q.1 = some q.2 ∧ jsb ls r
theorem jsb_n {ls : jL} : jsb ls [] := trivial
theorem jsb_c {ls r : jL} {i : Nat} {v : Value} (h : ls.lookup i = some v) (q : jsb ls r) : jsb ls ((i, v) :: r) := ⟨h, q⟩
theorem jsb_mem {ls : jL} : ∀ {lsx9 : jL}, jsb ls lsx9 → ∀ q ∈ lsx9, q ∈ ls := by
  intro lsx9
  induction lsx9 with
  | nil => intro _ q hq; cases hq
  | cons a r ih =>
    intro h q hq
    rcases List.mem_cons.mp hq with rfl | hq
    · exact jlk_mem h.1
    · exact ih h.2 q hq
theorem jX.sub {M : jM} {d K S pc : Nat} {ls lsx9 : jL} {st : List Value} {h : jH} {k n : Nat} {Q : Option Value → jH → Prop} (hs : jsb ls lsx9) (kk : jX M d K S pc lsx9 st h k n Q) : jX M d K S pc ls st h k n Q := by
  intro p l e R s m args below meth c D lo ad H locs lA hc hV hA hP hl hL h1 h2
  refine kk p l e R s m args below meth c D lo ad H locs lA hc hV hA hP ⟨hl.1, hl.2.1, fun q hq => ?_⟩ hL h1 h2
  obtain ⟨w, hw, rfl⟩ := List.mem_map.mp hq
  exact hl.2.2 _ (List.mem_map.mpr ⟨w, jsb_mem hs w hw, rfl⟩)
theorem jz_and {x y : Int32} {c : Int} (hy : y.toInt = c) (h0 : 0 ≤ c) : 0 ≤ (x &&& y).toInt ∧ (x &&& y).toInt ≤ c := by
  have hn : (x &&& y).toBitVec.toNat ≤ y.toBitVec.toNat := by
    rw [Int32.toBitVec_and, BitVec.toNat_and]
    exact Nat.and_le_right
  have e1 : y.toInt = y.toBitVec.toInt := rfl
  have e2 : (x &&& y).toInt = (x &&& y).toBitVec.toInt := rfl
  have l1 := y.toBitVec.isLt
  have l2 := (x &&& y).toBitVec.isLt
  rw [BitVec.toInt_eq_toNat_cond] at e1 e2
  rw [hy] at e1
  split at e1 <;> split at e2 <;> omega
section ZR
variable {M : jM} {d K S pc : Nat} {ls : jL} {st : List Value} {h : jH} {k n : Nat} {Q : Option Value → jH → Prop} {x y : Int32} {p q : Int64} {a b : Int}
theorem z_iadd (hat : jat M pc = some (.iadd, 1)) (hx : x.toInt = a) (hy : y.toInt = b) (hb : -2147483648 ≤ a + b ∧ a + b ≤ 2147483647) (kk : ∀ v : Int32, v.toInt = a + b → jX M d K S (pc + 1) ls (.int v :: st) h k n Q) : jX M d K S pc ls (.int y :: .int x :: st) h k n Q := x_iadd hat (kk _ (jaddf hx hy hb))
theorem z_isub (hat : jat M pc = some (.isub, 1)) (hx : x.toInt = a) (hy : y.toInt = b) (hb : -2147483648 ≤ a - b ∧ a - b ≤ 2147483647) (kk : ∀ v : Int32, v.toInt = a - b → jX M d K S (pc + 1) ls (.int v :: st) h k n Q) : jX M d K S pc ls (.int y :: .int x :: st) h k n Q := x_isub hat (kk _ (jsubf hx hy hb))
theorem jmulf (hx : x.toInt = a) (hy : y.toInt = b) (h : -2147483648 ≤ a * b ∧ a * b ≤ 2147483647) : (x * y).toInt = a * b := by
  rw [Int32.toInt_mul, hx, hy]
  exact Int.bmod_eq_of_le (by omega) (by omega)
theorem z_imul (hat : jat M pc = some (.imul, 1)) (hx : x.toInt = a) (hy : y.toInt = b) (hb : -2147483648 ≤ a * b ∧ a * b ≤ 2147483647) (kk : ∀ v : Int32, v.toInt = a * b → jX M d K S (pc + 1) ls (.int v :: st) h k n Q) : jX M d K S pc ls (.int y :: .int x :: st) h k n Q := x_imul hat (kk _ (jmulf hx hy hb))
theorem z_imulb {A B C : Int} (hat : jat M pc = some (.imul, 1)) (hx : x.toInt = a) (hy : y.toInt = b) (h1 : 0 ≤ a ∧ a ≤ A) (h2 : 0 ≤ b ∧ b ≤ B) (hC : A * B = C) (hC2 : C ≤ 2147483647) (kk : ∀ v : Int32, 0 ≤ v.toInt ∧ v.toInt ≤ C → jX M d K S (pc + 1) ls (.int v :: st) h k n Q) : jX M d K S pc ls (.int y :: .int x :: st) h k n Q := by
  have e1 : 0 ≤ a * b := Int.mul_nonneg h1.1 h2.1
  have e2 : a * b ≤ A * B := Int.mul_le_mul h1.2 h2.2 h2.1 (Int.le_trans h1.1 h1.2)
  have e3 := jmulf hx hy ⟨by omega, by omega⟩
  exact x_imul hat (kk _ (by rw [e3]; omega))
theorem z_idiv (hat : jat M pc = some (.idiv, 1)) (hx : x.toInt = a) (hy : y.toInt = b) (h0 : 0 < b) (h1 : 0 ≤ a) (kk : ∀ v : Int32, v.toInt = a / b → jX M d K S (pc + 1) ls (.int v :: st) h k n Q) : jX M d K S pc ls (.int y :: .int x :: st) h k n Q := by
  refine x_idiv hat ?_ (kk _ ?_)
  · intro c
    have z : (0 : Int32).toInt = 0 := by decide
    rw [c, z] at hy
    omega
  · rw [← hx]
    exact jdivn hy h0 (by omega)
theorem jz_div (hx : x.toInt = a) (hy : y.toInt = b) (h0 : 0 < b) (h1 : 0 ≤ a) : 0 ≤ a / b ∧ a / b ≤ a := ⟨Int.ediv_nonneg h1 (by omega), Int.ediv_le_self _ h1⟩
theorem z_idivb (hat : jat M pc = some (.idiv, 1)) (hx : x.toInt = a) (hy : y.toInt = b) (h0 : 0 < b) (h1 : 0 ≤ a) (kk : ∀ v : Int32, 0 ≤ v.toInt ∧ v.toInt ≤ a → jX M d K S (pc + 1) ls (.int v :: st) h k n Q) : jX M d K S pc ls (.int y :: .int x :: st) h k n Q :=
  z_idiv hat hx hy h0 h1 (fun v e => kk v (by rw [e]; exact jz_div hx hy h0 h1))
theorem z_idiv0 (hat : jat M pc = some (.idiv, 1)) (hy : y.toInt = b) (h0 : b ≠ 0) (kk : ∀ v : Int32, jX M d K S (pc + 1) ls (.int v :: st) h k n Q) : jX M d K S pc ls (.int y :: .int x :: st) h k n Q := by
  refine x_idiv hat ?_ (kk _)
  intro c
  have z : (0 : Int32).toInt = 0 := by decide
  rw [c, z] at hy
  omega
theorem z_irem (hat : jat M pc = some (.irem, 1)) (hx : x.toInt = a) (hy : y.toInt = b) (h0 : 0 < b) (h1 : 0 ≤ a) (kk : ∀ v : Int32, v.toInt = a % b → jX M d K S (pc + 1) ls (.int v :: st) h k n Q) : jX M d K S pc ls (.int y :: .int x :: st) h k n Q := by
  refine x_irem hat ?_ (kk _ ?_)
  · intro c
    have z : (0 : Int32).toInt = 0 := by decide
    rw [c, z] at hy
    omega
  · have l1 := Int32.toInt_lt x
    have e1 : (x / y).toInt = a / b := by rw [← hx]; exact jdivn hy h0 (by omega)
    have e4 : a / b * b ≤ a := Int.ediv_mul_le a (by omega)
    have e5 : 0 ≤ a / b * b := Int.mul_nonneg (Int.ediv_nonneg h1 (by omega)) (by omega)
    have e2 : (x / y * y).toInt = a / b * b := jmulf e1 hy ⟨by omega, by omega⟩
    have e6 := Int.emod_def a b
    have e7 : b * (a / b) = a / b * b := Int.mul_comm _ _
    rw [jsubf hx e2 ⟨by omega, by omega⟩]
    omega
theorem z_iremb (hat : jat M pc = some (.irem, 1)) (hx : x.toInt = a) (hy : y.toInt = b) (h0 : 0 < b) (h1 : 0 ≤ a) (kk : ∀ v : Int32, 0 ≤ v.toInt ∧ v.toInt < b → jX M d K S (pc + 1) ls (.int v :: st) h k n Q) : jX M d K S pc ls (.int y :: .int x :: st) h k n Q :=
  z_irem hat hx hy h0 h1 (fun v e => kk v (by rw [e]; exact ⟨Int.emod_nonneg a (by omega), Int.emod_lt_of_pos a h0⟩))
theorem z_iand {c : Int} (hat : jat M pc = some (.iand, 1)) (hy : y.toInt = c) (h0 : 0 ≤ c) (kk : ∀ v : Int32, 0 ≤ v.toInt ∧ v.toInt ≤ c → jX M d K S (pc + 1) ls (.int v :: st) h k n Q) : jX M d K S pc ls (.int y :: .int x :: st) h k n Q := x_iand hat (kk _ (jz_and hy h0))
theorem z_iadd0 (hat : jat M pc = some (.iadd, 1)) (kk : ∀ v : Int32, jX M d K S (pc + 1) ls (.int v :: st) h k n Q) : jX M d K S pc ls (.int y :: .int x :: st) h k n Q := x_iadd hat (kk _)
theorem z_isub0 (hat : jat M pc = some (.isub, 1)) (kk : ∀ v : Int32, jX M d K S (pc + 1) ls (.int v :: st) h k n Q) : jX M d K S pc ls (.int y :: .int x :: st) h k n Q := x_isub hat (kk _)
theorem z_imul0 (hat : jat M pc = some (.imul, 1)) (kk : ∀ v : Int32, jX M d K S (pc + 1) ls (.int v :: st) h k n Q) : jX M d K S pc ls (.int y :: .int x :: st) h k n Q := x_imul hat (kk _)
theorem z_iand0 (hat : jat M pc = some (.iand, 1)) (kk : ∀ v : Int32, jX M d K S (pc + 1) ls (.int v :: st) h k n Q) : jX M d K S pc ls (.int y :: .int x :: st) h k n Q := x_iand hat (kk _)
theorem z_ior0 (hat : jat M pc = some (.ior, 1)) (kk : ∀ v : Int32, jX M d K S (pc + 1) ls (.int v :: st) h k n Q) : jX M d K S pc ls (.int y :: .int x :: st) h k n Q := x_ior hat (kk _)
theorem z_ixor0 (hat : jat M pc = some (.ixor, 1)) (kk : ∀ v : Int32, jX M d K S (pc + 1) ls (.int v :: st) h k n Q) : jX M d K S pc ls (.int y :: .int x :: st) h k n Q := x_ixor hat (kk _)
theorem z_ishl0 (hat : jat M pc = some (.ishl, 1)) (kk : ∀ v : Int32, jX M d K S (pc + 1) ls (.int v :: st) h k n Q) : jX M d K S pc ls (.int y :: .int x :: st) h k n Q := x_ishl hat (kk _)
theorem z_ishr0 (hat : jat M pc = some (.ishr, 1)) (kk : ∀ v : Int32, jX M d K S (pc + 1) ls (.int v :: st) h k n Q) : jX M d K S pc ls (.int y :: .int x :: st) h k n Q := x_ishr hat (kk _)
theorem z_iushr0 (hat : jat M pc = some (.iushr, 1)) (kk : ∀ v : Int32, jX M d K S (pc + 1) ls (.int v :: st) h k n Q) : jX M d K S pc ls (.int y :: .int x :: st) h k n Q := x_iushr hat (kk _)
theorem z_ineg (hat : jat M pc = some (.ineg, 1)) (hx : x.toInt = a) (hb : -2147483647 ≤ a) (kk : ∀ v : Int32, v.toInt = -a → jX M d K S (pc + 1) ls (.int v :: st) h k n Q) : jX M d K S pc ls (.int x :: st) h k n Q := by
  refine x_ineg hat (kk _ ?_)
  have l1 := Int32.toInt_lt x
  rw [Int32.toInt_neg, hx]
  exact Int.bmod_eq_of_le (by omega) (by omega)
theorem z_ineg0 (hat : jat M pc = some (.ineg, 1)) (kk : ∀ v : Int32, jX M d K S (pc + 1) ls (.int v :: st) h k n Q) : jX M d K S pc ls (.int x :: st) h k n Q := x_ineg hat (kk _)
theorem z_iinc {i : Nat} {c : Int} {lsx9 : Int32 → jL} (hat : jat M pc = some (.iinc i c, 3)) (hl : ls.lookup i = some (.int x)) (hx : x.toInt = a) (hc : (Int32.ofInt c).toInt = c) (hb : -2147483648 ≤ a + c ∧ a + c ≤ 2147483647) (hi : Nat.blt i M.2.2.2.1 = true) (he : ∀ v, js1 ls i (.int v) = lsx9 v) (kk : ∀ v : Int32, v.toInt = a + c → jX M d K S (pc + 3) (lsx9 v) st h k n Q) : jX M d K S pc ls st h k n Q :=
  x_iinc hat hl rfl hi (he _) (kk _ (jaddf hx hc hb))
theorem z_iinc0 {i : Nat} {c : Int} {lsx9 : Int32 → jL} (hat : jat M pc = some (.iinc i c, 3)) (hl : ls.lookup i = some (.int x)) (hi : Nat.blt i M.2.2.2.1 = true) (he : ∀ v, js1 ls i (.int v) = lsx9 v) (kk : ∀ v : Int32, jX M d K S (pc + 3) (lsx9 v) st h k n Q) : jX M d K S pc ls st h k n Q :=
  x_iinc hat hl rfl hi (he _) (kk _)
theorem z_i2l (hat : jat M pc = some (.i2l, 1)) (hx : x.toInt = a) (kk : ∀ v : Int64, v.toInt = a → jX M d K S (pc + 1) ls (.long v :: st) h k n Q) : jX M d K S pc ls (.int x :: st) h k n Q := x_i2l hat (kk _ ((jt_l x).trans hx))
theorem z_l2i (hat : jat M pc = some (.l2i, 1)) (hx : p.toInt = a) (hb : -2147483648 ≤ a ∧ a ≤ 2147483647) (kk : ∀ v : Int32, v.toInt = a → jX M d K S (pc + 1) ls (.int v :: st) h k n Q) : jX M d K S pc ls (.long p :: st) h k n Q := by
  refine x_l2i hat (kk _ ?_)
  rw [Int64.toInt_toInt32, hx]
  exact Int.bmod_eq_of_le (by omega) (by omega)
theorem z_l2i0 (hat : jat M pc = some (.l2i, 1)) (kk : ∀ v : Int32, jX M d K S (pc + 1) ls (.int v :: st) h k n Q) : jX M d K S pc ls (.long p :: st) h k n Q := x_l2i hat (kk _)
theorem z_ladd (hat : jat M pc = some (.ladd, 1)) (hx : p.toInt = a) (hy : q.toInt = b) (hb : -9223372036854775808 ≤ a + b ∧ a + b ≤ 9223372036854775807) (kk : ∀ v : Int64, v.toInt = a + b → jX M d K S (pc + 1) ls (.long v :: st) h k n Q) : jX M d K S pc ls (.long q :: .long p :: st) h k n Q := by
  refine x_ladd hat (kk _ ?_)
  rw [Int64.toInt_add, hx, hy]
  exact Int.bmod_eq_of_le (by omega) (by omega)
theorem z_lsub (hat : jat M pc = some (.lsub, 1)) (hx : p.toInt = a) (hy : q.toInt = b) (hb : -9223372036854775808 ≤ a - b ∧ a - b ≤ 9223372036854775807) (kk : ∀ v : Int64, v.toInt = a - b → jX M d K S (pc + 1) ls (.long v :: st) h k n Q) : jX M d K S pc ls (.long q :: .long p :: st) h k n Q := by
  refine x_lsub hat (kk _ ?_)
  rw [Int64.toInt_sub, hx, hy]
  exact Int.bmod_eq_of_le (by omega) (by omega)
theorem z_lmul (hat : jat M pc = some (.lmul, 1)) (hx : p.toInt = a) (hy : q.toInt = b) (hb : -9223372036854775808 ≤ a * b ∧ a * b ≤ 9223372036854775807) (kk : ∀ v : Int64, v.toInt = a * b → jX M d K S (pc + 1) ls (.long v :: st) h k n Q) : jX M d K S pc ls (.long q :: .long p :: st) h k n Q := by
  refine x_lmul hat (kk _ ?_)
  rw [Int64.toInt_mul, hx, hy]
  exact Int.bmod_eq_of_le (by omega) (by omega)
theorem z_ladd0 (hat : jat M pc = some (.ladd, 1)) (kk : ∀ v : Int64, jX M d K S (pc + 1) ls (.long v :: st) h k n Q) : jX M d K S pc ls (.long q :: .long p :: st) h k n Q := x_ladd hat (kk _)
theorem z_lsub0 (hat : jat M pc = some (.lsub, 1)) (kk : ∀ v : Int64, jX M d K S (pc + 1) ls (.long v :: st) h k n Q) : jX M d K S pc ls (.long q :: .long p :: st) h k n Q := x_lsub hat (kk _)
theorem z_lmul0 (hat : jat M pc = some (.lmul, 1)) (kk : ∀ v : Int64, jX M d K S (pc + 1) ls (.long v :: st) h k n Q) : jX M d K S pc ls (.long q :: .long p :: st) h k n Q := x_lmul hat (kk _)
theorem z_ldiv0 (hat : jat M pc = some (.ldiv, 1)) (hy : q.toInt = b) (h0 : b ≠ 0) (kk : ∀ v : Int64, jX M d K S (pc + 1) ls (.long v :: st) h k n Q) : jX M d K S pc ls (.long q :: .long p :: st) h k n Q := by
  refine x_ldiv hat ?_ (kk _)
  intro c
  have z : (0 : Int64).toInt = 0 := by decide
  rw [c, z] at hy
  omega
theorem z_lrem0 (hat : jat M pc = some (.lrem, 1)) (hy : q.toInt = b) (h0 : b ≠ 0) (kk : ∀ v : Int64, jX M d K S (pc + 1) ls (.long v :: st) h k n Q) : jX M d K S pc ls (.long q :: .long p :: st) h k n Q := by
  refine x_lrem hat ?_ (kk _)
  intro c
  have z : (0 : Int64).toInt = 0 := by decide
  rw [c, z] at hy
  omega
theorem z_lneg0 (hat : jat M pc = some (.lneg, 1)) (kk : ∀ v : Int64, jX M d K S (pc + 1) ls (.long v :: st) h k n Q) : jX M d K S pc ls (.long p :: st) h k n Q := x_lneg hat (kk _)
theorem z_lcmp (hat : jat M pc = some (.lcmp, 1)) (hx : p.toInt = a) (hy : q.toInt = b) (kk : ∀ v : Int32, ((v.toInt < 0 ∧ a < b) ∨ (v.toInt = 0 ∧ a = b) ∨ (0 < v.toInt ∧ b < a)) → jX M d K S (pc + 1) ls (.int v :: st) h k n Q) : jX M d K S pc ls (.long q :: .long p :: st) h k n Q := by
  refine x_lcmp hat (kk _ ?_)
  have z : (0 : Int32).toInt = 0 := by decide
  have e1 := lg_cmp_lt p q
  have e2 := lg_cmp_eq p q
  have e3 := lg_cmp_gt p q
  rw [Int64.lt_iff_toInt_lt, Int32.lt_iff_toInt_lt, z, hx, hy] at e1
  rw [← Int64.toInt_inj, ← Int32.toInt_inj, z, hx, hy] at e2
  rw [Int64.lt_iff_toInt_lt, Int32.lt_iff_toInt_lt, z, hx, hy] at e3
  omega
end ZR
section ZM
variable {M : jM} {d K S pc : Nat} {ls : jL} {st : List Value} {h : jH} {k n : Nat} {Q : Option Value → jH → Prop} {x y : Int32} {p q : Int64} {a b : Int} {idx : Nat}
theorem z_mmax (hat : jat M pc = some (.invokestatic idx, 3)) (hw : Cond.methodLink M.2.1.cls idx yJ9_max_7cf53 ∈ lw_tbl) (hd : 1 ≤ d) (hst : Nat.ble (st.map fun v => v.category).sum 8 = true) (hx : x.toInt = a) (hy : y.toInt = b) (kk : ∀ v : Int32, ((v.toInt = a ∨ v.toInt = b) ∧ a ≤ v.toInt ∧ b ≤ v.toInt) → jX M d K S (pc + 3) ls (.int v :: st) h k n Q) : jX M d K S pc ls (.int y :: .int x :: st) h k n Q := by
  refine x_mmax hat hw hd hst ⟨fun c => kk _ ?_, fun c => kk _ ?_⟩ <;> (rw [Int32.lt_iff_toInt_lt] at c; omega)
theorem z_mmin (hat : jat M pc = some (.invokestatic idx, 3)) (hw : Cond.methodLink M.2.1.cls idx yJ9_min_7cf53 ∈ lw_tbl) (hd : 1 ≤ d) (hst : Nat.ble (st.map fun v => v.category).sum 8 = true) (hx : x.toInt = a) (hy : y.toInt = b) (kk : ∀ v : Int32, ((v.toInt = a ∨ v.toInt = b) ∧ v.toInt ≤ a ∧ v.toInt ≤ b) → jX M d K S (pc + 3) ls (.int v :: st) h k n Q) : jX M d K S pc ls (.int y :: .int x :: st) h k n Q := by
  refine x_mmin hat hw hd hst ⟨fun c => kk _ ?_, fun c => kk _ ?_⟩ <;> (rw [Int32.lt_iff_toInt_lt] at c; omega)
theorem z_mabs (hat : jat M pc = some (.invokestatic idx, 3)) (hw : Cond.methodLink M.2.1.cls idx yJ9_abs_0f7a4 ∈ lw_tbl) (hd : 1 ≤ d) (hst : Nat.ble (st.map fun v => v.category).sum 8 = true) (hx : x.toInt = a) (hb : -2147483647 ≤ a) (kk : ∀ v : Int32, ((v.toInt = a ∨ v.toInt = -a) ∧ 0 ≤ v.toInt) → jX M d K S (pc + 3) ls (.int v :: st) h k n Q) : jX M d K S pc ls (.int x :: st) h k n Q := by
  have z : (0 : Int32).toInt = 0 := by decide
  have l1 := Int32.toInt_lt x
  refine x_mabs hat hw hd hst ⟨fun c => kk _ ?_, fun c => kk _ ?_⟩
  · rw [Int32.le_iff_toInt_le, z] at c; omega
  · rw [Int32.le_iff_toInt_le, z] at c
    rw [jsubf z hx ⟨by omega, by omega⟩]
    omega
theorem z_mabs0 (hat : jat M pc = some (.invokestatic idx, 3)) (hw : Cond.methodLink M.2.1.cls idx yJ9_abs_0f7a4 ∈ lw_tbl) (hd : 1 ≤ d) (hst : Nat.ble (st.map fun v => v.category).sum 8 = true) (kk : ∀ v : Int32, jX M d K S (pc + 3) ls (.int v :: st) h k n Q) : jX M d K S pc ls (.int x :: st) h k n Q :=
  x_mabs hat hw hd hst ⟨fun _ => kk _, fun _ => kk _⟩
theorem z_lmax (hat : jat M pc = some (.invokestatic idx, 3)) (hw : Cond.methodLink M.2.1.cls idx yJ9_max_f86c9 ∈ lw_tbl) (hd : 1 ≤ d) (hst : Nat.ble (st.map fun v => v.category).sum 8 = true) (hx : p.toInt = a) (hy : q.toInt = b) (kk : ∀ v : Int64, ((v.toInt = a ∨ v.toInt = b) ∧ a ≤ v.toInt ∧ b ≤ v.toInt) → jX M d K S (pc + 3) ls (.long v :: st) h k n Q) : jX M d K S pc ls (.long q :: .long p :: st) h k n Q := by
  refine x_lmax hat hw hd hst ⟨fun c => kk _ ?_, fun c => kk _ ?_⟩ <;> (rw [Int64.lt_iff_toInt_lt] at c; omega)
theorem z_lmin (hat : jat M pc = some (.invokestatic idx, 3)) (hw : Cond.methodLink M.2.1.cls idx yJ9_min_f86c9 ∈ lw_tbl) (hd : 1 ≤ d) (hst : Nat.ble (st.map fun v => v.category).sum 8 = true) (hx : p.toInt = a) (hy : q.toInt = b) (kk : ∀ v : Int64, ((v.toInt = a ∨ v.toInt = b) ∧ v.toInt ≤ a ∧ v.toInt ≤ b) → jX M d K S (pc + 3) ls (.long v :: st) h k n Q) : jX M d K S pc ls (.long q :: .long p :: st) h k n Q := by
  refine x_lmin hat hw hd hst ⟨fun c => kk _ ?_, fun c => kk _ ?_⟩ <;> (rw [Int64.lt_iff_toInt_lt] at c; omega)
theorem z_labs0 (hat : jat M pc = some (.invokestatic idx, 3)) (hw : Cond.methodLink M.2.1.cls idx yJ9_abs_067f4 ∈ lw_tbl) (hd : 1 ≤ d) (hst : Nat.ble (st.map fun v => v.category).sum 8 = true) (kk : ∀ v : Int64, jX M d K S (pc + 3) ls (.long v :: st) h k n Q) : jX M d K S pc ls (.long p :: st) h k n Q :=
  x_labs hat hw hd hst ⟨fun _ => kk _, fun _ => kk _⟩
theorem jneg0 {p : Int64} (h : p.toInt ≠ 0) : (-p).toInt ≠ 0 := by
  intro e
  have e0 : (0 : Int64).toInt = 0 := by decide
  have h1 : -p = 0 := Int64.toInt_inj.mp (e.trans e0.symm)
  have h2 : p = 0 := by
    have := congrArg (fun z => -z) h1
    simpa using this
  rw [h2] at h
  exact h e0
theorem z_labs1 {a : Int} (hat : jat M pc = some (.invokestatic idx, 3)) (hw : Cond.methodLink M.2.1.cls idx yJ9_abs_067f4 ∈ lw_tbl) (hd : 1 ≤ d) (hst : Nat.ble (st.map fun v => v.category).sum 8 = true) (hp : p.toInt = a) (h0 : a ≠ 0) (kk : ∀ v : Int64, v.toInt ≠ 0 → jX M d K S (pc + 3) ls (.long v :: st) h k n Q) : jX M d K S pc ls (.long p :: st) h k n Q :=
  x_labs hat hw hd hst ⟨fun _ => kk _ (by rw [hp]; exact h0), fun _ => kk _ (jneg0 (by rw [hp]; exact h0))⟩
end ZM
section ZH
variable {M : jM} {d K S pc : Nat} {ls : jL} {st : List Value} {h h0 : jH} {k n : Nat} {Q : Option Value → jH → Prop} {Sg : List jSg} {Dy : jH → Prop} {FP FM : jFp} {a c f N idx : Nat} {i x : Int32} {z : Int64} {m w lo hi : Int}
theorem jcl_nat (hm : i.toInt = m) (h0 : 0 ≤ m) : (i.toNatClampNeg : Int) = m := by
  show (i.toInt.toNat : Int) = m
  omega
theorem z_getI (c f : Nat) (hat : jat M pc = some (.getfield idx, 3)) (hF : jF M idx c f) (hk : jkd (jft c f) = 2) (J : jJ Sg Dy h) (hs : (jtO ++ jtS).lookup a = some (c, N)) (g : ((a, f, f + 1, 1, 0, 1, lo, hi) : jSg) ∈ Sg) (kk : ∀ v : Int32, jiv h a f = v → lo ≤ v.toInt ∧ v.toInt ≤ hi → jX M d K S (pc + 3) ls (.int v :: st) h k n Q) : jX M d K S pc ls (.ref a :: st) h k n Q :=
  x_getI c f hat hF hk (congrArg Prod.fst (J.1.1 a _ hs)) (kk _ rfl (J.2.1 _ g f ⟨Nat.le_refl _, Nat.lt_succ_self _, Nat.zero_le _, by show (f - f) % 1 < 1; omega⟩))
theorem z_getI0 (c f : Nat) (hat : jat M pc = some (.getfield idx, 3)) (hF : jF M idx c f) (hk : jkd (jft c f) = 2) (J : jJ Sg Dy h) (hs : (jtO ++ jtS).lookup a = some (c, N)) (kk : ∀ v : Int32, jiv h a f = v → jX M d K S (pc + 3) ls (.int v :: st) h k n Q) : jX M d K S pc ls (.ref a :: st) h k n Q :=
  x_getI c f hat hF hk (congrArg Prod.fst (J.1.1 a _ hs)) (kk _ rfl)
theorem z_getC {v : Int32} (c f : Nat) (hat : jat M pc = some (.getfield idx, 3)) (hF : jF M idx c f) (hk : jkd (jft c f) = 2) (J : jJ Sg Dy h) (hs : (jtO ++ jtS).lookup a = some (c, N)) (g : ((a, f, f + 1, 1, 0, 1, lo, lo) : jSg) ∈ Sg) (hv : v.toInt = lo) (kk : jX M d K S (pc + 3) ls (.int v :: st) h k n Q) : jX M d K S pc ls (.ref a :: st) h k n Q := by
  have e := J.2.1 _ g f ⟨Nat.le_refl _, Nat.lt_succ_self _, Nat.zero_le _, by show (f - f) % 1 < 1; omega⟩
  have e2 : jiv h a f = v := Int32.toInt_inj.mp (by rw [hv]; exact Int.le_antisymm e.2 e.1)
  exact x_getI c f hat hF hk (congrArg Prod.fst (J.1.1 a _ hs)) (e2 ▸ kk)
theorem z_getM {v : Int32} (c f : Nat) (hat : jat M pc = some (.getfield idx, 3)) (hF : jF M idx c f) (hk : jkd (jft c f) = 2) (J : jJ Sg Dy h) (hs : (jtO ++ jtS).lookup a = some (c, N)) (he : jiv h a f = v) (kk : jX M d K S (pc + 3) ls (.int v :: st) h k n Q) : jX M d K S pc ls (.ref a :: st) h k n Q :=
  x_getI c f hat hF hk (congrArg Prod.fst (J.1.1 a _ hs)) (he ▸ kk)
theorem z_getL0 (c f : Nat) (hat : jat M pc = some (.getfield idx, 3)) (hF : jF M idx c f) (hk : jkd (jft c f) = 0) (J : jJ Sg Dy h) (hs : (jtO ++ jtS).lookup a = some (c, N)) (kk : ∀ v : Int64, jX M d K S (pc + 3) ls (.long v :: st) h k n Q) : jX M d K S pc ls (.ref a :: st) h k n Q :=
  x_getL c f hat hF hk (congrArg Prod.fst (J.1.1 a _ hs)) (kk _)
theorem z_getR {b : Nat} (c f : Nat) (hat : jat M pc = some (.getfield idx, 3)) (hF : jF M idx c f) (hk : jkd (jft c f) = 1) (J : jJ Sg Dy h) (hs : (jtO ++ jtS).lookup a = some (c, N)) (q : Nat) (hq : q / 128 = a ∧ q % 128 = f) (hb : jtR.lookup q = some b) (kk : jX M d K S (pc + 3) ls (.ref b :: st) h k n Q) : jX M d K S pc ls (.ref a :: st) h k n Q :=
  x_getR c f hat hF hk (congrArg Prod.fst (J.1.1 a _ hs)) (by have := J.1.2 q b hb; rw [hq.1, hq.2] at this; exact this) kk
theorem z_putI (c f : Nat) (hat : jat M pc = some (.putfield idx, 3)) (hF : jF M idx c f) (hk : jft c f = .int) (hfin : jfin M c f) (hD : jDk Dy) (J : jJ Sg Dy h) (Sm : jSm FP h0 h) (hs : (jtO ++ jtS).lookup a = some (c, N)) (ha : (Nat.ble 31 a && jfr a f) = true) (hx : x.toInt = w) (hw : ∀ s ∈ Sg, s.1 = a → jin s f → s.2.2.2.2.2.2.1 ≤ w ∧ w ≤ s.2.2.2.2.2.2.2) (hf : FP.contains (a, f, f + 1) = true) (kk : ∀ hx9, hx9 = jsi h a f x → jJ Sg Dy hx9 → jSm FP h0 hx9 → jX M d K S (pc + 3) ls st hx9 k n Q) : jX M d K S pc ls (.int x :: .ref a :: st) h k n Q := by
  rw [Bool.and_eq_true] at ha
  subst hx
  exact x_putI c f hat hF hk hfin (congrArg Prod.fst (J.1.1 a _ hs)) ha.1 (kk _ rfl (jJ_si hD J ha.2 hw) (jSm_si Sm (jfo_of hf ⟨Nat.le_refl _, Nat.lt_succ_self _⟩)))
theorem z_putZ (c f : Nat) (hat : jat M pc = some (.putfield idx, 3)) (hF : jF M idx c f) (hk : jft c f = .boolean) (hfin : jfin M c f) (hD : jDk Dy) (J : jJ Sg Dy h) (Sm : jSm FP h0 h) (hs : (jtO ++ jtS).lookup a = some (c, N)) (ha : (Nat.ble 31 a && jfr a f) = true) (hx : x.toInt = w) (hb : 0 ≤ w ∧ w ≤ 1) (hw : ∀ s ∈ Sg, s.1 = a → jin s f → s.2.2.2.2.2.2.1 ≤ w ∧ w ≤ s.2.2.2.2.2.2.2) (hf : FP.contains (a, f, f + 1) = true) (kk : ∀ hx9, hx9 = jsi h a f x → jJ Sg Dy hx9 → jSm FP h0 hx9 → jX M d K S (pc + 3) ls st hx9 k n Q) : jX M d K S pc ls (.int x :: .ref a :: st) h k n Q := by
  rw [Bool.and_eq_true] at ha
  subst hx
  have e0 : (0 : Int32).toInt = 0 := by decide
  have e1 : (1 : Int32).toInt = 1 := by decide
  have hx01 : x = 0 ∨ x = 1 := by
    by_cases c : x.toInt = 0
    · exact Or.inl (Int32.toInt_inj.mp (c.trans e0.symm))
    · exact Or.inr (Int32.toInt_inj.mp ((show x.toInt = 1 by omega).trans e1.symm))
  exact x_putZ c f hat hF hk hfin (congrArg Prod.fst (J.1.1 a _ hs)) ha.1 hx01 (kk _ rfl (jJ_si hD J ha.2 hw) (jSm_si Sm (jfo_of hf ⟨Nat.le_refl _, Nat.lt_succ_self _⟩)))
theorem z_putL (c f : Nat) (hat : jat M pc = some (.putfield idx, 3)) (hF : jF M idx c f) (hk : jft c f = .long) (hfin : jfin M c f) (hD : jDk Dy) (J : jJ Sg Dy h) (Sm : jSm FP h0 h) (hs : (jtO ++ jtS).lookup a = some (c, N)) (ha : (Nat.ble 31 a && Nat.blt a 174) = true) (hf : FP.contains (a, f, f + 1) = true) (kk : ∀ hx9, hx9 = jsl h a f z → jJ Sg Dy hx9 → jSm FP h0 hx9 → jX M d K S (pc + 3) ls st hx9 k n Q) : jX M d K S pc ls (.long z :: .ref a :: st) h k n Q := by
  rw [Bool.and_eq_true] at ha
  exact x_putL c f hat hF hk hfin (congrArg Prod.fst (J.1.1 a _ hs)) ha.1 (kk _ rfl (jJ_sl hD J ha.2) (jSm_sl Sm (jfo_of hf ⟨Nat.le_refl _, Nat.lt_succ_self _⟩)))
theorem jrg_at {fr to sd o o2 : Nat} (J : jJ Sg Dy h) (g : ((a, fr, to, sd, o, o2, lo, hi) : jSg) ∈ Sg) (hm : i.toInt = m) (hb : 0 ≤ m ∧ m < N ∧ (fr : Int) ≤ m ∧ m < to ∧ (o : Int) ≤ (m - fr) % sd ∧ (m - fr) % sd < o2) : lo ≤ (jiv h a i.toNatClampNeg).toInt ∧ (jiv h a i.toNatClampNeg).toInt ≤ hi := by
  have e := jcl_nat hm hb.1
  have h5 := hb.2.2.2.2
  have e2 : ((i.toNatClampNeg - fr : Nat) : Int) = m - fr := by omega
  have e3 : (((i.toNatClampNeg - fr) % sd : Nat) : Int) = (m - fr) % sd := by rw [Int.natCast_emod, e2]
  refine J.2.1 _ g i.toNatClampNeg ⟨?_, ?_, ?_, ?_⟩
  · show fr ≤ i.toNatClampNeg
    omega
  · show i.toNatClampNeg < to
    omega
  · show o ≤ (i.toNatClampNeg - fr) % sd
    rw [← e3] at h5
    exact Int.ofNat_le.mp h5.1
  · show (i.toNatClampNeg - fr) % sd < o2
    rw [← e3] at h5
    exact Int.ofNat_lt.mp h5.2
theorem z_iald {fr to sd o o2 : Nat} (hat : jat M pc = some (.iaload, 1)) (J : jJ Sg Dy h) (hs : (jtO ++ jtS).lookup a = some (100, N)) (g : ((a, fr, to, sd, o, o2, lo, hi) : jSg) ∈ Sg) (hm : i.toInt = m) (hb : 0 ≤ m ∧ m < N ∧ (fr : Int) ≤ m ∧ m < to ∧ (o : Int) ≤ (m - fr) % sd ∧ (m - fr) % sd < o2) (kk : ∀ v : Int32, jiv h a i.toNatClampNeg = v → lo ≤ v.toInt ∧ v.toInt ≤ hi → jX M d K S (pc + 1) ls (.int v :: st) h k n Q) : jX M d K S pc ls (.int i :: .ref a :: st) h k n Q :=
  x_iald hat (J.1.1 a _ hs) (vpi (by rw [hm]; omega)) (kk _ rfl (jrg_at J g hm hb))
theorem z_zald {fr to sd o o2 : Nat} (hat : jat M pc = some (.baload, 1)) (J : jJ Sg Dy h) (hs : (jtO ++ jtS).lookup a = some (102, N)) (g : ((a, fr, to, sd, o, o2, lo, hi) : jSg) ∈ Sg) (hm : i.toInt = m) (hb : 0 ≤ m ∧ m < N ∧ (fr : Int) ≤ m ∧ m < to ∧ (o : Int) ≤ (m - fr) % sd ∧ (m - fr) % sd < o2) (kk : ∀ v : Int32, jiv h a i.toNatClampNeg = v → lo ≤ v.toInt ∧ v.toInt ≤ hi → jX M d K S (pc + 1) ls (.int v :: st) h k n Q) : jX M d K S pc ls (.int i :: .ref a :: st) h k n Q :=
  x_zald hat (J.1.1 a _ hs) (vpi (by rw [hm]; omega)) (kk _ rfl (jrg_at J g hm hb))
theorem z_iald0 (hat : jat M pc = some (.iaload, 1)) (J : jJ Sg Dy h) (hs : (jtO ++ jtS).lookup a = some (100, N)) (hm : i.toInt = m) (hb : 0 ≤ m ∧ m < N) (kk : ∀ v : Int32, jiv h a i.toNatClampNeg = v → jX M d K S (pc + 1) ls (.int v :: st) h k n Q) : jX M d K S pc ls (.int i :: .ref a :: st) h k n Q :=
  x_iald hat (J.1.1 a _ hs) (vpi (by rw [hm]; omega)) (kk _ rfl)
theorem z_ialdM {v : Int32} (hat : jat M pc = some (.iaload, 1)) (J : jJ Sg Dy h) (hs : (jtO ++ jtS).lookup a = some (100, N)) (hm : i.toInt = m) (hb : 0 ≤ m ∧ m < N) (he : jiv h a i.toNatClampNeg = v) (kk : jX M d K S (pc + 1) ls (.int v :: st) h k n Q) : jX M d K S pc ls (.int i :: .ref a :: st) h k n Q :=
  x_iald hat (J.1.1 a _ hs) (vpi (by rw [hm]; omega)) (he ▸ kk)
theorem z_zaldM {v : Int32} (hat : jat M pc = some (.baload, 1)) (J : jJ Sg Dy h) (hs : (jtO ++ jtS).lookup a = some (102, N)) (hm : i.toInt = m) (hb : 0 ≤ m ∧ m < N) (he : jiv h a i.toNatClampNeg = v) (kk : jX M d K S (pc + 1) ls (.int v :: st) h k n Q) : jX M d K S pc ls (.int i :: .ref a :: st) h k n Q :=
  x_zald hat (J.1.1 a _ hs) (vpi (by rw [hm]; omega)) (he ▸ kk)
theorem z_lald0 (hat : jat M pc = some (.laload, 1)) (J : jJ Sg Dy h) (hs : (jtO ++ jtS).lookup a = some (101, N)) (hm : i.toInt = m) (hb : 0 ≤ m ∧ m < N) (kk : ∀ v : Int64, jX M d K S (pc + 1) ls (.long v :: st) h k n Q) : jX M d K S pc ls (.int i :: .ref a :: st) h k n Q :=
  x_lald hat (J.1.1 a _ hs) (vpi (by rw [hm]; omega)) (kk _)
/-- of a write at m: every row of the cell that holds the place allows it -/
def jwr (Sg : List jSg) (a : Nat) (m w : Int) : Prop := ∀ s ∈ Sg, s.1 = a → (s.2.1 : Int) ≤ m → m < s.2.2.1 → (s.2.2.2.2.1 : Int) ≤ (m - s.2.1) % s.2.2.2.1 → (m - s.2.1) % s.2.2.2.1 < s.2.2.2.2.2.1 → s.2.2.2.2.2.2.1 ≤ w ∧ w ≤ s.2.2.2.2.2.2.2
theorem jwr_at (hm : i.toInt = m) (h0 : 0 ≤ m) (hx : x.toInt = w) (hw : jwr Sg a m w) : ∀ s ∈ Sg, s.1 = a → jin s i.toNatClampNeg → s.2.2.2.2.2.2.1 ≤ x.toInt ∧ x.toInt ≤ s.2.2.2.2.2.2.2 := by
  intro s hs ha hj
  have e := jcl_nat hm h0
  rw [hx]
  have h1 := hj.1
  have e2 : ((i.toNatClampNeg - s.2.1 : Nat) : Int) = m - s.2.1 := by omega
  have e3 : (((i.toNatClampNeg - s.2.1) % s.2.2.2.1 : Nat) : Int) = (m - s.2.1) % s.2.2.2.1 := by rw [Int.natCast_emod, e2]
  refine hw s hs ha ?_ ?_ ?_ ?_
  · omega
  · have := hj.2.1; omega
  · rw [← e3]; exact Int.ofNat_le.mpr hj.2.2.1
  · rw [← e3]; exact Int.ofNat_lt.mpr hj.2.2.2
theorem z_iast {l u : Nat} (hat : jat M pc = some (.iastore, 1)) (hD : jDk Dy) (J : jJ Sg Dy h) (Sm : jSm FP h0 h) (hs : (jtO ++ jtS).lookup a = some (100, N)) (ha : (Nat.ble 31 a && (Nat.blt a 174 && !jpr a l u)) = true) (hm : i.toInt = m) (hb : 0 ≤ m ∧ m < N ∧ (l : Int) ≤ m ∧ m < u) (hx : x.toInt = w) (hw : jwr Sg a m w) (hf : FP.contains (a, l, u) = true) (kk : ∀ hx9, hx9 = jsi h a i.toNatClampNeg x → jJ Sg Dy hx9 → jSm FP h0 hx9 → jX M d K S (pc + 1) ls st hx9 k n Q) : jX M d K S pc ls (.int x :: .int i :: .ref a :: st) h k n Q := by
  rw [Bool.and_eq_true, Bool.and_eq_true, Bool.not_eq_true'] at ha
  have e := jcl_nat hm hb.1
  exact x_iast hat (J.1.1 a _ hs) ha.1 (vpi (by rw [hm]; omega)) (kk _ rfl (jJ_si hD J (jfr_of ha.2.1 ha.2.2 ⟨by omega, by omega⟩) (jwr_at hm hb.1 hx hw)) (jSm_si Sm (jfo_of hf ⟨by omega, by omega⟩)))
theorem z_zast {l u : Nat} (hat : jat M pc = some (.bastore, 1)) (hD : jDk Dy) (J : jJ Sg Dy h) (Sm : jSm FP h0 h) (hs : (jtO ++ jtS).lookup a = some (102, N)) (ha : (Nat.ble 31 a && (Nat.blt a 174 && !jpr a l u)) = true) (hm : i.toInt = m) (hb : 0 ≤ m ∧ m < N ∧ (l : Int) ≤ m ∧ m < u) (hx : x.toInt = w) (h01 : 0 ≤ w ∧ w ≤ 1) (hw : jwr Sg a m w) (hf : FP.contains (a, l, u) = true) (kk : ∀ hx9, hx9 = jsi h a i.toNatClampNeg x → jJ Sg Dy hx9 → jSm FP h0 hx9 → jX M d K S (pc + 1) ls st hx9 k n Q) : jX M d K S pc ls (.int x :: .int i :: .ref a :: st) h k n Q := by
  rw [Bool.and_eq_true, Bool.and_eq_true, Bool.not_eq_true'] at ha
  have e := jcl_nat hm hb.1
  have e0 : (0 : Int32).toInt = 0 := by decide
  have e1 : (1 : Int32).toInt = 1 := by decide
  have hx01 : x = 0 ∨ x = 1 := by
    by_cases c : x.toInt = 0
    · exact Or.inl (Int32.toInt_inj.mp (c.trans e0.symm))
    · exact Or.inr (Int32.toInt_inj.mp ((show x.toInt = 1 by omega).trans e1.symm))
  exact x_zast hat (J.1.1 a _ hs) ha.1 hx01 (vpi (by rw [hm]; omega)) (kk _ rfl (jJ_si hD J (jfr_of ha.2.1 ha.2.2 ⟨by omega, by omega⟩) (jwr_at hm hb.1 hx hw)) (jSm_si Sm (jfo_of hf ⟨by omega, by omega⟩)))
theorem z_last {l u : Nat} (hat : jat M pc = some (.lastore, 1)) (hD : jDk Dy) (J : jJ Sg Dy h) (Sm : jSm FP h0 h) (hs : (jtO ++ jtS).lookup a = some (101, N)) (ha : (Nat.ble 31 a && Nat.blt a 174) = true) (hm : i.toInt = m) (hb : 0 ≤ m ∧ m < N ∧ (l : Int) ≤ m ∧ m < u) (hf : FP.contains (a, l, u) = true) (kk : ∀ hx9, hx9 = jsl h a i.toNatClampNeg z → jJ Sg Dy hx9 → jSm FP h0 hx9 → jX M d K S (pc + 1) ls st hx9 k n Q) : jX M d K S pc ls (.long z :: .int i :: .ref a :: st) h k n Q := by
  rw [Bool.and_eq_true] at ha
  have e := jcl_nat hm hb.1
  exact x_last hat (J.1.1 a _ hs) ha.1 (vpi (by rw [hm]; omega)) (kk _ rfl (jJ_sl hD J ha.2) (jSm_sl Sm (jfo_of hf ⟨by omega, by omega⟩)))
theorem z_alen {t : Nat} {v : Int32} (hat : jat M pc = some (.arraylength, 1)) (J : jJ Sg Dy h) (hs : (jtO ++ jtS).lookup a = some (t, N)) (ht : (Nat.ble 100 t && Nat.blt t 106) = true) (hv : nI N = v) (kk : jX M d K S (pc + 1) ls (.int v :: st) h k n Q) : jX M d K S pc ls (.ref a :: st) h k n Q := by
  rw [Bool.and_eq_true] at ht
  subst hv
  exact x_alen hat (J.1.1 a _ hs) ⟨Nat.ble_eq.mp ht.1, Nat.blt_eq.mp ht.2⟩ kk
end ZH
theorem jp_rng (P : Prop) [Decidable P] : 0 ≤ (jp P).toInt ∧ (jp P).toInt ≤ 1 := by
  unfold jp
  split <;> decide
theorem jpx {P : Prop} [Decidable P] {Q : Option Value → jH → Prop} {h : jH} (kk : ∀ v : Int32, (v.toInt = 1 ∧ P) ∨ (v.toInt = 0 ∧ ¬ P) → Q (some (.int v)) h) : Q (some (.int (jp P))) h := by
  refine kk _ ?_
  unfold jp
  by_cases c : P
  · rw [if_pos c]; exact Or.inl ⟨by decide, c⟩
  · rw [if_neg c]; exact Or.inr ⟨by decide, c⟩
theorem jz01 {v : Int32} (h : 0 ≤ v.toInt ∧ v.toInt ≤ 1) : v = 0 ∨ v = 1 := by
  have e0 : (0 : Int32).toInt = 0 := by decide
  have e1 : (1 : Int32).toInt = 1 := by decide
  by_cases c : v.toInt = 0
  · exact Or.inl (Int32.toInt_inj.mp (c.trans e0.symm))
  · exact Or.inr (Int32.toInt_inj.mp ((show v.toInt = 1 by omega).trans e1.symm))
theorem jr_of {v : Int32} {m lo hi : Int} (e : v.toInt = m) (hb : lo ≤ m ∧ m ≤ hi) : lo ≤ v.toInt ∧ v.toInt ≤ hi := by rw [e]; exact hb
theorem jr_ofl {v : Int64} {m lo hi : Int} (e : v.toInt = m) (hb : lo ≤ m ∧ m ≤ hi) : lo ≤ v.toInt ∧ v.toInt ≤ hi := by rw [e]; exact hb
theorem jr_mod {v : Int32} {m q r : Int} (e : v.toInt = m) (hb : m % q = r) : v.toInt % q = r := by rw [e]; exact hb
theorem jmo {h hx9 : jH} {a k b j : Nat} {x v : Int32} (w : hx9 = jsi h a k x) (e : (Nat.beq b a && Nat.beq j k) = false) (q : jiv h b j = v) : jiv hx9 b j = v := by rw [w]; exact iv_si e q
theorem jmw {h hx9 : jH} {a k : Nat} {x : Int32} (w : hx9 = jsi h a k x) : jiv hx9 a k = x := by rw [w]; exact iv_eq
theorem jml {h hx9 : jH} {a k b j : Nat} {x : Int64} {v : Int32} (w : hx9 = jsl h a k x) (q : jiv h b j = v) : jiv hx9 b j = v := by rw [w]; exact iv_sl q
theorem jmc {F : jFp} {h hx9 : jH} {b j : Nat} {v : Int32} (w : jSm F h hx9) (e : (Nat.blt b 174 && !jfo F b j) = true) (q : jiv h b j = v) : jiv hx9 b j = v := by
  rw [Bool.and_eq_true, Bool.not_eq_true'] at e
  exact (w.2.2 b j (Or.inl e.1) e.2).1.trans q
theorem jfo_sub {F G : jFp} (s : jfs F G = true) {a k : Nat} (g : jfo G a k = false) : jfo F a k = false := by
  cases c : jfo F a k
  · rfl
  · obtain ⟨q, hq, e⟩ := List.any_eq_true.mp c
    have : jfo G a k = true := List.any_eq_true.mpr ⟨q, List.contains_iff_mem.mp (List.all_eq_true.mp s q hq), e⟩
    rw [g] at this; cases this
theorem jSm_tr {F G : jFp} {h0 h hx9 : jH} (s : jfs G F = true) (x : jSm F h0 h) (y : jSm G h hx9) : jSm F h0 hx9 :=
  ⟨Nat.le_trans x.1 y.1, fun a ha => (y.2.1 a (ha.imp_right fun q => Nat.lt_of_lt_of_le q x.1)).trans (x.2.1 a ha), fun a k ha g => by
    have e1 := x.2.2 a k ha g
    have e2 := y.2.2 a k (ha.imp_right fun q => Nat.lt_of_lt_of_le q x.1) (jfo_sub s g)
    exact ⟨e2.1.trans e1.1, e2.2.1.trans e1.2.1, e2.2.2.trans e1.2.2⟩⟩
theorem jfull (v : Int32) : -2147483648 ≤ v.toInt ∧ v.toInt ≤ 2147483647 := ⟨Int32.le_toInt v, by have := Int32.toInt_lt v; omega⟩
theorem zc_X11_isDay {d : Nat} {x : Int32} {m : Int} {h : jH} {Q : Option Value → jH → Prop} (hx : x.toInt = m) (hQ : ∀ v : Int32, (v.toInt = 1 ∧ 0 ≤ m ∧ m ≤ 146399) ∨ (v.toInt = 0 ∧ ¬ (0 ≤ m ∧ m ≤ 146399)) → Q (some (.int v)) h) : jC m_X11_isDay d 0 0 [.int x] h Q := by
  subst hx
  exact c_X11_isDay (jpx (Q := Q) hQ)
theorem zc_X11_isYear {d : Nat} {x : Int32} {m : Int} {h : jH} {Q : Option Value → jH → Prop} (hx : x.toInt = m) (hQ : ∀ v : Int32, (v.toInt = 1 ∧ 0 ≤ m ∧ m ≤ 399) ∨ (v.toInt = 0 ∧ ¬ (0 ≤ m ∧ m ≤ 399)) → Q (some (.int v)) h) : jC m_X11_isYear d 0 0 [.int x] h Q := by
  subst hx
  exact c_X11_isYear (jpx (Q := Q) hQ)
theorem zc_X11_isBook {d : Nat} {x : Int32} {m : Int} {h : jH} {Q : Option Value → jH → Prop} (hx : x.toInt = m) (hQ : ∀ v : Int32, (v.toInt = 1 ∧ 0 ≤ m ∧ m ≤ 5) ∨ (v.toInt = 0 ∧ ¬ (0 ≤ m ∧ m ≤ 5)) → Q (some (.int v)) h) : jC m_X11_isBook d 0 0 [.int x] h Q := by
  subst hx
  exact c_X11_isBook (jpx (Q := Q) hQ)
theorem zc_X11_isOffice {d : Nat} {x : Int32} {m : Int} {h : jH} {Q : Option Value → jH → Prop} (hx : x.toInt = m) (hQ : ∀ v : Int32, (v.toInt = 1 ∧ 0 ≤ m ∧ m ≤ 3) ∨ (v.toInt = 0 ∧ ¬ (0 ≤ m ∧ m ≤ 3)) → Q (some (.int v)) h) : jC m_X11_isOffice d 0 0 [.int x] h Q := by
  subst hx
  exact c_X11_isOffice (jpx (Q := Q) hQ)
theorem zc_X11_isCrop {d : Nat} {x : Int32} {m : Int} {h : jH} {Q : Option Value → jH → Prop} (hx : x.toInt = m) (hQ : ∀ v : Int32, (v.toInt = 1 ∧ 0 ≤ m ∧ m ≤ 2) ∨ (v.toInt = 0 ∧ ¬ (0 ≤ m ∧ m ≤ 2)) → Q (some (.int v)) h) : jC m_X11_isCrop d 0 0 [.int x] h Q := by
  subst hx
  exact c_X11_isCrop (jpx (Q := Q) hQ)
theorem zc_X11_isWithin {d : Nat} {x a c : Int32} {m i j : Int} {h : jH} {Q : Option Value → jH → Prop} (hx : x.toInt = m) (ha : a.toInt = i) (hc : c.toInt = j) (hQ : ∀ v : Int32, (v.toInt = 1 ∧ i ≤ m ∧ m ≤ j) ∨ (v.toInt = 0 ∧ ¬ (i ≤ m ∧ m ≤ j)) → Q (some (.int v)) h) : jC m_X11_isWithin d 0 0 [.int x, .int a, .int c] h Q :=
  c_X11_isWithin hx ha hc (jpx (Q := Q) hQ)
theorem zc_X12_in {d : Nat} {x a c : Int64} {m i j : Int} {h : jH} {Q : Option Value → jH → Prop} (hx : x.toInt = m) (ha : a.toInt = i) (hc : c.toInt = j) (hQ : ∀ v : Int32, (v.toInt = 1 ∧ i ≤ m ∧ m ≤ j) ∨ (v.toInt = 0 ∧ ¬ (i ≤ m ∧ m ≤ j)) → Q (some (.int v)) h) : jC m_X12_in d 0 0 [.long x, .long a, .long c] h Q :=
  c_X12_in hx ha hc (jpx (Q := Q) hQ)
theorem zc_X12_isDay {d : Nat} {x : Int32} {m : Int} {h : jH} {Q : Option Value → jH → Prop} (hx : x.toInt = m) (hQ : ∀ v : Int32, (v.toInt = 1 ∧ 0 ≤ m ∧ m ≤ 146399) ∨ (v.toInt = 0 ∧ ¬ (0 ≤ m ∧ m ≤ 146399)) → Q (some (.int v)) h) : jC m_X12_isDay (d + 1) 0 0 [.int x] h Q := by
  subst hx
  exact c_X12_isDay (jpx (Q := Q) hQ)
theorem zc_X12_isYear {d : Nat} {x : Int32} {m : Int} {h : jH} {Q : Option Value → jH → Prop} (hx : x.toInt = m) (hQ : ∀ v : Int32, (v.toInt = 1 ∧ 0 ≤ m ∧ m ≤ 399) ∨ (v.toInt = 0 ∧ ¬ (0 ≤ m ∧ m ≤ 399)) → Q (some (.int v)) h) : jC m_X12_isYear (d + 1) 0 0 [.int x] h Q := by
  subst hx
  exact c_X12_isYear (jpx (Q := Q) hQ)
theorem jfullL (v : Int64) : -9223372036854775808 ≤ v.toInt ∧ v.toInt ≤ 9223372036854775807 := ⟨Int64.le_toInt v, by have := Int64.toInt_lt v; omega⟩
theorem jmo2 {h hx9 : jH} {a : Nat} {i j x v : Int32} {m c : Int} (w : hx9 = jsi h a i.toNatClampNeg x) (hi : i.toInt = m) (hj : j.toInt = c) (e : 0 ≤ m ∧ 0 ≤ c ∧ m ≠ c) (q : jiv h a j.toNatClampNeg = v) : jiv hx9 a j.toNatClampNeg = v := by
  rw [w]
  refine iv_si ?_ q
  have e1 := jcl_nat hi e.1
  have e2 := jcl_nat hj e.2.1
  have e3 : j.toNatClampNeg ≠ i.toNatClampNeg := fun z => by rw [z] at e2; omega
  rw [jbne e3, Bool.and_false]
theorem jrg_f {Sg : List jSg} {Dy : jH → Prop} {h : jH} {a f : Nat} {lo hi : Int} (J : jJ Sg Dy h) (g : ((a, f, f + 1, 1, 0, 1, lo, hi) : jSg) ∈ Sg) : lo ≤ (jiv h a f).toInt ∧ (jiv h a f).toInt ≤ hi := J.2.1 _ g f ⟨Nat.le_refl _, Nat.lt_succ_self _, Nat.zero_le _, by show (f - f) % 1 < 1; omega⟩
theorem jrg_c {Sg : List jSg} {Dy : jH → Prop} {h : jH} {a fr to sd o o2 : Nat} {i : Int32} {m lo hi : Int} (J : jJ Sg Dy h) (g : ((a, fr, to, sd, o, o2, lo, hi) : jSg) ∈ Sg) (hm : i.toInt = m) (hb : 0 ≤ m ∧ (fr : Int) ≤ m ∧ m < to ∧ (o : Int) ≤ (m - fr) % sd ∧ (m - fr) % sd < o2) : lo ≤ (jiv h a i.toNatClampNeg).toInt ∧ (jiv h a i.toNatClampNeg).toInt ≤ hi := jrg_at (N := to) J g hm ⟨hb.1, hb.2.2.1, hb.2⟩
/-! a stretch of an array copied -/
theorem jnneg {x : Int32} (e : 0 ≤ x.toInt) : ¬ x < 0 := by
  rw [Int32.lt_iff_toInt_lt]
  have : (0 : Int32).toInt = 0 := by decide
  omega
theorem jJ_ci {Sg : List jSg} {Dy : jH → Prop} {h : jH} {a b i j l : Nat} (hC : ∀ h b a i j l, (Nat.blt a 174 && !jpr a 0 50660) = true → Dy h → Dy (jci h b a i j l)) (J : jJ Sg Dy h) (hb : (Nat.blt b 174 && !jpr b 0 50660) = true) (hw : ∀ s ∈ Sg, s.1 = b → ∀ k, j ≤ k → k < j + l → jin s k → s.2.2.2.2.2.2.1 ≤ (jiv h a (i + (k - j))).toInt ∧ (jiv h a (i + (k - j))).toInt ≤ s.2.2.2.2.2.2.2) : jJ Sg Dy (jci h a b i j l) := by
  refine ⟨⟨J.1.1, J.1.2⟩, fun s hs k hk => ?_, hC h a b i j l hb J.2.2⟩
  by_cases c : s.1 = b
  · by_cases c2 : j ≤ k ∧ k < j + l
    · have e : jiv (jci h a b i j l) s.1 k = jiv h a (i + (k - j)) := by
        rw [c]
        exact ju1_cn (f := h.2.1) (by rw [Nat.ble_eq.mpr c2.1, Nat.blt_eq.mpr c2.2]; rfl) rfl
      rw [e]
      exact hw s hs c k c2.1 c2.2 hk
    · have e : jiv (jci h a b i j l) s.1 k = jiv h s.1 k := by
        rw [c]
        refine ju1_co (f := h.2.1) ?_ rfl
        cases q1 : Nat.ble j k
        · rfl
        · cases q2 : Nat.blt k (j + l)
          · rfl
          · exact absurd ⟨Nat.ble_eq.mp q1, Nat.blt_eq.mp q2⟩ c2
      rw [e]
      exact J.2.1 s hs k hk
  · have e : jiv (jci h a b i j l) s.1 k = jiv h s.1 k := iv_ci (jbne c) rfl
    rw [e]
    exact J.2.1 s hs k hk
theorem jSm_ci {F : jFp} {h0 h : jH} {a b i j l N : Nat} (S : jSm F h0 h) (hN : F.contains (b, 0, N) = true) (hl : j + l ≤ N) : jSm F h0 (jci h a b i j l) := by
  refine ⟨S.1, fun c hc => S.2.1 c hc, fun c k hc g => ?_⟩
  have e := S.2.2 c k hc g
  by_cases q : c = b
  · subst q
    have q2 : ¬ (j ≤ k ∧ k < j + l) := fun z => by
      have := jfo_of hN (k := k) ⟨Nat.zero_le _, by omega⟩
      rw [g] at this; cases this
    have e2 : jiv (jci h a c i j l) c k = jiv h c k := by
      refine ju1_co (f := h.2.1) ?_ rfl
      cases q1 : Nat.ble j k
      · rfl
      · cases q3 : Nat.blt k (j + l)
        · rfl
        · exact absurd ⟨Nat.ble_eq.mp q1, Nat.blt_eq.mp q3⟩ q2
    exact ⟨e2.trans e.1, e.2.1, e.2.2⟩
  · exact ⟨(iv_ci (jbne q) rfl).trans e.1, e.2.1, e.2.2⟩
theorem z_cpi {M : jM} {d K S pc : Nat} {ls : jL} {st : List Value} {h h0 : jH} {k n : Nat} {Q : Option Value → jH → Prop} {Sg : List jSg} {Dy : jH → Prop} {FP : jFp} {a b N1 N2 idx : Nat} {sp dp ln : Int32} {u v w : Int} (hat : jat M pc = some (.invokestatic idx, 3)) (hw : jCp M idx) (hd : 1 ≤ d) (hst : Nat.ble (st.map fun v => v.category).sum 8 = true) (hD : jDk Dy) (J : jJ Sg Dy h) (Sm : jSm FP h0 h) (hs1 : (jtO ++ jtS).lookup a = some (100, N1)) (hs2 : (jtO ++ jtS).lookup b = some (100, N2)) (ha : Nat.ble 31 a = true) (hb : (Nat.ble 31 b && (Nat.blt b 174 && !jpr b 0 50660)) = true) (hu : sp.toInt = u) (hv : dp.toInt = v) (hl : ln.toInt = w) (hx : 0 ≤ u ∧ u + w ≤ N1 ∧ 0 ≤ v ∧ v + w ≤ N2 ∧ 0 ≤ w)
    (hc : ∀ s ∈ Sg, s.1 = b → ∀ k : Nat, v ≤ k → (k : Int) < v + w → jin s k → s.2.2.2.2.2.2.1 ≤ (jiv h a (u + (k - v)).toNat).toInt ∧ (jiv h a (u + (k - v)).toNat).toInt ≤ s.2.2.2.2.2.2.2) (hf : FP.contains (b, 0, N2) = true)
    (kk : ∀ hx9, hx9 = jci h a b sp.toNatClampNeg dp.toNatClampNeg ln.toNatClampNeg → jJ Sg Dy hx9 → jSm FP h0 hx9 → jX M d K S (pc + 3) ls st hx9 k n Q) : jX M d K S pc ls (.int ln :: .int dp :: .ref b :: .int sp :: .ref a :: st) h k n Q := by
  rw [Bool.and_eq_true] at hb
  have e1 := jcl_nat hu hx.1
  have e2 := jcl_nat hv hx.2.2.1
  have e3 := jcl_nat hl hx.2.2.2.2
  refine y_cpi sp.toNatClampNeg dp.toNatClampNeg ln.toNatClampNeg hat hw hd hst ha hb.1 (J.1.1 a _ hs1) (J.1.1 b _ hs2) (jnneg (by rw [hu]; exact hx.1)) (jnneg (by rw [hv]; exact hx.2.2.1)) (jnneg (by rw [hl]; exact hx.2.2.2.2)) rfl rfl rfl (by omega) (by omega) (kk _ rfl (jJ_ci hD.2.2.1 J hb.2 ?_) (jSm_ci Sm hf (by omega)))
  intro s hs hsb k k1 k2 k3
  have := hc s hs hsb k (by omega) (by omega) k3
  have e4 : (u + (k - v)).toNat = sp.toNatClampNeg + (k - dp.toNatClampNeg) := by omega
  rw [e4] at this
  exact this
theorem jcp_in {Sg : List jSg} {Dy : jH → Prop} {h : jH} {a fr to sd o o2 i : Nat} {m lo hi lo' hi' : Int} (J : jJ Sg Dy h) (g : ((a, fr, to, sd, o, o2, lo, hi) : jSg) ∈ Sg) (hi_ : m.toNat = i) (hb : 0 ≤ m ∧ (fr : Int) ≤ m ∧ m < to ∧ (o : Int) ≤ (m - fr) % sd ∧ (m - fr) % sd < o2) (h1 : lo' ≤ lo ∧ hi ≤ hi') : lo' ≤ (jiv h a i).toInt ∧ (jiv h a i).toInt ≤ hi' := by
  have e0 : (i : Int) = m := by omega
  have h5 := hb.2.2.2
  have e2 : ((i - fr : Nat) : Int) = m - fr := by omega
  have e3 : (((i - fr) % sd : Nat) : Int) = (m - fr) % sd := by rw [Int.natCast_emod, e2]
  have := J.2.1 _ g i ⟨by show fr ≤ i; omega, by show i < to; omega, by show o ≤ (i - fr) % sd; rw [← e3] at h5; exact Int.ofNat_le.mp h5.1, by show (i - fr) % sd < o2; rw [← e3] at h5; exact Int.ofNat_lt.mp h5.2⟩
  have t1 : lo ≤ (jiv h a i).toInt := this.1
  have t2 : (jiv h a i).toInt ≤ hi := this.2
  omega
theorem jmk {h hx9 : jH} {a b i j l c k : Nat} {v : Int32} (w : hx9 = jci h a b i j l) (e : Nat.beq c b = false) (q : jiv h c k = v) : jiv hx9 c k = v := by rw [w]; exact iv_ci e q
/-! TEXTS of the class by their names -/
def jlo (F : jFp) : Bool := F.all (fun q => Nat.blt q.1 174)
theorem jfo_hi {F : jFp} (e : jlo F = true) {a k : Nat} (ha : 174 ≤ a) : jfo F a k = false := by
  cases c : jfo F a k
  · rfl
  · obtain ⟨q, hq, g⟩ := List.any_eq_true.mp c
    rw [Bool.and_eq_true, Bool.and_eq_true] at g
    have h1 := Nat.eq_of_beq_eq_true g.1.1
    have h2 := Nat.blt_eq.mp (List.all_eq_true.mp e q hq)
    omega
theorem jTx_m {F : jFp} {h hx9 : jH} {a : Nat} (S : jSm F h hx9) (e : jlo F = true) (T : jTx h a) : jTx hx9 a := by
  obtain ⟨⟨t1, t2, t3⟩, t4, ⟨b, nb, b1, b2, b3, b4, b5, b6⟩, ⟨c, nc, c1, c2, c3, c4, c5⟩⟩ := T
  have q3 := S.2.2 a 3 (Or.inr t2) (jfo_hi e t1)
  have q4 := S.2.2 a 4 (Or.inr t2) (jfo_hi e t1)
  have q5 := S.2.2 a 5 (Or.inr t2) (jfo_hi e t1)
  refine ⟨⟨t1, Nat.lt_of_lt_of_le t2 S.1, (S.2.1 a (Or.inr t2)).trans t3⟩, by rw [q3.1]; exact t4, ⟨b, nb, q4.2.2.trans b1, b2, Nat.lt_of_lt_of_le b3 S.1, (S.2.1 b (Or.inr b3)).trans b4, by rw [q3.1]; exact b5, b6⟩, ⟨c, nc, q5.2.2.trans c1, c2, Nat.lt_of_lt_of_le c3 S.1, (S.2.1 c (Or.inr c3)).trans c4, c5⟩⟩
theorem jTa_m {F : jFp} {h hx9 : jH} {b n : Nat} (S : jSm F h hx9) (T : jTa h b n) : jTa hx9 b n := ⟨T.1, Nat.lt_of_lt_of_le T.2.1 S.1, (S.2.1 b (Or.inr T.2.1)).trans T.2.2.1, T.2.2.2⟩
/-- a write to one of the objects' own cells, as a step -/
theorem jSm_wi {h hx9 : jH} {a k : Nat} {x : Int32} (w : hx9 = jsi h a k x) : jSm [(a, k, k + 1)] h hx9 := by
  subst w
  exact jSm_si (jSm_rf _ h) (jfo_of (l := k) (u := k + 1) (List.contains_iff_mem.mpr List.mem_cons_self) ⟨Nat.le_refl _, Nat.lt_succ_self _⟩)
theorem jSm_wl {h hx9 : jH} {a k : Nat} {x : Int64} (w : hx9 = jsl h a k x) : jSm [(a, k, k + 1)] h hx9 := by
  subst w
  exact jSm_sl (jSm_rf _ h) (jfo_of (l := k) (u := k + 1) (List.contains_iff_mem.mpr List.mem_cons_self) ⟨Nat.le_refl _, Nat.lt_succ_self _⟩)
theorem jSm_wk {h hx9 : jH} {a b i j l : Nat} (w : hx9 = jci h a b i j l) : jSm [(b, 0, j + l)] h hx9 := by
  subst w
  exact jSm_ci (jSm_rf _ h) (N := j + l) (List.contains_iff_mem.mpr List.mem_cons_self) (Nat.le_refl _)
theorem jlo1 {a l u : Nat} (h : Nat.blt a 174 = true) : jlo [(a, l, u)] = true := by
  unfold jlo
  rw [List.all_cons, h]
  rfl
theorem jTx_i {h hx9 : jH} {a b k : Nat} {x : Int32} (w : hx9 = jsi h b k x) (e : Nat.blt b 174 = true) (T : jTx h a) : jTx hx9 a := jTx_m (jSm_wi w) (jlo1 e) T
theorem jTx_l {h hx9 : jH} {a b k : Nat} {x : Int64} (w : hx9 = jsl h b k x) (e : Nat.blt b 174 = true) (T : jTx h a) : jTx hx9 a := jTx_m (jSm_wl w) (jlo1 e) T
theorem jTx_k {h hx9 : jH} {a c b i j l : Nat} (w : hx9 = jci h c b i j l) (e : Nat.blt b 174 = true) (T : jTx h a) : jTx hx9 a := jTx_m (jSm_wk w) (jlo1 e) T
theorem jTa_i {h hx9 : jH} {a n b k : Nat} {x : Int32} (w : hx9 = jsi h b k x) (T : jTa h a n) : jTa hx9 a n := jTa_m (jSm_wi w) T
theorem jTa_l {h hx9 : jH} {a n b k : Nat} {x : Int64} (w : hx9 = jsl h b k x) (T : jTa h a n) : jTa hx9 a n := jTa_m (jSm_wl w) T
theorem jTa_k {h hx9 : jH} {a n c b i j l : Nat} (w : hx9 = jci h c b i j l) (T : jTa h a n) : jTa hx9 a n := jTa_m (jSm_wk w) T
theorem jtR_66 {q : Nat × Nat} (h : q ∈ jtR) : q.1 / 128 ≠ 66 := by
  have : ∀ q ∈ jtR, q.1 / 128 ≠ 66 := by decide +kernel
  exact this q h
section ZT
variable {M : jM} {d K S pc : Nat} {ls : jL} {st : List Value} {h h0 : jH} {k n : Nat} {Q : Option Value → jH → Prop} {Sg : List jSg} {Dy : jH → Prop} {FP FM : jFp} {a N idx : Nat} {i x : Int32} {m w : Int}
/-- one of the TEXTS, or none -/
theorem z_aaldT (hat : jat M pc = some (.aaload, 1)) (hD : jDk Dy) (J : jJ Sg Dy h) (hs : (jtO ++ jtS).lookup 66 = some (105, 30)) (hm : i.toInt = m) (hb : 0 ≤ m ∧ m < 30) (kk : jX M d K S (pc + 1) ls (.null :: st) h k n Q ∧ ∀ b, jTx h b → jX M d K S (pc + 1) ls (.ref b :: st) h k n Q) : jX M d K S pc ls (.int i :: .ref 66 :: st) h k n Q := by
  have e := jcl_nat hm hb.1
  exact x_aald hat (J.1.1 66 _ hs) (Or.inr rfl) (vpi (by rw [hm]; omega)) ⟨fun _ => kk.1, fun b q => kk.2 b ((hD.2.2.2.1 h J.2.2).2.1 _ b (by omega) q)⟩
theorem z_aastT (hat : jat M pc = some (.aastore, 1)) (hD : jDk Dy) (J : jJ Sg Dy h) (Sm : jSm FP h0 h) (hs : (jtO ++ jtS).lookup 66 = some (105, 30)) (hm : i.toInt = m) (hb : 0 ≤ m ∧ m < 30) (T : jTx h a) (hf : FP.contains (66, 0, 30) = true) (kk : ∀ hx9, hx9 = jsr h 66 i.toNatClampNeg (some a) → jJ Sg Dy hx9 → jSm FP h0 hx9 → jX M d K S (pc + 1) ls st hx9 k n Q) : jX M d K S pc ls (.ref a :: .int i :: .ref 66 :: st) h k n Q := by
  have e := jcl_nat hm hb.1
  refine x_aast (t := 105) (N := 30) hat (J.1.1 66 _ hs) (Or.inr rfl) rfl (by rw [T.1.2.2]; rfl) (vpi (by rw [hm]; omega)) (kk _ rfl ⟨⟨J.1.1, fun q c hq => ?_⟩, J.2.1, hD.2.2.2.2.1 h _ a (by omega) T J.2.2⟩ ?_)
  · have e1 : jrv (jsr h 66 i.toNatClampNeg (some a)) (q / 128) (q % 128) = jrv h (q / 128) (q % 128) := by simp [jrv, jsr, ju2, jtR_66 (jlk_mem hq)]
    exact e1.trans (J.1.2 q c hq)
  · exact jSm_ex (k0 := i.toNatClampNeg) Sm (jEx_sr h 66 _ _) (fun j hj => ⟨rfl, rfl, by simp [jrv, jsr, ju2, hj]⟩) (jfo_of hf ⟨Nat.zero_le _, by omega⟩)
theorem z_getT (f : Nat) (hat : jat M pc = some (.getfield idx, 3)) (hF : jF M idx 10 f) (hk : jkd (jft 10 f) = 2) (T : jTx h a) (kk : ∀ v : Int32, jX M d K S (pc + 3) ls (.int v :: st) h k n Q) : jX M d K S pc ls (.ref a :: st) h k n Q :=
  x_getI 10 f hat hF hk (by rw [T.1.2.2]) (kk _)
theorem z_getTc (hat : jat M pc = some (.getfield idx, 3)) (hF : jF M idx 10 3) (T : jTx h a) (kk : ∀ v : Int32, 0 ≤ v.toInt ∧ v.toInt ≤ 12 → jX M d K S (pc + 3) ls (.int v :: st) h k n Q) : jX M d K S pc ls (.ref a :: st) h k n Q :=
  x_getI 10 3 hat hF rfl (by rw [T.1.2.2]) (kk _ T.2.1)
/-- a TEXT's code -/
theorem z_getTr (hat : jat M pc = some (.getfield idx, 3)) (hF : jF M idx 10 5) (T : jTx h a) (kk : ∀ b nb, jTa h b nb → jX M d K S (pc + 3) ls (.ref b :: st) h k n Q) : jX M d K S pc ls (.ref a :: st) h k n Q := by
  obtain ⟨⟨t1, t2, t3⟩, t4, -, ⟨c, nc, c1, c2, c3, c4, c5⟩⟩ := T
  exact x_getR 10 5 hat hF rfl (by rw [t3]) c1 (kk c nc ⟨c2, c3, c4, c5⟩)
theorem z_alenT {b nb : Nat} (hat : jat M pc = some (.arraylength, 1)) (T : jTa h b nb) (kk : ∀ v : Int32, v.toInt = nb ∧ v.toInt ≤ 1200 → jX M d K S (pc + 1) ls (.int v :: st) h k n Q) : jX M d K S pc ls (.ref b :: st) h k n Q := by
  have e : (nI nb).toInt = nb := by
    have h1 : (nI nb).toNatClampNeg = nb := nI_clamp (by have := T.2.2.2; omega)
    have h2 := jnn (nI_pos (n := nb) (by have := T.2.2.2; omega))
    rw [h1] at h2
    exact h2
  exact x_alen hat T.2.2.1 (by decide) (kk _ ⟨e, by rw [e]; have := T.2.2.2; omega⟩)
theorem z_ialdT {b nb : Nat} (hat : jat M pc = some (.iaload, 1)) (T : jTa h b nb) (hm : i.toInt = m) (hb : 0 ≤ m ∧ m < nb) (kk : ∀ v : Int32, jX M d K S (pc + 1) ls (.int v :: st) h k n Q) : jX M d K S pc ls (.int i :: .ref b :: st) h k n Q :=
  x_iald hat T.2.2.1 (vpi (by rw [hm]; omega)) (kk _)
end ZT
theorem jTx_r {h hx9 : jH} {a j : Nat} {v : Option Nat} (w : hx9 = jsr h 66 j v) (T : jTx h a) : jTx hx9 a := by
  subst w
  obtain ⟨⟨t1, t2, t3⟩, t4, ⟨b, nb, b1, b2, b3, b4, b5, b6⟩, ⟨c, nc, c1, c2, c3, c4, c5⟩⟩ := T
  have hn : a ≠ 66 := by omega
  have e : ∀ k, jrv (jsr h 66 j v) a k = jrv h a k := fun k => by simp [jrv, jsr, ju2, hn]
  exact ⟨⟨t1, t2, t3⟩, t4, ⟨b, nb, (e 4).trans b1, b2, b3, b4, b5, b6⟩, ⟨c, nc, (e 5).trans c1, c2, c3, c4, c5⟩⟩
theorem jTa_r {h hx9 : jH} {b n j : Nat} {v : Option Nat} (w : hx9 = jsr h 66 j v) (T : jTa h b n) : jTa hx9 b n := by subst w; exact T
theorem jmr {h hx9 : jH} {b k j : Nat} {v : Int32} {o : Option Nat} (w : hx9 = jsr h 66 j o) (q : jiv h b k = v) : jiv hx9 b k = v := by subst w; exact q
theorem c_head {h : jH} {Q : Option Value → jH → Prop} {a : Nat} {x y : Int32} (T : jTx h a) (hQ : ∀ v : Int32, Q (some (.int v)) h) : jC m_X10_head 1 0 0 [.ref a, .int x, .int y] h Q := by
  obtain ⟨⟨t1, t2, t3⟩, t4, ⟨b, nb, b1, b2, b3, b4, b5, b6⟩, -⟩ := T
  have e6 : (6 : Int32).toInt = 6 := by decide
  have e0 : (0 : Int32).toInt = 0 := by decide
  refine jC.of rfl k_X10_head rfl ?_
  have out : jX m_X10_head 1 0 0 22 [(0, .ref a), (1, .int x), (2, .int y)] [] h 0 0 Q := by
    refine x_iconst (v := -1) rfl ki_m1 ?_
    exact x_iret rfl rfl (hQ _)
  refine x_iloadn (x := x) rfl rfl ?_
  refine x_iflt (tgt := 22) rfl rfl (ti_lt rfl e0 ⟨fun _ => out, fun c1 => ?_⟩)
  refine x_iloadn (x := x) rfl rfl ?_
  refine x_aloadn (x := a) rfl rfl ?_
  refine x_getI 10 3 rfl f_10_34 rfl (by rw [t3]) ?_
  refine x_icge (tgt := 22) rfl rfl (ti_ge rfl rfl ⟨fun _ => out, fun c2 => ?_⟩)
  refine x_iloadn (x := y) rfl rfl ?_
  refine x_iflt (tgt := 22) rfl rfl (ti_lt rfl e0 ⟨fun _ => out, fun c3 => ?_⟩)
  refine x_iloadn (x := y) rfl rfl ?_
  refine x_bipush (v := 6) rfl (by decide) ?_
  refine x_iclt (tgt := 24) rfl rfl (ti_lt rfl e6 ⟨fun c4 => ?_, fun _ => out⟩)
  refine x_aloadn (x := a) rfl rfl ?_
  refine x_getR 10 4 rfl f_10_21 rfl (by rw [t3]) b1 ?_
  refine x_iloadn (x := x) rfl rfl ?_
  refine x_bipush (v := 6) rfl (by decide) ?_
  refine z_imul rfl rfl e6 (by omega) (fun v ev => ?_)
  refine x_iloadn (x := y) rfl rfl ?_
  refine z_iadd rfl rfl rfl (by omega) (fun w ew => ?_)
  refine x_iald rfl b4 (vpi (by omega)) ?_
  exact x_iret rfl rfl (hQ _)
theorem zc_slen {h : jH} {Q : Option Value → jH → Prop} {Sg : List jSg} {Dy : jH → Prop} {i N : Nat} {v : Int32} (hi : Nat.blt i 13 = true) (J : jJ Sg Dy h) (hs : (jtO ++ jtS).lookup (18 + i) = some (103, N)) (hN : Nat.blt N 2147483648 = true) (hv : nI N = v) (hQ : Q (some (.int v)) h) : jC m_J0_length_8abf5 1 0 0 [.ref (5 + i)] h Q :=
  c_slen (Nat.blt_eq.mp hi) (Nat.blt_eq.mp hN) (J.1.1 _ _ hs) (hv ▸ hQ)
theorem zc_schar {h : jH} {Q : Option Value → jH → Prop} {Sg : List jSg} {Dy : jH → Prop} {i N : Nat} {x : Int32} {m : Int} (hi : Nat.blt i 13 = true) (J : jJ Sg Dy h) (hs : (jtO ++ jtS).lookup (18 + i) = some (103, N)) (hN : Nat.blt N 2147483648 = true) (hm : x.toInt = m) (hb : 0 ≤ m ∧ m < N) (hQ : ∀ v : Int32, 0 ≤ v.toInt ∧ v.toInt ≤ 255 → Q (some (.int v)) h) : jC m_J0_charAt_5068e 3 0 0 [.ref (5 + i), .int x] h Q :=
  c_schar (Nat.blt_eq.mp hi) (Nat.blt_eq.mp hN) (J.1.1 _ _ hs) (vpi (by rw [hm]; omega)) (hQ _ (jz_and (c := 255) (by decide) (by decide)))
