/-! rows with the value named -/
def jinb (i : Int32) (N : Nat) : Bool := decide (¬ i < 0) && Nat.blt i.toNatClampNeg N
theorem jinb_of {i : Int32} {N : Nat} (h : jinb i N = true) : vp_in i N := by
  unfold jinb at h
  rw [Bool.and_eq_true] at h
  have h1 := of_decide_eq_true h.1
  have h2 := Nat.blt_eq.mp h.2
  rintro (h3 | h3)
  · exact h1 h3
  · omega
section R8
variable {M : jM} {d K S pc : Nat} {ls : jL} {st : List Value} {h : jH} {k n : Nat} {Q : Option Value → jH → Prop}
theorem jX_stk {st' : List Value} (e : st = st') (kk : jX M d K S pc ls st' h k n Q) : jX M d K S pc ls st h k n Q := e ▸ kk
theorem y_iadd {x y v : Int32} (hat : jat M pc = some (.iadd, 1)) (hv : x + y = v) (kk : jX M d K S (pc + 1) ls (.int v :: st) h k n Q) : jX M d K S pc ls (.int y :: .int x :: st) h k n Q := x_iadd hat (hv ▸ kk)
theorem y_isub {x y v : Int32} (hat : jat M pc = some (.isub, 1)) (hv : x - y = v) (kk : jX M d K S (pc + 1) ls (.int v :: st) h k n Q) : jX M d K S pc ls (.int y :: .int x :: st) h k n Q := x_isub hat (hv ▸ kk)
theorem y_imul {x y v : Int32} (hat : jat M pc = some (.imul, 1)) (hv : x * y = v) (kk : jX M d K S (pc + 1) ls (.int v :: st) h k n Q) : jX M d K S pc ls (.int y :: .int x :: st) h k n Q := x_imul hat (hv ▸ kk)
theorem y_idiv {x y v : Int32} (hat : jat M pc = some (.idiv, 1)) (hne : ¬ y = 0) (hv : x / y = v) (kk : jX M d K S (pc + 1) ls (.int v :: st) h k n Q) : jX M d K S pc ls (.int y :: .int x :: st) h k n Q := x_idiv hat hne (hv ▸ kk)
theorem y_irem {x y v : Int32} (hat : jat M pc = some (.irem, 1)) (hne : ¬ y = 0) (hv : x - x / y * y = v) (kk : jX M d K S (pc + 1) ls (.int v :: st) h k n Q) : jX M d K S pc ls (.int y :: .int x :: st) h k n Q := x_irem hat hne (hv ▸ kk)
theorem y_iand {x y v : Int32} (hat : jat M pc = some (.iand, 1)) (hv : x &&& y = v) (kk : jX M d K S (pc + 1) ls (.int v :: st) h k n Q) : jX M d K S pc ls (.int y :: .int x :: st) h k n Q := x_iand hat (hv ▸ kk)
theorem y_ishr {x y v : Int32} (hat : jat M pc = some (.ishr, 1)) (hv : x >>> (y &&& 31) = v) (kk : jX M d K S (pc + 1) ls (.int v :: st) h k n Q) : jX M d K S pc ls (.int y :: .int x :: st) h k n Q := x_ishr hat (hv ▸ kk)
theorem y_i2l {x : Int32} {v : Int64} (hat : jat M pc = some (.i2l, 1)) (hv : x.toInt64 = v) (kk : jX M d K S (pc + 1) ls (.long v :: st) h k n Q) : jX M d K S pc ls (.int x :: st) h k n Q := x_i2l hat (hv ▸ kk)
theorem y_l2i {x : Int64} {v : Int32} (hat : jat M pc = some (.l2i, 1)) (hv : x.toInt32 = v) (kk : jX M d K S (pc + 1) ls (.int v :: st) h k n Q) : jX M d K S pc ls (.long x :: st) h k n Q := x_l2i hat (hv ▸ kk)
theorem y_ladd {x y v : Int64} (hat : jat M pc = some (.ladd, 1)) (hv : x + y = v) (kk : jX M d K S (pc + 1) ls (.long v :: st) h k n Q) : jX M d K S pc ls (.long y :: .long x :: st) h k n Q := x_ladd hat (hv ▸ kk)
theorem y_lsub {x y v : Int64} (hat : jat M pc = some (.lsub, 1)) (hv : x - y = v) (kk : jX M d K S (pc + 1) ls (.long v :: st) h k n Q) : jX M d K S pc ls (.long y :: .long x :: st) h k n Q := x_lsub hat (hv ▸ kk)
theorem y_lcmp {x y : Int64} {v : Int32} (hat : jat M pc = some (.lcmp, 1)) (hv : lg_cmp x y = v) (kk : jX M d K S (pc + 1) ls (.int v :: st) h k n Q) : jX M d K S pc ls (.long y :: .long x :: st) h k n Q := x_lcmp hat (hv ▸ kk)
theorem y_getI {idx a : Nat} {v : Int32} (c f : Nat) (hat : jat M pc = some (.getfield idx, 3)) (hF : jF M idx c f) (hk : jkd (jft c f) = 2) (hs : (jsh h a).1 = c) (hv : jiv h a f = v) (kk : jX M d K S (pc + 3) ls (.int v :: st) h k n Q) : jX M d K S pc ls (.ref a :: st) h k n Q := x_getI c f hat hF hk hs (hv ▸ kk)
theorem y_getL {idx a : Nat} {v : Int64} (c f : Nat) (hat : jat M pc = some (.getfield idx, 3)) (hF : jF M idx c f) (hk : jkd (jft c f) = 0) (hs : (jsh h a).1 = c) (hv : jlv h a f = v) (kk : jX M d K S (pc + 3) ls (.long v :: st) h k n Q) : jX M d K S pc ls (.ref a :: st) h k n Q := x_getL c f hat hF hk hs (hv ▸ kk)
theorem y_iald {i v : Int32} {a N : Nat} (j : Nat) (hat : jat M pc = some (.iaload, 1)) (hs : jsh h a = (100, N)) (hi : vp_in i N) (hj : i.toNatClampNeg = j) (hv : jiv h a j = v) (kk : jX M d K S (pc + 1) ls (.int v :: st) h k n Q) : jX M d K S pc ls (.int i :: .ref a :: st) h k n Q := by
  subst hj; exact x_iald hat hs hi (hv ▸ kk)
theorem y_lald {i : Int32} {v : Int64} {a N : Nat} (j : Nat) (hat : jat M pc = some (.laload, 1)) (hs : jsh h a = (101, N)) (hi : vp_in i N) (hj : i.toNatClampNeg = j) (hv : jlv h a j = v) (kk : jX M d K S (pc + 1) ls (.long v :: st) h k n Q) : jX M d K S pc ls (.int i :: .ref a :: st) h k n Q := by
  subst hj; exact x_lald hat hs hi (hv ▸ kk)
theorem y_zald {i v : Int32} {a N : Nat} (j : Nat) (hat : jat M pc = some (.baload, 1)) (hs : jsh h a = (102, N)) (hi : vp_in i N) (hj : i.toNatClampNeg = j) (hv : jiv h a j = v) (kk : jX M d K S (pc + 1) ls (.int v :: st) h k n Q) : jX M d K S pc ls (.int i :: .ref a :: st) h k n Q := by
  subst hj; exact x_zald hat hs hi (hv ▸ kk)
theorem y_iast {i x : Int32} {a N : Nat} (j : Nat) (hat : jat M pc = some (.iastore, 1)) (hs : jsh h a = (100, N)) (ha : Nat.ble 31 a = true) (hi : vp_in i N) (hj : i.toNatClampNeg = j) (kk : jX M d K S (pc + 1) ls st (jsi h a j x) k n Q) : jX M d K S pc ls (.int x :: .int i :: .ref a :: st) h k n Q := by
  subst hj; exact x_iast hat hs ha hi kk
theorem y_last {i : Int32} {x : Int64} {a N : Nat} (j : Nat) (hat : jat M pc = some (.lastore, 1)) (hs : jsh h a = (101, N)) (ha : Nat.ble 31 a = true) (hi : vp_in i N) (hj : i.toNatClampNeg = j) (kk : jX M d K S (pc + 1) ls st (jsl h a j x) k n Q) : jX M d K S pc ls (.long x :: .int i :: .ref a :: st) h k n Q := by
  subst hj; exact x_last hat hs ha hi kk
theorem y_zast {i x : Int32} {a N : Nat} (j : Nat) (hat : jat M pc = some (.bastore, 1)) (hs : jsh h a = (102, N)) (ha : Nat.ble 31 a = true) (hx : x = 0 ∨ x = 1) (hi : vp_in i N) (hj : i.toNatClampNeg = j) (kk : jX M d K S (pc + 1) ls st (jsi h a j x) k n Q) : jX M d K S pc ls (.int x :: .int i :: .ref a :: st) h k n Q := by
  subst hj; exact x_zast hat hs ha hx hi kk
theorem y_newa {x : Int32} {t : ArrayType} (tag N : Nat) (hat : jat M pc = some (.newarray t, 2)) (ht : jtA tag = newarray.typeOf t ∧ 100 ≤ tag ∧ tag < 104) (hw : Cond.arrayClass (newarray.typeOf t) ∈ lw_tbl) (hx : ¬ x < 0) (hN : x.toNatClampNeg = N) (hb : N * 8 ≤ 536870912) (g3 : k + 1 ≤ K ∧ n + N ≤ S)
    (kk : jX M d K S (pc + 2) ls (.ref (jnx h) :: st) (jnw h tag N) (k + 1) (n + N) Q) : jX M d K S pc ls (.int x :: st) h k n Q := by
  subst hN; exact x_newa tag hat ht hw hx hb g3 kk
theorem y_anew {idx : Nat} {x : Int32} (tag N : Nat) (hat : jat M pc = some (.anewarray idx, 3)) (ht : tag = 104 ∨ tag = 105) (hw : ∀ C, jtA tag = .object C → Cond.classLink M.2.1.cls idx C ∈ lw_tbl) (hx : ¬ x < 0) (hN : x.toNatClampNeg = N) (hb : N * 4 ≤ 536870912) (g3 : k + 1 ≤ K ∧ n + N ≤ S)
    (kk : jX M d K S (pc + 3) ls (.ref (jnx h) :: st) (jnw h tag N) (k + 1) (n + N) Q) : jX M d K S pc ls (.int x :: st) h k n Q := by
  subst hN; exact x_anew tag hat ht hw hx hb g3 kk
/-- the widths named -/
theorem jX.kn {k' n' : Nat} (e1 : k = k') (e2 : n = n') (kk : jX M d K S pc ls st h k' n' Q) : jX M d K S pc ls st h k n Q := by subst e1; subst e2; exact kk
theorem jfin_no {c f : Nat} (T : u_T) (C : String) (N : Nat) (h : vwCl[c]? = some (C, T, N)) (g : (T f).2.2.2 = false) : jfin M c f := Or.inl (fun q hq => by cases h.symm.trans hq; exact g)
theorem jfin_in {c f : Nat} (T : u_T) (C : String) (N : Nat) (h : vwCl[c]? = some (C, T, N)) (g0 : M.2.1.name = "<init>") (g : (T f).2.2.2 = true) (g1 : (T f).1 = M.2.1.cls) : jfin M c f := Or.inr ⟨g0, fun q hq => by cases h.symm.trans hq; exact ⟨g, g1⟩⟩
/-- a contract whose end is taken further -/
theorem jX.post {Q' : Option Value → jH → Prop} (hQ : ∀ r hx9, Q r hx9 → Q' r hx9) (kk : jX M d K S pc ls st h k n Q) : jX M d K S pc ls st h k n Q' := by
  intro p l e R s m args below meth c D lo ad H locs lA hc hV hA hP hl hL g1 g2 T hT X
  obtain ⟨t, a1, o, b1, b2, ⟨r, hx9, b3, b4, b5⟩, b6⟩ := kk p l e R s m args below meth c D lo ad H locs lA hc hV hA hP hl hL g1 g2 T hT X
  exact ⟨t, a1, o, b1, b2, ⟨r, hx9, b3, hQ r hx9 b4, b5⟩, b6⟩
end R8
theorem jC.post {M : jM} {d K S : Nat} {vs : List Value} {h : jH} {Q Q' : Option Value → jH → Prop} (hQ : ∀ r hx9, Q r hx9 → Q' r hx9) (kk : jC M d K S vs h Q) : jC M d K S vs h Q' := by
  intro l D lo ad hA
  refine MetFree.mono (kk l D lo ad hA) (fun _ _ x => x) (fun _ _ _ _ _ x => x) (fun a st o t _ x => ?_)
  obtain ⟨⟨r, hx9, b3, b4, b5⟩, b6⟩ := x
  exact ⟨⟨r, hx9, b3, hQ r hx9 b4, b5⟩, b6⟩
