theorem jk_m2000000000 : ((-2000000000) : Int32).toInt = (-2000000000) := by decide
theorem jkl_32 : (32 : Int64).toInt = 32 := by decide
theorem jkl_96 : (96 : Int64).toInt = 96 := by decide
theorem jkl_1000000000001 : (1000000000001 : Int64).toInt = 1000000000001 := by decide
/-! views: all that a heap holds, as numbers -/
def vw (h : jH) : jW := (fun a k => (jiv h a k).toInt, fun a k => (jlv h a k).toInt, jrv h, jsh h, jnx h)
theorem vrf {h : jH} {a k : Nat} {v : Int32} (q : jiv h a k = v) : (vw h).1 a k = v.toInt := congrArg Int32.toInt q
theorem vrn {h : jH} {a n : Nat} {i v : Int32} (e : i.toNatClampNeg = n) (q : jiv h a i.toNatClampNeg = v) : (vw h).1 a n = v.toInt := vrf (by rw [← e]; exact q)
theorem vrd {h : jH} {a : Nat} {i v : Int32} {x : Int} (q : jiv h a i.toNatClampNeg = v) (e : x = i.toInt) : (vw h).1 a x.toNat = v.toInt := vrf (by rw [e]; exact q)
theorem vrfL {h : jH} {a k : Nat} {v : Int64} (q : jlv h a k = v) : (vw h).2.1 a k = v.toInt := congrArg Int64.toInt q
theorem vrnL {h : jH} {a n : Nat} {i : Int32} {v : Int64} (e : i.toNatClampNeg = n) (q : jlv h a i.toNatClampNeg = v) : (vw h).2.1 a n = v.toInt := vrfL (by rw [← e]; exact q)
theorem vrdL {h : jH} {a : Nat} {i : Int32} {v : Int64} {x : Int} (q : jlv h a i.toNatClampNeg = v) (e : x = i.toInt) : (vw h).2.1 a x.toNat = v.toInt := vrfL (by rw [e]; exact q)
theorem vif {p : Prop} [Decidable p] {q : Bool} (e : q = true ↔ p) {α : Type} {x y : α} : (if p then x else y) = if q = true then x else y := by
  by_cases c : p
  · rw [if_pos c, if_pos (e.mpr c)]
  · rw [if_neg c, if_neg (fun z => c (e.mp z))]
theorem vwf {h hx9 : jH} {a k : Nat} {x : Int32} {y : Int} (w : hx9 = jsi h a k x) (e : y = x.toInt) : vu (vw h) a k y = vw hx9 := by
  subst w
  refine Prod.ext (funext fun b => funext fun j => ?_) rfl
  show (if b = a ∧ j = k then y else (jiv h b j).toInt) = (jiv (jsi h a k x) b j).toInt
  by_cases c : b = a ∧ j = k
  · rw [if_pos c, c.1, c.2, iv_eq, e]
  · rw [if_neg c, iv_si (w := jiv h b j) (by
      cases z : (Nat.beq b a && Nat.beq j k)
      · rfl
      · rw [Bool.and_eq_true] at z
        exact absurd ⟨Nat.eq_of_beq_eq_true z.1, Nat.eq_of_beq_eq_true z.2⟩ c) rfl]
theorem vwn {h hx9 : jH} {a n : Nat} {i x : Int32} {y : Int} (e0 : i.toNatClampNeg = n) (w : hx9 = jsi h a i.toNatClampNeg x) (e : y = x.toInt) : vu (vw h) a n y = vw hx9 := vwf (by rw [← e0]; exact w) e
theorem vww {h hx9 : jH} {a : Nat} {i x : Int32} {z y : Int} (w : hx9 = jsi h a i.toNatClampNeg x) (e0 : z = i.toInt) (e : y = x.toInt) : vu (vw h) a z.toNat y = vw hx9 := vwf (by rw [e0]; exact w) e
theorem vwfL {h hx9 : jH} {a k : Nat} {x : Int64} {y : Int} (w : hx9 = jsl h a k x) (e : y = x.toInt) : vuL (vw h) a k y = vw hx9 := by
  subst w
  refine Prod.ext rfl (Prod.ext (funext fun b => funext fun j => ?_) rfl)
  show (if b = a ∧ j = k then y else (jlv h b j).toInt) = (jlv (jsl h a k x) b j).toInt
  by_cases c : b = a ∧ j = k
  · rw [if_pos c, c.1, c.2, lv_eq, e]
  · rw [if_neg c, lv_sl (w := jlv h b j) (by
      cases z : (Nat.beq b a && Nat.beq j k)
      · rfl
      · rw [Bool.and_eq_true] at z
        exact absurd ⟨Nat.eq_of_beq_eq_true z.1, Nat.eq_of_beq_eq_true z.2⟩ c) rfl]
theorem vwnL {h hx9 : jH} {a n : Nat} {i : Int32} {x : Int64} {y : Int} (e0 : i.toNatClampNeg = n) (w : hx9 = jsl h a i.toNatClampNeg x) (e : y = x.toInt) : vuL (vw h) a n y = vw hx9 := vwfL (by rw [← e0]; exact w) e
theorem vwwL {h hx9 : jH} {a : Nat} {i : Int32} {x : Int64} {z y : Int} (w : hx9 = jsl h a i.toNatClampNeg x) (e0 : z = i.toInt) (e : y = x.toInt) : vuL (vw h) a z.toNat y = vw hx9 := vwfL (by rw [e0]; exact w) e
theorem vwr {h hx9 : jH} {a : Nat} {i : Int32} {o : Option Nat} {z : Int} (w : hx9 = jsr h a i.toNatClampNeg o) (e0 : z = i.toInt) : vuR (vw h) a z.toNat o = vw hx9 := by
  subst w
  subst e0
  refine Prod.ext rfl (Prod.ext rfl (Prod.ext (funext fun b => funext fun j => ?_) rfl))
  show (if b = a ∧ j = i.toInt.toNat then o else jrv h b j) = jrv (jsr h a i.toInt.toNat o) b j
  by_cases c : b = a ∧ j = i.toInt.toNat
  · rw [if_pos c, c.1, c.2]
    exact rv_eq.symm
  · rw [if_neg c]
    exact (rv_sr (by
      cases z : (Nat.beq b a && Nat.beq j i.toInt.toNat)
      · rfl
      · rw [Bool.and_eq_true] at z
        exact absurd ⟨Nat.eq_of_beq_eq_true z.1, Nat.eq_of_beq_eq_true z.2⟩ c) rfl).symm
theorem vwk {h hx9 : jH} {a b : Nat} {i j l : Int32} {i' j' l' : Int} (w : hx9 = jci h a b i.toNatClampNeg j.toNatClampNeg l.toNatClampNeg) (ei : i' = i.toInt) (ej : j' = j.toInt) (el : l' = l.toInt) : vuC (vw h) a b i'.toNat j'.toNat l'.toNat = vw hx9 := by
  subst w ei ej el
  refine Prod.ext (funext fun c => funext fun m => ?_) rfl
  show (if c = b ∧ j.toInt.toNat ≤ m ∧ m < j.toInt.toNat + l.toInt.toNat then (jiv h a (i.toInt.toNat + (m - j.toInt.toNat))).toInt else (jiv h c m).toInt) = (if c = b then (if j.toInt.toNat ≤ m ∧ m < j.toInt.toNat + l.toInt.toNat then h.2.1 a (i.toInt.toNat + (m - j.toInt.toNat)) else h.2.1 b m) else h.2.1 c m).toInt
  by_cases e : c = b
  · subst e
    rw [if_pos (c := c = c) rfl]
    by_cases g : j.toInt.toNat ≤ m ∧ m < j.toInt.toNat + l.toInt.toNat
    · rw [if_pos ⟨rfl, g⟩, if_pos g]
      rfl
    · rw [if_neg (fun z => g z.2), if_neg g]
      rfl
  · rw [if_neg (fun z => e z.1), if_neg e]
    rfl
theorem jtst {p : Prop} [Decidable p] {v : Int32} (e : (v.toInt = 1 ∧ p) ∨ (v.toInt = 0 ∧ ¬ p)) : (if p then (1 : Int) else 0) = v.toInt := by
  rcases e with e | e
  · rw [if_pos e.2, e.1]
  · rw [if_neg e.2, e.1]
/-- back to an older heap, where the place was the same -/
theorem jmb_w {h hx9 : jH} {a k b j : Nat} {x v : Int32} (w : hx9 = jsi h a k x) (q : jiv hx9 b j = v) (e : (Nat.beq b a && Nat.beq j k) = false) : jiv h b j = v := (jmo w e rfl).symm.trans q
theorem jmb_c {F : jFp} {h hx9 : jH} {b j : Nat} {v : Int32} (w : jSm F h hx9) (q : jiv hx9 b j = v) (e : (Nat.blt b 174 && !jfo F b j) = true) : jiv h b j = v := (jmc w e rfl).symm.trans q
theorem jmb_l {h hx9 : jH} {a k b j : Nat} {x : Int64} {v : Int32} (w : hx9 = jsl h a k x) (q : jiv hx9 b j = v) : jiv h b j = v := (jml w rfl).symm.trans q
theorem jmb_k {h hx9 : jH} {a b i j l c k : Nat} {v : Int32} (w : hx9 = jci h a b i j l) (q : jiv hx9 c k = v) (e : Nat.beq c b = false) : jiv h c k = v := (jmk w e rfl).symm.trans q
theorem jmb_r {h hx9 : jH} {b k j : Nat} {v : Int32} {o : Option Nat} (w : hx9 = jsr h 66 j o) (q : jiv hx9 b k = v) : jiv h b k = v := (jmr w rfl).symm.trans q
/-- references -/
def jvn : Value → Nat
  | .ref a => a
  | _ => 0
theorem vrr {h : jH} {a k b : Nat} (q : jrv h a k = some b) : ((vw h).2.2.1 a k).getD 0 = b := by
  show (jrv h a k).getD 0 = b
  rw [q]
  rfl
theorem vnn {h : jH} {a : Nat} {i : Int32} {x : Int} (q : jrv h a i.toNatClampNeg = none) (e : x = i.toInt) : ((vw h).2.2.1 a x.toNat).isNone = true := by
  subst e
  show (jrv h a i.toNatClampNeg).isNone = true
  rw [q]
  rfl
theorem vns {h : jH} {a b : Nat} {i : Int32} {x : Int} (q : jrv h a i.toNatClampNeg = some b) (e : x = i.toInt) : ¬ ((vw h).2.2.1 a x.toNat).isNone = true := by
  subst e
  show ¬ (jrv h a i.toNatClampNeg).isNone = true
  rw [q]
  exact Bool.false_ne_true
theorem vrs {h : jH} {a b : Nat} {i : Int32} {x : Int} (q : jrv h a i.toNatClampNeg = some b) (e : x = i.toInt) : ((vw h).2.2.1 a x.toNat).getD 0 = b := by
  subst e
  exact vrr q
theorem vsh {h : jH} {b c nb : Nat} {v : Int32} (q : jsh h b = (c, nb)) (e : v.toInt = nb) : ((((vw h).2.2.2.1 b).2 : Nat) : Int) = v.toInt := by
  show (((jsh h b).2 : Nat) : Int) = v.toInt
  rw [q, e]
section
variable {M : jM} {d K S pc : Nat} {ls : jL} {st : List Value} {h h0 : jH} {k n : Nat} {Q : Option Value → jH → Prop} {Sg : List jSg} {Dy : jH → Prop} {a idx : Nat} {i : Int32} {m : Int}
theorem z_aaldTD (hat : jat M pc = some (.aaload, 1)) (hD : jDk Dy) (J : jJ Sg Dy h) (hs : (jtO ++ jtS).lookup 66 = some (105, 30)) (hm : i.toInt = m) (hb : 0 ≤ m ∧ m < 30) (kk : (jrv h 66 i.toNatClampNeg = none → jX M d K S (pc + 1) ls (.null :: st) h k n Q) ∧ ∀ b, jrv h 66 i.toNatClampNeg = some b → jTx h b → jX M d K S (pc + 1) ls (.ref b :: st) h k n Q) : jX M d K S pc ls (.int i :: .ref 66 :: st) h k n Q := by
  have e := jcl_nat hm hb.1
  exact x_aald hat (J.1.1 66 _ hs) (Or.inr rfl) (vpi (by rw [hm]; omega)) ⟨fun q => kk.1 q, fun b q => kk.2 b q ((hD.2.2.2.1 h J.2.2).2.1 _ b (by omega) q)⟩
theorem z_getTD (f : Nat) (hat : jat M pc = some (.getfield idx, 3)) (hF : jF M idx 10 f) (hk : jkd (jft 10 f) = 2) (T : jTx h a) (kk : ∀ v : Int32, jiv h a f = v → jX M d K S (pc + 3) ls (.int v :: st) h k n Q) : jX M d K S pc ls (.ref a :: st) h k n Q :=
  x_getI 10 f hat hF hk (by rw [T.1.2.2]) (kk _ rfl)
theorem z_getTcD (hat : jat M pc = some (.getfield idx, 3)) (hF : jF M idx 10 3) (T : jTx h a) (kk : ∀ v : Int32, jiv h a 3 = v → 0 ≤ v.toInt ∧ v.toInt ≤ 12 → jX M d K S (pc + 3) ls (.int v :: st) h k n Q) : jX M d K S pc ls (.ref a :: st) h k n Q :=
  x_getI 10 3 hat hF rfl (by rw [T.1.2.2]) (kk _ rfl T.2.1)
theorem z_getTrD (hat : jat M pc = some (.getfield idx, 3)) (hF : jF M idx 10 5) (T : jTx h a) (kk : ∀ b nb, jrv h a 5 = some b → jTa h b nb → jX M d K S (pc + 3) ls (.ref b :: st) h k n Q) : jX M d K S pc ls (.ref a :: st) h k n Q := by
  obtain ⟨⟨t1, t2, t3⟩, t4, -, ⟨c, nc, c1, c2, c3, c4, c5⟩⟩ := T
  exact x_getR 10 5 hat hF rfl (by rw [t3]) c1 (kk c nc c1 ⟨c2, c3, c4, c5⟩)
theorem z_ialdTD {b nb : Nat} (hat : jat M pc = some (.iaload, 1)) (T : jTa h b nb) (hm : i.toInt = m) (hb : 0 ≤ m ∧ m < nb) (kk : ∀ v : Int32, jiv h b i.toNatClampNeg = v → jX M d K S (pc + 1) ls (.int v :: st) h k n Q) : jX M d K S pc ls (.int i :: .ref b :: st) h k n Q :=
  x_iald hat T.2.2.1 (vpi (by rw [hm]; omega)) (kk _ rfl)
end
/-- a number of a TEXT's heads -/
theorem c_headD {h : jH} {Q : Option Value → jH → Prop} {a : Nat} {x y : Int32} {p q : Int} (T : jTx h a) (hp : x.toInt = p) (hq : y.toInt = q) (hQ : ∀ v : Int32, v.toInt = d_head a p q (vw h) → Q (some (.int v)) h) : jC m_X10_head 1 0 0 [.ref a, .int x, .int y] h Q := by
  subst hp
  subst hq
  obtain ⟨⟨t1, t2, t3⟩, t4, ⟨b, nb, b1, b2, b3, b4, b5, b6⟩, -⟩ := T
  have e6 : (6 : Int32).toInt = 6 := by decide
  have e0 : (0 : Int32).toInt = 0 := by decide
  have w3 : (vw h).1 a 3 = (jiv h a 3).toInt := rfl
  refine jC.of rfl k_X10_head rfl ?_
  have out : d_head a x.toInt y.toInt (vw h) = -1 → jX m_X10_head 1 0 0 22 [(0, .ref a), (1, .int x), (2, .int y)] [] h 0 0 Q := fun e => by
    refine x_iconst (v := -1) rfl ki_m1 ?_
    exact x_iret rfl rfl (hQ _ (by rw [e]; decide))
  unfold d_head at out hQ
  rw [w3, vrr b1] at out hQ
  refine x_iloadn (x := x) rfl rfl ?_
  refine x_iflt (tgt := 22) rfl rfl (ti_lt rfl e0 ⟨fun c1 => out (if_pos c1), fun c1 => ?_⟩)
  rw [if_neg c1] at out hQ
  refine x_iloadn (x := x) rfl rfl ?_
  refine x_aloadn (x := a) rfl rfl ?_
  refine x_getI 10 3 rfl f_10_34 rfl (by rw [t3]) ?_
  refine x_icge (tgt := 22) rfl rfl (ti_ge rfl rfl ⟨fun c2 => out (if_pos c2), fun c2 => ?_⟩)
  rw [if_neg c2] at out hQ
  refine x_iloadn (x := y) rfl rfl ?_
  refine x_iflt (tgt := 22) rfl rfl (ti_lt rfl e0 ⟨fun c3 => out (if_pos c3), fun c3 => ?_⟩)
  rw [if_neg c3] at out hQ
  refine x_iloadn (x := y) rfl rfl ?_
  refine x_bipush (v := 6) rfl (by decide) ?_
  refine x_iclt (tgt := 24) rfl rfl (ti_lt rfl e6 ⟨fun c4 => ?_, fun c4 => out (if_neg c4)⟩)
  rw [if_pos c4] at hQ
  refine x_aloadn (x := a) rfl rfl ?_
  refine x_getR 10 4 rfl f_10_21 rfl (by rw [t3]) b1 ?_
  refine x_iloadn (x := x) rfl rfl ?_
  refine x_bipush (v := 6) rfl (by decide) ?_
  refine z_imul rfl rfl e6 (by omega) (fun v ev => ?_)
  refine x_iloadn (x := y) rfl rfl ?_
  refine z_iadd rfl rfl rfl (by omega) (fun w ew => ?_)
  refine x_iald rfl b4 (vpi (by omega)) ?_
  exact x_iret rfl rfl (hQ _ (vrd rfl (by omega)).symm)
theorem i_ne0 {y : Int32} {b : Int} (hy : y.toInt = b) (hn : b ≠ 0) : ¬ y = 0 := by
  intro c
  rw [c, show (0 : Int32).toInt = 0 from by decide] at hy
  exact hn hy.symm
theorem l_ne0 {y : Int64} {b : Int} (hy : y.toInt = b) (hn : b ≠ 0) : ¬ y = 0 := by
  intro c
  rw [c, show (0 : Int64).toInt = 0 from by decide] at hy
  exact hn hy.symm
theorem e_iadd {x y : Int32} {a b : Int} (hx : x.toInt = a) (hy : y.toInt = b) : (x + y).toInt = j_iadd a b := by rw [← hx, ← hy]; unfold j_iadd; rw [Int32.ofInt_toInt, Int32.ofInt_toInt]
theorem z_iaddW {M : jM} {d K S pc : Nat} {ls : jL} {st : List Value} {h : jH} {k n : Nat} {Q : Option Value → jH → Prop} {x y : Int32} {a b : Int} (hat : jat M pc = some (.iadd, 1)) (hx : x.toInt = a) (hy : y.toInt = b) (kk : ∀ v : Int32, v.toInt = j_iadd a b → jX M d K S (pc + 1) ls (.int v :: st) h k n Q) : jX M d K S pc ls (.int y :: .int x :: st) h k n Q := x_iadd hat (kk _ (e_iadd hx hy))
theorem e_isub {x y : Int32} {a b : Int} (hx : x.toInt = a) (hy : y.toInt = b) : (x - y).toInt = j_isub a b := by rw [← hx, ← hy]; unfold j_isub; rw [Int32.ofInt_toInt, Int32.ofInt_toInt]
theorem z_isubW {M : jM} {d K S pc : Nat} {ls : jL} {st : List Value} {h : jH} {k n : Nat} {Q : Option Value → jH → Prop} {x y : Int32} {a b : Int} (hat : jat M pc = some (.isub, 1)) (hx : x.toInt = a) (hy : y.toInt = b) (kk : ∀ v : Int32, v.toInt = j_isub a b → jX M d K S (pc + 1) ls (.int v :: st) h k n Q) : jX M d K S pc ls (.int y :: .int x :: st) h k n Q := x_isub hat (kk _ (e_isub hx hy))
theorem e_imul {x y : Int32} {a b : Int} (hx : x.toInt = a) (hy : y.toInt = b) : (x * y).toInt = j_imul a b := by rw [← hx, ← hy]; unfold j_imul; rw [Int32.ofInt_toInt, Int32.ofInt_toInt]
theorem z_imulW {M : jM} {d K S pc : Nat} {ls : jL} {st : List Value} {h : jH} {k n : Nat} {Q : Option Value → jH → Prop} {x y : Int32} {a b : Int} (hat : jat M pc = some (.imul, 1)) (hx : x.toInt = a) (hy : y.toInt = b) (kk : ∀ v : Int32, v.toInt = j_imul a b → jX M d K S (pc + 1) ls (.int v :: st) h k n Q) : jX M d K S pc ls (.int y :: .int x :: st) h k n Q := x_imul hat (kk _ (e_imul hx hy))
theorem e_iand {x y : Int32} {a b : Int} (hx : x.toInt = a) (hy : y.toInt = b) : (x &&& y).toInt = j_iand a b := by rw [← hx, ← hy]; unfold j_iand; rw [Int32.ofInt_toInt, Int32.ofInt_toInt]
theorem z_iandW {M : jM} {d K S pc : Nat} {ls : jL} {st : List Value} {h : jH} {k n : Nat} {Q : Option Value → jH → Prop} {x y : Int32} {a b : Int} (hat : jat M pc = some (.iand, 1)) (hx : x.toInt = a) (hy : y.toInt = b) (kk : ∀ v : Int32, v.toInt = j_iand a b → jX M d K S (pc + 1) ls (.int v :: st) h k n Q) : jX M d K S pc ls (.int y :: .int x :: st) h k n Q := x_iand hat (kk _ (e_iand hx hy))
theorem e_ior {x y : Int32} {a b : Int} (hx : x.toInt = a) (hy : y.toInt = b) : (x ||| y).toInt = j_ior a b := by rw [← hx, ← hy]; unfold j_ior; rw [Int32.ofInt_toInt, Int32.ofInt_toInt]
theorem z_iorW {M : jM} {d K S pc : Nat} {ls : jL} {st : List Value} {h : jH} {k n : Nat} {Q : Option Value → jH → Prop} {x y : Int32} {a b : Int} (hat : jat M pc = some (.ior, 1)) (hx : x.toInt = a) (hy : y.toInt = b) (kk : ∀ v : Int32, v.toInt = j_ior a b → jX M d K S (pc + 1) ls (.int v :: st) h k n Q) : jX M d K S pc ls (.int y :: .int x :: st) h k n Q := x_ior hat (kk _ (e_ior hx hy))
theorem e_ixor {x y : Int32} {a b : Int} (hx : x.toInt = a) (hy : y.toInt = b) : (x ^^^ y).toInt = j_ixor a b := by rw [← hx, ← hy]; unfold j_ixor; rw [Int32.ofInt_toInt, Int32.ofInt_toInt]
theorem z_ixorW {M : jM} {d K S pc : Nat} {ls : jL} {st : List Value} {h : jH} {k n : Nat} {Q : Option Value → jH → Prop} {x y : Int32} {a b : Int} (hat : jat M pc = some (.ixor, 1)) (hx : x.toInt = a) (hy : y.toInt = b) (kk : ∀ v : Int32, v.toInt = j_ixor a b → jX M d K S (pc + 1) ls (.int v :: st) h k n Q) : jX M d K S pc ls (.int y :: .int x :: st) h k n Q := x_ixor hat (kk _ (e_ixor hx hy))
theorem e_ishl {x y : Int32} {a b : Int} (hx : x.toInt = a) (hy : y.toInt = b) : (x <<< (y &&& 31)).toInt = j_ishl a b := by rw [← hx, ← hy]; unfold j_ishl; rw [Int32.ofInt_toInt, Int32.ofInt_toInt]
theorem z_ishlW {M : jM} {d K S pc : Nat} {ls : jL} {st : List Value} {h : jH} {k n : Nat} {Q : Option Value → jH → Prop} {x y : Int32} {a b : Int} (hat : jat M pc = some (.ishl, 1)) (hx : x.toInt = a) (hy : y.toInt = b) (kk : ∀ v : Int32, v.toInt = j_ishl a b → jX M d K S (pc + 1) ls (.int v :: st) h k n Q) : jX M d K S pc ls (.int y :: .int x :: st) h k n Q := x_ishl hat (kk _ (e_ishl hx hy))
theorem e_ishr {x y : Int32} {a b : Int} (hx : x.toInt = a) (hy : y.toInt = b) : (x >>> (y &&& 31)).toInt = j_ishr a b := by rw [← hx, ← hy]; unfold j_ishr; rw [Int32.ofInt_toInt, Int32.ofInt_toInt]
theorem z_ishrW {M : jM} {d K S pc : Nat} {ls : jL} {st : List Value} {h : jH} {k n : Nat} {Q : Option Value → jH → Prop} {x y : Int32} {a b : Int} (hat : jat M pc = some (.ishr, 1)) (hx : x.toInt = a) (hy : y.toInt = b) (kk : ∀ v : Int32, v.toInt = j_ishr a b → jX M d K S (pc + 1) ls (.int v :: st) h k n Q) : jX M d K S pc ls (.int y :: .int x :: st) h k n Q := x_ishr hat (kk _ (e_ishr hx hy))
theorem e_iushr {x y : Int32} {a b : Int} (hx : x.toInt = a) (hy : y.toInt = b) : (((x).toUInt32 >>> ((y).toUInt32 &&& Int32.toUInt32 31)).toInt32).toInt = j_iushr a b := by rw [← hx, ← hy]; unfold j_iushr; rw [Int32.ofInt_toInt, Int32.ofInt_toInt]
theorem z_iushrW {M : jM} {d K S pc : Nat} {ls : jL} {st : List Value} {h : jH} {k n : Nat} {Q : Option Value → jH → Prop} {x y : Int32} {a b : Int} (hat : jat M pc = some (.iushr, 1)) (hx : x.toInt = a) (hy : y.toInt = b) (kk : ∀ v : Int32, v.toInt = j_iushr a b → jX M d K S (pc + 1) ls (.int v :: st) h k n Q) : jX M d K S pc ls (.int y :: .int x :: st) h k n Q := x_iushr hat (kk _ (e_iushr hx hy))
theorem e_idiv {x y : Int32} {a b : Int} (hx : x.toInt = a) (hy : y.toInt = b) : (x / y).toInt = j_idiv a b := by rw [← hx, ← hy]; unfold j_idiv; rw [Int32.ofInt_toInt, Int32.ofInt_toInt]
theorem z_idivW {M : jM} {d K S pc : Nat} {ls : jL} {st : List Value} {h : jH} {k n : Nat} {Q : Option Value → jH → Prop} {x y : Int32} {a b : Int} (hat : jat M pc = some (.idiv, 1)) (hx : x.toInt = a) (hy : y.toInt = b) (hn : b ≠ 0) (kk : ∀ v : Int32, v.toInt = j_idiv a b → jX M d K S (pc + 1) ls (.int v :: st) h k n Q) : jX M d K S pc ls (.int y :: .int x :: st) h k n Q := x_idiv hat (i_ne0 hy hn) (kk _ (e_idiv hx hy))
theorem z_iandQ {M : jM} {d K S pc : Nat} {ls : jL} {st : List Value} {h : jH} {k n : Nat} {Q : Option Value → jH → Prop} {x y : Int32} {a c : Int} (hat : jat M pc = some (.iand, 1)) (hx : x.toInt = a) (hy : y.toInt = c) (h0 : 0 ≤ c) (kk : ∀ v : Int32, (v.toInt = j_iand a c ∧ 0 ≤ v.toInt ∧ v.toInt ≤ c) → jX M d K S (pc + 1) ls (.int v :: st) h k n Q) : jX M d K S pc ls (.int y :: .int x :: st) h k n Q := x_iand hat (kk _ ⟨e_iand hx hy, jz_and hy h0⟩)
theorem z_imulQ {M : jM} {d K S pc : Nat} {ls : jL} {st : List Value} {h : jH} {k n : Nat} {Q : Option Value → jH → Prop} {x y : Int32} {a b A B C : Int} (hat : jat M pc = some (.imul, 1)) (hx : x.toInt = a) (hy : y.toInt = b) (h1 : 0 ≤ a ∧ a ≤ A) (h2 : 0 ≤ b ∧ b ≤ B) (hC : A * B = C) (hC2 : C ≤ 2147483647) (kk : ∀ v : Int32, (v.toInt = a * b ∧ 0 ≤ v.toInt ∧ v.toInt ≤ C) → jX M d K S (pc + 1) ls (.int v :: st) h k n Q) : jX M d K S pc ls (.int y :: .int x :: st) h k n Q := by
  have e1 : 0 ≤ a * b := Int.mul_nonneg h1.1 h2.1
  have e2 : a * b ≤ A * B := Int.mul_le_mul h1.2 h2.2 h2.1 (Int.le_trans h1.1 h1.2)
  have e3 := jmulf hx hy ⟨by omega, by omega⟩
  exact x_imul hat (kk _ ⟨e3, by rw [e3]; omega⟩)
theorem z_idivQ {M : jM} {d K S pc : Nat} {ls : jL} {st : List Value} {h : jH} {k n : Nat} {Q : Option Value → jH → Prop} {x y : Int32} {a b : Int} (hat : jat M pc = some (.idiv, 1)) (hx : x.toInt = a) (hy : y.toInt = b) (h0 : 0 < b) (h1 : 0 ≤ a) (kk : ∀ v : Int32, (v.toInt = a / b ∧ 0 ≤ v.toInt ∧ v.toInt ≤ a) → jX M d K S (pc + 1) ls (.int v :: st) h k n Q) : jX M d K S pc ls (.int y :: .int x :: st) h k n Q :=
  z_idiv hat hx hy h0 h1 (fun v e => kk v ⟨e, by rw [e]; exact jz_div hx hy h0 h1⟩)
theorem z_iremQ {M : jM} {d K S pc : Nat} {ls : jL} {st : List Value} {h : jH} {k n : Nat} {Q : Option Value → jH → Prop} {x y : Int32} {a b : Int} (hat : jat M pc = some (.irem, 1)) (hx : x.toInt = a) (hy : y.toInt = b) (h0 : 0 < b) (h1 : 0 ≤ a) (kk : ∀ v : Int32, (v.toInt = a % b ∧ 0 ≤ v.toInt ∧ v.toInt < b) → jX M d K S (pc + 1) ls (.int v :: st) h k n Q) : jX M d K S pc ls (.int y :: .int x :: st) h k n Q :=
  z_irem hat hx hy h0 h1 (fun v e => kk v ⟨e, by rw [e]; exact ⟨Int.emod_nonneg a (by omega), Int.emod_lt_of_pos a h0⟩⟩)
theorem z_iincW {M : jM} {d K S pc : Nat} {ls : jL} {st : List Value} {h : jH} {k n : Nat} {Q : Option Value → jH → Prop} {x : Int32} {a : Int} {i : Nat} {c : Int} {lsx9 : Int32 → jL} (hat : jat M pc = some (.iinc i c, 3)) (hl : ls.lookup i = some (.int x)) (hx : x.toInt = a) (hc : (Int32.ofInt c).toInt = c) (hi : Nat.blt i M.2.2.2.1 = true) (he : ∀ v, js1 ls i (.int v) = lsx9 v) (kk : ∀ v : Int32, v.toInt = j_iadd a c → jX M d K S (pc + 3) (lsx9 v) st h k n Q) : jX M d K S pc ls st h k n Q :=
  x_iinc hat hl rfl hi (he _) (kk _ (e_iadd hx hc))
theorem e_ladd {x y : Int64} {a b : Int} (hx : x.toInt = a) (hy : y.toInt = b) : (x + y).toInt = j_ladd a b := by rw [← hx, ← hy]; unfold j_ladd; rw [Int64.ofInt_toInt, Int64.ofInt_toInt]
theorem z_laddW {M : jM} {d K S pc : Nat} {ls : jL} {st : List Value} {h : jH} {k n : Nat} {Q : Option Value → jH → Prop} {x y : Int64} {a b : Int} (hat : jat M pc = some (.ladd, 1)) (hx : x.toInt = a) (hy : y.toInt = b) (kk : ∀ v : Int64, v.toInt = j_ladd a b → jX M d K S (pc + 1) ls (.long v :: st) h k n Q) : jX M d K S pc ls (.long y :: .long x :: st) h k n Q := x_ladd hat (kk _ (e_ladd hx hy))
theorem e_lsub {x y : Int64} {a b : Int} (hx : x.toInt = a) (hy : y.toInt = b) : (x - y).toInt = j_lsub a b := by rw [← hx, ← hy]; unfold j_lsub; rw [Int64.ofInt_toInt, Int64.ofInt_toInt]
theorem z_lsubW {M : jM} {d K S pc : Nat} {ls : jL} {st : List Value} {h : jH} {k n : Nat} {Q : Option Value → jH → Prop} {x y : Int64} {a b : Int} (hat : jat M pc = some (.lsub, 1)) (hx : x.toInt = a) (hy : y.toInt = b) (kk : ∀ v : Int64, v.toInt = j_lsub a b → jX M d K S (pc + 1) ls (.long v :: st) h k n Q) : jX M d K S pc ls (.long y :: .long x :: st) h k n Q := x_lsub hat (kk _ (e_lsub hx hy))
theorem e_lmul {x y : Int64} {a b : Int} (hx : x.toInt = a) (hy : y.toInt = b) : (x * y).toInt = j_lmul a b := by rw [← hx, ← hy]; unfold j_lmul; rw [Int64.ofInt_toInt, Int64.ofInt_toInt]
theorem z_lmulW {M : jM} {d K S pc : Nat} {ls : jL} {st : List Value} {h : jH} {k n : Nat} {Q : Option Value → jH → Prop} {x y : Int64} {a b : Int} (hat : jat M pc = some (.lmul, 1)) (hx : x.toInt = a) (hy : y.toInt = b) (kk : ∀ v : Int64, v.toInt = j_lmul a b → jX M d K S (pc + 1) ls (.long v :: st) h k n Q) : jX M d K S pc ls (.long y :: .long x :: st) h k n Q := x_lmul hat (kk _ (e_lmul hx hy))
theorem e_ldiv {x y : Int64} {a b : Int} (hx : x.toInt = a) (hy : y.toInt = b) : (x / y).toInt = j_ldiv a b := by rw [← hx, ← hy]; unfold j_ldiv; rw [Int64.ofInt_toInt, Int64.ofInt_toInt]
theorem z_ldivW {M : jM} {d K S pc : Nat} {ls : jL} {st : List Value} {h : jH} {k n : Nat} {Q : Option Value → jH → Prop} {x y : Int64} {a b : Int} (hat : jat M pc = some (.ldiv, 1)) (hx : x.toInt = a) (hy : y.toInt = b) (hn : b ≠ 0) (kk : ∀ v : Int64, v.toInt = j_ldiv a b → jX M d K S (pc + 1) ls (.long v :: st) h k n Q) : jX M d K S pc ls (.long y :: .long x :: st) h k n Q := x_ldiv hat (l_ne0 hy hn) (kk _ (e_ldiv hx hy))
theorem e_lrem {x y : Int64} {a b : Int} (hx : x.toInt = a) (hy : y.toInt = b) : (x - x / y * y).toInt = j_lrem a b := by rw [← hx, ← hy]; unfold j_lrem; rw [Int64.ofInt_toInt, Int64.ofInt_toInt]
theorem z_lremW {M : jM} {d K S pc : Nat} {ls : jL} {st : List Value} {h : jH} {k n : Nat} {Q : Option Value → jH → Prop} {x y : Int64} {a b : Int} (hat : jat M pc = some (.lrem, 1)) (hx : x.toInt = a) (hy : y.toInt = b) (hn : b ≠ 0) (kk : ∀ v : Int64, v.toInt = j_lrem a b → jX M d K S (pc + 1) ls (.long v :: st) h k n Q) : jX M d K S pc ls (.long y :: .long x :: st) h k n Q := x_lrem hat (l_ne0 hy hn) (kk _ (e_lrem hx hy))
theorem z_l2iD {M : jM} {d K S pc : Nat} {ls : jL} {st : List Value} {h : jH} {k n : Nat} {Q : Option Value → jH → Prop} {x : Int64} {a : Int} (hat : jat M pc = some (.l2i, 1)) (hx : x.toInt = a) (kk : ∀ v : Int32, v.toInt = j_l2i a → jX M d K S (pc + 1) ls (.int v :: st) h k n Q) : jX M d K S pc ls (.long x :: st) h k n Q := x_l2i hat (kk _ (by rw [← hx]; unfold j_l2i; rw [Int64.ofInt_toInt]))
theorem z_mabsD {M : jM} {d K S pc : Nat} {ls : jL} {st : List Value} {h : jH} {k n : Nat} {Q : Option Value → jH → Prop} {idx : Nat} {x : Int32} {a : Int} (hat : jat M pc = some (.invokestatic idx, 3)) (hw : Cond.methodLink M.2.1.cls idx yJ9_abs_0f7a4 ∈ lw_tbl) (hd : 1 ≤ d) (hst : Nat.ble (st.map fun v => v.category).sum 8 = true) (hx : x.toInt = a) (kk : ∀ v : Int32, v.toInt = j_iabs a → jX M d K S (pc + 3) ls (.int v :: st) h k n Q) : jX M d K S pc ls (.int x :: st) h k n Q := by
  have z : (0 : Int32).toInt = 0 := by decide
  refine x_mabs hat hw hd hst ⟨fun c => kk _ ?_, fun c => kk _ ?_⟩
  · rw [Int32.le_iff_toInt_le, z, hx] at c
    unfold j_iabs
    rw [if_pos c, hx]
  · rw [Int32.le_iff_toInt_le, z, hx] at c
    unfold j_iabs
    rw [if_neg c, ← hx, Int32.ofInt_toInt]
theorem e_lneg {x : Int64} {a : Int} (hx : x.toInt = a) : (-x).toInt = j_lneg a := by rw [← hx]; unfold j_lneg; rw [Int64.ofInt_toInt]
theorem z_lnegD {M : jM} {d K S pc : Nat} {ls : jL} {st : List Value} {h : jH} {k n : Nat} {Q : Option Value → jH → Prop} {x : Int64} {a : Int} (hat : jat M pc = some (.lneg, 1)) (hx : x.toInt = a) (kk : ∀ v : Int64, v.toInt = j_lneg a → jX M d K S (pc + 1) ls (.long v :: st) h k n Q) : jX M d K S pc ls (.long x :: st) h k n Q := x_lneg hat (kk _ (e_lneg hx))
theorem z_lnegE {M : jM} {d K S pc : Nat} {ls : jL} {st : List Value} {h : jH} {k n : Nat} {Q : Option Value → jH → Prop} {x : Int64} {a : Int} (hat : jat M pc = some (.lneg, 1)) (hx : x.toInt = a) (h0 : a ≠ 0) (kk : ∀ v : Int64, (v.toInt = j_lneg a ∧ v.toInt ≠ 0) → jX M d K S (pc + 1) ls (.long v :: st) h k n Q) : jX M d K S pc ls (.long x :: st) h k n Q := x_lneg hat (kk _ ⟨e_lneg hx, jneg0 (by rw [hx]; exact h0)⟩)
theorem e_labs {x : Int64} {a : Int} (hx : x.toInt = a) : (0 < x → x.toInt = j_labs a) ∧ (¬ 0 < x → (-x).toInt = j_labs a) := by
  have z : (0 : Int64).toInt = 0 := by decide
  unfold j_labs
  refine ⟨fun c => ?_, fun c => ?_⟩
  · rw [Int64.lt_iff_toInt_lt, z, hx] at c
    rw [if_pos c, hx]
  · rw [Int64.lt_iff_toInt_lt, z, hx] at c
    rw [if_neg c, e_lneg hx]
theorem z_labsD {M : jM} {d K S pc : Nat} {ls : jL} {st : List Value} {h : jH} {k n : Nat} {Q : Option Value → jH → Prop} {idx : Nat} {x : Int64} {a : Int} (hat : jat M pc = some (.invokestatic idx, 3)) (hw : Cond.methodLink M.2.1.cls idx yJ9_abs_067f4 ∈ lw_tbl) (hd : 1 ≤ d) (hst : Nat.ble (st.map fun v => v.category).sum 8 = true) (hx : x.toInt = a) (kk : ∀ v : Int64, v.toInt = j_labs a → jX M d K S (pc + 3) ls (.long v :: st) h k n Q) : jX M d K S pc ls (.long x :: st) h k n Q := x_labs hat hw hd hst ⟨fun c => kk _ ((e_labs hx).1 c), fun c => kk _ ((e_labs hx).2 c)⟩
theorem z_labsE {M : jM} {d K S pc : Nat} {ls : jL} {st : List Value} {h : jH} {k n : Nat} {Q : Option Value → jH → Prop} {idx : Nat} {x : Int64} {a : Int} (hat : jat M pc = some (.invokestatic idx, 3)) (hw : Cond.methodLink M.2.1.cls idx yJ9_abs_067f4 ∈ lw_tbl) (hd : 1 ≤ d) (hst : Nat.ble (st.map fun v => v.category).sum 8 = true) (hx : x.toInt = a) (h0 : a ≠ 0) (kk : ∀ v : Int64, (v.toInt = j_labs a ∧ v.toInt ≠ 0) → jX M d K S (pc + 3) ls (.long v :: st) h k n Q) : jX M d K S pc ls (.long x :: st) h k n Q := x_labs hat hw hd hst ⟨fun c => kk _ ⟨(e_labs hx).1 c, by rw [hx]; exact h0⟩, fun c => kk _ ⟨(e_labs hx).2 c, jneg0 (by rw [hx]; exact h0)⟩⟩
theorem zc_scharD {h : jH} {Q : Option Value → jH → Prop} {Sg : List jSg} {Dy : jH → Prop} {i N : Nat} {x : Int32} {m : Int} (hi : Nat.blt i 13 = true) (J : jJ Sg Dy h) (hs : (jtO ++ jtS).lookup (18 + i) = some (103, N)) (hN : Nat.blt N 2147483648 = true) (hm : x.toInt = m) (hb : 0 ≤ m ∧ m < N) (hQ : ∀ v : Int32, (v.toInt = j_iand ((vw h).1 (18 + i) m.toNat) 255 ∧ 0 ≤ v.toInt ∧ v.toInt ≤ 255) → Q (some (.int v)) h) : jC m_J0_charAt_5068e 3 0 0 [.ref (5 + i), .int x] h Q :=
  c_schar (Nat.blt_eq.mp hi) (Nat.blt_eq.mp hN) (J.1.1 _ _ hs) (vpi (by rw [hm]; omega)) (hQ _ ⟨by subst hm; exact e_iand rfl (by decide), jz_and (c := 255) (by decide) (by decide)⟩)
