/-! arrays, static arrays, texts, new cells -/
section R4
variable {M : jM} {d K S pc : Nat} {ls : jL} {st : List Value} {h : jH} {k n : Nat} {Q : Option Value → jH → Prop}
theorem jin_lt {i : Int32} {N : Nat} (hi : vp_in i N) : ¬ i < 0 ∧ i.toNatClampNeg < N := ⟨fun q => hi (Or.inl q), Nat.not_le.mp fun q => hi (Or.inr q)⟩
theorem jin_sz {i : Int32} {N z : Nat} (hi : vp_in i N) (hz : N ≤ z) : ¬ (i < 0 ∨ z ≤ i.toNatClampNeg) := by
  obtain ⟨h1, h2⟩ := jin_lt hi
  rintro (h3 | h3)
  · exact h1 h3
  · omega
theorem x_iald {i : Int32} {a N : Nat} (hat : jat M pc = some (.iaload, 1)) (hs : jsh h a = (100, N)) (hi : vp_in i N) (kk : jX M d K S (pc + 1) ls (.int (jiv h a i.toNatClampNeg) :: st) h k n Q) : jX M d K S pc ls (.int i :: .ref a :: st) h k n Q := by
  intro p l e R s m args below meth cd D lo ad H locs lA hc hV hA hP hl hL g1 g2
  have hc2 := hc
  obtain ⟨c1, c2, c3, c4, c5, c6, c7, c8, c9, c10, c11, c12, c13⟩ := hc
  obtain ⟨y0, cell, y1, y2, y3, y4, y5, y6, y7⟩ := ((hP.2.2.1 a).2 (by rw [hs]; simp) (by rw [hs]; simp)).2
  rw [hs] at y2 y4 y6
  refine W.iald (v := .int (jiv h a i.toNatClampNeg)) c1 c2 y1 y2 y3 (jin_sz hi y4) ?_ rfl rfl (jok_at c13 hat) ?_
  · exact y6 _ (jin_lt hi).2
  · exact kk p l e R s m args below meth cd D lo ad H locs lA hc2 hV hA hP hl hL g1 g2
theorem x_lald {i : Int32} {a N : Nat} (hat : jat M pc = some (.laload, 1)) (hs : jsh h a = (101, N)) (hi : vp_in i N) (kk : jX M d K S (pc + 1) ls (.long (jlv h a i.toNatClampNeg) :: st) h k n Q) : jX M d K S pc ls (.int i :: .ref a :: st) h k n Q := by
  intro p l e R s m args below meth cd D lo ad H locs lA hc hV hA hP hl hL g1 g2
  have hc2 := hc
  obtain ⟨c1, c2, c3, c4, c5, c6, c7, c8, c9, c10, c11, c12, c13⟩ := hc
  obtain ⟨y0, cell, y1, y2, y3, y4, y5, y6, y7⟩ := ((hP.2.2.1 a).2 (by rw [hs]; simp) (by rw [hs]; simp)).2
  rw [hs] at y2 y4 y6
  refine W.lald (v := .long (jlv h a i.toNatClampNeg)) c1 c2 y1 y2 y3 (jin_sz hi y4) ?_ rfl rfl (jok_at c13 hat) ?_
  · exact y6 _ (jin_lt hi).2
  · exact kk p l e R s m args below meth cd D lo ad H locs lA hc2 hV hA hP hl hL g1 g2
theorem x_zald {i : Int32} {a N : Nat} (hat : jat M pc = some (.baload, 1)) (hs : jsh h a = (102, N)) (hi : vp_in i N) (kk : jX M d K S (pc + 1) ls (.int (jiv h a i.toNatClampNeg) :: st) h k n Q) : jX M d K S pc ls (.int i :: .ref a :: st) h k n Q := by
  intro p l e R s m args below meth cd D lo ad H locs lA hc hV hA hP hl hL g1 g2
  have hc2 := hc
  obtain ⟨c1, c2, c3, c4, c5, c6, c7, c8, c9, c10, c11, c12, c13⟩ := hc
  obtain ⟨y0, cell, y1, y2, y3, y4, y5, y6, y7⟩ := ((hP.2.2.1 a).2 (by rw [hs]; simp) (by rw [hs]; simp)).2
  rw [hs] at y2 y4 y6
  refine W.zald (v := .int (jiv h a i.toNatClampNeg)) c1 c2 y1 y2 y3 (jin_sz hi y4) ?_ rfl rfl (jok_at c13 hat) ?_
  · exact y6 _ (jin_lt hi).2
  · exact kk p l e R s m args below meth cd D lo ad H locs lA hc2 hV hA hP hl hL g1 g2
theorem jtA_ref {t : Nat} (ht : t = 104 ∨ t = 105) : (jtA t).isReference = true ∧ jkd (jtA t) = 1 := by rcases ht with rfl | rfl <;> exact ⟨rfl, rfl⟩
theorem x_aald {i : Int32} {a t N : Nat} (hat : jat M pc = some (.aaload, 1)) (hs : jsh h a = (t, N)) (ht : t = 104 ∨ t = 105) (hi : vp_in i N) (kk : (jrv h a i.toNatClampNeg = none → jX M d K S (pc + 1) ls (.null :: st) h k n Q) ∧ (∀ b, jrv h a i.toNatClampNeg = some b → jX M d K S (pc + 1) ls (.ref b :: st) h k n Q)) : jX M d K S pc ls (.int i :: .ref a :: st) h k n Q := by
  have kk2 : jX M d K S (pc + 1) ls (va_rf (jrv h a i.toNatClampNeg) :: st) h k n Q := by
    cases e : jrv h a i.toNatClampNeg with
    | none => exact kk.1 e
    | some b => exact kk.2 b e
  intro p l e R s m args below meth cd D lo ad H locs lA hc hV hA hP hl hL g1 g2
  have hc2 := hc
  obtain ⟨c1, c2, c3, c4, c5, c6, c7, c8, c9, c10, c11, c12, c13⟩ := hc
  obtain ⟨y0, cell, y1, y2, y3, y4, y5, y6, y7⟩ := ((hP.2.2.1 a).2 (by rw [hs]; rcases ht with rfl | rfl <;> simp) (by rw [hs]; rcases ht with rfl | rfl <;> simp)).2
  rw [hs] at y2 y4 y6
  refine W.aald (v := jv ad (va_rf (jrv h a i.toNatClampNeg))) c1 c2 y1 y2 (jtA_ref ht).1 y3 (jin_sz hi y4) ?_ rfl rfl (jok_at c13 hat) ?_
  · rw [y6 _ (jin_lt hi).2, (jtA_ref ht).2, jv_rf]; rfl
  · exact kk2 p l e R s m args below meth cd D lo ad H locs lA hc2 hV hA hP hl hL g1 g2
theorem x_alen {a t N : Nat} (hat : jat M pc = some (.arraylength, 1)) (hs : jsh h a = (t, N)) (ht : 100 ≤ t ∧ t < 106) (kk : jX M d K S (pc + 1) ls (.int (nI N) :: st) h k n Q) : jX M d K S pc ls (.ref a :: st) h k n Q := by
  intro p l e R s m args below meth cd D lo ad H locs lA hc hV hA hP hl hL g1 g2
  have hc2 := hc
  obtain ⟨c1, c2, c3, c4, c5, c6, c7, c8, c9, c10, c11, c12, c13⟩ := hc
  obtain ⟨y0, cell, y1, y2, y3, y4, y5, y6, y7⟩ := ((hP.2.2.1 a).2 (by rw [hs]; exact ht.1) (by rw [hs]; exact ht.2)).2
  rw [hs] at y2 y4 y5 y6
  exact W.alen c1 c2 y1 y2 y5 rfl rfl (jok_at c13 hat) (kk p l e R s m args below meth cd D lo ad H locs lA hc2 hV hA hP hl hL g1 g2)
/-- behind a store into an array's cell -/
theorem jHp.ast {D : va_G} {lo : Nat} {ad : Nat → Nat} {h hx9 : jH} {s : State} {H H' : Heap} {a t N i : Nat} {cell : Cell} {w : Value} (hA : jAd lo ad) (x : jHp D lo ad h s H) (ha : jK0 ≤ a) (he : jEx a h hx9) (hs : jsh h a = (t, N)) (ht : 100 ≤ t) (hcell : H[ad a]? = some cell) (hi : i < N)
    (e1 : H'[ad a]? = some (cell.setSlot i w)) (e2 : H'.size = H.size) (e3 : ∀ q, q ≠ ad a → H'[q]? = H[q]?) (hv : ∀ j, jvk ad hx9 (jkd (jtA t)) a j = if j = i then w else jvk ad h (jkd (jtA t)) a j) : jHp D lo ad hx9 s H' := by
  refine x.upd hA ha he e2 e3 (fun g => by rw [hs] at g; exact absurd g (by simp; omega)) (fun g1 g2 => ?_)
  obtain ⟨y0, c2, y1, y2, y3, y4, y5, y6, y7⟩ := ((x.2.2.1 a).2 g1 g2).2
  cases hcell.symm.trans y1
  rw [hs] at y0 y2 y4 y5 y6 y7 ⊢
  dsimp only at y0 y2 y4 y5 y6 y7 ⊢
  refine ⟨y0, _, e1, y2, y3, by rw [k2_slotsz]; exact y4, by rw [k2_slotsz]; exact y5, fun j hj => ?_, fun g => ⟨?_, (y7 g).2⟩⟩
  rotate_left
  · have e5 : cell.setSlot i w = arrV cell.cls N (updV (fun j => jvk ad h (jkd (jtA t)) a j) i w) := by
      rw [← arrV_store]
      congr 1
      exact (y7 g).1
    show cell.setSlot i w = arrV cell.cls N _
    rw [e5]
    congr 1
    funext j
    rw [hv j]
    rfl
  rw [hv j]
  by_cases hji : j = i
  · subst hji
    rw [if_pos rfl, Cell.slots_setSlot_self _ (k2_hasslot (y6 j hj))]
  · rw [if_neg hji, slot_ne _ _ (Ne.symm hji)]
    exact y6 j hj
theorem x_iast {i x : Int32} {a N : Nat} (hat : jat M pc = some (.iastore, 1)) (hs : jsh h a = (100, N)) (ha : Nat.ble 31 a = true) (hi : vp_in i N) (kk : jX M d K S (pc + 1) ls st (jsi h a i.toNatClampNeg x) k n Q) : jX M d K S pc ls (.int x :: .int i :: .ref a :: st) h k n Q := by
  have ha := Nat.ble_eq.mp ha
  intro p l e R s m args below meth cd D lo ad H locs lA hc hV hA hP hl hL g1 g2
  have hc2 := hc
  obtain ⟨c1, c2, c3, c4, c5, c6, c7, c8, c9, c10, c11, c12, c13⟩ := hc
  obtain ⟨y0, cell, y1, y2, y3, y4, y5, y6, y7⟩ := ((hP.2.2.1 a).2 (by rw [hs]; simp) (by rw [hs]; simp)).2
  rw [hs] at y2 y4 y6
  refine W.iast c1 c2 y1 y2 y3 (jin_sz hi y4) rfl rfl (jok_at c13 hat) fun H' e1 e2 e3 => ?_
  refine kk p l e R s m args below meth cd D lo ad H' _ lA hc2 hV hA ?_ hl (t_lc hL (hA.lo ha)) g1 g2
  refine hP.ast hA ha (jEx_si h a _ x) hs (by decide) y1 (jin_lt hi).2 e1 e2 e3 (fun j => ?_)
  show jvk ad _ 2 a j = if _ then _ else jvk ad _ 2 a j
  by_cases hj : j = i.toNatClampNeg
  · subst hj; simp [jvk, jiv, jsi, ju2]
  · simp [jvk, jiv, jsi, ju2, hj]
theorem x_last {i : Int32} {x : Int64} {a N : Nat} (hat : jat M pc = some (.lastore, 1)) (hs : jsh h a = (101, N)) (ha : Nat.ble 31 a = true) (hi : vp_in i N) (kk : jX M d K S (pc + 1) ls st (jsl h a i.toNatClampNeg x) k n Q) : jX M d K S pc ls (.long x :: .int i :: .ref a :: st) h k n Q := by
  have ha := Nat.ble_eq.mp ha
  intro p l e R s m args below meth cd D lo ad H locs lA hc hV hA hP hl hL g1 g2
  have hc2 := hc
  obtain ⟨c1, c2, c3, c4, c5, c6, c7, c8, c9, c10, c11, c12, c13⟩ := hc
  obtain ⟨y0, cell, y1, y2, y3, y4, y5, y6, y7⟩ := ((hP.2.2.1 a).2 (by rw [hs]; simp) (by rw [hs]; simp)).2
  rw [hs] at y2 y4 y6
  refine W.last c1 c2 y1 y2 y3 (jin_sz hi y4) rfl rfl (jok_at c13 hat) fun H' e1 e2 e3 => ?_
  refine kk p l e R s m args below meth cd D lo ad H' _ lA hc2 hV hA ?_ hl (t_lc hL (hA.lo ha)) g1 g2
  refine hP.ast hA ha (jEx_sl h a _ x) hs (by decide) y1 (jin_lt hi).2 e1 e2 e3 (fun j => ?_)
  show jvk ad _ 0 a j = if _ then _ else jvk ad _ 0 a j
  by_cases hj : j = i.toNatClampNeg
  · subst hj; simp [jvk, jlv, jsl, ju2]
  · simp [jvk, jlv, jsl, ju2, hj]
theorem x_zast {i x : Int32} {a N : Nat} (hat : jat M pc = some (.bastore, 1)) (hs : jsh h a = (102, N)) (ha : Nat.ble 31 a = true) (hx : x = 0 ∨ x = 1) (hi : vp_in i N) (kk : jX M d K S (pc + 1) ls st (jsi h a i.toNatClampNeg x) k n Q) : jX M d K S pc ls (.int x :: .int i :: .ref a :: st) h k n Q := by
  have ha := Nat.ble_eq.mp ha
  intro p l e R s m args below meth cd D lo ad H locs lA hc hV hA hP hl hL g1 g2
  have hc2 := hc
  obtain ⟨c1, c2, c3, c4, c5, c6, c7, c8, c9, c10, c11, c12, c13⟩ := hc
  obtain ⟨y0, cell, y1, y2, y3, y4, y5, y6, y7⟩ := ((hP.2.2.1 a).2 (by rw [hs]; simp) (by rw [hs]; simp)).2
  rw [hs] at y2 y4 y6
  have hx2 : narrow .boolean (.int x) = .int x := by rcases hx with rfl | rfl <;> rfl
  refine W.zast c1 c2 y1 y2 y3 (jin_sz hi y4) rfl rfl (jok_at c13 hat) fun H' e1 e2 e3 => ?_
  rw [hx2] at e1
  refine kk p l e R s m args below meth cd D lo ad H' _ lA hc2 hV hA ?_ hl (t_lc hL (hA.lo ha)) g1 g2
  refine hP.ast hA ha (jEx_si h a _ x) hs (by decide) y1 (jin_lt hi).2 e1 e2 e3 (fun j => ?_)
  show jvk ad _ 2 a j = if _ then _ else jvk ad _ 2 a j
  by_cases hj : j = i.toNatClampNeg
  · subst hj; simp [jvk, jiv, jsi, ju2]
  · simp [jvk, jiv, jsi, ju2, hj]
/-- the class of an array of references' elements -/
def jcA (t : Nat) : Nat := if t = 104 then 1 else 10
theorem x_aast {i : Int32} {a t N b : Nat} (hat : jat M pc = some (.aastore, 1)) (hs : jsh h a = (t, N)) (ht : t = 104 ∨ t = 105) (ha : Nat.ble 31 a = true) (hb : (jsh h b).1 = jcA t) (hi : vp_in i N) (kk : jX M d K S (pc + 1) ls st (jsr h a i.toNatClampNeg (some b)) k n Q) : jX M d K S pc ls (.ref b :: .int i :: .ref a :: st) h k n Q := by
  have ha := Nat.ble_eq.mp ha
  intro p l e R s m args below meth cd D lo ad H locs lA hc hV hA hP hl hL g1 g2
  have hc2 := hc
  obtain ⟨c1, c2, c3, c4, c5, c6, c7, c8, c9, c10, c11, c12, c13⟩ := hc
  obtain ⟨y0, cell, y1, y2, y3, y4, y5, y6, y7⟩ := ((hP.2.2.1 a).2 (by rw [hs]; rcases ht with rfl | rfl <;> simp) (by rw [hs]; rcases ht with rfl | rfl <;> simp)).2
  rw [hs] at y2 y4 y6 y7
  dsimp only at y2 y4 y6 y7
  obtain ⟨q, z0, cellV, z1, z2, z3, -⟩ := ((hP.2.2.1 b).1 (by rw [hb]; rcases ht with rfl | rfl <;> decide)).2
  rw [hb] at z0 z2
  have hcls := (hV.1.1 _ _ z0).2
  have hra : va_RA s cell.cls (.object q.1) := by
    have h1 := (y7 ha).2
    rcases ht with rfl | rfl
    · have e1 : q = (RX1, TX1, 20) := Option.some.inj (z0.symm.trans rfl)
      subst e1; exact h1
    · have e1 : q = (RX10, TX10, 6) := Option.some.inj (z0.symm.trans rfl)
      subst e1; exact h1
  obtain ⟨kA, comp, k1, k2, k3, -⟩ := hra
  have hcomp : comp = D.1 (jcA t) := Option.some.inj (k3.symm.trans hcls.1)
  subst hcomp
  obtain ⟨kC, hkC, -⟩ := hcls.2
  obtain ⟨i1, i2⟩ := jin_lt hi
  refine W.aast c1 c2 y1 (fun q h => by rw [(y7 ha).1] at h; cases h) y3 k1 k2 rfl hkC ⟨i1, Nat.lt_of_lt_of_le i2 y4⟩ z1 (fun q h => by rw [z3] at h; cases h) (by rw [z2]; exact hkC) (by rw [z2]; exact va_assign hcls) rfl rfl (jok_at c13 hat) fun H' e1 e2 e3 => ?_
  refine kk p l e R s m args below meth cd D lo ad H' _ lA hc2 hV hA ?_ hl (t_lc hL (hA.lo ha)) g1 g2
  refine hP.ast hA ha (jEx_sr h a _ _) hs (by rcases ht with rfl | rfl <;> decide) y1 i2 e1 e2 e3 (fun j => ?_)
  rw [(jtA_ref ht).2]
  by_cases hj : j = i.toNatClampNeg
  · subst hj; simp [jvk, jrv, jsr, ju2, va_rf]
  · simp [jvk, jrv, jsr, ju2, hj]
theorem x_aastN {i : Int32} {a t N : Nat} (hat : jat M pc = some (.aastore, 1)) (hs : jsh h a = (t, N)) (ht : t = 104 ∨ t = 105) (ha : Nat.ble 31 a = true) (hi : vp_in i N) (kk : jX M d K S (pc + 1) ls st (jsr h a i.toNatClampNeg none) k n Q) : jX M d K S pc ls (.null :: .int i :: .ref a :: st) h k n Q := by
  have ha := Nat.ble_eq.mp ha
  intro p l e R s m args below meth cd D lo ad H locs lA hc hV hA hP hl hL g1 g2
  have hc2 := hc
  obtain ⟨c1, c2, c3, c4, c5, c6, c7, c8, c9, c10, c11, c12, c13⟩ := hc
  obtain ⟨y0, cell, y1, y2, y3, y4, y5, y6, y7⟩ := ((hP.2.2.1 a).2 (by rw [hs]; rcases ht with rfl | rfl <;> simp) (by rw [hs]; rcases ht with rfl | rfl <;> simp)).2
  rw [hs] at y2 y4 y6
  dsimp only at y2 y4 y6
  have hy : ∃ C : String, s.isArrayOf cell (.object C) := by rcases ht with rfl | rfl <;> exact ⟨_, y2⟩
  obtain ⟨C, hy⟩ := hy
  refine va_WaastN (C := C) c1 c2 y1 hy y3 (jin_sz hi y4) rfl rfl (jok_at c13 hat) fun H' e1 e2 e3 => ?_
  refine kk p l e R s m args below meth cd D lo ad H' _ lA hc2 hV hA ?_ hl (t_lc hL (hA.lo ha)) g1 g2
  refine hP.ast hA ha (jEx_sr h a _ _) hs (by rcases ht with rfl | rfl <;> decide) y1 (jin_lt hi).2 e1 e2 e3 (fun j => ?_)
  rw [(jtA_ref ht).2]
  by_cases hj : j = i.toNatClampNeg
  · subst hj; simp [jvk, jrv, jsr, ju2, va_rf]
  · simp [jvk, jrv, jsr, ju2, hj]
/-- static arrays -/
theorem x_gets {idx : Nat} (q : String × String × String × Nat) (hat : jat M pc = some (.getstatic idx, 3)) (hq : q ∈ jst) (hw : Cond.fieldLink M.2.1.cls idx q.1 q.2.1 q.2.2.1 ∈ lw_tbl) (kk : jX M d K S (pc + 3) ls (.ref q.2.2.2 :: st) h k n Q) : jX M d K S pc ls st h k n Q := by
  intro p l e R s m args below meth cd D lo ad H locs lA hc hV hA hP hl hL g1 g2
  have hc2 := hc
  obtain ⟨c1, c2, c3, c4, c5, c6, c7, c8, c9, c10, c11, c12, c13⟩ := hc
  obtain ⟨cf, kf, fi, f, a, cell, h1, h2, h3, h4, h5, h6, h7, h8⟩ := hP.2.2.2.1 q hq
  exact W.gets c1 c2 c7 (c8 _ (jtb_of hw rfl)) h1 h2 h3 h4 h5 (fun e => by rw [e] at h6; cases h6) h7 rfl (jok_at c13 hat) (kk p l e R s m args below meth cd D lo ad H locs lA hc2 hV hA hP hl hL g1 g2)
theorem x_getsN {idx : Nat} {host : String} (q : String × String × String × Nat) (hat : jat M pc = some (.getstatic idx, 3)) (hq : q ∈ jst) (hw : Cond.fieldLinkNest M.2.1.cls idx q.1 q.2.1 q.2.2.1 host ∈ jnst) (kk : jX M d K S (pc + 3) ls (.ref q.2.2.2 :: st) h k n Q) : jX M d K S pc ls st h k n Q := by
  intro p l e R s m args below meth cd D lo ad H locs lA hc hV hA hP hl hL g1 g2
  have hc2 := hc
  obtain ⟨c1, c2, c3, c4, c5, c6, c7, c8, c9, c10, c11, c12, c13⟩ := hc
  obtain ⟨cf, kf, fi, f, a, cell, h1, h2, h3, h4, h5, h6, h7, h8⟩ := hP.2.2.2.1 q hq
  exact va_WgetsN c1 c2 c7 (va_Nw.use rfl (hV.2.1 _ hw)) h1 h2 h3 h4 h5 (fun e => by rw [e] at h6; cases h6) h7 rfl (jok_at c13 hat) (kk p l e R s m args below meth cd D lo ad H locs lA hc2 hV hA hP hl hL g1 g2)
theorem x_ldcS {idx : Nat} (q : String × Nat × String × Nat) (hat : jat M pc = some (.ldc idx, 2)) (hq : q ∈ jstr) (h1 : q.1 = M.2.1.cls) (h2 : q.2.1 = idx) (kk : jX M d K S (pc + 2) ls (.ref q.2.2.2 :: st) h k n Q) : jX M d K S pc ls st h k n Q := by
  subst h2
  intro p l e R s m args below meth cd D lo ad H locs lA hc hV hA hP hl hL g1 g2
  have hc2 := hc
  obtain ⟨c1, c2, c3, c4, c5, c6, c7, c8, c9, c10, c11, c12, c13⟩ := hc
  exact va_ldcS c1 c2 c7 (by rw [← h1]; exact hV.2.2.1 q hq) (jok_at c13 hat) (kk p l e R s m args below meth cd D lo ad H locs lA hc2 hV hA hP hl hL g1 g2)
end R4
