/-! new cells, copies of arrays -/
theorem jHp.new {D : va_G} {lo : Nat} {ad : Nat → Nat} {h : jH} {s : State} {H H' : Heap} (t N : Nat) (hA : jAd lo ad) (x : jHp D lo ad h s H) (hz : H'.size = H.size + 1) (hq : ∀ q, q < H.size → H'[q]? = H[q]?)
    (h1 : t < 50 → jOb D ad (jnw h t N) (jnx h) t H') (h2 : 100 ≤ t → t < 106 → jAr s ad (jnw h t N) (jnx h) t N H') : ad (jnx h) = H.size ∧ jHp D lo ad (jnw h t N) s H' := by
  obtain ⟨x1, x2, x3, x4⟩ := x
  have ha : ad (jnx h) = H.size := by rw [hA.1 _ x2, x1]
  have hlt : ∀ b, b < jnx h → ad b < H.size := by
    intro b hb
    rw [x1]
    by_cases hb2 : jK0 ≤ b
    · rw [hA.1 b hb2]; omega
    · have := hA.2 b (by omega); omega
  have hval : ∀ b, b ≠ jnx h → ∀ dd j, jvk ad (jnw h t N) dd b j = jvk ad h dd b j := by
    intro b hb dd j
    unfold jvk
    split <;> simp [jlv, jrv, jiv, jnw, ju1, hb]
  refine ⟨ha, by rw [hz, x1]; show _ = lo + (jnx h + 1 - jK0); omega, by show jK0 ≤ jnx h + 1; omega, fun b => ?_, fun q hq' => (x4.1 q hq').kept (fun y hy _ => hq y hy), x4.2.kept (fun y hy _ => hq y hy)⟩
  show ((jsh (jnw h t N) b).1 < 50 → b < jnx h + 1 ∧ _) ∧ (_ → _ → b < jnx h + 1 ∧ _)
  by_cases hb : b = jnx h
  · subst hb
    have e : jsh (jnw h t N) (jnx h) = (t, N) := by simp [jsh, jnw]
    rw [e]
    exact ⟨fun g => ⟨Nat.lt_succ_self _, h1 g⟩, fun g1 g2 => ⟨Nat.lt_succ_self _, h2 g1 g2⟩⟩
  · have e : jsh (jnw h t N) b = jsh h b := by simp [jsh, jnw, hb]
    rw [e]
    refine ⟨fun g => ?_, fun g1 g2 => ?_⟩
    · obtain ⟨y0, q, y1, y2⟩ := (x3 b).1 g
      exact ⟨Nat.lt_succ_of_lt y0, q, y1, (y2.kept (hq _ (hlt b y0))).to (fun j _ => (hval b hb _ j).symm)⟩
    · obtain ⟨y, y0, cell, y1, y2, y3, y4, y5, y6, y7⟩ := (x3 b).2 g1 g2
      exact ⟨Nat.lt_succ_of_lt y, y0, cell, by rw [hq _ (hlt b y)]; exact y1, y2, y3, y4, y5, fun j hj => by rw [hval b hb]; exact y6 j hj, fun g => ⟨(y7 g).1.trans (by congr 1; funext j; exact (hval b hb _ j).symm), (y7 g).2⟩⟩
def jpl (ty : FieldType) : Bool := match ty with
  | .float => false
  | .double => false
  | _ => true
theorem jpl_ok : ∀ c, c < 13 → ∀ k, k < 92 → jpl (jft c k) = true := by decide +kernel
theorem jdef {ad : Nat → Nat} {h : jH} {t N j : Nat} {ty : FieldType} (hp : jpl ty = true) : defaultValue ty = jvk ad (jnw h t N) (jkd ty) (jnx h) j := by
  cases ty <;> first | (cases hp; done) | simp [defaultValue, jkd, jvk, jiv, jlv, jrv, jnw, ju1, va_rf]
section R6
variable {M : jM} {d K S pc : Nat} {ls : jL} {st : List Value} {h : jH} {k n : Nat} {Q : Option Value → jH → Prop}
/-- class number c, made by entry idx of the pool -/
def jNw (M : jM) (idx c N : Nat) : Prop := c < 13 ∧ N ≤ 92 ∧ ∃ q : vw_C, vwCl[c]? = some q ∧ q.2.2 = N ∧ Cond.classLink M.2.1.cls idx q.1 ∈ lw_tbl ∧ Cond.instantiable q.1 N ∈ lw_tbl ∧ Cond.initialized q.1 ∈ lw_tbl
theorem x_new {idx : Nat} (c N : Nat) (hat : jat M pc = some (.new idx, 3)) (hw : jNw M idx c N) (g3 : k + 1 ≤ K ∧ n + N ≤ S) (kk : jX M d K S (pc + 3) ls (.ref (jnx h) :: st) (jnw h c N) (k + 1) (n + N) Q) : jX M d K S pc ls st h k n Q := by
  intro p l e R s m args below meth cd D lo ad H locs lA hc hV hA hP hl hL g1 g2
  have hc2 := hc
  obtain ⟨c1, c2, c3, c4, c5, c6, c7, c8, c9, c10, c11, c12, c13⟩ := hc
  have hok : ∀ w, w ∈ lw_tbl → goodWord w = true → w.before args s = true := fun w h1 h2 => c8 w (jtb_of h1 h2)
  obtain ⟨w0, w00, q, w1, w2, w3, w4, w5⟩ := hw
  have hKn := hV.1.1 _ _ w1
  refine W.newcK c1 c2 c7 (hok _ w3 rfl) (hok _ w4 rfl) (hok _ w5 rfl) rfl (jok_at c13 hat) (by rw [c11]; exact g3.1) (by rw [c12]; exact g3.2) hKn.2.1 rfl fun H' kC e1 e2 e3 e4 => ?_
  have hP2 := hP.new c N hA e3 e4 (fun _ => ?_) (fun g5 _ => by omega)
  · rw [← hP2.1]
    exact kk p l e R s m args below meth cd D lo ad H' locs lA hc2 hV hA hP2.2 hl hL g3.1 g3.2
  · have ha : ad (jnx h) = H.size := by rw [hA.1 _ hP.2.1, hP.1]
    refine ⟨q, w1, (u_born (o := ad (jnx h)) (jft c) c8 (jtb_u (jcls_ok _ _ w1).1) hKn e1 (by rw [ha]; exact e2) (jcls_ok _ _ w1).2.1).to (fun j hj => ?_)⟩
    exact jdef (jpl_ok c w0 j (by omega))
theorem x_newa {x : Int32} {t : ArrayType} (tag : Nat) (hat : jat M pc = some (.newarray t, 2)) (ht : jtA tag = newarray.typeOf t ∧ 100 ≤ tag ∧ tag < 104) (hw : Cond.arrayClass (newarray.typeOf t) ∈ lw_tbl) (hx : ¬ x < 0) (hb : x.toNatClampNeg * 8 ≤ 536870912) (g3 : k + 1 ≤ K ∧ n + x.toNatClampNeg ≤ S)
    (kk : jX M d K S (pc + 2) ls (.ref (jnx h) :: st) (jnw h tag x.toNatClampNeg) (k + 1) (n + x.toNatClampNeg) Q) : jX M d K S pc ls (.int x :: st) h k n Q := by
  intro p l e R s m args below meth cd D lo ad H locs lA hc hV hA hP hl hL g1 g2
  have hc2 := hc
  obtain ⟨c1, c2, c3, c4, c5, c6, c7, c8, c9, c10, c11, c12, c13⟩ := hc
  have hok : ∀ w, w ∈ lw_tbl → goodWord w = true → w.before args s = true := fun w h1 h2 => c8 w (jtb_of h1 h2)
  have hcb : componentBytes (newarray.typeOf t) ≤ 8 := by cases t <;> decide
  refine W.newa c1 c2 (hok _ hw rfl) rfl (jok_at c13 hat) rfl hx (Nat.le_trans (Nat.mul_le_mul_left _ hcb) hb) (by rw [c11]; exact g3.1) (by rw [c12]; exact g3.2) fun cA kA comp e1 e2 e3 => ?_
  have ha : ad (jnx h) = H.size := by rw [hA.1 _ hP.2.1, hP.1]
  have hty : jtA tag = newarray.typeOf t := ht.1
  have hpl : jpl (jtA tag) = true := by
    obtain ⟨-, q1, q2⟩ := ht
    have : tag = 100 ∨ tag = 101 ∨ tag = 102 ∨ tag = 103 := by omega
    rcases this with rfl | rfl | rfl | rfl <;> rfl
  have hP2 := hP.new (H' := H.push { cls := cA, slots := Array.replicate x.toNatClampNeg (defaultValue (newarray.typeOf t)), vm := .none }) tag x.toNatClampNeg hA (by simp) (fun q hq => by rw [Array.getElem?_push, if_neg (Nat.ne_of_lt hq)]) (fun g5 => by omega) (fun _ _ => ?_)
  · show W _ _ _ _ _ _ _ _ _ _ _ _ _ _ _ (F0 m (pc + 2) lA (.ref H.size :: st.map (jv ad)))
    rw [← hP2.1]
    exact kk p l e R s m args below meth cd D lo ad _ locs lA hc2 hV hA hP2.2 hl hL g3.1 g3.2
  · refine ⟨by omega, _, by rw [ha]; simp; rfl, ⟨(fun q h => by cases h), kA, e2, comp, by rw [hty]; exact e3⟩, (fun h => by cases h), by simp, by simp [nI], fun j hj => ?_, fun _ => ⟨?_, ?_⟩⟩
    · rw [← jdef (h := h) (t := tag) (N := x.toNatClampNeg) hpl, hty]
      simp [hj]
    · refine (arrV_new cA _ _).trans ?_
      congr 1
      funext j
      rw [← jdef (h := h) (t := tag) (N := x.toNatClampNeg) hpl, hty]
    · rw [hty]
      cases t <;> exact e1
theorem x_anew {idx : Nat} {x : Int32} (tag : Nat) (hat : jat M pc = some (.anewarray idx, 3)) (ht : tag = 104 ∨ tag = 105) (hw : ∀ C, jtA tag = .object C → Cond.classLink M.2.1.cls idx C ∈ lw_tbl) (hx : ¬ x < 0) (hb : x.toNatClampNeg * 4 ≤ 536870912) (g3 : k + 1 ≤ K ∧ n + x.toNatClampNeg ≤ S)
    (kk : jX M d K S (pc + 3) ls (.ref (jnx h) :: st) (jnw h tag x.toNatClampNeg) (k + 1) (n + x.toNatClampNeg) Q) : jX M d K S pc ls (.int x :: st) h k n Q := by
  intro p l e R s m args below meth cd D lo ad H locs lA hc hV hA hP hl hL g1 g2
  have hc2 := hc
  obtain ⟨c1, c2, c3, c4, c5, c6, c7, c8, c9, c10, c11, c12, c13⟩ := hc
  have hok : ∀ w, w ∈ lw_tbl → goodWord w = true → w.before args s = true := fun w h1 h2 => c8 w (jtb_of h1 h2)
  have hC : ∃ C, jtA tag = .object C ∧ va_AO C s := by
    rcases ht with rfl | rfl
    · exact ⟨_, rfl, hV.2.2.2.1⟩
    · exact ⟨_, rfl, hV.2.2.2.2.1⟩
  obtain ⟨C, hC1, hC2⟩ := hC
  refine W.anew c1 c2 c7 (hok _ (hw C hC1) rfl) hC2.use rfl (jok_at c13 hat) rfl hx hb (by rw [c11]; exact g3.1) (by rw [c12]; exact g3.2) fun cA kA comp e1 e2 e3 e4 => ?_
  have ha : ad (jnx h) = H.size := by rw [hA.1 _ hP.2.1, hP.1]
  have hP2 := hP.new (H' := H.push { cls := cA, slots := Array.replicate x.toNatClampNeg .null, vm := .none }) tag x.toNatClampNeg hA (by simp) (fun q hq => by rw [Array.getElem?_push, if_neg (Nat.ne_of_lt hq)]) (fun g5 => by omega) (fun _ _ => ?_)
  · show W _ _ _ _ _ _ _ _ _ _ _ _ _ _ _ (F0 m (pc + 3) lA (.ref H.size :: st.map (jv ad)))
    rw [← hP2.1]
    exact kk p l e R s m args below meth cd D lo ad _ locs lA hc2 hV hA hP2.2 hl hL g3.1 g3.2
  · refine ⟨by omega, _, by rw [ha]; simp; rfl, ⟨(fun q h => by cases h), kA, e2, comp, by rw [hC1]; exact e3⟩, (fun h => by cases h), by simp, by simp [nI], fun j hj => ?_, fun _ => ⟨?_, ?_⟩⟩
    · rw [← jdef (h := h) (t := tag) (N := x.toNatClampNeg) (by rw [hC1]; rfl), hC1]
      simp [hj, defaultValue]
    · refine (arrV_new cA _ _).trans ?_
      congr 1
      funext j
      rw [← jdef (h := h) (t := tag) (N := x.toNatClampNeg) (by rw [hC1]; rfl), hC1]
      rfl
    · rw [hC1]
      exact ⟨kA, comp, e2, e3, e4, e1⟩
end R6
