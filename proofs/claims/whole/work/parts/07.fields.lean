/-! fields -/
/-- field number k of class number c, as entry idx of the pool of M's class names it -/
def jF (M : jM) (idx c k : Nat) : Prop := c < 50 ∧ ∃ q : vw_C, vwCl[c]? = some q ∧ k < q.2.2 ∧ Cond.fieldLink M.2.1.cls idx (q.2.1 k).1 (q.2.1 k).2.1 (q.2.1 k).2.2.1 ∈ lw_tbl
/-- two heaps that differ in the cell a alone -/
def jEx (a : Nat) (h hx9 : jH) : Prop := hx9.1 = h.1 ∧ jnx hx9 = jnx h ∧ ∀ b, b ≠ a → (∀ j, jiv hx9 b j = jiv h b j) ∧ (∀ j, jlv hx9 b j = jlv h b j) ∧ ∀ j, jrv hx9 b j = jrv h b j
theorem jEx.val {a : Nat} {h hx9 : jH} (x : jEx a h hx9) (ad : Nat → Nat) {b : Nat} (hb : b ≠ a) (d j : Nat) : jvk ad hx9 d b j = jvk ad h d b j := by
  obtain ⟨x1, x2, x3⟩ := x.2.2 b hb
  unfold jvk
  split
  · rw [x2]
  · rw [x3]
  · rw [x1]
theorem jEx_si (h : jH) (a k : Nat) (v : Int32) : jEx a h (jsi h a k v) := ⟨rfl, rfl, fun b hb => ⟨fun j => by simp [jiv, jsi, ju2, hb], fun _ => rfl, fun _ => rfl⟩⟩
theorem jEx_sl (h : jH) (a k : Nat) (v : Int64) : jEx a h (jsl h a k v) := ⟨rfl, rfl, fun b hb => ⟨fun _ => rfl, fun j => by simp [jlv, jsl, ju2, hb], fun _ => rfl⟩⟩
theorem jEx_sr (h : jH) (a k : Nat) (v : Option Nat) : jEx a h (jsr h a k v) := ⟨rfl, rfl, fun b hb => ⟨fun _ => rfl, fun _ => rfl, fun j => by simp [jrv, jsr, ju2, hb]⟩⟩
theorem jEx_ci (h : jH) (b0 a sp dp n : Nat) : jEx a h (jci h b0 a sp dp n) := ⟨rfl, rfl, fun b hb => ⟨fun j => by simp [jiv, jci, ju1, hb], fun _ => rfl, fun _ => rfl⟩⟩
theorem jEx_cl (h : jH) (b0 a sp dp n : Nat) : jEx a h (jcl h b0 a sp dp n) := ⟨rfl, rfl, fun b hb => ⟨fun _ => rfl, fun j => by simp [jlv, jcl, ju1, hb], fun _ => rfl⟩⟩
theorem jHp.upd {D : va_G} {lo : Nat} {ad : Nat → Nat} {h hx9 : jH} {s : State} {H H' : Heap} {a : Nat} (hA : jAd lo ad) (x : jHp D lo ad h s H) (ha : jK0 ≤ a) (he : jEx a h hx9) (hz : H'.size = H.size) (hq : ∀ q, q ≠ ad a → H'[q]? = H[q]?)
    (h1 : (jsh h a).1 < 50 → jOb D ad hx9 a (jsh h a).1 H') (h2 : 100 ≤ (jsh h a).1 → (jsh h a).1 < 106 → jAr s ad hx9 a (jsh h a).1 (jsh h a).2 H') : jHp D lo ad hx9 s H' := by
  obtain ⟨x1, x2, x3, x4⟩ := x
  have hsh : ∀ b, jsh hx9 b = jsh h b := fun b => by unfold jsh; rw [he.1]
  refine ⟨by rw [hz, he.2.1]; exact x1, by rw [he.2.1]; exact x2, fun b => ?_, fun q hq' => (x4.1 q hq').kept (fun y _ hy => hq y (fun e => hy (by rw [e]; exact hA.lo ha))), x4.2.kept (fun y _ hy => hq y (fun e => hy (by rw [e]; exact hA.lo ha)))⟩
  rw [hsh b, he.2.1]
  by_cases hb : b = a
  · subst hb
    exact ⟨fun g => ⟨((x3 b).1 g).1, h1 g⟩, fun g1 g2 => ⟨((x3 b).2 g1 g2).1, h2 g1 g2⟩⟩
  · have hn : ad b ≠ ad a := hA.ne ha hb
    refine ⟨fun g => ⟨((x3 b).1 g).1, ?_⟩, fun g1 g2 => ⟨((x3 b).2 g1 g2).1, ?_⟩⟩
    · obtain ⟨q, y1, y2⟩ := ((x3 b).1 g).2
      refine ⟨q, y1, (y2.kept (hq _ hn)).to (fun j _ => ?_)⟩
      exact (he.val ad hb _ j).symm
    · obtain ⟨y0, cell, y1, y2, y3, y4, y5, y6, y7⟩ := ((x3 b).2 g1 g2).2
      exact ⟨y0, cell, by rw [hq _ hn]; exact y1, y2, y3, y4, y5, fun j hj => by rw [he.val ad hb]; exact y6 j hj, fun g => ⟨(y7 g).1.trans (by congr 1; funext j; exact (he.val ad hb _ j).symm), (y7 g).2⟩⟩
section R3
variable {M : jM} {d K S pc : Nat} {ls : jL} {st : List Value} {h : jH} {k n : Nat} {Q : Option Value → jH → Prop}
theorem x_get {idx c f a : Nat} {v : Value} (hat : jat M pc = some (.getfield idx, 3)) (hF : jF M idx c f) (hs : (jsh h a).1 = c) (hv : ∀ ad : Nat → Nat, jv ad v = jvk ad h (jkd (jft c f)) a f)
    (kk : jX M d K S (pc + 3) ls (v :: st) h k n Q) : jX M d K S pc ls (.ref a :: st) h k n Q := by
  intro p l e R s m args below meth cd D lo ad H locs lA hc hV hA hP hl hL g1 g2
  have hc2 := hc
  obtain ⟨c1, c2, c3, c4, c5, c6, c7, c8, c9, c10, c11, c12, c13⟩ := hc
  obtain ⟨f0, q, f1, f2, f3⟩ := hF
  subst hs
  obtain ⟨q', y1, cell, z1, z2, z3, z4⟩ := ((hP.2.2.1 a).1 f0).2
  have hq : q' = q := Option.some.inj (y1.symm.trans f1)
  subst hq
  obtain ⟨w1, w2, w3⟩ := jcls_ok _ _ f1
  have hin := jtb_u w1
  obtain ⟨hS, hfc, kC, hkC, hkind⟩ := hV.1.1 _ _ f1
  obtain ⟨cf, kf, fi, fd, hi, hsl⟩ := hS f f2
  refine W.getf c1 c2 c7 (c8 _ (jtb_of f3 rfl)) hi (u_facts hfc hkC (u_lays c8 hin f2) hi).1 z1 (by rw [z3]; exact fun h => by cases h) (v := jv ad v) ?_ rfl rfl (jok_at c13 hat) ?_
  · rw [hsl, z4 f f2, hv ad]
  · exact kk p l e R s m args below meth cd D lo ad H locs lA hc2 hV hA hP hl hL g1 g2
theorem x_getI {idx a : Nat} (c f : Nat) (hat : jat M pc = some (.getfield idx, 3)) (hF : jF M idx c f) (hk : jkd (jft c f) = 2) (hs : (jsh h a).1 = c) (kk : jX M d K S (pc + 3) ls (.int (jiv h a f) :: st) h k n Q) : jX M d K S pc ls (.ref a :: st) h k n Q :=
  x_get hat hF hs (fun ad => by rw [hk]; rfl) kk
theorem x_getL {idx a : Nat} (c f : Nat) (hat : jat M pc = some (.getfield idx, 3)) (hF : jF M idx c f) (hk : jkd (jft c f) = 0) (hs : (jsh h a).1 = c) (kk : jX M d K S (pc + 3) ls (.long (jlv h a f) :: st) h k n Q) : jX M d K S pc ls (.ref a :: st) h k n Q :=
  x_get hat hF hs (fun ad => by rw [hk]; rfl) kk
theorem x_getR {idx a b : Nat} (c f : Nat) (hat : jat M pc = some (.getfield idx, 3)) (hF : jF M idx c f) (hk : jkd (jft c f) = 1) (hs : (jsh h a).1 = c) (hb : jrv h a f = some b) (kk : jX M d K S (pc + 3) ls (.ref b :: st) h k n Q) : jX M d K S pc ls (.ref a :: st) h k n Q :=
  x_get hat hF hs (fun ad => by rw [hk]; unfold jvk; rw [hb]; rfl) kk
/-- a store into a field: not final, or final in the class's own constructor -/
theorem x_put {idx c f a : Nat} {v : Value} {hx9 : jH} (hat : jat M pc = some (.putfield idx, 3)) (hF : jF M idx c f) (hs : (jsh h a).1 = c) (ha : jK0 ≤ a) (he : jEx a h hx9)
    (hn : ∀ ad : Nat → Nat, narrow (jft c f) (jv ad v) = jv ad v ∧ fits (jft c f) (jv ad v) = true) (hfin : (∀ q : vw_C, vwCl[c]? = some q → (q.2.1 f).2.2.2 = false) ∨ (M.2.1.name = "<init>" ∧ ∀ q : vw_C, vwCl[c]? = some q → (q.2.1 f).2.2.2 = true ∧ (q.2.1 f).1 = M.2.1.cls))
    (hv : ∀ (ad : Nat → Nat) (j : Nat), jvk ad hx9 (jkd (jft c j)) a j = if j = f then jv ad v else jvk ad h (jkd (jft c j)) a j)
    (kk : jX M d K S (pc + 3) ls st hx9 k n Q) : jX M d K S pc ls (v :: .ref a :: st) h k n Q := by
  intro p l e R s m args below meth cd D lo ad H locs lA hc hV hA hP hl hL g1 g2
  have hc2 := hc
  obtain ⟨c1, c2, c3, c4, c5, c6, c7, c8, c9, c10, c11, c12, c13⟩ := hc
  obtain ⟨f0, q, f1, f2, f3⟩ := hF
  subst hs
  obtain ⟨q', y1, cell, z1, z2, z3, z4⟩ := ((hP.2.2.1 a).1 f0).2
  have hq : q' = q := Option.some.inj (y1.symm.trans f1)
  subst hq
  obtain ⟨w1, w2, w3⟩ := jcls_ok _ _ f1
  have hin := jtb_u w1
  have hap := va_apart (s := s) (args := args) (own := M.2.1.cls) (Ts := jtb) c8 hin (jft (jsh h a).1) w2 w3 hV.1 f1
  obtain ⟨hS, hfc, kC, hkC, hkind⟩ := hV.1.1 _ _ f1
  obtain ⟨cf, kf, fi, fd, hi, hsl⟩ := hS f f2
  have hst := (u_facts hfc hkC (u_lays c8 hin f2) hi).1
  have hlay := c8 _ (hin _ (u_in_lay f2))
  have hgo : ∀ H' : Heap, H'[ad a]? = some (cell.setSlot fd.slot (jv ad v)) → H'.size = H.size → (∀ q, q ≠ ad a → H'[q]? = H[q]?) → W p l e R s m args below meth cd H' (locs ++ [⟨ad a, fd.slot⟩]) k n (MQ below (jQc D lo ad Q) args s K S (fun q => lo ≤ q)) (F0 m (pc + 3) lA (st.map (jv ad))) := by
    intro H' e1 e2 e3
    rw [hsl] at e1 ⊢
    refine kk p l e R s m args below meth cd D lo ad H' _ lA hc2 hV hA ?_ hl (t_lc hL (hA.lo ha)) g1 g2
    refine hP.upd hA ha he e2 e3 (fun _ => ⟨_, f1, _, e1, z2, z3, fun j hj => ?_⟩) (fun g3 _ => by omega)
    rw [t_set z4 hap f2 (jv ad v) j hj]
    congr 1
    dsimp only
    rw [hv ad j]
    by_cases hjf : j = f
    · subst hjf; simp [updV]
    · simp [updV, hjf]
  obtain ⟨n1, n2⟩ := hn ad
  rcases hfin with hfin | ⟨hin1, hfin⟩
  · unfold u_lay at hlay
    rw [if_neg (by rw [hfin _ f1]; decide)] at hlay
    have h6 := u_store hfc hkC hkind hlay hi (w2 f f2) n1 n2
    exact W.putK c1 c2 (f := fd) ⟨c7, c8 _ (jtb_of f3 rfl), ⟨_, _, _, hi⟩, hst⟩ (by rw [z2]; exact h6) z1 z3 (by rw [hsl]; exact k2_hasslot (z4 f f2)) rfl rfl (jok_at c13 hat) hgo
  · unfold u_lay at hlay
    rw [if_pos (hfin _ f1).1] at hlay
    have hcf : m.cls = cf := by
      obtain ⟨_, _, c', _, _, _, -, -, hf', -, -, -, hown2, -⟩ := Cond.laysFinal_spec hlay
      have e1 : c' = cf := by have := hi.symm.trans hf'; simp at this; exact this.1.symm
      rw [(hfin _ f1).2] at hown2
      rw [← e1]; exact Option.some.inj (c7.symm.trans hown2)
    have h6 := u_fits hfc hkC hkind (Or.inr hlay) hi (w2 f f2) n1 n2
    exact W.putFinK c1 c2 c7 (c8 _ (jtb_of f3 rfl)) hi hst hcf (c6.trans hin1) (by rw [z2]; exact h6) z1 z3 (by rw [hsl]; exact k2_hasslot (z4 f f2)) rfl rfl (jok_at c13 hat) hgo
/-- whether a field may be written here -/
def jfin (M : jM) (c f : Nat) : Prop := (∀ q : vw_C, vwCl[c]? = some q → (q.2.1 f).2.2.2 = false) ∨ (M.2.1.name = "<init>" ∧ ∀ q : vw_C, vwCl[c]? = some q → (q.2.1 f).2.2.2 = true ∧ (q.2.1 f).1 = M.2.1.cls)
theorem x_putI {idx a : Nat} {x : Int32} (c f : Nat) (hat : jat M pc = some (.putfield idx, 3)) (hF : jF M idx c f) (hk : jft c f = .int) (hfin : jfin M c f) (hs : (jsh h a).1 = c) (ha : Nat.ble 31 a = true) (kk : jX M d K S (pc + 3) ls st (jsi h a f x) k n Q) : jX M d K S pc ls (.int x :: .ref a :: st) h k n Q :=
  x_put hat hF hs (Nat.ble_eq.mp ha) (jEx_si h a f x) (fun ad => by rw [hk]; exact ⟨rfl, rfl⟩) hfin (fun ad j => by
    by_cases hj : j = f
    · subst hj; rw [hk]; simp [jkd, jvk, jiv, jsi, ju2, jv]
    · rw [if_neg hj]; unfold jvk; split
      · rfl
      · rfl
      · simp [jiv, jsi, ju2, hj]) kk
theorem x_putZ {idx a : Nat} {x : Int32} (c f : Nat) (hat : jat M pc = some (.putfield idx, 3)) (hF : jF M idx c f) (hk : jft c f = .boolean) (hfin : jfin M c f) (hs : (jsh h a).1 = c) (ha : Nat.ble 31 a = true) (hx : x = 0 ∨ x = 1) (kk : jX M d K S (pc + 3) ls st (jsi h a f x) k n Q) : jX M d K S pc ls (.int x :: .ref a :: st) h k n Q :=
  x_put hat hF hs (Nat.ble_eq.mp ha) (jEx_si h a f x) (fun ad => by rw [hk]; rcases hx with rfl | rfl <;> exact ⟨rfl, rfl⟩) hfin (fun ad j => by
    by_cases hj : j = f
    · subst hj; rw [hk]; simp [jkd, jvk, jiv, jsi, ju2, jv]
    · rw [if_neg hj]; unfold jvk; split
      · rfl
      · rfl
      · simp [jiv, jsi, ju2, hj]) kk
theorem x_putL {idx a : Nat} {x : Int64} (c f : Nat) (hat : jat M pc = some (.putfield idx, 3)) (hF : jF M idx c f) (hk : jft c f = .long) (hfin : jfin M c f) (hs : (jsh h a).1 = c) (ha : Nat.ble 31 a = true) (kk : jX M d K S (pc + 3) ls st (jsl h a f x) k n Q) : jX M d K S pc ls (.long x :: .ref a :: st) h k n Q :=
  x_put hat hF hs (Nat.ble_eq.mp ha) (jEx_sl h a f x) (fun ad => by rw [hk]; exact ⟨rfl, rfl⟩) hfin (fun ad j => by
    by_cases hj : j = f
    · subst hj; rw [hk]; simp [jkd, jvk, jlv, jsl, ju2, jv]
    · rw [if_neg hj]; unfold jvk; split
      · simp [jlv, jsl, ju2, hj]
      · rfl
      · rfl) kk
theorem x_putR {idx a b : Nat} (c f : Nat) (hat : jat M pc = some (.putfield idx, 3)) (hF : jF M idx c f) (hk : jkd (jft c f) = 1) (hfin : jfin M c f) (hs : (jsh h a).1 = c) (ha : Nat.ble 31 a = true) (kk : jX M d K S (pc + 3) ls st (jsr h a f (some b)) k n Q) : jX M d K S pc ls (.ref b :: .ref a :: st) h k n Q :=
  x_put hat hF hs (Nat.ble_eq.mp ha) (jEx_sr h a f (some b)) (fun ad => by
    generalize jft c f = ty at hk
    cases ty <;> first | (cases hk; done) | exact ⟨rfl, rfl⟩) hfin (fun ad j => by
    by_cases hj : j = f
    · subst hj; rw [hk]; simp [jvk, jrv, jsr, ju2, jv, va_rf]
    · rw [if_neg hj]; unfold jvk; split
      · rfl
      · simp [jrv, jsr, ju2, hj]
      · rfl) kk
end R3
