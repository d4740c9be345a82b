/-! Object(), System.arraycopy -/
section R7
variable {M : jM} {d K S pc : Nat} {ls : jL} {st : List Value} {h : jH} {k n : Nat} {Q : Option Value → jH → Prop}
theorem x_obj {idx a : Nat} (hat : jat M pc = some (.invokespecial idx, 3)) (hw : Cond.methodLink M.2.1.cls idx objectInit ∈ lw_tbl ∧ Cond.instanceMethod objectInit ∈ lw_tbl ∧ Cond.code objectInit ⟨#[0xb1]⟩ 1 none ∈ lw_tbl) (hd : 1 ≤ d) (hst : Nat.ble (st.map fun v => v.category).sum 8 = true) (kk : jX M d K S (pc + 3) ls st h k n Q) : jX M d K S pc ls (.ref a :: st) h k n Q := by
  intro p l e R s m args below meth cd D lo ad H locs lA hc hV hA hP hl hL g1 g2
  have hc2 := hc
  obtain ⟨c1, c2, c3, c4, c5, c6, c7, c8, c9, c10, c11, c12, c13⟩ := hc
  have hst := Nat.ble_eq.mp hst
  have hok : ∀ w, w ∈ lw_tbl → goodWord w = true → w.before args s = true := fun w h1 h2 => c8 w (jtb_of h1 h2)
  refine W.objInit (a := ad a) (rest := st.map (jv ad)) c1 c2 c7 (hok _ hw.1 rfl) (hok _ hw.2.1 rfl) (hok _ hw.2.2 rfl) rfl (by rw [c3]; exact hl.1) rfl (jok_at c13 hat) (by omega) ?_ ?_
  · show 2 * 0 + _ + 12 ≤ _
    rw [List.map_map]
    have e2 : ((fun v => v.category) ∘ jv ad) = fun v : Value => v.category := by funext v; exact jv_cat ad v
    rw [e2]; omega
  · exact kk p l e R s m args below meth cd D lo ad H locs lA hc2 hV hA hP hl hL g1 g2
/-- the tables' words on System.arraycopy -/
def jCp (M : jM) (idx : Nat) : Prop := Cond.methodLink M.2.1.cls idx arraycopyName ∈ lw_tbl ∧ Cond.native arraycopyName ∈ lw_tbl ∧ Cond.static arraycopyName ∈ lw_tbl ∧ Cond.initialized "java/lang/System" ∈ lw_tbl
theorem jnn {z : Int32} (hz : ¬ z < 0) : z.toInt = (z.toNatClampNeg : Int) := by
  have hz0 : (0 : Int) ≤ z.toInt := by
    have := Int32.not_lt.mp hz
    simpa using Int32.le_iff_toInt_le.mp this
  show z.toInt = ((z.toInt.toNat : Nat) : Int)
  omega
theorem x_cpi {idx a b N1 N2 : Nat} {sp dp ln : Int32} (hat : jat M pc = some (.invokestatic idx, 3)) (hw : jCp M idx) (hd : 1 ≤ d) (hst : Nat.ble (st.map fun v => v.category).sum 8 = true) (ha : Nat.ble 31 a = true) (hb : Nat.ble 31 b = true) (hs1 : jsh h a = (100, N1)) (hs2 : jsh h b = (100, N2)) (h1 : ¬ sp < 0) (h2 : ¬ dp < 0) (h3 : ¬ ln < 0) (h4 : sp.toNatClampNeg + ln.toNatClampNeg ≤ N1) (h5 : dp.toNatClampNeg + ln.toNatClampNeg ≤ N2)
    (kk : jX M d K S (pc + 3) ls st (jci h a b sp.toNatClampNeg dp.toNatClampNeg ln.toNatClampNeg) k n Q) : jX M d K S pc ls (.int ln :: .int dp :: .ref b :: .int sp :: .ref a :: st) h k n Q := by
  have ha := Nat.ble_eq.mp ha
  have hb := Nat.ble_eq.mp hb
  have hst := Nat.ble_eq.mp hst
  intro p l e R s m args below meth cd D lo ad H locs lA hc hV hA hP hl hL g1 g2
  have hc2 := hc
  obtain ⟨c1, c2, c3, c4, c5, c6, c7, c8, c9, c10, c11, c12, c13⟩ := hc
  have hok : ∀ w, w ∈ lw_tbl → goodWord w = true → w.before args s = true := fun w h1 h2 => c8 w (jtb_of h1 h2)
  obtain ⟨y0, cell, y1, y2, y3, y4, y5, y6, y7⟩ := ((hP.2.2.1 a).2 (by rw [hs1]; simp) (by rw [hs1]; simp)).2
  obtain ⟨z0, celb, z1, z2, z3, z4, z5, z6, z7⟩ := ((hP.2.2.1 b).2 (by rw [hs2]; simp) (by rw [hs2]; simp)).2
  rw [hs1] at y0 y2 y4 y6 y7
  rw [hs2] at z0 z2 z4 z5 z6 z7
  dsimp only at y0 y2 y4 y6 y7 z0 z2 z4 z5 z6 z7
  have ea := (y7 ha).1
  have eb := (z7 hb).1
  have sa : cell.slots.size = N1 := by rw [ea, arrV_size]
  have sb : celb.slots.size = N2 := by rw [eb, arrV_size]
  have ea2 : cell = vp_cell cell.cls (N1, .inl (jiv h a)) := ea
  have eb2 : celb = vp_cell celb.cls (N2, .inl (jiv h b)) := eb
  obtain ⟨-, k0, hk0, cm0, hkk0⟩ := y2
  obtain ⟨-, k1, hk1, cm1, hkk1⟩ := z2
  intro T hT X
  have hcat : ((st.map (jv ad)).map fun v => v.category).sum = (st.map fun v => v.category).sum := by
    rw [List.map_map]
    have e2 : ((fun v => v.category) ∘ jv ad) = fun v : Value => v.category := by funext v; exact jv_cat ad v
    rw [e2]
  obtain ⟨vm', X', step⟩ := X.arraycopy c1 c7 (hok _ hw.1 rfl) (hok _ hw.2.1 rfl) (hok _ hw.2.2.1 rfl) (hok _ hw.2.2.2 rfl) (src := ad a) (dst := ad b) (cs := cell) (cd := celb) (srcPos := sp) (destPos := dp) (n := ln) (by rw [hT]; exact y1) (by rw [hT]; exact z1)
    (fun _ h => by rw [ea] at h; cases h) (fun _ h => by rw [eb] at h; cases h) y3 z3 hk0 hk1 hkk0 hkk1 (by simp [jtA, refKind]) h1 h2 h3
    (by rw [jnn h1, jnn h3, sa]; omega)
    (by rw [jnn h2, jnn h3, sb]; omega)
    (fun vm₁ _ i hi => by
      have e : cell.slots.getD (sp.toNatClampNeg + i) .null = .int (jiv h a (sp.toNatClampNeg + i)) := by
        rw [Array.getD_eq_getD_getElem?, y6 _ (by omega)]
        rfl
      refine ⟨?_, ?_⟩
      · rw [e]; rfl
      · rw [e]
        exact trivial)
    (g := F0 m pc lA ((.int ln :: .int dp :: .ref b :: .int sp :: .ref a :: st).map (jv ad))) rfl (by rw [c3]; exact hl.1) (rest := st.map (jv ad)) rfl (by rw [c2]; exact jok_at c13 hat) (by omega) (by
      show 2 * 0 + _ + _ ≤ _
      have e3 : nativeFrameWords "java/lang/System" "arraycopy" 5 ≤ 40 := by decide +kernel
      rw [hcat]
      omega)
  have e1 : copied cell celb sp dp ln = vp_cell celb.cls (N2, .inl (va_cpy (jiv h a) (jiv h b) sp.toNatClampNeg dp.toNatClampNeg ln.toNatClampNeg)) := by
    rw [ea2, eb2]
    exact va_copied (fun z => .int z) cell.cls celb.cls (jiv h a) (jiv h b) h4
  rw [e1] at X' step
  have hlb : ad b < H.size := (Array.getElem?_eq_some_iff.mp z1).1
  obtain ⟨t, a1, b1⟩ := kk p l e R s m args below meth cd D lo ad (H.setIfInBounds (ad b) (vp_cell celb.cls (N2, .inl (va_cpy (jiv h a) (jiv h b) sp.toNatClampNeg dp.toNatClampNeg ln.toNatClampNeg)))) _ lA hc2 hV hA (by
      refine hP.upd hA hb (jEx_ci h a b _ _ _) (by simp) (fun q hq => by simp [Array.getElem?_setIfInBounds, Ne.symm hq]) (fun g => by rw [hs2] at g; simp at g) (fun _ _ => ?_)
      rw [hs2]
      refine ⟨z0, vp_cell celb.cls (N2, .inl (va_cpy (jiv h a) (jiv h b) sp.toNatClampNeg dp.toNatClampNeg ln.toNatClampNeg)), by simp [Array.getElem?_setIfInBounds, hlb], ⟨(fun _ h => by cases h), k1, hk1, cm1, hkk1⟩, (fun h => by cases h), by rw [vp_cell_i, arrV_size]; exact Nat.le_refl _, by rw [vp_cell_i, arrV_size]; rfl, fun j hj => ?_, fun _ => ⟨?_, (z7 hb).2⟩⟩
      · rw [vp_cell_i, arrV_read _ _ hj]
        congr 1
        show _ = jvk ad _ 2 b j
        simp [jvk, jiv, jci, ju1]
        rfl
      · rw [vp_cell_i]
        show arrV celb.cls N2 _ = arrV celb.cls N2 _
        congr 1
        funext j
        show _ = jvk ad _ 2 b j
        simp [jvk, jiv, jci, ju1]
        rfl) hl (fun q hq => by
      rcases List.mem_append.mp hq with h | h
      · exact hL q h
      · obtain ⟨z, -, hz⟩ := List.mem_map.mp h
        rw [← hz]
        exact hA.lo hb) g1 g2 _ (by rw [← hT]; rfl) X'
  exact ⟨t, step t a1, b1⟩
theorem x_cpl {idx a b N1 N2 : Nat} {sp dp ln : Int32} (hat : jat M pc = some (.invokestatic idx, 3)) (hw : jCp M idx) (hd : 1 ≤ d) (hst : Nat.ble (st.map fun v => v.category).sum 8 = true) (ha : Nat.ble 31 a = true) (hb : Nat.ble 31 b = true) (hs1 : jsh h a = (101, N1)) (hs2 : jsh h b = (101, N2)) (h1 : ¬ sp < 0) (h2 : ¬ dp < 0) (h3 : ¬ ln < 0) (h4 : sp.toNatClampNeg + ln.toNatClampNeg ≤ N1) (h5 : dp.toNatClampNeg + ln.toNatClampNeg ≤ N2)
    (kk : jX M d K S (pc + 3) ls st (jcl h a b sp.toNatClampNeg dp.toNatClampNeg ln.toNatClampNeg) k n Q) : jX M d K S pc ls (.int ln :: .int dp :: .ref b :: .int sp :: .ref a :: st) h k n Q := by
  have ha := Nat.ble_eq.mp ha
  have hb := Nat.ble_eq.mp hb
  have hst := Nat.ble_eq.mp hst
  intro p l e R s m args below meth cd D lo ad H locs lA hc hV hA hP hl hL g1 g2
  have hc2 := hc
  obtain ⟨c1, c2, c3, c4, c5, c6, c7, c8, c9, c10, c11, c12, c13⟩ := hc
  have hok : ∀ w, w ∈ lw_tbl → goodWord w = true → w.before args s = true := fun w h1 h2 => c8 w (jtb_of h1 h2)
  obtain ⟨y0, cell, y1, y2, y3, y4, y5, y6, y7⟩ := ((hP.2.2.1 a).2 (by rw [hs1]; simp) (by rw [hs1]; simp)).2
  obtain ⟨z0, celb, z1, z2, z3, z4, z5, z6, z7⟩ := ((hP.2.2.1 b).2 (by rw [hs2]; simp) (by rw [hs2]; simp)).2
  rw [hs1] at y0 y2 y4 y6 y7
  rw [hs2] at z0 z2 z4 z5 z6 z7
  dsimp only at y0 y2 y4 y6 y7 z0 z2 z4 z5 z6 z7
  have ea := (y7 ha).1
  have eb := (z7 hb).1
  have sa : cell.slots.size = N1 := by rw [ea, arrV_size]
  have sb : celb.slots.size = N2 := by rw [eb, arrV_size]
  have ea2 : cell = vp_cell cell.cls (N1, .inr (.inl (jlv h a))) := ea
  have eb2 : celb = vp_cell celb.cls (N2, .inr (.inl (jlv h b))) := eb
  obtain ⟨-, k0, hk0, cm0, hkk0⟩ := y2
  obtain ⟨-, k1, hk1, cm1, hkk1⟩ := z2
  intro T hT X
  have hcat : ((st.map (jv ad)).map fun v => v.category).sum = (st.map fun v => v.category).sum := by
    rw [List.map_map]
    have e2 : ((fun v => v.category) ∘ jv ad) = fun v : Value => v.category := by funext v; exact jv_cat ad v
    rw [e2]
  obtain ⟨vm', X', step⟩ := X.arraycopy c1 c7 (hok _ hw.1 rfl) (hok _ hw.2.1 rfl) (hok _ hw.2.2.1 rfl) (hok _ hw.2.2.2 rfl) (src := ad a) (dst := ad b) (cs := cell) (cd := celb) (srcPos := sp) (destPos := dp) (n := ln) (by rw [hT]; exact y1) (by rw [hT]; exact z1)
    (fun _ h => by rw [ea] at h; cases h) (fun _ h => by rw [eb] at h; cases h) y3 z3 hk0 hk1 hkk0 hkk1 (by simp [jtA, refKind]) h1 h2 h3
    (by rw [jnn h1, jnn h3, sa]; omega)
    (by rw [jnn h2, jnn h3, sb]; omega)
    (fun vm₁ _ i hi => by
      have e : cell.slots.getD (sp.toNatClampNeg + i) .null = .long (jlv h a (sp.toNatClampNeg + i)) := by
        rw [Array.getD_eq_getD_getElem?, y6 _ (by omega)]
        rfl
      refine ⟨?_, ?_⟩
      · rw [e]; rfl
      · rw [e]
        exact trivial)
    (g := F0 m pc lA ((.int ln :: .int dp :: .ref b :: .int sp :: .ref a :: st).map (jv ad))) rfl (by rw [c3]; exact hl.1) (rest := st.map (jv ad)) rfl (by rw [c2]; exact jok_at c13 hat) (by omega) (by
      show 2 * 0 + _ + _ ≤ _
      have e3 : nativeFrameWords "java/lang/System" "arraycopy" 5 ≤ 40 := by decide +kernel
      rw [hcat]
      omega)
  have e1 : copied cell celb sp dp ln = vp_cell celb.cls (N2, .inr (.inl (va_cpy (jlv h a) (jlv h b) sp.toNatClampNeg dp.toNatClampNeg ln.toNatClampNeg))) := by
    rw [ea2, eb2]
    exact va_copied (fun z => .long z) cell.cls celb.cls (jlv h a) (jlv h b) h4
  rw [e1] at X' step
  have hlb : ad b < H.size := (Array.getElem?_eq_some_iff.mp z1).1
  obtain ⟨t, a1, b1⟩ := kk p l e R s m args below meth cd D lo ad (H.setIfInBounds (ad b) (vp_cell celb.cls (N2, .inr (.inl (va_cpy (jlv h a) (jlv h b) sp.toNatClampNeg dp.toNatClampNeg ln.toNatClampNeg))))) _ lA hc2 hV hA (by
      refine hP.upd hA hb (jEx_cl h a b _ _ _) (by simp) (fun q hq => by simp [Array.getElem?_setIfInBounds, Ne.symm hq]) (fun g => by rw [hs2] at g; simp at g) (fun _ _ => ?_)
      rw [hs2]
      refine ⟨z0, vp_cell celb.cls (N2, .inr (.inl (va_cpy (jlv h a) (jlv h b) sp.toNatClampNeg dp.toNatClampNeg ln.toNatClampNeg))), by simp [Array.getElem?_setIfInBounds, hlb], ⟨(fun _ h => by cases h), k1, hk1, cm1, hkk1⟩, (fun h => by cases h), by rw [vp_cell_l, arrV_size]; exact Nat.le_refl _, by rw [vp_cell_l, arrV_size]; rfl, fun j hj => ?_, fun _ => ⟨?_, (z7 hb).2⟩⟩
      · rw [vp_cell_l, arrV_read _ _ hj]
        congr 1
        show _ = jvk ad _ 0 b j
        simp [jvk, jlv, jcl, ju1]
        rfl
      · rw [vp_cell_l]
        show arrV celb.cls N2 _ = arrV celb.cls N2 _
        congr 1
        funext j
        show _ = jvk ad _ 0 b j
        simp [jvk, jlv, jcl, ju1]
        rfl) hl (fun q hq => by
      rcases List.mem_append.mp hq with h | h
      · exact hL q h
      · obtain ⟨z, -, hz⟩ := List.mem_map.mp h
        rw [← hz]
        exact hA.lo hb) g1 g2 _ (by rw [← hT]; rfl) X'
  exact ⟨t, step t a1, b1⟩
end R7
