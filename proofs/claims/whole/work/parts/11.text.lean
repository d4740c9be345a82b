/-! the class's texts; a clone of an array -/
section R8
variable {M : jM} {d K S pc : Nat} {ls : jL} {st : List Value} {h : jH} {k n : Nat} {Q : Option Value → jH → Prop}
/-- the contract of a library's method out of its walk -/
theorem jC.ofF {vs : List Value} (hy : plainFor M.2.1 = true) (hok : jok M) (hlen : Nat.ble (lg_sl vs).length M.2.2.2.1 = true) (hX : jX M d K S 0 (lv_args 0 vs) [] h 0 0 Q) : jC M d K S vs h Q := by
  intro l D lo ad hA
  refine va_MetF (cc := M.2.2.1) (maxL := M.2.2.2.1) (ret := M.2.2.2.2.1) hy rfl ?_
  intro p e s m args below meth c s₁ B hml hv
  obtain ⟨rfl, hV, hP⟩ := hv
  have hts := atoms_spec (ws := jws M) B.pre
  rw [lg_entry_eq]
  have hl := lv_entry (vs.map (jv ad)) (n := M.2.2.2.1) (by rw [jsl_len]; exact Nat.ble_eq.mp hlen)
  rw [jargs] at hl
  exact hX p l e (jrm d K S) s m _ below meth c D lo ad s.heap [] _ ⟨B.exec, B.bytes, hml, B.returns, B.notSynchronized, (name_of_methodNamed B.named B.method).1, findClass_of_methodNamed B.named, fun w hw => hts w (List.mem_cons_of_mem _ hw), Nat.le_refl _, Nat.le_refl _, rfl, rfl, hok⟩ hV hA hP hl (fun q h => by cases h) (Nat.zero_le _) (Nat.zero_le _)
theorem x_nret {x : Int32} {ty : FieldType} (hat : jat M pc = some (.ireturn, 1)) (hr : M.2.2.2.2.1 = some ty) (hx : narrow ty (.int x) = .int x) (hQ : Q (some (.int x)) h) : jX M d K S pc ls [.int x] h k n Q := by
  intro p l e R s m args below meth cd D lo ad H locs lA hc hV hA hP hl hL g1 g2
  obtain ⟨c1, c2, c3, c4, c5, c6, c7, c8, c9, c10, c11, c12, c13⟩ := hc
  exact W.widen g1 g2 (W.zret (v := x) c1 c2 (c4.trans hr) hx (fun t ht hW => ⟨some (.int x), h, rfl, hQ, by rw [ht]; exact hP.moved hW.alike⟩) hL (jok_at c13 hat) c5)
theorem x_sval {idx i : Nat} (hi : i < 13) (hat : jat M pc = some (.getfield idx, 3)) (hw : Cond.fieldLink M.2.1.cls idx "java/lang/String" "value" "[B" ∈ lw_tbl) (kk : jX M d K S (pc + 3) ls (.ref (18 + i) :: st) h k n Q) : jX M d K S pc ls (.ref (5 + i) :: st) h k n Q := by
  intro p l e R s m args below meth cd D lo ad H locs lA hc hV hA hP hl hL g1 g2
  have hc2 := hc
  obtain ⟨c1, c2, c3, c4, c5, c6, c7, c8, c9, c10, c11, c12, c13⟩ := hc
  obtain ⟨cf, kf, fi, f, cell, h1, h2, h3, h4, h5, h6⟩ := (hP.2.2.2.2.2.2 i hi).2.2
  exact W.getf c1 c2 c7 (c8 _ (jtb_of hw rfl)) h1 h2 h3 h4 (v := .ref (ad (18 + i))) h5 rfl rfl (jok_at c13 hat) (kk p l e R s m args below meth cd D lo ad H locs lA hc2 hV hA hP hl hL g1 g2)
theorem x_scod {idx i : Nat} (hi : i < 13) (hat : jat M pc = some (.getfield idx, 3)) (hw : Cond.fieldLink M.2.1.cls idx "java/lang/String" "coder" "B" ∈ lw_tbl) (kk : jX M d K S (pc + 3) ls (.int 0 :: st) h k n Q) : jX M d K S pc ls (.ref (5 + i) :: st) h k n Q := by
  intro p l e R s m args below meth cd D lo ad H locs lA hc hV hA hP hl hL g1 g2
  have hc2 := hc
  obtain ⟨c1, c2, c3, c4, c5, c6, c7, c8, c9, c10, c11, c12, c13⟩ := hc
  obtain ⟨cf, kf, fi, f, cell, h1, h2, h3, h4, h5, h6⟩ := (hP.2.2.2.2.2.2 i hi).2.1
  exact W.getf c1 c2 c7 (c8 _ (jtb_of hw rfl)) h1 h2 h3 h4 (v := .int 0) h5 rfl rfl (jok_at c13 hat) (kk p l e R s m args below meth cd D lo ad H locs lA hc2 hV hA hP hl hL g1 g2)
theorem x_scmp {idx : Nat} (hat : jat M pc = some (.getstatic idx, 3)) (hw : Cond.fieldLink M.2.1.cls idx "java/lang/String" "COMPACT_STRINGS" "Z" ∈ lw_tbl) (kk : jX M d K S (pc + 3) ls (.int 1 :: st) h k n Q) : jX M d K S pc ls st h k n Q := by
  intro p l e R s m args below meth cd D lo ad H locs lA hc hV hA hP hl hL g1 g2
  have hc2 := hc
  obtain ⟨c1, c2, c3, c4, c5, c6, c7, c8, c9, c10, c11, c12, c13⟩ := hc
  obtain ⟨cf, kf, fi, f, a, cell, h1, h2, h3, h4, h5, h6, h7, h8⟩ := hP.2.2.2.2.1
  exact W.gets c1 c2 c7 (c8 _ (jtb_of hw rfl)) h1 h2 h3 h4 h5 (fun e => by rw [e] at h6; cases h6) h7 rfl (jok_at c13 hat) (kk p l e R s m args below meth cd D lo ad H locs lA hc2 hV hA hP hl hL g1 g2)
theorem x_bald {i : Int32} {a N : Nat} (hat : jat M pc = some (.baload, 1)) (hs : jsh h a = (103, N)) (hi : vp_in i N) (kk : jX M d K S (pc + 1) ls (.int (jiv h a i.toNatClampNeg) :: st) h k n Q) : jX M d K S pc ls (.int i :: .ref a :: st) h k n Q := by
  intro p l e R s m args below meth cd D lo ad H locs lA hc hV hA hP hl hL g1 g2
  have hc2 := hc
  obtain ⟨c1, c2, c3, c4, c5, c6, c7, c8, c9, c10, c11, c12, c13⟩ := hc
  obtain ⟨y0, cell, y1, y2, y3, y4, y5, y6, y7⟩ := ((hP.2.2.1 a).2 (by rw [hs]; simp) (by rw [hs]; simp)).2
  rw [hs] at y2 y4 y6
  refine W.bald (v := .int (jiv h a i.toNatClampNeg)) c1 c2 y1 y2 y3 (jin_sz hi y4) ?_ rfl rfl (jok_at c13 hat) ?_
  · exact y6 _ (jin_lt hi).2
  · exact kk p l e R s m args below meth cd D lo ad H locs lA hc2 hV hA hP hl hL g1 g2
/-- a method of a text -/
theorem x_invS {idx dx9 i na : Nat} {N : jM} {As : List Value} (hi : i < 13) (hat : jat M pc = some (.invokevirtual idx, 3)) (hN : jMt N na)
    (hlk : Cond.methodLink M.2.1.cls idx N.2.1 ∈ lw_tbl ∧ Cond.instanceMethod N.2.1 ∈ lw_tbl ∧ Cond.selects N.2.1.cls N.2.1 N.2.1 ∈ lw_tbl)
    (hcl : N.2.1.cls = "java/lang/String") (hn : As.length = na) (hd : dx9 + 1 ≤ d) (hml : Nat.ble N.2.2.2.1 45 = true) (hst : Nat.ble (st.map fun v => v.category).sum 8 = true)
    (kk : jC N dx9 0 0 (.ref (5 + i) :: As) h (fun r hx9 => jX M d K S (pc + 3) ls (r.toList ++ st) hx9 k n Q)) : jX M d K S pc ls (As.reverse ++ .ref (5 + i) :: st) h k n Q := by
  intro p l e R s m args below meth cd D lo ad H locs lA hc hV hA hP hl hL g1 g2
  have hc2 := hc
  obtain ⟨c1, c2, c3, c4, c5, c6, c7, c8, c9, c10, c11, c12, c13⟩ := hc
  have hml := Nat.ble_eq.mp hml
  have hst := Nat.ble_eq.mp hst
  obtain ⟨cell, z1, z2, z3, z4⟩ := (hP.2.2.2.2.2.2 i hi).1
  rw [← hcl] at z3
  refine jback (dx9 := dx9) (mc := 0) (ms := 0) (st := st) (a := (Value.ref (ad (5 + i)) :: As.map (jv ad)).toArray) hc2 hV hA hl hL (by omega) (by omega) ?_
  have hst2 : 2 * (F0 m pc lA ((As.reverse ++ .ref (5 + i) :: st).map (jv ad))).monitorRoom + ((st.map (jv ad)).map fun v => v.category).sum ≤ 8 := by
    refine lv_room ?_
    rw [List.map_map]
    have e2 : ((fun v => v.category) ∘ jv ad) = fun v : Value => v.category := by funext v; exact jv_cat ad v
    rw [e2]; exact hst
  have hpre : PreV s H N.2.1.cls (ad (5 + i)) (fun v U => v = ((Value.ref (5 + i) :: As).map (jv ad)).toArray ∧ jV D ad U ∧ jHp D lo ad h U U.heap) (As.map (jv ad)) :=
    ⟨jblind, ⟨cell, z1, z2, z3⟩, fun U hU hW => ⟨rfl, hV.warm hW, by rw [hU]; exact hP.moved hW.alike⟩⟩
  have hok : ∀ w, w ∈ lw_tbl → goodWord w = true → w.before args s = true := fun w h1 h2 => c8 w (jtb_of h1 h2)
  have hroom : (jrm dx9 0 0).frames + 1 ≤ R.frames ∧ 8 + (N.2.2.2.1 + 11) + (jrm dx9 0 0).locals ≤ R.locals := by
    unfold jrm
    dsimp only
    constructor <;> omega
  have hstk : (F0 m pc lA ((As.reverse ++ .ref (5 + i) :: st).map (jv ad))).stack = (As.map (jv ad)).reverse ++ .ref (ad (5 + i)) :: st.map (jv ad) := by
    show (As.reverse ++ .ref (5 + i) :: st).map (jv ad) = _
    rw [List.map_append, List.map_reverse]
    rfl
  exact va_runV (cc := M.2.2.1) (nL := M.2.2.2.1) (own := M.2.1.cls) (C := N.2.1.cls) (b := ad (5 + i)) ⟨c1, c2, c3, c7, c8⟩ (kk l D lo ad hA) ⟨callB_of na c8 (jgood hN) rfl rfl rfl (hok _ hN.1.2 rfl) (hok _ hlk.1 rfl) hN.2 hroom, hok _ hlk.2.1 rfl, hok _ hlk.2.2 rfl⟩ hpre rfl (by rw [List.length_map]; exact hn) hl.1 hstk hst2 (jok_at c13 hat) (by rw [c11, c12]; exact ⟨by omega, by omega⟩)
theorem jblind2 {D : va_G} {lo : Nat} {ad : Nat → Nat} {v0 : Array Value} : FrameBlind (fun v U => v = v0 ∧ jV D ad U ∧ jHp D lo ad h U U.heap) := by
  intro a U g mk x
  obtain ⟨x1, ⟨x2, x3, x4, x6, x7, x8⟩, x5⟩ := x
  refine ⟨x1, ⟨va_K.moved (u := U) (U := U.calling g mk a) (Vm.Alike.refl U.vm) x2, fun w hw => ?_, fun q hq => (x4 q hq).same rfl, va_AO.moved (u := U) (U := U.calling g mk a) (Vm.Alike.refl U.vm) x6, va_AO.moved (u := U) (U := U.calling g mk a) (Vm.Alike.refl U.vm) x7, va_Nw.same (u := U) rfl rfl x8⟩, jHp.moved (u := U) (U := U.calling g mk a) (Vm.Alike.refl U.vm) x5⟩
  have hw2 := (List.mem_filter.mp hw).2
  refine va_Nw.same (u := U) ?_ rfl (x3 w hw)
  cases w <;> first | (cases hw2; done) | rfl
/-- Preconditions.checkIndex with the formatter, whatever that is -/
theorem x_chk {i1 i2 dx9 : Nat} {x y : Int32} {N : jM} (hat1 : jat M pc = some (.getstatic i1, 3)) (hat2 : jat M (pc + 3) = some (.invokestatic i2, 3))
    (hw1 : Cond.fieldLink M.2.1.cls i1 "jdk/internal/util/Preconditions" "SIOOBE_FORMATTER" "Ljava/util/function/BiFunction;" ∈ lw_tbl)
    (hN : jMt N 3) (hlk : Cond.methodLink M.2.1.cls i2 N.2.1 ∈ lw_tbl ∧ Cond.static N.2.1 ∈ lw_tbl) (hy : plainFor N.2.1 = true) (hok0 : jok N) (hlen : 3 ≤ N.2.2.2.1) (hd : dx9 + 1 ≤ d) (hml : Nat.ble N.2.2.2.1 45 = true) (hst : Nat.ble (st.map fun v => v.category).sum 8 = true)
    (kk : jX N dx9 0 0 0 [(0, .int x), (1, .int y)] [] h 0 0 (fun r hx9 => jX M d K S (pc + 6) ls (r.toList ++ st) hx9 k n Q)) : jX M d K S pc ls (.int y :: .int x :: st) h k n Q := by
  intro p l e R s m args below meth cd D lo ad H locs lA hc hV hA hP hl hL g1 g2
  have hc2 := hc
  obtain ⟨c1, c2, c3, c4, c5, c6, c7, c8, c9, c10, c11, c12, c13⟩ := hc
  have hml := Nat.ble_eq.mp hml
  have hst := Nat.ble_eq.mp hst
  have hok : ∀ w, w ∈ lw_tbl → goodWord w = true → w.before args s = true := fun w h1 h2 => c8 w (jtb_of h1 h2)
  obtain ⟨w, hw, hz⟩ : ∃ w : Value, (w = .null ∨ ∃ t : Nat, w = .ref t) ∧ va_Z "jdk/internal/util/Preconditions" "SIOOBE_FORMATTER" "Ljava/util/function/BiFunction;" w (fun x => lo ≤ x) s H := by
    rcases hP.2.2.2.2.2.1 with z | ⟨t, z⟩
    · exact ⟨.null, Or.inl rfl, z⟩
    · exact ⟨.ref t, Or.inr ⟨t, rfl⟩, z⟩
  obtain ⟨cf, kf, fi, f, a, cell, h1, h2, h3, h4, h5, h6, h7, h8⟩ := hz
  refine W.gets c1 c2 c7 (c8 _ (jtb_of hw1 rfl)) h1 h2 h3 h4 h5 (fun e => by rw [e] at h6; cases h6) h7 rfl (jok_at c13 hat1) ?_
  refine jback (dx9 := dx9) (pc := pc + 3) (mc := 0) (ms := 0) (st := st) (a := [Value.int x, .int y, w].toArray) hc2 hV hA hl hL (by omega) (by omega) ?_
  have hM : Met l N.2.1 (jws N) (jrm dx9 0 0) (fun v U => v = [Value.int x, .int y, w].toArray ∧ jV D ad U ∧ jHp D lo ad h U U.heap) (jQc D lo ad (fun r hx9 => jX M d K S (pc + 3 + 3) ls (r.toList ++ st) hx9 (k + 0) (n + 0) Q)) 0 0 (fun q => lo ≤ q) := by
    refine va_MetF (cc := N.2.2.1) (maxL := N.2.2.2.1) (ret := N.2.2.2.2.1) hy rfl ?_
    intro p e s m args below meth c s₁ B hml hv
    obtain ⟨rfl, hV, hP⟩ := hv
    have hts := atoms_spec (ws := jws N) B.pre
    rw [lg_entry_eq]
    have hlen3 : (lg_sl [Value.int x, .int y, w]).length ≤ N.2.2.2.1 := by rcases hw with rfl | ⟨t, rfl⟩ <;> exact hlen
    have hl := lv_entry [Value.int x, .int y, w] (n := N.2.2.2.1) hlen3
    have hl2 : lv_has _ N.2.2.2.1 (jlm ad [(0, .int x), (1, .int y)]) := ⟨hl.1, hl.2.1, fun q hq => hl.2.2 q (by
      rcases List.mem_cons.mp hq with rfl | hq
      · exact List.mem_cons_self
      · rcases List.mem_cons.mp hq with rfl | hq
        · exact List.mem_cons_of_mem _ List.mem_cons_self
        · cases hq)⟩
    exact kk p l e (jrm dx9 0 0) s m _ below meth c D lo ad s.heap [] _ ⟨B.exec, B.bytes, hml, B.returns, B.notSynchronized, (name_of_methodNamed B.named B.method).1, findClass_of_methodNamed B.named, fun w hw => hts w (List.mem_cons_of_mem _ hw), Nat.le_refl _, Nat.le_refl _, rfl, rfl, hok0⟩ hV hA hP hl2 (fun q h => by cases h) (Nat.zero_le _) (Nat.zero_le _)
  have hst2 : 2 * (F0 m (pc + 3) lA (w :: (Value.int y :: .int x :: st).map (jv ad))).monitorRoom + ((st.map (jv ad)).map fun v => v.category).sum ≤ 8 := by
    refine lv_room ?_
    rw [List.map_map]
    have e2 : ((fun v => v.category) ∘ jv ad) = fun v : Value => v.category := by funext v; exact jv_cat ad v
    rw [e2]; exact hst
  have hpre : PreS s H (fun v U => v = [Value.int x, .int y, w].toArray ∧ jV D ad U ∧ jHp D lo ad h U U.heap) [Value.int x, .int y, w] :=
    ⟨jblind2, fun U hU hW => ⟨rfl, hV.warm hW, by rw [hU]; exact hP.moved hW.alike⟩⟩
  have hroom : (jrm dx9 0 0).frames + 1 ≤ R.frames ∧ 8 + (N.2.2.2.1 + 11) + (jrm dx9 0 0).locals ≤ R.locals := by
    unfold jrm
    dsimp only
    constructor <;> omega
  exact va_runS (cc := M.2.2.1) (nL := M.2.2.2.1) (own := M.2.1.cls) ⟨c1, c2, c3, c7, c8⟩ hM ⟨callB_of 3 c8 (jgood hN) rfl rfl rfl (hok _ hN.1.2 rfl) (hok _ hlk.1 rfl) hN.2 hroom, hok _ hlk.2 rfl⟩ hpre rfl rfl hl.1 rfl hst2 (jok_at c13 hat2) (by rw [c11, c12]; exact ⟨by omega, by omega⟩)
theorem arrV_cong {cA : ClassId} {N : Nat} {f g : Nat → Value} (e : ∀ j, j < N → f j = g j) : arrV cA N f = arrV cA N g := by
  unfold arrV
  congr 1
  refine congrArg Array.ofFn ?_
  funext j
  exact e j.val j.isLt
/-- the tables' words on int[].clone() -/
def jCl (M : jM) (idx : Nat) : Prop := Cond.methodLink M.2.1.cls idx ⟨"[I", "clone", "()Ljava/lang/Object;"⟩ ∈ lw_tbl ∧ Cond.sameMethod "[I" "java/lang/Object" "clone" "()Ljava/lang/Object;" ∈ lw_tbl ∧ Cond.native ⟨"java/lang/Object", "clone", "()Ljava/lang/Object;"⟩ ∈ lw_tbl ∧ Cond.instanceMethod ⟨"java/lang/Object", "clone", "()Ljava/lang/Object;"⟩ ∈ lw_tbl ∧ Cond.selects "[I" ⟨"[I", "clone", "()Ljava/lang/Object;"⟩ ⟨"java/lang/Object", "clone", "()Ljava/lang/Object;"⟩ ∈ lw_tbl
theorem x_clone {idx a N : Nat} (hat : jat M pc = some (.invokevirtual idx, 3)) (hw : jCl M idx) (hd : 1 ≤ d) (hst : Nat.ble (st.map fun v => v.category).sum 8 = true) (ha : Nat.ble 31 a = true) (hs : jsh h a = (100, N)) (g3 : k + 1 ≤ K ∧ n + N ≤ S)
    (kk : jX M d K S (pc + 3) ls (.ref (jnx h) :: st) (jci (jnw h 100 N) a (jnx h) 0 0 N) (k + 1) (n + N) Q) : jX M d K S pc ls (.ref a :: st) h k n Q := by
  have ha := Nat.ble_eq.mp ha
  have hst := Nat.ble_eq.mp hst
  intro p l e R s m args below meth cd D lo ad H locs lA hc hV hA hP hl hL g1 g2
  have hc2 := hc
  obtain ⟨c1, c2, c3, c4, c5, c6, c7, c8, c9, c10, c11, c12, c13⟩ := hc
  have hok : ∀ w, w ∈ lw_tbl → goodWord w = true → w.before args s = true := fun w h1 h2 => c8 w (jtb_of h1 h2)
  obtain ⟨w1, w2, w3, w4, w5⟩ := hw
  obtain ⟨hlt, y0, cell, y1, y2, y3, y4, y5, y6, y7⟩ := (hP.2.2.1 a).2 (by rw [hs]; simp) (by rw [hs]; simp)
  rw [hs] at y0 y2 y4 y5 y6 y7
  dsimp only at y0 y2 y4 y5 y6 y7
  have ea := (y7 ha).1
  have hnm := va_nm_int (y7 ha).2
  have sa : cell.slots.size = N := by rw [ea, arrV_size]
  have hcat : ((st.map (jv ad)).map fun v => v.category).sum = (st.map fun v => v.category).sum := by
    rw [List.map_map]
    have e2 : ((fun v => v.category) ∘ jv ad) = fun v : Value => v.category := by funext v; exact jv_cat ad v
    rw [e2]
  obtain ⟨c0, t0', f1, f2, f3⟩ := Cond.castable_spec (va_Nw.use (A := args) rfl hV.2.2.2.2.2)
  cases hnm.symm.trans f1
  intro T hT X
  obtain ⟨-, kA, hkA, comp, hkind⟩ := State.isArrayOf_alike X.warmed.alike y2
  obtain ⟨-, kS, hkS, compS, hkindS⟩ := y2
  have hv0 : cell.vm = .none := by rw [ea]; rfl
  obtain ⟨vm', X', step⟩ := X.cloneArray c1 c7 (hok _ w1 rfl) (hok _ w2 rfl) (hok _ w3 rfl) (hok _ w4 rfl) (hok _ w5 rfl) (a := ad a) (cell := cell) (by rw [hT]; exact y1) (fun k h => by rw [hv0] at h; cases h) y3 hnm f2 f3
    (fun i v hv => by
      have hk' : T.vm.classes[cell.cls]? = some kA := hkA
      have hi : i < N := by
        rw [← sa]
        exact (Array.getElem?_eq_some_iff.mp hv).1
      have := y6 i hi
      rw [hv] at this
      cases this
      simp [State.fitsSlot, State.slotType?, hk', hkind, jtA, jkd, jvk]
      rfl)
    (g := F0 m pc lA ((.ref a :: st).map (jv ad))) rfl (by rw [c3]; exact hl.1) rfl (by rw [c2]; exact jok_at c13 hat) (by omega) (by
      show 2 * 0 + _ + 14 ≤ _
      rw [hcat]
      omega) (by rw [c11]; exact g3.1) (by rw [sa, c12]; exact g3.2) (hloader := Vm.clonesLoader_of_array hkS hkindS)
  have hcE : ({ cls := cell.cls, slots := cell.slots } : Cell) = cell := by rw [ea]; rfl
  rw [hcE, sa] at X'
  rw [hcE] at step
  have hz : (H.push cell).size = H.size + 1 := Array.size_push ..
  have hq : ∀ q, q < H.size → (H.push cell)[q]? = H[q]? := fun q hq => by rw [Array.getElem?_push, if_neg (Nat.ne_of_lt hq)]
  have hna : jnx h ≠ a := Nat.ne_of_gt hlt
  have hval : ∀ j, j < N → jvk ad h (jkd (jtA 100)) a j = jvk ad (jci (jnw h 100 N) a (jnx h) 0 0 N) (jkd (jtA 100)) (jnx h) j := by
    intro j hj
    show Value.int _ = Value.int _
    simp [jiv, jci, jnw, ju1, va_cpy, hj, Ne.symm hna]
  have hP2 : ad (jnx h) = H.size ∧ jHp D lo ad (jci (jnw h 100 N) a (jnx h) 0 0 N) s (H.push cell) := by
    have had : ad (jnx h) = H.size := by rw [hA.1 _ hP.2.1, hP.1]
    obtain ⟨x1, x2, x3, x4⟩ := hP
    have hltq : ∀ b, b < jnx h → ad b < H.size := by
      intro b hb
      rw [x1]
      by_cases hb2 : jK0 ≤ b
      · rw [hA.1 b hb2]; omega
      · have := hA.2 b (by omega); omega
    have hvv : ∀ b, b ≠ jnx h → ∀ dd j, jvk ad (jci (jnw h 100 N) a (jnx h) 0 0 N) dd b j = jvk ad h dd b j := by
      intro b hb dd j
      unfold jvk
      split <;> simp [jlv, jrv, jiv, jci, jnw, ju1, hb]
    refine ⟨had, by rw [hz, x1]; show _ = lo + (jnx h + 1 - jK0); omega, by show jK0 ≤ jnx h + 1; omega, fun b => ?_, fun q hq' => (x4.1 q hq').kept (fun y hy _ => hq y hy), x4.2.kept (fun y hy _ => hq y hy)⟩
    show ((jsh (jci (jnw h 100 N) a (jnx h) 0 0 N) b).1 < 50 → b < jnx h + 1 ∧ _) ∧ (_ → _ → b < jnx h + 1 ∧ _)
    by_cases hb : b = jnx h
    · subst hb
      have e : jsh (jci (jnw h 100 N) a (jnx h) 0 0 N) (jnx h) = (100, N) := by simp [jsh, jci, jnw]
      rw [e]
      refine ⟨fun g => by simp at g, fun _ _ => ⟨Nat.lt_succ_self _, y0, cell, by rw [had, Array.getElem?_push_size], ⟨(fun k h => by rw [hv0] at h; cases h), kS, hkS, compS, hkindS⟩, y3, y4, y5, fun j hj => ?_, fun _ => ⟨?_, (y7 ha).2⟩⟩⟩
      · rw [y6 j hj, hval j hj]
      · conv => lhs; rw [ea]
        exact arrV_cong (fun j hj => hval j hj)
    · have e : jsh (jci (jnw h 100 N) a (jnx h) 0 0 N) b = jsh h b := by simp [jsh, jci, jnw, hb]
      rw [e]
      refine ⟨fun g => ?_, fun g1 g2 => ?_⟩
      · obtain ⟨y0, q, y1, y2⟩ := (x3 b).1 g
        exact ⟨Nat.lt_succ_of_lt y0, q, y1, (y2.kept (hq _ (hltq b y0))).to (fun j _ => (hvv b hb _ j).symm)⟩
      · obtain ⟨y, y0, cell, y1, y2, y3, y4, y5, y6, y7⟩ := (x3 b).2 g1 g2
        exact ⟨Nat.lt_succ_of_lt y, y0, cell, by rw [hq _ (hltq b y)]; exact y1, y2, y3, y4, y5, fun j hj => by rw [hvv b hb]; exact y6 j hj, fun g => ⟨(y7 g).1.trans (by congr 1; funext j; exact (hvv b hb _ j).symm), (y7 g).2⟩⟩
  obtain ⟨t, a1, b1⟩ := kk p l e R s m args below meth cd D lo ad (H.push cell) locs lA hc2 hV hA hP2.2 hl hL g3.1 g3.2 _ (by rw [← hT]; rfl) X'
  refine ⟨t, step t ?_, b1⟩
  rw [hT, ← hP2.1]
  exact a1
theorem x_castI {idx a N : Nat} (hat : jat M pc = some (.checkcast idx, 3)) (hw : Cond.classLink M.2.1.cls idx "[I" ∈ lw_tbl) (ha : jK0 ≤ a) (hs : jsh h a = (100, N)) (kk : jX M d K S (pc + 3) ls (.ref a :: st) h k n Q) : jX M d K S pc ls (.ref a :: st) h k n Q := by
  intro p l e R s m args below meth cd D lo ad H locs lA hc hV hA hP hl hL g1 g2
  have hc2 := hc
  obtain ⟨c1, c2, c3, c4, c5, c6, c7, c8, c9, c10, c11, c12, c13⟩ := hc
  obtain ⟨y0, cell, y1, y2, y3, y4, y5, y6, y7⟩ := ((hP.2.2.1 a).2 (by rw [hs]; simp) (by rw [hs]; simp)).2
  rw [hs] at y7
  have hv0 : cell.vm.isStatics = false := by rw [(y7 ha).1]; rfl
  have hnm := va_nm_int (y7 ha).2
  exact va_castE c1 c2 c7 (c8 _ (jtb_of hw rfl)) ⟨cell, y1, hv0, hnm⟩ (jok_at c13 hat) (kk p l e R s m args below meth cd D lo ad H locs lA hc2 hV hA hP hl hL g1 g2)
end R8
