/-! answers, calls, a method's contract out of its walk -/
section R5
variable {M : jM} {d K S pc : Nat} {ls : jL} {st : List Value} {h : jH} {k n : Nat} {Q : Option Value → jH → Prop}
theorem x_iret {x : Int32} (hat : jat M pc = some (.ireturn, 1)) (hr : M.2.2.2.2.1 = some .int) (hQ : Q (some (.int x)) h) : jX M d K S pc ls [.int x] h k n Q := by
  intro p l e R s m args below meth cd D lo ad H locs lA hc hV hA hP hl hL g1 g2
  obtain ⟨c1, c2, c3, c4, c5, c6, c7, c8, c9, c10, c11, c12, c13⟩ := hc
  exact W.widen g1 g2 (W.iret (v := x) c1 c2 (c4.trans hr) (fun t ht hW => ⟨some (.int x), h, rfl, hQ, by rw [ht]; exact hP.moved hW.alike⟩) hL (jok_at c13 hat) c5)
theorem x_zret {x : Int32} (hat : jat M pc = some (.ireturn, 1)) (hr : M.2.2.2.2.1 = some .boolean) (hx : x = 0 ∨ x = 1) (hQ : Q (some (.int x)) h) : jX M d K S pc ls [.int x] h k n Q := by
  intro p l e R s m args below meth cd D lo ad H locs lA hc hV hA hP hl hL g1 g2
  obtain ⟨c1, c2, c3, c4, c5, c6, c7, c8, c9, c10, c11, c12, c13⟩ := hc
  exact W.widen g1 g2 (W.zret (v := x) c1 c2 (c4.trans hr) (by rcases hx with rfl | rfl <;> rfl) (fun t ht hW => ⟨some (.int x), h, rfl, hQ, by rw [ht]; exact hP.moved hW.alike⟩) hL (jok_at c13 hat) c5)
theorem x_lret {x : Int64} (hat : jat M pc = some (.lreturn, 1)) (hr : M.2.2.2.2.1 = some .long) (hQ : Q (some (.long x)) h) : jX M d K S pc ls [.long x] h k n Q := by
  intro p l e R s m args below meth cd D lo ad H locs lA hc hV hA hP hl hL g1 g2
  obtain ⟨c1, c2, c3, c4, c5, c6, c7, c8, c9, c10, c11, c12, c13⟩ := hc
  exact W.widen g1 g2 (W.lret (v := x) c1 c2 (c4.trans hr) (fun t ht hW => ⟨some (.long x), h, rfl, hQ, by rw [ht]; exact hP.moved hW.alike⟩) hL (jok_at c13 hat) c5)
theorem x_vret (hat : jat M pc = some (.return_, 1)) (hr : M.2.2.2.2.1 = none) (hQ : Q none h) : jX M d K S pc ls [] h k n Q := by
  intro p l e R s m args below meth cd D lo ad H locs lA hc hV hA hP hl hL g1 g2
  obtain ⟨c1, c2, c3, c4, c5, c6, c7, c8, c9, c10, c11, c12, c13⟩ := hc
  exact W.widen g1 g2 (W.vret c1 c2 (c4.trans hr) (fun t ht hW => ⟨none, h, rfl, hQ, by rw [ht]; exact hP.moved hW.alike⟩) hL (jok_at c13 hat) c5)
theorem x_aret {v : Value} {rt : FieldType} (hat : jat M pc = some (.areturn, 1)) (hr : M.2.2.2.2.1 = some rt) (hrt : jkd rt = 1) (hv : v = .null ∨ ∃ a, v = .ref a) (hQ : Q (some v) h) : jX M d K S pc ls [v] h k n Q := by
  intro p l e R s m args below meth cd D lo ad H locs lA hc hV hA hP hl hL g1 g2
  obtain ⟨c1, c2, c3, c4, c5, c6, c7, c8, c9, c10, c11, c12, c13⟩ := hc
  refine W.widen g1 g2 (W.aret (v := jv ad v) c1 c2 (c4.trans hr) ?_ ?_ (fun t ht hW => ⟨some v, h, rfl, hQ, by rw [ht]; exact hP.moved hW.alike⟩) hL (jok_at c13 hat) c5)
  · cases rt <;> first | (cases hrt; done) | exact Or.inl ⟨_, rfl⟩ | exact Or.inr ⟨_, rfl⟩
  · rcases hv with rfl | ⟨a, rfl⟩
    · exact Or.inl rfl
    · exact Or.inr ⟨_, rfl⟩
theorem jV.warm {D : va_G} {ad : Nat → Nat} {s U : State} (hW : s.WarmedH U.vm) (x : jV D ad s) : jV D ad U := by
  obtain ⟨x1, x2, x3, x4, x5, x6⟩ := x
  refine ⟨x1.moved hW.alike, fun w hw => ?_, fun q hq => (x3 q hq).warm hW, x4.moved hW.alike, x5.moved hW.alike, x6.warmC hW⟩
  have hx := x2 w hw
  have hw2 := (List.mem_filter.mp hw).2
  cases w <;> first | (cases hw2; done) | exact va_Nw.warmM hW hx | exact va_Nw.warmF hW hx
theorem jargs {ad : Nat → Nat} : ∀ (vs : List Value) (i : Nat), lv_args i (vs.map (jv ad)) = jlm ad (lv_args i vs) := by
  intro vs
  induction vs with
  | nil => intro i; rfl
  | cons v vs ih =>
    intro i
    show (i, jv ad v) :: lv_args _ _ = (i, jv ad v) :: jlm ad _
    rw [ih, jv_cat]
theorem jsl_len {ad : Nat → Nat} : ∀ (vs : List Value), (lg_sl (vs.map (jv ad))).length = (lg_sl vs).length := by
  intro vs
  induction vs with
  | nil => rfl
  | cons v vs ih =>
    have e : ∀ (w : Value) (ws : List Value), (lg_sl (w :: ws)).length = (if w.category = 2 then 2 else 1) + (lg_sl ws).length := by
      intro w ws
      unfold lg_sl
      rw [List.flatMap_cons, List.length_append]
      split <;> rfl
    rw [List.map_cons, e, e, jv_cat, ih]
/-- the contract of a method out of its walk from its first instruction on -/
theorem jC.of {vs : List Value} (hy : plainName M.2.1.cls = true) (hok : jok M) (hlen : Nat.ble (lg_sl vs).length M.2.2.2.1 = true) (hX : jX M d K S 0 (lv_args 0 vs) [] h 0 0 Q) : jC M d K S vs h Q := by
  intro l D lo ad hA
  refine Met.ofW (cc := M.2.2.1) (maxL := M.2.2.2.1) (ret := M.2.2.2.2.1) hy rfl ?_
  intro p e s m args below meth c s₁ B hml hv
  obtain ⟨rfl, hV, hP⟩ := hv
  have hts := atoms_spec (ws := jws M) B.pre
  rw [lg_entry_eq]
  have hl := lv_entry (vs.map (jv ad)) (n := M.2.2.2.1) (by rw [jsl_len]; exact Nat.ble_eq.mp hlen)
  rw [jargs] at hl
  exact hX p l e (jrm d K S) s m _ below meth c D lo ad s.heap [] _ ⟨B.exec, B.bytes, hml, B.returns, B.notSynchronized, (name_of_methodNamed B.named B.method).1, findClass_of_methodNamed B.named, fun w hw => hts w (List.mem_cons_of_mem _ hw), Nat.le_refl _, Nat.le_refl _, rfl, rfl, hok⟩ hV hA hP hl (fun q h => by cases h) (Nat.zero_le _) (Nat.zero_le _)
/-- what the tables say of a method that is called: its code, its class, its arguments -/
def jMt (N : jM) (na : Nat) : Prop := (Cond.code N.2.1 N.2.2.1 N.2.2.2.1 N.2.2.2.2.1 ∈ lw_tbl ∧ Cond.initialized N.2.1.cls ∈ lw_tbl) ∧ N.2.1.cls ≠ "java/lang/invoke/MethodHandle" ∧ N.2.1.cls ≠ "java/lang/invoke/VarHandle" ∧ (parseMethodDescriptor N.2.1.desc).map (fun d => d.parameters.length) = some na
theorem jgood {N : jM} {na : Nat} (hN : jMt N na) : GoodIn jtb (jws N) := by
  intro w hw
  rcases List.mem_cons.mp hw with rfl | hw
  · exact ⟨jtb_of hN.1.1 rfl, good_of_word rfl⟩
  · exact ⟨hw, good_of_word (List.mem_filter.mp hw).2⟩
/-- behind a call -/
theorem jback {p : Program} {l : Launch} {e : Env} {R : Room} {s : State} {m : MethodId} {args : Array Value} {below : List Frame} {meth : Method} {c : Code} {D : va_G} {lo : Nat} {ad : Nat → Nat} {H : Heap} {locs : List Loc} {lA : Array Slot} {dx9 mc ms : Nat} {stA : List Value} {a : Array Value}
    (hc : jcx p R s m args meth c M d K S) (hV : jV D ad s) (hA : jAd lo ad) (hl : lv_has lA M.2.2.2.1 (jlm ad ls)) (hL : ∀ q ∈ locs, lo ≤ q.base) (g1 : k + mc ≤ K) (g2 : n + ms ≤ S)
    (run : va_Run p l e R s m args below meth c H locs k n mc ms (F0 m pc lA stA) (st.map (jv ad)) (jQc D lo ad (fun r hx9 => jX M d K S (pc + 3) ls (r.toList ++ st) hx9 (k + mc) (n + ms) Q) a) (fun q => lo ≤ q)) :
    W p l e R s m args below meth c H locs k n (MQ below (jQc D lo ad Q) args s K S (fun q => lo ≤ q)) (F0 m pc lA stA) := by
  intro T hT X
  obtain ⟨v, st0, t, T', L, h0, X', hL', e1, e2, ⟨r, hx9, hr, hQ', hP'⟩, go⟩ := run T hT X
  have hv : v = r.map (jv ad) := Outcome.returned.inj hr
  subst hv
  have hP2 : jHp D lo ad hx9 s T'.heap := by
    rw [e1]
    refine hP'.moved ?_
    rw [← e2]
    exact X'.warmed.alike.symm
  obtain ⟨t2, a1, b1⟩ := hQ' p l e R s m args below meth c D lo ad T'.heap (locs ++ L) lA hc hV hA hP2 hl (t_lL hL hL') g1 g2 T' rfl X'
  refine ⟨t2, go t2 ?_, b1⟩
  have e3 : (r.toList ++ st).map (jv ad) = (r.map (jv ad)).toList ++ st.map (jv ad) := by cases r <;> rfl
  rw [e3] at a1
  exact a1
theorem jblind {D : va_G} {lo : Nat} {ad : Nat → Nat} {vs : List Value} : FrameBlind (fun v U => v = (vs.map (jv ad)).toArray ∧ jV D ad U ∧ jHp D lo ad h U U.heap) := by
  intro a U g mk x
  obtain ⟨x1, ⟨x2, x3, x4, x6, x7, x8⟩, x5⟩ := x
  refine ⟨x1, ⟨va_K.moved (u := U) (U := U.calling g mk a) (Vm.Alike.refl U.vm) x2, fun w hw => ?_, fun q hq => (x4 q hq).same rfl, va_AO.moved (u := U) (U := U.calling g mk a) (Vm.Alike.refl U.vm) x6, va_AO.moved (u := U) (U := U.calling g mk a) (Vm.Alike.refl U.vm) x7, va_Nw.same (u := U) rfl rfl x8⟩, jHp.moved (u := U) (U := U.calling g mk a) (Vm.Alike.refl U.vm) x5⟩
  have hw2 := (List.mem_filter.mp hw).2
  refine va_Nw.same (u := U) ?_ rfl (x3 w hw)
  cases w <;> first | (cases hw2; done) | rfl
theorem x_inv {idx dx9 mc ms b na : Nat} {N : jM} {As : List Value} {host : String} (c : Nat) (hat : jat M pc = some (.invokevirtual idx, 3)) (hN : jMt N na)
    (hlk : (Cond.methodLink M.2.1.cls idx N.2.1 ∈ lw_tbl ∨ Cond.methodLinkNest M.2.1.cls idx N.2.1 host ∈ jnst) ∧ Cond.instanceMethod N.2.1 ∈ lw_tbl ∧ Cond.selects N.2.1.cls N.2.1 N.2.1 ∈ lw_tbl)
    (hcl : c < 50 ∧ (vwCl[c]?).map (fun q => q.1) = some N.2.1.cls) (hs : (jsh h b).1 = c) (hn : As.length = na) (hd : dx9 + 1 ≤ d) (hml : Nat.ble N.2.2.2.1 45 = true) (hst : Nat.ble (st.map fun v => v.category).sum 8 = true) (g3 : k + mc ≤ K ∧ n + ms ≤ S)
    (kk : jC N dx9 mc ms (.ref b :: As) h (fun r hx9 => jX M d K S (pc + 3) ls (r.toList ++ st) hx9 (k + mc) (n + ms) Q)) : jX M d K S pc ls (As.reverse ++ .ref b :: st) h k n Q := by
  intro p l e R s m args below meth cd D lo ad H locs lA hc hV hA hP hl hL g1 g2
  have hc2 := hc
  obtain ⟨c1, c2, c3, c4, c5, c6, c7, c8, c9, c10, c11, c12, c13⟩ := hc
  have hml := Nat.ble_eq.mp hml
  have hst := Nat.ble_eq.mp hst
  subst hs
  obtain ⟨q, y1, cell, z1, z2, z3, z4⟩ := ((hP.2.2.1 b).1 hcl.1).2
  have hq1 : q.1 = N.2.1.cls := by
    have := hcl.2
    rw [y1] at this
    exact Option.some.inj this
  have hcls := (hV.1.1 _ _ y1).2.1
  rw [hq1] at hcls
  refine jback (dx9 := dx9) (st := st) (a := (Value.ref (ad b) :: As.map (jv ad)).toArray) hc2 hV hA hl hL g3.1 g3.2 ?_
  have hst2 : 2 * (F0 m pc lA ((As.reverse ++ .ref b :: st).map (jv ad))).monitorRoom + ((st.map (jv ad)).map fun v => v.category).sum ≤ 8 := by
    refine lv_room ?_
    rw [List.map_map]
    have e2 : ((fun v => v.category) ∘ jv ad) = fun v : Value => v.category := by funext v; exact jv_cat ad v
    rw [e2]; exact hst
  have hpre : PreV s H N.2.1.cls (ad b) (fun v U => v = ((Value.ref b :: As).map (jv ad)).toArray ∧ jV D ad U ∧ jHp D lo ad h U U.heap) (As.map (jv ad)) :=
    ⟨jblind, ⟨cell, z1, by rw [z3]; rfl, by rw [z2]; exact hcls⟩, fun U hU hW => ⟨rfl, hV.warm hW, by rw [hU]; exact hP.moved hW.alike⟩⟩
  have hok : ∀ w, w ∈ lw_tbl → goodWord w = true → w.before args s = true := fun w h1 h2 => c8 w (jtb_of h1 h2)
  have hroom : (jrm dx9 mc ms).frames + 1 ≤ R.frames ∧ 8 + (N.2.2.2.1 + 11) + (jrm dx9 mc ms).locals ≤ R.locals := by
    unfold jrm
    dsimp only
    constructor <;> omega
  have hstk : (F0 m pc lA ((As.reverse ++ .ref b :: st).map (jv ad))).stack = (As.map (jv ad)).reverse ++ .ref (ad b) :: st.map (jv ad) := by
    show (As.reverse ++ .ref b :: st).map (jv ad) = _
    rw [List.map_append, List.map_reverse]
    rfl
  rcases hlk.1 with hm | hm
  · exact va_runV (cc := M.2.2.1) (nL := M.2.2.2.1) (own := M.2.1.cls) (C := N.2.1.cls) (b := ad b) ⟨c1, c2, c3, c7, c8⟩ (kk l D lo ad hA) ⟨callB_of na c8 (jgood hN) rfl rfl rfl (hok _ hN.1.2 rfl) (hok _ hm rfl) hN.2 hroom, hok _ hlk.2.1 rfl, hok _ hlk.2.2 rfl⟩ hpre rfl (by rw [List.length_map]; exact hn) hl.1 hstk hst2 (jok_at c13 hat) (by rw [c11, c12]; exact g3)
  · exact va_runVN (cc := M.2.2.1) (nL := M.2.2.2.1) (own := M.2.1.cls) (C := N.2.1.cls) (b := ad b) ⟨c1, c2, c3, c7, c8⟩ (kk l D lo ad hA) ⟨va_cnB na c8 (jgood hN) rfl rfl rfl (hV.2.1 _ hm) (hok _ hN.1.2 rfl) hN.2 hroom, hok _ hlk.2.1 rfl, hok _ hlk.2.2 rfl⟩ hpre rfl (by rw [List.length_map]; exact hn) hl.1 hstk hst2 (jok_at c13 hat) (by rw [c11, c12]; exact g3)
theorem x_ins {idx dx9 mc ms b na : Nat} {N : jM} {As : List Value} {host : String} (hat : jat M pc = some (.invokespecial idx, 3)) (hN : jMt N na)
    (hlk : (Cond.methodLink M.2.1.cls idx N.2.1 ∈ lw_tbl ∨ Cond.methodLinkNest M.2.1.cls idx N.2.1 host ∈ jnst) ∧ Cond.instanceMethod N.2.1 ∈ lw_tbl ∧ N.2.1.name = "<init>" ∧ N.2.2.2.2.1 = none)
    (hn : As.length = na) (hd : dx9 + 1 ≤ d) (hml : Nat.ble N.2.2.2.1 45 = true) (hst : Nat.ble (st.map fun v => v.category).sum 8 = true) (g3 : k + mc ≤ K ∧ n + ms ≤ S)
    (kk : jC N dx9 mc ms (.ref b :: As) h (fun r hx9 => jX M d K S (pc + 3) ls (r.toList ++ st) hx9 (k + mc) (n + ms) Q)) : jX M d K S pc ls (As.reverse ++ .ref b :: st) h k n Q := by
  intro p l e R s m args below meth cd D lo ad H locs lA hc hV hA hP hl hL g1 g2
  have hc2 := hc
  obtain ⟨c1, c2, c3, c4, c5, c6, c7, c8, c9, c10, c11, c12, c13⟩ := hc
  have hml := Nat.ble_eq.mp hml
  have hst := Nat.ble_eq.mp hst
  refine jback (dx9 := dx9) (st := st) (a := (Value.ref (ad b) :: As.map (jv ad)).toArray) hc2 hV hA hl hL g3.1 g3.2 ?_
  have hst2 : 2 * (F0 m pc lA ((As.reverse ++ .ref b :: st).map (jv ad))).monitorRoom + ((st.map (jv ad)).map fun v => v.category).sum ≤ 8 := by
    refine lv_room ?_
    rw [List.map_map]
    have e2 : ((fun v => v.category) ∘ jv ad) = fun v : Value => v.category := by funext v; exact jv_cat ad v
    rw [e2]; exact hst
  have hpre : PreS s H (fun v U => v = ((Value.ref b :: As).map (jv ad)).toArray ∧ jV D ad U ∧ jHp D lo ad h U U.heap) (.ref (ad b) :: As.map (jv ad)) :=
    ⟨jblind, fun U hU hW => ⟨rfl, hV.warm hW, by rw [hU]; exact hP.moved hW.alike⟩⟩
  have hok : ∀ w, w ∈ lw_tbl → goodWord w = true → w.before args s = true := fun w h1 h2 => c8 w (jtb_of h1 h2)
  have hroom : (jrm dx9 mc ms).frames + 1 ≤ R.frames ∧ 8 + (N.2.2.2.1 + 11) + (jrm dx9 mc ms).locals ≤ R.locals := by
    unfold jrm
    dsimp only
    constructor <;> omega
  have hstk : (F0 m pc lA ((As.reverse ++ .ref b :: st).map (jv ad))).stack = (As.map (jv ad)).reverse ++ .ref (ad b) :: st.map (jv ad) := by
    show (As.reverse ++ .ref b :: st).map (jv ad) = _
    rw [List.map_append, List.map_reverse]
    rfl
  have hws : jws N = Cond.code N.2.1 N.2.2.1 N.2.2.2.1 none :: jtb := by unfold jws; rw [hlk.2.2.2]
  rcases hlk.1 with hm | hm
  · exact va_runI (cc := M.2.2.1) (nL := M.2.2.2.1) (own := M.2.1.cls) (b := ad b) ⟨c1, c2, c3, c7, c8⟩ (kk l D lo ad hA) ⟨callB_of na c8 (jgood hN) hws rfl rfl (hok _ hN.1.2 rfl) (hok _ hm rfl) hN.2 hroom, hlk.2.2.1, hok _ hlk.2.1 rfl⟩ hpre rfl (by rw [List.length_map]; exact hn) hl.1 hstk hst2 (jok_at c13 hat) (by rw [c11, c12]; exact g3)
  · exact va_runIN (cc := M.2.2.1) (nL := M.2.2.2.1) (own := M.2.1.cls) (b := ad b) ⟨c1, c2, c3, c7, c8⟩ (kk l D lo ad hA) ⟨va_cnB na c8 (jgood hN) hws rfl rfl (hV.2.1 _ hm) (hok _ hN.1.2 rfl) hN.2 hroom, hlk.2.2.1, hok _ hlk.2.1 rfl⟩ hpre rfl (by rw [List.length_map]; exact hn) hl.1 hstk hst2 (jok_at c13 hat) (by rw [c11, c12]; exact g3)
theorem x_inst {idx dx9 mc ms na : Nat} {N : jM} {As : List Value} {host : String} (hat : jat M pc = some (.invokestatic idx, 3)) (hN : jMt N na)
    (hlk : (Cond.methodLink M.2.1.cls idx N.2.1 ∈ lw_tbl ∨ Cond.methodLinkNest M.2.1.cls idx N.2.1 host ∈ jnst) ∧ Cond.static N.2.1 ∈ lw_tbl)
    (hn : As.length = na) (hd : dx9 + 1 ≤ d) (hml : Nat.ble N.2.2.2.1 45 = true) (hst : Nat.ble (st.map fun v => v.category).sum 8 = true) (g3 : k + mc ≤ K ∧ n + ms ≤ S)
    (kk : jC N dx9 mc ms As h (fun r hx9 => jX M d K S (pc + 3) ls (r.toList ++ st) hx9 (k + mc) (n + ms) Q)) : jX M d K S pc ls (As.reverse ++ st) h k n Q := by
  intro p l e R s m args below meth cd D lo ad H locs lA hc hV hA hP hl hL g1 g2
  have hc2 := hc
  obtain ⟨c1, c2, c3, c4, c5, c6, c7, c8, c9, c10, c11, c12, c13⟩ := hc
  have hml := Nat.ble_eq.mp hml
  have hst := Nat.ble_eq.mp hst
  refine jback (dx9 := dx9) (st := st) (a := (As.map (jv ad)).toArray) hc2 hV hA hl hL g3.1 g3.2 ?_
  have hst2 : 2 * (F0 m pc lA ((As.reverse ++ st).map (jv ad))).monitorRoom + ((st.map (jv ad)).map fun v => v.category).sum ≤ 8 := by
    refine lv_room ?_
    rw [List.map_map]
    have e2 : ((fun v => v.category) ∘ jv ad) = fun v : Value => v.category := by funext v; exact jv_cat ad v
    rw [e2]; exact hst
  have hpre : PreS s H (fun v U => v = (As.map (jv ad)).toArray ∧ jV D ad U ∧ jHp D lo ad h U U.heap) (As.map (jv ad)) :=
    ⟨jblind, fun U hU hW => ⟨rfl, hV.warm hW, by rw [hU]; exact hP.moved hW.alike⟩⟩
  have hok : ∀ w, w ∈ lw_tbl → goodWord w = true → w.before args s = true := fun w h1 h2 => c8 w (jtb_of h1 h2)
  have hroom : (jrm dx9 mc ms).frames + 1 ≤ R.frames ∧ 8 + (N.2.2.2.1 + 11) + (jrm dx9 mc ms).locals ≤ R.locals := by
    unfold jrm
    dsimp only
    constructor <;> omega
  have hstk : (F0 m pc lA ((As.reverse ++ st).map (jv ad))).stack = (As.map (jv ad)).reverse ++ st.map (jv ad) := by
    show (As.reverse ++ st).map (jv ad) = _
    rw [List.map_append, List.map_reverse]
  rcases hlk.1 with hm | hm
  · exact va_runS (cc := M.2.2.1) (nL := M.2.2.2.1) (own := M.2.1.cls) ⟨c1, c2, c3, c7, c8⟩ (kk l D lo ad hA) ⟨callB_of na c8 (jgood hN) rfl rfl rfl (hok _ hN.1.2 rfl) (hok _ hm rfl) hN.2 hroom, hok _ hlk.2 rfl⟩ hpre rfl (by rw [List.length_map]; exact hn) hl.1 hstk hst2 (jok_at c13 hat) (by rw [c11, c12]; exact g3)
  · exact va_runSN (cc := M.2.2.1) (nL := M.2.2.2.1) (own := M.2.1.cls) ⟨c1, c2, c3, c7, c8⟩ (kk l D lo ad hA) ⟨va_cnB na c8 (jgood hN) rfl rfl rfl (hV.2.1 _ hm) (hok _ hN.1.2 rfl) hN.2 hroom, hok _ hlk.2 rfl, trivial⟩ hpre rfl (by rw [List.length_map]; exact hn) hl.1 hstk hst2 (jok_at c13 hat) (by rw [c11, c12]; exact g3)
end R5
