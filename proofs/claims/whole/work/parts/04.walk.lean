/-! A METHOD: its class's number, name, bytes, locals, answer's type, instructions. jX: from pc on, with the locals, the stack and the heap told, it comes to an end with Q of the answer and the heap behind. d: how many calls may be open above it; K, S: cells and slots that it may make, k, n: made so far. -/
abbrev jM : Type := Nat × MethodName × ByteArray × Nat × Option FieldType × List (List (Nat × Instr × Nat))
/-- instructions lie in rows of 32 bytes -/
def jat (M : jM) (pc : Nat) : Option (Instr × Nat) := (M.2.2.2.2.2.getD (pc / 32) []).lookup pc
def jtb : List Cond := lw_tbl.filter goodWord
theorem jtb_of {w : Cond} (h : w ∈ lw_tbl) (g : goodWord w = true) : w ∈ jtb := List.mem_filter.mpr ⟨h, g⟩
theorem jtb_in {w : Cond} (h : w ∈ jtb) : w ∈ lw_tbl := (List.mem_filter.mp h).1
def jok (M : jM) : Prop := ∀ b ∈ M.2.2.2.2.2, ∀ q ∈ b, decode M.2.2.1 q.1 = .ok q.2
def jokL (c : ByteArray) (L : List (List (Nat × Instr × Nat))) : Bool := L.all (fun b => b.all (fun q => decide (decode c q.1 = .ok q.2)))
theorem jokL_of {c : ByteArray} {L : List (List (Nat × Instr × Nat))} (h : jokL c L = true) : ∀ b ∈ L, ∀ q ∈ b, decode c q.1 = .ok q.2 := fun b hb q hq => of_decide_eq_true (List.all_eq_true.mp (List.all_eq_true.mp h b hb) q hq)
theorem jlk_mem {α : Type} {k : Nat} {v : α} : ∀ {L : List (Nat × α)}, L.lookup k = some v → (k, v) ∈ L := by
  intro L
  induction L with
  | nil => intro q; cases q
  | cons a L ih =>
    intro q
    obtain ⟨a1, a2⟩ := a
    rw [List.lookup_cons] at q
    by_cases e : k = a1
    · subst e
      simp at q
      subst q
      exact List.mem_cons_self
    · have e2 : (k == a1) = false := by simpa using e
      rw [e2] at q
      exact List.mem_cons_of_mem _ (ih q)
theorem jok_at {M : jM} (h : jok M) {pc : Nat} {i : Instr} {n : Nat} (g : jat M pc = some (i, n)) : decode M.2.2.1 pc = .ok (i, n) := by
  have m := jlk_mem g
  have hb : (M.2.2.2.2.2.getD (pc / 32) []) ∈ M.2.2.2.2.2 := by
    rw [List.getD_eq_getElem?_getD]
    cases e : M.2.2.2.2.2[pc / 32]? with
    | none => rw [List.getD_eq_getElem?_getD, e] at m; cases m
    | some b => exact List.mem_of_getElem? e
  have e := h _ hb _ m
  exact e
/-- what the class tables of a state give at all times: classes, nest mates' links, texts -/
def jnst : List Cond := lw_tbl.filter (fun w => match w with | .methodLinkNest _ _ _ _ => true | .fieldLinkNest _ _ _ _ _ _ => true | _ => false)
def jstr : List (String × Nat × String × Nat) := [("ParishChest$Clerk", 65, "belong exempt rate relief badge turn fee seat strike ", 5), ("ParishChest$Clerk", 103, "clause ", 6), ("ParishChest$Clerk", 105, "birth hire rent office wed parents ", 7), ("ParishChest$Clerk", 111, "church way poor ", 8), ("ParishChest$Clerk", 113, "constable surveyor overseer warden ", 9), ("ParishChest$Clerk", 115, "bell grave wedding ", 10), ("ParishChest$Clerk", 148, "age children value years relieved ", 11), ("ParishChest$Clerk", 92, "if ", 12), ("ParishChest$Clerk", 94, "unless ", 13), ("ParishChest$Clerk", 134, "not ", 14), ("ParishChest$Clerk", 136, "married dead poor holds certified ", 15), ("ParishChest$Clerk", 127, "and ", 16), ("ParishChest$Clerk", 132, "or ", 17)]
def jV (D : va_G) (ad : Nat → Nat) (U : State) : Prop := va_K D vwCl [] U ∧ (∀ w ∈ jnst, va_Nw w U) ∧ (∀ q ∈ jstr, vk_R q.1 q.2.1 q.2.2.1 (ad q.2.2.2) U) ∧ va_AO "ParishChest$Chest" U ∧ va_AO "ParishChest$Text" U ∧ va_Nw (.castable "[I" "java/lang/Cloneable") U
def jcx (p : Program) (R : Room) (s : State) (m : MethodId) (args : Array Value) (meth : Method) (c : Code) (M : jM) (d K S : Nat) : Prop :=
  p.tables.exec = Jvm.exec ∧ c.code = M.2.2.1 ∧ c.maxLocals = M.2.2.2.1 ∧ meth.sig.returnType = M.2.2.2.2.1 ∧ meth.locks = false ∧ meth.name = M.2.1.name ∧ s.vm.findClass M.2.1.cls = some m.cls ∧ (∀ w ∈ jtb, w.before args s = true) ∧ d ≤ R.frames ∧ 64 * d ≤ R.locals ∧ R.cells = K ∧ R.slots = S ∧ jok M
def jQc (D : va_G) (lo : Nat) (ad : Nat → Nat) (Q : Option Value → jH → Prop) : Array Value → State → Outcome → State → Prop := fun _ _ o t => ∃ (r : Option Value) (hx9 : jH), o = .returned (r.map (jv ad)) ∧ Q r hx9 ∧ jHp D lo ad hx9 t t.heap
abbrev jL : Type := List (Nat × Value)
def jlm (ad : Nat → Nat) (ls : jL) : jL := ls.map (fun q => (q.1, jv ad q.2))
def jX (M : jM) (d K S : Nat) (pc : Nat) (ls : jL) (st : List Value) (h : jH) (k n : Nat) (Q : Option Value → jH → Prop) : Prop :=
  ∀ (p : Program) (l : Launch) (e : Env) (R : Room) (s : State) (m : MethodId) (args : Array Value) (below : List Frame) (meth : Method) (c : Code) (D : va_G) (lo : Nat) (ad : Nat → Nat) (H : Heap) (locs : List Loc) (lA : Array Slot),
    jcx p R s m args meth c M d K S → jV D ad s → jAd lo ad → jHp D lo ad h s H → lv_has lA M.2.2.2.1 (jlm ad ls) → (∀ q ∈ locs, lo ≤ q.base) → k ≤ K → n ≤ S →
    W p l e R s m args below meth c H locs k n (MQ below (jQc D lo ad Q) args s K S (fun q => lo ≤ q)) (F0 m pc lA (st.map (jv ad)))
/-- a method's contract -/
def jrm (d K S : Nat) : Room := { frames := d, cells := K, slots := S, locals := 64 * d }
def jws (M : jM) : List Cond := Cond.code M.2.1 M.2.2.1 M.2.2.2.1 M.2.2.2.2.1 :: jtb
def jC (M : jM) (d K S : Nat) (vs : List Value) (h : jH) (Q : Option Value → jH → Prop) : Prop :=
  ∀ (l : Launch) (D : va_G) (lo : Nat) (ad : Nat → Nat), jAd lo ad → Met l M.2.1 (jws M) (jrm d K S) (fun v U => v = (vs.map (jv ad)).toArray ∧ jV D ad U ∧ jHp D lo ad h U U.heap) (jQc D lo ad Q) K S (fun q => lo ≤ q)
/-- a step that touches neither heap nor room -/
theorem jX.go {M : jM} {d K S pc pc' : Nat} {ls lsx9 : jL} {st st' : List Value} {h : jH} {k n : Nat} {Q : Option Value → jH → Prop}
    (g : ∀ (p : Program) (l : Launch) (e : Env) (R : Room) (s : State) (m : MethodId) (args : Array Value) (below : List Frame) (meth : Method) (c : Code) (ad : Nat → Nat) (H : Heap) (locs : List Loc) (lA : Array Slot) (Z : State → Prop),
      p.tables.exec = Jvm.exec → c.code = M.2.2.1 → (∀ w ∈ jtb, w.before args s = true) → s.vm.findClass M.2.1.cls = some m.cls → jok M → lv_has lA M.2.2.2.1 (jlm ad ls) →
      (∀ lB : Array Slot, lv_has lB M.2.2.2.1 (jlm ad lsx9) → W p l e R s m args below meth c H locs k n Z (F0 m pc' lB (st'.map (jv ad)))) → W p l e R s m args below meth c H locs k n Z (F0 m pc lA (st.map (jv ad))))
    (kk : jX M d K S pc' lsx9 st' h k n Q) : jX M d K S pc ls st h k n Q := by
  intro p l e R s m args below meth c D lo ad H locs lA hc hV hA hP hl hL h1 h2
  have hc2 := hc
  obtain ⟨c1, c2, c3, c4, c5, c6, c7, c8, c9, c10, c11, c12, c13⟩ := hc
  exact g p l e R s m args below meth c ad H locs lA _ c1 c2 c8 c7 c13 hl (fun lB hB => kk p l e R s m args below meth c D lo ad H locs lB hc2 hV hA hP hB hL h1 h2)
section R1
variable {M : jM} {d K S pc : Nat} {ls : jL} {st : List Value} {h : jH} {k n : Nat} {Q : Option Value → jH → Prop}
theorem x_iconst {i : Int} {v : Int32} (hat : jat M pc = some (.iconst i, 1)) (hv : Int32.ofInt i = v) (kk : jX M d K S (pc + 1) ls (.int v :: st) h k n Q) : jX M d K S pc ls st h k n Q :=
  jX.go (fun p l e R s m args below meth c ad H locs lA Z c1 c2 c8 c7 c13 hl g => lv_iconst c1 c2 (jok_at c13 hat) hv (g lA hl)) kk
theorem x_bipush {i : Int} {v : Int32} (hat : jat M pc = some (.bipush i, 2)) (hv : (Int8.ofInt i).toInt32 = v) (kk : jX M d K S (pc + 2) ls (.int v :: st) h k n Q) : jX M d K S pc ls st h k n Q :=
  jX.go (fun p l e R s m args below meth c ad H locs lA Z c1 c2 c8 c7 c13 hl g => lv_bipush c1 c2 (jok_at c13 hat) hv (g lA hl)) kk
theorem x_sipush {i : Int} {v : Int32} (hat : jat M pc = some (.sipush i, 3)) (hv : (Int16.ofInt i).toInt32 = v) (kk : jX M d K S (pc + 3) ls (.int v :: st) h k n Q) : jX M d K S pc ls st h k n Q :=
  jX.go (fun p l e R s m args below meth c ad H locs lA Z c1 c2 c8 c7 c13 hl g => lv_sipush c1 c2 (jok_at c13 hat) hv (g lA hl)) kk
theorem x_lconst {i : Fin 2} {v : Int64} (hat : jat M pc = some (.lconst i, 1)) (hv : Int64.ofNat (i : Nat) = v) (kk : jX M d K S (pc + 1) ls (.long v :: st) h k n Q) : jX M d K S pc ls st h k n Q :=
  jX.go (fun p l e R s m args below meth c ad H locs lA Z c1 c2 c8 c7 c13 hl g => lv_lconst c1 c2 (jok_at c13 hat) hv (g lA hl)) kk
theorem x_null (hat : jat M pc = some (.aconst_null, 1)) (kk : jX M d K S (pc + 1) ls (.null :: st) h k n Q) : jX M d K S pc ls st h k n Q :=
  jX.go (fun p l e R s m args below meth c ad H locs lA Z c1 c2 c8 c7 c13 hl g => lv_null c1 c2 (jok_at c13 hat) (g lA hl)) kk
theorem x_ldc {i : Nat} {v : Int32} (hat : jat M pc = some (.ldc i, 2)) (hw : Cond.constant M.2.1.cls i v ∈ jtb) (kk : jX M d K S (pc + 2) ls (.int v :: st) h k n Q) : jX M d K S pc ls st h k n Q :=
  jX.go (fun p l e R s m args below meth c ad H locs lA Z c1 c2 c8 c7 c13 hl g => lv_ldc c1 c2 c7 (c8 _ hw) (jok_at c13 hat) (g lA hl)) kk
theorem x_ldcw {i : Nat} {v : Int32} (hat : jat M pc = some (.ldc_w i, 3)) (hw : Cond.constant M.2.1.cls i v ∈ jtb) (kk : jX M d K S (pc + 3) ls (.int v :: st) h k n Q) : jX M d K S pc ls st h k n Q :=
  jX.go (fun p l e R s m args below meth c ad H locs lA Z c1 c2 c8 c7 c13 hl g => lv_ldcw c1 c2 c7 (c8 _ hw) (jok_at c13 hat) (g lA hl)) kk
theorem x_ldc2 {i : Nat} {v : Int64} (hat : jat M pc = some (.ldc2_w i, 3)) (hw : Cond.constantLong M.2.1.cls i v ∈ jtb) (kk : jX M d K S (pc + 3) ls (.long v :: st) h k n Q) : jX M d K S pc ls st h k n Q :=
  jX.go (fun p l e R s m args below meth c ad H locs lA Z c1 c2 c8 c7 c13 hl g => lv_ldc2 c1 c2 c7 (c8 _ hw) (jok_at c13 hat) (g lA hl)) kk
theorem jl_at {ad : Nat → Nat} {ls : jL} {i : Nat} {v : Value} {lA : Array Slot} {nL : Nat} (hl : lv_has lA nL (jlm ad ls)) (h : ls.lookup i = some v) : lA[i]? = some (.val (jv ad v)) :=
  hl.2.2 (i, jv ad v) (List.mem_map.mpr ⟨(i, v), jlk_mem h, rfl⟩)
theorem x_iload {i : Nat} {x : Int32} (hat : jat M pc = some (.iload i, 2)) (hx : ls.lookup i = some (.int x)) (kk : jX M d K S (pc + 2) ls (.int x :: st) h k n Q) : jX M d K S pc ls st h k n Q :=
  jX.go (fun p l e R s m args below meth c ad H locs lA Z c1 c2 c8 c7 c13 hl g => lv_iload c1 c2 (jok_at c13 hat) (jl_at hl hx) (g lA hl)) kk
theorem x_iloadn {i : Fin 4} {x : Int32} (hat : jat M pc = some (.iload_n i, 1)) (hx : ls.lookup i.val = some (.int x)) (kk : jX M d K S (pc + 1) ls (.int x :: st) h k n Q) : jX M d K S pc ls st h k n Q :=
  jX.go (fun p l e R s m args below meth c ad H locs lA Z c1 c2 c8 c7 c13 hl g => lv_iload_n c1 c2 (jok_at c13 hat) rfl (jl_at hl hx) (g lA hl)) kk
theorem x_lload {i : Nat} {x : Int64} (hat : jat M pc = some (.lload i, 2)) (hx : ls.lookup i = some (.long x)) (kk : jX M d K S (pc + 2) ls (.long x :: st) h k n Q) : jX M d K S pc ls st h k n Q :=
  jX.go (fun p l e R s m args below meth c ad H locs lA Z c1 c2 c8 c7 c13 hl g => lv_lload c1 c2 (jok_at c13 hat) (jl_at hl hx) (g lA hl)) kk
theorem x_lloadn {i : Fin 4} {x : Int64} (hat : jat M pc = some (.lload_n i, 1)) (hx : ls.lookup i.val = some (.long x)) (kk : jX M d K S (pc + 1) ls (.long x :: st) h k n Q) : jX M d K S pc ls st h k n Q :=
  jX.go (fun p l e R s m args below meth c ad H locs lA Z c1 c2 c8 c7 c13 hl g => lv_lload_n c1 c2 (jok_at c13 hat) rfl (jl_at hl hx) (g lA hl)) kk
theorem x_aload {i : Nat} {x : Nat} (hat : jat M pc = some (.aload i, 2)) (hx : ls.lookup i = some (.ref x)) (kk : jX M d K S (pc + 2) ls (.ref x :: st) h k n Q) : jX M d K S pc ls st h k n Q :=
  jX.go (fun p l e R s m args below meth c ad H locs lA Z c1 c2 c8 c7 c13 hl g => lv_aload c1 c2 (jok_at c13 hat) (jl_at hl hx) (g lA hl)) kk
theorem x_aloadn {i : Fin 4} {x : Nat} (hat : jat M pc = some (.aload_n i, 1)) (hx : ls.lookup i.val = some (.ref x)) (kk : jX M d K S (pc + 1) ls (.ref x :: st) h k n Q) : jX M d K S pc ls st h k n Q :=
  jX.go (fun p l e R s m args below meth c ad H locs lA Z c1 c2 c8 c7 c13 hl g => lv_aload_n c1 c2 (jok_at c13 hat) rfl (jl_at hl hx) (g lA hl)) kk
theorem x_aloadN {i : Nat} (hat : jat M pc = some (.aload i, 2)) (hx : ls.lookup i = some .null) (kk : jX M d K S (pc + 2) ls (.null :: st) h k n Q) : jX M d K S pc ls st h k n Q :=
  jX.go (fun p l e R s m args below meth c ad H locs lA Z c1 c2 c8 c7 c13 hl g => lv_aloadN c1 c2 (jok_at c13 hat) (jl_at hl hx) (g lA hl)) kk
theorem x_aloadnN {i : Fin 4} (hat : jat M pc = some (.aload_n i, 1)) (hx : ls.lookup i.val = some .null) (kk : jX M d K S (pc + 1) ls (.null :: st) h k n Q) : jX M d K S pc ls st h k n Q :=
  jX.go (fun p l e R s m args below meth c ad H locs lA Z c1 c2 c8 c7 c13 hl g => lv_aload_nN c1 c2 (jok_at c13 hat) rfl (jl_at hl hx) (g lA hl)) kk
/-- the locals behind a store of one word, of two -/
def js1 (ls : jL) (i : Nat) (v : Value) : jL := (i, v) :: ls.filter (fun q => !(q.1 == i) && !(q.1 + 1 == i && q.2.category == 2))
def js2 (ls : jL) (i : Nat) (v : Value) : jL := (i, v) :: ls.filter (fun q => !(q.1 == i) && (!(q.1 == i + 1) && !(q.1 + 1 == i && q.2.category == 2)))
theorem jlm_js1 (ad : Nat → Nat) (ls : jL) (i : Nat) (v : Value) : (i, jv ad v) :: (jlm ad ls).filter (fun q => !(q.1 == i) && !(q.1 + 1 == i && q.2.category == 2)) = jlm ad (js1 ls i v) := by
  unfold jlm js1
  rw [List.map_cons, List.filter_map]
  congr 2
  apply List.filter_congr
  intro x _
  simp [jv_cat]
theorem jlm_js2 (ad : Nat → Nat) (ls : jL) (i : Nat) (v : Value) : (i, jv ad v) :: (jlm ad ls).filter (fun q => !(q.1 == i) && (!(q.1 == i + 1) && !(q.1 + 1 == i && q.2.category == 2))) = jlm ad (js2 ls i v) := by
  unfold jlm js2
  rw [List.map_cons, List.filter_map]
  congr 2
  apply List.filter_congr
  intro x _
  simp [jv_cat]
theorem x_istore {i : Nat} {x : Int32} {lsx9 : jL} (hat : jat M pc = some (.istore i, 2)) (hi : Nat.blt i M.2.2.2.1 = true) (he : js1 ls i (.int x) = lsx9) (kk : jX M d K S (pc + 2) lsx9 st h k n Q) : jX M d K S pc ls (.int x :: st) h k n Q :=
  jX.go (fun p l e R s m args below meth c ad H locs lA Z c1 c2 c8 c7 c13 hl g => lv_istore c1 c2 (jok_at c13 hat) hl (Nat.blt_eq.mp hi) (jlm_js1 ad ls i (.int x)) (fun lB hB => g lB (he ▸ hB))) kk
theorem x_istoren {i : Fin 4} {x : Int32} {lsx9 : jL} (hat : jat M pc = some (.istore_n i, 1)) (hi : Nat.blt i.val M.2.2.2.1 = true) (he : js1 ls i.val (.int x) = lsx9) (kk : jX M d K S (pc + 1) lsx9 st h k n Q) : jX M d K S pc ls (.int x :: st) h k n Q :=
  jX.go (fun p l e R s m args below meth c ad H locs lA Z c1 c2 c8 c7 c13 hl g => lv_istore_n c1 c2 (jok_at c13 hat) rfl hl (Nat.blt_eq.mp hi) (jlm_js1 ad ls i.val (.int x)) (fun lB hB => g lB (he ▸ hB))) kk
theorem x_lstore {i : Nat} {x : Int64} {lsx9 : jL} (hat : jat M pc = some (.lstore i, 2)) (hi : Nat.blt (i + 1) M.2.2.2.1 = true) (he : js2 ls i (.long x) = lsx9) (kk : jX M d K S (pc + 2) lsx9 st h k n Q) : jX M d K S pc ls (.long x :: st) h k n Q :=
  jX.go (fun p l e R s m args below meth c ad H locs lA Z c1 c2 c8 c7 c13 hl g => lv_lstore c1 c2 (jok_at c13 hat) hl (Nat.blt_eq.mp hi) (jlm_js2 ad ls i (.long x)) (fun lB hB => g lB (he ▸ hB))) kk
theorem x_lstoren {i : Fin 4} {x : Int64} {lsx9 : jL} (hat : jat M pc = some (.lstore_n i, 1)) (hi : Nat.blt (i.val + 1) M.2.2.2.1 = true) (he : js2 ls i.val (.long x) = lsx9) (kk : jX M d K S (pc + 1) lsx9 st h k n Q) : jX M d K S pc ls (.long x :: st) h k n Q :=
  jX.go (fun p l e R s m args below meth c ad H locs lA Z c1 c2 c8 c7 c13 hl g => lv_lstore_n c1 c2 (jok_at c13 hat) rfl hl (Nat.blt_eq.mp hi) (jlm_js2 ad ls i.val (.long x)) (fun lB hB => g lB (he ▸ hB))) kk
theorem x_astore {i : Nat} {x : Nat} {lsx9 : jL} (hat : jat M pc = some (.astore i, 2)) (hi : Nat.blt i M.2.2.2.1 = true) (he : js1 ls i (.ref x) = lsx9) (kk : jX M d K S (pc + 2) lsx9 st h k n Q) : jX M d K S pc ls (.ref x :: st) h k n Q :=
  jX.go (fun p l e R s m args below meth c ad H locs lA Z c1 c2 c8 c7 c13 hl g => lv_astore c1 c2 (jok_at c13 hat) hl (Nat.blt_eq.mp hi) (jlm_js1 ad ls i (.ref x)) (fun lB hB => g lB (he ▸ hB))) kk
theorem x_astoren {i : Fin 4} {x : Nat} {lsx9 : jL} (hat : jat M pc = some (.astore_n i, 1)) (hi : Nat.blt i.val M.2.2.2.1 = true) (he : js1 ls i.val (.ref x) = lsx9) (kk : jX M d K S (pc + 1) lsx9 st h k n Q) : jX M d K S pc ls (.ref x :: st) h k n Q :=
  jX.go (fun p l e R s m args below meth c ad H locs lA Z c1 c2 c8 c7 c13 hl g => lv_astore_n c1 c2 (jok_at c13 hat) rfl hl (Nat.blt_eq.mp hi) (jlm_js1 ad ls i.val (.ref x)) (fun lB hB => g lB (he ▸ hB))) kk
theorem x_astoreN {i : Nat} {lsx9 : jL} (hat : jat M pc = some (.astore i, 2)) (hi : Nat.blt i M.2.2.2.1 = true) (he : js1 ls i .null = lsx9) (kk : jX M d K S (pc + 2) lsx9 st h k n Q) : jX M d K S pc ls (.null :: st) h k n Q :=
  jX.go (fun p l e R s m args below meth c ad H locs lA Z c1 c2 c8 c7 c13 hl g => lv_astoreN c1 c2 (jok_at c13 hat) hl (Nat.blt_eq.mp hi) (jlm_js1 ad ls i .null) (fun lB hB => g lB (he ▸ hB))) kk
theorem x_astorenN {i : Fin 4} {lsx9 : jL} (hat : jat M pc = some (.astore_n i, 1)) (hi : Nat.blt i.val M.2.2.2.1 = true) (he : js1 ls i.val .null = lsx9) (kk : jX M d K S (pc + 1) lsx9 st h k n Q) : jX M d K S pc ls (.null :: st) h k n Q :=
  jX.go (fun p l e R s m args below meth c ad H locs lA Z c1 c2 c8 c7 c13 hl g => lv_astore_nN c1 c2 (jok_at c13 hat) rfl hl (Nat.blt_eq.mp hi) (jlm_js1 ad ls i.val .null) (fun lB hB => g lB (he ▸ hB))) kk
end R1
