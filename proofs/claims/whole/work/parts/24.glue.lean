/-! from the entry to the walk of the law -/
/-! THE CLAIM OUT OF ONE WALK OF THE LAW'S BODY. Your part is whole_start (and what it stands on); all else here is the same for every law, but numbers. -/
def R_law : String := "ParishChestLaw"
def lw_P (b : Addr) (xs : List Int32) (args : Array Value) (s : State) : Prop := args = #[.ref b] ∧ s.IntsAt b xs ∧ xs.length ≤ 3584 ∧ (Jvm.Cond.and given_1 narrow_1).before args s = true
def lw_Q (_ : Array Value) (s : State) (o : Outcome) (t : State) : Prop := o = .returned (some (.int 1)) ∧ Framed s o t [] 600000 7302250
def lw_Z (below : List Frame) (a : Array Value) (s : State) : State → Prop := fun t => ∃ o, t.status = .running ∧ Ended t below o ∧ lw_Q a s o t
/-- the law's own end, with 1 on the stack, nothing written that was there before, its room as the claim has it -/
theorem lw_ret {p : Program} {l : Launch} {e : Env} {s : State} {m : MethodId} {below : List Frame} {meth : Method} {c : Code} {b : Nat} (hx : p.tables.exec = Jvm.exec) (hb : c.code = code) (hr : meth.sig.returnType = ret) (hlocks : meth.locks = false) {pc : Nat} {H : Heap} {ls : Array Slot} (hdg : decode code pc = .ok (.ireturn, 1)) : W p l e room_1 s m #[Value.ref b] below meth c H [] 600000 7302250 (lw_Z below #[Value.ref b] s) (F0 m pc ls [.int 1]) := by
  intro T hT X
  obtain ⟨fs, hret, hrun, hended, hW, hframe⟩ := X.leave (v := some (.int 1)) (hlocks := hlocks) (fun h => by rw [hr] at h; cases h)
  have hmeth' : T.vm.method? m = some meth := X.method'
  refine ⟨T.setFrames fs, ?_, .returned (some (.int 1)), hrun, hended, rfl, ⟨_, rfl⟩, hW, hframe⟩
  jvm_step X.here [X.here.top, hx, hb, hdg, hmeth', hr, ret, narrow_b1]
  (try refine ⟨rfl, ?_⟩); (try refine ⟨rfl, ?_⟩)
  first | (intro acts; rw [hret _ acts rfl rfl rfl]) | rw [hret _ _ rfl rfl rfl]
  exact Steps.refl _
/-- what holds at the law's entry: the machine, the code, the tables' words (any of lw_tbl by 'hts w (by decide +kernel)'), the script of L ints xs at the cell b, what the Statement gives of the start (any of its parts by flat_of_before) -/
def lw_At (p : Program) (s : State) (m : MethodId) (meth : Method) (c : Code) (b L : Nat) (xs : Nat → Int32) : Prop :=
  p.tables.exec = Jvm.exec ∧ c.code = code ∧ meth.sig.returnType = ret ∧ c.maxLocals = 4 ∧ s.vm.findClass R_law = some m.cls ∧ (∀ w ∈ lw_tbl, w.before #[Value.ref b] s = true) ∧ va_X b L xs s s.heap ∧ b < s.heap.size ∧ meth.locks = false ∧ meth.name = x.name ∧ (Jvm.Cond.and given_1 narrow_1).before #[Value.ref b] s = true

/-! the class's texts at the start -/
theorem of_OF {s : State} {a : Nat} {o n d : String} {v : Value} {A : Nat → Prop} (h : s.fieldOf? a o n d = some v) (hA : ∀ a : Nat, a < s.heap.size → ¬ A a) : va_OF o n d v a A s s.heap := by
  unfold State.fieldOf? State.fieldNamed? at h
  cases hc : s.heap[a]? with
  | none => rw [hc] at h; cases h
  | some cell =>
    cases hf : s.fieldFound? o n d with
    | none => rw [hc, hf] at h; cases h
    | some q =>
      obtain ⟨c, k, i, f⟩ := q
      rw [hc, hf] at h
      simp only [Option.bind_eq_bind, Option.bind_some, Option.pure_def] at h
      by_cases hs : (f.isStatic == false) = true
      · rw [if_pos hs] at h
        simp only [Option.bind_some] at h
        split at h
        · cases h
        · rename_i g
          exact ⟨c, k, i, f, cell, hf, by simpa using hs, hc, fun z => g (Or.inl z), h, hA a (Array.getElem?_eq_some_iff.mp hc).1⟩
      · rw [if_neg hs] at h
        cases h
theorem of_field {args : Array Value} {s : State} {t : Term} {o n d : String} {v : Value} {a : Nat} (h : (Term.field t o n d).eval args s none [] s = some v) (ht : t.eval args s none [] s = some (.ref a)) : s.fieldOf? a o n d = some v := by
  simp only [Term.eval, ht] at h
  exact h
theorem jAr_B {s : State} {ad : Nat → Nat} {h : jH} {a n t : Nat} {f : Nat → Int32} (ha : a < 31) (hn : n < 2 ^ 31) (e : ad a = t) (hv : ∀ j, j < n → jiv h a j = f j) (x : va_T .byte t n (fun j => .int (f j)) (fun x => s.heap.size ≤ x) s s.heap) : jAr s ad h a 103 n s.heap := by
  obtain ⟨cell, x1, x2, x3, x4, x5, x6, -⟩ := x
  refine ⟨hn, cell, by rw [e]; exact x1, x2, x3, x4, x5, fun j hj => ?_, fun h => absurd h (by show ¬ 31 ≤ a; omega)⟩
  rw [x6 j hj]
  show some (Value.int (f j)) = some (Value.int (jiv h a j))
  rw [hv j hj]
set_option maxRecDepth 100000 in
theorem jsx_0 {s : State} {args : Array Value} (hts : ∀ w ∈ lw_tbl, w.before args s = true) (hs : (Jvm.Cond.and given_1 narrow_1).before args s = true) : ∃ a v : Nat, vk_R "ParishChest$Clerk" 65 "belong exempt rate relief badge turn fee seat strike " a s ∧ a < s.heap.size ∧ v < s.heap.size ∧ va_O "java/lang/String" a (fun x => s.heap.size ≤ x) s s.heap ∧ va_OF "java/lang/String" "coder" "B" (.int 0) a (fun x => s.heap.size ≤ x) s s.heap ∧ va_OF "java/lang/String" "value" "[B" (.ref v) a (fun x => s.heap.size ≤ x) s s.heap ∧ va_T .byte v 53 (fun j => .int ((jsB 0).getD j 0)) (fun x => s.heap.size ≤ x) s s.heap := by
  have hf := flat_of_before _ hs
  have hA : ∀ a : Nat, a < s.heap.size → ¬ s.heap.size ≤ a := fun a ha => Nat.not_le.mpr ha
  obtain ⟨a, c, cell, k, q1, q2, q3, -⟩ := Cond.exactly_spec (hf (.exactly (.string "ParishChest$Clerk" 65) "java/lang/String") (by decide +kernel))
  obtain ⟨v, e, ht⟩ := va_Tof (args := args) (s := s) (tm := (.field (.string "ParishChest$Clerk" 65) "java/lang/String" "value" "[B")) (ty := .byte) (N := 53) (f := fun j => .int ((jsB 0).getD j 0)) (A := fun x => s.heap.size ≤ x) (by decide) (hf _ (by decide +kernel)) (va_eqt (z := 53) (hf (.eq (.length (.field (.string "ParishChest$Clerk" 65) "java/lang/String" "value" "[B")) (.int 53)) (by decide +kernel))) (fun j hj => by
    match j, hj with
    | 0, _ => exact va_eqt (z := 98) (hf (.eq (.elem (.field (.string "ParishChest$Clerk" 65) "java/lang/String" "value" "[B") (.int 0)) (.int 98)) (by decide +kernel))
    | 1, _ => exact va_eqt (z := 101) (hf (.eq (.elem (.field (.string "ParishChest$Clerk" 65) "java/lang/String" "value" "[B") (.int 1)) (.int 101)) (by decide +kernel))
    | 2, _ => exact va_eqt (z := 108) (hf (.eq (.elem (.field (.string "ParishChest$Clerk" 65) "java/lang/String" "value" "[B") (.int 2)) (.int 108)) (by decide +kernel))
    | 3, _ => exact va_eqt (z := 111) (hf (.eq (.elem (.field (.string "ParishChest$Clerk" 65) "java/lang/String" "value" "[B") (.int 3)) (.int 111)) (by decide +kernel))
    | 4, _ => exact va_eqt (z := 110) (hf (.eq (.elem (.field (.string "ParishChest$Clerk" 65) "java/lang/String" "value" "[B") (.int 4)) (.int 110)) (by decide +kernel))
    | 5, _ => exact va_eqt (z := 103) (hf (.eq (.elem (.field (.string "ParishChest$Clerk" 65) "java/lang/String" "value" "[B") (.int 5)) (.int 103)) (by decide +kernel))
    | 6, _ => exact va_eqt (z := 32) (hf (.eq (.elem (.field (.string "ParishChest$Clerk" 65) "java/lang/String" "value" "[B") (.int 6)) (.int 32)) (by decide +kernel))
    | 7, _ => exact va_eqt (z := 101) (hf (.eq (.elem (.field (.string "ParishChest$Clerk" 65) "java/lang/String" "value" "[B") (.int 7)) (.int 101)) (by decide +kernel))
    | 8, _ => exact va_eqt (z := 120) (hf (.eq (.elem (.field (.string "ParishChest$Clerk" 65) "java/lang/String" "value" "[B") (.int 8)) (.int 120)) (by decide +kernel))
    | 9, _ => exact va_eqt (z := 101) (hf (.eq (.elem (.field (.string "ParishChest$Clerk" 65) "java/lang/String" "value" "[B") (.int 9)) (.int 101)) (by decide +kernel))
    | 10, _ => exact va_eqt (z := 109) (hf (.eq (.elem (.field (.string "ParishChest$Clerk" 65) "java/lang/String" "value" "[B") (.int 10)) (.int 109)) (by decide +kernel))
    | 11, _ => exact va_eqt (z := 112) (hf (.eq (.elem (.field (.string "ParishChest$Clerk" 65) "java/lang/String" "value" "[B") (.int 11)) (.int 112)) (by decide +kernel))
    | 12, _ => exact va_eqt (z := 116) (hf (.eq (.elem (.field (.string "ParishChest$Clerk" 65) "java/lang/String" "value" "[B") (.int 12)) (.int 116)) (by decide +kernel))
    | 13, _ => exact va_eqt (z := 32) (hf (.eq (.elem (.field (.string "ParishChest$Clerk" 65) "java/lang/String" "value" "[B") (.int 13)) (.int 32)) (by decide +kernel))
    | 14, _ => exact va_eqt (z := 114) (hf (.eq (.elem (.field (.string "ParishChest$Clerk" 65) "java/lang/String" "value" "[B") (.int 14)) (.int 114)) (by decide +kernel))
    | 15, _ => exact va_eqt (z := 97) (hf (.eq (.elem (.field (.string "ParishChest$Clerk" 65) "java/lang/String" "value" "[B") (.int 15)) (.int 97)) (by decide +kernel))
    | 16, _ => exact va_eqt (z := 116) (hf (.eq (.elem (.field (.string "ParishChest$Clerk" 65) "java/lang/String" "value" "[B") (.int 16)) (.int 116)) (by decide +kernel))
    | 17, _ => exact va_eqt (z := 101) (hf (.eq (.elem (.field (.string "ParishChest$Clerk" 65) "java/lang/String" "value" "[B") (.int 17)) (.int 101)) (by decide +kernel))
    | 18, _ => exact va_eqt (z := 32) (hf (.eq (.elem (.field (.string "ParishChest$Clerk" 65) "java/lang/String" "value" "[B") (.int 18)) (.int 32)) (by decide +kernel))
    | 19, _ => exact va_eqt (z := 114) (hf (.eq (.elem (.field (.string "ParishChest$Clerk" 65) "java/lang/String" "value" "[B") (.int 19)) (.int 114)) (by decide +kernel))
    | 20, _ => exact va_eqt (z := 101) (hf (.eq (.elem (.field (.string "ParishChest$Clerk" 65) "java/lang/String" "value" "[B") (.int 20)) (.int 101)) (by decide +kernel))
    | 21, _ => exact va_eqt (z := 108) (hf (.eq (.elem (.field (.string "ParishChest$Clerk" 65) "java/lang/String" "value" "[B") (.int 21)) (.int 108)) (by decide +kernel))
    | 22, _ => exact va_eqt (z := 105) (hf (.eq (.elem (.field (.string "ParishChest$Clerk" 65) "java/lang/String" "value" "[B") (.int 22)) (.int 105)) (by decide +kernel))
    | 23, _ => exact va_eqt (z := 101) (hf (.eq (.elem (.field (.string "ParishChest$Clerk" 65) "java/lang/String" "value" "[B") (.int 23)) (.int 101)) (by decide +kernel))
    | 24, _ => exact va_eqt (z := 102) (hf (.eq (.elem (.field (.string "ParishChest$Clerk" 65) "java/lang/String" "value" "[B") (.int 24)) (.int 102)) (by decide +kernel))
    | 25, _ => exact va_eqt (z := 32) (hf (.eq (.elem (.field (.string "ParishChest$Clerk" 65) "java/lang/String" "value" "[B") (.int 25)) (.int 32)) (by decide +kernel))
    | 26, _ => exact va_eqt (z := 98) (hf (.eq (.elem (.field (.string "ParishChest$Clerk" 65) "java/lang/String" "value" "[B") (.int 26)) (.int 98)) (by decide +kernel))
    | 27, _ => exact va_eqt (z := 97) (hf (.eq (.elem (.field (.string "ParishChest$Clerk" 65) "java/lang/String" "value" "[B") (.int 27)) (.int 97)) (by decide +kernel))
    | 28, _ => exact va_eqt (z := 100) (hf (.eq (.elem (.field (.string "ParishChest$Clerk" 65) "java/lang/String" "value" "[B") (.int 28)) (.int 100)) (by decide +kernel))
    | 29, _ => exact va_eqt (z := 103) (hf (.eq (.elem (.field (.string "ParishChest$Clerk" 65) "java/lang/String" "value" "[B") (.int 29)) (.int 103)) (by decide +kernel))
    | 30, _ => exact va_eqt (z := 101) (hf (.eq (.elem (.field (.string "ParishChest$Clerk" 65) "java/lang/String" "value" "[B") (.int 30)) (.int 101)) (by decide +kernel))
    | 31, _ => exact va_eqt (z := 32) (hf (.eq (.elem (.field (.string "ParishChest$Clerk" 65) "java/lang/String" "value" "[B") (.int 31)) (.int 32)) (by decide +kernel))
    | 32, _ => exact va_eqt (z := 116) (hf (.eq (.elem (.field (.string "ParishChest$Clerk" 65) "java/lang/String" "value" "[B") (.int 32)) (.int 116)) (by decide +kernel))
    | 33, _ => exact va_eqt (z := 117) (hf (.eq (.elem (.field (.string "ParishChest$Clerk" 65) "java/lang/String" "value" "[B") (.int 33)) (.int 117)) (by decide +kernel))
    | 34, _ => exact va_eqt (z := 114) (hf (.eq (.elem (.field (.string "ParishChest$Clerk" 65) "java/lang/String" "value" "[B") (.int 34)) (.int 114)) (by decide +kernel))
    | 35, _ => exact va_eqt (z := 110) (hf (.eq (.elem (.field (.string "ParishChest$Clerk" 65) "java/lang/String" "value" "[B") (.int 35)) (.int 110)) (by decide +kernel))
    | 36, _ => exact va_eqt (z := 32) (hf (.eq (.elem (.field (.string "ParishChest$Clerk" 65) "java/lang/String" "value" "[B") (.int 36)) (.int 32)) (by decide +kernel))
    | 37, _ => exact va_eqt (z := 102) (hf (.eq (.elem (.field (.string "ParishChest$Clerk" 65) "java/lang/String" "value" "[B") (.int 37)) (.int 102)) (by decide +kernel))
    | 38, _ => exact va_eqt (z := 101) (hf (.eq (.elem (.field (.string "ParishChest$Clerk" 65) "java/lang/String" "value" "[B") (.int 38)) (.int 101)) (by decide +kernel))
    | 39, _ => exact va_eqt (z := 101) (hf (.eq (.elem (.field (.string "ParishChest$Clerk" 65) "java/lang/String" "value" "[B") (.int 39)) (.int 101)) (by decide +kernel))
    | 40, _ => exact va_eqt (z := 32) (hf (.eq (.elem (.field (.string "ParishChest$Clerk" 65) "java/lang/String" "value" "[B") (.int 40)) (.int 32)) (by decide +kernel))
    | 41, _ => exact va_eqt (z := 115) (hf (.eq (.elem (.field (.string "ParishChest$Clerk" 65) "java/lang/String" "value" "[B") (.int 41)) (.int 115)) (by decide +kernel))
    | 42, _ => exact va_eqt (z := 101) (hf (.eq (.elem (.field (.string "ParishChest$Clerk" 65) "java/lang/String" "value" "[B") (.int 42)) (.int 101)) (by decide +kernel))
    | 43, _ => exact va_eqt (z := 97) (hf (.eq (.elem (.field (.string "ParishChest$Clerk" 65) "java/lang/String" "value" "[B") (.int 43)) (.int 97)) (by decide +kernel))
    | 44, _ => exact va_eqt (z := 116) (hf (.eq (.elem (.field (.string "ParishChest$Clerk" 65) "java/lang/String" "value" "[B") (.int 44)) (.int 116)) (by decide +kernel))
    | 45, _ => exact va_eqt (z := 32) (hf (.eq (.elem (.field (.string "ParishChest$Clerk" 65) "java/lang/String" "value" "[B") (.int 45)) (.int 32)) (by decide +kernel))
    | 46, _ => exact va_eqt (z := 115) (hf (.eq (.elem (.field (.string "ParishChest$Clerk" 65) "java/lang/String" "value" "[B") (.int 46)) (.int 115)) (by decide +kernel))
    | 47, _ => exact va_eqt (z := 116) (hf (.eq (.elem (.field (.string "ParishChest$Clerk" 65) "java/lang/String" "value" "[B") (.int 47)) (.int 116)) (by decide +kernel))
    | 48, _ => exact va_eqt (z := 114) (hf (.eq (.elem (.field (.string "ParishChest$Clerk" 65) "java/lang/String" "value" "[B") (.int 48)) (.int 114)) (by decide +kernel))
    | 49, _ => exact va_eqt (z := 105) (hf (.eq (.elem (.field (.string "ParishChest$Clerk" 65) "java/lang/String" "value" "[B") (.int 49)) (.int 105)) (by decide +kernel))
    | 50, _ => exact va_eqt (z := 107) (hf (.eq (.elem (.field (.string "ParishChest$Clerk" 65) "java/lang/String" "value" "[B") (.int 50)) (.int 107)) (by decide +kernel))
    | 51, _ => exact va_eqt (z := 101) (hf (.eq (.elem (.field (.string "ParishChest$Clerk" 65) "java/lang/String" "value" "[B") (.int 51)) (.int 101)) (by decide +kernel))
    | 52, _ => exact va_eqt (z := 32) (hf (.eq (.elem (.field (.string "ParishChest$Clerk" 65) "java/lang/String" "value" "[B") (.int 52)) (.int 32)) (by decide +kernel))
    | n + 53, h => exact absurd h (by omega)) hA
  have ec := va_eqt (z := 0) (hf (.eq (.field (.string "ParishChest$Clerk" 65) "java/lang/String" "coder" "B") (.int 0)) (by decide +kernel))
  exact ⟨a, v, vk_R.of (hts _ (List.mem_of_getElem? (i := 1306) (by decide +kernel))) q1, (Array.getElem?_eq_some_iff.mp q3).1, (Array.getElem?_eq_some_iff.mp ht.choose_spec.1).1, va_Oof (hf (.exactly (.string "ParishChest$Clerk" 65) "java/lang/String") (by decide +kernel)) q1 hA, of_OF (of_field ec q1) hA, of_OF (of_field e q1) hA, ht⟩
set_option maxRecDepth 100000 in
theorem jsx_1 {s : State} {args : Array Value} (hts : ∀ w ∈ lw_tbl, w.before args s = true) (hs : (Jvm.Cond.and given_1 narrow_1).before args s = true) : ∃ a v : Nat, vk_R "ParishChest$Clerk" 103 "clause " a s ∧ a < s.heap.size ∧ v < s.heap.size ∧ va_O "java/lang/String" a (fun x => s.heap.size ≤ x) s s.heap ∧ va_OF "java/lang/String" "coder" "B" (.int 0) a (fun x => s.heap.size ≤ x) s s.heap ∧ va_OF "java/lang/String" "value" "[B" (.ref v) a (fun x => s.heap.size ≤ x) s s.heap ∧ va_T .byte v 7 (fun j => .int ((jsB 1).getD j 0)) (fun x => s.heap.size ≤ x) s s.heap := by
  have hf := flat_of_before _ hs
  have hA : ∀ a : Nat, a < s.heap.size → ¬ s.heap.size ≤ a := fun a ha => Nat.not_le.mpr ha
  obtain ⟨a, c, cell, k, q1, q2, q3, -⟩ := Cond.exactly_spec (hf (.exactly (.string "ParishChest$Clerk" 103) "java/lang/String") (by decide +kernel))
  obtain ⟨v, e, ht⟩ := va_Tof (args := args) (s := s) (tm := (.field (.string "ParishChest$Clerk" 103) "java/lang/String" "value" "[B")) (ty := .byte) (N := 7) (f := fun j => .int ((jsB 1).getD j 0)) (A := fun x => s.heap.size ≤ x) (by decide) (hf _ (by decide +kernel)) (va_eqt (z := 7) (hf (.eq (.length (.field (.string "ParishChest$Clerk" 103) "java/lang/String" "value" "[B")) (.int 7)) (by decide +kernel))) (fun j hj => by
    match j, hj with
    | 0, _ => exact va_eqt (z := 99) (hf (.eq (.elem (.field (.string "ParishChest$Clerk" 103) "java/lang/String" "value" "[B") (.int 0)) (.int 99)) (by decide +kernel))
    | 1, _ => exact va_eqt (z := 108) (hf (.eq (.elem (.field (.string "ParishChest$Clerk" 103) "java/lang/String" "value" "[B") (.int 1)) (.int 108)) (by decide +kernel))
    | 2, _ => exact va_eqt (z := 97) (hf (.eq (.elem (.field (.string "ParishChest$Clerk" 103) "java/lang/String" "value" "[B") (.int 2)) (.int 97)) (by decide +kernel))
    | 3, _ => exact va_eqt (z := 117) (hf (.eq (.elem (.field (.string "ParishChest$Clerk" 103) "java/lang/String" "value" "[B") (.int 3)) (.int 117)) (by decide +kernel))
    | 4, _ => exact va_eqt (z := 115) (hf (.eq (.elem (.field (.string "ParishChest$Clerk" 103) "java/lang/String" "value" "[B") (.int 4)) (.int 115)) (by decide +kernel))
    | 5, _ => exact va_eqt (z := 101) (hf (.eq (.elem (.field (.string "ParishChest$Clerk" 103) "java/lang/String" "value" "[B") (.int 5)) (.int 101)) (by decide +kernel))
    | 6, _ => exact va_eqt (z := 32) (hf (.eq (.elem (.field (.string "ParishChest$Clerk" 103) "java/lang/String" "value" "[B") (.int 6)) (.int 32)) (by decide +kernel))
    | n + 7, h => exact absurd h (by omega)) hA
  have ec := va_eqt (z := 0) (hf (.eq (.field (.string "ParishChest$Clerk" 103) "java/lang/String" "coder" "B") (.int 0)) (by decide +kernel))
  exact ⟨a, v, vk_R.of (hts _ (List.mem_of_getElem? (i := 1383) (by decide +kernel))) q1, (Array.getElem?_eq_some_iff.mp q3).1, (Array.getElem?_eq_some_iff.mp ht.choose_spec.1).1, va_Oof (hf (.exactly (.string "ParishChest$Clerk" 103) "java/lang/String") (by decide +kernel)) q1 hA, of_OF (of_field ec q1) hA, of_OF (of_field e q1) hA, ht⟩
set_option maxRecDepth 100000 in
theorem jsx_2 {s : State} {args : Array Value} (hts : ∀ w ∈ lw_tbl, w.before args s = true) (hs : (Jvm.Cond.and given_1 narrow_1).before args s = true) : ∃ a v : Nat, vk_R "ParishChest$Clerk" 105 "birth hire rent office wed parents " a s ∧ a < s.heap.size ∧ v < s.heap.size ∧ va_O "java/lang/String" a (fun x => s.heap.size ≤ x) s s.heap ∧ va_OF "java/lang/String" "coder" "B" (.int 0) a (fun x => s.heap.size ≤ x) s s.heap ∧ va_OF "java/lang/String" "value" "[B" (.ref v) a (fun x => s.heap.size ≤ x) s s.heap ∧ va_T .byte v 35 (fun j => .int ((jsB 2).getD j 0)) (fun x => s.heap.size ≤ x) s s.heap := by
  have hf := flat_of_before _ hs
  have hA : ∀ a : Nat, a < s.heap.size → ¬ s.heap.size ≤ a := fun a ha => Nat.not_le.mpr ha
  obtain ⟨a, c, cell, k, q1, q2, q3, -⟩ := Cond.exactly_spec (hf (.exactly (.string "ParishChest$Clerk" 105) "java/lang/String") (by decide +kernel))
  obtain ⟨v, e, ht⟩ := va_Tof (args := args) (s := s) (tm := (.field (.string "ParishChest$Clerk" 105) "java/lang/String" "value" "[B")) (ty := .byte) (N := 35) (f := fun j => .int ((jsB 2).getD j 0)) (A := fun x => s.heap.size ≤ x) (by decide) (hf _ (by decide +kernel)) (va_eqt (z := 35) (hf (.eq (.length (.field (.string "ParishChest$Clerk" 105) "java/lang/String" "value" "[B")) (.int 35)) (by decide +kernel))) (fun j hj => by
    match j, hj with
    | 0, _ => exact va_eqt (z := 98) (hf (.eq (.elem (.field (.string "ParishChest$Clerk" 105) "java/lang/String" "value" "[B") (.int 0)) (.int 98)) (by decide +kernel))
    | 1, _ => exact va_eqt (z := 105) (hf (.eq (.elem (.field (.string "ParishChest$Clerk" 105) "java/lang/String" "value" "[B") (.int 1)) (.int 105)) (by decide +kernel))
    | 2, _ => exact va_eqt (z := 114) (hf (.eq (.elem (.field (.string "ParishChest$Clerk" 105) "java/lang/String" "value" "[B") (.int 2)) (.int 114)) (by decide +kernel))
    | 3, _ => exact va_eqt (z := 116) (hf (.eq (.elem (.field (.string "ParishChest$Clerk" 105) "java/lang/String" "value" "[B") (.int 3)) (.int 116)) (by decide +kernel))
    | 4, _ => exact va_eqt (z := 104) (hf (.eq (.elem (.field (.string "ParishChest$Clerk" 105) "java/lang/String" "value" "[B") (.int 4)) (.int 104)) (by decide +kernel))
    | 5, _ => exact va_eqt (z := 32) (hf (.eq (.elem (.field (.string "ParishChest$Clerk" 105) "java/lang/String" "value" "[B") (.int 5)) (.int 32)) (by decide +kernel))
    | 6, _ => exact va_eqt (z := 104) (hf (.eq (.elem (.field (.string "ParishChest$Clerk" 105) "java/lang/String" "value" "[B") (.int 6)) (.int 104)) (by decide +kernel))
    | 7, _ => exact va_eqt (z := 105) (hf (.eq (.elem (.field (.string "ParishChest$Clerk" 105) "java/lang/String" "value" "[B") (.int 7)) (.int 105)) (by decide +kernel))
    | 8, _ => exact va_eqt (z := 114) (hf (.eq (.elem (.field (.string "ParishChest$Clerk" 105) "java/lang/String" "value" "[B") (.int 8)) (.int 114)) (by decide +kernel))
    | 9, _ => exact va_eqt (z := 101) (hf (.eq (.elem (.field (.string "ParishChest$Clerk" 105) "java/lang/String" "value" "[B") (.int 9)) (.int 101)) (by decide +kernel))
    | 10, _ => exact va_eqt (z := 32) (hf (.eq (.elem (.field (.string "ParishChest$Clerk" 105) "java/lang/String" "value" "[B") (.int 10)) (.int 32)) (by decide +kernel))
    | 11, _ => exact va_eqt (z := 114) (hf (.eq (.elem (.field (.string "ParishChest$Clerk" 105) "java/lang/String" "value" "[B") (.int 11)) (.int 114)) (by decide +kernel))
    | 12, _ => exact va_eqt (z := 101) (hf (.eq (.elem (.field (.string "ParishChest$Clerk" 105) "java/lang/String" "value" "[B") (.int 12)) (.int 101)) (by decide +kernel))
    | 13, _ => exact va_eqt (z := 110) (hf (.eq (.elem (.field (.string "ParishChest$Clerk" 105) "java/lang/String" "value" "[B") (.int 13)) (.int 110)) (by decide +kernel))
    | 14, _ => exact va_eqt (z := 116) (hf (.eq (.elem (.field (.string "ParishChest$Clerk" 105) "java/lang/String" "value" "[B") (.int 14)) (.int 116)) (by decide +kernel))
    | 15, _ => exact va_eqt (z := 32) (hf (.eq (.elem (.field (.string "ParishChest$Clerk" 105) "java/lang/String" "value" "[B") (.int 15)) (.int 32)) (by decide +kernel))
    | 16, _ => exact va_eqt (z := 111) (hf (.eq (.elem (.field (.string "ParishChest$Clerk" 105) "java/lang/String" "value" "[B") (.int 16)) (.int 111)) (by decide +kernel))
    | 17, _ => exact va_eqt (z := 102) (hf (.eq (.elem (.field (.string "ParishChest$Clerk" 105) "java/lang/String" "value" "[B") (.int 17)) (.int 102)) (by decide +kernel))
    | 18, _ => exact va_eqt (z := 102) (hf (.eq (.elem (.field (.string "ParishChest$Clerk" 105) "java/lang/String" "value" "[B") (.int 18)) (.int 102)) (by decide +kernel))
    | 19, _ => exact va_eqt (z := 105) (hf (.eq (.elem (.field (.string "ParishChest$Clerk" 105) "java/lang/String" "value" "[B") (.int 19)) (.int 105)) (by decide +kernel))
    | 20, _ => exact va_eqt (z := 99) (hf (.eq (.elem (.field (.string "ParishChest$Clerk" 105) "java/lang/String" "value" "[B") (.int 20)) (.int 99)) (by decide +kernel))
    | 21, _ => exact va_eqt (z := 101) (hf (.eq (.elem (.field (.string "ParishChest$Clerk" 105) "java/lang/String" "value" "[B") (.int 21)) (.int 101)) (by decide +kernel))
    | 22, _ => exact va_eqt (z := 32) (hf (.eq (.elem (.field (.string "ParishChest$Clerk" 105) "java/lang/String" "value" "[B") (.int 22)) (.int 32)) (by decide +kernel))
    | 23, _ => exact va_eqt (z := 119) (hf (.eq (.elem (.field (.string "ParishChest$Clerk" 105) "java/lang/String" "value" "[B") (.int 23)) (.int 119)) (by decide +kernel))
    | 24, _ => exact va_eqt (z := 101) (hf (.eq (.elem (.field (.string "ParishChest$Clerk" 105) "java/lang/String" "value" "[B") (.int 24)) (.int 101)) (by decide +kernel))
    | 25, _ => exact va_eqt (z := 100) (hf (.eq (.elem (.field (.string "ParishChest$Clerk" 105) "java/lang/String" "value" "[B") (.int 25)) (.int 100)) (by decide +kernel))
    | 26, _ => exact va_eqt (z := 32) (hf (.eq (.elem (.field (.string "ParishChest$Clerk" 105) "java/lang/String" "value" "[B") (.int 26)) (.int 32)) (by decide +kernel))
    | 27, _ => exact va_eqt (z := 112) (hf (.eq (.elem (.field (.string "ParishChest$Clerk" 105) "java/lang/String" "value" "[B") (.int 27)) (.int 112)) (by decide +kernel))
    | 28, _ => exact va_eqt (z := 97) (hf (.eq (.elem (.field (.string "ParishChest$Clerk" 105) "java/lang/String" "value" "[B") (.int 28)) (.int 97)) (by decide +kernel))
    | 29, _ => exact va_eqt (z := 114) (hf (.eq (.elem (.field (.string "ParishChest$Clerk" 105) "java/lang/String" "value" "[B") (.int 29)) (.int 114)) (by decide +kernel))
    | 30, _ => exact va_eqt (z := 101) (hf (.eq (.elem (.field (.string "ParishChest$Clerk" 105) "java/lang/String" "value" "[B") (.int 30)) (.int 101)) (by decide +kernel))
    | 31, _ => exact va_eqt (z := 110) (hf (.eq (.elem (.field (.string "ParishChest$Clerk" 105) "java/lang/String" "value" "[B") (.int 31)) (.int 110)) (by decide +kernel))
    | 32, _ => exact va_eqt (z := 116) (hf (.eq (.elem (.field (.string "ParishChest$Clerk" 105) "java/lang/String" "value" "[B") (.int 32)) (.int 116)) (by decide +kernel))
    | 33, _ => exact va_eqt (z := 115) (hf (.eq (.elem (.field (.string "ParishChest$Clerk" 105) "java/lang/String" "value" "[B") (.int 33)) (.int 115)) (by decide +kernel))
    | 34, _ => exact va_eqt (z := 32) (hf (.eq (.elem (.field (.string "ParishChest$Clerk" 105) "java/lang/String" "value" "[B") (.int 34)) (.int 32)) (by decide +kernel))
    | n + 35, h => exact absurd h (by omega)) hA
  have ec := va_eqt (z := 0) (hf (.eq (.field (.string "ParishChest$Clerk" 105) "java/lang/String" "coder" "B") (.int 0)) (by decide +kernel))
  exact ⟨a, v, vk_R.of (hts _ (List.mem_of_getElem? (i := 1388) (by decide +kernel))) q1, (Array.getElem?_eq_some_iff.mp q3).1, (Array.getElem?_eq_some_iff.mp ht.choose_spec.1).1, va_Oof (hf (.exactly (.string "ParishChest$Clerk" 105) "java/lang/String") (by decide +kernel)) q1 hA, of_OF (of_field ec q1) hA, of_OF (of_field e q1) hA, ht⟩
set_option maxRecDepth 100000 in
theorem jsx_3 {s : State} {args : Array Value} (hts : ∀ w ∈ lw_tbl, w.before args s = true) (hs : (Jvm.Cond.and given_1 narrow_1).before args s = true) : ∃ a v : Nat, vk_R "ParishChest$Clerk" 111 "church way poor " a s ∧ a < s.heap.size ∧ v < s.heap.size ∧ va_O "java/lang/String" a (fun x => s.heap.size ≤ x) s s.heap ∧ va_OF "java/lang/String" "coder" "B" (.int 0) a (fun x => s.heap.size ≤ x) s s.heap ∧ va_OF "java/lang/String" "value" "[B" (.ref v) a (fun x => s.heap.size ≤ x) s s.heap ∧ va_T .byte v 16 (fun j => .int ((jsB 3).getD j 0)) (fun x => s.heap.size ≤ x) s s.heap := by
  have hf := flat_of_before _ hs
  have hA : ∀ a : Nat, a < s.heap.size → ¬ s.heap.size ≤ a := fun a ha => Nat.not_le.mpr ha
  obtain ⟨a, c, cell, k, q1, q2, q3, -⟩ := Cond.exactly_spec (hf (.exactly (.string "ParishChest$Clerk" 111) "java/lang/String") (by decide +kernel))
  obtain ⟨v, e, ht⟩ := va_Tof (args := args) (s := s) (tm := (.field (.string "ParishChest$Clerk" 111) "java/lang/String" "value" "[B")) (ty := .byte) (N := 16) (f := fun j => .int ((jsB 3).getD j 0)) (A := fun x => s.heap.size ≤ x) (by decide) (hf _ (by decide +kernel)) (va_eqt (z := 16) (hf (.eq (.length (.field (.string "ParishChest$Clerk" 111) "java/lang/String" "value" "[B")) (.int 16)) (by decide +kernel))) (fun j hj => by
    match j, hj with
    | 0, _ => exact va_eqt (z := 99) (hf (.eq (.elem (.field (.string "ParishChest$Clerk" 111) "java/lang/String" "value" "[B") (.int 0)) (.int 99)) (by decide +kernel))
    | 1, _ => exact va_eqt (z := 104) (hf (.eq (.elem (.field (.string "ParishChest$Clerk" 111) "java/lang/String" "value" "[B") (.int 1)) (.int 104)) (by decide +kernel))
    | 2, _ => exact va_eqt (z := 117) (hf (.eq (.elem (.field (.string "ParishChest$Clerk" 111) "java/lang/String" "value" "[B") (.int 2)) (.int 117)) (by decide +kernel))
    | 3, _ => exact va_eqt (z := 114) (hf (.eq (.elem (.field (.string "ParishChest$Clerk" 111) "java/lang/String" "value" "[B") (.int 3)) (.int 114)) (by decide +kernel))
    | 4, _ => exact va_eqt (z := 99) (hf (.eq (.elem (.field (.string "ParishChest$Clerk" 111) "java/lang/String" "value" "[B") (.int 4)) (.int 99)) (by decide +kernel))
    | 5, _ => exact va_eqt (z := 104) (hf (.eq (.elem (.field (.string "ParishChest$Clerk" 111) "java/lang/String" "value" "[B") (.int 5)) (.int 104)) (by decide +kernel))
    | 6, _ => exact va_eqt (z := 32) (hf (.eq (.elem (.field (.string "ParishChest$Clerk" 111) "java/lang/String" "value" "[B") (.int 6)) (.int 32)) (by decide +kernel))
    | 7, _ => exact va_eqt (z := 119) (hf (.eq (.elem (.field (.string "ParishChest$Clerk" 111) "java/lang/String" "value" "[B") (.int 7)) (.int 119)) (by decide +kernel))
    | 8, _ => exact va_eqt (z := 97) (hf (.eq (.elem (.field (.string "ParishChest$Clerk" 111) "java/lang/String" "value" "[B") (.int 8)) (.int 97)) (by decide +kernel))
    | 9, _ => exact va_eqt (z := 121) (hf (.eq (.elem (.field (.string "ParishChest$Clerk" 111) "java/lang/String" "value" "[B") (.int 9)) (.int 121)) (by decide +kernel))
    | 10, _ => exact va_eqt (z := 32) (hf (.eq (.elem (.field (.string "ParishChest$Clerk" 111) "java/lang/String" "value" "[B") (.int 10)) (.int 32)) (by decide +kernel))
    | 11, _ => exact va_eqt (z := 112) (hf (.eq (.elem (.field (.string "ParishChest$Clerk" 111) "java/lang/String" "value" "[B") (.int 11)) (.int 112)) (by decide +kernel))
    | 12, _ => exact va_eqt (z := 111) (hf (.eq (.elem (.field (.string "ParishChest$Clerk" 111) "java/lang/String" "value" "[B") (.int 12)) (.int 111)) (by decide +kernel))
    | 13, _ => exact va_eqt (z := 111) (hf (.eq (.elem (.field (.string "ParishChest$Clerk" 111) "java/lang/String" "value" "[B") (.int 13)) (.int 111)) (by decide +kernel))
    | 14, _ => exact va_eqt (z := 114) (hf (.eq (.elem (.field (.string "ParishChest$Clerk" 111) "java/lang/String" "value" "[B") (.int 14)) (.int 114)) (by decide +kernel))
    | 15, _ => exact va_eqt (z := 32) (hf (.eq (.elem (.field (.string "ParishChest$Clerk" 111) "java/lang/String" "value" "[B") (.int 15)) (.int 32)) (by decide +kernel))
    | n + 16, h => exact absurd h (by omega)) hA
  have ec := va_eqt (z := 0) (hf (.eq (.field (.string "ParishChest$Clerk" 111) "java/lang/String" "coder" "B") (.int 0)) (by decide +kernel))
  exact ⟨a, v, vk_R.of (hts _ (List.mem_of_getElem? (i := 1393) (by decide +kernel))) q1, (Array.getElem?_eq_some_iff.mp q3).1, (Array.getElem?_eq_some_iff.mp ht.choose_spec.1).1, va_Oof (hf (.exactly (.string "ParishChest$Clerk" 111) "java/lang/String") (by decide +kernel)) q1 hA, of_OF (of_field ec q1) hA, of_OF (of_field e q1) hA, ht⟩
set_option maxRecDepth 100000 in
theorem jsx_4 {s : State} {args : Array Value} (hts : ∀ w ∈ lw_tbl, w.before args s = true) (hs : (Jvm.Cond.and given_1 narrow_1).before args s = true) : ∃ a v : Nat, vk_R "ParishChest$Clerk" 113 "constable surveyor overseer warden " a s ∧ a < s.heap.size ∧ v < s.heap.size ∧ va_O "java/lang/String" a (fun x => s.heap.size ≤ x) s s.heap ∧ va_OF "java/lang/String" "coder" "B" (.int 0) a (fun x => s.heap.size ≤ x) s s.heap ∧ va_OF "java/lang/String" "value" "[B" (.ref v) a (fun x => s.heap.size ≤ x) s s.heap ∧ va_T .byte v 35 (fun j => .int ((jsB 4).getD j 0)) (fun x => s.heap.size ≤ x) s s.heap := by
  have hf := flat_of_before _ hs
  have hA : ∀ a : Nat, a < s.heap.size → ¬ s.heap.size ≤ a := fun a ha => Nat.not_le.mpr ha
  obtain ⟨a, c, cell, k, q1, q2, q3, -⟩ := Cond.exactly_spec (hf (.exactly (.string "ParishChest$Clerk" 113) "java/lang/String") (by decide +kernel))
  obtain ⟨v, e, ht⟩ := va_Tof (args := args) (s := s) (tm := (.field (.string "ParishChest$Clerk" 113) "java/lang/String" "value" "[B")) (ty := .byte) (N := 35) (f := fun j => .int ((jsB 4).getD j 0)) (A := fun x => s.heap.size ≤ x) (by decide) (hf _ (by decide +kernel)) (va_eqt (z := 35) (hf (.eq (.length (.field (.string "ParishChest$Clerk" 113) "java/lang/String" "value" "[B")) (.int 35)) (by decide +kernel))) (fun j hj => by
    match j, hj with
    | 0, _ => exact va_eqt (z := 99) (hf (.eq (.elem (.field (.string "ParishChest$Clerk" 113) "java/lang/String" "value" "[B") (.int 0)) (.int 99)) (by decide +kernel))
    | 1, _ => exact va_eqt (z := 111) (hf (.eq (.elem (.field (.string "ParishChest$Clerk" 113) "java/lang/String" "value" "[B") (.int 1)) (.int 111)) (by decide +kernel))
    | 2, _ => exact va_eqt (z := 110) (hf (.eq (.elem (.field (.string "ParishChest$Clerk" 113) "java/lang/String" "value" "[B") (.int 2)) (.int 110)) (by decide +kernel))
    | 3, _ => exact va_eqt (z := 115) (hf (.eq (.elem (.field (.string "ParishChest$Clerk" 113) "java/lang/String" "value" "[B") (.int 3)) (.int 115)) (by decide +kernel))
    | 4, _ => exact va_eqt (z := 116) (hf (.eq (.elem (.field (.string "ParishChest$Clerk" 113) "java/lang/String" "value" "[B") (.int 4)) (.int 116)) (by decide +kernel))
    | 5, _ => exact va_eqt (z := 97) (hf (.eq (.elem (.field (.string "ParishChest$Clerk" 113) "java/lang/String" "value" "[B") (.int 5)) (.int 97)) (by decide +kernel))
    | 6, _ => exact va_eqt (z := 98) (hf (.eq (.elem (.field (.string "ParishChest$Clerk" 113) "java/lang/String" "value" "[B") (.int 6)) (.int 98)) (by decide +kernel))
    | 7, _ => exact va_eqt (z := 108) (hf (.eq (.elem (.field (.string "ParishChest$Clerk" 113) "java/lang/String" "value" "[B") (.int 7)) (.int 108)) (by decide +kernel))
    | 8, _ => exact va_eqt (z := 101) (hf (.eq (.elem (.field (.string "ParishChest$Clerk" 113) "java/lang/String" "value" "[B") (.int 8)) (.int 101)) (by decide +kernel))
    | 9, _ => exact va_eqt (z := 32) (hf (.eq (.elem (.field (.string "ParishChest$Clerk" 113) "java/lang/String" "value" "[B") (.int 9)) (.int 32)) (by decide +kernel))
    | 10, _ => exact va_eqt (z := 115) (hf (.eq (.elem (.field (.string "ParishChest$Clerk" 113) "java/lang/String" "value" "[B") (.int 10)) (.int 115)) (by decide +kernel))
    | 11, _ => exact va_eqt (z := 117) (hf (.eq (.elem (.field (.string "ParishChest$Clerk" 113) "java/lang/String" "value" "[B") (.int 11)) (.int 117)) (by decide +kernel))
    | 12, _ => exact va_eqt (z := 114) (hf (.eq (.elem (.field (.string "ParishChest$Clerk" 113) "java/lang/String" "value" "[B") (.int 12)) (.int 114)) (by decide +kernel))
    | 13, _ => exact va_eqt (z := 118) (hf (.eq (.elem (.field (.string "ParishChest$Clerk" 113) "java/lang/String" "value" "[B") (.int 13)) (.int 118)) (by decide +kernel))
    | 14, _ => exact va_eqt (z := 101) (hf (.eq (.elem (.field (.string "ParishChest$Clerk" 113) "java/lang/String" "value" "[B") (.int 14)) (.int 101)) (by decide +kernel))
    | 15, _ => exact va_eqt (z := 121) (hf (.eq (.elem (.field (.string "ParishChest$Clerk" 113) "java/lang/String" "value" "[B") (.int 15)) (.int 121)) (by decide +kernel))
    | 16, _ => exact va_eqt (z := 111) (hf (.eq (.elem (.field (.string "ParishChest$Clerk" 113) "java/lang/String" "value" "[B") (.int 16)) (.int 111)) (by decide +kernel))
    | 17, _ => exact va_eqt (z := 114) (hf (.eq (.elem (.field (.string "ParishChest$Clerk" 113) "java/lang/String" "value" "[B") (.int 17)) (.int 114)) (by decide +kernel))
    | 18, _ => exact va_eqt (z := 32) (hf (.eq (.elem (.field (.string "ParishChest$Clerk" 113) "java/lang/String" "value" "[B") (.int 18)) (.int 32)) (by decide +kernel))
    | 19, _ => exact va_eqt (z := 111) (hf (.eq (.elem (.field (.string "ParishChest$Clerk" 113) "java/lang/String" "value" "[B") (.int 19)) (.int 111)) (by decide +kernel))
    | 20, _ => exact va_eqt (z := 118) (hf (.eq (.elem (.field (.string "ParishChest$Clerk" 113) "java/lang/String" "value" "[B") (.int 20)) (.int 118)) (by decide +kernel))
    | 21, _ => exact va_eqt (z := 101) (hf (.eq (.elem (.field (.string "ParishChest$Clerk" 113) "java/lang/String" "value" "[B") (.int 21)) (.int 101)) (by decide +kernel))
    | 22, _ => exact va_eqt (z := 114) (hf (.eq (.elem (.field (.string "ParishChest$Clerk" 113) "java/lang/String" "value" "[B") (.int 22)) (.int 114)) (by decide +kernel))
    | 23, _ => exact va_eqt (z := 115) (hf (.eq (.elem (.field (.string "ParishChest$Clerk" 113) "java/lang/String" "value" "[B") (.int 23)) (.int 115)) (by decide +kernel))
    | 24, _ => exact va_eqt (z := 101) (hf (.eq (.elem (.field (.string "ParishChest$Clerk" 113) "java/lang/String" "value" "[B") (.int 24)) (.int 101)) (by decide +kernel))
    | 25, _ => exact va_eqt (z := 101) (hf (.eq (.elem (.field (.string "ParishChest$Clerk" 113) "java/lang/String" "value" "[B") (.int 25)) (.int 101)) (by decide +kernel))
    | 26, _ => exact va_eqt (z := 114) (hf (.eq (.elem (.field (.string "ParishChest$Clerk" 113) "java/lang/String" "value" "[B") (.int 26)) (.int 114)) (by decide +kernel))
    | 27, _ => exact va_eqt (z := 32) (hf (.eq (.elem (.field (.string "ParishChest$Clerk" 113) "java/lang/String" "value" "[B") (.int 27)) (.int 32)) (by decide +kernel))
    | 28, _ => exact va_eqt (z := 119) (hf (.eq (.elem (.field (.string "ParishChest$Clerk" 113) "java/lang/String" "value" "[B") (.int 28)) (.int 119)) (by decide +kernel))
    | 29, _ => exact va_eqt (z := 97) (hf (.eq (.elem (.field (.string "ParishChest$Clerk" 113) "java/lang/String" "value" "[B") (.int 29)) (.int 97)) (by decide +kernel))
    | 30, _ => exact va_eqt (z := 114) (hf (.eq (.elem (.field (.string "ParishChest$Clerk" 113) "java/lang/String" "value" "[B") (.int 30)) (.int 114)) (by decide +kernel))
    | 31, _ => exact va_eqt (z := 100) (hf (.eq (.elem (.field (.string "ParishChest$Clerk" 113) "java/lang/String" "value" "[B") (.int 31)) (.int 100)) (by decide +kernel))
    | 32, _ => exact va_eqt (z := 101) (hf (.eq (.elem (.field (.string "ParishChest$Clerk" 113) "java/lang/String" "value" "[B") (.int 32)) (.int 101)) (by decide +kernel))
    | 33, _ => exact va_eqt (z := 110) (hf (.eq (.elem (.field (.string "ParishChest$Clerk" 113) "java/lang/String" "value" "[B") (.int 33)) (.int 110)) (by decide +kernel))
    | 34, _ => exact va_eqt (z := 32) (hf (.eq (.elem (.field (.string "ParishChest$Clerk" 113) "java/lang/String" "value" "[B") (.int 34)) (.int 32)) (by decide +kernel))
    | n + 35, h => exact absurd h (by omega)) hA
  have ec := va_eqt (z := 0) (hf (.eq (.field (.string "ParishChest$Clerk" 113) "java/lang/String" "coder" "B") (.int 0)) (by decide +kernel))
  exact ⟨a, v, vk_R.of (hts _ (List.mem_of_getElem? (i := 1394) (by decide +kernel))) q1, (Array.getElem?_eq_some_iff.mp q3).1, (Array.getElem?_eq_some_iff.mp ht.choose_spec.1).1, va_Oof (hf (.exactly (.string "ParishChest$Clerk" 113) "java/lang/String") (by decide +kernel)) q1 hA, of_OF (of_field ec q1) hA, of_OF (of_field e q1) hA, ht⟩
set_option maxRecDepth 100000 in
theorem jsx_5 {s : State} {args : Array Value} (hts : ∀ w ∈ lw_tbl, w.before args s = true) (hs : (Jvm.Cond.and given_1 narrow_1).before args s = true) : ∃ a v : Nat, vk_R "ParishChest$Clerk" 115 "bell grave wedding " a s ∧ a < s.heap.size ∧ v < s.heap.size ∧ va_O "java/lang/String" a (fun x => s.heap.size ≤ x) s s.heap ∧ va_OF "java/lang/String" "coder" "B" (.int 0) a (fun x => s.heap.size ≤ x) s s.heap ∧ va_OF "java/lang/String" "value" "[B" (.ref v) a (fun x => s.heap.size ≤ x) s s.heap ∧ va_T .byte v 19 (fun j => .int ((jsB 5).getD j 0)) (fun x => s.heap.size ≤ x) s s.heap := by
  have hf := flat_of_before _ hs
  have hA : ∀ a : Nat, a < s.heap.size → ¬ s.heap.size ≤ a := fun a ha => Nat.not_le.mpr ha
  obtain ⟨a, c, cell, k, q1, q2, q3, -⟩ := Cond.exactly_spec (hf (.exactly (.string "ParishChest$Clerk" 115) "java/lang/String") (by decide +kernel))
  obtain ⟨v, e, ht⟩ := va_Tof (args := args) (s := s) (tm := (.field (.string "ParishChest$Clerk" 115) "java/lang/String" "value" "[B")) (ty := .byte) (N := 19) (f := fun j => .int ((jsB 5).getD j 0)) (A := fun x => s.heap.size ≤ x) (by decide) (hf _ (by decide +kernel)) (va_eqt (z := 19) (hf (.eq (.length (.field (.string "ParishChest$Clerk" 115) "java/lang/String" "value" "[B")) (.int 19)) (by decide +kernel))) (fun j hj => by
    match j, hj with
    | 0, _ => exact va_eqt (z := 98) (hf (.eq (.elem (.field (.string "ParishChest$Clerk" 115) "java/lang/String" "value" "[B") (.int 0)) (.int 98)) (by decide +kernel))
    | 1, _ => exact va_eqt (z := 101) (hf (.eq (.elem (.field (.string "ParishChest$Clerk" 115) "java/lang/String" "value" "[B") (.int 1)) (.int 101)) (by decide +kernel))
    | 2, _ => exact va_eqt (z := 108) (hf (.eq (.elem (.field (.string "ParishChest$Clerk" 115) "java/lang/String" "value" "[B") (.int 2)) (.int 108)) (by decide +kernel))
    | 3, _ => exact va_eqt (z := 108) (hf (.eq (.elem (.field (.string "ParishChest$Clerk" 115) "java/lang/String" "value" "[B") (.int 3)) (.int 108)) (by decide +kernel))
    | 4, _ => exact va_eqt (z := 32) (hf (.eq (.elem (.field (.string "ParishChest$Clerk" 115) "java/lang/String" "value" "[B") (.int 4)) (.int 32)) (by decide +kernel))
    | 5, _ => exact va_eqt (z := 103) (hf (.eq (.elem (.field (.string "ParishChest$Clerk" 115) "java/lang/String" "value" "[B") (.int 5)) (.int 103)) (by decide +kernel))
    | 6, _ => exact va_eqt (z := 114) (hf (.eq (.elem (.field (.string "ParishChest$Clerk" 115) "java/lang/String" "value" "[B") (.int 6)) (.int 114)) (by decide +kernel))
    | 7, _ => exact va_eqt (z := 97) (hf (.eq (.elem (.field (.string "ParishChest$Clerk" 115) "java/lang/String" "value" "[B") (.int 7)) (.int 97)) (by decide +kernel))
    | 8, _ => exact va_eqt (z := 118) (hf (.eq (.elem (.field (.string "ParishChest$Clerk" 115) "java/lang/String" "value" "[B") (.int 8)) (.int 118)) (by decide +kernel))
    | 9, _ => exact va_eqt (z := 101) (hf (.eq (.elem (.field (.string "ParishChest$Clerk" 115) "java/lang/String" "value" "[B") (.int 9)) (.int 101)) (by decide +kernel))
    | 10, _ => exact va_eqt (z := 32) (hf (.eq (.elem (.field (.string "ParishChest$Clerk" 115) "java/lang/String" "value" "[B") (.int 10)) (.int 32)) (by decide +kernel))
    | 11, _ => exact va_eqt (z := 119) (hf (.eq (.elem (.field (.string "ParishChest$Clerk" 115) "java/lang/String" "value" "[B") (.int 11)) (.int 119)) (by decide +kernel))
    | 12, _ => exact va_eqt (z := 101) (hf (.eq (.elem (.field (.string "ParishChest$Clerk" 115) "java/lang/String" "value" "[B") (.int 12)) (.int 101)) (by decide +kernel))
    | 13, _ => exact va_eqt (z := 100) (hf (.eq (.elem (.field (.string "ParishChest$Clerk" 115) "java/lang/String" "value" "[B") (.int 13)) (.int 100)) (by decide +kernel))
    | 14, _ => exact va_eqt (z := 100) (hf (.eq (.elem (.field (.string "ParishChest$Clerk" 115) "java/lang/String" "value" "[B") (.int 14)) (.int 100)) (by decide +kernel))
    | 15, _ => exact va_eqt (z := 105) (hf (.eq (.elem (.field (.string "ParishChest$Clerk" 115) "java/lang/String" "value" "[B") (.int 15)) (.int 105)) (by decide +kernel))
    | 16, _ => exact va_eqt (z := 110) (hf (.eq (.elem (.field (.string "ParishChest$Clerk" 115) "java/lang/String" "value" "[B") (.int 16)) (.int 110)) (by decide +kernel))
    | 17, _ => exact va_eqt (z := 103) (hf (.eq (.elem (.field (.string "ParishChest$Clerk" 115) "java/lang/String" "value" "[B") (.int 17)) (.int 103)) (by decide +kernel))
    | 18, _ => exact va_eqt (z := 32) (hf (.eq (.elem (.field (.string "ParishChest$Clerk" 115) "java/lang/String" "value" "[B") (.int 18)) (.int 32)) (by decide +kernel))
    | n + 19, h => exact absurd h (by omega)) hA
  have ec := va_eqt (z := 0) (hf (.eq (.field (.string "ParishChest$Clerk" 115) "java/lang/String" "coder" "B") (.int 0)) (by decide +kernel))
  exact ⟨a, v, vk_R.of (hts _ (List.mem_of_getElem? (i := 1395) (by decide +kernel))) q1, (Array.getElem?_eq_some_iff.mp q3).1, (Array.getElem?_eq_some_iff.mp ht.choose_spec.1).1, va_Oof (hf (.exactly (.string "ParishChest$Clerk" 115) "java/lang/String") (by decide +kernel)) q1 hA, of_OF (of_field ec q1) hA, of_OF (of_field e q1) hA, ht⟩
set_option maxRecDepth 100000 in
theorem jsx_6 {s : State} {args : Array Value} (hts : ∀ w ∈ lw_tbl, w.before args s = true) (hs : (Jvm.Cond.and given_1 narrow_1).before args s = true) : ∃ a v : Nat, vk_R "ParishChest$Clerk" 148 "age children value years relieved " a s ∧ a < s.heap.size ∧ v < s.heap.size ∧ va_O "java/lang/String" a (fun x => s.heap.size ≤ x) s s.heap ∧ va_OF "java/lang/String" "coder" "B" (.int 0) a (fun x => s.heap.size ≤ x) s s.heap ∧ va_OF "java/lang/String" "value" "[B" (.ref v) a (fun x => s.heap.size ≤ x) s s.heap ∧ va_T .byte v 34 (fun j => .int ((jsB 6).getD j 0)) (fun x => s.heap.size ≤ x) s s.heap := by
  have hf := flat_of_before _ hs
  have hA : ∀ a : Nat, a < s.heap.size → ¬ s.heap.size ≤ a := fun a ha => Nat.not_le.mpr ha
  obtain ⟨a, c, cell, k, q1, q2, q3, -⟩ := Cond.exactly_spec (hf (.exactly (.string "ParishChest$Clerk" 148) "java/lang/String") (by decide +kernel))
  obtain ⟨v, e, ht⟩ := va_Tof (args := args) (s := s) (tm := (.field (.string "ParishChest$Clerk" 148) "java/lang/String" "value" "[B")) (ty := .byte) (N := 34) (f := fun j => .int ((jsB 6).getD j 0)) (A := fun x => s.heap.size ≤ x) (by decide) (hf _ (by decide +kernel)) (va_eqt (z := 34) (hf (.eq (.length (.field (.string "ParishChest$Clerk" 148) "java/lang/String" "value" "[B")) (.int 34)) (by decide +kernel))) (fun j hj => by
    match j, hj with
    | 0, _ => exact va_eqt (z := 97) (hf (.eq (.elem (.field (.string "ParishChest$Clerk" 148) "java/lang/String" "value" "[B") (.int 0)) (.int 97)) (by decide +kernel))
    | 1, _ => exact va_eqt (z := 103) (hf (.eq (.elem (.field (.string "ParishChest$Clerk" 148) "java/lang/String" "value" "[B") (.int 1)) (.int 103)) (by decide +kernel))
    | 2, _ => exact va_eqt (z := 101) (hf (.eq (.elem (.field (.string "ParishChest$Clerk" 148) "java/lang/String" "value" "[B") (.int 2)) (.int 101)) (by decide +kernel))
    | 3, _ => exact va_eqt (z := 32) (hf (.eq (.elem (.field (.string "ParishChest$Clerk" 148) "java/lang/String" "value" "[B") (.int 3)) (.int 32)) (by decide +kernel))
    | 4, _ => exact va_eqt (z := 99) (hf (.eq (.elem (.field (.string "ParishChest$Clerk" 148) "java/lang/String" "value" "[B") (.int 4)) (.int 99)) (by decide +kernel))
    | 5, _ => exact va_eqt (z := 104) (hf (.eq (.elem (.field (.string "ParishChest$Clerk" 148) "java/lang/String" "value" "[B") (.int 5)) (.int 104)) (by decide +kernel))
    | 6, _ => exact va_eqt (z := 105) (hf (.eq (.elem (.field (.string "ParishChest$Clerk" 148) "java/lang/String" "value" "[B") (.int 6)) (.int 105)) (by decide +kernel))
    | 7, _ => exact va_eqt (z := 108) (hf (.eq (.elem (.field (.string "ParishChest$Clerk" 148) "java/lang/String" "value" "[B") (.int 7)) (.int 108)) (by decide +kernel))
    | 8, _ => exact va_eqt (z := 100) (hf (.eq (.elem (.field (.string "ParishChest$Clerk" 148) "java/lang/String" "value" "[B") (.int 8)) (.int 100)) (by decide +kernel))
    | 9, _ => exact va_eqt (z := 114) (hf (.eq (.elem (.field (.string "ParishChest$Clerk" 148) "java/lang/String" "value" "[B") (.int 9)) (.int 114)) (by decide +kernel))
    | 10, _ => exact va_eqt (z := 101) (hf (.eq (.elem (.field (.string "ParishChest$Clerk" 148) "java/lang/String" "value" "[B") (.int 10)) (.int 101)) (by decide +kernel))
    | 11, _ => exact va_eqt (z := 110) (hf (.eq (.elem (.field (.string "ParishChest$Clerk" 148) "java/lang/String" "value" "[B") (.int 11)) (.int 110)) (by decide +kernel))
    | 12, _ => exact va_eqt (z := 32) (hf (.eq (.elem (.field (.string "ParishChest$Clerk" 148) "java/lang/String" "value" "[B") (.int 12)) (.int 32)) (by decide +kernel))
    | 13, _ => exact va_eqt (z := 118) (hf (.eq (.elem (.field (.string "ParishChest$Clerk" 148) "java/lang/String" "value" "[B") (.int 13)) (.int 118)) (by decide +kernel))
    | 14, _ => exact va_eqt (z := 97) (hf (.eq (.elem (.field (.string "ParishChest$Clerk" 148) "java/lang/String" "value" "[B") (.int 14)) (.int 97)) (by decide +kernel))
    | 15, _ => exact va_eqt (z := 108) (hf (.eq (.elem (.field (.string "ParishChest$Clerk" 148) "java/lang/String" "value" "[B") (.int 15)) (.int 108)) (by decide +kernel))
    | 16, _ => exact va_eqt (z := 117) (hf (.eq (.elem (.field (.string "ParishChest$Clerk" 148) "java/lang/String" "value" "[B") (.int 16)) (.int 117)) (by decide +kernel))
    | 17, _ => exact va_eqt (z := 101) (hf (.eq (.elem (.field (.string "ParishChest$Clerk" 148) "java/lang/String" "value" "[B") (.int 17)) (.int 101)) (by decide +kernel))
    | 18, _ => exact va_eqt (z := 32) (hf (.eq (.elem (.field (.string "ParishChest$Clerk" 148) "java/lang/String" "value" "[B") (.int 18)) (.int 32)) (by decide +kernel))
    | 19, _ => exact va_eqt (z := 121) (hf (.eq (.elem (.field (.string "ParishChest$Clerk" 148) "java/lang/String" "value" "[B") (.int 19)) (.int 121)) (by decide +kernel))
    | 20, _ => exact va_eqt (z := 101) (hf (.eq (.elem (.field (.string "ParishChest$Clerk" 148) "java/lang/String" "value" "[B") (.int 20)) (.int 101)) (by decide +kernel))
    | 21, _ => exact va_eqt (z := 97) (hf (.eq (.elem (.field (.string "ParishChest$Clerk" 148) "java/lang/String" "value" "[B") (.int 21)) (.int 97)) (by decide +kernel))
    | 22, _ => exact va_eqt (z := 114) (hf (.eq (.elem (.field (.string "ParishChest$Clerk" 148) "java/lang/String" "value" "[B") (.int 22)) (.int 114)) (by decide +kernel))
    | 23, _ => exact va_eqt (z := 115) (hf (.eq (.elem (.field (.string "ParishChest$Clerk" 148) "java/lang/String" "value" "[B") (.int 23)) (.int 115)) (by decide +kernel))
    | 24, _ => exact va_eqt (z := 32) (hf (.eq (.elem (.field (.string "ParishChest$Clerk" 148) "java/lang/String" "value" "[B") (.int 24)) (.int 32)) (by decide +kernel))
    | 25, _ => exact va_eqt (z := 114) (hf (.eq (.elem (.field (.string "ParishChest$Clerk" 148) "java/lang/String" "value" "[B") (.int 25)) (.int 114)) (by decide +kernel))
    | 26, _ => exact va_eqt (z := 101) (hf (.eq (.elem (.field (.string "ParishChest$Clerk" 148) "java/lang/String" "value" "[B") (.int 26)) (.int 101)) (by decide +kernel))
    | 27, _ => exact va_eqt (z := 108) (hf (.eq (.elem (.field (.string "ParishChest$Clerk" 148) "java/lang/String" "value" "[B") (.int 27)) (.int 108)) (by decide +kernel))
    | 28, _ => exact va_eqt (z := 105) (hf (.eq (.elem (.field (.string "ParishChest$Clerk" 148) "java/lang/String" "value" "[B") (.int 28)) (.int 105)) (by decide +kernel))
    | 29, _ => exact va_eqt (z := 101) (hf (.eq (.elem (.field (.string "ParishChest$Clerk" 148) "java/lang/String" "value" "[B") (.int 29)) (.int 101)) (by decide +kernel))
    | 30, _ => exact va_eqt (z := 118) (hf (.eq (.elem (.field (.string "ParishChest$Clerk" 148) "java/lang/String" "value" "[B") (.int 30)) (.int 118)) (by decide +kernel))
    | 31, _ => exact va_eqt (z := 101) (hf (.eq (.elem (.field (.string "ParishChest$Clerk" 148) "java/lang/String" "value" "[B") (.int 31)) (.int 101)) (by decide +kernel))
    | 32, _ => exact va_eqt (z := 100) (hf (.eq (.elem (.field (.string "ParishChest$Clerk" 148) "java/lang/String" "value" "[B") (.int 32)) (.int 100)) (by decide +kernel))
    | 33, _ => exact va_eqt (z := 32) (hf (.eq (.elem (.field (.string "ParishChest$Clerk" 148) "java/lang/String" "value" "[B") (.int 33)) (.int 32)) (by decide +kernel))
    | n + 34, h => exact absurd h (by omega)) hA
  have ec := va_eqt (z := 0) (hf (.eq (.field (.string "ParishChest$Clerk" 148) "java/lang/String" "coder" "B") (.int 0)) (by decide +kernel))
  exact ⟨a, v, vk_R.of (hts _ (List.mem_of_getElem? (i := 1418) (by decide +kernel))) q1, (Array.getElem?_eq_some_iff.mp q3).1, (Array.getElem?_eq_some_iff.mp ht.choose_spec.1).1, va_Oof (hf (.exactly (.string "ParishChest$Clerk" 148) "java/lang/String") (by decide +kernel)) q1 hA, of_OF (of_field ec q1) hA, of_OF (of_field e q1) hA, ht⟩
set_option maxRecDepth 100000 in
theorem jsx_7 {s : State} {args : Array Value} (hts : ∀ w ∈ lw_tbl, w.before args s = true) (hs : (Jvm.Cond.and given_1 narrow_1).before args s = true) : ∃ a v : Nat, vk_R "ParishChest$Clerk" 92 "if " a s ∧ a < s.heap.size ∧ v < s.heap.size ∧ va_O "java/lang/String" a (fun x => s.heap.size ≤ x) s s.heap ∧ va_OF "java/lang/String" "coder" "B" (.int 0) a (fun x => s.heap.size ≤ x) s s.heap ∧ va_OF "java/lang/String" "value" "[B" (.ref v) a (fun x => s.heap.size ≤ x) s s.heap ∧ va_T .byte v 3 (fun j => .int ((jsB 7).getD j 0)) (fun x => s.heap.size ≤ x) s s.heap := by
  have hf := flat_of_before _ hs
  have hA : ∀ a : Nat, a < s.heap.size → ¬ s.heap.size ≤ a := fun a ha => Nat.not_le.mpr ha
  obtain ⟨a, c, cell, k, q1, q2, q3, -⟩ := Cond.exactly_spec (hf (.exactly (.string "ParishChest$Clerk" 92) "java/lang/String") (by decide +kernel))
  obtain ⟨v, e, ht⟩ := va_Tof (args := args) (s := s) (tm := (.field (.string "ParishChest$Clerk" 92) "java/lang/String" "value" "[B")) (ty := .byte) (N := 3) (f := fun j => .int ((jsB 7).getD j 0)) (A := fun x => s.heap.size ≤ x) (by decide) (hf _ (by decide +kernel)) (va_eqt (z := 3) (hf (.eq (.length (.field (.string "ParishChest$Clerk" 92) "java/lang/String" "value" "[B")) (.int 3)) (by decide +kernel))) (fun j hj => by
    match j, hj with
    | 0, _ => exact va_eqt (z := 105) (hf (.eq (.elem (.field (.string "ParishChest$Clerk" 92) "java/lang/String" "value" "[B") (.int 0)) (.int 105)) (by decide +kernel))
    | 1, _ => exact va_eqt (z := 102) (hf (.eq (.elem (.field (.string "ParishChest$Clerk" 92) "java/lang/String" "value" "[B") (.int 1)) (.int 102)) (by decide +kernel))
    | 2, _ => exact va_eqt (z := 32) (hf (.eq (.elem (.field (.string "ParishChest$Clerk" 92) "java/lang/String" "value" "[B") (.int 2)) (.int 32)) (by decide +kernel))
    | n + 3, h => exact absurd h (by omega)) hA
  have ec := va_eqt (z := 0) (hf (.eq (.field (.string "ParishChest$Clerk" 92) "java/lang/String" "coder" "B") (.int 0)) (by decide +kernel))
  exact ⟨a, v, vk_R.of (hts _ (List.mem_of_getElem? (i := 1419) (by decide +kernel))) q1, (Array.getElem?_eq_some_iff.mp q3).1, (Array.getElem?_eq_some_iff.mp ht.choose_spec.1).1, va_Oof (hf (.exactly (.string "ParishChest$Clerk" 92) "java/lang/String") (by decide +kernel)) q1 hA, of_OF (of_field ec q1) hA, of_OF (of_field e q1) hA, ht⟩
set_option maxRecDepth 100000 in
theorem jsx_8 {s : State} {args : Array Value} (hts : ∀ w ∈ lw_tbl, w.before args s = true) (hs : (Jvm.Cond.and given_1 narrow_1).before args s = true) : ∃ a v : Nat, vk_R "ParishChest$Clerk" 94 "unless " a s ∧ a < s.heap.size ∧ v < s.heap.size ∧ va_O "java/lang/String" a (fun x => s.heap.size ≤ x) s s.heap ∧ va_OF "java/lang/String" "coder" "B" (.int 0) a (fun x => s.heap.size ≤ x) s s.heap ∧ va_OF "java/lang/String" "value" "[B" (.ref v) a (fun x => s.heap.size ≤ x) s s.heap ∧ va_T .byte v 7 (fun j => .int ((jsB 8).getD j 0)) (fun x => s.heap.size ≤ x) s s.heap := by
  have hf := flat_of_before _ hs
  have hA : ∀ a : Nat, a < s.heap.size → ¬ s.heap.size ≤ a := fun a ha => Nat.not_le.mpr ha
  obtain ⟨a, c, cell, k, q1, q2, q3, -⟩ := Cond.exactly_spec (hf (.exactly (.string "ParishChest$Clerk" 94) "java/lang/String") (by decide +kernel))
  obtain ⟨v, e, ht⟩ := va_Tof (args := args) (s := s) (tm := (.field (.string "ParishChest$Clerk" 94) "java/lang/String" "value" "[B")) (ty := .byte) (N := 7) (f := fun j => .int ((jsB 8).getD j 0)) (A := fun x => s.heap.size ≤ x) (by decide) (hf _ (by decide +kernel)) (va_eqt (z := 7) (hf (.eq (.length (.field (.string "ParishChest$Clerk" 94) "java/lang/String" "value" "[B")) (.int 7)) (by decide +kernel))) (fun j hj => by
    match j, hj with
    | 0, _ => exact va_eqt (z := 117) (hf (.eq (.elem (.field (.string "ParishChest$Clerk" 94) "java/lang/String" "value" "[B") (.int 0)) (.int 117)) (by decide +kernel))
    | 1, _ => exact va_eqt (z := 110) (hf (.eq (.elem (.field (.string "ParishChest$Clerk" 94) "java/lang/String" "value" "[B") (.int 1)) (.int 110)) (by decide +kernel))
    | 2, _ => exact va_eqt (z := 108) (hf (.eq (.elem (.field (.string "ParishChest$Clerk" 94) "java/lang/String" "value" "[B") (.int 2)) (.int 108)) (by decide +kernel))
    | 3, _ => exact va_eqt (z := 101) (hf (.eq (.elem (.field (.string "ParishChest$Clerk" 94) "java/lang/String" "value" "[B") (.int 3)) (.int 101)) (by decide +kernel))
    | 4, _ => exact va_eqt (z := 115) (hf (.eq (.elem (.field (.string "ParishChest$Clerk" 94) "java/lang/String" "value" "[B") (.int 4)) (.int 115)) (by decide +kernel))
    | 5, _ => exact va_eqt (z := 115) (hf (.eq (.elem (.field (.string "ParishChest$Clerk" 94) "java/lang/String" "value" "[B") (.int 5)) (.int 115)) (by decide +kernel))
    | 6, _ => exact va_eqt (z := 32) (hf (.eq (.elem (.field (.string "ParishChest$Clerk" 94) "java/lang/String" "value" "[B") (.int 6)) (.int 32)) (by decide +kernel))
    | n + 7, h => exact absurd h (by omega)) hA
  have ec := va_eqt (z := 0) (hf (.eq (.field (.string "ParishChest$Clerk" 94) "java/lang/String" "coder" "B") (.int 0)) (by decide +kernel))
  exact ⟨a, v, vk_R.of (hts _ (List.mem_of_getElem? (i := 1420) (by decide +kernel))) q1, (Array.getElem?_eq_some_iff.mp q3).1, (Array.getElem?_eq_some_iff.mp ht.choose_spec.1).1, va_Oof (hf (.exactly (.string "ParishChest$Clerk" 94) "java/lang/String") (by decide +kernel)) q1 hA, of_OF (of_field ec q1) hA, of_OF (of_field e q1) hA, ht⟩
set_option maxRecDepth 100000 in
theorem jsx_9 {s : State} {args : Array Value} (hts : ∀ w ∈ lw_tbl, w.before args s = true) (hs : (Jvm.Cond.and given_1 narrow_1).before args s = true) : ∃ a v : Nat, vk_R "ParishChest$Clerk" 134 "not " a s ∧ a < s.heap.size ∧ v < s.heap.size ∧ va_O "java/lang/String" a (fun x => s.heap.size ≤ x) s s.heap ∧ va_OF "java/lang/String" "coder" "B" (.int 0) a (fun x => s.heap.size ≤ x) s s.heap ∧ va_OF "java/lang/String" "value" "[B" (.ref v) a (fun x => s.heap.size ≤ x) s s.heap ∧ va_T .byte v 4 (fun j => .int ((jsB 9).getD j 0)) (fun x => s.heap.size ≤ x) s s.heap := by
  have hf := flat_of_before _ hs
  have hA : ∀ a : Nat, a < s.heap.size → ¬ s.heap.size ≤ a := fun a ha => Nat.not_le.mpr ha
  obtain ⟨a, c, cell, k, q1, q2, q3, -⟩ := Cond.exactly_spec (hf (.exactly (.string "ParishChest$Clerk" 134) "java/lang/String") (by decide +kernel))
  obtain ⟨v, e, ht⟩ := va_Tof (args := args) (s := s) (tm := (.field (.string "ParishChest$Clerk" 134) "java/lang/String" "value" "[B")) (ty := .byte) (N := 4) (f := fun j => .int ((jsB 9).getD j 0)) (A := fun x => s.heap.size ≤ x) (by decide) (hf _ (by decide +kernel)) (va_eqt (z := 4) (hf (.eq (.length (.field (.string "ParishChest$Clerk" 134) "java/lang/String" "value" "[B")) (.int 4)) (by decide +kernel))) (fun j hj => by
    match j, hj with
    | 0, _ => exact va_eqt (z := 110) (hf (.eq (.elem (.field (.string "ParishChest$Clerk" 134) "java/lang/String" "value" "[B") (.int 0)) (.int 110)) (by decide +kernel))
    | 1, _ => exact va_eqt (z := 111) (hf (.eq (.elem (.field (.string "ParishChest$Clerk" 134) "java/lang/String" "value" "[B") (.int 1)) (.int 111)) (by decide +kernel))
    | 2, _ => exact va_eqt (z := 116) (hf (.eq (.elem (.field (.string "ParishChest$Clerk" 134) "java/lang/String" "value" "[B") (.int 2)) (.int 116)) (by decide +kernel))
    | 3, _ => exact va_eqt (z := 32) (hf (.eq (.elem (.field (.string "ParishChest$Clerk" 134) "java/lang/String" "value" "[B") (.int 3)) (.int 32)) (by decide +kernel))
    | n + 4, h => exact absurd h (by omega)) hA
  have ec := va_eqt (z := 0) (hf (.eq (.field (.string "ParishChest$Clerk" 134) "java/lang/String" "coder" "B") (.int 0)) (by decide +kernel))
  exact ⟨a, v, vk_R.of (hts _ (List.mem_of_getElem? (i := 1429) (by decide +kernel))) q1, (Array.getElem?_eq_some_iff.mp q3).1, (Array.getElem?_eq_some_iff.mp ht.choose_spec.1).1, va_Oof (hf (.exactly (.string "ParishChest$Clerk" 134) "java/lang/String") (by decide +kernel)) q1 hA, of_OF (of_field ec q1) hA, of_OF (of_field e q1) hA, ht⟩
set_option maxRecDepth 100000 in
theorem jsx_10 {s : State} {args : Array Value} (hts : ∀ w ∈ lw_tbl, w.before args s = true) (hs : (Jvm.Cond.and given_1 narrow_1).before args s = true) : ∃ a v : Nat, vk_R "ParishChest$Clerk" 136 "married dead poor holds certified " a s ∧ a < s.heap.size ∧ v < s.heap.size ∧ va_O "java/lang/String" a (fun x => s.heap.size ≤ x) s s.heap ∧ va_OF "java/lang/String" "coder" "B" (.int 0) a (fun x => s.heap.size ≤ x) s s.heap ∧ va_OF "java/lang/String" "value" "[B" (.ref v) a (fun x => s.heap.size ≤ x) s s.heap ∧ va_T .byte v 34 (fun j => .int ((jsB 10).getD j 0)) (fun x => s.heap.size ≤ x) s s.heap := by
  have hf := flat_of_before _ hs
  have hA : ∀ a : Nat, a < s.heap.size → ¬ s.heap.size ≤ a := fun a ha => Nat.not_le.mpr ha
  obtain ⟨a, c, cell, k, q1, q2, q3, -⟩ := Cond.exactly_spec (hf (.exactly (.string "ParishChest$Clerk" 136) "java/lang/String") (by decide +kernel))
  obtain ⟨v, e, ht⟩ := va_Tof (args := args) (s := s) (tm := (.field (.string "ParishChest$Clerk" 136) "java/lang/String" "value" "[B")) (ty := .byte) (N := 34) (f := fun j => .int ((jsB 10).getD j 0)) (A := fun x => s.heap.size ≤ x) (by decide) (hf _ (by decide +kernel)) (va_eqt (z := 34) (hf (.eq (.length (.field (.string "ParishChest$Clerk" 136) "java/lang/String" "value" "[B")) (.int 34)) (by decide +kernel))) (fun j hj => by
    match j, hj with
    | 0, _ => exact va_eqt (z := 109) (hf (.eq (.elem (.field (.string "ParishChest$Clerk" 136) "java/lang/String" "value" "[B") (.int 0)) (.int 109)) (by decide +kernel))
    | 1, _ => exact va_eqt (z := 97) (hf (.eq (.elem (.field (.string "ParishChest$Clerk" 136) "java/lang/String" "value" "[B") (.int 1)) (.int 97)) (by decide +kernel))
    | 2, _ => exact va_eqt (z := 114) (hf (.eq (.elem (.field (.string "ParishChest$Clerk" 136) "java/lang/String" "value" "[B") (.int 2)) (.int 114)) (by decide +kernel))
    | 3, _ => exact va_eqt (z := 114) (hf (.eq (.elem (.field (.string "ParishChest$Clerk" 136) "java/lang/String" "value" "[B") (.int 3)) (.int 114)) (by decide +kernel))
    | 4, _ => exact va_eqt (z := 105) (hf (.eq (.elem (.field (.string "ParishChest$Clerk" 136) "java/lang/String" "value" "[B") (.int 4)) (.int 105)) (by decide +kernel))
    | 5, _ => exact va_eqt (z := 101) (hf (.eq (.elem (.field (.string "ParishChest$Clerk" 136) "java/lang/String" "value" "[B") (.int 5)) (.int 101)) (by decide +kernel))
    | 6, _ => exact va_eqt (z := 100) (hf (.eq (.elem (.field (.string "ParishChest$Clerk" 136) "java/lang/String" "value" "[B") (.int 6)) (.int 100)) (by decide +kernel))
    | 7, _ => exact va_eqt (z := 32) (hf (.eq (.elem (.field (.string "ParishChest$Clerk" 136) "java/lang/String" "value" "[B") (.int 7)) (.int 32)) (by decide +kernel))
    | 8, _ => exact va_eqt (z := 100) (hf (.eq (.elem (.field (.string "ParishChest$Clerk" 136) "java/lang/String" "value" "[B") (.int 8)) (.int 100)) (by decide +kernel))
    | 9, _ => exact va_eqt (z := 101) (hf (.eq (.elem (.field (.string "ParishChest$Clerk" 136) "java/lang/String" "value" "[B") (.int 9)) (.int 101)) (by decide +kernel))
    | 10, _ => exact va_eqt (z := 97) (hf (.eq (.elem (.field (.string "ParishChest$Clerk" 136) "java/lang/String" "value" "[B") (.int 10)) (.int 97)) (by decide +kernel))
    | 11, _ => exact va_eqt (z := 100) (hf (.eq (.elem (.field (.string "ParishChest$Clerk" 136) "java/lang/String" "value" "[B") (.int 11)) (.int 100)) (by decide +kernel))
    | 12, _ => exact va_eqt (z := 32) (hf (.eq (.elem (.field (.string "ParishChest$Clerk" 136) "java/lang/String" "value" "[B") (.int 12)) (.int 32)) (by decide +kernel))
    | 13, _ => exact va_eqt (z := 112) (hf (.eq (.elem (.field (.string "ParishChest$Clerk" 136) "java/lang/String" "value" "[B") (.int 13)) (.int 112)) (by decide +kernel))
    | 14, _ => exact va_eqt (z := 111) (hf (.eq (.elem (.field (.string "ParishChest$Clerk" 136) "java/lang/String" "value" "[B") (.int 14)) (.int 111)) (by decide +kernel))
    | 15, _ => exact va_eqt (z := 111) (hf (.eq (.elem (.field (.string "ParishChest$Clerk" 136) "java/lang/String" "value" "[B") (.int 15)) (.int 111)) (by decide +kernel))
    | 16, _ => exact va_eqt (z := 114) (hf (.eq (.elem (.field (.string "ParishChest$Clerk" 136) "java/lang/String" "value" "[B") (.int 16)) (.int 114)) (by decide +kernel))
    | 17, _ => exact va_eqt (z := 32) (hf (.eq (.elem (.field (.string "ParishChest$Clerk" 136) "java/lang/String" "value" "[B") (.int 17)) (.int 32)) (by decide +kernel))
    | 18, _ => exact va_eqt (z := 104) (hf (.eq (.elem (.field (.string "ParishChest$Clerk" 136) "java/lang/String" "value" "[B") (.int 18)) (.int 104)) (by decide +kernel))
    | 19, _ => exact va_eqt (z := 111) (hf (.eq (.elem (.field (.string "ParishChest$Clerk" 136) "java/lang/String" "value" "[B") (.int 19)) (.int 111)) (by decide +kernel))
    | 20, _ => exact va_eqt (z := 108) (hf (.eq (.elem (.field (.string "ParishChest$Clerk" 136) "java/lang/String" "value" "[B") (.int 20)) (.int 108)) (by decide +kernel))
    | 21, _ => exact va_eqt (z := 100) (hf (.eq (.elem (.field (.string "ParishChest$Clerk" 136) "java/lang/String" "value" "[B") (.int 21)) (.int 100)) (by decide +kernel))
    | 22, _ => exact va_eqt (z := 115) (hf (.eq (.elem (.field (.string "ParishChest$Clerk" 136) "java/lang/String" "value" "[B") (.int 22)) (.int 115)) (by decide +kernel))
    | 23, _ => exact va_eqt (z := 32) (hf (.eq (.elem (.field (.string "ParishChest$Clerk" 136) "java/lang/String" "value" "[B") (.int 23)) (.int 32)) (by decide +kernel))
    | 24, _ => exact va_eqt (z := 99) (hf (.eq (.elem (.field (.string "ParishChest$Clerk" 136) "java/lang/String" "value" "[B") (.int 24)) (.int 99)) (by decide +kernel))
    | 25, _ => exact va_eqt (z := 101) (hf (.eq (.elem (.field (.string "ParishChest$Clerk" 136) "java/lang/String" "value" "[B") (.int 25)) (.int 101)) (by decide +kernel))
    | 26, _ => exact va_eqt (z := 114) (hf (.eq (.elem (.field (.string "ParishChest$Clerk" 136) "java/lang/String" "value" "[B") (.int 26)) (.int 114)) (by decide +kernel))
    | 27, _ => exact va_eqt (z := 116) (hf (.eq (.elem (.field (.string "ParishChest$Clerk" 136) "java/lang/String" "value" "[B") (.int 27)) (.int 116)) (by decide +kernel))
    | 28, _ => exact va_eqt (z := 105) (hf (.eq (.elem (.field (.string "ParishChest$Clerk" 136) "java/lang/String" "value" "[B") (.int 28)) (.int 105)) (by decide +kernel))
    | 29, _ => exact va_eqt (z := 102) (hf (.eq (.elem (.field (.string "ParishChest$Clerk" 136) "java/lang/String" "value" "[B") (.int 29)) (.int 102)) (by decide +kernel))
    | 30, _ => exact va_eqt (z := 105) (hf (.eq (.elem (.field (.string "ParishChest$Clerk" 136) "java/lang/String" "value" "[B") (.int 30)) (.int 105)) (by decide +kernel))
    | 31, _ => exact va_eqt (z := 101) (hf (.eq (.elem (.field (.string "ParishChest$Clerk" 136) "java/lang/String" "value" "[B") (.int 31)) (.int 101)) (by decide +kernel))
    | 32, _ => exact va_eqt (z := 100) (hf (.eq (.elem (.field (.string "ParishChest$Clerk" 136) "java/lang/String" "value" "[B") (.int 32)) (.int 100)) (by decide +kernel))
    | 33, _ => exact va_eqt (z := 32) (hf (.eq (.elem (.field (.string "ParishChest$Clerk" 136) "java/lang/String" "value" "[B") (.int 33)) (.int 32)) (by decide +kernel))
    | n + 34, h => exact absurd h (by omega)) hA
  have ec := va_eqt (z := 0) (hf (.eq (.field (.string "ParishChest$Clerk" 136) "java/lang/String" "coder" "B") (.int 0)) (by decide +kernel))
  exact ⟨a, v, vk_R.of (hts _ (List.mem_of_getElem? (i := 1430) (by decide +kernel))) q1, (Array.getElem?_eq_some_iff.mp q3).1, (Array.getElem?_eq_some_iff.mp ht.choose_spec.1).1, va_Oof (hf (.exactly (.string "ParishChest$Clerk" 136) "java/lang/String") (by decide +kernel)) q1 hA, of_OF (of_field ec q1) hA, of_OF (of_field e q1) hA, ht⟩
set_option maxRecDepth 100000 in
theorem jsx_11 {s : State} {args : Array Value} (hts : ∀ w ∈ lw_tbl, w.before args s = true) (hs : (Jvm.Cond.and given_1 narrow_1).before args s = true) : ∃ a v : Nat, vk_R "ParishChest$Clerk" 127 "and " a s ∧ a < s.heap.size ∧ v < s.heap.size ∧ va_O "java/lang/String" a (fun x => s.heap.size ≤ x) s s.heap ∧ va_OF "java/lang/String" "coder" "B" (.int 0) a (fun x => s.heap.size ≤ x) s s.heap ∧ va_OF "java/lang/String" "value" "[B" (.ref v) a (fun x => s.heap.size ≤ x) s s.heap ∧ va_T .byte v 4 (fun j => .int ((jsB 11).getD j 0)) (fun x => s.heap.size ≤ x) s s.heap := by
  have hf := flat_of_before _ hs
  have hA : ∀ a : Nat, a < s.heap.size → ¬ s.heap.size ≤ a := fun a ha => Nat.not_le.mpr ha
  obtain ⟨a, c, cell, k, q1, q2, q3, -⟩ := Cond.exactly_spec (hf (.exactly (.string "ParishChest$Clerk" 127) "java/lang/String") (by decide +kernel))
  obtain ⟨v, e, ht⟩ := va_Tof (args := args) (s := s) (tm := (.field (.string "ParishChest$Clerk" 127) "java/lang/String" "value" "[B")) (ty := .byte) (N := 4) (f := fun j => .int ((jsB 11).getD j 0)) (A := fun x => s.heap.size ≤ x) (by decide) (hf _ (by decide +kernel)) (va_eqt (z := 4) (hf (.eq (.length (.field (.string "ParishChest$Clerk" 127) "java/lang/String" "value" "[B")) (.int 4)) (by decide +kernel))) (fun j hj => by
    match j, hj with
    | 0, _ => exact va_eqt (z := 97) (hf (.eq (.elem (.field (.string "ParishChest$Clerk" 127) "java/lang/String" "value" "[B") (.int 0)) (.int 97)) (by decide +kernel))
    | 1, _ => exact va_eqt (z := 110) (hf (.eq (.elem (.field (.string "ParishChest$Clerk" 127) "java/lang/String" "value" "[B") (.int 1)) (.int 110)) (by decide +kernel))
    | 2, _ => exact va_eqt (z := 100) (hf (.eq (.elem (.field (.string "ParishChest$Clerk" 127) "java/lang/String" "value" "[B") (.int 2)) (.int 100)) (by decide +kernel))
    | 3, _ => exact va_eqt (z := 32) (hf (.eq (.elem (.field (.string "ParishChest$Clerk" 127) "java/lang/String" "value" "[B") (.int 3)) (.int 32)) (by decide +kernel))
    | n + 4, h => exact absurd h (by omega)) hA
  have ec := va_eqt (z := 0) (hf (.eq (.field (.string "ParishChest$Clerk" 127) "java/lang/String" "coder" "B") (.int 0)) (by decide +kernel))
  exact ⟨a, v, vk_R.of (hts _ (List.mem_of_getElem? (i := 1435) (by decide +kernel))) q1, (Array.getElem?_eq_some_iff.mp q3).1, (Array.getElem?_eq_some_iff.mp ht.choose_spec.1).1, va_Oof (hf (.exactly (.string "ParishChest$Clerk" 127) "java/lang/String") (by decide +kernel)) q1 hA, of_OF (of_field ec q1) hA, of_OF (of_field e q1) hA, ht⟩
set_option maxRecDepth 100000 in
theorem jsx_12 {s : State} {args : Array Value} (hts : ∀ w ∈ lw_tbl, w.before args s = true) (hs : (Jvm.Cond.and given_1 narrow_1).before args s = true) : ∃ a v : Nat, vk_R "ParishChest$Clerk" 132 "or " a s ∧ a < s.heap.size ∧ v < s.heap.size ∧ va_O "java/lang/String" a (fun x => s.heap.size ≤ x) s s.heap ∧ va_OF "java/lang/String" "coder" "B" (.int 0) a (fun x => s.heap.size ≤ x) s s.heap ∧ va_OF "java/lang/String" "value" "[B" (.ref v) a (fun x => s.heap.size ≤ x) s s.heap ∧ va_T .byte v 3 (fun j => .int ((jsB 12).getD j 0)) (fun x => s.heap.size ≤ x) s s.heap := by
  have hf := flat_of_before _ hs
  have hA : ∀ a : Nat, a < s.heap.size → ¬ s.heap.size ≤ a := fun a ha => Nat.not_le.mpr ha
  obtain ⟨a, c, cell, k, q1, q2, q3, -⟩ := Cond.exactly_spec (hf (.exactly (.string "ParishChest$Clerk" 132) "java/lang/String") (by decide +kernel))
  obtain ⟨v, e, ht⟩ := va_Tof (args := args) (s := s) (tm := (.field (.string "ParishChest$Clerk" 132) "java/lang/String" "value" "[B")) (ty := .byte) (N := 3) (f := fun j => .int ((jsB 12).getD j 0)) (A := fun x => s.heap.size ≤ x) (by decide) (hf _ (by decide +kernel)) (va_eqt (z := 3) (hf (.eq (.length (.field (.string "ParishChest$Clerk" 132) "java/lang/String" "value" "[B")) (.int 3)) (by decide +kernel))) (fun j hj => by
    match j, hj with
    | 0, _ => exact va_eqt (z := 111) (hf (.eq (.elem (.field (.string "ParishChest$Clerk" 132) "java/lang/String" "value" "[B") (.int 0)) (.int 111)) (by decide +kernel))
    | 1, _ => exact va_eqt (z := 114) (hf (.eq (.elem (.field (.string "ParishChest$Clerk" 132) "java/lang/String" "value" "[B") (.int 1)) (.int 114)) (by decide +kernel))
    | 2, _ => exact va_eqt (z := 32) (hf (.eq (.elem (.field (.string "ParishChest$Clerk" 132) "java/lang/String" "value" "[B") (.int 2)) (.int 32)) (by decide +kernel))
    | n + 3, h => exact absurd h (by omega)) hA
  have ec := va_eqt (z := 0) (hf (.eq (.field (.string "ParishChest$Clerk" 132) "java/lang/String" "coder" "B") (.int 0)) (by decide +kernel))
  exact ⟨a, v, vk_R.of (hts _ (List.mem_of_getElem? (i := 1440) (by decide +kernel))) q1, (Array.getElem?_eq_some_iff.mp q3).1, (Array.getElem?_eq_some_iff.mp ht.choose_spec.1).1, va_Oof (hf (.exactly (.string "ParishChest$Clerk" 132) "java/lang/String") (by decide +kernel)) q1 hA, of_OF (of_field ec q1) hA, of_OF (of_field e q1) hA, ht⟩
def jsQ (i : Nat) : String × Nat × String × Nat := jstr.getD i ("", 0, "", 0)
theorem jsx_all {s : State} {args : Array Value} (hts : ∀ w ∈ lw_tbl, w.before args s = true) (hs : (Jvm.Cond.and given_1 narrow_1).before args s = true) : ∀ i, ∃ p : Nat × Nat, i < 13 → vk_R (jsQ i).1 (jsQ i).2.1 (jsQ i).2.2.1 p.1 s ∧ p.1 < s.heap.size ∧ p.2 < s.heap.size ∧ va_O "java/lang/String" p.1 (fun x => s.heap.size ≤ x) s s.heap ∧ va_OF "java/lang/String" "coder" "B" (.int 0) p.1 (fun x => s.heap.size ≤ x) s s.heap ∧ va_OF "java/lang/String" "value" "[B" (.ref p.2) p.1 (fun x => s.heap.size ≤ x) s s.heap ∧ va_T .byte p.2 (jsB i).length (fun j => .int ((jsB i).getD j 0)) (fun x => s.heap.size ≤ x) s s.heap := by
  intro i
  by_cases hi : i < 13
  · match i, hi with
    | 0, _ => obtain ⟨a, v, q⟩ := jsx_0 hts hs; exact ⟨(a, v), fun _ => q⟩
    | 1, _ => obtain ⟨a, v, q⟩ := jsx_1 hts hs; exact ⟨(a, v), fun _ => q⟩
    | 2, _ => obtain ⟨a, v, q⟩ := jsx_2 hts hs; exact ⟨(a, v), fun _ => q⟩
    | 3, _ => obtain ⟨a, v, q⟩ := jsx_3 hts hs; exact ⟨(a, v), fun _ => q⟩
    | 4, _ => obtain ⟨a, v, q⟩ := jsx_4 hts hs; exact ⟨(a, v), fun _ => q⟩
    | 5, _ => obtain ⟨a, v, q⟩ := jsx_5 hts hs; exact ⟨(a, v), fun _ => q⟩
    | 6, _ => obtain ⟨a, v, q⟩ := jsx_6 hts hs; exact ⟨(a, v), fun _ => q⟩
    | 7, _ => obtain ⟨a, v, q⟩ := jsx_7 hts hs; exact ⟨(a, v), fun _ => q⟩
    | 8, _ => obtain ⟨a, v, q⟩ := jsx_8 hts hs; exact ⟨(a, v), fun _ => q⟩
    | 9, _ => obtain ⟨a, v, q⟩ := jsx_9 hts hs; exact ⟨(a, v), fun _ => q⟩
    | 10, _ => obtain ⟨a, v, q⟩ := jsx_10 hts hs; exact ⟨(a, v), fun _ => q⟩
    | 11, _ => obtain ⟨a, v, q⟩ := jsx_11 hts hs; exact ⟨(a, v), fun _ => q⟩
    | 12, _ => obtain ⟨a, v, q⟩ := jsx_12 hts hs; exact ⟨(a, v), fun _ => q⟩
    | n + 13, h => exact absurd h (by omega)
  · exact ⟨(0, 0), fun h => absurd h hi⟩
theorem jsB_n : ∀ i, i < 13 → (jsB i).length < 2 ^ 31 := by decide
theorem jin_ok : ∀ (c : Nat) (q : vw_C), vwCl[c]? = some q → ∃ n, Cond.instantiable q.1 n ∈ lw_tbl := by
  intro c q h
  match c, h with
  | 0, h => cases h; exact ⟨16, List.mem_of_getElem? (i := 585) (by decide +kernel)⟩
  | 1, h => cases h; exact ⟨20, List.mem_of_getElem? (i := 234) (by decide +kernel)⟩
  | 2, h => cases h; exact ⟨6, List.mem_of_getElem? (i := 560) (by decide +kernel)⟩
  | 3, h => cases h; exact ⟨14, List.mem_of_getElem? (i := 507) (by decide +kernel)⟩
  | 4, h => cases h; exact ⟨18, List.mem_of_getElem? (i := 648) (by decide +kernel)⟩
  | 5, h => cases h; exact ⟨9, List.mem_of_getElem? (i := 402) (by decide +kernel)⟩
  | 6, h => cases h; exact ⟨8, List.mem_of_getElem? (i := 714) (by decide +kernel)⟩
  | 7, h => cases h; exact ⟨16, List.mem_of_getElem? (i := 439) (by decide +kernel)⟩
  | 8, h => cases h; exact ⟨4, List.mem_of_getElem? (i := 240) (by decide +kernel)⟩
  | 9, h => cases h; exact ⟨6, List.mem_of_getElem? (i := 373) (by decide +kernel)⟩
  | 10, h => cases h; exact ⟨6, List.mem_of_getElem? (i := 1443) (by decide +kernel)⟩
  | 11, h => cases h; exact ⟨13, List.mem_of_getElem? (i := 226) (by decide +kernel)⟩
  | 12, h => cases h; exact ⟨92, List.mem_of_getElem? (i := 1932) (by decide +kernel)⟩
  | n + 13, h => simp [vwCl] at h
theorem jD_of {s : State} {args : Array Value} (hts : ∀ w ∈ lw_tbl, w.before args s = true) : ∃ D : va_G, va_K D vwCl [] s := by
  have h : ∀ c : Nat, ∃ p : ClassId × (Nat → Nat), ∀ q : vw_C, vwCl[c]? = some q → u_Kn s q.1 q.2.1 q.2.2 p.1 p.2 := by
    intro c
    cases e : vwCl[c]? with
    | none => exact ⟨(0, fun _ => 0), fun q h => by cases h⟩
    | some q =>
      obtain ⟨n, hn⟩ := jin_ok c q e
      obtain ⟨cC, iS, hk⟩ := u_known hts (jcls_ok c q e).1 (hts _ hn)
      exact ⟨(cC, iS), fun r hr => by cases hr; exact hk⟩
  refine ⟨(fun c => (Classical.choose (h c)).1, fun c => (Classical.choose (h c)).2), fun c q hq => Classical.choose_spec (h c) q hq, fun k q hk => ?_⟩
  simp at hk
theorem jar_1 {s : State} {args : Array Value} (hts : ∀ w ∈ lw_tbl, w.before args s = true) (hs : (Jvm.Cond.and given_1 narrow_1).before args s = true) : ∃ t : Nat, va_Z "ParishChest" "ROLES_OF" "[I" (.ref t) (fun x => s.heap.size ≤ x) s s.heap ∧ va_T .int t 6 (fun j => .int (([3, 2, 1, 1, 1, 1] : List Int32).getD j 0)) (fun x => s.heap.size ≤ x) s s.heap := by
  have hf := flat_of_before _ hs
  have hA : ∀ a : Nat, a < s.heap.size → ¬ s.heap.size ≤ a := fun a ha => Nat.not_le.mpr ha
  obtain ⟨t, e, ht⟩ := va_Tof (args := args) (s := s) (tm := (.static "ParishChest" "ROLES_OF" "[I")) (ty := .int) (N := 6) (f := fun j => .int (([3, 2, 1, 1, 1, 1] : List Int32).getD j 0)) (A := fun x => s.heap.size ≤ x) (by decide) (hf _ (by decide +kernel)) (va_eqt (z := 6) (hf (.eq (.length (.static "ParishChest" "ROLES_OF" "[I")) (.int 6)) (by decide +kernel))) (fun j hj => by
    match j, hj with
    | 0, _ => exact va_eqt (z := 3) (hf (.eq (.elem (.static "ParishChest" "ROLES_OF" "[I") (.int 0)) (.int 3)) (by decide +kernel))
    | 1, _ => exact va_eqt (z := 2) (hf (.eq (.elem (.static "ParishChest" "ROLES_OF" "[I") (.int 1)) (.int 2)) (by decide +kernel))
    | 2, _ => exact va_eqt (z := 1) (hf (.eq (.elem (.static "ParishChest" "ROLES_OF" "[I") (.int 2)) (.int 1)) (by decide +kernel))
    | 3, _ => exact va_eqt (z := 1) (hf (.eq (.elem (.static "ParishChest" "ROLES_OF" "[I") (.int 3)) (.int 1)) (by decide +kernel))
    | 4, _ => exact va_eqt (z := 1) (hf (.eq (.elem (.static "ParishChest" "ROLES_OF" "[I") (.int 4)) (.int 1)) (by decide +kernel))
    | 5, _ => exact va_eqt (z := 1) (hf (.eq (.elem (.static "ParishChest" "ROLES_OF" "[I") (.int 5)) (.int 1)) (by decide +kernel))
    | n + 6, h => exact absurd h (by omega)) hA
  exact ⟨t, va_Zof (hts _ (List.mem_of_getElem? (i := 838) (by decide +kernel))) (hts _ (List.mem_of_getElem? (i := 205) (by decide +kernel))) e hA, ht⟩
theorem jar_2 {s : State} {args : Array Value} (hts : ∀ w ∈ lw_tbl, w.before args s = true) (hs : (Jvm.Cond.and given_1 narrow_1).before args s = true) : ∃ t : Nat, va_Z "ParishChest" "FIRST_CODE" "[I" (.ref t) (fun x => s.heap.size ≤ x) s s.heap ∧ va_T .int t 6 (fun j => .int (([0, 3, 5, 6, 7, 8] : List Int32).getD j 0)) (fun x => s.heap.size ≤ x) s s.heap := by
  have hf := flat_of_before _ hs
  have hA : ∀ a : Nat, a < s.heap.size → ¬ s.heap.size ≤ a := fun a ha => Nat.not_le.mpr ha
  obtain ⟨t, e, ht⟩ := va_Tof (args := args) (s := s) (tm := (.static "ParishChest" "FIRST_CODE" "[I")) (ty := .int) (N := 6) (f := fun j => .int (([0, 3, 5, 6, 7, 8] : List Int32).getD j 0)) (A := fun x => s.heap.size ≤ x) (by decide) (hf _ (by decide +kernel)) (va_eqt (z := 6) (hf (.eq (.length (.static "ParishChest" "FIRST_CODE" "[I")) (.int 6)) (by decide +kernel))) (fun j hj => by
    match j, hj with
    | 0, _ => exact va_eqt (z := 0) (hf (.eq (.elem (.static "ParishChest" "FIRST_CODE" "[I") (.int 0)) (.int 0)) (by decide +kernel))
    | 1, _ => exact va_eqt (z := 3) (hf (.eq (.elem (.static "ParishChest" "FIRST_CODE" "[I") (.int 1)) (.int 3)) (by decide +kernel))
    | 2, _ => exact va_eqt (z := 5) (hf (.eq (.elem (.static "ParishChest" "FIRST_CODE" "[I") (.int 2)) (.int 5)) (by decide +kernel))
    | 3, _ => exact va_eqt (z := 6) (hf (.eq (.elem (.static "ParishChest" "FIRST_CODE" "[I") (.int 3)) (.int 6)) (by decide +kernel))
    | 4, _ => exact va_eqt (z := 7) (hf (.eq (.elem (.static "ParishChest" "FIRST_CODE" "[I") (.int 4)) (.int 7)) (by decide +kernel))
    | 5, _ => exact va_eqt (z := 8) (hf (.eq (.elem (.static "ParishChest" "FIRST_CODE" "[I") (.int 5)) (.int 8)) (by decide +kernel))
    | n + 6, h => exact absurd h (by omega)) hA
  exact ⟨t, va_Zof (hts _ (List.mem_of_getElem? (i := 938) (by decide +kernel))) (hts _ (List.mem_of_getElem? (i := 205) (by decide +kernel))) e hA, ht⟩
theorem jar_3 {s : State} {args : Array Value} (hts : ∀ w ∈ lw_tbl, w.before args s = true) (hs : (Jvm.Cond.and given_1 narrow_1).before args s = true) : ∃ t : Nat, va_Z "ParishChest$Clerk" "KIND_OF" "[I" (.ref t) (fun x => s.heap.size ≤ x) s s.heap ∧ va_T .int t 8 (fun j => .int (([2, 2, 2, 3, 6, 6, 6, 7] : List Int32).getD j 0)) (fun x => s.heap.size ≤ x) s s.heap := by
  have hf := flat_of_before _ hs
  have hA : ∀ a : Nat, a < s.heap.size → ¬ s.heap.size ≤ a := fun a ha => Nat.not_le.mpr ha
  obtain ⟨t, e, ht⟩ := va_Tof (args := args) (s := s) (tm := (.static "ParishChest$Clerk" "KIND_OF" "[I")) (ty := .int) (N := 8) (f := fun j => .int (([2, 2, 2, 3, 6, 6, 6, 7] : List Int32).getD j 0)) (A := fun x => s.heap.size ≤ x) (by decide) (hf _ (by decide +kernel)) (va_eqt (z := 8) (hf (.eq (.length (.static "ParishChest$Clerk" "KIND_OF" "[I")) (.int 8)) (by decide +kernel))) (fun j hj => by
    match j, hj with
    | 0, _ => exact va_eqt (z := 2) (hf (.eq (.elem (.static "ParishChest$Clerk" "KIND_OF" "[I") (.int 0)) (.int 2)) (by decide +kernel))
    | 1, _ => exact va_eqt (z := 2) (hf (.eq (.elem (.static "ParishChest$Clerk" "KIND_OF" "[I") (.int 1)) (.int 2)) (by decide +kernel))
    | 2, _ => exact va_eqt (z := 2) (hf (.eq (.elem (.static "ParishChest$Clerk" "KIND_OF" "[I") (.int 2)) (.int 2)) (by decide +kernel))
    | 3, _ => exact va_eqt (z := 3) (hf (.eq (.elem (.static "ParishChest$Clerk" "KIND_OF" "[I") (.int 3)) (.int 3)) (by decide +kernel))
    | 4, _ => exact va_eqt (z := 6) (hf (.eq (.elem (.static "ParishChest$Clerk" "KIND_OF" "[I") (.int 4)) (.int 6)) (by decide +kernel))
    | 5, _ => exact va_eqt (z := 6) (hf (.eq (.elem (.static "ParishChest$Clerk" "KIND_OF" "[I") (.int 5)) (.int 6)) (by decide +kernel))
    | 6, _ => exact va_eqt (z := 6) (hf (.eq (.elem (.static "ParishChest$Clerk" "KIND_OF" "[I") (.int 6)) (.int 6)) (by decide +kernel))
    | 7, _ => exact va_eqt (z := 7) (hf (.eq (.elem (.static "ParishChest$Clerk" "KIND_OF" "[I") (.int 7)) (.int 7)) (by decide +kernel))
    | n + 8, h => exact absurd h (by omega)) hA
  exact ⟨t, va_Zof (hts _ (List.mem_of_getElem? (i := 1598) (by decide +kernel))) (hts _ (List.mem_of_getElem? (i := 213) (by decide +kernel))) e hA, ht⟩
theorem jar_4 {s : State} {args : Array Value} (hts : ∀ w ∈ lw_tbl, w.before args s = true) (hs : (Jvm.Cond.and given_1 narrow_1).before args s = true) : ∃ t : Nat, va_Z "ParishChest$Clerk" "WHICH_OF" "[I" (.ref t) (fun x => s.heap.size ≤ x) s s.heap ∧ va_T .int t 8 (fun j => .int (([0, 1, 2, 0, 0, 1, 2, 0] : List Int32).getD j 0)) (fun x => s.heap.size ≤ x) s s.heap := by
  have hf := flat_of_before _ hs
  have hA : ∀ a : Nat, a < s.heap.size → ¬ s.heap.size ≤ a := fun a ha => Nat.not_le.mpr ha
  obtain ⟨t, e, ht⟩ := va_Tof (args := args) (s := s) (tm := (.static "ParishChest$Clerk" "WHICH_OF" "[I")) (ty := .int) (N := 8) (f := fun j => .int (([0, 1, 2, 0, 0, 1, 2, 0] : List Int32).getD j 0)) (A := fun x => s.heap.size ≤ x) (by decide) (hf _ (by decide +kernel)) (va_eqt (z := 8) (hf (.eq (.length (.static "ParishChest$Clerk" "WHICH_OF" "[I")) (.int 8)) (by decide +kernel))) (fun j hj => by
    match j, hj with
    | 0, _ => exact va_eqt (z := 0) (hf (.eq (.elem (.static "ParishChest$Clerk" "WHICH_OF" "[I") (.int 0)) (.int 0)) (by decide +kernel))
    | 1, _ => exact va_eqt (z := 1) (hf (.eq (.elem (.static "ParishChest$Clerk" "WHICH_OF" "[I") (.int 1)) (.int 1)) (by decide +kernel))
    | 2, _ => exact va_eqt (z := 2) (hf (.eq (.elem (.static "ParishChest$Clerk" "WHICH_OF" "[I") (.int 2)) (.int 2)) (by decide +kernel))
    | 3, _ => exact va_eqt (z := 0) (hf (.eq (.elem (.static "ParishChest$Clerk" "WHICH_OF" "[I") (.int 3)) (.int 0)) (by decide +kernel))
    | 4, _ => exact va_eqt (z := 0) (hf (.eq (.elem (.static "ParishChest$Clerk" "WHICH_OF" "[I") (.int 4)) (.int 0)) (by decide +kernel))
    | 5, _ => exact va_eqt (z := 1) (hf (.eq (.elem (.static "ParishChest$Clerk" "WHICH_OF" "[I") (.int 5)) (.int 1)) (by decide +kernel))
    | 6, _ => exact va_eqt (z := 2) (hf (.eq (.elem (.static "ParishChest$Clerk" "WHICH_OF" "[I") (.int 6)) (.int 2)) (by decide +kernel))
    | 7, _ => exact va_eqt (z := 0) (hf (.eq (.elem (.static "ParishChest$Clerk" "WHICH_OF" "[I") (.int 7)) (.int 0)) (by decide +kernel))
    | n + 8, h => exact absurd h (by omega)) hA
  exact ⟨t, va_Zof (hts _ (List.mem_of_getElem? (i := 1600) (by decide +kernel))) (hts _ (List.mem_of_getElem? (i := 213) (by decide +kernel))) e hA, ht⟩
theorem jstr_in : ∀ q ∈ jstr, Cond.stringRef q.1 q.2.1 q.2.2.1 ∈ lw_tbl ∧ Cond.exactly (.string q.1 q.2.1) "java/lang/String" ∈ flatC (Jvm.Cond.and given_1 narrow_1) :=
  List.forall_mem_cons.mpr ⟨⟨List.mem_of_getElem? (i := 1306) (by decide +kernel), by decide +kernel⟩, List.forall_mem_cons.mpr ⟨⟨List.mem_of_getElem? (i := 1383) (by decide +kernel), by decide +kernel⟩, List.forall_mem_cons.mpr ⟨⟨List.mem_of_getElem? (i := 1388) (by decide +kernel), by decide +kernel⟩, List.forall_mem_cons.mpr ⟨⟨List.mem_of_getElem? (i := 1393) (by decide +kernel), by decide +kernel⟩, List.forall_mem_cons.mpr ⟨⟨List.mem_of_getElem? (i := 1394) (by decide +kernel), by decide +kernel⟩, List.forall_mem_cons.mpr ⟨⟨List.mem_of_getElem? (i := 1395) (by decide +kernel), by decide +kernel⟩, List.forall_mem_cons.mpr ⟨⟨List.mem_of_getElem? (i := 1418) (by decide +kernel), by decide +kernel⟩, List.forall_mem_cons.mpr ⟨⟨List.mem_of_getElem? (i := 1419) (by decide +kernel), by decide +kernel⟩, List.forall_mem_cons.mpr ⟨⟨List.mem_of_getElem? (i := 1420) (by decide +kernel), by decide +kernel⟩, List.forall_mem_cons.mpr ⟨⟨List.mem_of_getElem? (i := 1429) (by decide +kernel), by decide +kernel⟩, List.forall_mem_cons.mpr ⟨⟨List.mem_of_getElem? (i := 1430) (by decide +kernel), by decide +kernel⟩, List.forall_mem_cons.mpr ⟨⟨List.mem_of_getElem? (i := 1435) (by decide +kernel), by decide +kernel⟩, List.forall_mem_cons.mpr ⟨⟨List.mem_of_getElem? (i := 1440) (by decide +kernel), by decide +kernel⟩, fun _ h => absurd h List.not_mem_nil⟩⟩⟩⟩⟩⟩⟩⟩⟩⟩⟩⟩⟩
theorem jstr_one : ∀ q ∈ jstr, ∀ r ∈ jstr, q.2.2.2 = r.2.2.2 → q = r := by decide +kernel
theorem jst_of {s : State} {args : Array Value} {b : Nat} (hb : b < s.heap.size) (hts : ∀ w ∈ lw_tbl, w.before args s = true) (hs : (Jvm.Cond.and given_1 narrow_1).before args s = true) (i : Nat) : ∃ a, a < s.heap.size ∧ ∀ q ∈ jstr, q.2.2.2 = i → vk_R q.1 q.2.1 q.2.2.1 a s := by
  by_cases h : ∃ q ∈ jstr, q.2.2.2 = i
  · obtain ⟨q, hq, e⟩ := h
    obtain ⟨h1, h2⟩ := jstr_in q hq
    obtain ⟨a, c, cell, k, q1, q2, q3, -⟩ := Cond.exactly_spec (flat_of_before _ hs _ h2)
    refine ⟨a, (Array.getElem?_eq_some_iff.mp q3).1, fun r hr er => ?_⟩
    obtain rfl := jstr_one q hq r hr (e.trans er.symm)
    exact vk_R.of (hts _ h1) q1
  · exact ⟨b, hb, fun q hq e => absurd ⟨q, hq, e⟩ h⟩
theorem jnw_of {s : State} {args : Array Value} (hts : ∀ w ∈ lw_tbl, w.before args s = true) : ∀ w ∈ jnst, va_Nw w s := by
  intro w hw
  obtain ⟨h1, h2⟩ := List.mem_filter.mp hw
  refine va_Nw.of ?_ (hts w h1)
  cases w <;> first | (cases h2; done) | rfl
theorem jfree {s t : State} {L : List Loc} {k n : Nat} (h : s.sameButNew t L k n) (hL : ∀ q ∈ L, s.heap.size ≤ q.base) : s.sameButNew t [] k n := by
  obtain ⟨h1, h2, h3, h4, h5, h6⟩ := h
  refine ⟨h1, h2, h3, h4, h5, fun a c hc => ?_⟩
  obtain ⟨c', g1, g2, g3, g4⟩ := h6 a c hc
  refine ⟨c', g1, g2, g3, fun i _ => g4 i (fun hm => ?_)⟩
  have e1 : s.heap.size ≤ a := hL _ hm
  exact absurd (Array.getElem?_eq_some_iff.mp hc).1 (Nat.not_lt.mpr e1)
/-- where the old cells lie -/
def jad (lo b t1 t2 t3 t4 : Nat) (al : Nat → Nat) (a : Nat) : Nat := if 31 ≤ a then lo + (a - 31) else if a = 0 then b else if a = 1 then t1 else if a = 2 then t2 else if a = 3 then t3 else if a = 4 then t4 else al a
theorem jad_hi {lo b t1 t2 t3 t4 : Nat} {al : Nat → Nat} {a : Nat} (h : 31 ≤ a) : jad lo b t1 t2 t3 t4 al a = lo + (a - 31) := if_pos h
theorem jad_lo {lo b t1 t2 t3 t4 : Nat} {al : Nat → Nat} {a : Nat} (h : 5 ≤ a) (h2 : a < 31) : jad lo b t1 t2 t3 t4 al a = al a := by
  unfold jad
  rw [if_neg (by omega), if_neg (by omega), if_neg (by omega), if_neg (by omega), if_neg (by omega), if_neg (by omega)]
theorem jad_lt {lo b t1 t2 t3 t4 : Nat} {al : Nat → Nat} (h0 : b < lo) (h1 : t1 < lo) (h2 : t2 < lo) (h3 : t3 < lo) (h4 : t4 < lo) (h5 : ∀ i, al i < lo) {a : Nat} (h : a < 31) : jad lo b t1 t2 t3 t4 al a < lo := by
  unfold jad
  rw [if_neg (by omega)]
  have := h5 a
  repeat' split
  all_goals assumption
theorem jAr_T {s : State} {ad : Nat → Nat} {h : jH} {a n t : Nat} {f : Nat → Int32} (ha : a < 31) (hn : n < 2 ^ 31) (e : ad a = t) (hv : ∀ j, j < n → jiv h a j = f j) (x : va_T .int t n (fun j => .int (f j)) (fun x => s.heap.size ≤ x) s s.heap) : jAr s ad h a 100 n s.heap := by
  obtain ⟨cell, x1, x2, x3, x4, x5, x6, -⟩ := x
  refine ⟨hn, cell, by rw [e]; exact x1, x2, x3, x4, x5, fun j hj => ?_, fun h => absurd h (by show ¬ 31 ≤ a; omega)⟩
  rw [x6 j hj]
  show some (Value.int (f j)) = some (Value.int (jiv h a j))
  rw [hv j hj]
theorem jAr_X {s : State} {ad : Nat → Nat} {h : jH} {b L : Nat} {xs : Nat → Int32} (hn : L < 2 ^ 31) (e : ad 0 = b) (hv : ∀ j, jiv h 0 j = xs j) (x : va_X b L xs s s.heap) : jAr s ad h 0 100 L s.heap := by
  obtain ⟨cell, x1, x2, x3, x4, x5⟩ := x
  refine ⟨hn, cell, by rw [e]; exact x1, x2, x3, by rw [x4]; exact Nat.le_refl _, by rw [x4]; rfl, fun j hj => ?_, fun h => absurd h (by show ¬ 31 ≤ 0; omega)⟩
  rw [x5 j hj]
  show some (Value.int (xs j)) = some (Value.int (jiv h 0 j))
  rw [hv j]
theorem jHp_0 {s : State} {D : va_G} {b L t1 t2 t3 t4 : Nat} {al : Nat → Nat} {xs : Nat → Int32} (hL : L < 2 ^ 31) (hX : va_X b L xs s s.heap)
    (z1 : va_Z "ParishChest" "ROLES_OF" "[I" (.ref t1) (fun x => s.heap.size ≤ x) s s.heap) (y1 : va_T .int t1 6 (fun j => .int (([3, 2, 1, 1, 1, 1] : List Int32).getD j 0)) (fun x => s.heap.size ≤ x) s s.heap)
    (z2 : va_Z "ParishChest" "FIRST_CODE" "[I" (.ref t2) (fun x => s.heap.size ≤ x) s s.heap) (y2 : va_T .int t2 6 (fun j => .int (([0, 3, 5, 6, 7, 8] : List Int32).getD j 0)) (fun x => s.heap.size ≤ x) s s.heap)
    (z3 : va_Z "ParishChest$Clerk" "KIND_OF" "[I" (.ref t3) (fun x => s.heap.size ≤ x) s s.heap) (y3 : va_T .int t3 8 (fun j => .int (([2, 2, 2, 3, 6, 6, 6, 7] : List Int32).getD j 0)) (fun x => s.heap.size ≤ x) s s.heap)
    (z4 : va_Z "ParishChest$Clerk" "WHICH_OF" "[I" (.ref t4) (fun x => s.heap.size ≤ x) s s.heap) (y4 : va_T .int t4 8 (fun j => .int (([0, 1, 2, 0, 0, 1, 2, 0] : List Int32).getD j 0)) (fun x => s.heap.size ≤ x) s s.heap)
    (zc : va_Z "java/lang/String" "COMPACT_STRINGS" "Z" (.int 1) (fun x => s.heap.size ≤ x) s s.heap) (zq : va_Zq "jdk/internal/util/Preconditions" "SIOOBE_FORMATTER" "Ljava/util/function/BiFunction;" (fun x => s.heap.size ≤ x) s s.heap)
    (hx : ∀ i, i < 13 → va_O "java/lang/String" (al (5 + i)) (fun x => s.heap.size ≤ x) s s.heap ∧ va_OF "java/lang/String" "coder" "B" (.int 0) (al (5 + i)) (fun x => s.heap.size ≤ x) s s.heap ∧ va_OF "java/lang/String" "value" "[B" (.ref (al (18 + i))) (al (5 + i)) (fun x => s.heap.size ≤ x) s s.heap ∧ va_T .byte (al (18 + i)) (jsB i).length (fun j => .int ((jsB i).getD j 0)) (fun x => s.heap.size ≤ x) s s.heap) :
    jHp D s.heap.size (jad s.heap.size b t1 t2 t3 t4 al) (jhZ L xs) s s.heap := by
  refine ⟨rfl, Nat.le_refl _, fun a => ?_, ?_⟩
  · by_cases a0 : a = 0
    · subst a0
      exact ⟨fun h => absurd h (by show ¬ 100 < 50; decide), fun _ _ => ⟨by show 0 < 31; decide, jAr_X hL rfl (fun _ => rfl) hX⟩⟩
    · by_cases a1 : a = 1
      · subst a1
        exact ⟨fun h => absurd h (by show ¬ 100 < 50; decide), fun _ _ => ⟨by show 1 < 31; decide, jAr_T (n := 6) (by decide) (by decide) rfl (fun _ _ => rfl) y1⟩⟩
      · by_cases a2 : a = 2
        · subst a2
          exact ⟨fun h => absurd h (by show ¬ 100 < 50; decide), fun _ _ => ⟨by show 2 < 31; decide, jAr_T (n := 6) (by decide) (by decide) rfl (fun _ _ => rfl) y2⟩⟩
        · by_cases a3 : a = 3
          · subst a3
            exact ⟨fun h => absurd h (by show ¬ 100 < 50; decide), fun _ _ => ⟨by show 3 < 31; decide, jAr_T (n := 8) (by decide) (by decide) rfl (fun _ _ => rfl) y3⟩⟩
          · by_cases a4 : a = 4
            · subst a4
              exact ⟨fun h => absurd h (by show ¬ 100 < 50; decide), fun _ _ => ⟨by show 4 < 31; decide, jAr_T (n := 8) (by decide) (by decide) rfl (fun _ _ => rfl) y4⟩⟩
            · by_cases a5 : (Nat.ble 18 a && Nat.blt a 31) = true
              · have e : jsh (jhZ L xs) a = (103, (jsB (a - 18)).length) := by
                  show (if a = 0 then (100, L) else if a = 1 then (100, 6) else if a = 2 then (100, 6) else if a = 3 then (100, 8) else if a = 4 then (100, 8) else if (Nat.ble 18 a && Nat.blt a 31) = true then (103, (jsB (a - 18)).length) else (999, 0)) = _
                  rw [if_neg a0, if_neg a1, if_neg a2, if_neg a3, if_neg a4, if_pos a5]
                have ev : ∀ k, jiv (jhZ L xs) a k = (jsB (a - 18)).getD k 0 := fun k => by
                  show (if a = 0 then xs k else if a = 1 then ([3, 2, 1, 1, 1, 1] : List Int32).getD k 0 else if a = 2 then ([0, 3, 5, 6, 7, 8] : List Int32).getD k 0 else if a = 3 then ([2, 2, 2, 3, 6, 6, 6, 7] : List Int32).getD k 0 else if a = 4 then ([0, 1, 2, 0, 0, 1, 2, 0] : List Int32).getD k 0 else if (Nat.ble 18 a && Nat.blt a 31) = true then (jsB (a - 18)).getD k 0 else 0) = _
                  rw [if_neg a0, if_neg a1, if_neg a2, if_neg a3, if_neg a4, if_pos a5]
                rw [Bool.and_eq_true] at a5
                have g1 := Nat.ble_eq.mp a5.1
                have g2 := Nat.blt_eq.mp a5.2
                rw [e]
                have x := (hx (a - 18) (by omega)).2.2.2
                rw [show 18 + (a - 18) = a from by omega] at x
                exact ⟨fun h => absurd h (by show ¬ 103 < 50; decide), fun _ _ => ⟨by show a < 31; omega, jAr_B g2 (jsB_n _ (by omega)) (jad_lo (by omega) g2) (fun j _ => ev j) x⟩⟩
              · have e : jsh (jhZ L xs) a = (999, 0) := by
                  show (if a = 0 then (100, L) else if a = 1 then (100, 6) else if a = 2 then (100, 6) else if a = 3 then (100, 8) else if a = 4 then (100, 8) else if (Nat.ble 18 a && Nat.blt a 31) = true then (103, (jsB (a - 18)).length) else (999, 0)) = (999, 0)
                  rw [if_neg a0, if_neg a1, if_neg a2, if_neg a3, if_neg a4, if_neg a5]
                rw [e]
                exact ⟨fun h => absurd h (by show ¬ 999 < 50; decide), fun _ h => absurd h (by show ¬ 999 < 106; decide)⟩
  · refine ⟨List.forall_mem_cons.mpr ⟨z1, List.forall_mem_cons.mpr ⟨z2, List.forall_mem_cons.mpr ⟨z3, List.forall_mem_cons.mpr ⟨z4, fun _ h => absurd h List.not_mem_nil⟩⟩⟩⟩, zc, zq, fun i hi => ?_⟩
    rw [jad_lo (by omega) (by omega), jad_lo (by omega) (by omega)]
    exact ⟨(hx i hi).1, (hx i hi).2.1, (hx i hi).2.2.1⟩
/-- from the entry, for every script of at most 3584 ints, the law comes to its end with true -/
theorem whole_start {p : Program} {e : Env} {s : State} {m : MethodId} {below : List Frame} {meth : Method} {c : Code} (l : Launch) {b L : Nat} {xs : Nat → Int32} (hL : L ≤ 3584) (C0 : lw_At p s m meth c b L xs) : W p l e room_1 s m #[Value.ref b] below meth c s.heap [] 0 0 (lw_Z below #[Value.ref b] s) (entryFrame m ([Value.ref b] : List Value).toArray 4) := by
  obtain ⟨c1, c2, c3, c4, c5, c6, c7, c8, c9, cn, c10⟩ := C0
  obtain ⟨D, hD⟩ := jD_of c6
  obtain ⟨t1, z1, y1⟩ := jar_1 c6 c10
  obtain ⟨t2, z2, y2⟩ := jar_2 c6 c10
  obtain ⟨t3, z3, y3⟩ := jar_3 c6 c10
  obtain ⟨t4, z4, y4⟩ := jar_4 c6 c10
  have l1 : t1 < s.heap.size := (Array.getElem?_eq_some_iff.mp y1.choose_spec.1).1
  have l2 : t2 < s.heap.size := (Array.getElem?_eq_some_iff.mp y2.choose_spec.1).1
  have l3 : t3 < s.heap.size := (Array.getElem?_eq_some_iff.mp y3.choose_spec.1).1
  have l4 : t4 < s.heap.size := (Array.getElem?_eq_some_iff.mp y4.choose_spec.1).1
  obtain ⟨g, hg⟩ := Classical.axiomOfChoice (jsx_all c6 c10)
  obtain ⟨al, eal⟩ : ∃ al : Nat → Nat, al = fun a => if 5 ≤ a ∧ a < 18 then (g (a - 5)).1 else if 18 ≤ a ∧ a < 31 then (g (a - 18)).2 else b := ⟨_, rfl⟩
  have al1 : ∀ i, i < 13 → al (5 + i) = (g i).1 := fun i hi => by
    rw [eal]
    show (if 5 ≤ 5 + i ∧ 5 + i < 18 then (g (5 + i - 5)).1 else if 18 ≤ 5 + i ∧ 5 + i < 31 then (g (5 + i - 18)).2 else b) = _
    rw [if_pos (by omega), show 5 + i - 5 = i from by omega]
  have al2 : ∀ i, i < 13 → al (18 + i) = (g i).2 := fun i hi => by
    rw [eal]
    show (if 5 ≤ 18 + i ∧ 18 + i < 18 then (g (18 + i - 5)).1 else if 18 ≤ 18 + i ∧ 18 + i < 31 then (g (18 + i - 18)).2 else b) = _
    rw [if_neg (by omega), if_pos (by omega), show 18 + i - 18 = i from by omega]
  have all : ∀ i, al i < s.heap.size := fun i => by
    rw [eal]
    show (if 5 ≤ i ∧ i < 18 then (g (i - 5)).1 else if 18 ≤ i ∧ i < 31 then (g (i - 18)).2 else b) < _
    split
    · exact (hg (i - 5) (by omega)).2.1
    · split
      · exact (hg (i - 18) (by omega)).2.2.1
      · exact c8
  have hA : jAd s.heap.size (jad s.heap.size b t1 t2 t3 t4 al) := ⟨fun a h => jad_hi h, fun a h => jad_lt c8 l1 l2 l3 l4 all h⟩
  have hR : ∀ i, i < 13 → vk_R (jsQ i).1 (jsQ i).2.1 (jsQ i).2.2.1 (jad s.heap.size b t1 t2 t3 t4 al (5 + i)) s := fun i hi => by
    rw [jad_lo (by omega) (by omega), al1 i hi]
    exact (hg i hi).1
  have hV : jV D (jad s.heap.size b t1 t2 t3 t4 al) s := ⟨hD, jnw_of c6, List.forall_mem_cons.mpr ⟨hR 0 (by decide), List.forall_mem_cons.mpr ⟨hR 1 (by decide), List.forall_mem_cons.mpr ⟨hR 2 (by decide), List.forall_mem_cons.mpr ⟨hR 3 (by decide), List.forall_mem_cons.mpr ⟨hR 4 (by decide), List.forall_mem_cons.mpr ⟨hR 5 (by decide), List.forall_mem_cons.mpr ⟨hR 6 (by decide), List.forall_mem_cons.mpr ⟨hR 7 (by decide), List.forall_mem_cons.mpr ⟨hR 8 (by decide), List.forall_mem_cons.mpr ⟨hR 9 (by decide), List.forall_mem_cons.mpr ⟨hR 10 (by decide), List.forall_mem_cons.mpr ⟨hR 11 (by decide), List.forall_mem_cons.mpr ⟨hR 12 (by decide), fun _ h => absurd h List.not_mem_nil⟩⟩⟩⟩⟩⟩⟩⟩⟩⟩⟩⟩⟩, va_AO.of (c6 _ (List.mem_of_getElem? (i := 371) (by decide +kernel))), va_AO.of (c6 _ (List.mem_of_getElem? (i := 269) (by decide +kernel))), va_Nw.of rfl (c6 _ (List.mem_of_getElem? (i := 1452) (by decide +kernel)))⟩
  have hx : ∀ i, i < 13 → va_O "java/lang/String" (al (5 + i)) (fun x => s.heap.size ≤ x) s s.heap ∧ va_OF "java/lang/String" "coder" "B" (.int 0) (al (5 + i)) (fun x => s.heap.size ≤ x) s s.heap ∧ va_OF "java/lang/String" "value" "[B" (.ref (al (18 + i))) (al (5 + i)) (fun x => s.heap.size ≤ x) s s.heap ∧ va_T .byte (al (18 + i)) (jsB i).length (fun j => .int ((jsB i).getD j 0)) (fun x => s.heap.size ≤ x) s s.heap := fun i hi => by
    rw [al1 i hi, al2 i hi]
    exact (hg i hi).2.2.2
  have hcA : ∀ a : Nat, a < s.heap.size → ¬ s.heap.size ≤ a := fun a ha => Nat.not_le.mpr ha
  have zc : va_Z "java/lang/String" "COMPACT_STRINGS" "Z" (.int 1) (fun x => s.heap.size ≤ x) s s.heap := va_Zof (c6 _ (List.mem_of_getElem? (i := 1320) (by decide +kernel))) (c6 _ (List.mem_of_getElem? (i := 219) (by decide +kernel))) (va_eqt (z := 1) (flat_of_before _ c10 (.eq (.static "java/lang/String" "COMPACT_STRINGS" "Z") (.int 1)) (by decide +kernel))) hcA
  have zq : va_Zq "jdk/internal/util/Preconditions" "SIOOBE_FORMATTER" "Ljava/util/function/BiFunction;" (fun x => s.heap.size ≤ x) s s.heap := va_Zqof (c6 _ (List.mem_of_getElem? (i := 1336) (by decide +kernel))) (c6 _ (List.mem_of_getElem? (i := 221) (by decide +kernel))) (flat_of_before _ c10 (.isRef (.static "jdk/internal/util/Preconditions" "SIOOBE_FORMATTER" "Ljava/util/function/BiFunction;")) (by decide +kernel)) hcA
  have hP : jHp D s.heap.size (jad s.heap.size b t1 t2 t3 t4 al) (jhZ L xs) s s.heap := jHp_0 (by omega) c7 z1 y1 z2 y2 z3 y3 z4 y4 zc zq hx
  have hc : jcx p room_1 s m #[Value.ref b] meth c m_L_law 1300 600000 7302250 := ⟨c1, c2, c4, c3, c9, cn, c5, fun w hw => c6 w (jtb_in hw), by decide, by decide, rfl, rfl, k_L_law⟩
  have hl := lv_entry [Value.ref b] (n := 4) (show 1 ≤ 4 by decide)
  rw [lg_entry_eq]
  intro T0 hT X
  obtain ⟨t, a1, o, r1, r2, ⟨r, hx9, e1, e2, -⟩, L', hF, hL'⟩ := law_all (xs := xs) (Q := fun r _ => r = some (.int 1)) hL (fun _ => rfl) p l e room_1 s m #[Value.ref b] below meth c D s.heap.size (jad s.heap.size b t1 t2 t3 t4 al) s.heap [] _ hc hV hA hP hl (fun q h => absurd h List.not_mem_nil) (Nat.zero_le _) (Nat.zero_le _) T0 hT X
  subst e2
  exact ⟨t, a1, o, r1, r2, e1, hF.1, hF.2.1, jfree hF.2.2 hL'⟩
