/-! ABSTRACT HEAPS: shapes (tag, length), numbers, longs, references by (cell, place), and the next cell. A cell of tag c < 50 is an object of class number c of vwCl; tags 100 .. 105 are arrays. Abstract cells below jK0 are old ones (the script, static arrays, texts): they are never written. -/
abbrev jH : Type := (Nat → Nat × Nat) × (Nat → Nat → Int32) × (Nat → Nat → Int64) × (Nat → Nat → Option Nat) × Nat
def jsh (h : jH) (a : Nat) : Nat × Nat := h.1 a
def jiv (h : jH) (a k : Nat) : Int32 := h.2.1 a k
def jlv (h : jH) (a k : Nat) : Int64 := h.2.2.1 a k
def jrv (h : jH) (a k : Nat) : Option Nat := h.2.2.2.1 a k
def jnx (h : jH) : Nat := h.2.2.2.2
def ju2 {α : Type} (f : Nat → Nat → α) (a k : Nat) (v : α) : Nat → Nat → α := fun b j => if b = a then (if j = k then v else f b j) else f b j
def ju1 {α : Type} (f : Nat → Nat → α) (a : Nat) (v : Nat → α) : Nat → Nat → α := fun b j => if b = a then v j else f b j
def jsi (h : jH) (a k : Nat) (v : Int32) : jH := (h.1, ju2 h.2.1 a k v, h.2.2)
def jsl (h : jH) (a k : Nat) (v : Int64) : jH := (h.1, h.2.1, ju2 h.2.2.1 a k v, h.2.2.2)
def jsr (h : jH) (a k : Nat) (v : Option Nat) : jH := (h.1, h.2.1, h.2.2.1, ju2 h.2.2.2.1 a k v, h.2.2.2.2)
def jnw (h : jH) (t n : Nat) : jH := ((fun b => if b = jnx h then (t, n) else h.1 b), ju1 h.2.1 (jnx h) (fun _ => 0), ju1 h.2.2.1 (jnx h) (fun _ => 0), ju1 h.2.2.2.1 (jnx h) (fun _ => none), jnx h + 1)
def jci (h : jH) (a b sp dp n : Nat) : jH := (h.1, ju1 h.2.1 b (va_cpy (h.2.1 a) (h.2.1 b) sp dp n), h.2.2)
def jcl (h : jH) (a b sp dp n : Nat) : jH := (h.1, h.2.1, ju1 h.2.2.1 b (va_cpy (h.2.2.1 a) (h.2.2.1 b) sp dp n), h.2.2.2)
def jK0 : Nat := 31
def jtA (t : Nat) : FieldType := match t with
  | 100 => .int
  | 101 => .long
  | 102 => .boolean
  | 103 => .byte
  | 104 => .object "ParishChest$Chest"
  | _ => .object "ParishChest$Text"
def jft (c k : Nat) : FieldType := match c with
  | 0 => tyX0 k
  | 1 => tyX1 k
  | 2 => tyX2 k
  | 3 => tyX3 k
  | 4 => tyX4 k
  | 5 => tyX5 k
  | 6 => tyX6 k
  | 7 => tyX7 k
  | 8 => tyX8 k
  | 9 => tyX9 k
  | 10 => tyX10 k
  | 11 => tyX11 k
  | _ => tyX12 k
/-- what kind of number a type is: 0 a long, 1 a reference, 2 an int -/
def jkd (ty : FieldType) : Nat := match ty with
  | .long => 0
  | .object _ => 1
  | .array _ => 1
  | _ => 2
def jvk (ad : Nat → Nat) (h : jH) (d a j : Nat) : Value := match d with
  | 0 => .long (jlv h a j)
  | 1 => va_rf ((jrv h a j).map ad)
  | _ => .int (jiv h a j)
def jv (ad : Nat → Nat) (v : Value) : Value := match v with
  | .ref a => .ref (ad a)
  | w => w
theorem jv_int (ad : Nat → Nat) (x : Int32) : jv ad (.int x) = .int x := rfl
theorem jv_long (ad : Nat → Nat) (x : Int64) : jv ad (.long x) = .long x := rfl
theorem jv_ref (ad : Nat → Nat) (x : Nat) : jv ad (.ref x) = .ref (ad x) := rfl
theorem jv_null (ad : Nat → Nat) : jv ad .null = .null := rfl
theorem jv_cat (ad : Nat → Nat) (v : Value) : (jv ad v).category = v.category := by cases v <;> rfl
theorem jv_rf (ad : Nat → Nat) (r : Option Nat) : jv ad (va_rf r) = va_rf (r.map ad) := by cases r <;> rfl
/-- an object's cell -/
def jOb (D : va_G) (ad : Nat → Nat) (h : jH) (a c : Nat) (H : Heap) : Prop := ∃ q : vw_C, vwCl[c]? = some q ∧ t_OB (ad a) (D.1 c) q.2.2 (D.2 c) H (fun j => jvk ad h (jkd (jft c j)) a j)
/-- an array's cell -/
def jAr (U : State) (ad : Nat → Nat) (h : jH) (a t n : Nat) (H : Heap) : Prop := n < 2 ^ 31 ∧ ∃ cell : Cell, H[ad a]? = some cell ∧ U.isArrayOf cell (jtA t) ∧ cell.vm ≠ .unknown ∧ n ≤ cell.slots.size ∧ cell.slots.size.toInt32 = nI n ∧ (∀ j, j < n → cell.slots[j]? = some (jvk ad h (jkd (jtA t)) a j)) ∧ (jK0 ≤ a → cell = arrV cell.cls n (fun j => jvk ad h (jkd (jtA t)) a j) ∧ va_RA U cell.cls (jtA t))
/-- static arrays: class, name, descriptor, abstract cell -/
def jst : List (String × String × String × Nat) := [("ParishChest", "ROLES_OF", "[I", 1), ("ParishChest", "FIRST_CODE", "[I", 2), ("ParishChest$Clerk", "KIND_OF", "[I", 3), ("ParishChest$Clerk", "WHICH_OF", "[I", 4)]
/-- the class's texts: String objects 5 .. 17, their bytes 18 .. 30; two statics of the library that their methods read -/
def jSx (lo : Nat) (ad : Nat → Nat) (U : State) (H : Heap) : Prop :=
  va_Z "java/lang/String" "COMPACT_STRINGS" "Z" (.int 1) (fun x => lo ≤ x) U H ∧ va_Zq "jdk/internal/util/Preconditions" "SIOOBE_FORMATTER" "Ljava/util/function/BiFunction;" (fun x => lo ≤ x) U H ∧
  ∀ i, i < 13 → va_O "java/lang/String" (ad (5 + i)) (fun x => lo ≤ x) U H ∧ va_OF "java/lang/String" "coder" "B" (.int 0) (ad (5 + i)) (fun x => lo ≤ x) U H ∧ va_OF "java/lang/String" "value" "[B" (.ref (ad (18 + i))) (ad (5 + i)) (fun x => lo ≤ x) U H
theorem jSx.moved {lo : Nat} {ad : Nat → Nat} {u U : State} {H : Heap} (hvm : u.vm.Alike U.vm) (x : jSx lo ad u H) : jSx lo ad U H :=
  ⟨x.1.moved hvm, x.2.1.moved hvm, fun i hi => ⟨(x.2.2 i hi).1.moved hvm, (x.2.2 i hi).2.1.moved hvm, (x.2.2 i hi).2.2.moved hvm⟩⟩
theorem jSx.kept {lo : Nat} {ad : Nat → Nat} {U : State} {H H1 : Heap} (x : jSx lo ad U H) (hq : ∀ a : Nat, a < H.size → ¬ lo ≤ a → H1[a]? = H[a]?) : jSx lo ad U H1 :=
  ⟨x.1.kept hq, x.2.1.kept hq, fun i hi => ⟨(x.2.2 i hi).1.kept hq, (x.2.2 i hi).2.1.kept hq, (x.2.2 i hi).2.2.kept hq⟩⟩
/-- the heap H of a state U holds h -/
def jHp (D : va_G) (lo : Nat) (ad : Nat → Nat) (h : jH) (U : State) (H : Heap) : Prop :=
  H.size = lo + (jnx h - jK0) ∧ jK0 ≤ jnx h ∧ (∀ a, ((jsh h a).1 < 50 → a < jnx h ∧ jOb D ad h a (jsh h a).1 H) ∧ (100 ≤ (jsh h a).1 → (jsh h a).1 < 106 → a < jnx h ∧ jAr U ad h a (jsh h a).1 (jsh h a).2 H)) ∧ (∀ q ∈ jst, va_Z q.1 q.2.1 q.2.2.1 (.ref (ad q.2.2.2)) (fun x => lo ≤ x) U H) ∧ jSx lo ad U H
/-- where abstract cells lie -/
def jAd (lo : Nat) (ad : Nat → Nat) : Prop := (∀ a, jK0 ≤ a → ad a = lo + (a - jK0)) ∧ ∀ a, a < jK0 → ad a < lo
theorem jAd.ne {lo : Nat} {ad : Nat → Nat} (hA : jAd lo ad) {a b : Nat} (ha : jK0 ≤ a) (h : b ≠ a) : ad b ≠ ad a := by
  have h1 := hA.1 a ha
  by_cases hb : jK0 ≤ b
  · have h2 := hA.1 b hb
    intro e
    omega
  · have h2 := hA.2 b (by omega)
    intro e
    omega
theorem jAd.lo {lo : Nat} {ad : Nat → Nat} (hA : jAd lo ad) {a : Nat} (ha : jK0 ≤ a) : lo ≤ ad a := by
  have h1 := hA.1 a ha
  omega
theorem jAr.moved {u U : State} {ad : Nat → Nat} {h : jH} {a t n : Nat} {H : Heap} (hvm : u.vm.Alike U.vm) (x : jAr u ad h a t n H) : jAr U ad h a t n H := by
  obtain ⟨x0, cell, x1, x2, x3, x4, x5, x6, x7⟩ := x
  exact ⟨x0, cell, x1, State.isArrayOf_alike hvm x2, x3, x4, x5, x6, fun q => ⟨(x7 q).1, (x7 q).2.moved hvm⟩⟩
theorem jHp.moved {D : va_G} {lo : Nat} {ad : Nat → Nat} {h : jH} {u U : State} {H : Heap} (hvm : u.vm.Alike U.vm) (x : jHp D lo ad h u H) : jHp D lo ad h U H := by
  obtain ⟨x1, x2, x3, x4⟩ := x
  exact ⟨x1, x2, fun a => ⟨(x3 a).1, fun g1 g2 => ⟨((x3 a).2 g1 g2).1, ((x3 a).2 g1 g2).2.moved hvm⟩⟩, fun q hq => (x4.1 q hq).moved hvm, x4.2.moved hvm⟩
