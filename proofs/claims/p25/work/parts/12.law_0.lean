/-! the law's bytes, read by rows -/
theorem jbyte {c : ByteArray} {pc : Nat} {b : UInt8} (h : c.data.toList[pc]? = some b) : ∃ hp : pc < c.size, c[pc] = b := by
  obtain ⟨h1, h2⟩ := List.getElem?_eq_some_iff.mp h
  exact ⟨h1, h2⟩
theorem j_u1 {c : ByteArray} {pc : Nat} {b : UInt8} (h : c.data.toList[pc]? = some b) : Reader.runAt (Reader.u1 : Decoder Nat) c pc = .ok (b.toNat, pc + 1) := by
  obtain ⟨h1, h2⟩ := jbyte h
  unfold Reader.runAt Reader.u1
  simp only [ReaderT.run_bind, ReaderT.run_read, StateT.run_bind]
  show StateT.run (ReaderT.run (dite (pc < c.size) _ _ : Decoder Nat) c) pc = _
  rw [dif_pos h1]
  show Except.ok (c[pc].toNat, pc + 1) = _
  rw [h2]
theorem j_bind {α β : Type} {m : Decoder α} {f : α → Decoder β} {c : ByteArray} {pc p : Nat} {a : α} (h : m.runAt c pc = .ok (a, p)) : (m >>= f).runAt c pc = (f a).runAt c p := by
  unfold Reader.runAt at h ⊢
  rw [ReaderT.run_bind, StateT.run_bind, h]
  rfl
theorem j_u2 {c : ByteArray} {pc : Nat} {a b : UInt8} (h1 : c.data.toList[pc]? = some a) (h2 : c.data.toList[pc + 1]? = some b) : Reader.runAt (Reader.u2 : Decoder Nat) c pc = .ok (a.toNat * 256 + b.toNat, pc + 2) := by
  unfold Reader.u2
  rw [j_bind (j_u1 h1), j_bind (j_u1 h2)]
  rfl
theorem j_dec {c : ByteArray} {pc n : Nat} {i : Instr} (h : (Decoder.instr pc).runAt c pc = .ok (i, pc + n)) : decode c pc = .ok (i, n) := by
  unfold decode
  rw [h]
  show Except.ok (i, pc + n - pc) = _
  rw [Nat.add_sub_cancel_left]
/-- a window of bytes: one instruction of the kinds that the law has -/
def jdw (w : List UInt8) : Option (Instr × Nat) := match w with
  | [] => none
  | b0 :: w => match b0.toNat, w with
    | 42, _ => some (.aload_n 0, 1)
    | 43, _ => some (.aload_n 1, 1)
    | 44, _ => some (.aload_n 2, 1)
    | 45, _ => some (.aload_n 3, 1)
    | 26, _ => some (.iload_n 0, 1)
    | 27, _ => some (.iload_n 1, 1)
    | 28, _ => some (.iload_n 2, 1)
    | 29, _ => some (.iload_n 3, 1)
    | 2, _ => some (.iconst (-1), 1)
    | 3, _ => some (.iconst 0, 1)
    | 4, _ => some (.iconst 1, 1)
    | 5, _ => some (.iconst 2, 1)
    | 6, _ => some (.iconst 3, 1)
    | 7, _ => some (.iconst 4, 1)
    | 8, _ => some (.iconst 5, 1)
    | 46, _ => some (.iaload, 1)
    | 96, _ => some (.iadd, 1)
    | 172, _ => some (.ireturn, 1)
    | 148, _ => some (.lcmp, 1)
    | 89, _ => some (.dup, 1)
    | 190, _ => some (.arraylength, 1)
    | 100, _ => some (.isub, 1)
    | 126, _ => some (.iand, 1)
    | 75, _ => some (.astore_n 0, 1)
    | 76, _ => some (.astore_n 1, 1)
    | 77, _ => some (.astore_n 2, 1)
    | 78, _ => some (.astore_n 3, 1)
    | 59, _ => some (.istore_n 0, 1)
    | 60, _ => some (.istore_n 1, 1)
    | 61, _ => some (.istore_n 2, 1)
    | 62, _ => some (.istore_n 3, 1)
    | 87, _ => some (.pop, 1)
    | 88, _ => some (.pop2, 1)
    | 182, b1 :: b2 :: _ => some (.invokevirtual (b1.toNat * 256 + b2.toNat), 3)
    | 183, b1 :: b2 :: _ => some (.invokespecial (b1.toNat * 256 + b2.toNat), 3)
    | 187, b1 :: b2 :: _ => some (.new (b1.toNat * 256 + b2.toNat), 3)
    | 159, b1 :: b2 :: _ => some (.if_icmp .eq (Reader.signed 16 (b1.toNat * 256 + b2.toNat)), 3)
    | 163, b1 :: b2 :: _ => some (.if_icmp .gt (Reader.signed 16 (b1.toNat * 256 + b2.toNat)), 3)
    | 153, b1 :: b2 :: _ => some (.ifCond .eq (Reader.signed 16 (b1.toNat * 256 + b2.toNat)), 3)
    | 167, b1 :: b2 :: _ => some (.goto (Reader.signed 16 (b1.toNat * 256 + b2.toNat)), 3)
    | 16, b1 :: _ => some (.bipush (Reader.signed 8 b1.toNat), 2)
    | 132, b1 :: b2 :: _ => some (.iinc b1.toNat (Reader.signed 8 b2.toNat), 3)
    | _, _ => none
set_option maxHeartbeats 4000000 in
theorem jdw_ok {c : ByteArray} {pc : Nat} {w : List UInt8} (hw : ∀ j b, w[j]? = some b → c.data.toList[pc + j]? = some b) {i : Instr} {n : Nat} (h : jdw w = some (i, n)) : decode c pc = .ok (i, n) := by
  cases w with
  | nil => cases h
  | cons b0 w =>
    have h0 : c.data.toList[pc]? = some b0 := hw 0 b0 rfl
    refine j_dec ?_
    unfold Decoder.instr
    rw [j_bind (j_u1 h0)]
    unfold jdw at h
    dsimp only at h
    generalize b0.toNat = o at h ⊢
    split at h
    · cases h; rfl
    · cases h; rfl
    · cases h; rfl
    · cases h; rfl
    · cases h; rfl
    · cases h; rfl
    · cases h; rfl
    · cases h; rfl
    · cases h; rfl
    · cases h; rfl
    · cases h; rfl
    · cases h; rfl
    · cases h; rfl
    · cases h; rfl
    · cases h; rfl
    · cases h; rfl
    · cases h; rfl
    · cases h; rfl
    · cases h; rfl
    · cases h; rfl
    · cases h; rfl
    · cases h; rfl
    · cases h; rfl
    · cases h; rfl
    · cases h; rfl
    · cases h; rfl
    · cases h; rfl
    · cases h; rfl
    · cases h; rfl
    · cases h; rfl
    · cases h; rfl
    · cases h; rfl
    · cases h; rfl
    · rename_i b1 b2 _
      cases h
      show Reader.runAt (_ >>= _) c (pc + 1) = _
      rw [j_bind (j_u2 (hw 1 b1 rfl) (hw 2 b2 rfl))]
      rfl
    · rename_i b1 b2 _
      cases h
      show Reader.runAt (_ >>= _) c (pc + 1) = _
      rw [j_bind (j_u2 (hw 1 b1 rfl) (hw 2 b2 rfl))]
      rfl
    · rename_i b1 b2 _
      cases h
      show Reader.runAt (_ >>= _) c (pc + 1) = _
      rw [j_bind (j_u2 (hw 1 b1 rfl) (hw 2 b2 rfl))]
      rfl
    · rename_i b1 b2 _
      cases h
      have e : Reader.runAt (Reader.s2 : Decoder Int) c (pc + 1) = .ok (Reader.signed 16 (b1.toNat * 256 + b2.toNat), pc + 1 + 2) := by
        have e2 := j_u2 (hw 1 b1 rfl) (hw 2 b2 rfl)
        unfold Reader.runAt at e2 ⊢
        unfold Reader.s2
        rw [ReaderT.run_map, StateT.run_map, e2]
        rfl
      show Reader.runAt (_ >>= _) c (pc + 1) = _
      rw [j_bind e]
      rfl
    · rename_i b1 b2 _
      cases h
      have e : Reader.runAt (Reader.s2 : Decoder Int) c (pc + 1) = .ok (Reader.signed 16 (b1.toNat * 256 + b2.toNat), pc + 1 + 2) := by
        have e2 := j_u2 (hw 1 b1 rfl) (hw 2 b2 rfl)
        unfold Reader.runAt at e2 ⊢
        unfold Reader.s2
        rw [ReaderT.run_map, StateT.run_map, e2]
        rfl
      show Reader.runAt (_ >>= _) c (pc + 1) = _
      rw [j_bind e]
      rfl
    · rename_i b1 b2 _
      cases h
      have e : Reader.runAt (Reader.s2 : Decoder Int) c (pc + 1) = .ok (Reader.signed 16 (b1.toNat * 256 + b2.toNat), pc + 1 + 2) := by
        have e2 := j_u2 (hw 1 b1 rfl) (hw 2 b2 rfl)
        unfold Reader.runAt at e2 ⊢
        unfold Reader.s2
        rw [ReaderT.run_map, StateT.run_map, e2]
        rfl
      show Reader.runAt (_ >>= _) c (pc + 1) = _
      rw [j_bind e]
      rfl
    · rename_i b1 b2 _
      cases h
      have e : Reader.runAt (Reader.s2 : Decoder Int) c (pc + 1) = .ok (Reader.signed 16 (b1.toNat * 256 + b2.toNat), pc + 1 + 2) := by
        have e2 := j_u2 (hw 1 b1 rfl) (hw 2 b2 rfl)
        unfold Reader.runAt at e2 ⊢
        unfold Reader.s2
        rw [ReaderT.run_map, StateT.run_map, e2]
        rfl
      show Reader.runAt (_ >>= _) c (pc + 1) = _
      rw [j_bind e]
      rfl
    · rename_i b1 _
      cases h
      have e : Reader.runAt (Reader.s1 : Decoder Int) c (pc + 1) = .ok (Reader.signed 8 b1.toNat, pc + 1 + 1) := by
        have e2 := j_u1 (hw 1 b1 rfl)
        unfold Reader.runAt at e2 ⊢
        unfold Reader.s1
        rw [ReaderT.run_map, StateT.run_map, e2]
        rfl
      show Reader.runAt (_ >>= _) c (pc + 1) = _
      rw [j_bind e]
      rfl
    · rename_i b1 b2 _
      cases h
      have e : Reader.runAt (Reader.s1 : Decoder Int) c (pc + 1 + 1) = .ok (Reader.signed 8 b2.toNat, pc + 1 + 1 + 1) := by
        have e2 := j_u1 (hw 2 b2 rfl)
        unfold Reader.runAt at e2 ⊢
        unfold Reader.s1
        rw [ReaderT.run_map, StateT.run_map, e2]
        rfl
      show Reader.runAt (_ >>= _) c (pc + 1) = _
      rw [j_bind (j_u1 (hw 1 b1 rfl)), j_bind e]
      rfl
    · cases h
/-- a row of instructions against the bytes from byte o on -/
def jrow (w : List UInt8) (o : Nat) (L : List (Nat × Instr × Nat)) : Bool := L.all (fun q => Nat.ble o q.1 && decide (jdw (w.drop (q.1 - o)) = some q.2))
theorem jrow_ok {c : ByteArray} {w : List UInt8} {o : Nat} {L : List (Nat × Instr × Nat)} (hw : (c.data.toList.drop o).take w.length = w) (h : jrow w o L = true) : ∀ q ∈ L, decode c q.1 = .ok q.2 := by
  intro q hq
  have h1 := List.all_eq_true.mp h q hq
  rw [Bool.and_eq_true] at h1
  have h2 := Nat.ble_eq.mp h1.1
  have h3 := of_decide_eq_true h1.2
  obtain ⟨pc, i, n⟩ := q
  refine jdw_ok (w := w.drop (pc - o)) (fun j b hj => ?_) h3
  dsimp only at h2
  rw [List.getElem?_drop] at hj
  have e : w[pc - o + j]? = c.data.toList[pc + j]? := by
    have hlt : pc - o + j < w.length := (List.getElem?_eq_some_iff.mp hj).1
    have h5 : ((c.data.toList.drop o).take w.length)[pc - o + j]? = c.data.toList[pc + j]? := by
      rw [List.getElem?_take, if_pos hlt, List.getElem?_drop]
      congr 1
      omega
    rw [hw] at h5
    exact h5
  rw [← e]
  exact hj
