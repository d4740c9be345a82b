/-! arithmetic, stack, branches -/
section R2
variable {M : jM} {d K S pc : Nat} {ls : jL} {st : List Value} {h : jH} {k n : Nat} {Q : Option Value → jH → Prop}
theorem x_iadd {x y : Int32} (hat : jat M pc = some (.iadd, 1)) (kk : jX M d K S (pc + 1) ls (.int (x + y) :: st) h k n Q) : jX M d K S pc ls (.int y :: .int x :: st) h k n Q :=
  jX.go (fun p l e R s m args below meth c ad H locs lA Z c1 c2 c8 c7 c13 hl g => lv_iadd c1 c2 (jok_at c13 hat) (g lA hl)) kk
theorem x_isub {x y : Int32} (hat : jat M pc = some (.isub, 1)) (kk : jX M d K S (pc + 1) ls (.int (x - y) :: st) h k n Q) : jX M d K S pc ls (.int y :: .int x :: st) h k n Q :=
  jX.go (fun p l e R s m args below meth c ad H locs lA Z c1 c2 c8 c7 c13 hl g => lv_isub c1 c2 (jok_at c13 hat) (g lA hl)) kk
theorem x_imul {x y : Int32} (hat : jat M pc = some (.imul, 1)) (kk : jX M d K S (pc + 1) ls (.int (x * y) :: st) h k n Q) : jX M d K S pc ls (.int y :: .int x :: st) h k n Q :=
  jX.go (fun p l e R s m args below meth c ad H locs lA Z c1 c2 c8 c7 c13 hl g => lv_imul c1 c2 (jok_at c13 hat) (g lA hl)) kk
theorem x_iand {x y : Int32} (hat : jat M pc = some (.iand, 1)) (kk : jX M d K S (pc + 1) ls (.int (x &&& y) :: st) h k n Q) : jX M d K S pc ls (.int y :: .int x :: st) h k n Q :=
  jX.go (fun p l e R s m args below meth c ad H locs lA Z c1 c2 c8 c7 c13 hl g => lv_iand c1 c2 (jok_at c13 hat) (g lA hl)) kk
theorem x_ior {x y : Int32} (hat : jat M pc = some (.ior, 1)) (kk : jX M d K S (pc + 1) ls (.int (x ||| y) :: st) h k n Q) : jX M d K S pc ls (.int y :: .int x :: st) h k n Q :=
  jX.go (fun p l e R s m args below meth c ad H locs lA Z c1 c2 c8 c7 c13 hl g => lv_ior c1 c2 (jok_at c13 hat) (g lA hl)) kk
theorem x_ixor {x y : Int32} (hat : jat M pc = some (.ixor, 1)) (kk : jX M d K S (pc + 1) ls (.int (x ^^^ y) :: st) h k n Q) : jX M d K S pc ls (.int y :: .int x :: st) h k n Q :=
  jX.go (fun p l e R s m args below meth c ad H locs lA Z c1 c2 c8 c7 c13 hl g => lv_ixor c1 c2 (jok_at c13 hat) (g lA hl)) kk
theorem x_ishl {x y : Int32} (hat : jat M pc = some (.ishl, 1)) (kk : jX M d K S (pc + 1) ls (.int (x <<< (y &&& 31)) :: st) h k n Q) : jX M d K S pc ls (.int y :: .int x :: st) h k n Q :=
  jX.go (fun p l e R s m args below meth c ad H locs lA Z c1 c2 c8 c7 c13 hl g => lv_ishl c1 c2 (jok_at c13 hat) (g lA hl)) kk
theorem x_ishr {x y : Int32} (hat : jat M pc = some (.ishr, 1)) (kk : jX M d K S (pc + 1) ls (.int (x >>> (y &&& 31)) :: st) h k n Q) : jX M d K S pc ls (.int y :: .int x :: st) h k n Q :=
  jX.go (fun p l e R s m args below meth c ad H locs lA Z c1 c2 c8 c7 c13 hl g => lv_ishr c1 c2 (jok_at c13 hat) (g lA hl)) kk
theorem x_iushr {x y : Int32} (hat : jat M pc = some (.iushr, 1)) (kk : jX M d K S (pc + 1) ls (.int ((x.toUInt32 >>> (y.toUInt32 &&& Int32.toUInt32 31)).toInt32) :: st) h k n Q) : jX M d K S pc ls (.int y :: .int x :: st) h k n Q :=
  jX.go (fun p l e R s m args below meth c ad H locs lA Z c1 c2 c8 c7 c13 hl g => lv_iushr c1 c2 (jok_at c13 hat) rfl (g lA hl)) kk
theorem x_idiv {x y : Int32} (hat : jat M pc = some (.idiv, 1)) (hne : ¬ y = 0) (kk : jX M d K S (pc + 1) ls (.int (x / y) :: st) h k n Q) : jX M d K S pc ls (.int y :: .int x :: st) h k n Q :=
  jX.go (fun p l e R s m args below meth c ad H locs lA Z c1 c2 c8 c7 c13 hl g => lv_idiv c1 c2 (jok_at c13 hat) hne (g lA hl)) kk
theorem x_irem {x y : Int32} (hat : jat M pc = some (.irem, 1)) (hne : ¬ y = 0) (kk : jX M d K S (pc + 1) ls (.int (x - x / y * y) :: st) h k n Q) : jX M d K S pc ls (.int y :: .int x :: st) h k n Q :=
  jX.go (fun p l e R s m args below meth c ad H locs lA Z c1 c2 c8 c7 c13 hl g => lv_irem c1 c2 (jok_at c13 hat) hne (g lA hl)) kk
theorem x_ladd {x y : Int64} (hat : jat M pc = some (.ladd, 1)) (kk : jX M d K S (pc + 1) ls (.long (x + y) :: st) h k n Q) : jX M d K S pc ls (.long y :: .long x :: st) h k n Q :=
  jX.go (fun p l e R s m args below meth c ad H locs lA Z c1 c2 c8 c7 c13 hl g => lv_ladd c1 c2 (jok_at c13 hat) (g lA hl)) kk
theorem x_lsub {x y : Int64} (hat : jat M pc = some (.lsub, 1)) (kk : jX M d K S (pc + 1) ls (.long (x - y) :: st) h k n Q) : jX M d K S pc ls (.long y :: .long x :: st) h k n Q :=
  jX.go (fun p l e R s m args below meth c ad H locs lA Z c1 c2 c8 c7 c13 hl g => lv_lsub c1 c2 (jok_at c13 hat) (g lA hl)) kk
theorem x_lmul {x y : Int64} (hat : jat M pc = some (.lmul, 1)) (kk : jX M d K S (pc + 1) ls (.long (x * y) :: st) h k n Q) : jX M d K S pc ls (.long y :: .long x :: st) h k n Q :=
  jX.go (fun p l e R s m args below meth c ad H locs lA Z c1 c2 c8 c7 c13 hl g => lv_lmul c1 c2 (jok_at c13 hat) (g lA hl)) kk
theorem x_ldiv {x y : Int64} (hat : jat M pc = some (.ldiv, 1)) (hne : ¬ y = 0) (kk : jX M d K S (pc + 1) ls (.long (x / y) :: st) h k n Q) : jX M d K S pc ls (.long y :: .long x :: st) h k n Q :=
  jX.go (fun p l e R s m args below meth c ad H locs lA Z c1 c2 c8 c7 c13 hl g => lv_ldiv c1 c2 (jok_at c13 hat) hne (g lA hl)) kk
theorem x_lrem {x y : Int64} (hat : jat M pc = some (.lrem, 1)) (hne : ¬ y = 0) (kk : jX M d K S (pc + 1) ls (.long (x - x / y * y) :: st) h k n Q) : jX M d K S pc ls (.long y :: .long x :: st) h k n Q :=
  jX.go (fun p l e R s m args below meth c ad H locs lA Z c1 c2 c8 c7 c13 hl g => lv_lrem c1 c2 (jok_at c13 hat) hne (g lA hl)) kk
theorem x_lcmp {x y : Int64} (hat : jat M pc = some (.lcmp, 1)) (kk : jX M d K S (pc + 1) ls (.int (lg_cmp x y) :: st) h k n Q) : jX M d K S pc ls (.long y :: .long x :: st) h k n Q :=
  jX.go (fun p l e R s m args below meth c ad H locs lA Z c1 c2 c8 c7 c13 hl g => W.lcmp c1 c2 (jok_at c13 hat) (g lA hl)) kk
theorem x_ineg {x : Int32} (hat : jat M pc = some (.ineg, 1)) (kk : jX M d K S (pc + 1) ls (.int (-x) :: st) h k n Q) : jX M d K S pc ls (.int x :: st) h k n Q :=
  jX.go (fun p l e R s m args below meth c ad H locs lA Z c1 c2 c8 c7 c13 hl g => lv_ineg c1 c2 (jok_at c13 hat) (g lA hl)) kk
theorem x_lneg {x : Int64} (hat : jat M pc = some (.lneg, 1)) (kk : jX M d K S (pc + 1) ls (.long (-x) :: st) h k n Q) : jX M d K S pc ls (.long x :: st) h k n Q :=
  jX.go (fun p l e R s m args below meth c ad H locs lA Z c1 c2 c8 c7 c13 hl g => lv_lneg c1 c2 (jok_at c13 hat) (g lA hl)) kk
theorem x_i2l {x : Int32} (hat : jat M pc = some (.i2l, 1)) (kk : jX M d K S (pc + 1) ls (.long x.toInt64 :: st) h k n Q) : jX M d K S pc ls (.int x :: st) h k n Q :=
  jX.go (fun p l e R s m args below meth c ad H locs lA Z c1 c2 c8 c7 c13 hl g => lv_i2l c1 c2 (jok_at c13 hat) rfl (g lA hl)) kk
theorem x_l2i {x : Int64} (hat : jat M pc = some (.l2i, 1)) (kk : jX M d K S (pc + 1) ls (.int x.toInt32 :: st) h k n Q) : jX M d K S pc ls (.long x :: st) h k n Q :=
  jX.go (fun p l e R s m args below meth c ad H locs lA Z c1 c2 c8 c7 c13 hl g => lv_l2i c1 c2 (jok_at c13 hat) rfl (g lA hl)) kk
theorem x_i2c {x : Int32} (hat : jat M pc = some (.i2c, 1)) (kk : jX M d K S (pc + 1) ls (.int (x.toUInt32 % 65536).toInt32 :: st) h k n Q) : jX M d K S pc ls (.int x :: st) h k n Q :=
  jX.go (fun p l e R s m args below meth c ad H locs lA Z c1 c2 c8 c7 c13 hl g => lv_i2c c1 c2 (jok_at c13 hat) rfl (g lA hl)) kk
theorem x_dup {v : Value} (hat : jat M pc = some (.dup, 1)) (hv : v.category = 1) (kk : jX M d K S (pc + 1) ls (v :: v :: st) h k n Q) : jX M d K S pc ls (v :: st) h k n Q :=
  jX.go (fun p l e R s m args below meth c ad H locs lA Z c1 c2 c8 c7 c13 hl g => lv_dup c1 c2 (jok_at c13 hat) (by rw [jv_cat]; exact hv) (g lA hl)) kk
theorem x_pop {v : Value} (hat : jat M pc = some (.pop, 1)) (hv : v.category = 1) (kk : jX M d K S (pc + 1) ls st h k n Q) : jX M d K S pc ls (v :: st) h k n Q :=
  jX.go (fun p l e R s m args below meth c ad H locs lA Z c1 c2 c8 c7 c13 hl g => lv_pop c1 c2 (jok_at c13 hat) (by rw [jv_cat]; exact hv) (g lA hl)) kk
theorem x_dup2 {v w : Value} (hat : jat M pc = some (.dup2, 1)) (hv : v.category = 1) (hw : w.category = 1) (kk : jX M d K S (pc + 1) ls (v :: w :: v :: w :: st) h k n Q) : jX M d K S pc ls (v :: w :: st) h k n Q :=
  jX.go (fun p l e R s m args below meth c ad H locs lA Z c1 c2 c8 c7 c13 hl g => lv_dup2_11 c1 c2 (jok_at c13 hat) (by rw [jv_cat]; exact hv) (by rw [jv_cat]; exact hw) (g lA hl)) kk
theorem x_dup2L {x : Int64} (hat : jat M pc = some (.dup2, 1)) (kk : jX M d K S (pc + 1) ls (.long x :: .long x :: st) h k n Q) : jX M d K S pc ls (.long x :: st) h k n Q :=
  jX.go (fun p l e R s m args below meth c ad H locs lA Z c1 c2 c8 c7 c13 hl g => lv_dup2_2 c1 c2 (jok_at c13 hat) rfl (g lA hl)) kk
theorem x_goto {off : Int} {tgt : Nat} (hat : jat M pc = some (.goto off, 3)) (ht : (pc : Int) + off = (tgt : Int)) (kk : jX M d K S tgt ls st h k n Q) : jX M d K S pc ls st h k n Q :=
  jX.go (fun p l e R s m args below meth c ad H locs lA Z c1 c2 c8 c7 c13 hl g => lv_goto c1 c2 (jok_at c13 hat) ht (g lA hl)) kk
theorem x_ifeq {x : Int32} {off : Int} {tgt : Nat} (hat : jat M pc = some (.ifCond .eq off, 3)) (ht : (pc : Int) + off = (tgt : Int)) (kk : (x = 0 → jX M d K S tgt ls st h k n Q) ∧ (¬ x = 0 → jX M d K S (pc + 3) ls st h k n Q)) : jX M d K S pc ls (.int x :: st) h k n Q := by
  by_cases hc : x = 0
  · exact jX.go (fun p l e R s m args below meth c ad H locs lA Z c1 c2 c8 c7 c13 hl g => lv_if_eq c1 c2 (jok_at c13 hat) ht (fun _ => g lA hl) (fun q => absurd hc q)) (kk.1 hc)
  · exact jX.go (fun p l e R s m args below meth c ad H locs lA Z c1 c2 c8 c7 c13 hl g => lv_if_eq c1 c2 (jok_at c13 hat) ht (fun q => absurd q hc) (fun _ => g lA hl)) (kk.2 hc)
theorem x_iceq {x y : Int32} {off : Int} {tgt : Nat} (hat : jat M pc = some (.if_icmp .eq off, 3)) (ht : (pc : Int) + off = (tgt : Int)) (kk : (x = y → jX M d K S tgt ls st h k n Q) ∧ (¬ x = y → jX M d K S (pc + 3) ls st h k n Q)) : jX M d K S pc ls (.int y :: .int x :: st) h k n Q := by
  by_cases hc : x = y
  · exact jX.go (fun p l e R s m args below meth c ad H locs lA Z c1 c2 c8 c7 c13 hl g => lv_icmp_eq c1 c2 (jok_at c13 hat) ht (fun _ => g lA hl) (fun q => absurd hc q)) (kk.1 hc)
  · exact jX.go (fun p l e R s m args below meth c ad H locs lA Z c1 c2 c8 c7 c13 hl g => lv_icmp_eq c1 c2 (jok_at c13 hat) ht (fun q => absurd q hc) (fun _ => g lA hl)) (kk.2 hc)
theorem x_ifne {x : Int32} {off : Int} {tgt : Nat} (hat : jat M pc = some (.ifCond .ne off, 3)) (ht : (pc : Int) + off = (tgt : Int)) (kk : (¬ x = 0 → jX M d K S tgt ls st h k n Q) ∧ (x = 0 → jX M d K S (pc + 3) ls st h k n Q)) : jX M d K S pc ls (.int x :: st) h k n Q := by
  by_cases hc : x = 0
  · exact jX.go (fun p l e R s m args below meth c ad H locs lA Z c1 c2 c8 c7 c13 hl g => lv_if_ne c1 c2 (jok_at c13 hat) ht (fun q => absurd hc q) (fun _ => g lA hl)) (kk.2 hc)
  · exact jX.go (fun p l e R s m args below meth c ad H locs lA Z c1 c2 c8 c7 c13 hl g => lv_if_ne c1 c2 (jok_at c13 hat) ht (fun _ => g lA hl) (fun q => absurd q hc)) (kk.1 hc)
theorem x_icne {x y : Int32} {off : Int} {tgt : Nat} (hat : jat M pc = some (.if_icmp .ne off, 3)) (ht : (pc : Int) + off = (tgt : Int)) (kk : (¬ x = y → jX M d K S tgt ls st h k n Q) ∧ (x = y → jX M d K S (pc + 3) ls st h k n Q)) : jX M d K S pc ls (.int y :: .int x :: st) h k n Q := by
  by_cases hc : x = y
  · exact jX.go (fun p l e R s m args below meth c ad H locs lA Z c1 c2 c8 c7 c13 hl g => lv_icmp_ne c1 c2 (jok_at c13 hat) ht (fun q => absurd hc q) (fun _ => g lA hl)) (kk.2 hc)
  · exact jX.go (fun p l e R s m args below meth c ad H locs lA Z c1 c2 c8 c7 c13 hl g => lv_icmp_ne c1 c2 (jok_at c13 hat) ht (fun _ => g lA hl) (fun q => absurd q hc)) (kk.1 hc)
theorem x_iflt {x : Int32} {off : Int} {tgt : Nat} (hat : jat M pc = some (.ifCond .lt off, 3)) (ht : (pc : Int) + off = (tgt : Int)) (kk : (x < 0 → jX M d K S tgt ls st h k n Q) ∧ (¬ x < 0 → jX M d K S (pc + 3) ls st h k n Q)) : jX M d K S pc ls (.int x :: st) h k n Q := by
  by_cases hc : x < 0
  · exact jX.go (fun p l e R s m args below meth c ad H locs lA Z c1 c2 c8 c7 c13 hl g => lv_if_lt c1 c2 (jok_at c13 hat) ht (fun _ => g lA hl) (fun q => absurd hc q)) (kk.1 hc)
  · exact jX.go (fun p l e R s m args below meth c ad H locs lA Z c1 c2 c8 c7 c13 hl g => lv_if_lt c1 c2 (jok_at c13 hat) ht (fun q => absurd q hc) (fun _ => g lA hl)) (kk.2 hc)
theorem x_iclt {x y : Int32} {off : Int} {tgt : Nat} (hat : jat M pc = some (.if_icmp .lt off, 3)) (ht : (pc : Int) + off = (tgt : Int)) (kk : (x < y → jX M d K S tgt ls st h k n Q) ∧ (¬ x < y → jX M d K S (pc + 3) ls st h k n Q)) : jX M d K S pc ls (.int y :: .int x :: st) h k n Q := by
  by_cases hc : x < y
  · exact jX.go (fun p l e R s m args below meth c ad H locs lA Z c1 c2 c8 c7 c13 hl g => lv_icmp_lt c1 c2 (jok_at c13 hat) ht (fun _ => g lA hl) (fun q => absurd hc q)) (kk.1 hc)
  · exact jX.go (fun p l e R s m args below meth c ad H locs lA Z c1 c2 c8 c7 c13 hl g => lv_icmp_lt c1 c2 (jok_at c13 hat) ht (fun q => absurd q hc) (fun _ => g lA hl)) (kk.2 hc)
theorem x_ifge {x : Int32} {off : Int} {tgt : Nat} (hat : jat M pc = some (.ifCond .ge off, 3)) (ht : (pc : Int) + off = (tgt : Int)) (kk : (0 ≤ x → jX M d K S tgt ls st h k n Q) ∧ (¬ 0 ≤ x → jX M d K S (pc + 3) ls st h k n Q)) : jX M d K S pc ls (.int x :: st) h k n Q := by
  by_cases hc : 0 ≤ x
  · exact jX.go (fun p l e R s m args below meth c ad H locs lA Z c1 c2 c8 c7 c13 hl g => lv_if_ge c1 c2 (jok_at c13 hat) ht (fun _ => g lA hl) (fun q => absurd hc q)) (kk.1 hc)
  · exact jX.go (fun p l e R s m args below meth c ad H locs lA Z c1 c2 c8 c7 c13 hl g => lv_if_ge c1 c2 (jok_at c13 hat) ht (fun q => absurd q hc) (fun _ => g lA hl)) (kk.2 hc)
theorem x_icge {x y : Int32} {off : Int} {tgt : Nat} (hat : jat M pc = some (.if_icmp .ge off, 3)) (ht : (pc : Int) + off = (tgt : Int)) (kk : (y ≤ x → jX M d K S tgt ls st h k n Q) ∧ (¬ y ≤ x → jX M d K S (pc + 3) ls st h k n Q)) : jX M d K S pc ls (.int y :: .int x :: st) h k n Q := by
  by_cases hc : y ≤ x
  · exact jX.go (fun p l e R s m args below meth c ad H locs lA Z c1 c2 c8 c7 c13 hl g => lv_icmp_ge c1 c2 (jok_at c13 hat) ht (fun _ => g lA hl) (fun q => absurd hc q)) (kk.1 hc)
  · exact jX.go (fun p l e R s m args below meth c ad H locs lA Z c1 c2 c8 c7 c13 hl g => lv_icmp_ge c1 c2 (jok_at c13 hat) ht (fun q => absurd q hc) (fun _ => g lA hl)) (kk.2 hc)
theorem x_ifgt {x : Int32} {off : Int} {tgt : Nat} (hat : jat M pc = some (.ifCond .gt off, 3)) (ht : (pc : Int) + off = (tgt : Int)) (kk : (0 < x → jX M d K S tgt ls st h k n Q) ∧ (¬ 0 < x → jX M d K S (pc + 3) ls st h k n Q)) : jX M d K S pc ls (.int x :: st) h k n Q := by
  by_cases hc : 0 < x
  · exact jX.go (fun p l e R s m args below meth c ad H locs lA Z c1 c2 c8 c7 c13 hl g => lv_if_gt c1 c2 (jok_at c13 hat) ht (fun _ => g lA hl) (fun q => absurd hc q)) (kk.1 hc)
  · exact jX.go (fun p l e R s m args below meth c ad H locs lA Z c1 c2 c8 c7 c13 hl g => lv_if_gt c1 c2 (jok_at c13 hat) ht (fun q => absurd q hc) (fun _ => g lA hl)) (kk.2 hc)
theorem x_icgt {x y : Int32} {off : Int} {tgt : Nat} (hat : jat M pc = some (.if_icmp .gt off, 3)) (ht : (pc : Int) + off = (tgt : Int)) (kk : (y < x → jX M d K S tgt ls st h k n Q) ∧ (¬ y < x → jX M d K S (pc + 3) ls st h k n Q)) : jX M d K S pc ls (.int y :: .int x :: st) h k n Q := by
  by_cases hc : y < x
  · exact jX.go (fun p l e R s m args below meth c ad H locs lA Z c1 c2 c8 c7 c13 hl g => lv_icmp_gt c1 c2 (jok_at c13 hat) ht (fun _ => g lA hl) (fun q => absurd hc q)) (kk.1 hc)
  · exact jX.go (fun p l e R s m args below meth c ad H locs lA Z c1 c2 c8 c7 c13 hl g => lv_icmp_gt c1 c2 (jok_at c13 hat) ht (fun q => absurd q hc) (fun _ => g lA hl)) (kk.2 hc)
theorem x_ifle {x : Int32} {off : Int} {tgt : Nat} (hat : jat M pc = some (.ifCond .le off, 3)) (ht : (pc : Int) + off = (tgt : Int)) (kk : (x ≤ 0 → jX M d K S tgt ls st h k n Q) ∧ (¬ x ≤ 0 → jX M d K S (pc + 3) ls st h k n Q)) : jX M d K S pc ls (.int x :: st) h k n Q := by
  by_cases hc : x ≤ 0
  · exact jX.go (fun p l e R s m args below meth c ad H locs lA Z c1 c2 c8 c7 c13 hl g => lv_if_le c1 c2 (jok_at c13 hat) ht (fun _ => g lA hl) (fun q => absurd hc q)) (kk.1 hc)
  · exact jX.go (fun p l e R s m args below meth c ad H locs lA Z c1 c2 c8 c7 c13 hl g => lv_if_le c1 c2 (jok_at c13 hat) ht (fun q => absurd q hc) (fun _ => g lA hl)) (kk.2 hc)
theorem x_icle {x y : Int32} {off : Int} {tgt : Nat} (hat : jat M pc = some (.if_icmp .le off, 3)) (ht : (pc : Int) + off = (tgt : Int)) (kk : (x ≤ y → jX M d K S tgt ls st h k n Q) ∧ (¬ x ≤ y → jX M d K S (pc + 3) ls st h k n Q)) : jX M d K S pc ls (.int y :: .int x :: st) h k n Q := by
  by_cases hc : x ≤ y
  · exact jX.go (fun p l e R s m args below meth c ad H locs lA Z c1 c2 c8 c7 c13 hl g => lv_icmp_le c1 c2 (jok_at c13 hat) ht (fun _ => g lA hl) (fun q => absurd hc q)) (kk.1 hc)
  · exact jX.go (fun p l e R s m args below meth c ad H locs lA Z c1 c2 c8 c7 c13 hl g => lv_icmp_le c1 c2 (jok_at c13 hat) ht (fun q => absurd q hc) (fun _ => g lA hl)) (kk.2 hc)
theorem x_ifnull {x : Nat} {off : Int} (hat : jat M pc = some (.ifnull off, 3)) (kk : jX M d K S (pc + 3) ls st h k n Q) : jX M d K S pc ls (.ref x :: st) h k n Q :=
  jX.go (fun p l e R s m args below meth c ad H locs lA Z c1 c2 c8 c7 c13 hl g => lv_ifnull c1 c2 (jok_at c13 hat) (g lA hl)) kk
theorem x_ifnullN {off : Int} {tgt : Nat} (hat : jat M pc = some (.ifnull off, 3)) (ht : (pc : Int) + off = (tgt : Int)) (kk : jX M d K S tgt ls st h k n Q) : jX M d K S pc ls (.null :: st) h k n Q :=
  jX.go (fun p l e R s m args below meth c ad H locs lA Z c1 c2 c8 c7 c13 hl g => lv_ifnullN c1 c2 (jok_at c13 hat) ht (g lA hl)) kk
theorem x_ifnonnull {x : Nat} {off : Int} {tgt : Nat} (hat : jat M pc = some (.ifnonnull off, 3)) (ht : (pc : Int) + off = (tgt : Int)) (kk : jX M d K S tgt ls st h k n Q) : jX M d K S pc ls (.ref x :: st) h k n Q :=
  jX.go (fun p l e R s m args below meth c ad H locs lA Z c1 c2 c8 c7 c13 hl g => lv_ifnonnull c1 c2 (jok_at c13 hat) ht (g lA hl)) kk
theorem x_ifnonnullN {off : Int} (hat : jat M pc = some (.ifnonnull off, 3)) (kk : jX M d K S (pc + 3) ls st h k n Q) : jX M d K S pc ls (.null :: st) h k n Q :=
  jX.go (fun p l e R s m args below meth c ad H locs lA Z c1 c2 c8 c7 c13 hl g => lv_ifnonnullN c1 c2 (jok_at c13 hat) (g lA hl)) kk
theorem jl_place {α : Type} {k : Nat} {v : α} {L : List (Nat × α)} (h : L.lookup k = some v) : ∃ i : Nat, L[i]? = some (k, v) := List.mem_iff_getElem?.mp (jlk_mem h)
theorem x_iinc {i : Nat} {b : Int} {x v : Int32} {lsx9 : jL} (hat : jat M pc = some (.iinc i b, 3)) (hx : ls.lookup i = some (.int x)) (hv : x + Int32.ofInt b = v) (hi : Nat.blt i M.2.2.2.1 = true) (he : js1 ls i (.int v) = lsx9) (kk : jX M d K S (pc + 3) lsx9 st h k n Q) : jX M d K S pc ls st h k n Q := by
  obtain ⟨j, hj⟩ := jl_place hx
  exact jX.go (fun p l e R s m args below meth c ad H locs lA Z c1 c2 c8 c7 c13 hl g => lv_iinc (k := j) c1 c2 (jok_at c13 hat) hl (by unfold jlm; rw [List.getElem?_map, hj]; rfl) hv (Nat.blt_eq.mp hi) (jlm_js1 ad ls i (.int v)) (fun lB hB => g lB (he ▸ hB))) kk
theorem x_tableOut {dflt lo hi : Int} {offs : Array Int} {len : Nat} {x : Int32} {tgt : Nat} (hat : jat M pc = some (.tableswitch dflt lo hi offs, len)) (hx : x.toInt < lo ∨ hi < x.toInt) (ht : (pc : Int) + dflt = (tgt : Int)) (kk : jX M d K S tgt ls st h k n Q) : jX M d K S pc ls (.int x :: st) h k n Q :=
  jX.go (fun p l e R s m args below meth c ad H locs lA Z c1 c2 c8 c7 c13 hl g => lv_tableOut c1 c2 (jok_at c13 hat) hx ht (g lA hl)) kk
theorem x_tableIn {dflt lo hi off : Int} {offs : Array Int} {len : Nat} {x : Int32} {tgt : Nat} (v : Int) (hat : jat M pc = some (.tableswitch dflt lo hi offs, len)) (hx : x.toInt = v) (h1 : ¬ v < lo) (h2 : ¬ hi < v) (ho : offs[(v - lo).toNat]? = some off) (ht : (pc : Int) + off = (tgt : Int)) (kk : jX M d K S tgt ls st h k n Q) : jX M d K S pc ls (.int x :: st) h k n Q := by
  subst hx
  exact jX.go (fun p l e R s m args below meth c ad H locs lA Z c1 c2 c8 c7 c13 hl g => lv_tableIn c1 c2 (jok_at c13 hat) h1 h2 ho ht (g lA hl)) kk
theorem x_lookup {dflt off : Int} {ps : Array (Int × Int)} {len : Nat} {x : Int32} {tgt : Nat} (hat : jat M pc = some (.lookupswitch dflt ps, len)) (hp : (ps.toList.zip (ps.toList.drop 1)).all (fun (a, next) => a.1 < next.1) = true) (ho : Op.lookupswitch.offset ps.toList dflt x.toInt = off) (ht : (pc : Int) + off = (tgt : Int)) (kk : jX M d K S tgt ls st h k n Q) : jX M d K S pc ls (.int x :: st) h k n Q :=
  jX.go (fun p l e R s m args below meth c ad H locs lA Z c1 c2 c8 c7 c13 hl g => lv_lookup c1 c2 (jok_at c13 hat) hp ho ht (g lA hl)) kk
end R2
