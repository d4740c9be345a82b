/-! new cells on a fresh pair; a fresh pair whose arrays were written -/
section RD3
variable {h : jH} {a b k lo t n : Nat}
theorem sh_na0 : jsh (jna h a t n) a = (t, n) := by
  show (if a = a then (t, n) else h.1 a) = (t, n)
  rw [if_pos rfl]
theorem iv_na {w : Int32} (e : Nat.beq a b = false) (H : jiv h a k = w) : jiv (jna h b t n) a k = w := ju1_ne (f := h.2.1) (v := fun _ => 0) e H
theorem lv_na {w : Int64} (e : Nat.beq a b = false) (H : jlv h a k = w) : jlv (jna h b t n) a k = w := ju1_ne (f := h.2.2.1) (v := fun _ => 0) e H
theorem rv_na {w : Option Nat} (e : Nat.beq a b = false) (H : jrv h a k = w) : jrv (jna h b t n) a k = w := ju1_ne (f := h.2.2.2.1) (v := fun _ => none) e H
theorem ju1_at {α : Type} {f : Nat → Nat → α} {v : Nat → α} : ju1 f a v a k = v k := by unfold ju1; rw [if_pos rfl]
theorem iv_na0 : jiv (jna h a t n) a k = 0 := ju1_at (f := h.2.1) (v := fun _ => 0)
theorem lv_na0 : jlv (jna h a t n) a k = 0 := ju1_at (f := h.2.2.1) (v := fun _ => 0)
theorem rv_na0 : jrv (jna h a t n) a k = none := ju1_at (f := h.2.2.2.1) (v := fun _ => none)
theorem jlt_S : ∀ q ∈ jtS, q.1 < 174 := by decide +kernel
theorem jlt_R : ∀ q ∈ jtR, q.1 / 128 < 174 := by decide +kernel
theorem jlt_I : ∀ q ∈ jtI, q.1 / 128 < 174 := by decide +kernel
theorem jlt_L : ∀ q ∈ jtL, q.1 / 128 < 174 := by decide +kernel
theorem jlt_A : ∀ q ∈ jtAr, q < 174 := by decide +kernel
theorem jlt_N : ∀ q ∈ jtN, q < 174 := by decide +kernel
theorem jbq {x y : Nat} (h1 : x < 174) (h2 : Nat.ble 174 y = true) : Nat.beq x y = false := by
  have := Nat.ble_eq.mp h2
  cases q : Nat.beq x y
  · rfl
  · have := Nat.eq_of_beq_eq_true q
    omega
theorem jFb_na (e : Nat.ble 174 b = true) (F : jFb lo h) : jFb lo (jna h b t n) := by
  refine ⟨fun a s g q => sh_na (jbq (jlt_S _ (jlk_mem q)) e) (F.1 a s g q), fun q c g w => rv_na (jbq (jlt_R _ (jlk_mem w)) e) (F.2.1 q c g w), fun q v g w => iv_na (jbq (jlt_I _ (jlk_mem w)) e) (F.2.2.1 q v g w), fun a g w k => ?_, fun q v g w => lv_na (jbq (jlt_L _ (jlk_mem w)) e) (F.2.2.2.2.1 q v g w), fun a g w k => rv_na (jbq (jlt_N _ (List.contains_iff_mem.mp w)) e) (F.2.2.2.2.2 a g w k)⟩
  have m := jbq (jlt_A _ (List.contains_iff_mem.mp w)) e
  exact ⟨iv_na m (F.2.2.2.1 a g w k).1, lv_na m (F.2.2.2.1 a g w k).2⟩
theorem jOl_na {L : Nat} {xs : Nat → Int32} (e : Nat.ble 31 b = true) (O : jOl L xs h) : jOl L xs (jna h b t n) := by
  intro a ha
  have e2 := Nat.ble_eq.mp e
  have m : Nat.beq a b = false := by
    cases q : Nat.beq a b
    · rfl
    · have := Nat.eq_of_beq_eq_true q
      omega
  exact ⟨sh_na m (O a ha).1, fun k => iv_na m ((O a ha).2 k)⟩
/-- what a fresh pair holds but for its arrays' numbers -/
def jFn (lo : Nat) (h : jH) : Prop := (∀ a s, Nat.ble lo a = true → jtS.lookup a = some s → jsh h a = s) ∧ (∀ q c, Nat.ble lo (q / 128) = true → jtR.lookup q = some c → jrv h (q / 128) (q % 128) = some c) ∧ (∀ q v, Nat.ble lo (q / 128) = true → jtI.lookup q = some v → jiv h (q / 128) (q % 128) = v) ∧ True ∧ (∀ q v, Nat.ble lo (q / 128) = true → jtL.lookup q = some v → jlv h (q / 128) (q % 128) = v) ∧ (∀ a, Nat.ble lo a = true → jtN.contains a = true → ∀ k, jrv h a k = none)
theorem jFn_of (F : jFb lo h) : jFn lo h := ⟨F.1, F.2.1, F.2.2.1, trivial, F.2.2.2.2⟩
theorem jno_A : ∀ q ∈ jtI, jtAr.contains (q.1 / 128) = false := by decide +kernel
theorem jno_L : ∀ q ∈ jtL, jtAr.contains (q.1 / 128) = false := by decide +kernel
theorem jFn_si {v : Int32} (e : jtAr.contains a = true) (F : jFn lo h) : jFn lo (jsi h a k v) := by
  refine ⟨F.1, F.2.1, fun q v g w => ?_, trivial, F.2.2.2.2⟩
  refine iv_si ?_ (F.2.2.1 q v g w)
  have m := jno_A _ (jlk_mem w)
  cases c : Nat.beq (q / 128) a
  · rfl
  · have c2 := Nat.eq_of_beq_eq_true c
    rw [← c2] at e
    rw [e] at m
    cases m
theorem jFn_sl {v : Int64} (e : jtAr.contains a = true) (F : jFn lo h) : jFn lo (jsl h a k v) := by
  refine ⟨F.1, F.2.1, F.2.2.1, trivial, fun q v g w => ?_, F.2.2.2.2.2⟩
  refine lv_sl ?_ (F.2.2.2.2.1 q v g w)
  have m := jno_L _ (jlk_mem w)
  cases c : Nat.beq (q / 128) a
  · rfl
  · have c2 := Nat.eq_of_beq_eq_true c
    rw [← c2] at e
    rw [e] at m
    cases m
end RD3
