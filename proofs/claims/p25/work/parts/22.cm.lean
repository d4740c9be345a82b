/-! the fresh pair keeps what the loop keeps -/
def jck0 (s : jSg) : Bool := Nat.blt s.1 31 || (jtAr.contains s.1 && (decide (s.2.2.2.2.2.2.1 ≤ 0) && decide (0 ≤ s.2.2.2.2.2.2.2)) || (Nat.beq s.2.2.1 (s.2.1 + 1) && (Nat.blt s.2.1 128 && match jtI.lookup (s.1 * 128 + s.2.1) with | some v => decide (s.2.2.2.2.2.2.1 ≤ v.toInt) && decide (v.toInt ≤ s.2.2.2.2.2.2.2) | none => false)))
theorem jck0_x : jSgX.all jck0 = true := by decide +kernel
theorem jck0_m : jSgM.all jck0 = true := by decide +kernel
theorem rg_0 {h : jH} {Sg : List jSg} (F : jFr h) (ck : Sg.all jck0 = true) (st : ∀ s ∈ Sg, s.1 < 31 → ∀ k, jin s k → s.2.2.2.2.2.2.1 ≤ (jiv h s.1 k).toInt ∧ (jiv h s.1 k).toInt ≤ s.2.2.2.2.2.2.2) : jRg Sg h := by
  intro s hs k hk
  have q := List.all_eq_true.mp ck s hs
  unfold jck0 at q
  rw [Bool.or_eq_true] at q
  rcases q with q | q
  · exact st s hs (Nat.blt_eq.mp q) k hk
  · rw [Bool.or_eq_true] at q
    rcases q with q | q
    · rw [Bool.and_eq_true, Bool.and_eq_true, decide_eq_true_eq, decide_eq_true_eq] at q
      rw [(F.2.2.2.1 s.1 q.1 k).1, show (0 : Int32).toInt = 0 from by decide]
      exact q.2
    · rw [Bool.and_eq_true, Bool.and_eq_true] at q
      have e1 := Nat.eq_of_beq_eq_true q.1
      have e2 := Nat.blt_eq.mp q.2.1
      have j1 := hk.1
      have j2 := hk.2.1
      have ek : k = s.2.1 := by omega
      cases z : jtI.lookup (s.1 * 128 + s.2.1) with
      | none => rw [z] at q; exact absurd q.2.2 Bool.false_ne_true
      | some v =>
        have w := F.2.2.1 _ v z
        rw [show (s.1 * 128 + s.2.1) / 128 = s.1 from by omega, show (s.1 * 128 + s.2.1) % 128 = s.2.1 from by omega] at w
        rw [ek, w]
        have q3 := q.2.2
        rw [z] at q3
        simp only [Bool.and_eq_true, decide_eq_true_eq] at q3
        exact q3
theorem lk_app {a : Nat} {s : Nat × Nat} : ∀ {l m : List (Nat × (Nat × Nat))}, (l ++ m).lookup a = some s → l.lookup a = some s ∨ m.lookup a = some s
  | [], m, h => Or.inr h
  | (b, t) :: l, m, h => by
    rw [List.cons_append, List.lookup_cons] at h
    rw [List.lookup_cons]
    cases z : a == b
    · rw [z] at h
      exact lk_app h
    · rw [z] at h
      exact Or.inl h
def jckw (s : jSg) : Bool := !Nat.beq s.1 126 || (decide (s.2.2.2.2.2.2.1 ≤ 0) && decide (0 ≤ s.2.2.2.2.2.2.2))
theorem jckw_m : jSgM.all jckw = true := by decide +kernel
theorem rw_0 {f : Nat → Int32} (z : ∀ i, f i = 0) : jRw f := by
  have t0 : (0 : Int32).toInt = 0 := by decide
  refine ⟨fun s hs s1 j _ => ?_, by rw [z, z, z, z, z, t0]; rfl, by rw [z, z]; exact Int.le_refl _⟩
  have q := List.all_eq_true.mp jckw_m s hs
  unfold jckw at q
  rw [s1] at q
  rw [z, t0]
  have q2 : (decide (s.2.2.2.2.2.2.1 ≤ 0) && decide (0 ≤ s.2.2.2.2.2.2.2)) = true := q
  rw [Bool.and_eq_true, decide_eq_true_eq, decide_eq_true_eq] at q2
  exact q2
theorem wv_0 {f : Nat → Int32} (z : ∀ i, f i = 0) : jWv f := by
  intro t c _ _ hn
  rw [z, show (0 : Int32).toInt = 0 from by decide] at hn
  omega
theorem spt_0 {f : Nat → Int32} (z : ∀ i, f i = 0) : jSpt f := by
  intro k _ hn
  rw [z, show (0 : Int32).toInt = 0 from by decide] at hn
  omega
theorem li_0 {L : Nat} {xs : Nat → Int32} {h : jH} (F : jFr h) (hO : ∀ a s, jtO.lookup a = some s → jsh h a = s) (st : ∀ s ∈ jSgX, s.1 < 31 → ∀ k, jin s k → s.2.2.2.2.2.2.1 ≤ (jiv h s.1 k).toInt ∧ (jiv h s.1 k).toInt ≤ s.2.2.2.2.2.2.2) (h0 : jsh h 0 = (100, L)) (x0 : ∀ k, jiv h 0 k = xs k) : jLi L xs h ∧ jRoom 0 h 143 360892 := by
  have z6 : ∀ k, jiv h 126 k = 0 := fun k => (F.2.2.2.1 126 rfl k).1
  have z7 : ∀ k, jiv h 127 k = 0 := fun k => (F.2.2.2.1 127 rfl k).1
  have z32 : ∀ k, jiv h 132 k = 0 := fun k => (F.2.2.2.1 132 rfl k).1
  have n6 : ∀ k, jrv h 66 k = none := fun k => F.2.2.2.2.2.1 66 rfl k
  have n7 : ∀ k, jrv h 67 k = none := fun k => F.2.2.2.2.2.1 67 rfl k
  have nx := F.2.2.2.2.2.2
  have t0 : (0 : Int32).toInt = 0 := by decide
  have B : jB h := ⟨by rw [nx]; exact Nat.le_refl _, fun t a _ q => (by rw [n6] at q; cases q), wv_0 z6, fun k _ => wv_0 (fun i => z7 _), fun s p _ _ q => (by rw [z32, t0] at q; omega), spt_0 z6, fun k _ => spt_0 (fun i => z7 _)⟩
  have D : jDy h := ⟨B, fun k a _ q => (by rw [n7] at q; cases q), fun k _ => rw_0 (fun i => z7 _)⟩
  refine ⟨⟨⟨⟨fun a s q => ?_, F.2.1⟩, rg_0 F jck0_x st, D⟩, rg_0 F jck0_m (fun s hs h31 => by have := (jsm_in s hs).1; omega), ?_, h0, x0, Or.inl (by rw [(F.2.2.1 8709 0 rfl : jiv h 68 5 = 0), t0]; decide)⟩, ?_⟩
  · rcases lk_app q with q | q
    · exact hO a s q
    · exact F.1 a s q
  · unfold jRr
    rw [z6, z6, z6, z6, z6, z6, t0]
    exact ⟨rfl, Int.le_refl _⟩
  · have e : jnimg h = 0 := by unfold jnimg; rw [n7, n7, n7, n7]; rfl
    unfold jRoom
    rw [e]
    exact ⟨by decide, by decide, by decide⟩
