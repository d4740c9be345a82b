/-! the law's loop: what is kept from call to call -/
/-- the class's tape: behind a read that ended there is room -/
def jRx (h : jH) : Prop := (jiv h 68 5).toInt ≠ 3 ∨ (jiv h 68 3).toInt ≤ 399
def jLi (L : Nat) (xs : Nat → Int32) (h : jH) : Prop := jJ jSgX jDy h ∧ jRg jSgM h ∧ jRr h ∧ jsh h 0 = (100, L) ∧ (∀ k, jiv h 0 k = xs k) ∧ jRx h
theorem rx_eq {h hx9 : jH} (R : jRx h) (e5 : jiv hx9 68 5 = jiv h 68 5) (e3 : jiv hx9 68 3 = jiv h 68 3) : jRx hx9 := by
  unfold jRx
  rw [e5, e3]
  exact R
theorem rx_m {F : jFp} {h hx9 : jH} (R : jRx h) (S : jSm F h hx9) (e : (jfo F 68 5 || jfo F 68 3) = false) : jRx hx9 := by
  rw [Bool.or_eq_false_iff] at e
  exact rx_eq R (S.2.2 68 5 (Or.inl rfl) e.1).1 (S.2.2 68 3 (Or.inl rfl) e.2).1
theorem rx_2 {hx9 : jH} {u0 u1 : Int32} (q0 : jiv hx9 68 5 = u0) (q1 : jiv hx9 68 3 = u1) (r : u0.toInt ≠ 3 ∨ u1.toInt ≤ 399) : jRx hx9 := by
  unfold jRx
  rw [q0, q1]
  exact r
theorem jsm_ck : jSgM.all (fun s => Nat.ble 125 s.1 && Nat.blt s.1 174) = true := by decide +kernel
theorem jsx_ck : jSgX.all (fun s => Nat.blt s.1 125) = true := by decide +kernel
theorem jsm_in : ∀ s ∈ jSgM, 125 ≤ s.1 ∧ s.1 < 174 := fun s hs => by
  have := List.all_eq_true.mp jsm_ck s hs
  rw [Bool.and_eq_true] at this
  exact ⟨Nat.ble_eq.mp this.1, Nat.blt_eq.mp this.2⟩
theorem jsx_in : ∀ s ∈ jSgX, s.1 < 125 := fun s hs => Nat.blt_eq.mp (List.all_eq_true.mp jsx_ck s hs)
def jfX (F : jFp) : Bool := F.all (fun q => Nat.ble 31 q.1 && (Nat.blt q.1 125 && !Nat.beq q.1 67))
def jfM (F : jFp) : Bool := F.all (fun q => Nat.ble 125 q.1 && Nat.blt q.1 174)
theorem jfo_fl {F : jFp} {b k : Nat} (h : ∀ q ∈ F, q.1 ≠ b) : jfo F b k = false := by
  cases c : jfo F b k
  · rfl
  · obtain ⟨q, hq, e⟩ := List.any_eq_true.mp c
    rw [Bool.and_eq_true, Bool.and_eq_true] at e
    exact absurd (Nat.eq_of_beq_eq_true e.1.1) (h q hq)
theorem fX_no {F : jFp} {b k : Nat} (e : jfX F = true) (hb : b < 31 ∨ 125 ≤ b ∨ b = 67) : jfo F b k = false := by
  refine jfo_fl (fun q hq z => ?_)
  have := List.all_eq_true.mp e q hq
  rw [Bool.and_eq_true, Bool.and_eq_true, Bool.not_eq_true'] at this
  have h1 := Nat.ble_eq.mp this.1
  have h2 := Nat.blt_eq.mp this.2.1
  have h3 : q.1 ≠ 67 := fun y => by rw [y] at this; exact absurd this.2.2 (by decide)
  omega
theorem fM_no {F : jFp} {b k : Nat} (e : jfM F = true) (hb : b < 125) : jfo F b k = false := by
  refine jfo_fl (fun q hq z => ?_)
  have := List.all_eq_true.mp e q hq
  rw [Bool.and_eq_true] at this
  have h1 := Nat.ble_eq.mp this.1
  omega
theorem rr_eq {h hx9 : jH} (R : jRr h) (e : ∀ k, jiv hx9 126 k = jiv h 126 k) : jRr hx9 := by
  unfold jRr
  rw [e, e, e, e, e, e]
  exact R
/-- a call of the class -/
theorem li_x {L : Nat} {xs : Nat → Int32} {F : jFp} {h hx9 : jH} (I : jLi L xs h) (J : jJ jSgX jDy hx9) (S : jSm F h hx9) (e : jfX F = true) (X : jRx hx9) : jLi L xs hx9 ∧ ∀ k, jrv hx9 67 k = jrv h 67 k := by
  obtain ⟨i1, i2, i3, i4, i5, i6⟩ := I
  have o : ∀ b k, b < 174 → (b < 31 ∨ 125 ≤ b ∨ b = 67) → jiv hx9 b k = jiv h b k ∧ jlv hx9 b k = jlv h b k ∧ jrv hx9 b k = jrv h b k := fun b k hb hc => S.2.2 b k (Or.inl (Nat.blt_eq.mpr hb)) (fX_no e hc)
  refine ⟨⟨J, fun s hs k hk => ?_, rr_eq i3 (fun k => (o 126 k (by decide) (by decide)).1), (S.2.1 0 (Or.inl rfl)).trans i4, fun k => (o 0 k (by decide) (by decide)).1.trans (i5 k), X⟩, fun k => (o 67 k (by decide) (by decide)).2.2⟩
  have := jsm_in s hs
  rw [(o s.1 k this.2 (by omega)).1]
  exact i2 s hs k hk
/-- a call of the reference -/
theorem li_m {L : Nat} {xs : Nat → Int32} {F : jFp} {h hx9 : jH} (I : jLi L xs h) (J : jJ jSgM jDy hx9) (S : jSm F h hx9) (e : jfM F = true) (R : jRr hx9) : jLi L xs hx9 ∧ ∀ k, jrv hx9 67 k = jrv h 67 k := by
  obtain ⟨i1, i2, i3, i4, i5, i6⟩ := I
  have o : ∀ b k, b < 125 → jiv hx9 b k = jiv h b k ∧ jlv hx9 b k = jlv h b k ∧ jrv hx9 b k = jrv h b k := fun b k hb => S.2.2 b k (Or.inl (Nat.blt_eq.mpr (by omega))) (fM_no e hb)
  refine ⟨⟨⟨J.1, fun s hs k hk => ?_, J.2.2⟩, J.2.1, R, (S.2.1 0 (Or.inl rfl)).trans i4, fun k => (o 0 k (by decide)).1.trans (i5 k), rx_eq i6 (o 68 5 (by decide)).1 (o 68 3 (by decide)).1⟩, fun k => (o 67 k (by decide)).2.2⟩
  rw [(o s.1 k (jsx_in s hs)).1]
  exact i1.2.1 s hs k hk
theorem li_jm {L : Nat} {xs : Nat → Int32} {h : jH} (I : jLi L xs h) : jJ jSgM jDy h := ⟨I.1.1, I.2.1, I.1.2.2⟩
/-- the reference's sums of counts, where they aren't written -/
theorem rr_m {F : jFp} {h hx9 : jH} (R : jRr h) (S : jSm F h hx9) (e : (jfo F 126 16 || (jfo F 126 0 || (jfo F 126 4 || (jfo F 126 5 || (jfo F 126 7 || jfo F 126 9))))) = false) : jRr hx9 := by
  simp only [Bool.or_eq_false_iff] at e
  have o : ∀ k, jfo F 126 k = false → jiv hx9 126 k = jiv h 126 k := fun k z => (S.2.2 126 k (Or.inl rfl) z).1
  unfold jRr at R ⊢
  rw [show (16 : Int32).toNatClampNeg = 16 from by decide, show (0 : Int32).toNatClampNeg = 0 from by decide, show (4 : Int32).toNatClampNeg = 4 from by decide, show (5 : Int32).toNatClampNeg = 5 from by decide, show (7 : Int32).toNatClampNeg = 7 from by decide, show (9 : Int32).toNatClampNeg = 9 from by decide] at R ⊢
  rw [o 16 e.1, o 0 e.2.1, o 4 e.2.2.1, o 5 e.2.2.2.1, o 7 e.2.2.2.2.1, o 9 e.2.2.2.2.2]
  exact R
theorem rr_2 {F : jFp} {h hx9 : jH} {u0 u1 u2 u3 u4 : Int32} (R : jRr h) (S : jSm F h hx9) (e : (jfo F 126 7 || jfo F 126 9) = false) (q0 : jiv hx9 126 (16 : Int32).toNatClampNeg = u0) (q1 : jiv hx9 126 (0 : Int32).toNatClampNeg = u1) (q2 : jiv hx9 126 (4 : Int32).toNatClampNeg = u2) (q3 : jiv hx9 126 (5 : Int32).toNatClampNeg = u3) (q4 : jiv hx9 126 (7 : Int32).toNatClampNeg = u4) (r : u0.toInt = u1.toInt + u2.toInt + u3.toInt + u4.toInt) : jRr hx9 := by
  simp only [Bool.or_eq_false_iff] at e
  have o : ∀ k, jfo F 126 k = false → jiv hx9 126 k = jiv h 126 k := fun k z => (S.2.2 126 k (Or.inl rfl) z).1
  refine ⟨by rw [q0, q1, q2, q3, q4]; exact r, ?_⟩
  have := R.2
  rw [show (7 : Int32).toNatClampNeg = 7 from by decide, show (9 : Int32).toNatClampNeg = 9 from by decide] at this ⊢
  rw [o 7 e.1, o 9 e.2]
  exact this
theorem rr_3 {hx9 : jH} {u0 u1 u2 u3 u4 u5 u6 : Int32} (q0 : jiv hx9 126 (16 : Int32).toNatClampNeg = u0) (q1 : jiv hx9 126 (0 : Int32).toNatClampNeg = u1) (q2 : jiv hx9 126 (4 : Int32).toNatClampNeg = u2) (q3 : jiv hx9 126 (5 : Int32).toNatClampNeg = u3) (q4 : jiv hx9 126 (7 : Int32).toNatClampNeg = u4) (r : u0.toInt = u1.toInt + u2.toInt + u3.toInt + u4.toInt) (q5 : jiv hx9 126 (9 : Int32).toNatClampNeg = u5) (q6 : jiv hx9 126 (7 : Int32).toNatClampNeg = u6) (r2 : u5.toInt ≤ u6.toInt) : jRr hx9 := ⟨by rw [q0, q1, q2, q3, q4]; exact r, by rw [q5, q6]; exact r2⟩
/-- how many images there are -/
def jnimg (h : jH) : Nat := (if (jrv h 67 0).isSome then 1 else 0) + (if (jrv h 67 1).isSome then 1 else 0) + (if (jrv h 67 2).isSome then 1 else 0) + (if (jrv h 67 3).isSome then 1 else 0)
theorem cn_e {h hx9 : jH} (e : ∀ k, jrv hx9 67 k = jrv h 67 k) : jnimg hx9 = jnimg h := by unfold jnimg; rw [e, e, e, e]
theorem cn_le {h : jH} : jnimg h ≤ 4 := by
  unfold jnimg
  split <;> split <;> split <;> split <;> omega
theorem cn_i {h hx9 : jH} {x a : Nat} (hx : x < 4) (o : ∀ k, k ≠ x → jrv hx9 67 k = jrv h 67 k) (q : jrv hx9 67 x = some a) : (jrv h 67 x = none → jnimg hx9 = jnimg h + 1) ∧ ((jrv h 67 x).isSome = true → jnimg hx9 = jnimg h) := by
  unfold jnimg
  have hx2 : x = 0 ∨ x = 1 ∨ x = 2 ∨ x = 3 := by omega
  rcases hx2 with rfl | rfl | rfl | rfl
  · rw [q, o 1 (by decide), o 2 (by decide), o 3 (by decide)]
    exact ⟨fun e => by rw [e, Option.isSome_none, Option.isSome_some, if_pos rfl, if_neg Bool.false_ne_true]; omega, fun e => by rw [e, Option.isSome_some]⟩
  · rw [q, o 0 (by decide), o 2 (by decide), o 3 (by decide)]
    exact ⟨fun e => by rw [e, Option.isSome_none, Option.isSome_some, if_pos rfl, if_neg Bool.false_ne_true]; omega, fun e => by rw [e, Option.isSome_some]⟩
  · rw [q, o 0 (by decide), o 1 (by decide), o 3 (by decide)]
    exact ⟨fun e => by rw [e, Option.isSome_none, Option.isSome_some, if_pos rfl, if_neg Bool.false_ne_true]; omega, fun e => by rw [e, Option.isSome_some]⟩
  · rw [q, o 0 (by decide), o 1 (by decide), o 2 (by decide)]
    exact ⟨fun e => by rw [e, Option.isSome_none, Option.isSome_some, if_pos rfl, if_neg Bool.false_ne_true] <;> omega, fun e => by rw [e, Option.isSome_some]⟩
/-- an image of the class -/
theorem li_i {L : Nat} {xs : Nat → Int32} {x : Int32} {h hx9 : jH} (I : jLi L xs h) (J : jJ jSgX jDy hx9) (S : jIq x h hx9) : jLi L xs hx9 := by
  obtain ⟨i1, i2, i3, i4, i5, i6⟩ := I
  obtain ⟨s1, s2, s3, s4, s5, s7⟩ := S
  refine ⟨J, fun s hs k hk => ?_, rr_eq i3 (fun k => s3 126 (by decide) (by decide) (by decide) k), (s2 0 (by decide)).trans i4, fun k => (s3 0 (by decide) (by decide) (by decide) k).trans (i5 k), rx_eq i6 (s3 68 (by decide) (by decide) (by decide) 5) (s3 68 (by decide) (by decide) (by decide) 3)⟩
  have := jsm_in s hs
  rw [s3 s.1 this.2 (by omega) (by omega) k]
  exact i2 s hs k hk
/-- what a turn may take of the room: it turns done, c images -/
def jRoom (it : Nat) (h : jH) (k n : Nat) : Prop := it ≤ 512 ∧ k ≤ 143 + 3 * it + 35 * jnimg h ∧ n ≤ 360892 + 1278 * it + 24594 * jnimg h
theorem rm_0 {it : Nat} {h : jH} {k n : Nat} (R : jRoom it h k n) : k + 38 ≤ 600000 ∧ n + 25872 ≤ 7302240 := by
  have := cn_le (h := h)
  obtain ⟨r1, r2, r3⟩ := R
  omega
