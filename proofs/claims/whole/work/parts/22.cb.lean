/-! Dy: what else is kept of a heap: the images -/
def jwI (f : Nat) : Int := ([6, 14, 2, 3, 4, 6, 3, 4, 5, 4, 4, 5, 4, 4, 4, 2] : List Int).getD f 0
def jmI (f : Nat) : Int := ([200, 1200, 60, 200, 20, 100, 40, 100, 40, 100, 40, 100, 100, 40, 100, 370] : List Int).getD f 0
theorem jwI_t : ∀ f, f < 16 → (jw8 f).toInt = jwI f := j16 ⟨by decide, by decide, by decide, by decide, by decide, by decide, by decide, by decide, by decide, by decide, by decide, by decide, by decide, by decide, by decide, by decide⟩
theorem jmI_t : ∀ f, f < 16 → (jm8 f).toInt = jmI f := j16 ⟨by decide, by decide, by decide, by decide, by decide, by decide, by decide, by decide, by decide, by decide, by decide, by decide, by decide, by decide, by decide, by decide⟩
theorem jsw8 : ∀ f, f < 16 → ((33 + 2 * f, 0, 1, 1, 0, 1, jwI f, jwI f) : jSg) ∈ jSgX := j16 ⟨List.mem_of_getElem? (i := 6) rfl, List.mem_of_getElem? (i := 14) rfl, List.mem_of_getElem? (i := 31) rfl, List.mem_of_getElem? (i := 36) rfl, List.mem_of_getElem? (i := 42) rfl, List.mem_of_getElem? (i := 49) rfl, List.mem_of_getElem? (i := 58) rfl, List.mem_of_getElem? (i := 64) rfl, List.mem_of_getElem? (i := 71) rfl, List.mem_of_getElem? (i := 79) rfl, List.mem_of_getElem? (i := 86) rfl, List.mem_of_getElem? (i := 93) rfl, List.mem_of_getElem? (i := 101) rfl, List.mem_of_getElem? (i := 108) rfl, List.mem_of_getElem? (i := 114) rfl, List.mem_of_getElem? (i := 121) rfl⟩
theorem jsr8 : ∀ f, f < 16 → ((33 + 2 * f, 3, 4, 1, 0, 1, 0, jmI f) : jSg) ∈ jSgX := j16 ⟨List.mem_of_getElem? (i := 8) rfl, List.mem_of_getElem? (i := 16) rfl, List.mem_of_getElem? (i := 33) rfl, List.mem_of_getElem? (i := 38) rfl, List.mem_of_getElem? (i := 44) rfl, List.mem_of_getElem? (i := 51) rfl, List.mem_of_getElem? (i := 60) rfl, List.mem_of_getElem? (i := 66) rfl, List.mem_of_getElem? (i := 73) rfl, List.mem_of_getElem? (i := 81) rfl, List.mem_of_getElem? (i := 88) rfl, List.mem_of_getElem? (i := 95) rfl, List.mem_of_getElem? (i := 103) rfl, List.mem_of_getElem? (i := 110) rfl, List.mem_of_getElem? (i := 116) rfl, List.mem_of_getElem? (i := 123) rfl⟩
def jRgs (a : Nat) (h : jH) : Prop := ∀ s ∈ jSgX, 32 ≤ s.1 → s.1 ≤ 64 → ∀ k, jin s k → s.2.2.2.2.2.2.1 ≤ (jiv h (a + (s.1 - 32)) k).toInt ∧ (jiv h (a + (s.1 - 32)) k).toInt ≤ s.2.2.2.2.2.2.2
def jIs (h : jH) (a : Nat) : Prop := (∀ f, f < 16 → jsh h (a + 1 + 2 * f) = (8, 4) ∧ jsh h (a + 2 + 2 * f) = (100, jn8 f) ∧ jrv h a f = some (a + 1 + 2 * f) ∧ jrv h (a + 1 + 2 * f) 2 = some (a + 2 + 2 * f)) ∧ jsh h a = (1, 20) ∧ jsh h (a + 33) = (101, 1600) ∧ jsh h (a + 34) = (105, 30) ∧ jrv h a 16 = some (a + 33) ∧ jrv h a 17 = some (a + 34)
/-- an IMAGE of the class -/
def jIg (h : jH) (a : Nat) : Prop := (174 ≤ a ∧ a + 35 ≤ jnx h) ∧ jIs h a ∧ jRgs a h ∧ ∀ t b, t < 30 → jrv h (a + 34) t = some b → jTx h b
def jIx (h : jH) : Prop := ∀ k a, k < 4 → jrv h 67 k = some a → jIg h a
def jIy (h : jH) : Prop := ∀ k, k < 4 → jRw (fun i => jiv h 127 (50660 * k + i))
def jDy (h : jH) : Prop := jB h ∧ jIx h ∧ jIy h
theorem is_bk {h : jH} {a : Nat} (S : jIs h a) (R : jRgs a h) (T : ∀ t b, t < 30 → jrv h (a + 34) t = some b → jTx h b) : jBk h a := by
  obtain ⟨s1, s2, s3, s4, s5, s6⟩ := S
  refine ⟨fun f hf => ?_, s2, s3, s4, s5, s6, fun t b ht q => by rw [(T t b ht q).1.2.2]⟩
  obtain ⟨f1, f2, f3, f4⟩ := s1 f hf
  have w := R _ (jsw8 f hf) (by show 32 ≤ 33 + 2 * f; omega) (by show 33 + 2 * f ≤ 64; omega) 0 ⟨Nat.le_refl _, (show (0 : Nat) < 1 by decide), (show (0 : Nat) ≤ (0 - 0) % 1 by decide), (show (0 - 0) % 1 < 1 by decide)⟩
  have r := R _ (jsr8 f hf) (by show 32 ≤ 33 + 2 * f; omega) (by show 33 + 2 * f ≤ 64; omega) 3 ⟨Nat.le_refl _, (show (3 : Nat) < 4 by decide), (show (0 : Nat) ≤ (3 - 3) % 1 by decide), (show (3 - 3) % 1 < 1 by decide)⟩
  have e : a + (33 + 2 * f - 32) = a + 1 + 2 * f := by omega
  simp only [e] at w r
  refine ⟨f1, f2, f3, f4, Int32.toInt_inj.mp (by rw [jwI_t f hf]; omega), r.1, by rw [jmI_t f hf]; exact r.2⟩
/-- told lies as a chest does -/
theorem told_is {Dy : jH → Prop} {h : jH} (J : jJ jSgX Dy h) : jIs h 32 :=
  ⟨j16 ⟨⟨J.1.1 33 (8, 4) rfl, J.1.1 34 (100, 1200) rfl, J.1.2 4096 33 rfl, J.1.2 4226 34 rfl⟩, ⟨J.1.1 35 (8, 4) rfl, J.1.1 36 (100, 16800) rfl, J.1.2 4097 35 rfl, J.1.2 4482 36 rfl⟩, ⟨J.1.1 37 (8, 4) rfl, J.1.1 38 (100, 120) rfl, J.1.2 4098 37 rfl, J.1.2 4738 38 rfl⟩, ⟨J.1.1 39 (8, 4) rfl, J.1.1 40 (100, 600) rfl, J.1.2 4099 39 rfl, J.1.2 4994 40 rfl⟩, ⟨J.1.1 41 (8, 4) rfl, J.1.1 42 (100, 80) rfl, J.1.2 4100 41 rfl, J.1.2 5250 42 rfl⟩, ⟨J.1.1 43 (8, 4) rfl, J.1.1 44 (100, 600) rfl, J.1.2 4101 43 rfl, J.1.2 5506 44 rfl⟩, ⟨J.1.1 45 (8, 4) rfl, J.1.1 46 (100, 120) rfl, J.1.2 4102 45 rfl, J.1.2 5762 46 rfl⟩, ⟨J.1.1 47 (8, 4) rfl, J.1.1 48 (100, 400) rfl, J.1.2 4103 47 rfl, J.1.2 6018 48 rfl⟩, ⟨J.1.1 49 (8, 4) rfl, J.1.1 50 (100, 200) rfl, J.1.2 4104 49 rfl, J.1.2 6274 50 rfl⟩, ⟨J.1.1 51 (8, 4) rfl, J.1.1 52 (100, 400) rfl, J.1.2 4105 51 rfl, J.1.2 6530 52 rfl⟩, ⟨J.1.1 53 (8, 4) rfl, J.1.1 54 (100, 160) rfl, J.1.2 4106 53 rfl, J.1.2 6786 54 rfl⟩, ⟨J.1.1 55 (8, 4) rfl, J.1.1 56 (100, 500) rfl, J.1.2 4107 55 rfl, J.1.2 7042 56 rfl⟩, ⟨J.1.1 57 (8, 4) rfl, J.1.1 58 (100, 400) rfl, J.1.2 4108 57 rfl, J.1.2 7298 58 rfl⟩, ⟨J.1.1 59 (8, 4) rfl, J.1.1 60 (100, 160) rfl, J.1.2 4109 59 rfl, J.1.2 7554 60 rfl⟩, ⟨J.1.1 61 (8, 4) rfl, J.1.1 62 (100, 400) rfl, J.1.2 4110 61 rfl, J.1.2 7810 62 rfl⟩, ⟨J.1.1 63 (8, 4) rfl, J.1.1 64 (100, 740) rfl, J.1.2 4111 63 rfl, J.1.2 8066 64 rfl⟩⟩, J.1.1 32 (1, 20) rfl, J.1.1 65 (101, 1600) rfl, J.1.1 66 (105, 30) rfl, J.1.2 4112 65 rfl, J.1.2 4113 66 rfl⟩
theorem told_rgs {Dy : jH → Prop} {h : jH} (J : jJ jSgX Dy h) : jRgs 32 h := fun s hs h1 _ k hk => by
  rw [show 32 + (s.1 - 32) = s.1 from by omega]
  exact J.2.1 s hs k hk
theorem told_bk {h : jH} (J : jJ jSgX jDy h) : jBk h 32 := is_bk (told_is J) (told_rgs J) (fun t b ht q => J.2.2.1.2.1 t b ht q)
theorem img_bk {h : jH} {a : Nat} (I : jIg h a) : jBk h a := is_bk I.2.1 I.2.2.1 I.2.2.2
/-- what is no part of a chest -/
theorem is_ne {h : jH} {a b : Nat} (S : jIs h a) (e : (jsh h b).1 ≠ 1 ∧ (jsh h b).1 ≠ 8 ∧ (jsh h b).1 ≠ 100 ∧ (jsh h b).1 ≠ 101 ∧ (jsh h b).1 ≠ 105) : b < a ∨ a + 35 ≤ b := by
  by_cases c : b < a ∨ a + 35 ≤ b
  · exact c
  · exfalso
    obtain ⟨s1, s2, s3, s4, s5, s6⟩ := S
    by_cases z : b = a
    · rw [z, s2] at e; exact e.1 rfl
    · by_cases z3 : b = a + 33
      · rw [z3, s3] at e; exact e.2.2.2.1 rfl
      · by_cases z4 : b = a + 34
        · rw [z4, s4] at e; exact e.2.2.2.2 rfl
        · by_cases o : (b - a) % 2 = 1
          · have q := (s1 ((b - a - 1) / 2) (by omega)).1
            rw [show a + 1 + 2 * ((b - a - 1) / 2) = b from by omega] at q
            rw [q] at e; exact e.2.1 rfl
          · have q := (s1 ((b - a - 2) / 2) (by omega)).2.1
            rw [show a + 2 + 2 * ((b - a - 2) / 2) = b from by omega] at q
            rw [q] at e; exact e.2.2.1 rfl
theorem is_one {h : jH} {a b : Nat} (S : jIs h a) (e : jsh h b = (1, 20)) (n : b ≠ a) : b < a ∨ a + 35 ≤ b := by
  by_cases c : b < a ∨ a + 35 ≤ b
  · exact c
  · exfalso
    obtain ⟨s1, s2, s3, s4, s5, s6⟩ := S
    by_cases z3 : b = a + 33
    · rw [z3, s3] at e; cases e
    · by_cases z4 : b = a + 34
      · rw [z4, s4] at e; cases e
      · by_cases o : (b - a) % 2 = 1
        · have q := (s1 ((b - a - 1) / 2) (by omega)).1
          rw [show a + 1 + 2 * ((b - a - 1) / 2) = b from by omega, e] at q
          cases q
        · have q := (s1 ((b - a - 2) / 2) (by omega)).2.1
          rw [show a + 2 + 2 * ((b - a - 2) / 2) = b from by omega, e] at q
          have := congrArg Prod.fst q
          simp at this
theorem is_dis {h : jH} {a b : Nat} (S : jIs h a) (T : jIs h b) (n : b ≠ a) : a + 35 ≤ b ∨ b + 35 ≤ a := by
  rcases is_one S T.2.1 n with c | c
  · rcases is_one T S.2.1 (fun z => n z.symm) with d | d
    · omega
    · exact Or.inr d
  · exact Or.inl c
/-- ranges behind a copy -/
theorem cd_rgs {X Y : Nat} {h0 h : jH} (C : jCd X Y h0 h) (RX : jRgs X h0) (RY : jRgs Y h0) : jRgs X h := by
  intro s hs s1 s2 k hk
  have rx := RX s hs s1 s2 k hk
  have ry := RY s hs s1 s2 k hk
  obtain ⟨c1, c2, c3, c4, c5, c6, c7, c8, c9, c10, c11⟩ := C
  by_cases z : s.1 = 32
  · rw [show X + (s.1 - 32) = X from by omega] at rx ⊢
    rw [show Y + (s.1 - 32) = Y from by omega] at ry
    by_cases y : k = 18
    · rw [y] at ry ⊢
      rw [c9]; exact ry
    · rw [c10 k y]; exact rx
  · by_cases o : s.1 % 2 = 1
    · have e : s.1 - 32 = 1 + 2 * ((s.1 - 33) / 2) := by omega
      rw [show X + (s.1 - 32) = X + 1 + 2 * ((s.1 - 33) / 2) from by omega] at rx ⊢
      rw [show Y + (s.1 - 32) = Y + 1 + 2 * ((s.1 - 33) / 2) from by omega] at ry
      obtain ⟨d1, d2, d3⟩ := c11 ((s.1 - 33) / 2) (by omega)
      by_cases y : k = 3
      · rw [y] at ry ⊢
        rw [d1]; exact ry
      · rw [d2 k y]; exact rx
    · rw [show X + (s.1 - 32) = X + 2 + 2 * ((s.1 - 34) / 2) from by omega] at rx ⊢
      rw [show Y + (s.1 - 32) = Y + 2 + 2 * ((s.1 - 34) / 2) from by omega] at ry
      obtain ⟨d1, d2, d3⟩ := c11 ((s.1 - 34) / 2) (by omega)
      rw [d3 k]
      split
      · exact ry
      · exact rx
theorem cd_is {X Y a : Nat} {h0 h : jH} (C : jCd X Y h0 h) (S : jIs h0 a) (n : a = X ∨ a + 35 ≤ X ∨ X + 35 ≤ a) : jIs h a := by
  obtain ⟨s1, s2, s3, s4, s5, s6⟩ := S
  have sh := C.2.1
  have rv := C.2.2.1
  refine ⟨fun f hf => ?_, (sh _).trans s2, (sh _).trans s3, (sh _).trans s4, (rv _ _ (by omega)).trans s5, (rv _ _ (by omega)).trans s6⟩
  obtain ⟨f1, f2, f3, f4⟩ := s1 f hf
  exact ⟨(sh _).trans f1, (sh _).trans f2, (rv _ _ (by omega)).trans f3, (rv _ _ (by omega)).trans f4⟩
theorem cd_tx {X Y b : Nat} {h0 h : jH} (C : jCd X Y h0 h) (SX : jIs h0 X) (T : jTx h0 b) : jTx h b := by
  obtain ⟨⟨t1, t2, t3⟩, t4, ⟨e, ne, e1, e2, e3, e4, e5⟩, c, nc, d1, d2, d3, d4⟩ := T
  have nb := is_ne (b := b) SX (by rw [t3]; decide)
  have iv := C.2.2.2.2.2.2.2.1 b (by omega) 3
  have rv := fun k => C.2.2.1 b k (by omega)
  exact ⟨⟨t1, by rw [C.1]; exact t2, (C.2.1 _).trans t3⟩, by rw [iv]; exact t4, ⟨e, ne, (rv 4).trans e1, e2, by rw [C.1]; exact e3, (C.2.1 _).trans e4, by rw [iv]; exact e5⟩, c, nc, (rv 5).trans d1, d2, by rw [C.1]; exact d3, (C.2.1 _).trans d4.1, d4.2⟩
/-- an image that is no part of what is copied into -/
theorem cd_ig {X Y a : Nat} {h0 h : jH} (C : jCd X Y h0 h) (SX : jIs h0 X) (I : jIg h0 a) (n : a + 35 ≤ X ∨ X + 35 ≤ a) : jIg h a := by
  obtain ⟨i1, i2, i3, i4⟩ := I
  refine ⟨by rw [C.1]; exact i1, cd_is C i2 (Or.inr n), fun s hs s1 s2 k hk => ?_, fun t b ht q => ?_⟩
  · rw [C.2.2.2.2.2.2.2.1 _ (by omega) k]
    exact i3 s hs s1 s2 k hk
  · rw [C.2.2.1 _ _ (by omega)] at q
    exact cd_tx C SX (i4 t b ht q)
/-- jB by its parts -/
theorem jB_mv {h hx9 : jH} (B : jB h) (nx : jnx h ≤ jnx hx9) (tx : ∀ t a, t < 30 → jrv hx9 66 t = some a → jTx hx9 a) (e6 : ∀ k, (18820 ≤ k ∧ k < 46540) ∨ k = 9 ∨ (47660 ≤ k ∧ k < 47900) → jiv hx9 126 k = jiv h 126 k) (e7 : ∀ k, jiv hx9 127 k = jiv h 127 k) (e2 : ∀ k, jiv hx9 132 k = jiv h 132 k) (e3 : ∀ k, jiv hx9 133 k = jiv h 133 k) : jB hx9 := by
  obtain ⟨b1, b2, b3, b4, b5, b6, b7⟩ := B
  have f7 : jiv hx9 127 = jiv h 127 := funext e7
  refine ⟨by omega, tx, jWv_c (fun i i1 i2 => (e6 i (by omega)).symm) b3, by rw [f7]; exact b4, fun s p hs hp q => ?_, fun k hk q => ?_, by rw [f7]; exact b7⟩
  · rw [e2] at q
    rw [e3]
    exact b5 s p hs hp q
  · rw [e6 9 (by omega)] at q
    rw [e6 _ (by omega)]
    exact b6 k hk q
/-- what is changed below 174 alone, or not at all -/
theorem ig_mv {h hx9 : jH} {a : Nat} (I : jIg h a) (nx : jnx h ≤ jnx hx9) (sh : ∀ b, 174 ≤ b → b < jnx h → jsh hx9 b = jsh h b) (iv : ∀ b k, 174 ≤ b → b < jnx h → jiv hx9 b k = jiv h b k) (rv : ∀ b k, 174 ≤ b → b < jnx h → jrv hx9 b k = jrv h b k) (tx : ∀ b, jTx h b → jTx hx9 b) : jIg hx9 a := by
  obtain ⟨i1, ⟨s1, s2, s3, s4, s5, s6⟩, i3, i4⟩ := I
  refine ⟨⟨i1.1, by omega⟩, ⟨fun f hf => ?_, (sh _ (by omega) (by omega)).trans s2, (sh _ (by omega) (by omega)).trans s3, (sh _ (by omega) (by omega)).trans s4, (rv _ _ (by omega) (by omega)).trans s5, (rv _ _ (by omega) (by omega)).trans s6⟩, fun s hs p1 p2 k hk => ?_, fun t b ht q => ?_⟩
  · obtain ⟨f1, f2, f3, f4⟩ := s1 f hf
    exact ⟨(sh _ (by omega) (by omega)).trans f1, (sh _ (by omega) (by omega)).trans f2, (rv _ _ (by omega) (by omega)).trans f3, (rv _ _ (by omega) (by omega)).trans f4⟩
  · rw [iv _ _ (by omega) (by omega)]
    exact i3 s hs p1 p2 k hk
  · rw [rv _ _ (by omega) (by omega)] at q
    exact tx b (i4 t b ht q)
theorem jTx_mv {h hx9 : jH} {a : Nat} (T : jTx h a) (nx : jnx h ≤ jnx hx9) (sh : ∀ b, 174 ≤ b → b < jnx h → jsh hx9 b = jsh h b) (iv : ∀ b k, 174 ≤ b → b < jnx h → jiv hx9 b k = jiv h b k) (rv : ∀ b k, 174 ≤ b → b < jnx h → jrv hx9 b k = jrv h b k) : jTx hx9 a := by
  obtain ⟨⟨t1, t2, t3⟩, t4, ⟨e, ne, e1, e2, e3, e4, e5⟩, c, nc, d1, d2, d3, d4⟩ := T
  exact ⟨⟨t1, by omega, (sh _ t1 t2).trans t3⟩, by rw [iv _ _ t1 t2]; exact t4, ⟨e, ne, (rv _ _ t1 t2).trans e1, e2, by omega, (sh _ e2 e3).trans e4, by rw [iv _ _ t1 t2]; exact e5⟩, c, nc, (rv _ _ t1 t2).trans d1, d2, by omega, (sh _ d2 d3).trans d4.1, d4.2⟩
/-- Dy, where nothing changes behind 174, nor of the images, and jB holds -/
theorem dy_mv {h hx9 : jH} (D : jDy h) (nx : jnx h ≤ jnx hx9) (sh : ∀ b, 174 ≤ b → b < jnx h → jsh hx9 b = jsh h b) (iv : ∀ b k, 174 ≤ b → b < jnx h → jiv hx9 b k = jiv h b k) (rv : ∀ b k, 174 ≤ b → b < jnx h → jrv hx9 b k = jrv h b k) (r67 : ∀ k, jrv hx9 67 k = jrv h 67 k) (e7 : ∀ k, jiv hx9 127 k = jiv h 127 k) (B : jB hx9) : jDy hx9 := by
  refine ⟨B, fun k a hk q => ?_, fun k hk => ?_⟩
  · rw [r67] at q
    exact ig_mv (D.2.1 k a hk q) nx sh iv rv (fun b T => jTx_mv T nx sh iv rv)
  · rw [show jiv hx9 127 = jiv h 127 from funext e7]
    exact D.2.2 k hk
theorem jfr_174 {a k : Nat} (e : jfr a k = true) : a < 174 := by
  unfold jfr at e
  rw [Bool.and_eq_true] at e
  exact Nat.blt_eq.mp e.1
theorem jfr_pk {a k : Nat} (e : jfr a k = true) : jpk a k = false := by
  unfold jfr at e
  rw [Bool.and_eq_true, Bool.not_eq_true'] at e
  exact e.2
theorem dy_k : jDk jDy := by
  refine ⟨fun h a k v e D => ?_, fun h a k v e D => ?_, fun h b a i j l e D => ?_, fun h D => D.1, fun h t a ht T D => ?_, fun h hx9 S D => ?_, fun h hx9 nx sh rv iv e7 D B => ?_⟩
  · have a4 := jfr_174 e
    have pk := jfr_pk e
    have ne : ∀ b j, jpk b j = true → jiv (jsi h a k v) b j = jiv h b j := fun b j q => by
      refine iv_si ?_ rfl
      cases c1 : Nat.beq b a
      · rfl
      · cases c2 : Nat.beq j k
        · rfl
        · rw [Nat.eq_of_beq_eq_true c1, Nat.eq_of_beq_eq_true c2, pk] at q
          cases q
    have pk6 : ∀ j, (18820 ≤ j ∧ j < 46540) ∨ j = 9 ∨ (47660 ≤ j ∧ j < 47900) → jpk 126 j = true := fun j hj => by
      have e : (Nat.ble 18820 j && Nat.blt j 46540 || (Nat.beq j 9 || Nat.ble 47660 j && Nat.blt j 47900)) = true := by
        rcases hj with ⟨a, b⟩ | a | ⟨a, b⟩
        · rw [Nat.ble_eq.mpr a, Nat.blt_eq.mpr b]; rfl
        · rw [a]; rfl
        · rw [Nat.ble_eq.mpr a, Nat.blt_eq.mpr b]; simp only [Bool.and_true, Bool.or_true]
      unfold jpk
      rw [e]
      rfl
    have iv : ∀ b j, 174 ≤ b → b < jnx h → jiv (jsi h a k v) b j = jiv h b j := fun b j hb _ => iv_sn (by omega)
    refine dy_mv D (Nat.le_refl _) (fun b _ _ => rfl) iv (fun b j _ _ => rfl) (fun j => rfl) (fun j => ne 127 j rfl) (jB_mv D.1 (Nat.le_refl _) (fun t c ht q => jTx_mv (D.1.2.1 t c ht q) (Nat.le_refl _) (fun b _ _ => rfl) iv (fun b j _ _ => rfl)) (fun j hj => ne 126 j (pk6 j hj)) (fun j => ne 127 j rfl) (fun j => ne 132 j rfl) (fun j => ne 133 j rfl))
  · exact dy_mv D (Nat.le_refl _) (fun b _ _ => rfl) (fun b j _ _ => rfl) (fun b j _ _ => rfl) (fun j => rfl) (fun j => rfl) (jB_mv D.1 (Nat.le_refl _) (fun t c ht q => jTx_mv (D.1.2.1 t c ht q) (Nat.le_refl _) (fun b _ _ => rfl) (fun b j _ _ => rfl) (fun b j _ _ => rfl)) (fun j _ => rfl) (fun j => rfl) (fun j => rfl) (fun j => rfl))
  · rw [Bool.and_eq_true, Bool.not_eq_true'] at e
    have a4 := Nat.blt_eq.mp e.1
    have ne : ∀ c, jpr c 0 50660 = true → ∀ m, jiv (jci h b a i j l) c m = jiv h c m := fun c q m => by
      refine iv_ci ?_ rfl
      cases c1 : Nat.beq c a
      · rfl
      · rw [Nat.eq_of_beq_eq_true c1, e.2] at q
        cases q
    have iv : ∀ c m, 174 ≤ c → c < jnx h → jiv (jci h b a i j l) c m = jiv h c m := fun c m hc _ => iv_ci (jbne (by omega)) rfl
    refine dy_mv D (Nat.le_refl _) (fun b _ _ => rfl) iv (fun b j _ _ => rfl) (fun j => rfl) (fun m => ne 127 rfl m) (jB_mv D.1 (Nat.le_refl _) (fun t c ht q => jTx_mv (D.1.2.1 t c ht q) (Nat.le_refl _) (fun b _ _ => rfl) iv (fun b j _ _ => rfl)) (fun m _ => ne 126 rfl m) (fun m => ne 127 rfl m) (fun m => ne 132 rfl m) (fun m => ne 133 rfl m))
  · have rv : ∀ b j, 174 ≤ b → b < jnx h → jrv (jsr h 66 t (some a)) b j = jrv h b j := fun b j hb _ => rv_sn (by omega)
    refine dy_mv D (Nat.le_refl _) (fun b _ _ => rfl) (fun b j _ _ => rfl) rv (fun j => rv_sn (by decide)) (fun j => rfl) (jB_mv D.1 (Nat.le_refl _) (fun s c hs q => ?_) (fun j _ => rfl) (fun j => rfl) (fun j => rfl) (fun j => rfl))
    by_cases z : s = t
    · rw [z, rv_eq] at q
      cases q
      exact jTx_mv T (Nat.le_refl _) (fun b _ _ => rfl) (fun b j _ _ => rfl) rv
    · rw [rv_sk z] at q
      exact jTx_mv (D.1.2.1 s c hs q) (Nat.le_refl _) (fun b _ _ => rfl) (fun b j _ _ => rfl) rv
  · have sh : ∀ b, b < jnx h → jsh hx9 b = jsh h b := fun b hb => S.2.1 b (Or.inr hb)
    have al : ∀ b k, b < jnx h → jiv hx9 b k = jiv h b k ∧ jlv hx9 b k = jlv h b k ∧ jrv hx9 b k = jrv h b k := fun b k hb => S.2.2 b k (Or.inr hb) rfl
    have x := D.1.1
    refine dy_mv D S.1 (fun b _ hb => sh b hb) (fun b k _ hb => (al b k hb).1) (fun b k _ hb => (al b k hb).2.2) (fun k => (al 67 k (by omega)).2.2) (fun k => (al 127 k (by omega)).1) (jB_mv D.1 S.1 (fun t c ht q => ?_) (fun k _ => (al 126 k (by omega)).1) (fun k => (al 127 k (by omega)).1) (fun k => (al 132 k (by omega)).1) (fun k => (al 133 k (by omega)).1))
    rw [(al 66 t (by omega)).2.2] at q
    exact jTx_mv (D.1.2.1 t c ht q) S.1 (fun b _ hb => sh b hb) (fun b k _ hb => (al b k hb).1) (fun b k _ hb => (al b k hb).2.2)
  · exact dy_mv D (by omega) (fun b _ _ => sh b) (fun b k hb _ => (iv b k hb).1) (fun b k _ _ => rv b k) (fun k => rv 67 k) e7 B
def jck6 (s : jSg) : Bool := !Nat.beq s.1 126 || Nat.ble s.2.2.1 50660
theorem jck6_all : jSgM.all jck6 = true := by decide
theorem jin_126 : ∀ s ∈ jSgM, s.1 = 126 → ∀ j, jin s j → j < 50660 := fun s hs s1 j hj => by
  have q := List.all_eq_true.mp jck6_all s hs
  unfold jck6 at q
  rw [s1] at q
  have q2 := Nat.ble_eq.mp (show Nat.ble s.2.2.1 50660 = true from q)
  have := hj.2.1
  omega
theorem dy_b : jDb jDy := fun h D => D.2.2
theorem dy_i : jDi jDy := by
  intro h hx9 x hx R r D W T
  have a := jcl_of hx.1
  have x4 : x.toNatClampNeg < 4 := by omega
  have o : ∀ b k, b ≠ 127 → jiv hx9 b k = jiv h b k := fun b k e => W.2.2.2.1 b k (jbne e)
  obtain ⟨⟨b1, b2, b3, b4, b5, b6, b7⟩, d2, d3⟩ := D
  have ge : ∀ k i, k < 4 → i < 50660 → jiv hx9 127 (50660 * k + i) = if k = x.toNatClampNeg then jiv h 126 i else jiv h 127 (50660 * k + i) := fun k i hk hi => by
    by_cases z : k = x.toNatClampNeg
    · rw [if_pos z, z]; exact T.1 i (by omega)
    · rw [if_neg z]; exact T.2 _ (by omega)
  have tx : ∀ c, jTx h c → jTx hx9 c := fun c q => jWk_tx jpi_hi W q
  refine ⟨⟨by rw [W.1]; exact b1, fun t c ht q => tx c (b2 t c ht (by rw [← W.2.2.1]; exact q)), ?_, fun k hk => ?_, fun s p hs hp q => ?_, fun k hk q => ?_, fun k hk m hm q => ?_⟩, fun k c hk q => ?_, fun k hk => ?_⟩
  · rw [show jiv hx9 126 = jiv h 126 from funext fun i => o 126 i (by decide)]
    exact b3
  · by_cases z : k = x.toNatClampNeg
    · exact jWv_c (f := jiv h 126) (fun i _ i2 => by show _ = jiv hx9 127 (50660 * k + i); rw [ge k i hk (by omega), if_pos z]) b3
    · exact jWv_c (f := fun i => jiv h 127 (50660 * k + i)) (fun i _ i2 => by show _ = jiv hx9 127 (50660 * k + i); rw [ge k i hk (by omega), if_neg z]) (b4 k hk)
  · rw [o 132 _ (by decide)] at q
    rw [o 133 _ (by decide)]
    exact b5 s p hs hp q
  · rw [o 126 _ (by decide)] at q
    rw [o 126 _ (by decide)]
    exact b6 k hk q
  · have q2 : (m : Int) < (jiv hx9 127 (50660 * k + 9)).toInt := q
    show 1 ≤ (jiv hx9 127 (50660 * k + (47660 + 6 * m + 3))).toInt
    rw [ge k 9 hk (by omega)] at q2
    rw [ge k _ hk (by omega)]
    by_cases z : k = x.toNatClampNeg
    · rw [if_pos z] at q2 ⊢
      exact b6 m hm q2
    · rw [if_neg z] at q2 ⊢
      exact b7 k hk m hm q2
  · rw [W.2.2.1] at q
    exact ig_mv (d2 k c hk q) (by rw [W.1]; exact Nat.le_refl _) (fun b _ _ => W.2.1 b) (fun b j hb _ => o b j (by omega)) (fun b j _ _ => W.2.2.1 b j) tx
  · by_cases z : k = x.toNatClampNeg
    · refine ⟨fun s hs s1 j hj => ?_, ?_, ?_⟩
      · have j6 := jin_126 s hs s1 j hj
        show _ ≤ (jiv hx9 127 (50660 * k + j)).toInt ∧ (jiv hx9 127 (50660 * k + j)).toInt ≤ _
        rw [ge k j hk j6, if_pos z]
        have := R s hs j hj
        rw [s1] at this
        exact this
      · show (jiv hx9 127 (50660 * k + 16)).toInt = (jiv hx9 127 (50660 * k + 0)).toInt + (jiv hx9 127 (50660 * k + 4)).toInt + (jiv hx9 127 (50660 * k + 5)).toInt + (jiv hx9 127 (50660 * k + 7)).toInt
        rw [ge k 16 hk (by omega), ge k 0 hk (by omega), ge k 4 hk (by omega), ge k 5 hk (by omega), ge k 7 hk (by omega)]
        simp only [if_pos z]
        exact r.1
      · show (jiv hx9 127 (50660 * k + 9)).toInt ≤ (jiv hx9 127 (50660 * k + 7)).toInt
        rw [ge k 9 hk (by omega), ge k 7 hk (by omega)]
        simp only [if_pos z]
        exact r.2
    · obtain ⟨r1, r2, r3⟩ := d3 k hk
      refine ⟨fun s hs s1 j hj => ?_, ?_, ?_⟩
      · have j6 := jin_126 s hs s1 j hj
        show _ ≤ (jiv hx9 127 (50660 * k + j)).toInt ∧ (jiv hx9 127 (50660 * k + j)).toInt ≤ _
        rw [ge k j hk j6, if_neg z]
        exact r1 s hs s1 j hj
      · show (jiv hx9 127 (50660 * k + 16)).toInt = (jiv hx9 127 (50660 * k + 0)).toInt + (jiv hx9 127 (50660 * k + 4)).toInt + (jiv hx9 127 (50660 * k + 5)).toInt + (jiv hx9 127 (50660 * k + 7)).toInt
        rw [ge k 16 hk (by omega), ge k 0 hk (by omega), ge k 4 hk (by omega), ge k 5 hk (by omega), ge k 7 hk (by omega)]
        simp only [if_neg z]
        exact r2
      · show (jiv hx9 127 (50660 * k + 9)).toInt ≤ (jiv hx9 127 (50660 * k + 7)).toInt
        rw [ge k 9 hk (by omega), ge k 7 hk (by omega)]
        simp only [if_neg z]
        exact r3
