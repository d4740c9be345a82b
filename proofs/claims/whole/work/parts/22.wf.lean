/-! a TEXT that is made, with what it holds -/
def rdN (h h4 : jH) (A : Nat) (x1 x2 x3 : Int32) : Prop := (174 ≤ A ∧ jnx h = A ∧ jnx h4 = A + 3) ∧ (∀ a, a ≠ A → a ≠ A + 1 → a ≠ A + 2 → jsh h4 a = jsh h a ∧ ∀ k, jiv h4 a k = jiv h a k ∧ jlv h4 a k = jlv h a k ∧ jrv h4 a k = jrv h a k) ∧ (jiv h4 A 0 = x1 ∧ jiv h4 A 1 = x2 ∧ jiv h4 A 2 = x3 ∧ jiv h4 A 3 = jiv h 95 3 ∧ jrv h4 A 4 = some (A + 1) ∧ jrv h4 A 5 = some (A + 2)) ∧ (∀ j : Nat, (j : Int) < (jiv h 95 3).toInt * 6 → jiv h4 (A + 1) j = jiv h 96 j) ∧ (((jsh h4 (A + 2)).2 : Nat) : Int) = (jiv h 95 4).toInt ∧ (∀ j : Nat, (j : Int) < (jiv h 95 4).toInt → jiv h4 (A + 2) j = jiv h 97 j) ∧ (∀ i U : Nat, jrv h4 A i = some U → U = A + 1 ∨ U = A + 2) ∧ ∀ i : Nat, jrv h4 (A + 1) i = none ∧ jrv h4 (A + 2) i = none
section RT
variable {h : jH} {Q : Option Value → jH → Prop}
theorem c_XinitD {a b c nb : Nat} {x1 x2 x3 : Int32} (ha : Nat.ble 31 a = true) (hs : jsh h a = (10, 6)) (hb : jsh h b = (100, nb)) (hnb : nb ≤ 72)
    (hQ : ∀ v : Int32, 0 ≤ v.toInt ∧ v.toInt ≤ 12 → 6 * v.toInt ≤ nb → (12 ≤ (nb : Int) / 6 ∧ v.toInt = 12 ∨ v.toInt = (nb : Int) / 6) → Q none (jsi (jsr (jsr (jsi (jsi (jsi h a 0 x1) a 1 x2) a 2 x3) a 4 (some b)) a 5 (some c)) a 3 v)) : jC m_X10_init 1 0 0 [.ref a, .int x1, .int x2, .int x3, .ref b, .ref c] h Q := by
  have e6 : (6 : Int32).toInt = 6 := by decide
  have e12 : (12 : Int32).toInt = 12 := by decide
  have en : (nI nb).toInt = nb := by
    have h1 : (nI nb).toNatClampNeg = nb := nI_clamp (by omega)
    have h2 := jnn (nI_pos (n := nb) (by omega))
    rw [h1] at h2
    exact h2
  have f0 : ∀ g : jH, jsh g a = (10, 6) → (jsh g a).1 = 10 := fun g q => by rw [q]
  refine jC.of rfl k_X10_init rfl ?_
  refine x_aloadn (x := a) rfl rfl ?_
  refine x_obj rfl ⟨q_10_3, jobj_w⟩ (by decide) rfl ?_
  refine x_aloadn (x := a) rfl rfl ?_
  refine x_iloadn (x := x1) rfl rfl ?_
  refine x_putI 10 0 rfl f_10_9 rfl (jfin_in TX10 RX10 6 rfl rfl rfl rfl) (f0 _ hs) ha ?_
  refine x_aloadn (x := a) rfl rfl ?_
  refine x_iloadn (x := x2) rfl rfl ?_
  refine x_putI 10 1 rfl f_10_15 rfl (jfin_in TX10 RX10 6 rfl rfl rfl rfl) (f0 _ hs) ha ?_
  refine x_aloadn (x := a) rfl rfl ?_
  refine x_iloadn (x := x3) rfl rfl ?_
  refine x_putI 10 2 rfl f_10_18 rfl (jfin_in TX10 RX10 6 rfl rfl rfl rfl) (f0 _ hs) ha ?_
  refine x_aloadn (x := a) rfl rfl ?_
  refine x_aload (x := b) rfl rfl ?_
  refine x_putR 10 4 rfl f_10_21 rfl (jfin_in TX10 RX10 6 rfl rfl rfl rfl) (f0 _ hs) ha ?_
  refine x_aloadn (x := a) rfl rfl ?_
  refine x_aload (x := c) rfl rfl ?_
  refine x_putR 10 5 rfl f_10_25 rfl (jfin_in TX10 RX10 6 rfl rfl rfl rfl) (f0 _ hs) ha ?_
  refine x_aloadn (x := a) rfl rfl ?_
  refine x_bipush (v := 12) rfl (by decide) ?_
  refine x_aload (x := b) rfl rfl ?_
  refine x_alen rfl hb (by decide) ?_
  refine x_bipush (v := 6) rfl (by decide) ?_
  refine z_idiv rfl en e6 (by decide) (by omega) (fun q eq => ?_)
  refine z_mmin rfl q_10_28 (by decide) rfl e12 eq (fun v ev => ?_)
  refine x_putI 10 3 rfl f_10_34 rfl (jfin_in TX10 RX10 6 rfl rfl rfl rfl) (f0 _ hs) ha ?_
  exact x_vret rfl rfl (hQ v (by omega) (by omega) (by omega))
end RT
set_option maxRecDepth 100000 in
set_option maxHeartbeats 4000000 in
theorem read_59D {Dy : jH → Prop} {d : Nat} {ls : jL} {h h0 : jH} {FP : jFp} {x1 x2 x3 : Int32} {Q : Option Value → jH → Prop} (hD : jDk Dy) (J : jJ jSgX Dy h) (Sm : jSm FP h0 h) (hd : Nat.ble 2 d = true) (hl : jsb ls [(0, .ref 95), (1, .int x1), (2, .int x2), (3, .int x3)]) (hQ : ∀ a hx9, jTx hx9 a → jJ jSgX Dy hx9 → jSm FP h0 hx9 → jSm [] h hx9 → rdN h hx9 a x1 x2 x3 → Q (some (.ref a)) hx9) : jX m_X2_read d 3 1278 59 ls [] h 0 0 Q := by
  have hd := Nat.ble_eq.mp hd
  have hB := (hD.2.2.2.1 h J.2.2).1
  have r1 := jrg_f J sg_95_3_4_1_0_1
  have r2 := jrg_f J sg_95_4_5_1_0_1
  have e6 : (6 : Int32).toInt = 6 := by decide
  refine jX.sub hl ?_
  generalize hA : jnx h = A at hB
  have s95 : ∀ g : jH, (∀ a, a < A → jsh g a = jsh h a) → jsh g 95 = (2, 6) := fun g q => (q 95 (by omega)).trans (J.1.1 95 _ rfl)
  have s96 : ∀ g : jH, (∀ a, a < A → jsh g a = jsh h a) → jsh g 96 = (100, 72) := fun g q => (q 96 (by omega)).trans (J.1.1 96 _ rfl)
  have s97 : ∀ g : jH, (∀ a, a < A → jsh g a = jsh h a) → jsh g 97 = (100, 1200) := fun g q => (q 97 (by omega)).trans (J.1.1 97 _ rfl)
  have v96 : jrv h 95 1 = some 96 := J.1.2 (95 * 128 + 1) 96 rfl
  have v97 : jrv h 95 2 = some 97 := J.1.2 (95 * 128 + 2) 97 rfl
  refine x_new 10 6 rfl v_2_9 ⟨by decide, by decide⟩ ?_
  rw [hA]
  generalize e1 : jnw h 10 6 = h1
  have n1 : jnx h1 = A + 1 := by rw [← e1, ← hA]; rfl
  have q1 : ∀ a, a ≠ A → jsh h1 a = jsh h a ∧ ∀ k, jiv h1 a k = jiv h a k ∧ jlv h1 a k = jlv h a k ∧ jrv h1 a k = jrv h a k := by
    intro a ha
    rw [← hA] at ha
    rw [← e1]
    exact ⟨by simp [jsh, jnw, ha], fun k => ⟨by simp [jiv, jnw, ju1, ha], by simp [jlv, jnw, ju1, ha], by simp [jrv, jnw, ju1, ha]⟩⟩
  have w1 : jsh h1 A = (10, 6) := by rw [← e1, ← hA]; simp [jsh, jnw]
  refine x_dup rfl rfl ?_
  refine x_iloadn (x := x1) rfl rfl ?_
  refine x_iloadn (x := x2) rfl rfl ?_
  refine x_iloadn (x := x3) rfl rfl ?_
  refine x_aloadn (x := 95) rfl rfl ?_
  refine x_getR 2 1 rfl f_2_11 rfl (by rw [(q1 95 (by omega)).1, J.1.1 95 _ rfl]) (((q1 95 (by omega)).2 1).2.2.trans v96) ?_
  refine x_aloadn (x := 95) rfl rfl ?_
  refine x_getI 2 3 rfl f_2_20 rfl (by rw [(q1 95 (by omega)).1, J.1.1 95 _ rfl]) ?_
  rw [((q1 95 (by omega)).2 3).1]
  refine x_bipush (v := 6) rfl (by decide) ?_
  refine z_imul rfl rfl e6 (by omega) (fun u eu => ?_)
  obtain ⟨L1, hL1, rfl⟩ := nI_of (jnneg (x := u) (by omega))
  have eL1 : (nI L1).toInt = L1 := by
    have g1 : (nI L1).toNatClampNeg = L1 := nI_clamp hL1
    have g2 := jnn (nI_pos (n := L1) hL1)
    rw [g1] at g2
    exact g2
  have hL72 : L1 ≤ 72 := by omega
  refine x_inst (N := m_J7_copyOf_59c91) (As := [.ref 96, .int (nI L1)]) (st := [.int x3, .int x2, .int x1, .ref A, .ref A]) (dx9 := 1) (mc := 1) (ms := L1) (host := "") rfl t_J7_copyOf_59c91 ⟨Or.inl q_2_46, s_J7_copyOf_59c91⟩ rfl (by omega) rfl rfl ⟨by decide, by omega⟩ (c_copyOf (N := 72) rfl (by omega) (by decide) ((q1 96 (by omega)).1.trans (J.1.1 96 _ rfl)) hL72 ?_)
  rw [n1]
  generalize e2 : jci (jnw h1 100 L1) 96 (A + 1) 0 0 L1 = h2
  have n2 : jnx h2 = A + 2 := by rw [← e2]; show jnx h1 + 1 = _; rw [n1]
  have q2 : ∀ a, a ≠ A → a ≠ A + 1 → jsh h2 a = jsh h a ∧ ∀ k, jiv h2 a k = jiv h a k ∧ jlv h2 a k = jlv h a k ∧ jrv h2 a k = jrv h a k := by
    intro a ha hb
    have t := q1 a ha
    have hb' : a ≠ jnx h1 := by rw [n1]; exact hb
    rw [← e2]
    refine ⟨(show _ = jsh h1 a by simp [jsh, jci, jnw, hb']).trans t.1, fun k => ⟨(show _ = jiv h1 a k by simp [jiv, jci, jnw, ju1, hb, hb']).trans (t.2 k).1, (show _ = jlv h1 a k by simp [jlv, jci, jnw, ju1, hb']).trans (t.2 k).2.1, (show _ = jrv h1 a k by simp [jrv, jci, jnw, ju1, hb']).trans (t.2 k).2.2⟩⟩
  have w2 : jsh h2 A = (10, 6) ∧ jsh h2 (A + 1) = (100, L1) := by
    have hne : A ≠ jnx h1 := by omega
    rw [← e2]
    exact ⟨(show _ = jsh h1 A by simp [jsh, jci, jnw, hne]).trans w1, by simp [jsh, jci, jnw, n1]⟩
  refine x_aloadn (x := 95) rfl rfl ?_
  refine x_getR 2 2 rfl f_2_17 rfl (by rw [(q2 95 (by omega) (by omega)).1, J.1.1 95 _ rfl]) (((q2 95 (by omega) (by omega)).2 2).2.2.trans v97) ?_
  refine x_aloadn (x := 95) rfl rfl ?_
  refine x_getI 2 4 rfl f_2_24 rfl (by rw [(q2 95 (by omega) (by omega)).1, J.1.1 95 _ rfl]) ?_
  rw [((q2 95 (by omega) (by omega)).2 4).1]
  obtain ⟨u2, hu⟩ : ∃ u2, jiv h 95 4 = u2 := ⟨_, rfl⟩
  rw [hu] at r2
  rw [hu]
  obtain ⟨L2, hL2, rfl⟩ := nI_of (jnneg (x := u2) (by omega))
  have eL2 : (nI L2).toInt = L2 := by
    have g1 : (nI L2).toNatClampNeg = L2 := nI_clamp hL2
    have g2 := jnn (nI_pos (n := L2) hL2)
    rw [g1] at g2
    exact g2
  have hL12 : L2 ≤ 1200 := by omega
  refine x_inst (N := m_J7_copyOf_59c91) (As := [.ref 97, .int (nI L2)]) (st := [.ref (A + 1), .int x3, .int x2, .int x1, .ref A, .ref A]) (dx9 := 1) (mc := 1) (ms := L2) (host := "") rfl t_J7_copyOf_59c91 ⟨Or.inl q_2_46, s_J7_copyOf_59c91⟩ rfl (by omega) rfl rfl ⟨by decide, by omega⟩ (c_copyOf (N := 1200) rfl (by omega) (by decide) ((q2 97 (by omega) (by omega)).1.trans (J.1.1 97 _ rfl)) hL12 ?_)
  rw [n2]
  generalize e3 : jci (jnw h2 100 L2) 97 (A + 2) 0 0 L2 = h3
  have n3 : jnx h3 = A + 3 := by rw [← e3]; show jnx h2 + 1 = _; rw [n2]
  have q3 : ∀ a, a ≠ A → a ≠ A + 1 → a ≠ A + 2 → jsh h3 a = jsh h a ∧ ∀ k, jiv h3 a k = jiv h a k ∧ jlv h3 a k = jlv h a k ∧ jrv h3 a k = jrv h a k := by
    intro a ha hb hc
    have t := q2 a ha hb
    have hc' : a ≠ jnx h2 := by rw [n2]; exact hc
    rw [← e3]
    refine ⟨(show _ = jsh h2 a by simp [jsh, jci, jnw, hc']).trans t.1, fun k => ⟨(show _ = jiv h2 a k by simp [jiv, jci, jnw, ju1, hc, hc']).trans (t.2 k).1, (show _ = jlv h2 a k by simp [jlv, jci, jnw, ju1, hc']).trans (t.2 k).2.1, (show _ = jrv h2 a k by simp [jrv, jci, jnw, ju1, hc']).trans (t.2 k).2.2⟩⟩
  have w3 : jsh h3 A = (10, 6) ∧ jsh h3 (A + 1) = (100, L1) ∧ jsh h3 (A + 2) = (100, L2) := by
    have hne : A ≠ jnx h2 := by omega
    have hne2 : A + 1 ≠ jnx h2 := by omega
    rw [← e3]
    exact ⟨(show _ = jsh h2 A by simp [jsh, jci, jnw, hne]).trans w2.1, (show _ = jsh h2 (A + 1) by simp [jsh, jci, jnw, hne2]).trans w2.2, by simp [jsh, jci, jnw, n2]⟩
  refine x_ins (N := m_X10_init) (As := [.int x1, .int x2, .int x3, .ref (A + 1), .ref (A + 2)]) (b := A) (st := [.ref A]) (dx9 := 1) (mc := 0) (ms := 0) (host := "") rfl t_X10_init ⟨Or.inl q_2_52, i_X10_init, rfl, rfl⟩ rfl (by omega) rfl rfl ⟨by decide, by omega⟩ (c_XinitD (nb := L1) (Nat.ble_eq.mpr (by omega)) w3.1 w3.2.1 hL72 (fun v hv hv6 hv7 => ?_))
  generalize e4 : jsi (jsr (jsr (jsi (jsi (jsi h3 A 0 x1) A 1 x2) A 2 x3) A 4 (some (A + 1))) A 5 (some (A + 2))) A 3 v = h4
  have n4 : jnx h4 = A + 3 := by rw [← e4, ← n3]; rfl
  have s4 : ∀ a, jsh h4 a = jsh h3 a := fun a => by rw [← e4]; rfl
  have q4 : ∀ a, a ≠ A → ∀ k, jiv h4 a k = jiv h3 a k ∧ jlv h4 a k = jlv h3 a k ∧ jrv h4 a k = jrv h3 a k := by
    intro a ha k
    rw [← e4]
    exact ⟨by simp [jiv, jsi, jsr, ju2, ha], by simp [jlv, jsi, jsr], by simp [jrv, jsi, jsr, ju2, ha]⟩
  have i4 : jiv h4 A 3 = v := by rw [← e4]; simp [jiv, jsi, ju2]
  have r4 : jrv h4 A 4 = some (A + 1) ∧ jrv h4 A 5 = some (A + 2) := by
    rw [← e4]
    exact ⟨by simp [jrv, jsi, jsr, ju2], by simp [jrv, jsi, jsr, ju2]⟩
  have S4 : jSm [] h h4 := by
    refine ⟨by rw [n4, hA]; omega, fun a ha => ?_, fun a k ha _ => ?_⟩
    · have hlt : a < A := by
        rcases ha with g | g
        · have := Nat.blt_eq.mp g; omega
        · rw [hA] at g; exact g
      rw [s4]
      exact (q3 a (by omega) (by omega) (by omega)).1
    · have hlt : a < A := by
        rcases ha with g | g
        · have := Nat.blt_eq.mp g; omega
        · rw [hA] at g; exact g
      have t1 := q4 a (by omega) k
      have t2 := (q3 a (by omega) (by omega) (by omega)).2 k
      exact ⟨t1.1.trans t2.1, t1.2.1.trans t2.2.1, t1.2.2.trans t2.2.2⟩
  have T4 : jTx h4 A := ⟨⟨hB, by omega, (s4 A).trans w3.1⟩, by rw [i4]; exact hv, ⟨A + 1, L1, r4.1, by omega, by omega, (s4 _).trans w3.2.1, by rw [i4]; exact hv6, hL72⟩, ⟨A + 2, L2, r4.2, by omega, by omega, (s4 _).trans w3.2.2, hL12⟩⟩
  have ev3 : v = jiv h 95 3 := Int32.toInt_inj.mp (by omega)
  have nL : jnx (jnw h1 100 L1) = A + 2 := by show jnx h1 + 1 = _; rw [n1]
  have N4 : rdN h h4 A x1 x2 x3 := by
    refine ⟨⟨hB, hA, n4⟩, fun a a1 a2 a3 => ⟨(s4 a).trans (q3 a a1 a2 a3).1, fun k => ?_⟩, ⟨?_, ?_, ?_, i4.trans ev3, r4.1, r4.2⟩, fun j hj => ?_, ?_, fun j hj => ?_, fun i U hU => ?_, fun i => ⟨?_, ?_⟩⟩
    · have t1 := q4 a a1 k
      have t2 := (q3 a a1 a2 a3).2 k
      exact ⟨t1.1.trans t2.1, t1.2.1.trans t2.2.1, t1.2.2.trans t2.2.2⟩
    · rw [← e4]; simp [jiv, jsi, jsr, ju2]
    · rw [← e4]; simp [jiv, jsi, jsr, ju2]
    · rw [← e4]; simp [jiv, jsi, jsr, ju2]
    · have hL : j < L1 := by omega
      rw [(q4 (A + 1) (by omega) j).1, ← e3]
      have g1 : jiv (jci (jnw h2 100 L2) 97 (A + 2) 0 0 L2) (A + 1) j = jiv h2 (A + 1) j := by
        have z1 : A + 1 ≠ A + 2 := by omega
        have z2 : A + 1 ≠ jnx h2 := by omega
        simp [jiv, jci, jnw, ju1, z1, z2]
      rw [g1, ← e2]
      have g2 : jiv (jci (jnw h1 100 L1) 96 (A + 1) 0 0 L1) (A + 1) j = jiv (jnw h1 100 L1) 96 j := by
        simp [jiv, jci, ju1, va_cpy, hL]
      rw [g2, (show jiv (jnw h1 100 L1) 96 j = jiv h1 96 j by
        have z1 : 96 ≠ jnx h1 := by omega
        simp [jiv, jnw, ju1, z1])]
      exact ((q1 96 (by omega)).2 j).1
    · rw [s4, w3.2.2]
      show ((L2 : Nat) : Int) = _
      rw [hu, eL2]
    · rw [hu, eL2] at hj
      have hL : j < L2 := by omega
      rw [(q4 (A + 2) (by omega) j).1, ← e3]
      have g2 : jiv (jci (jnw h2 100 L2) 97 (A + 2) 0 0 L2) (A + 2) j = jiv (jnw h2 100 L2) 97 j := by
        simp [jiv, jci, ju1, va_cpy, hL]
      rw [g2, (show jiv (jnw h2 100 L2) 97 j = jiv h2 97 j by
        have z1 : 97 ≠ jnx h2 := by omega
        simp [jiv, jnw, ju1, z1])]
      exact ((q2 97 (by omega) (by omega)).2 j).1
    · by_cases c4 : i = 4
      · rw [c4, r4.1] at hU
        exact Or.inl (Option.some.inj hU).symm
      · by_cases c5 : i = 5
        · rw [c5, r4.2] at hU
          exact Or.inr (Option.some.inj hU).symm
        · exfalso
          have g : jrv h4 A i = jrv h3 A i := by rw [← e4]; simp [jrv, jsi, jsr, ju2, c4, c5]
          have z0 : A ≠ jnx h2 := by omega
          have z1 : A ≠ jnx h1 := by omega
          have g3 : jrv h3 A i = jrv h2 A i := by rw [← e3]; simp [jrv, jci, jnw, ju1, z0]
          have g2 : jrv h2 A i = jrv h1 A i := by rw [← e2]; simp [jrv, jci, jnw, ju1, z1]
          have g1 : jrv h1 A i = none := by rw [← e1, ← hA]; simp [jrv, jnw, ju1]
          rw [g, g3, g2, g1] at hU
          cases hU
    · have z0 : A + 1 ≠ jnx h2 := by omega
      have g3 : jrv h3 (A + 1) i = jrv h2 (A + 1) i := by rw [← e3]; simp [jrv, jci, jnw, ju1, z0]
      have g2 : jrv h2 (A + 1) i = none := by rw [← e2]; simp [jrv, jci, jnw, ju1, n1]
      rw [(q4 (A + 1) (by omega) i).2.2, g3, g2]
    · have g2 : jrv h3 (A + 2) i = none := by rw [← e3]; simp [jrv, jci, jnw, ju1, n2]
      rw [(q4 (A + 2) (by omega) i).2.2, g2]
  refine x_aret rfl rfl rfl (Or.inr ⟨_, rfl⟩) (hQ A h4 T4 (jJ_nw hD J jX_lo S4 jO_lo jR_lo) (jSm_tr rfl Sm S4) S4 N4)
def fp_X2_read_r95d : jFp := [(68, 2, 3), (68, 3, 4), (68, 4, 5), (68, 5, 6), (95, 3, 4), (95, 4, 5), (95, 5, 6), (96, 0, 72), (97, 0, 1200)]
set_option maxRecDepth 100000 in
set_option maxHeartbeats 4000000 in
theorem ct_X2_read_r95_25D {Dy : jH → Prop} {h0 : jH} {Q : Option Value → jH → Prop} {xr : Int × jW} {b1 b2 b3 : Int32} (hD : jDk Dy) (hQ : (∀ hx9, jJ jSgX Dy hx9 → jSm fp_X2_read_r95d h0 hx9 → ∀ u0 u1 : Int32, jiv hx9 68 5 = u0 → jiv hx9 68 3 = u1 → (u0.toInt ≠ 3 ∨ u1.toInt ≤ 399) → xr.1 = 0 → xr.2 = vw hx9 → Q (some .null) hx9) ∧ ∀ (a : Nat) hx9, jTx hx9 a → jJ jSgX Dy hx9 → jSm fp_X2_read_r95d h0 hx9 → ∀ u0 u1 : Int32, jiv hx9 68 5 = u0 → jiv hx9 68 3 = u1 → (u0.toInt ≠ 3 ∨ u1.toInt ≤ 399) → xr.1 = 1 → (∃ hY, xr.2 = vw hY ∧ rdN hY hx9 a b1 b2 b3) → Q (some (.ref a)) hx9) : ∀ r : Nat, ∀ (l1 : Int32) (l2 : Int32) (l3 : Int32) (l4 : Int32) (g0 : Int32) (g1 : Int32) (h : jH), 12 - l4.toInt < (r : Int) → 0 ≤ l1.toInt ∧ l1.toInt ≤ 1 → 0 ≤ l2.toInt ∧ l2.toInt ≤ 146399 → 0 ≤ l3.toInt ∧ l3.toInt ≤ 146399 → 0 ≤ l4.toInt ∧ l4.toInt ≤ 12 → 0 ≤ g0.toInt ∧ g0.toInt ≤ 400 → 0 ≤ g1.toInt ∧ g1.toInt ≤ 3 → (g1.toInt ≠ 3 ∨ g0.toInt ≤ 399) → jiv h 68 3 = g0 → jiv h 68 5 = g1 → jJ jSgX Dy h → jSm fp_X2_read_r95d h0 h → gRd r l4.toInt (vw h) = xr → l1 = b1 ∧ l2 = b2 ∧ l3 = b3 → jX m_X2_read 26 3 1278 25 [(0, .ref 95), (1, .int l1), (2, .int l2), (3, .int l3), (4, .int l4)] [] h 0 0 Q := by
  intro r
  induction r with
  | zero =>
    intro l1 l2 l3 l4 g0 g1 h hm y0 y1 y2 y3 y4 y5 y6 z0 z1  J Sm D eb
    exfalso
    omega
  | succ r ih =>
    intro l1 l2 l3 l4 g0 g1 h hm y0 y1 y2 y3 y4 y5 y6 z0 z1  J Sm D eb
    refine x_iload (x := l4) rfl rfl ?_
    refine x_bipush (v := 12) rfl kb_12 ?_
    rw [gRd.eq_2] at D
    refine x_icge (tgt := 130) rfl rfl (ti_ge rfl jk_12 ⟨fun c1 => ?_, fun c1 => ?_⟩)
    ·
      refine x_aloadn (x := 95) rfl rfl ?_
      refine z_getR (N := 6) (b := 68) 2 0 rfl f_2_30 rfl J rfl 12160 ⟨rfl, rfl⟩ rfl ?_
      refine x_inv (N := m_X9_blame) (As := []) (b := 68) (st := []) (dx9 := 25) (mc := 0) (ms := 0) (host := "") 9 rfl t_X9_blame ⟨Or.inl q_2_59, i_X9_blame.1, i_X9_blame.2⟩ ⟨by decide, rfl⟩ (congrArg Prod.fst (J.1.1 68 (9, 6) rfl)) rfl (by decide) rfl rfl ⟨by decide, by decide⟩ (jC.of rfl k_X9_blame rfl ?_)
      show jX m_X9_blame 25 0 0 0 [(0, .ref 68)] [] _ 0 0 _
      refine x_aloadn (x := 68) rfl rfl ?_
      refine x_aloadn (x := 68) rfl rfl ?_
      refine z_getM (N := 6) (v := g0) 9 3 rfl f_9_22 rfl J rfl z0 ?_
      refine z_putI (N := 6) (w := g0.toInt) 9 2 rfl f_9_19 rfl (jfin_no TX9 RX9 6 rfl rfl) hD J Sm rfl rfl rfl (pw_68_2 (by omega)) rfl (fun h w2 J Sm => ?_)
      refine x_iconst (v := 0) rfl ki_0 ?_
      refine x_zret rfl rfl (by decide) ?_
      show jX m_X2_read 26 3 1278 137 [(0, .ref 95), (1, .int l1), (2, .int l2), (3, .int l3), (4, .int l4)] [.int 0] _ 0 0 _
      refine x_pop rfl rfl ?_
      refine x_null rfl ?_
      refine x_aret rfl rfl rfl (Or.inl rfl) ?_
      exact hQ.1 _ J Sm _ _ (jmo w2 rfl z1) (jmo w2 rfl z0) (by omega) (by rw [if_pos c1] at D; exact (congrArg Prod.fst D).symm) (by rw [if_pos c1, vrf z0, vwf w2 rfl] at D; exact (congrArg Prod.snd D).symm)
    ·
      refine x_aloadn (x := 95) rfl rfl ?_
      refine x_iload (x := l4) rfl rfl ?_
      refine x_iconst (v := 1) rfl ki_1 ?_
      refine z_iadd rfl rfl jk_1 (by omega) (fun v3 ev3 => ?_)
      refine z_putI (N := 6) (w := v3.toInt) 2 3 rfl f_2_20 rfl (jfin_no TX2 RX2 6 rfl rfl) hD J Sm rfl rfl rfl (pw_95_3 (by omega)) rfl (fun h w4 J Sm => ?_)
      rw [if_neg c1, vwf w4 (show l4.toInt + 1 = v3.toInt from by omega)] at D
      refine x_aloadn (x := 95) rfl rfl ?_
      refine x_inv (N := m_X2_readClause) (As := []) (b := 95) (st := []) (dx9 := 25) (mc := 0) (ms := 0) (host := "") 2 rfl t_X2_readClause ⟨Or.inl q_2_39, i_X2_readClause.1, i_X2_readClause.2⟩ ⟨by decide, rfl⟩ (congrArg Prod.fst (J.1.1 95 (2, 6) rfl)) rfl (by decide) rfl rfl ⟨by decide, by decide⟩ (sf_X2_readClause_r95d  hD J (jmo w4 rfl z1) (jmo w4 rfl z0) (by omega) rfl (fun v8 h ev8 J S5 u6 u7 qu6 qu7 ru6 p1 p2 => ?_))
      rw [p1, p2] at D
      have Sm := jSm_tr rfl Sm S5
      have eu6 := (show 0 ≤ u6.toInt ∧ u6.toInt ≤ 3 from qu6 ▸ jrg_f J sg_68_5_6_1_0_1)
      have eu7 := (show 0 ≤ u7.toInt ∧ u7.toInt ≤ 400 from qu7 ▸ jrg_f J sg_68_3_4_1_0_1)
      show jX m_X2_read 26 3 1278 44 [(0, .ref 95), (1, .int l1), (2, .int l2), (3, .int l3), (4, .int l4)] [.int v8] _ 0 0 _
      refine x_ifne (tgt := 49) rfl rfl (ti_ne rfl jk_0 ⟨fun c9 => ?_, fun c9 => ?_⟩)
      ·
        rw [if_neg (by omega), vrf qu6] at D
        refine x_aloadn (x := 95) rfl rfl ?_
        refine z_getR (N := 6) (b := 68) 2 0 rfl f_2_30 rfl J rfl 12160 ⟨rfl, rfl⟩ rfl ?_
        refine x_inv (N := m_X9_isEnd) (As := []) (b := 68) (st := []) (dx9 := 25) (mc := 0) (ms := 0) (host := "") 9 rfl t_X9_isEnd ⟨Or.inl q_2_43, i_X9_isEnd.1, i_X9_isEnd.2⟩ ⟨by decide, rfl⟩ (congrArg Prod.fst (J.1.1 68 (9, 6) rfl)) rfl (by decide) rfl rfl ⟨by decide, by decide⟩ (jC.of rfl k_X9_isEnd rfl ?_)
        show jX m_X9_isEnd 25 0 0 0 [(0, .ref 68)] [] _ 0 0 _
        refine x_aloadn (x := 68) rfl rfl ?_
        refine z_getM (N := 6) (v := u6) 9 5 rfl f_9_28 rfl J rfl qu6 ?_
        refine x_ifne (tgt := 11) rfl rfl (ti_ne rfl jk_0 ⟨fun c10 => ?_, fun c10 => ?_⟩)
        ·
          rw [if_neg (by omega)] at D
          refine x_iconst (v := 0) rfl ki_0 ?_
          refine x_zret rfl rfl (by decide) ?_
          show jX m_X2_read 26 3 1278 56 [(0, .ref 95), (1, .int l1), (2, .int l2), (3, .int l3), (4, .int l4)] [.int 0] _ 0 0 _
          refine x_ifeq (tgt := 95) rfl rfl (ti_eq jk_0 jk_0 (br_t (by omega) ?_))
          refine x_aloadn (x := 95) rfl rfl ?_
          refine z_getR (N := 6) (b := 68) 2 0 rfl f_2_30 rfl J rfl 12160 ⟨rfl, rfl⟩ rfl ?_
          refine x_bipush (v := 59) rfl kb_59 ?_
          refine x_inv (N := m_X9_isSign) (As := [.int 59]) (b := 68) (st := []) (dx9 := 1) (mc := 0) (ms := 0) (host := "") 9 rfl t_X9_isSign ⟨Or.inl q_2_55, i_X9_isSign.1, i_X9_isSign.2⟩ ⟨by decide, rfl⟩ (congrArg Prod.fst (J.1.1 68 (9, 6) rfl)) rfl (by decide) rfl rfl ⟨by decide, by decide⟩ (sf_X9_isSign_r68d (jr_of jk_59 (by omega)) hD J qu6 qu7 (by omega) rfl (fun v14 h ev14 J S11 u12 u13 qu12 qu13 ru12 p3 p4 => ?_))
          rw [jk_59] at p3
          rw [p3, ← p4] at D
          have Sm := jSm_tr rfl Sm S11
          have eu12 := (show 0 ≤ u12.toInt ∧ u12.toInt ≤ 3 from qu12 ▸ jrg_f J sg_68_5_6_1_0_1)
          have eu13 := (show 0 ≤ u13.toInt ∧ u13.toInt ≤ 400 from qu13 ▸ jrg_f J sg_68_3_4_1_0_1)
          show jX m_X2_read 26 3 1278 104 [(0, .ref 95), (1, .int l1), (2, .int l2), (3, .int l3), (4, .int l4)] [.int v14] _ 0 0 _
          refine x_ifne (tgt := 117) rfl rfl (ti_ne rfl jk_0 ⟨fun c15 => ?_, fun c15 => ?_⟩)
          ·
            rw [if_neg (by omega)] at D
            refine x_aloadn (x := 95) rfl rfl ?_
            refine z_getR (N := 6) (b := 68) 2 0 rfl f_2_30 rfl J rfl 12160 ⟨rfl, rfl⟩ rfl ?_
            refine x_inv (N := m_X9_step) (As := []) (b := 68) (st := []) (dx9 := 2) (mc := 0) (ms := 0) (host := "") 9 rfl t_X9_step ⟨Or.inl q_2_62, i_X9_step.1, i_X9_step.2⟩ ⟨by decide, rfl⟩ (congrArg Prod.fst (J.1.1 68 (9, 6) rfl)) rfl (by decide) rfl rfl ⟨by decide, by decide⟩ (sf_X9_step_r68d  hD J qu12 qu13 (by omega) rfl (fun h J S16 u17 u18 qu17 qu18 ru17 p5 => ?_))
            rw [p5] at D
            have Sm := jSm_tr rfl Sm S16
            have eu17 := (show 0 ≤ u17.toInt ∧ u17.toInt ≤ 3 from qu17 ▸ jrg_f J sg_68_5_6_1_0_1)
            have eu18 := (show 0 ≤ u18.toInt ∧ u18.toInt ≤ 400 from qu18 ▸ jrg_f J sg_68_3_4_1_0_1)
            show jX m_X2_read 26 3 1278 124 [(0, .ref 95), (1, .int l1), (2, .int l2), (3, .int l3), (4, .int l4)] [] _ 0 0 _
            refine z_iinc (x := l4) (lsx9 := fun v19 => [(4, .int v19), (0, .ref 95), (1, .int l1), (2, .int l2), (3, .int l3)]) rfl rfl rfl jko_1 (by omega) rfl (fun _ => rfl) (fun v19 ev19 => ?_)
            refine x_goto (tgt := 25) rfl rfl ?_
            exact jX.sub (jsb_c rfl (jsb_c rfl (jsb_c rfl (jsb_c rfl (jsb_c rfl jsb_n))))) (ih l1 l2 l3 v19 u18 u17 h (by omega) (jr_of rfl (by omega)) (jr_of rfl (by omega)) (jr_of rfl (by omega)) (jr_of rfl (by omega)) (jr_of rfl (by omega)) (jr_of rfl (by omega)) (by omega) qu18 qu17 J Sm (by rw [show v19.toInt = l4.toInt + 1 from by omega]; exact D) eb)
          ·
            refine x_aloadn (x := 95) rfl rfl ?_
            refine z_getR (N := 6) (b := 68) 2 0 rfl f_2_30 rfl J rfl 12160 ⟨rfl, rfl⟩ rfl ?_
            refine x_inv (N := m_X9_blame) (As := []) (b := 68) (st := []) (dx9 := 25) (mc := 0) (ms := 0) (host := "") 9 rfl t_X9_blame ⟨Or.inl q_2_59, i_X9_blame.1, i_X9_blame.2⟩ ⟨by decide, rfl⟩ (congrArg Prod.fst (J.1.1 68 (9, 6) rfl)) rfl (by decide) rfl rfl ⟨by decide, by decide⟩ (jC.of rfl k_X9_blame rfl ?_)
            show jX m_X9_blame 25 0 0 0 [(0, .ref 68)] [] _ 0 0 _
            refine x_aloadn (x := 68) rfl rfl ?_
            refine x_aloadn (x := 68) rfl rfl ?_
            refine z_getM (N := 6) (v := u13) 9 3 rfl f_9_22 rfl J rfl qu13 ?_
            refine z_putI (N := 6) (w := u13.toInt) 9 2 rfl f_9_19 rfl (jfin_no TX9 RX9 6 rfl rfl) hD J Sm rfl rfl rfl (pw_68_2 (by omega)) rfl (fun h w20 J Sm => ?_)
            refine x_iconst (v := 0) rfl ki_0 ?_
            refine x_zret rfl rfl (by decide) ?_
            show jX m_X2_read 26 3 1278 114 [(0, .ref 95), (1, .int l1), (2, .int l2), (3, .int l3), (4, .int l4)] [.int 0] _ 0 0 _
            refine x_pop rfl rfl ?_
            refine x_null rfl ?_
            refine x_aret rfl rfl rfl (Or.inl rfl) ?_
            exact hQ.1 _ J Sm _ _ (jmo w20 rfl qu12) (jmo w20 rfl qu13) (by omega) (by rw [if_pos (by omega)] at D; exact (congrArg Prod.fst D).symm) (by rw [if_pos (by omega), vrf qu13, vwf w20 rfl] at D; exact (congrArg Prod.snd D).symm)
        ·
          refine x_iconst (v := 1) rfl ki_1 ?_
          refine x_goto (tgt := 12) rfl rfl ?_
          refine x_zret rfl rfl (by decide) ?_
          show jX m_X2_read 26 3 1278 56 [(0, .ref 95), (1, .int l1), (2, .int l2), (3, .int l3), (4, .int l4)] [.int 1] _ 0 0 _
          refine x_ifeq (tgt := 95) rfl rfl (ti_eq jk_1 jk_0 (br_f (by omega) ?_))
          rw [if_pos (by omega)] at D
          exact read_59D hD J Sm rfl (jsb_c rfl (jsb_c rfl (jsb_c rfl (jsb_c rfl jsb_n)))) (fun a h T J Sm S4 N4 => hQ.2 _ _ T J Sm _ _ (jmc S4 rfl qu6) (jmc S4 rfl qu7) (by omega) (congrArg Prod.fst D).symm ⟨_, (congrArg Prod.snd D).symm, by rw [← eb.1, ← eb.2.1, ← eb.2.2]; exact N4⟩)
      ·
        refine x_null rfl ?_
        refine x_aret rfl rfl rfl (Or.inl rfl) ?_
        rw [if_pos (by omega)] at D
        exact hQ.1 _ J Sm _ _ qu6 qu7 (by omega) (congrArg Prod.fst D).symm (congrArg Prod.snd D).symm
set_option maxRecDepth 100000 in
set_option maxHeartbeats 4000000 in
theorem sf_X2_read_r95D {Dy : jH → Prop} {h : jH} {Q : Option Value → jH → Prop} {xr : Int × jW} {a1 : Int32} {a2 : Int32} {a3 : Int32} (y1 : 0 ≤ a1.toInt ∧ a1.toInt ≤ 1) (y2 : 0 ≤ a2.toInt ∧ a2.toInt ≤ 146399) (y3 : 0 ≤ a3.toInt ∧ a3.toInt ≤ 146399) (hD : jDk Dy) (J : jJ jSgX Dy h) {p0 p1 : Int32} (zp0 : jiv h 68 5 = p0) (zp1 : jiv h 68 3 = p1) (rl_p0 : (p0.toInt ≠ 3 ∨ p1.toInt ≤ 399)) (D : xTr (vw h) = xr) (hQ : (∀ hx9, jJ jSgX Dy hx9 → jSm fp_X2_read_r95d h hx9 → ∀ u0 u1 : Int32, jiv hx9 68 5 = u0 → jiv hx9 68 3 = u1 → (u0.toInt ≠ 3 ∨ u1.toInt ≤ 399) → xr.1 = 0 → xr.2 = vw hx9 → Q (some .null) hx9) ∧ ∀ (a : Nat) hx9, jTx hx9 a → jJ jSgX Dy hx9 → jSm fp_X2_read_r95d h hx9 → ∀ u0 u1 : Int32, jiv hx9 68 5 = u0 → jiv hx9 68 3 = u1 → (u0.toInt ≠ 3 ∨ u1.toInt ≤ 399) → xr.1 = 1 → (∃ hY, xr.2 = vw hY ∧ rdN hY hx9 a a1 a2 a3) → Q (some (.ref a)) hx9) : jC m_X2_read 26 3 1278 [.ref 95, .int a1, .int a2, .int a3] h Q := by
  refine jC.of rfl k_X2_read rfl ?_
  have Sm := jSm_rf fp_X2_read_r95d h
  have ep0 := (show 0 ≤ p0.toInt ∧ p0.toInt ≤ 3 from zp0 ▸ jrg_f J sg_68_5_6_1_0_1)
  have ep1 := (show 0 ≤ p1.toInt ∧ p1.toInt ≤ 400 from zp1 ▸ jrg_f J sg_68_3_4_1_0_1)
  show jX m_X2_read 26 3 1278 0 [(0, .ref 95), (1, .int a1), (2, .int a2), (3, .int a3)] [] _ 0 0 _
  refine x_aloadn (x := 95) rfl rfl ?_
  refine x_iconst (v := 0) rfl ki_0 ?_
  refine z_putI (N := 6) (w := 0) 2 3 rfl f_2_20 rfl (jfin_no TX2 RX2 6 rfl rfl) hD J Sm rfl rfl jk_0 (pw_95_3 (by omega)) rfl (fun h w1 J Sm => ?_)
  refine x_aloadn (x := 95) rfl rfl ?_
  refine x_iconst (v := 0) rfl ki_0 ?_
  refine z_putI (N := 6) (w := 0) 2 4 rfl f_2_24 rfl (jfin_no TX2 RX2 6 rfl rfl) hD J Sm rfl rfl jk_0 (pw_95_4 (by omega)) rfl (fun h w2 J Sm => ?_)
  refine x_aloadn (x := 95) rfl rfl ?_
  refine x_iconst (v := 0) rfl ki_0 ?_
  refine z_putI (N := 6) (w := 0) 2 5 rfl f_2_27 rfl (jfin_no TX2 RX2 6 rfl rfl) hD J Sm rfl rfl jk_0 (pw_95_5 (by omega)) rfl (fun h w3 J Sm => ?_)
  refine x_aloadn (x := 95) rfl rfl ?_
  refine z_getR (N := 6) (b := 68) 2 0 rfl f_2_30 rfl J rfl 12160 ⟨rfl, rfl⟩ rfl ?_
  refine x_inv (N := m_X9_begin) (As := []) (b := 68) (st := []) (dx9 := 25) (mc := 0) (ms := 0) (host := "") 9 rfl t_X9_begin ⟨Or.inl q_2_34, i_X9_begin.1, i_X9_begin.2⟩ ⟨by decide, rfl⟩ (congrArg Prod.fst (J.1.1 68 (9, 6) rfl)) rfl (by decide) rfl rfl ⟨by decide, by decide⟩ (jC.of rfl k_X9_begin rfl ?_)
  show jX m_X9_begin 25 0 0 0 [(0, .ref 68)] [] _ 0 0 _
  refine x_aloadn (x := 68) rfl rfl ?_
  refine x_iconst (v := (-1)) rfl ki_m1 ?_
  refine z_putI (N := 6) (w := (-1)) 9 2 rfl f_9_19 rfl (jfin_no TX9 RX9 6 rfl rfl) hD J Sm rfl rfl jk_m1 (pw_68_2 (by omega)) rfl (fun h w4 J Sm => ?_)
  refine x_aloadn (x := 68) rfl rfl ?_
  refine x_iconst (v := 0) rfl ki_0 ?_
  refine z_putI (N := 6) (w := 0) 9 4 rfl f_9_25 rfl (jfin_no TX9 RX9 6 rfl rfl) hD J Sm rfl rfl jk_0 (pw_68_4 (by omega)) rfl (fun h w5 J Sm => ?_)
  unfold xTr xT0 at D
  rw [vwf w1 jk_0.symm, vwf w2 jk_0.symm, vwf w3 jk_0.symm, vwf w4 jk_m1.symm, vwf w5 jk_0.symm] at D
  refine x_aloadn (x := 68) rfl rfl ?_
  refine x_inv (N := m_X9_step) (As := []) (b := 68) (st := []) (dx9 := 2) (mc := 0) (ms := 0) (host := "") 9 rfl t_X9_step ⟨Or.inl q_9_31, i_X9_step.1, i_X9_step.2⟩ ⟨by decide, rfl⟩ (congrArg Prod.fst (J.1.1 68 (9, 6) rfl)) rfl (by decide) rfl rfl ⟨by decide, by decide⟩ (sf_X9_step_r68d  hD J (jmo w5 rfl (jmo w4 rfl (jmo w3 rfl (jmo w2 rfl (jmo w1 rfl zp0))))) (jmo w5 rfl (jmo w4 rfl (jmo w3 rfl (jmo w2 rfl (jmo w1 rfl zp1))))) (by omega) rfl (fun h J S6 u7 u8 qu7 qu8 ru7 p1 => ?_))
  rw [p1] at D
  have Sm := jSm_tr rfl Sm S6
  have eu7 := (show 0 ≤ u7.toInt ∧ u7.toInt ≤ 3 from qu7 ▸ jrg_f J sg_68_5_6_1_0_1)
  have eu8 := (show 0 ≤ u8.toInt ∧ u8.toInt ≤ 400 from qu8 ▸ jrg_f J sg_68_3_4_1_0_1)
  show jX m_X9_begin 25 0 0 14 [(0, .ref 68)] [] _ 0 0 _
  refine x_vret rfl rfl ?_
  show jX m_X2_read 26 3 1278 22 [(0, .ref 95), (1, .int a1), (2, .int a2), (3, .int a3)] [] _ 0 0 _
  refine x_iconst (v := 0) rfl ki_0 ?_
  refine x_istore (lsx9 := [(4, .int 0), (0, .ref 95), (1, .int a1), (2, .int a2), (3, .int a3)]) rfl rfl rfl ?_
  exact jX.sub (jsb_c rfl (jsb_c rfl (jsb_c rfl (jsb_c rfl (jsb_c rfl jsb_n))))) (ct_X2_read_r95_25D hD hQ  13 a1 a2 a3 0 u8 u7 h (by have := jk_0; omega) (jr_of rfl (by omega)) (jr_of rfl (by omega)) (jr_of rfl (by omega)) (jr_of jk_0 (by omega)) (jr_of rfl (by omega)) (jr_of rfl (by omega)) (by omega) qu8 qu7 J Sm (by rw [jk_0]; exact D) ⟨rfl, rfl, rfl⟩)
theorem tx_S {hY h3 ha hb hc : jH} {A : Nat} {x1 x2 x3 v7 v17 : Int32} {Y : jW} {n : Int} (N : rdN hY h3 A x1 x2 x3) (w15 : ha = jsi h3 68 1 0) (w16 : hb = jsr ha 66 v7.toNatClampNeg (some A)) (w18 : hc = jsi hb 32 18 v17) (h7 : 0 ≤ v7.toInt) (e17 : v17.toInt = v7.toInt + 1) (y : Y = vw hY) (en : v7.toInt = n) (h30 : n < 30) : txS x1.toInt x2.toInt x3.toInt n Y (vw hc) := by
  subst y
  subst en
  have k7 := jcl_of h7
  obtain ⟨⟨n1, n2, n3⟩, n4, ⟨f0, f1, f2, f3, f4, f5⟩, n6, n7, n8, n9, n10⟩ := N
  have nx : jnx hc = A + 3 := by rw [w18, w16, w15, ← n3]; rfl
  have sh : ∀ c, jsh hc c = jsh h3 c := fun c => by rw [w18, w16, w15]; rfl
  have lv : ∀ c k, jlv hc c k = jlv h3 c k := fun c k => by rw [w18, w16, w15]; rfl
  have iv : ∀ c k, ¬ (c = 68 ∧ k = 1) → ¬ (c = 32 ∧ k = 18) → jiv hc c k = jiv h3 c k := fun c k e1 e2 => by
    have b1 : (Nat.beq c 32 && Nat.beq k 18) = false := by
      cases z : (Nat.beq c 32 && Nat.beq k 18)
      · rfl
      · rw [Bool.and_eq_true] at z
        exact absurd ⟨Nat.eq_of_beq_eq_true z.1, Nat.eq_of_beq_eq_true z.2⟩ e2
    have b2 : (Nat.beq c 68 && Nat.beq k 1) = false := by
      cases z : (Nat.beq c 68 && Nat.beq k 1)
      · rfl
      · rw [Bool.and_eq_true] at z
        exact absurd ⟨Nat.eq_of_beq_eq_true z.1, Nat.eq_of_beq_eq_true z.2⟩ e1
    exact jmo w18 b1 (jmr w16 (jmo w15 b2 rfl))
  have rv : ∀ c k, ¬ (c = 66 ∧ k = v7.toNatClampNeg) → jrv hc c k = jrv h3 c k := fun c k e1 => by
    have : jrv hb c k = jrv ha c k := by
      rw [w16]
      exact rv_sr (by
        cases z : (Nat.beq c 66 && Nat.beq k v7.toNatClampNeg)
        · rfl
        · rw [Bool.and_eq_true] at z
          exact absurd ⟨Nat.eq_of_beq_eq_true z.1, Nat.eq_of_beq_eq_true z.2⟩ e1) rfl
    rw [w18]
    show jrv hb c k = _
    rw [this, w15]
    rfl
  have tI : ∀ c k, ¬ (c = 68 ∧ k = 1) → ¬ (c = 32 ∧ k = 18) → (vw hc).1 c k = (jiv h3 c k).toInt := fun c k e1 e2 => congrArg Int32.toInt (iv c k e1 e2)
  refine ⟨A, A + 1, A + 2, ⟨⟨n1, by omega, by omega⟩, ⟨?_, ?_, ?_⟩, ⟨?_, ?_, ?_⟩⟩, ⟨?_, ?_, ?_, ?_, ?_, ?_⟩, fun j hj => ?_, ?_, fun j hj => ?_, fun c j hc1 hc2 hc3 => ?_, ⟨?_, ?_⟩, ⟨?_, fun j hj => ?_⟩, ⟨funext fun j => ?_, funext fun j => ?_⟩, fun c c1 c2 => ⟨funext fun j => ?_, funext fun j => ?_, funext fun j => ?_, ?_⟩, ?_, fun c j U c1 c2 c3 hU => ?_, fun i U hU => ?_⟩
  · show jnx hY ≤ A; omega
  · show jnx hY ≤ A + 1; omega
  · show jnx hY ≤ A + 2; omega
  · show A < jnx hc; omega
  · show A + 1 < jnx hc; omega
  · show A + 2 < jnx hc; omega
  · rw [tI _ _ (by omega) (by omega), f0]
  · rw [tI _ _ (by omega) (by omega), f1]
  · rw [tI _ _ (by omega) (by omega), f2]
  · rw [tI _ _ (by omega) (by omega), f3]; rfl
  · exact (rv A 4 (by omega)).trans f4
  · exact (rv A 5 (by omega)).trans f5
  · rw [tI _ _ (by omega) (by omega), n6 j hj]; rfl
  · show (((jsh hc (A + 2)).2 : Nat) : Int) = _
    rw [sh]
    exact n7
  · rw [tI _ _ (by omega) (by omega), n8 j hj]; rfl
  · rw [tI c j hc2 hc3, ((n4 c (by omega) (by omega) (by omega)).2 j).1]; rfl
  · refine (congrArg Int32.toInt (jmo w18 rfl (jmr w16 (jmw w15)))).trans (by decide)
  · exact (congrArg Int32.toInt (jmw w18)).trans e17
  · show jrv hc 66 v7.toInt.toNat = some A
    rw [w18]
    show jrv hb 66 v7.toInt.toNat = some A
    rw [show v7.toInt.toNat = v7.toNatClampNeg from by omega, w16]
    exact rv_eq
  · exact (rv 66 j (by omega)).trans ((n4 66 (by omega) (by omega) (by omega)).2 j).2.2
  · exact (rv 67 j (by omega)).trans ((n4 67 (by omega) (by omega) (by omega)).2 j).2.2
  · exact (congrArg Int64.toInt (lv 65 j)).trans (congrArg Int64.toInt ((n4 65 (by omega) (by omega) (by omega)).2 j).2.1)
  · have c3 : c < A := by have : c < jnx hY := c2; omega
    exact (tI c j (by omega) (by omega)).trans (congrArg Int32.toInt ((n4 c (by omega) (by omega) (by omega)).2 j).1)
  · have c3 : c < A := by have : c < jnx hY := c2; omega
    exact (congrArg Int64.toInt (lv c j)).trans (congrArg Int64.toInt ((n4 c (by omega) (by omega) (by omega)).2 j).2.1)
  · have c3 : c < A := by have : c < jnx hY := c2; omega
    exact (rv c j (by omega)).trans ((n4 c (by omega) (by omega) (by omega)).2 j).2.2
  · have c3 : c < A := by have : c < jnx hY := c2; omega
    exact (sh c).trans (n4 c (by omega) (by omega) (by omega)).1
  · show jnx hY ≤ jnx hc; omega
  · have g1 : jnx hY ≤ c := c1
    have g3 : c < jnx hc := c3
    show U < jnx hc
    have e : jrv hc c j = some U := hU
    rw [rv c j (by omega)] at e
    by_cases z : c = A
    · rw [z] at e
      have := n9 j U e
      omega
    · exfalso
      by_cases z1 : c = A + 1
      · rw [z1, (n10 j).1] at e; cases e
      · rw [show c = A + 2 from by omega, (n10 j).2] at e; cases e
  · have e : jrv hc A i = some U := hU
    rw [rv A i (by omega)] at e
    exact n9 i U e
def fp_X11_text_r31d : jFp := [(31, 12, 13), (32, 18, 19), (32, 19, 20), (63, 3, 4), (64, 0, 740), (66, 0, 30), (68, 1, 2), (68, 2, 3), (68, 3, 4), (68, 4, 5), (68, 5, 6), (95, 3, 4), (95, 4, 5), (95, 5, 6), (96, 0, 72), (97, 0, 1200)]
set_option maxRecDepth 100000 in
set_option maxHeartbeats 4000000 in
theorem ct_X11_text_r31_23D {Dy : jH → Prop} {h0 : jH} {Q : Option Value → jH → Prop} {W : jW} (hD : jDk Dy) (hQ : ∀ (v : Int32) hx9, (-6) ≤ v.toInt ∧ v.toInt ≤ 29 → jJ jSgX Dy hx9 → jSm fp_X11_text_r31d h0 hx9 → ∀ u0 u1 : Int32, jiv hx9 68 5 = u0 → jiv hx9 68 3 = u1 → (u0.toInt ≠ 3 ∨ u1.toInt ≤ 399) → (v.toInt, vw hx9) = (-1, vu (vu W 68 1 0) 31 12 (-1)) → Q (some (.int v)) hx9) : ∀ (g0 : Int32) (g1 : Int32) (h : jH), 0 ≤ g0.toInt ∧ g0.toInt ≤ 400 → 0 ≤ g1.toInt ∧ g1.toInt ≤ 3 → (g1.toInt ≠ 3 ∨ g0.toInt ≤ 399) → jiv h 68 3 = g0 → jiv h 68 5 = g1 → jJ jSgX Dy h → jSm fp_X11_text_r31d h0 h → W = vw h → jX m_X11_text 27 3 1278 23 [(0, .ref 31)] [] h 0 0 Q := by
  intro g0 g1 h y0 y1 y2 z0 z1  J Sm eW
  refine x_aloadn (x := 31) rfl rfl ?_
  refine x_iconst (v := (-1)) rfl ki_m1 ?_
  refine x_inv (N := m_X11_refuseTape) (As := [.int (-1)]) (b := 31) (st := []) (dx9 := 26) (mc := 0) (ms := 0) (host := "") 11 rfl t_X11_refuseTape ⟨Or.inl q_11_122, i_X11_refuseTape.1, i_X11_refuseTape.2⟩ ⟨by decide, rfl⟩ (congrArg Prod.fst (J.1.1 31 (11, 13) rfl)) rfl (by decide) rfl rfl ⟨by decide, by decide⟩ (jC.of rfl k_X11_refuseTape rfl ?_)
  show jX m_X11_refuseTape 26 0 0 0 [(0, .ref 31), (1, .int (-1))] [] _ 0 0 _
  refine x_aloadn (x := 31) rfl rfl ?_
  refine z_getR (N := 13) (b := 68) 11 2 rfl f_11_23 rfl J rfl 3970 ⟨rfl, rfl⟩ rfl ?_
  refine x_iconst (v := 0) rfl ki_0 ?_
  refine z_putI (N := 6) (w := 0) 9 1 rfl f_11_106 rfl (jfin_no TX9 RX9 6 rfl rfl) hD J Sm rfl rfl jk_0 (pw_68_1 (by omega)) rfl (fun h w1 J Sm => ?_)
  refine x_aloadn (x := 31) rfl rfl ?_
  refine x_iloadn (x := (-1)) rfl rfl ?_
  refine x_inv (N := m_X11_refuse) (As := [.int (-1)]) (b := 31) (st := []) (dx9 := 25) (mc := 0) (ms := 0) (host := "") 11 rfl t_X11_refuse ⟨Or.inl q_11_206, i_X11_refuse.1, i_X11_refuse.2⟩ ⟨by decide, rfl⟩ (congrArg Prod.fst (J.1.1 31 (11, 13) rfl)) rfl (by decide) rfl rfl ⟨by decide, by decide⟩ (jC.of rfl k_X11_refuse rfl ?_)
  show jX m_X11_refuse 25 0 0 0 [(0, .ref 31), (1, .int (-1))] [] _ 0 0 _
  refine x_aloadn (x := 31) rfl rfl ?_
  refine x_iloadn (x := (-1)) rfl rfl ?_
  refine z_putI (N := 13) (w := (-1)) 11 12 rfl f_11_94 rfl (jfin_no TX11 RX11 13 rfl rfl) hD J Sm rfl rfl jk_m1 (pw_31_12 (by omega)) rfl (fun h w2 J Sm => ?_)
  refine x_iloadn (x := (-1)) rfl rfl ?_
  refine x_iret rfl rfl ?_
  show jX m_X11_refuseTape 26 0 0 13 [(0, .ref 31), (1, .int (-1))] [.int (-1)] _ 0 0 _
  refine x_iret rfl rfl ?_
  show jX m_X11_text 27 3 1278 28 [(0, .ref 31)] [.int (-1)] _ 0 0 _
  refine x_iret rfl rfl ?_
  exact hQ _ _ (jr_of jk_m1 (by omega)) J Sm _ _ (jmo w2 rfl (jmo w1 rfl z1)) (jmo w2 rfl (jmo w1 rfl z0)) (by omega) (by rw [eW, vwf w1 jk_0.symm, vwf w2 jk_m1.symm, jk_m1])
set_option maxRecDepth 100000 in
set_option maxHeartbeats 4000000 in
theorem sf_X11_text_r31D {Dy : jH → Prop} {h : jH} {Q : Option Value → jH → Prop} {a1 : Int32} {a2 : Int32} {a3 : Int32} (hD : jDk Dy) (J : jJ jSgX Dy h) {p0 p1 : Int32} (zp0 : jiv h 68 5 = p0) (zp1 : jiv h 68 3 = p1) (rl_p0 : (p0.toInt ≠ 3 ∨ p1.toInt ≤ 399)) (hQ : ∀ (v : Int32) hx9, (-6) ≤ v.toInt ∧ v.toInt ≤ 29 → jJ jSgX Dy hx9 → jSm fp_X11_text_r31d h hx9 → ∀ u0 u1 : Int32, jiv hx9 68 5 = u0 → jiv hx9 68 3 = u1 → (u0.toInt ≠ 3 ∨ u1.toInt ≤ 399) → txX a1.toInt a2.toInt a3.toInt (vw h) (v.toInt, vw hx9) → Q (some (.int v)) hx9) : jC m_X11_text 27 3 1278 [.ref 31, .int a1, .int a2, .int a3] h Q := by
  refine jC.of rfl k_X11_text rfl ?_
  obtain ⟨hs0, ehs⟩ : ∃ g, g = h := ⟨_, rfl⟩
  rw [← ehs] at hQ
  have eW : vw hs0 = vw h := by rw [ehs]
  have no : ¬ txG a1.toInt a2.toInt a3.toInt → ∀ (v : Int32) hx9, (-6) ≤ v.toInt ∧ v.toInt ≤ 29 → jJ jSgX Dy hx9 → jSm fp_X11_text_r31d hs0 hx9 → ∀ u0 u1 : Int32, jiv hx9 68 5 = u0 → jiv hx9 68 3 = u1 → (u0.toInt ≠ 3 ∨ u1.toInt ≤ 399) → (v.toInt, vw hx9) = (-1, vu (vu (vw hs0) 68 1 0) 31 12 (-1)) → Q (some (.int v)) hx9 := fun ng v hx9 e1 e2 e3 u0 u1 e4 e5 e6 e7 => hQ v hx9 e1 e2 e3 u0 u1 e4 e5 e6 (Or.inl ⟨ng, e7⟩)
  have Sm : jSm fp_X11_text_r31d hs0 h := by rw [ehs]; exact jSm_rf fp_X11_text_r31d h
  clear ehs
  have ep0 := (show 0 ≤ p0.toInt ∧ p0.toInt ≤ 3 from zp0 ▸ jrg_f J sg_68_5_6_1_0_1)
  have ep1 := (show 0 ≤ p1.toInt ∧ p1.toInt ≤ 400 from zp1 ▸ jrg_f J sg_68_3_4_1_0_1)
  have ea1 := jfull a1
  have ea2 := jfull a2
  have ea3 := jfull a3
  show jX m_X11_text 27 3 1278 0 [(0, .ref 31), (1, .int a1), (2, .int a2), (3, .int a3)] [] _ 0 0 _
  refine x_iloadn (x := a1) rfl rfl ?_
  refine x_iflt (tgt := 23) rfl rfl (ti_lt rfl jk_0 ⟨fun c1 => ?_, fun c1 => ?_⟩)
  ·
    exact jX.sub (jsb_c rfl jsb_n) (ct_X11_text_r31_23D hD (no (fun g => by unfold txG at g; omega))  p1 p0 h (jr_of rfl (by omega)) (jr_of rfl (by omega)) (by omega) zp1 zp0 J Sm eW)
  ·
    refine x_iloadn (x := a1) rfl rfl ?_
    refine x_iconst (v := 1) rfl ki_1 ?_
    refine x_icgt (tgt := 23) rfl rfl (ti_gt rfl jk_1 ⟨fun c2 => ?_, fun c2 => ?_⟩)
    ·
      exact jX.sub (jsb_c rfl jsb_n) (ct_X11_text_r31_23D hD (no (fun g => by unfold txG at g; omega))  p1 p0 h (jr_of rfl (by omega)) (jr_of rfl (by omega)) (by omega) zp1 zp0 J Sm eW)
    ·
      refine x_iloadn (x := a2) rfl rfl ?_
      refine x_inst (N := m_X11_isDay) (As := [.int a2]) (st := []) (dx9 := 1) (mc := 0) (ms := 0) (host := "") rfl t_X11_isDay ⟨Or.inl q_11_115, s_X11_isDay⟩ rfl (by decide) rfl rfl ⟨by decide, by decide⟩ (zc_X11_isDay rfl (fun v3 ev3 => ?_))
      show jX m_X11_text 27 3 1278 13 [(0, .ref 31), (1, .int a1), (2, .int a2), (3, .int a3)] [.int v3] _ 0 0 _
      refine x_ifeq (tgt := 23) rfl rfl (ti_eq rfl jk_0 ⟨fun c4 => ?_, fun c4 => ?_⟩)
      ·
        exact jX.sub (jsb_c rfl jsb_n) (ct_X11_text_r31_23D hD (no (fun g => by unfold txG at g; omega))  p1 p0 h (jr_of rfl (by omega)) (jr_of rfl (by omega)) (by omega) zp1 zp0 J Sm eW)
      ·
        refine x_iloadn (x := a3) rfl rfl ?_
        refine x_inst (N := m_X11_isDay) (As := [.int a3]) (st := []) (dx9 := 1) (mc := 0) (ms := 0) (host := "") rfl t_X11_isDay ⟨Or.inl q_11_115, s_X11_isDay⟩ rfl (by decide) rfl rfl ⟨by decide, by decide⟩ (zc_X11_isDay rfl (fun v5 ev5 => ?_))
        show jX m_X11_text 27 3 1278 20 [(0, .ref 31), (1, .int a1), (2, .int a2), (3, .int a3)] [.int v5] _ 0 0 _
        refine x_ifne (tgt := 29) rfl rfl (ti_ne rfl jk_0 ⟨fun c6 => ?_, fun c6 => ?_⟩)
        ·
          refine x_aloadn (x := 31) rfl rfl ?_
          refine z_getR (N := 13) (b := 32) 11 0 rfl f_11_10 rfl J rfl 3968 ⟨rfl, rfl⟩ rfl ?_
          refine z_getI (N := 20) 1 18 rfl f_11_325 rfl J rfl sg_32_18_19_1_0_1 (fun v7 qv7 ev7 => ?_)
          refine x_bipush (v := 30) rfl kb_30 ?_
          refine x_iclt (tgt := 48) rfl rfl (ti_lt rfl jk_30 ⟨fun c8 => ?_, fun c8 => ?_⟩)
          ·
            refine x_aloadn (x := 31) rfl rfl ?_
            refine z_getR (N := 13) (b := 95) 11 6 rfl f_11_59 rfl J rfl 3974 ⟨rfl, rfl⟩ rfl ?_
            refine x_iloadn (x := a1) rfl rfl ?_
            refine x_iloadn (x := a2) rfl rfl ?_
            refine x_iloadn (x := a3) rfl rfl ?_
            refine x_inv (N := m_X2_read) (As := [.int a1, .int a2, .int a3]) (b := 95) (st := []) (dx9 := 26) (mc := 3) (ms := 1278) (host := "") 2 rfl t_X2_read ⟨Or.inl q_11_328, i_X2_read.1, i_X2_read.2⟩ ⟨by decide, rfl⟩ (congrArg Prod.fst (J.1.1 95 (2, 6) rfl)) rfl (by decide) rfl rfl ⟨by decide, by decide⟩ (sf_X2_read_r95D (jr_of rfl (by omega)) (jr_of rfl (by omega)) (jr_of rfl (by omega)) hD J zp0 zp1 (by omega) rfl ⟨fun h J S9 u10 u11 qu10 qu11 ru10 p1 p2 => ?_, fun b12 h Tb12 J S9 u10 u11 qu10 qu11 ru10 p1 p2 => ?_⟩)
            ·
              have eu10 := (show 0 ≤ u10.toInt ∧ u10.toInt ≤ 3 from qu10 ▸ jrg_f J sg_68_5_6_1_0_1)
              have eu11 := (show 0 ≤ u11.toInt ∧ u11.toInt ≤ 400 from qu11 ▸ jrg_f J sg_68_3_4_1_0_1)
              have Sm := jSm_tr rfl Sm S9
              show jX m_X11_text 27 3 1278 58 [(0, .ref 31), (1, .int a1), (2, .int a2), (3, .int a3)] [.null] _ 3 1278 _
              refine x_astoreN (lsx9 := [(4, .null), (0, .ref 31), (1, .int a1), (2, .int a2), (3, .int a3)]) rfl rfl rfl ?_
              refine x_aloadN rfl rfl ?_
              refine x_ifnonnullN rfl ?_
              refine x_aloadn (x := 31) rfl rfl ?_
              refine x_bipush (v := (-6)) rfl kb_m6 ?_
              refine x_inv (N := m_X11_refuseTape) (As := [.int (-6)]) (b := 31) (st := []) (dx9 := 26) (mc := 0) (ms := 0) (host := "") 11 rfl t_X11_refuseTape ⟨Or.inl q_11_122, i_X11_refuseTape.1, i_X11_refuseTape.2⟩ ⟨by decide, rfl⟩ (congrArg Prod.fst (J.1.1 31 (11, 13) rfl)) rfl (by decide) rfl rfl ⟨by decide, by decide⟩ (jC.of rfl k_X11_refuseTape rfl ?_)
              show jX m_X11_refuseTape 26 0 0 0 [(0, .ref 31), (1, .int (-6))] [] _ 0 0 _
              refine x_aloadn (x := 31) rfl rfl ?_
              refine z_getR (N := 13) (b := 68) 11 2 rfl f_11_23 rfl J rfl 3970 ⟨rfl, rfl⟩ rfl ?_
              refine x_iconst (v := 0) rfl ki_0 ?_
              refine z_putI (N := 6) (w := 0) 9 1 rfl f_11_106 rfl (jfin_no TX9 RX9 6 rfl rfl) hD J Sm rfl rfl jk_0 (pw_68_1 (by omega)) rfl (fun h w13 J Sm => ?_)
              refine x_aloadn (x := 31) rfl rfl ?_
              refine x_iloadn (x := (-6)) rfl rfl ?_
              refine x_inv (N := m_X11_refuse) (As := [.int (-6)]) (b := 31) (st := []) (dx9 := 25) (mc := 0) (ms := 0) (host := "") 11 rfl t_X11_refuse ⟨Or.inl q_11_206, i_X11_refuse.1, i_X11_refuse.2⟩ ⟨by decide, rfl⟩ (congrArg Prod.fst (J.1.1 31 (11, 13) rfl)) rfl (by decide) rfl rfl ⟨by decide, by decide⟩ (jC.of rfl k_X11_refuse rfl ?_)
              show jX m_X11_refuse 25 0 0 0 [(0, .ref 31), (1, .int (-6))] [] _ 0 0 _
              refine x_aloadn (x := 31) rfl rfl ?_
              refine x_iloadn (x := (-6)) rfl rfl ?_
              refine z_putI (N := 13) (w := (-6)) 11 12 rfl f_11_94 rfl (jfin_no TX11 RX11 13 rfl rfl) hD J Sm rfl rfl jk_m6 (pw_31_12 (by omega)) rfl (fun h w14 J Sm => ?_)
              refine x_iloadn (x := (-6)) rfl rfl ?_
              refine x_iret rfl rfl ?_
              show jX m_X11_refuseTape 26 0 0 13 [(0, .ref 31), (1, .int (-6))] [.int (-6)] _ 0 0 _
              refine x_iret rfl rfl ?_
              show jX m_X11_text 27 3 1278 71 [(4, .null), (0, .ref 31), (1, .int a1), (2, .int a2), (3, .int a3)] [.int (-6)] _ 3 1278 _
              refine x_iret rfl rfl ?_
              exact hQ _ _ (jr_of jk_m6 (by omega)) J Sm _ _ (jmo w14 rfl (jmo w13 rfl qu10)) (jmo w14 rfl (jmo w13 rfl qu11)) (by omega) (Or.inr ⟨by unfold txG; omega, Or.inr ⟨by rw [eW, vrf qv7]; omega, Or.inl ⟨by rw [eW]; exact p1, by rw [eW, p2, vwf w13 jk_0.symm, vwf w14 jk_m6.symm, jk_m6]⟩⟩⟩)
            ·
              have eu10 := (show 0 ≤ u10.toInt ∧ u10.toInt ≤ 3 from qu10 ▸ jrg_f J sg_68_5_6_1_0_1)
              have eu11 := (show 0 ≤ u11.toInt ∧ u11.toInt ≤ 400 from qu11 ▸ jrg_f J sg_68_3_4_1_0_1)
              have Sm := jSm_tr rfl Sm S9
              show jX m_X11_text 27 3 1278 58 [(0, .ref 31), (1, .int a1), (2, .int a2), (3, .int a3)] [.ref b12] _ 3 1278 _
              refine x_astore (lsx9 := [(4, .ref b12), (0, .ref 31), (1, .int a1), (2, .int a2), (3, .int a3)]) rfl rfl rfl ?_
              refine x_aload (x := b12) rfl rfl ?_
              refine x_ifnonnull (tgt := 72) rfl rfl ?_
              refine x_aloadn (x := 31) rfl rfl ?_
              refine z_getR (N := 13) (b := 68) 11 2 rfl f_11_23 rfl J rfl 3970 ⟨rfl, rfl⟩ rfl ?_
              refine x_iconst (v := 0) rfl ki_0 ?_
              refine z_putI (N := 6) (w := 0) 9 1 rfl f_11_106 rfl (jfin_no TX9 RX9 6 rfl rfl) hD J Sm rfl rfl jk_0 (pw_68_1 (by omega)) rfl (fun h w15 J Sm => ?_)
              have Tb12 := jTx_i w15 rfl Tb12
              refine x_aloadn (x := 31) rfl rfl ?_
              refine z_getR (N := 13) (b := 32) 11 0 rfl f_11_10 rfl J rfl 3968 ⟨rfl, rfl⟩ rfl ?_
              refine z_getM (N := 20) (v := v7) 1 18 rfl f_11_325 rfl J rfl (jmo w15 rfl (jmc S9 rfl qv7)) ?_
              refine x_istore (lsx9 := [(5, .int v7), (4, .ref b12), (0, .ref 31), (1, .int a1), (2, .int a2), (3, .int a3)]) rfl rfl rfl ?_
              refine x_aloadn (x := 31) rfl rfl ?_
              refine z_getR (N := 13) (b := 32) 11 0 rfl f_11_10 rfl J rfl 3968 ⟨rfl, rfl⟩ rfl ?_
              refine z_getR (N := 20) (b := 66) 1 17 rfl f_11_332 rfl J rfl 4113 ⟨rfl, rfl⟩ rfl ?_
              refine x_iload (x := v7) rfl rfl ?_
              refine x_aload (x := b12) rfl rfl ?_
              refine z_aastT rfl hD J Sm rfl rfl (by omega) Tb12 rfl (fun h w16 J Sm => ?_)
              have Tb12 := jTx_r w16 Tb12
              refine x_aloadn (x := 31) rfl rfl ?_
              refine z_getR (N := 13) (b := 32) 11 0 rfl f_11_10 rfl J rfl 3968 ⟨rfl, rfl⟩ rfl ?_
              refine x_iload (x := v7) rfl rfl ?_
              refine x_iconst (v := 1) rfl ki_1 ?_
              refine z_iadd rfl rfl jk_1 (by omega) (fun v17 ev17 => ?_)
              refine z_putI (N := 20) (w := v17.toInt) 1 18 rfl f_11_325 rfl (jfin_no TX1 RX1 20 rfl rfl) hD J Sm rfl rfl rfl (pw_32_18 (by omega)) rfl (fun h w18 J Sm => ?_)
              have Tb12 := jTx_i w18 rfl Tb12
              refine x_aloadn (x := 31) rfl rfl ?_
              refine z_getR (N := 13) (b := 32) 11 0 rfl f_11_10 rfl J rfl 3968 ⟨rfl, rfl⟩ rfl ?_
              refine z_getR (N := 20) (b := 63) 1 15 rfl f_11_159 rfl J rfl 4111 ⟨rfl, rfl⟩ rfl ?_
              refine x_iconst (v := 1) rfl ki_1 ?_
              refine x_iload (x := v7) rfl rfl ?_
              refine x_iconst (v := 0) rfl ki_0 ?_
              refine x_iconst (v := 0) rfl ki_0 ?_
              refine x_iconst (v := 0) rfl ki_0 ?_
              refine x_iconst (v := 0) rfl ki_0 ?_
              refine x_inv (N := m_X8_add) (As := [.int 1, .int v7, .int 0, .int 0, .int 0, .int 0]) (b := 63) (st := []) (dx9 := 2) (mc := 0) (ms := 0) (host := "") 8 rfl t_X8_add ⟨Or.inl q_11_145, i_X8_add.1, i_X8_add.2⟩ ⟨by decide, rfl⟩ (congrArg Prod.fst (J.1.1 63 (8, 4) rfl)) rfl (by decide) rfl rfl ⟨by decide, by decide⟩ (sf_X8_add_r63d (jr_of jk_1 (by omega)) (jr_of rfl (by omega)) (jr_of jk_0 (by omega)) (jr_of jk_0 (by omega)) (jr_of jk_0 (by omega)) (jr_of jk_0 (by omega)) hD J rfl (fun h J S19 p3 => ?_))
              rw [jk_1, jk_0] at p3
              have Sm := jSm_tr rfl Sm S19
              have Tb12 := jTx_m S19 rfl Tb12
              show jX m_X11_text 27 3 1278 129 [(5, .int v7), (4, .ref b12), (0, .ref 31), (1, .int a1), (2, .int a2), (3, .int a3)] [] _ 3 1278 _
              refine x_aloadn (x := 31) rfl rfl ?_
              refine x_iload (x := v7) rfl rfl ?_
              refine x_inv (N := m_X11_accept) (As := [.int v7]) (b := 31) (st := []) (dx9 := 26) (mc := 0) (ms := 0) (host := "") 11 rfl t_X11_accept ⟨Or.inl q_11_165, i_X11_accept.1, i_X11_accept.2⟩ ⟨by decide, rfl⟩ (congrArg Prod.fst (J.1.1 31 (11, 13) rfl)) rfl (by decide) rfl rfl ⟨by decide, by decide⟩ (jC.of rfl k_X11_accept rfl ?_)
              show jX m_X11_accept 26 0 0 0 [(0, .ref 31), (1, .int v7)] [] _ 0 0 _
              refine x_aloadn (x := 31) rfl rfl ?_
              refine x_iconst (v := 0) rfl ki_0 ?_
              refine z_putI (N := 13) (w := 0) 11 12 rfl f_11_94 rfl (jfin_no TX11 RX11 13 rfl rfl) hD J Sm rfl rfl jk_0 (pw_31_12 (by omega)) rfl (fun h w20 J Sm => ?_)
              have Tb12 := jTx_i w20 rfl Tb12
              refine x_aloadn (x := 31) rfl rfl ?_
              refine z_getR (N := 13) (b := 32) 11 0 rfl f_11_10 rfl J rfl 3968 ⟨rfl, rfl⟩ rfl ?_
              refine x_dup rfl rfl ?_
              refine z_getI0 (N := 20) 1 19 rfl f_11_528 rfl J rfl (fun v21 qv21 => ?_)
              have ev21 := jfull v21
              refine x_iconst (v := 1) rfl ki_1 ?_
              refine z_iaddW rfl rfl jk_1 (fun v22 ev22q => ?_)
              have ev22 := jfull v22
              refine z_putI (N := 20) (w := v22.toInt) 1 19 rfl f_11_528 rfl (jfin_no TX1 RX1 20 rfl rfl) hD J Sm rfl rfl rfl (pw_32_19 trivial) rfl (fun h w23 J Sm => ?_)
              have Tb12 := jTx_i w23 rfl Tb12
              refine x_iloadn (x := v7) rfl rfl ?_
              refine x_iret rfl rfl ?_
              show jX m_X11_text 27 3 1278 135 [(5, .int v7), (4, .ref b12), (0, .ref 31), (1, .int a1), (2, .int a2), (3, .int a3)] [.int v7] _ 3 1278 _
              refine x_iret rfl rfl ?_
              obtain ⟨hY, y1, N4⟩ := p2
              have e18 : (vw hs0).1 32 18 = v7.toInt := (congrFun (congrFun (congrArg Prod.fst eW) 32) 18).trans (vrf qv7)
              have e19 : j_iadd ((vw hs0).1 32 19) 1 = v22.toInt := by
                rw [ev22q, ← qv21, congrFun (congrFun (congrArg Prod.fst eW) 32) 19]
                exact congrArg (fun z : Int32 => j_iadd z.toInt 1) (jmo w20 rfl (jmc S19 rfl (jmo w18 rfl (jmr w16 (jmo w15 rfl (jmc S9 rfl rfl)))))).symm
              refine hQ _ _ (jr_of rfl (by omega)) J Sm _ _ (jmo w23 rfl (jmo w20 rfl (jmc S19 rfl (jmo w18 rfl (jmr w16 (jmo w15 rfl qu10)))))) (jmo w23 rfl (jmo w20 rfl (jmc S19 rfl (jmo w18 rfl (jmr w16 (jmo w15 rfl qu11)))))) (by omega) (Or.inr ⟨by unfold txG; omega, Or.inr ⟨by rw [e18]; omega, Or.inr ⟨by rw [eW, p1]; decide, _, tx_S N4 w15 w16 w18 (by omega) ev17 (by rw [eW]; exact y1) e18.symm (by rw [e18]; omega), ?_⟩⟩⟩)
              rw [e18]
              unfold pAx
              rw [e19, p3, vwf w20 jk_0.symm, vwf w23 rfl]
          ·
            refine x_aloadn (x := 31) rfl rfl ?_
            refine x_bipush (v := (-5)) rfl kb_m5 ?_
            refine x_inv (N := m_X11_refuseTape) (As := [.int (-5)]) (b := 31) (st := []) (dx9 := 26) (mc := 0) (ms := 0) (host := "") 11 rfl t_X11_refuseTape ⟨Or.inl q_11_122, i_X11_refuseTape.1, i_X11_refuseTape.2⟩ ⟨by decide, rfl⟩ (congrArg Prod.fst (J.1.1 31 (11, 13) rfl)) rfl (by decide) rfl rfl ⟨by decide, by decide⟩ (jC.of rfl k_X11_refuseTape rfl ?_)
            show jX m_X11_refuseTape 26 0 0 0 [(0, .ref 31), (1, .int (-5))] [] _ 0 0 _
            refine x_aloadn (x := 31) rfl rfl ?_
            refine z_getR (N := 13) (b := 68) 11 2 rfl f_11_23 rfl J rfl 3970 ⟨rfl, rfl⟩ rfl ?_
            refine x_iconst (v := 0) rfl ki_0 ?_
            refine z_putI (N := 6) (w := 0) 9 1 rfl f_11_106 rfl (jfin_no TX9 RX9 6 rfl rfl) hD J Sm rfl rfl jk_0 (pw_68_1 (by omega)) rfl (fun h w24 J Sm => ?_)
            refine x_aloadn (x := 31) rfl rfl ?_
            refine x_iloadn (x := (-5)) rfl rfl ?_
            refine x_inv (N := m_X11_refuse) (As := [.int (-5)]) (b := 31) (st := []) (dx9 := 25) (mc := 0) (ms := 0) (host := "") 11 rfl t_X11_refuse ⟨Or.inl q_11_206, i_X11_refuse.1, i_X11_refuse.2⟩ ⟨by decide, rfl⟩ (congrArg Prod.fst (J.1.1 31 (11, 13) rfl)) rfl (by decide) rfl rfl ⟨by decide, by decide⟩ (jC.of rfl k_X11_refuse rfl ?_)
            show jX m_X11_refuse 25 0 0 0 [(0, .ref 31), (1, .int (-5))] [] _ 0 0 _
            refine x_aloadn (x := 31) rfl rfl ?_
            refine x_iloadn (x := (-5)) rfl rfl ?_
            refine z_putI (N := 13) (w := (-5)) 11 12 rfl f_11_94 rfl (jfin_no TX11 RX11 13 rfl rfl) hD J Sm rfl rfl jk_m5 (pw_31_12 (by omega)) rfl (fun h w25 J Sm => ?_)
            refine x_iloadn (x := (-5)) rfl rfl ?_
            refine x_iret rfl rfl ?_
            show jX m_X11_refuseTape 26 0 0 13 [(0, .ref 31), (1, .int (-5))] [.int (-5)] _ 0 0 _
            refine x_iret rfl rfl ?_
            show jX m_X11_text 27 3 1278 47 [(0, .ref 31), (1, .int a1), (2, .int a2), (3, .int a3)] [.int (-5)] _ 0 0 _
            refine x_iret rfl rfl ?_
            exact hQ _ _ (jr_of jk_m5 (by omega)) J Sm _ _ (jmo w25 rfl (jmo w24 rfl zp0)) (jmo w25 rfl (jmo w24 rfl zp1)) (by omega) (Or.inr ⟨by unfold txG; omega, Or.inl ⟨by rw [eW, vrf qv7]; omega, by rw [eW, vwf w24 jk_0.symm, vwf w25 jk_m5.symm, jk_m5]⟩⟩)
        ·
          exact jX.sub (jsb_c rfl jsb_n) (ct_X11_text_r31_23D hD (no (fun g => by unfold txG at g; omega))  p1 p0 h (jr_of rfl (by omega)) (jr_of rfl (by omega)) (by omega) zp1 zp0 J Sm eW)
