/-! a TEXT that is made -/
section RT
variable {h : jH} {Q : Option Value → jH → Prop}
theorem c_Xinit {a b c nb : Nat} {x1 x2 x3 : Int32} (ha : Nat.ble 31 a = true) (hs : jsh h a = (10, 6)) (hb : jsh h b = (100, nb)) (hnb : nb ≤ 72)
    (hQ : ∀ v : Int32, 0 ≤ v.toInt ∧ v.toInt ≤ 12 → 6 * v.toInt ≤ nb → Q none (jsi (jsr (jsr (jsi (jsi (jsi h a 0 x1) a 1 x2) a 2 x3) a 4 (some b)) a 5 (some c)) a 3 v)) : jC m_X10_init 1 0 0 [.ref a, .int x1, .int x2, .int x3, .ref b, .ref c] h Q := by
  have e6 : (6 : Int32).toInt = 6 := by decide
  have e12 : (12 : Int32).toInt = 12 := by decide
  have en : (nI nb).toInt = nb := by
    have h1 : (nI nb).toNatClampNeg = nb := nI_clamp (by omega)
    have h2 := jnn (nI_pos (n := nb) (by omega))
    rw [h1] at h2
    exact h2
  have f0 : ∀ g : jH, jsh g a = (10, 6) → (jsh g a).1 = 10 := fun g q => by rw [q]
  refine jC.of rfl k_X10_init rfl ?_
  refine x_aloadn (x := a) rfl rfl ?_
  refine x_obj rfl ⟨q_10_3, jobj_w⟩ (by decide) rfl ?_
  refine x_aloadn (x := a) rfl rfl ?_
  refine x_iloadn (x := x1) rfl rfl ?_
  refine x_putI 10 0 rfl f_10_9 rfl (jfin_in TX10 RX10 6 rfl rfl rfl rfl) (f0 _ hs) ha ?_
  refine x_aloadn (x := a) rfl rfl ?_
  refine x_iloadn (x := x2) rfl rfl ?_
  refine x_putI 10 1 rfl f_10_15 rfl (jfin_in TX10 RX10 6 rfl rfl rfl rfl) (f0 _ hs) ha ?_
  refine x_aloadn (x := a) rfl rfl ?_
  refine x_iloadn (x := x3) rfl rfl ?_
  refine x_putI 10 2 rfl f_10_18 rfl (jfin_in TX10 RX10 6 rfl rfl rfl rfl) (f0 _ hs) ha ?_
  refine x_aloadn (x := a) rfl rfl ?_
  refine x_aload (x := b) rfl rfl ?_
  refine x_putR 10 4 rfl f_10_21 rfl (jfin_in TX10 RX10 6 rfl rfl rfl rfl) (f0 _ hs) ha ?_
  refine x_aloadn (x := a) rfl rfl ?_
  refine x_aload (x := c) rfl rfl ?_
  refine x_putR 10 5 rfl f_10_25 rfl (jfin_in TX10 RX10 6 rfl rfl rfl rfl) (f0 _ hs) ha ?_
  refine x_aloadn (x := a) rfl rfl ?_
  refine x_bipush (v := 12) rfl (by decide) ?_
  refine x_aload (x := b) rfl rfl ?_
  refine x_alen rfl hb (by decide) ?_
  refine x_bipush (v := 6) rfl (by decide) ?_
  refine z_idiv rfl en e6 (by decide) (by omega) (fun q eq => ?_)
  refine z_mmin rfl q_10_28 (by decide) rfl e12 eq (fun v ev => ?_)
  refine x_putI 10 3 rfl f_10_34 rfl (jfin_in TX10 RX10 6 rfl rfl rfl rfl) (f0 _ hs) ha ?_
  exact x_vret rfl rfl (hQ v (by omega) (by omega))
end RT
theorem jJ_nw {Sg : List jSg} {Dy : jH → Prop} {h hx9 : jH} (hD : jDk Dy) (J : jJ Sg Dy h) (hSg : ∀ s ∈ Sg, Nat.blt s.1 174 = true) (S : jSm [] h hx9) (hO : ∀ a s, (jtO ++ jtS).lookup a = some s → Nat.blt a 174 = true) (hR : ∀ q c, jtR.lookup q = some c → Nat.blt (q / 128) 174 = true) : jJ Sg Dy hx9 :=
  ⟨⟨fun a s q => (S.2.1 a (Or.inl (hO a s q))).trans (J.1.1 a s q), fun q c e => ((S.2.2 _ _ (Or.inl (hR q c e)) rfl).2.2).trans (J.1.2 q c e)⟩, fun s hs k hk => by
    rw [(S.2.2 s.1 k (Or.inl (hSg s hs)) rfl).1]
    exact J.2.1 s hs k hk, hD.2.2.2.2.2.1 h hx9 S J.2.2⟩
theorem jO_lo : ∀ a s, (jtO ++ jtS).lookup a = some s → Nat.blt a 174 = true := by
  intro a s q
  have : ∀ p ∈ jtO ++ jtS, Nat.blt p.1 174 = true := by decide +kernel
  exact this _ (jlk_mem q)
theorem jR_lo : ∀ q c, jtR.lookup q = some c → Nat.blt (q / 128) 174 = true := by
  intro q c e
  have : ∀ p ∈ jtR, Nat.blt (p.1 / 128) 174 = true := by decide +kernel
  exact this _ (jlk_mem e)
theorem jX_lo : ∀ s ∈ jSgX, Nat.blt s.1 174 = true := by decide +kernel
theorem read_59 {Dy : jH → Prop} {d : Nat} {ls : jL} {h h0 : jH} {FP : jFp} {x1 x2 x3 : Int32} {Q : Option Value → jH → Prop} (hD : jDk Dy) (J : jJ jSgX Dy h) (Sm : jSm FP h0 h) (hd : Nat.ble 2 d = true) (hl : jsb ls [(0, .ref 95), (1, .int x1), (2, .int x2), (3, .int x3)]) (hQ : ∀ a hx9, jTx hx9 a → jJ jSgX Dy hx9 → jSm FP h0 hx9 → Q (some (.ref a)) hx9) : jX m_X2_read d 3 1278 59 ls [] h 0 0 Q := by
  have hd := Nat.ble_eq.mp hd
  have hB := (hD.2.2.2.1 h J.2.2).1
  have r1 := jrg_f J sg_95_3_4_1_0_1
  have r2 := jrg_f J sg_95_4_5_1_0_1
  have e6 : (6 : Int32).toInt = 6 := by decide
  refine jX.sub hl ?_
  generalize hA : jnx h = A at hB
  have s95 : ∀ g : jH, (∀ a, a < A → jsh g a = jsh h a) → jsh g 95 = (2, 6) := fun g q => (q 95 (by omega)).trans (J.1.1 95 _ rfl)
  have s96 : ∀ g : jH, (∀ a, a < A → jsh g a = jsh h a) → jsh g 96 = (100, 72) := fun g q => (q 96 (by omega)).trans (J.1.1 96 _ rfl)
  have s97 : ∀ g : jH, (∀ a, a < A → jsh g a = jsh h a) → jsh g 97 = (100, 1200) := fun g q => (q 97 (by omega)).trans (J.1.1 97 _ rfl)
  have v96 : jrv h 95 1 = some 96 := J.1.2 (95 * 128 + 1) 96 rfl
  have v97 : jrv h 95 2 = some 97 := J.1.2 (95 * 128 + 2) 97 rfl
  refine x_new 10 6 rfl v_2_9 ⟨by decide, by decide⟩ ?_
  rw [hA]
  generalize e1 : jnw h 10 6 = h1
  have n1 : jnx h1 = A + 1 := by rw [← e1, ← hA]; rfl
  have q1 : ∀ a, a ≠ A → jsh h1 a = jsh h a ∧ ∀ k, jiv h1 a k = jiv h a k ∧ jlv h1 a k = jlv h a k ∧ jrv h1 a k = jrv h a k := by
    intro a ha
    rw [← hA] at ha
    rw [← e1]
    exact ⟨by simp [jsh, jnw, ha], fun k => ⟨by simp [jiv, jnw, ju1, ha], by simp [jlv, jnw, ju1, ha], by simp [jrv, jnw, ju1, ha]⟩⟩
  have w1 : jsh h1 A = (10, 6) := by rw [← e1, ← hA]; simp [jsh, jnw]
  refine x_dup rfl rfl ?_
  refine x_iloadn (x := x1) rfl rfl ?_
  refine x_iloadn (x := x2) rfl rfl ?_
  refine x_iloadn (x := x3) rfl rfl ?_
  refine x_aloadn (x := 95) rfl rfl ?_
  refine x_getR 2 1 rfl f_2_11 rfl (by rw [(q1 95 (by omega)).1, J.1.1 95 _ rfl]) (((q1 95 (by omega)).2 1).2.2.trans v96) ?_
  refine x_aloadn (x := 95) rfl rfl ?_
  refine x_getI 2 3 rfl f_2_20 rfl (by rw [(q1 95 (by omega)).1, J.1.1 95 _ rfl]) ?_
  rw [((q1 95 (by omega)).2 3).1]
  refine x_bipush (v := 6) rfl (by decide) ?_
  refine z_imul rfl rfl e6 (by omega) (fun u eu => ?_)
  obtain ⟨L1, hL1, rfl⟩ := nI_of (jnneg (x := u) (by omega))
  have eL1 : (nI L1).toInt = L1 := by
    have g1 : (nI L1).toNatClampNeg = L1 := nI_clamp hL1
    have g2 := jnn (nI_pos (n := L1) hL1)
    rw [g1] at g2
    exact g2
  have hL72 : L1 ≤ 72 := by omega
  refine x_inst (N := m_J7_copyOf_59c91) (As := [.ref 96, .int (nI L1)]) (st := [.int x3, .int x2, .int x1, .ref A, .ref A]) (dx9 := 1) (mc := 1) (ms := L1) (host := "") rfl t_J7_copyOf_59c91 ⟨Or.inl q_2_46, s_J7_copyOf_59c91⟩ rfl (by omega) rfl rfl ⟨by decide, by omega⟩ (c_copyOf (N := 72) rfl (by omega) (by decide) ((q1 96 (by omega)).1.trans (J.1.1 96 _ rfl)) hL72 ?_)
  rw [n1]
  generalize e2 : jci (jnw h1 100 L1) 96 (A + 1) 0 0 L1 = h2
  have n2 : jnx h2 = A + 2 := by rw [← e2]; show jnx h1 + 1 = _; rw [n1]
  have q2 : ∀ a, a ≠ A → a ≠ A + 1 → jsh h2 a = jsh h a ∧ ∀ k, jiv h2 a k = jiv h a k ∧ jlv h2 a k = jlv h a k ∧ jrv h2 a k = jrv h a k := by
    intro a ha hb
    have t := q1 a ha
    have hb' : a ≠ jnx h1 := by rw [n1]; exact hb
    rw [← e2]
    refine ⟨(show _ = jsh h1 a by simp [jsh, jci, jnw, hb']).trans t.1, fun k => ⟨(show _ = jiv h1 a k by simp [jiv, jci, jnw, ju1, hb, hb']).trans (t.2 k).1, (show _ = jlv h1 a k by simp [jlv, jci, jnw, ju1, hb']).trans (t.2 k).2.1, (show _ = jrv h1 a k by simp [jrv, jci, jnw, ju1, hb']).trans (t.2 k).2.2⟩⟩
  have w2 : jsh h2 A = (10, 6) ∧ jsh h2 (A + 1) = (100, L1) := by
    have hne : A ≠ jnx h1 := by omega
    rw [← e2]
    exact ⟨(show _ = jsh h1 A by simp [jsh, jci, jnw, hne]).trans w1, by simp [jsh, jci, jnw, n1]⟩
  refine x_aloadn (x := 95) rfl rfl ?_
  refine x_getR 2 2 rfl f_2_17 rfl (by rw [(q2 95 (by omega) (by omega)).1, J.1.1 95 _ rfl]) (((q2 95 (by omega) (by omega)).2 2).2.2.trans v97) ?_
  refine x_aloadn (x := 95) rfl rfl ?_
  refine x_getI 2 4 rfl f_2_24 rfl (by rw [(q2 95 (by omega) (by omega)).1, J.1.1 95 _ rfl]) ?_
  rw [((q2 95 (by omega) (by omega)).2 4).1]
  generalize hu : jiv h 95 4 = u2 at r2
  obtain ⟨L2, hL2, rfl⟩ := nI_of (jnneg (x := u2) (by omega))
  have eL2 : (nI L2).toInt = L2 := by
    have g1 : (nI L2).toNatClampNeg = L2 := nI_clamp hL2
    have g2 := jnn (nI_pos (n := L2) hL2)
    rw [g1] at g2
    exact g2
  have hL12 : L2 ≤ 1200 := by omega
  refine x_inst (N := m_J7_copyOf_59c91) (As := [.ref 97, .int (nI L2)]) (st := [.ref (A + 1), .int x3, .int x2, .int x1, .ref A, .ref A]) (dx9 := 1) (mc := 1) (ms := L2) (host := "") rfl t_J7_copyOf_59c91 ⟨Or.inl q_2_46, s_J7_copyOf_59c91⟩ rfl (by omega) rfl rfl ⟨by decide, by omega⟩ (c_copyOf (N := 1200) rfl (by omega) (by decide) ((q2 97 (by omega) (by omega)).1.trans (J.1.1 97 _ rfl)) hL12 ?_)
  rw [n2]
  generalize e3 : jci (jnw h2 100 L2) 97 (A + 2) 0 0 L2 = h3
  have n3 : jnx h3 = A + 3 := by rw [← e3]; show jnx h2 + 1 = _; rw [n2]
  have q3 : ∀ a, a ≠ A → a ≠ A + 1 → a ≠ A + 2 → jsh h3 a = jsh h a ∧ ∀ k, jiv h3 a k = jiv h a k ∧ jlv h3 a k = jlv h a k ∧ jrv h3 a k = jrv h a k := by
    intro a ha hb hc
    have t := q2 a ha hb
    have hc' : a ≠ jnx h2 := by rw [n2]; exact hc
    rw [← e3]
    refine ⟨(show _ = jsh h2 a by simp [jsh, jci, jnw, hc']).trans t.1, fun k => ⟨(show _ = jiv h2 a k by simp [jiv, jci, jnw, ju1, hc, hc']).trans (t.2 k).1, (show _ = jlv h2 a k by simp [jlv, jci, jnw, ju1, hc']).trans (t.2 k).2.1, (show _ = jrv h2 a k by simp [jrv, jci, jnw, ju1, hc']).trans (t.2 k).2.2⟩⟩
  have w3 : jsh h3 A = (10, 6) ∧ jsh h3 (A + 1) = (100, L1) ∧ jsh h3 (A + 2) = (100, L2) := by
    have hne : A ≠ jnx h2 := by omega
    have hne2 : A + 1 ≠ jnx h2 := by omega
    rw [← e3]
    exact ⟨(show _ = jsh h2 A by simp [jsh, jci, jnw, hne]).trans w2.1, (show _ = jsh h2 (A + 1) by simp [jsh, jci, jnw, hne2]).trans w2.2, by simp [jsh, jci, jnw, n2]⟩
  refine x_ins (N := m_X10_init) (As := [.int x1, .int x2, .int x3, .ref (A + 1), .ref (A + 2)]) (b := A) (st := [.ref A]) (dx9 := 1) (mc := 0) (ms := 0) (host := "") rfl t_X10_init ⟨Or.inl q_2_52, i_X10_init, rfl, rfl⟩ rfl (by omega) rfl rfl ⟨by decide, by omega⟩ (c_Xinit (nb := L1) (Nat.ble_eq.mpr (by omega)) w3.1 w3.2.1 hL72 (fun v hv hv6 => ?_))
  generalize e4 : jsi (jsr (jsr (jsi (jsi (jsi h3 A 0 x1) A 1 x2) A 2 x3) A 4 (some (A + 1))) A 5 (some (A + 2))) A 3 v = h4
  have n4 : jnx h4 = A + 3 := by rw [← e4, ← n3]; rfl
  have s4 : ∀ a, jsh h4 a = jsh h3 a := fun a => by rw [← e4]; rfl
  have q4 : ∀ a, a ≠ A → ∀ k, jiv h4 a k = jiv h3 a k ∧ jlv h4 a k = jlv h3 a k ∧ jrv h4 a k = jrv h3 a k := by
    intro a ha k
    rw [← e4]
    exact ⟨by simp [jiv, jsi, jsr, ju2, ha], by simp [jlv, jsi, jsr], by simp [jrv, jsi, jsr, ju2, ha]⟩
  have i4 : jiv h4 A 3 = v := by rw [← e4]; simp [jiv, jsi, ju2]
  have r4 : jrv h4 A 4 = some (A + 1) ∧ jrv h4 A 5 = some (A + 2) := by
    rw [← e4]
    exact ⟨by simp [jrv, jsi, jsr, ju2], by simp [jrv, jsi, jsr, ju2]⟩
  have S4 : jSm [] h h4 := by
    refine ⟨by rw [n4, hA]; omega, fun a ha => ?_, fun a k ha _ => ?_⟩
    · have hlt : a < A := by
        rcases ha with g | g
        · have := Nat.blt_eq.mp g; omega
        · rw [hA] at g; exact g
      rw [s4]
      exact (q3 a (by omega) (by omega) (by omega)).1
    · have hlt : a < A := by
        rcases ha with g | g
        · have := Nat.blt_eq.mp g; omega
        · rw [hA] at g; exact g
      have t1 := q4 a (by omega) k
      have t2 := (q3 a (by omega) (by omega) (by omega)).2 k
      exact ⟨t1.1.trans t2.1, t1.2.1.trans t2.2.1, t1.2.2.trans t2.2.2⟩
  have T4 : jTx h4 A := ⟨⟨hB, by omega, (s4 A).trans w3.1⟩, by rw [i4]; exact hv, ⟨A + 1, L1, r4.1, by omega, by omega, (s4 _).trans w3.2.1, by rw [i4]; exact hv6, hL72⟩, ⟨A + 2, L2, r4.2, by omega, by omega, (s4 _).trans w3.2.2, hL12⟩⟩
  refine x_aret rfl rfl rfl (Or.inr ⟨_, rfl⟩) (hQ A h4 T4 (jJ_nw hD J jX_lo S4 jO_lo jR_lo) (jSm_tr rfl Sm S4))
