theorem im_pc {a : Nat} {h g : jH} (C : jCd a 32 h g) : pCpy (vw h) (vw g) 32 a := by
  obtain ⟨c1, c2, c3, c4, c5, c6, c7, c8, c9, c10, c11⟩ := C
  refine ⟨fun f hf => ⟨congrArg Int32.toInt (c11 f hf).1, fun j hj => ?_⟩, fun j hj => ?_, fun j hj => c4 j hj, congrArg Int32.toInt c9⟩
  · refine congrArg Int32.toInt (((c11 f hf).2.2 j).trans (if_pos ?_))
    unfold ju8
    rw [jw8_w f hf]
    have e : (j : Int) < ((wdl.getD f 0 : Nat) : Int) * (jiv h (32 + 1 + 2 * f) 3).toInt := hj
    omega
  · exact congrArg Int64.toInt ((c7 j).trans (if_pos hj))
theorem im_So {a : Nat} {h g : jH} {l1 : Int32} (I : 174 ≤ a ∧ a + 35 ≤ jnx h) (N : pNxt (vw h)) (y : 0 ≤ l1.toInt) (q : jrv h 67 l1.toNatClampNeg = some a) (C : jCd a 32 h g) : imS l1.toInt.toNat (vw h) (vw g) := by
  have P := im_pc C
  have k1 := jcl_of y
  have e1 : l1.toInt.toNat = l1.toNatClampNeg := by omega
  obtain ⟨c1, c2, c3, c4, c5, c6, c7, c8, c9, c10, c11⟩ := C
  rw [e1]
  refine ⟨a, ⟨I.1, by show a + 35 ≤ jnx g; omega⟩, Or.inl q, ⟨(c3 67 _ (by omega)).trans q, fun j hj => c3 67 j (by omega)⟩, P, fun c hc => ⟨funext fun j => congrArg Int32.toInt (c8 c (by omega) j), funext fun j => congrArg Int64.toInt (c6 c j (by omega)), fun _ => funext fun j => c3 c j (by omega)⟩, fun c h1 h2 h3 => ⟨funext fun j => congrArg Int32.toInt (c8 c (by omega) j), funext fun j => congrArg Int64.toInt (c6 c j (by omega)), funext fun j => c3 c j (by omega)⟩, fun c hc => c2 c, by show jnx h ≤ jnx g; omega, fun c j U h1 h2 hU => ?_, fun j hj => Or.inr ⟨q, c5 j hj⟩⟩
  have g2 : c < jnx g := h2
  have e : jrv g c j = some U := hU
  rw [c3 c j (by
    rcases h1 with z | z
    · omega
    · exact z.2)] at e
  show U < jnx g
  have := N c j U (Or.inr ⟨by
    rcases h1 with z | z
    · omega
    · have : jnx h ≤ c := z.1
      omega, by show c < jnx h; omega⟩) e
  have : U < jnx h := this
  omega
theorem im_Sn {h h1 g : jH} {l1 : Int32} (C : jCh (jnx h) h h1) (x : 174 ≤ jnx h) (q : jrv h 67 l1.toNatClampNeg = none) (y : 0 ≤ l1.toInt) (C2 : jCd (jnx h) 32 (jsr h1 67 l1.toNatClampNeg (some (jnx h))) g) : imS l1.toInt.toNat (vw h) (vw g) := by
  have k1 := jcl_of y
  have e1 : l1.toInt.toNat = l1.toNatClampNeg := by omega
  have P := im_pc C2
  obtain ⟨C1, CO, C3, C4, C5, C6, C7, C8, C9, C10, C11, C12⟩ := C
  obtain ⟨c1, c2, c3, c4, c5, c6, c7, c8, c9, c10, c11⟩ := C2
  have n1 : jnx g = jnx h + 35 := c1.trans C1
  have oi : ∀ b k, b < jnx h → jiv (jsr h1 67 l1.toNatClampNeg (some (jnx h))) b k = jiv h b k := fun b k hb => (CO b hb).2.1 k
  have ol : ∀ b k, b < jnx h → jlv (jsr h1 67 l1.toNatClampNeg (some (jnx h))) b k = jlv h b k := fun b k hb => (CO b hb).2.2.1 k
  have or1 : ∀ b k, b < jnx h → (b ≠ 67 ∨ k ≠ l1.toNatClampNeg) → jrv (jsr h1 67 l1.toNatClampNeg (some (jnx h))) b k = jrv h b k := fun b k hb hk => by
    refine Eq.trans ?_ ((CO b hb).2.2.2 k)
    rcases hk with z | z
    · exact rv_sn z
    · exact rv_sk z
  have nr : ∀ b k, 67 < b → jrv (jsr h1 67 l1.toNatClampNeg (some (jnx h))) b k = jrv h1 b k := fun b k hb => rv_sn (by omega)
  rw [e1]
  refine ⟨jnx h, ⟨x, by show jnx h + 35 ≤ jnx g; omega⟩, Or.inr ⟨q, Nat.le_refl _⟩, ⟨(c3 67 _ (by omega)).trans rv_eq, fun j hj => (c3 67 j (by omega)).trans (or1 67 j (by omega) (Or.inr hj))⟩, ⟨fun f hf => ⟨((P.1 f hf).1).trans (congrArg Int32.toInt (oi _ _ (by omega))), fun j hj => ((P.1 f hf).2 j ?_).trans (congrArg Int32.toInt (oi _ _ (by omega)))⟩, fun j hj => (P.2.1 j hj).trans (congrArg Int64.toInt (ol _ _ (by omega))), fun j hj => (P.2.2.1 j hj).trans (or1 (32 + 34) j (by omega) (Or.inl (by omega))), P.2.2.2.trans (congrArg Int32.toInt (oi _ _ (by omega)))⟩, fun c hc => ⟨funext fun j => congrArg Int32.toInt ((c8 c (by omega) j).trans (oi c j (by omega))), funext fun j => congrArg Int64.toInt ((c6 c j (by omega)).trans (ol c j (by omega))), fun n67 => funext fun j => (c3 c j (by omega)).trans (or1 c j (by omega) (Or.inl n67))⟩, fun c h1 h2 h3 => ?_, fun c hc => ?_, by show jnx h ≤ jnx g; omega, fun c j U h1 h2 hU => ?_, fun j hj => Or.inl ?_⟩
  · have e : (vw (jsr h1 67 l1.toNatClampNeg (some (jnx h)))).1 (32 + 1 + 2 * f) 3 = (vw h).1 (32 + 1 + 2 * f) 3 := congrArg Int32.toInt (oi _ _ (by omega))
    rw [e]
    exact hj
  · have h2q : c < jnx h := h2
    exact ⟨funext fun j => congrArg Int32.toInt ((c8 c (by omega) j).trans (oi c j h2q)), funext fun j => congrArg Int64.toInt ((c6 c j (by omega)).trans (ol c j h2q)), funext fun j => (c3 c j (by omega)).trans (or1 c j h2q (Or.inl (by omega)))⟩
  · have hcq : c < jnx h := hc
    exact (c2 c).trans (CO c hcq).1
  · have g2 : c < jnx g := h2
    have ge : jnx h ≤ c ∧ c ≠ jnx h + 34 := by
      rcases h1 with z | z
      · omega
      · exact z
    have e : jrv g c j = some U := hU
    rw [c3 c j ge.2, nr c j (by omega)] at e
    show U < jnx g
    have := C12 c j U ge.1 ge.2 (by omega) e
    omega
  · show jrv g (jnx h + 34) j = none
    rw [c5 j hj, nr _ j (by omega)]
    exact C9 j
theorem jfo_hq {F : jFp} {b k : Nat} (a : F.all (fun q => Nat.ble q.1 124) = true) (h : 125 ≤ b) : jfo F b k = false := by
  cases e : jfo F b k with
  | false => rfl
  | true =>
    exfalso
    unfold jfo at e
    rw [List.any_eq_true] at e
    obtain ⟨q, q1, q2⟩ := e
    rw [Bool.and_eq_true, Bool.and_eq_true] at q2
    have z := Nat.eq_of_beq_eq_true q2.1.1
    rw [List.all_eq_true] at a
    have y := Nat.le_of_ble_eq_true (a q q1)
    omega
theorem ecl_s {F : jFp} {h h2 : jH} (S : jSm F h h2) (a : F.all (fun q => Nat.ble q.1 124) = true) : eCl (vw h) (vw h2) := fun c h1 h3 => by
  have k := fun j => S.2.2 c j (Or.inl (Nat.blt_eq.mpr (by omega))) (jfo_hq a h1)
  exact ⟨funext fun j => congrArg Int32.toInt (k j).1, funext fun j => congrArg Int64.toInt (k j).2.1⟩
theorem ecl_i {x : Int32} {h h2 : jH} (S : jIq x h h2) : eCl (vw h) (vw h2) := fun c h1 h3 => ⟨funext fun j => congrArg Int32.toInt (S.2.2.1 c (by omega) (by omega) (by omega) j), funext fun j => congrArg Int64.toInt (S.2.2.2.1 c (by omega) j)⟩
theorem pR_nx {v : Int} {X M : jW} (H : pR v X M) : pNxt X := by
  obtain ⟨E, t, w, wm, S, H⟩ := H
  exact H.1.2.2.2.2.2.1
theorem bk_rg {h : jH} {x : Int32} (J : jJ jSgX jDy h) : 0 ≤ x.toInt ∧ x.toInt ≤ 3 → ∀ A : Nat, (vw h).2.2.1 67 x.toInt.toNat = some A → 0 ≤ (vw h).1 (A + 1) 3 ∧ (vw h).1 (A + 1) 3 ≤ 200 := fun hx A q => by
  have I := J.2.2.2.1 x.toInt.toNat A (by omega) q
  have B := ((img_bk I).1 0 (by decide)).2.2.2.2.2
  exact ⟨B.1, Int.le_trans B.2 (by decide)⟩
set_option maxRecDepth 100000 in
set_option maxHeartbeats 4000000 in
theorem imx_accD {h : jH} {Q : Option Value → jH → Prop} {d a K S k n : Nat} {l1 : Int32} (hk : k ≤ K) (hs : n ≤ S) (hd : 3 ≤ d) (J : jJ jSgX jDy h) (hQ : ∀ h2, jJ jSgX jDy h2 → jSx2 h h2 → vu (vu (vw h) 31 12 0) 32 19 (j_iadd ((vw h).1 32 19) 1) = vw h2 → Q (some (.int 0)) h2) : jX m_X11_image d K S 49 [(0, .ref 31), (1, .int l1), (2, .ref a)] [] h k n Q := by
  refine x_aloadn (x := 31) rfl rfl ?_
  refine x_iconst (v := 0) rfl ki_0 ?_
  refine x_inv (N := m_X11_accept) (As := [.int 0]) (b := 31) (st := []) (dx9 := 1) (mc := 0) (ms := 0) (host := "") 11 rfl t_X11_accept ⟨Or.inl q_11_165, i_X11_accept.1, i_X11_accept.2⟩ ⟨by decide, rfl⟩ (congrArg Prod.fst (J.1.1 31 (11, 13) rfl)) rfl (by omega) rfl rfl ⟨hk, hs⟩ (jC.of rfl k_X11_accept rfl ?_)
  show jX m_X11_accept 1 0 0 0 [(0, .ref 31), (1, .int 0)] [] _ 0 0 _
  have Sm := jSm_rf [(31, 12, 13), (32, 19, 20)] h
  refine x_aloadn (x := 31) rfl rfl ?_
  refine x_iconst (v := 0) rfl ki_0 ?_
  refine z_putI (N := 13) (w := 0) 11 12 rfl f_11_94 rfl (jfin_no TX11 RX11 13 rfl rfl) dy_k J Sm rfl rfl jk_0 (pw_31_12 (by omega)) rfl (fun h3 w13 J Sm => ?_)
  refine x_aloadn (x := 31) rfl rfl ?_
  refine z_getR (N := 13) (b := 32) 11 0 rfl f_11_10 rfl J rfl 3968 ⟨rfl, rfl⟩ rfl ?_
  refine x_dup rfl rfl ?_
  refine z_getI0 (N := 20) 1 19 rfl f_11_528 rfl J rfl (fun v14 qv14 => ?_)
  refine x_iconst (v := 1) rfl ki_1 ?_
  refine z_iaddW rfl rfl jk_1 (fun v15 ev15 => ?_)
  refine z_putI (N := 20) (w := v15.toInt) 1 19 rfl f_11_528 rfl (jfin_no TX1 RX1 20 rfl rfl) dy_k J Sm rfl rfl rfl (pw_32_19 trivial) rfl (fun h4 w16 J Sm => ?_)
  refine x_iloadn (x := 0) rfl rfl ?_
  refine x_iret rfl rfl ?_
  refine x_iret rfl rfl ?_
  exact hQ _ J ⟨Sm, fun b j => by rw [w16, w13]; exact ⟨rfl, rfl⟩⟩ (by
    rw [vrf (jmb_w w13 qv14 rfl), ← ev15, vwf w13 jk_0.symm, vwf w16 rfl])
set_option maxRecDepth 100000 in
set_option maxHeartbeats 4000000 in
theorem imx_41D {h0 h : jH} {Q : Option Value → jH → Prop} {d a K S k n : Nat} {l1 : Int32} (hk : k ≤ K) (hs : n ≤ S) (hd : 3 ≤ d) (J : jJ jSgX jDy h) (y1 : 0 ≤ l1.toInt ∧ l1.toInt ≤ 3) (q : jrv h 67 l1.toNatClampNeg = some a) (hQ : ∀ g h2, jCd a 32 h g → jJ jSgX jDy h2 → jIq l1 h h2 → vu (vu (vw g) 31 12 0) 32 19 (j_iadd ((vw g).1 32 19) 1) = vw h2 → Q (some (.int 0)) h2) : jX m_X11_image d K S 41 [(0, .ref 31), (1, .int l1), (2, .ref a)] [] h k n Q := by
  have e1 := jcl_of y1.1
  have I := J.2.2.2.1 _ a (by omega) q
  have a4 := I.1.1
  refine x_aloadn (x := a) rfl rfl ?_
  refine x_aloadn (x := 31) rfl rfl ?_
  refine z_getR (N := 13) (b := 32) 11 0 rfl f_11_10 rfl J rfl 3968 ⟨rfl, rfl⟩ rfl ?_
  refine x_inv (N := m_X1_copyFrom) (As := [.ref 32]) (b := a) (st := []) (dx9 := 2) (mc := 0) (ms := 0) (host := "") 1 rfl t_X1_copyFrom ⟨Or.inl q_11_524, i_X1_copyFrom.1, i_X1_copyFrom.2⟩ ⟨by decide, rfl⟩ (congrArg Prod.fst I.2.1.2.1) rfl (by omega) rfl rfl ⟨hk, hs⟩ (ch_copy (by decide) (img_bk I) (told_bk J) (by omega) (by decide) (Or.inr (by omega)) (fun h2 C => ?_))
  obtain ⟨J2, U⟩ := cd_ji J (by omega) q C
  have J := J2
  have key : ∀ h4, jSx2 h2 h4 → jIq l1 h h4 := fun h4 S0 => by
    have S := S0.1
    have f : ∀ b k, b < 174 → b ≠ 31 → b ≠ 32 → jiv h4 b k = jiv h2 b k ∧ jlv h4 b k = jlv h2 b k ∧ jrv h4 b k = jrv h2 b k := fun b k hb n1 n2 => S.2.2 b k (Or.inl (Nat.blt_eq.mpr hb)) (by show (Nat.beq 31 b && Nat.ble 12 k && Nat.blt k 13 || (Nat.beq 32 b && Nat.ble 19 k && Nat.blt k 20 || false)) = false; rw [jbne (a := 31) (b := b) (fun z => n1 z.symm), jbne (a := 32) (b := b) (fun z => n2 z.symm)]; rfl)
    have r : ∀ b k, b < 174 → jlv h4 b k = jlv h2 b k ∧ jrv h4 b k = jrv h2 b k := fun b k _ => S0.2 b k
    exact ⟨Nat.le_trans U.1 S.1, fun b hb => (S.2.1 b (Or.inl (Nat.blt_eq.mpr hb))).trans (U.2 b hb).1, fun b hb n1 n2 k => (f b k hb n1 n2).1.trans ((U.2 b hb).2.1 k), fun b hb k => (r b k hb).1.trans ((U.2 b hb).2.2.1 k), fun b hb k _ => (r b k hb).2.trans ((U.2 b hb).2.2.2 k), a, ((r 67 _ (by decide)).2.trans ((U.2 67 (by decide)).2.2.2 _)).trans q⟩
  exact imx_accD hk hs hd J (fun h4 J4 S4 X4 => hQ h2 h4 C J4 (key h4 S4) X4)
set_option maxRecDepth 100000 in
set_option maxHeartbeats 4000000 in
theorem sf_X11_imageD_bad {h : jH} {Q : Option Value → jH → Prop} {a1 : Int32} (J : jJ jSgX jDy h) (y : a1.toInt < 0 ∨ 3 < a1.toInt) (hQ : ∀ h2, jJ jSgX jDy h2 → jSm [(31, 12, 13)] h h2 → (∀ b k, jlv h2 b k = jlv h b k ∧ jrv h2 b k = jrv h b k) → imX a1.toInt (vw h) (-1, vw h2) → Q (some (.int (-1))) h2) : jC m_X11_image 4 0 0 [.ref 31, .int a1] h Q := by
  refine jC.of rfl k_X11_image rfl ?_
  have ea1 := jfull a1
  show jX m_X11_image 4 0 0 0 [(0, .ref 31), (1, .int a1)] [] _ 0 0 _
  refine x_iloadn (x := a1) rfl rfl ?_
  refine x_iconst (v := 0) rfl ki_0 ?_
  refine x_iconst (v := 3) rfl ki_3 ?_
  refine x_inst (N := m_X11_isWithin) (As := [.int a1, .int 0, .int 3]) (st := []) (dx9 := 1) (mc := 0) (ms := 0) (host := "") rfl t_X11_isWithin ⟨Or.inl q_11_202, s_X11_isWithin⟩ rfl (by decide) rfl rfl ⟨by decide, by decide⟩ (zc_X11_isWithin rfl jk_0 jk_3 (fun v3 ev3 => ?_))
  show jX m_X11_image 4 0 0 6 [(0, .ref 31), (1, .int a1)] [.int v3] _ 0 0 _
  refine x_ifne (tgt := 15) rfl rfl (ti_ne rfl jk_0 (bn_f (by omega) ?_))
  have Sm := jSm_rf [(31, 12, 13)] h
  refine x_aloadn (x := 31) rfl rfl ?_
  refine x_iconst (v := (-1)) rfl ki_m1 ?_
  refine x_inv (N := m_X11_refuse) (As := [.int (-1)]) (b := 31) (st := []) (dx9 := 1) (mc := 0) (ms := 0) (host := "") 11 rfl t_X11_refuse ⟨Or.inl q_11_206, i_X11_refuse.1, i_X11_refuse.2⟩ ⟨by decide, rfl⟩ (congrArg Prod.fst (J.1.1 31 (11, 13) rfl)) rfl (by decide) rfl rfl ⟨by decide, by decide⟩ (jC.of rfl k_X11_refuse rfl ?_)
  show jX m_X11_refuse 1 0 0 0 [(0, .ref 31), (1, .int (-1))] [] _ 0 0 _
  refine x_aloadn (x := 31) rfl rfl ?_
  refine x_iloadn (x := (-1)) rfl rfl ?_
  refine z_putI (N := 13) (w := (-1)) 11 12 rfl f_11_94 rfl (jfin_no TX11 RX11 13 rfl rfl) dy_k J Sm rfl rfl jk_m1 (pw_31_12 (by omega)) rfl (fun h2 w1 J Sm => ?_)
  refine x_iloadn (x := (-1)) rfl rfl ?_
  refine x_iret rfl rfl ?_
  refine x_iret rfl rfl ?_
  exact hQ _ J Sm (fun b k => by rw [w1]; exact ⟨rfl, rfl⟩) (Or.inl ⟨by omega, by rw [vwf w1 jk_m1.symm]⟩)
set_option maxRecDepth 100000 in
set_option maxHeartbeats 4000000 in
theorem sf_X11_imageD_old {h : jH} {Q : Option Value → jH → Prop} {a1 : Int32} {a : Nat} (J : jJ jSgX jDy h) (y : 0 ≤ a1.toInt ∧ a1.toInt ≤ 3) (q : jrv h 67 a1.toNatClampNeg = some a) (N : pNxt (vw h)) (hQ : ∀ h2, jJ jSgX jDy h2 → jIq a1 h h2 → imX a1.toInt (vw h) (0, vw h2) → Q (some (.int 0)) h2) : jC m_X11_image 4 0 0 [.ref 31, .int a1] h Q := by
  refine jC.of rfl k_X11_image rfl ?_
  have ea1 := jfull a1
  show jX m_X11_image 4 0 0 0 [(0, .ref 31), (1, .int a1)] [] _ 0 0 _
  refine x_iloadn (x := a1) rfl rfl ?_
  refine x_iconst (v := 0) rfl ki_0 ?_
  refine x_iconst (v := 3) rfl ki_3 ?_
  refine x_inst (N := m_X11_isWithin) (As := [.int a1, .int 0, .int 3]) (st := []) (dx9 := 1) (mc := 0) (ms := 0) (host := "") rfl t_X11_isWithin ⟨Or.inl q_11_202, s_X11_isWithin⟩ rfl (by decide) rfl rfl ⟨by decide, by decide⟩ (zc_X11_isWithin rfl jk_0 jk_3 (fun v3 ev3 => ?_))
  show jX m_X11_image 4 0 0 6 [(0, .ref 31), (1, .int a1)] [.int v3] _ 0 0 _
  refine x_ifne (tgt := 15) rfl rfl (ti_ne rfl jk_0 (bn_t (by omega) ?_))
  refine x_aloadn (x := 31) rfl rfl ?_
  refine z_getR (N := 13) (b := 67) 11 1 rfl f_11_16 rfl J rfl 3969 ⟨rfl, rfl⟩ rfl ?_
  refine x_iloadn (x := a1) rfl rfl ?_
  refine y_aaldR (N := 4) 104 a1.toNatClampNeg rfl (J.1.1 67 (104, 4) rfl) (by decide) (vpi (by omega)) rfl q ?_
  refine x_astoren (lsx9 := [(2, .ref a), (0, .ref 31), (1, .int a1)]) rfl rfl rfl ?_
  refine x_aloadn (x := a) rfl rfl ?_
  refine x_ifnonnull (tgt := 41) rfl rfl ?_
  exact jX.sub (jsb_c rfl (jsb_c rfl (jsb_c rfl jsb_n))) (imx_41D (h0 := h) (by decide) (by decide) (by decide) J y q (fun g h2 C J2 I X => hQ h2 J2 I (Or.inr ⟨y, vw g, im_So (J.2.2.2.1 _ a (by have := jcl_of y.1; omega) q).1 N y.1 q C, by
    unfold pAx
    rw [show (vw h).1 32 19 = (vw g).1 32 19 from (congrArg Int32.toInt (C.2.2.2.2.2.2.2.1 32 (by have := (J.2.2.2.1 _ a (by have := jcl_of y.1; omega) q).1.1; omega) 19)).symm, X]⟩)))
set_option maxRecDepth 100000 in
set_option maxHeartbeats 4000000 in
theorem sf_X11_imageD_new {h : jH} {Q : Option Value → jH → Prop} {a1 : Int32} (J : jJ jSgX jDy h) (y : 0 ≤ a1.toInt ∧ a1.toInt ≤ 3) (q : jrv h 67 a1.toNatClampNeg = none) (N : pNxt (vw h)) (hQ : ∀ h2, jJ jSgX jDy h2 → jIq a1 h h2 → imX a1.toInt (vw h) (0, vw h2) → Q (some (.int 0)) h2) : jC m_X11_image 4 35 24594 [.ref 31, .int a1] h Q := by
  refine jC.of rfl k_X11_image rfl ?_
  have ea1 := jfull a1
  show jX m_X11_image 4 35 24594 0 [(0, .ref 31), (1, .int a1)] [] _ 0 0 _
  refine x_iloadn (x := a1) rfl rfl ?_
  refine x_iconst (v := 0) rfl ki_0 ?_
  refine x_iconst (v := 3) rfl ki_3 ?_
  refine x_inst (N := m_X11_isWithin) (As := [.int a1, .int 0, .int 3]) (st := []) (dx9 := 1) (mc := 0) (ms := 0) (host := "") rfl t_X11_isWithin ⟨Or.inl q_11_202, s_X11_isWithin⟩ rfl (by decide) rfl rfl ⟨by decide, by decide⟩ (zc_X11_isWithin rfl jk_0 jk_3 (fun v3 ev3 => ?_))
  show jX m_X11_image 4 35 24594 6 [(0, .ref 31), (1, .int a1)] [.int v3] _ 0 0 _
  refine x_ifne (tgt := 15) rfl rfl (ti_ne rfl jk_0 (bn_t (by omega) ?_))
  refine x_aloadn (x := 31) rfl rfl ?_
  refine z_getR (N := 13) (b := 67) 11 1 rfl f_11_16 rfl J rfl 3969 ⟨rfl, rfl⟩ rfl ?_
  refine x_iloadn (x := a1) rfl rfl ?_
  refine y_aaldN (N := 4) 104 a1.toNatClampNeg rfl (J.1.1 67 (104, 4) rfl) (by decide) (vpi (by omega)) rfl q ?_
  refine x_astorenN (lsx9 := [(2, .null), (0, .ref 31), (1, .int a1)]) rfl rfl rfl ?_
  refine x_aloadnN rfl rfl ?_
  refine x_ifnonnullN rfl ?_
  have x := J.2.2.1.1
  have e1 := jcl_of y.1
  refine x_new 1 20 rfl v_11_7 ⟨by decide, by decide⟩ ?_
  refine x_dup rfl rfl ?_
  refine x_ins (N := m_X1_init) (As := []) (b := jnx h) (st := [.ref (jnx h)]) (dx9 := 2) (mc := 34) (ms := 24574) (host := "ParishChest") rfl t_X1_init ⟨Or.inr q_11_9, i_X1_init, rfl, rfl⟩ rfl (by decide) rfl rfl ⟨by decide, by decide⟩ (ch_init (by decide) (Nat.ble_eq.mpr (by omega)) jBd_0 (fun h1 C => ?_))
  show jX m_X11_image 4 35 24594 33 [(2, .null), (0, .ref 31), (1, .int a1)] [.ref (jnx h)] h1 35 24594 Q
  refine x_astoren (lsx9 := [(2, .ref (jnx h)), (0, .ref 31), (1, .int a1)]) rfl rfl rfl ?_
  obtain ⟨J2, o⟩ := ch_j J C (k := a1.toNatClampNeg) (by omega)
  refine x_aloadn (x := 31) rfl rfl ?_
  refine x_getR (b := 67) 11 1 rfl f_11_16 rfl (congrArg Prod.fst ((o 31 (by decide)).1.trans (J.1.1 31 (11, 13) rfl))) (((o 31 (by decide)).2.2.2 1).trans (J.1.2 3969 67 rfl)) ?_
  refine x_iloadn (x := a1) rfl rfl ?_
  refine x_aloadn (x := jnx h) rfl rfl ?_
  refine x_aast (N := 4) rfl ((o 67 (by decide)).1.trans (J.1.1 67 (104, 4) rfl)) (by decide) rfl (congrArg Prod.fst C.2.2.1) (vpi (by omega)) ?_
  refine jX.sub (jsb_c rfl (jsb_c rfl (jsb_c rfl jsb_n))) (imx_41D (h0 := h) (by decide) (by decide) (by decide) J2 y rv_eq (fun g h2 C2 J3 I X => hQ h2 J3 ?_ (Or.inr ⟨y, vw g, im_Sn C x q y.1 C2, by
    unfold pAx
    rw [show (vw h).1 32 19 = (vw g).1 32 19 from (congrArg Int32.toInt ((C2.2.2.2.2.2.2.2.1 32 (by omega) 19).trans (((o 32 (by decide)).2.1) 19))).symm, X]⟩)))
  obtain ⟨i1, i2, i3, i4, i5, i6⟩ := I
  have nx : jnx h1 = jnx h + 35 := C.1
  refine ⟨Nat.le_trans (by show jnx h ≤ jnx h1; omega) i1, fun b hb => (i2 b hb).trans (o b hb).1, fun b hb n1 n2 k => (i3 b hb n1 n2 k).trans ((o b hb).2.1 k), fun b hb k => (i4 b hb k).trans ((o b hb).2.2.1 k), fun b hb k n => ?_, i6⟩
  refine (i5 b hb k n).trans (Eq.trans ?_ ((o b hb).2.2.2 k))
  rcases n with n | n
  · exact rv_sn n
  · exact rv_sk n
