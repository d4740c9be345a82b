/-! image of the class, with what it keeps -/
set_option maxRecDepth 100000 in
set_option maxHeartbeats 4000000 in
theorem imx_41p {h : jH} {Q : Option Value → jH → Prop} {d a K S k n : Nat} {l1 : Int32} (hk : k ≤ K) (hs : n ≤ S) (hd : 3 ≤ d) (J : jJ jSgX jDy h) (y1 : 0 ≤ l1.toInt ∧ l1.toInt ≤ 3) (q : jrv h 67 l1.toNatClampNeg = some a) (N : jNj h) (hQ : ∀ h2, jJ jSgX jDy h2 → jIq l1 h h2 → jIp l1 h h2 → Q (some (.int 0)) h2) : jX m_X11_image d K S 41 [(0, .ref 31), (1, .int l1), (2, .ref a)] [] h k n Q := by
  have e1 := jcl_of y1.1
  have I := J.2.2.2.1 _ a (by omega) q
  have a4 := I.1.1
  refine x_aloadn (x := a) rfl rfl ?_
  refine x_aloadn (x := 31) rfl rfl ?_
  refine z_getR (N := 13) (b := 32) 11 0 rfl f_11_10 rfl J rfl 3968 ⟨rfl, rfl⟩ rfl ?_
  refine x_inv (N := m_X1_copyFrom) (As := [.ref 32]) (b := a) (st := []) (dx9 := 2) (mc := 0) (ms := 0) (host := "") 1 rfl t_X1_copyFrom ⟨Or.inl q_11_524, i_X1_copyFrom.1, i_X1_copyFrom.2⟩ ⟨by decide, rfl⟩ (congrArg Prod.fst I.2.1.2.1) rfl (by omega) rfl rfl ⟨hk, hs⟩ (ch_copy (by decide) (img_bk I) (told_bk J) (by omega) (by decide) (Or.inr (by omega)) (fun h2 C => ?_))
  obtain ⟨J2, U⟩ := cd_ji J (by omega) q C
  have J0 := J
  have J := J2
  have key : ∀ h4, jSx2 h2 h4 → jIq l1 h h4 := fun h4 S0 => by
    have S := S0.1
    have f : ∀ b k, b < 174 → b ≠ 31 → b ≠ 32 → jiv h4 b k = jiv h2 b k ∧ jlv h4 b k = jlv h2 b k ∧ jrv h4 b k = jrv h2 b k := fun b k hb n1 n2 => S.2.2 b k (Or.inl (Nat.blt_eq.mpr hb)) (by show (Nat.beq 31 b && Nat.ble 12 k && Nat.blt k 13 || (Nat.beq 32 b && Nat.ble 19 k && Nat.blt k 20 || false)) = false; rw [jbne (a := 31) (b := b) (fun z => n1 z.symm), jbne (a := 32) (b := b) (fun z => n2 z.symm)]; rfl)
    have r : ∀ b k, b < 174 → jlv h4 b k = jlv h2 b k ∧ jrv h4 b k = jrv h2 b k := fun b k _ => S0.2 b k
    exact ⟨Nat.le_trans U.1 S.1, fun b hb => (S.2.1 b (Or.inl (Nat.blt_eq.mpr hb))).trans (U.2 b hb).1, fun b hb n1 n2 k => (f b k hb n1 n2).1.trans ((U.2 b hb).2.1 k), fun b hb k => (r b k hb).1.trans ((U.2 b hb).2.2.1 k), fun b hb k _ => (r b k hb).2.trans ((U.2 b hb).2.2.2 k), a, ((r 67 _ (by decide)).2.trans ((U.2 67 (by decide)).2.2.2 _)).trans q⟩
  have key2 : ∀ h4, jSx2 h2 h4 → jIp l1 h h4 := fun h4 S0 => by
    have S := S0.1
    have n2 : jnx h2 = jnx h := C.1
    have up : ∀ b, 174 ≤ b → b < jnx h → jiv h4 b = jiv h2 b := fun b b1 b2 => funext fun k => (S.2.2 b k (Or.inr (by omega)) (by show (Nat.beq 31 b && Nat.ble 12 k && Nat.blt k 13 || (Nat.beq 32 b && Nat.ble 19 k && Nat.blt k 20 || false)) = false; rw [jbne (a := 31) (b := b) (by omega), jbne (a := 32) (b := b) (by omega)]; rfl)).1
    have a5 := I.1.2
    refine ⟨a, ((S0.2 67 _).2.trans ((U.2 67 (by decide)).2.2.2 _)).trans q, cp_m (cp_0 C) (fun b b1 b2 => up b (by omega) (by omega)), fun k b hk nk qb => ?_⟩
    have I2 := J0.2.2.2.1 k b hk qb
    have b5 := I2.1
    have ne : b ≠ a := fun z => nk (N k _ a hk (by omega) (z ▸ qb) q)
    have dis := is_dis I.2.1 I2.2.1 ne
    exact ⟨ne, fun i hi => by rw [up _ (by omega) (by omega)]; exact funext fun k => C.2.2.2.2.2.2.2.1 (b + i) (by omega) k⟩
  exact imx_acc hk hs hd J (fun h4 J4 S4 => hQ h4 J4 (key h4 S4) (key2 h4 S4))
set_option maxRecDepth 100000 in
set_option maxHeartbeats 4000000 in
theorem sf_X11_image_oldp {h : jH} {Q : Option Value → jH → Prop} {a1 : Int32} {a : Nat} (J : jJ jSgX jDy h) (y : 0 ≤ a1.toInt ∧ a1.toInt ≤ 3) (q : jrv h 67 a1.toNatClampNeg = some a) (N : jNj h) (hQ : ∀ h2, jJ jSgX jDy h2 → jIq a1 h h2 → jIp a1 h h2 → Q (some (.int 0)) h2) : jC m_X11_image 4 0 0 [.ref 31, .int a1] h Q := by
  refine jC.of rfl k_X11_image rfl ?_
  have ea1 := jfull a1
  show jX m_X11_image 4 0 0 0 [(0, .ref 31), (1, .int a1)] [] _ 0 0 _
  refine x_iloadn (x := a1) rfl rfl ?_
  refine x_iconst (v := 0) rfl ki_0 ?_
  refine x_iconst (v := 3) rfl ki_3 ?_
  refine x_inst (N := m_X11_isWithin) (As := [.int a1, .int 0, .int 3]) (st := []) (dx9 := 1) (mc := 0) (ms := 0) (host := "") rfl t_X11_isWithin ⟨Or.inl q_11_202, s_X11_isWithin⟩ rfl (by decide) rfl rfl ⟨by decide, by decide⟩ (zc_X11_isWithin rfl jk_0 jk_3 (fun v3 ev3 => ?_))
  show jX m_X11_image 4 0 0 6 [(0, .ref 31), (1, .int a1)] [.int v3] _ 0 0 _
  refine x_ifne (tgt := 15) rfl rfl (ti_ne rfl jk_0 (bn_t (by omega) ?_))
  refine x_aloadn (x := 31) rfl rfl ?_
  refine z_getR (N := 13) (b := 67) 11 1 rfl f_11_16 rfl J rfl 3969 ⟨rfl, rfl⟩ rfl ?_
  refine x_iloadn (x := a1) rfl rfl ?_
  refine y_aaldR (N := 4) 104 a1.toNatClampNeg rfl (J.1.1 67 (104, 4) rfl) (by decide) (vpi (by omega)) rfl q ?_
  refine x_astoren (lsx9 := [(2, .ref a), (0, .ref 31), (1, .int a1)]) rfl rfl rfl ?_
  refine x_aloadn (x := a) rfl rfl ?_
  refine x_ifnonnull (tgt := 41) rfl rfl ?_
  exact jX.sub (jsb_c rfl (jsb_c rfl (jsb_c rfl jsb_n))) (imx_41p (by decide) (by decide) (by decide) J y q N hQ)
set_option maxRecDepth 100000 in
set_option maxHeartbeats 4000000 in
theorem sf_X11_image_newp {h : jH} {Q : Option Value → jH → Prop} {a1 : Int32} (J : jJ jSgX jDy h) (y : 0 ≤ a1.toInt ∧ a1.toInt ≤ 3) (q : jrv h 67 a1.toNatClampNeg = none) (N : jNj h) (hQ : ∀ h2, jJ jSgX jDy h2 → jIq a1 h h2 → jIp a1 h h2 → Q (some (.int 0)) h2) : jC m_X11_image 4 35 24594 [.ref 31, .int a1] h Q := by
  refine jC.of rfl k_X11_image rfl ?_
  have ea1 := jfull a1
  show jX m_X11_image 4 35 24594 0 [(0, .ref 31), (1, .int a1)] [] _ 0 0 _
  refine x_iloadn (x := a1) rfl rfl ?_
  refine x_iconst (v := 0) rfl ki_0 ?_
  refine x_iconst (v := 3) rfl ki_3 ?_
  refine x_inst (N := m_X11_isWithin) (As := [.int a1, .int 0, .int 3]) (st := []) (dx9 := 1) (mc := 0) (ms := 0) (host := "") rfl t_X11_isWithin ⟨Or.inl q_11_202, s_X11_isWithin⟩ rfl (by decide) rfl rfl ⟨by decide, by decide⟩ (zc_X11_isWithin rfl jk_0 jk_3 (fun v3 ev3 => ?_))
  show jX m_X11_image 4 35 24594 6 [(0, .ref 31), (1, .int a1)] [.int v3] _ 0 0 _
  refine x_ifne (tgt := 15) rfl rfl (ti_ne rfl jk_0 (bn_t (by omega) ?_))
  refine x_aloadn (x := 31) rfl rfl ?_
  refine z_getR (N := 13) (b := 67) 11 1 rfl f_11_16 rfl J rfl 3969 ⟨rfl, rfl⟩ rfl ?_
  refine x_iloadn (x := a1) rfl rfl ?_
  refine y_aaldN (N := 4) 104 a1.toNatClampNeg rfl (J.1.1 67 (104, 4) rfl) (by decide) (vpi (by omega)) rfl q ?_
  refine x_astorenN (lsx9 := [(2, .null), (0, .ref 31), (1, .int a1)]) rfl rfl rfl ?_
  refine x_aloadnN rfl rfl ?_
  refine x_ifnonnullN rfl ?_
  have x := J.2.2.1.1
  have e1 := jcl_of y.1
  refine x_new 1 20 rfl v_11_7 ⟨by decide, by decide⟩ ?_
  refine x_dup rfl rfl ?_
  refine x_ins (N := m_X1_init) (As := []) (b := jnx h) (st := [.ref (jnx h)]) (dx9 := 2) (mc := 34) (ms := 24574) (host := "ParishChest") rfl t_X1_init ⟨Or.inr q_11_9, i_X1_init, rfl, rfl⟩ rfl (by decide) rfl rfl ⟨by decide, by decide⟩ (ch_init (by decide) (Nat.ble_eq.mpr (by omega)) jBd_0 (fun h1 C => ?_))
  show jX m_X11_image 4 35 24594 33 [(2, .null), (0, .ref 31), (1, .int a1)] [.ref (jnx h)] h1 35 24594 Q
  refine x_astoren (lsx9 := [(2, .ref (jnx h)), (0, .ref 31), (1, .int a1)]) rfl rfl rfl ?_
  obtain ⟨J2, o⟩ := ch_j J C (k := a1.toNatClampNeg) (by omega)
  refine x_aloadn (x := 31) rfl rfl ?_
  refine x_getR (b := 67) 11 1 rfl f_11_16 rfl (congrArg Prod.fst ((o 31 (by decide)).1.trans (J.1.1 31 (11, 13) rfl))) (((o 31 (by decide)).2.2.2 1).trans (J.1.2 3969 67 rfl)) ?_
  refine x_iloadn (x := a1) rfl rfl ?_
  refine x_aloadn (x := jnx h) rfl rfl ?_
  refine x_aast (N := 4) rfl ((o 67 (by decide)).1.trans (J.1.1 67 (104, 4) rfl)) (by decide) rfl (congrArg Prod.fst C.2.2.1) (vpi (by omega)) ?_
  have rs : ∀ m b, m ≠ a1.toNatClampNeg → jrv (jsr h1 67 a1.toNatClampNeg (some (jnx h))) 67 m = some b → jrv h 67 m = some b := fun m b nm qm => by
    rw [rv_sk nm] at qm
    exact ((o 67 (by decide)).2.2.2 m).symm.trans qm
  have N2 : jNj (jsr h1 67 a1.toNatClampNeg (some (jnx h))) := fun m l b hm hl q1 q2 => by
    by_cases z1 : m = a1.toNatClampNeg
    · by_cases z2 : l = a1.toNatClampNeg
      · exact z1.trans z2.symm
      · exfalso
        have u := (J.2.2.2.1 l b hl (rs l b z2 q2)).1
        rw [z1, rv_eq] at q1
        injection q1 with q1
        omega
    · by_cases z2 : l = a1.toNatClampNeg
      · exfalso
        have u := (J.2.2.2.1 m b hm (rs m b z1 q1)).1
        rw [z2, rv_eq] at q2
        injection q2 with q2
        omega
      · exact N m l b hm hl (rs m b z1 q1) (rs l b z2 q2)
  refine jX.sub (jsb_c rfl (jsb_c rfl (jsb_c rfl jsb_n))) (imx_41p (by decide) (by decide) (by decide) J2 y rv_eq N2 (fun h2 J3 I Ip => hQ h2 J3 ?_ ?_))
  · obtain ⟨i1, i2, i3, i4, i5, i6⟩ := I
    have nx : jnx h1 = jnx h + 35 := C.1
    refine ⟨Nat.le_trans (by show jnx h ≤ jnx h1; omega) i1, fun b hb => (i2 b hb).trans (o b hb).1, fun b hb n1 n2 k => (i3 b hb n1 n2 k).trans ((o b hb).2.1 k), fun b hb k => (i4 b hb k).trans ((o b hb).2.2.1 k), fun b hb k n => ?_, i6⟩
    refine (i5 b hb k n).trans (Eq.trans ?_ ((o b hb).2.2.2 k))
    rcases n with n | n
    · exact rv_sn n
    · exact rv_sk n
  · obtain ⟨b, p1, p2, p3⟩ := Ip
    refine ⟨b, p1, fun f hf => ?_, fun k c hk nk qc => ?_⟩
    · have e := p2 f hf
      have o1 : ∀ k, jiv (jsr h1 67 a1.toNatClampNeg (some (jnx h))) (32 + 1 + 2 * f) k = jiv h (32 + 1 + 2 * f) k := (o (32 + 1 + 2 * f) (by omega)).2.1
      have o2 : ∀ k, jiv (jsr h1 67 a1.toNatClampNeg (some (jnx h))) (32 + 2 + 2 * f) k = jiv h (32 + 2 + 2 * f) k := (o (32 + 2 + 2 * f) (by omega)).2.1
      refine ⟨e.1.trans (o1 3), fun k hk => (e.2 k ?_).trans (o2 k)⟩
      unfold ju8 at hk ⊢
      rw [o1 3]
      exact hk
    · have u := (J.2.2.2.1 k c hk qc).1
      have w := p3 k c hk nk ((rv_sk nk).trans (((o 67 (by decide)).2.2.2 k).trans qc))
      refine ⟨w.1, fun i hi => (w.2 i hi).trans (funext fun j => ?_)⟩
      exact (C.2.1 (c + i) (by omega)).2.1 j
