def fp_X12_readPlain_r125 : jFp := [(125, 9, 10), (125, 10, 11), (125, 11, 12), (125, 12, 13), (125, 13, 14), (125, 14, 15), (125, 49, 50), (125, 52, 53), (125, 55, 56), (125, 56, 57), (148, 0, 400), (149, 0, 400), (150, 0, 400), (151, 0, 400)]
set_option maxRecDepth 100000 in
set_option maxHeartbeats 4000000 in
theorem ct_X12_readPlain_r125_91 {Dy : jH → Prop} {h0 : jH} {Q : Option Value → jH → Prop} {A : Nat} (hA : jTu 0 h0 A 0) (hN : (jiv h0 125 14).toInt ≠ 0 ∨ jNsq h0) (hD : jDk Dy) (hQ : ∀ (v : Int32) hx9, 0 ≤ v.toInt ∧ v.toInt ≤ 3 → jJ jSgM Dy hx9 → jSm fp_X12_readPlain_r125 h0 hx9 → ∀ u0 u1 u2 : Int32, jiv hx9 125 10 = u0 → jiv hx9 125 8 = u1 → jiv hx9 125 9 = u2 → (u0.toInt ≤ u1.toInt ∧ u2.toInt ≤ u0.toInt) → ∀ u3 u4 u5 : Int32, jiv hx9 125 11 = u3 → jiv hx9 125 9 = u4 → jiv hx9 125 10 = u5 → (u3.toInt = 0 ∨ u4.toInt + 1 ≤ u5.toInt) → (jTn A v.toInt hx9 ∧ jFm 1 A h0 hx9) → Q (some (.int v)) hx9) : ∀ (g0 : Int32) (g1 : Int32) (g2 : Int32) (g3 : Int32) (h : jH), 0 ≤ g0.toInt ∧ g0.toInt ≤ 400 → 0 ≤ g1.toInt ∧ g1.toInt ≤ 3 → 0 ≤ g2.toInt ∧ g2.toInt ≤ 400 → 0 ≤ g3.toInt ∧ g3.toInt ≤ 400 → (jTn A 2 h ∧ jFm 1 A h0 h) → (g0.toInt ≤ g2.toInt ∧ g3.toInt ≤ g0.toInt) → (g1.toInt = 0 ∨ g3.toInt + 1 ≤ g0.toInt) → jiv h 125 10 = g0 → jiv h 125 11 = g1 → jiv h 125 8 = g2 → jiv h 125 9 = g3 → jJ jSgM Dy h → jSm fp_X12_readPlain_r125 h0 h → jX m_X12_readPlain 6 0 0 91 [] [] h 0 0 Q := by
  intro g0 g1 g2 g3 h y0 y1 y2 y3 C0 y5 y6 z0 z1 z2 z3  J Sm
  refine x_iconst (v := 2) rfl ki_2 ?_
  refine x_iret rfl rfl ?_
  exact hQ _ _ (jr_of jk_2 (by omega)) J Sm _ _ _ z0 z2 z3 (by omega) _ _ _ z1 z3 z0 (by omega) (by rw [jk_2]; exact C0)
set_option maxRecDepth 100000 in
set_option maxHeartbeats 4000000 in
theorem ct_X12_readPlain_r125_200065 {Dy : jH → Prop} {h0 : jH} {Q : Option Value → jH → Prop} {A : Nat} (hA : jTu 0 h0 A 0) (hN : (jiv h0 125 14).toInt ≠ 0 ∨ jNsq h0) (hD : jDk Dy) (hQ : ∀ (v : Int32) hx9, 0 ≤ v.toInt ∧ v.toInt ≤ 3 → jJ jSgM Dy hx9 → jSm fp_X12_readPlain_r125 h0 hx9 → ∀ u0 u1 u2 : Int32, jiv hx9 125 10 = u0 → jiv hx9 125 8 = u1 → jiv hx9 125 9 = u2 → (u0.toInt ≤ u1.toInt ∧ u2.toInt ≤ u0.toInt) → ∀ u3 u4 u5 : Int32, jiv hx9 125 11 = u3 → jiv hx9 125 9 = u4 → jiv hx9 125 10 = u5 → (u3.toInt = 0 ∨ u4.toInt + 1 ≤ u5.toInt) → (jTn A v.toInt hx9 ∧ jFm 1 A h0 hx9) → Q (some (.int v)) hx9) : ∀ (l1 : Int32) (g0 : Int32) (g1 : Int32) (g2 : Int32) (g3 : Int32) (h : jH), 13 ≤ l1.toInt ∧ l1.toInt ≤ 17 → 0 ≤ g0.toInt ∧ g0.toInt ≤ 400 → 1 ≤ g1.toInt ∧ g1.toInt ≤ 1 → 0 ≤ g2.toInt ∧ g2.toInt ≤ 400 → 0 ≤ g3.toInt ∧ g3.toInt ≤ 400 → jSa h0 h → (g0.toInt ≤ g2.toInt ∧ g3.toInt ≤ g0.toInt) → (g1.toInt = 0 ∨ g3.toInt + 1 ≤ g0.toInt) → jiv h 125 10 = g0 → jiv h 125 11 = g1 → jiv h 125 8 = g2 → jiv h 125 9 = g3 → jJ jSgM Dy h → jSm fp_X12_readPlain_r125 h0 h → jX m_X12_readPlain 6 0 0 65 [(0, .ref 125), (1, .int l1)] [.int 0, .ref 125] h 0 0 Q := by
  intro l1 g0 g1 g2 g3 h y0 y1 y2 y3 y4 C0 y6 y7 z0 z1 z2 z3  J Sm
  refine x_inv (N := m_X12_must) (As := [.int 0]) (b := 125) (st := []) (dx9 := 5) (mc := 0) (ms := 0) (host := "") 12 rfl t_X12_must ⟨Or.inl q_12_250, i_X12_must.1, i_X12_must.2⟩ ⟨by decide, rfl⟩ (congrArg Prod.fst (J.1.1 125 (12, 92) rfl)) rfl (by decide) rfl rfl ⟨by decide, by decide⟩ (jC.of rfl k_X12_must rfl ?_)
  show jX m_X12_must 5 0 0 0 [(0, .ref 125), (1, .int 0)] [] _ 0 0 _
  refine x_aloadn (x := 125) rfl rfl ?_
  refine z_getI (N := 92) 12 14 rfl f_12_214 rfl J rfl sg_125_14_15_1_0_1 (fun v1 qv1 ev1 => ?_)
  refine x_ifne (tgt := 24) rfl rfl (ti_ne rfl jk_0 ⟨fun c2 => ?_, fun c2 => ?_⟩)
  ·
    refine x_aloadn (x := 125) rfl rfl ?_
    refine z_getM (N := 92) (v := v1) 12 14 rfl f_12_214 rfl J rfl qv1 ?_
    refine x_ifne (tgt := 35) rfl rfl (ti_ne rfl jk_0 (bn_t (by omega) ?_))
    refine x_vret rfl rfl ?_
    show jX m_X12_readPlain 6 0 0 68 [(0, .ref 125), (1, .int l1)] [] _ 0 0 _
    refine x_aloadn (x := 125) rfl rfl ?_
    refine z_getM (N := 92) (v := v1) 12 14 rfl f_12_214 rfl J rfl qv1 ?_
    refine x_ifne (tgt := 91) rfl rfl (ti_ne rfl jk_0 (bn_t (by omega) ?_))
    exact jX.sub jsb_n (ct_X12_readPlain_r125_91 hA hN hD hQ  g0 g1 g2 g3 h (jr_of rfl (by omega)) (jr_of rfl (by omega)) (jr_of rfl (by omega)) (jr_of rfl (by omega)) (jmu_tb (jmu_bad hA C0.1 C0.2.1 C0.2.2.1 C0.2.2.2.1 C0.2.2.2.2.1 C0.2.2.2.2.2.1 C0.2.2.2.2.2.2.1 qv1 (by omega)) qv1 (by omega)) (by omega) (by omega) z0 z1 z2 z3 J Sm)
  ·
    refine x_iloadn (x := 0) rfl rfl ?_
    refine x_ifne (tgt := 24) rfl rfl (ti_ne jk_0 jk_0 (bn_f (by omega) ?_))
    refine x_aloadn (x := 125) rfl rfl ?_
    refine x_iconst (v := 1) rfl ki_1 ?_
    refine z_putZ (N := 92) (w := 1) 12 14 rfl f_12_214 rfl (jfin_no TX12 RX12 92 rfl rfl) hD J Sm rfl rfl jk_1 (by omega) (pw_125_14 (by omega)) rfl (fun h w3 J Sm => ?_)
    refine x_aloadn (x := 125) rfl rfl ?_
    refine x_aloadn (x := 125) rfl rfl ?_
    refine z_getM (N := 92) (v := g3) 12 9 rfl f_12_221 rfl J rfl (jmo w3 rfl z3) ?_
    refine z_putI (N := 92) (w := g3.toInt) 12 13 rfl f_12_32 rfl (jfin_no TX12 RX12 92 rfl rfl) hD J Sm rfl rfl rfl (pw_125_13 (by omega)) rfl (fun h w4 J Sm => ?_)
    refine x_aloadn (x := 125) rfl rfl ?_
    refine z_getM (N := 92) (v := 1) 12 14 rfl f_12_214 rfl J rfl (jmo w4 rfl (jmw w3)) ?_
    refine x_ifne (tgt := 35) rfl rfl (ti_ne jk_1 jk_0 (bn_t (by omega) ?_))
    refine x_vret rfl rfl ?_
    show jX m_X12_readPlain 6 0 0 68 [(0, .ref 125), (1, .int l1)] [] _ 0 0 _
    refine x_aloadn (x := 125) rfl rfl ?_
    refine z_getM (N := 92) (v := 1) 12 14 rfl f_12_214 rfl J rfl (jmo w4 rfl (jmw w3)) ?_
    refine x_ifne (tgt := 91) rfl rfl (ti_ne jk_1 jk_0 (bn_t (by omega) ?_))
    exact jX.sub jsb_n (ct_X12_readPlain_r125_91 hA hN hD hQ  g0 g1 g2 g3 h (jr_of rfl (by omega)) (jr_of rfl (by omega)) (jr_of rfl (by omega)) (jr_of rfl (by omega)) (jmu_tb (jmu_bad hA (jeq_o w4 rfl (jeq_o w3 rfl C0.1)) (jeq_o w4 rfl (jeq_o w3 rfl C0.2.1)) (jeq_o w4 rfl (jeq_o w3 rfl C0.2.2.1)) (jeq_o w4 rfl (jeq_o w3 rfl C0.2.2.2.1)) (jmo w4 rfl (jmo w3 rfl C0.2.2.2.2.1)) (jmo w4 rfl (jmo w3 rfl C0.2.2.2.2.2.1)) (jmo w4 rfl (jmo w3 rfl C0.2.2.2.2.2.2.1)) (jmo w4 rfl (jmw w3)) (by decide)) (jmo w4 rfl (jmw w3)) (by decide)) (by omega) (by omega) (jmo w4 rfl (jmo w3 rfl z0)) (jmo w4 rfl (jmo w3 rfl z1)) (jmo w4 rfl (jmo w3 rfl z2)) (jmo w4 rfl (jmo w3 rfl z3)) J Sm)
set_option maxRecDepth 100000 in
set_option maxHeartbeats 4000000 in
theorem ct_X12_readPlain_r125_300065 {Dy : jH → Prop} {h0 : jH} {Q : Option Value → jH → Prop} {A : Nat} (hA : jTu 0 h0 A 0) (hN : (jiv h0 125 14).toInt ≠ 0 ∨ jNsq h0) (hD : jDk Dy) (hQ : ∀ (v : Int32) hx9, 0 ≤ v.toInt ∧ v.toInt ≤ 3 → jJ jSgM Dy hx9 → jSm fp_X12_readPlain_r125 h0 hx9 → ∀ u0 u1 u2 : Int32, jiv hx9 125 10 = u0 → jiv hx9 125 8 = u1 → jiv hx9 125 9 = u2 → (u0.toInt ≤ u1.toInt ∧ u2.toInt ≤ u0.toInt) → ∀ u3 u4 u5 : Int32, jiv hx9 125 11 = u3 → jiv hx9 125 9 = u4 → jiv hx9 125 10 = u5 → (u3.toInt = 0 ∨ u4.toInt + 1 ≤ u5.toInt) → (jTn A v.toInt hx9 ∧ jFm 1 A h0 hx9) → Q (some (.int v)) hx9) : ∀ (l1 : Int32) (g0 : Int32) (g1 : Int32) (g2 : Int32) (g3 : Int32) (g4 : Int32) (h : jH), 13 ≤ l1.toInt ∧ l1.toInt ≤ 17 → 0 ≤ g0.toInt ∧ g0.toInt ≤ 400 → 1 ≤ g1.toInt ∧ g1.toInt ≤ 1 → 0 ≤ g2.toInt ∧ g2.toInt ≤ 59 → 0 ≤ g3.toInt ∧ g3.toInt ≤ 400 → 0 ≤ g4.toInt ∧ g4.toInt ≤ 400 → jSa h0 h → g1.toInt ≠ 0 → (g0.toInt ≤ g3.toInt ∧ g4.toInt ≤ g0.toInt) → (g1.toInt = 0 ∨ g4.toInt + 1 ≤ g0.toInt) → jiv h 125 10 = g0 → jiv h 125 11 = g1 → jiv h 125 52 = g2 → jiv h 125 8 = g3 → jiv h 125 9 = g4 → jJ jSgM Dy h → jSm fp_X12_readPlain_r125 h0 h → jX m_X12_readPlain 6 0 0 65 [(0, .ref 125), (1, .int l1)] [.int 1, .ref 125] h 0 0 Q := by
  intro l1 g0 g1 g2 g3 g4 h y0 y1 y2 y3 y4 y5 C0 y7 y8 y9 z0 z1 z2 z3 z4  J Sm
  refine x_inv (N := m_X12_must) (As := [.int 1]) (b := 125) (st := []) (dx9 := 5) (mc := 0) (ms := 0) (host := "") 12 rfl t_X12_must ⟨Or.inl q_12_250, i_X12_must.1, i_X12_must.2⟩ ⟨by decide, rfl⟩ (congrArg Prod.fst (J.1.1 125 (12, 92) rfl)) rfl (by decide) rfl rfl ⟨by decide, by decide⟩ (jC.of rfl k_X12_must rfl ?_)
  show jX m_X12_must 5 0 0 0 [(0, .ref 125), (1, .int 1)] [] _ 0 0 _
  refine x_aloadn (x := 125) rfl rfl ?_
  refine z_getI (N := 92) 12 14 rfl f_12_214 rfl J rfl sg_125_14_15_1_0_1 (fun v1 qv1 ev1 => ?_)
  refine x_ifne (tgt := 24) rfl rfl (ti_ne rfl jk_0 ⟨fun c2 => ?_, fun c2 => ?_⟩)
  ·
    refine x_aloadn (x := 125) rfl rfl ?_
    refine z_getM (N := 92) (v := v1) 12 14 rfl f_12_214 rfl J rfl qv1 ?_
    refine x_ifne (tgt := 35) rfl rfl (ti_ne rfl jk_0 (bn_t (by omega) ?_))
    refine x_vret rfl rfl ?_
    show jX m_X12_readPlain 6 0 0 68 [(0, .ref 125), (1, .int l1)] [] _ 0 0 _
    refine x_aloadn (x := 125) rfl rfl ?_
    refine z_getM (N := 92) (v := v1) 12 14 rfl f_12_214 rfl J rfl qv1 ?_
    refine x_ifne (tgt := 91) rfl rfl (ti_ne rfl jk_0 (bn_t (by omega) ?_))
    exact jX.sub jsb_n (ct_X12_readPlain_r125_91 hA hN hD hQ  g0 g1 g3 g4 h (jr_of rfl (by omega)) (jr_of rfl (by omega)) (jr_of rfl (by omega)) (jr_of rfl (by omega)) (jmu_tb (jmu_bad hA C0.1 C0.2.1 C0.2.2.1 C0.2.2.2.1 C0.2.2.2.2.1 C0.2.2.2.2.2.1 C0.2.2.2.2.2.2.1 qv1 (by omega)) qv1 (by omega)) (by omega) (by omega) z0 z1 z3 z4 J Sm)
  ·
    refine x_iloadn (x := 1) rfl rfl ?_
    refine x_ifne (tgt := 24) rfl rfl (ti_ne jk_1 jk_0 (bn_t (by omega) ?_))
    refine x_aloadn (x := 125) rfl rfl ?_
    refine z_getM (N := 92) (v := v1) 12 14 rfl f_12_214 rfl J rfl qv1 ?_
    refine x_ifne (tgt := 35) rfl rfl (ti_ne rfl jk_0 (bn_f (by omega) ?_))
    refine x_aloadn (x := 125) rfl rfl ?_
    refine x_inv (N := m_X12_next) (As := []) (b := 125) (st := []) (dx9 := 2) (mc := 0) (ms := 0) (host := "") 12 rfl t_X12_next ⟨Or.inl q_12_218, i_X12_next.1, i_X12_next.2⟩ ⟨by decide, rfl⟩ (congrArg Prod.fst (J.1.1 125 (12, 92) rfl)) rfl (by decide) rfl rfl ⟨by decide, by decide⟩ (sf_X12_next_r125  hD J z0 z3 (by omega)  (fun h J S3 u4 u5 u6 qu4 qu5 qu6 ru4 u7 u8 u9 qu7 qu8 qu9 ru7 P10 => ?_))
    have Sm := jSm_tr rfl Sm S3
    have eu4 := (show 0 ≤ u4.toInt ∧ u4.toInt ≤ 400 from qu4 ▸ jrg_f J sg_125_10_11_1_0_1)
    have eu5 := (show 0 ≤ u5.toInt ∧ u5.toInt ≤ 400 from qu5 ▸ jrg_f J sg_125_8_9_1_0_1)
    have eu6 := (show 0 ≤ u6.toInt ∧ u6.toInt ≤ 400 from qu6 ▸ jrg_f J sg_125_9_10_1_0_1)
    have eu7 := (show 0 ≤ u7.toInt ∧ u7.toInt ≤ 3 from qu7 ▸ jrg_f J sg_125_11_12_1_0_1)
    obtain rfl : u6 = u8 := qu6.symm.trans qu8
    obtain rfl : u4 = u9 := qu4.symm.trans qu9
    have nfP10 := jnf P10.1 z0 qu6
    show jX m_X12_must 5 0 0 35 [(0, .ref 125), (1, .int 1)] [] _ 0 0 _
    refine x_vret rfl rfl ?_
    show jX m_X12_readPlain 6 0 0 68 [(0, .ref 125), (1, .int l1)] [] _ 0 0 _
    refine x_aloadn (x := 125) rfl rfl ?_
    refine z_getM (N := 92) (v := v1) 12 14 rfl f_12_214 rfl J rfl (jmc S3 rfl qv1) ?_
    refine x_ifne (tgt := 91) rfl rfl (ti_ne rfl jk_0 (bn_f (by omega) ?_))
    obtain ⟨u11, qu11⟩ : ∃ v : Int32, jiv h 125 49 = v := ⟨_, rfl⟩
    have eu11 := (show 0 ≤ u11.toInt ∧ u11.toInt ≤ 400 from qu11 ▸ jrg_f J sg_125_49_50_1_0_1)
    have cx := jmu_c (jmu_on hA (jeq_c S3 rfl C0.1) (jeq_c S3 rfl C0.2.1) (jeq_c S3 rfl C0.2.2.1) (jeq_c S3 rfl C0.2.2.2.1) (jmc S3 rfl C0.2.2.2.2.1) (jmc S3 rfl C0.2.2.2.2.2.1) (jmc S3 rfl C0.2.2.2.2.2.2.2) (C0.2.2.2.2.2.2.1.symm.trans z4) qu6 (by omega)) (jmc S3 rfl qv1) (by omega) qu11 (by have := jrg_f J sg_125_9_10_1_0_1; omega)
    refine x_aloadn (x := 125) rfl rfl ?_
    refine x_iloadn (x := l1) rfl rfl ?_
    refine x_iconst (v := 0) rfl ki_0 ?_
    refine x_inv (N := m_X12_emit) (As := [.int l1, .int 0]) (b := 125) (st := []) (dx9 := 5) (mc := 0) (ms := 0) (host := "") 12 rfl t_X12_emit ⟨Or.inl q_12_502, i_X12_emit.1, i_X12_emit.2⟩ ⟨by decide, rfl⟩ (congrArg Prod.fst (J.1.1 125 (12, 92) rfl)) rfl (by decide) rfl rfl ⟨by decide, by decide⟩ (jC.of rfl k_X12_emit rfl ?_)
    show jX m_X12_emit 5 0 0 0 [(0, .ref 125), (1, .int l1), (2, .int 0)] [] _ 0 0 _
    refine x_aloadn (x := 125) rfl rfl ?_
    refine z_getR (N := 92) (b := 148) 12 50 rfl f_12_99 rfl J rfl 16050 ⟨rfl, rfl⟩ rfl ?_
    refine x_aloadn (x := 125) rfl rfl ?_
    refine z_getM (N := 92) (v := u11) 12 49 rfl f_12_493 rfl J rfl qu11 ?_
    refine x_iloadn (x := l1) rfl rfl ?_
    refine z_iast (N := 400) (l := 0) (u := 400) (w := l1.toInt) rfl hD J Sm rfl rfl rfl (by omega) rfl (wr_148) rfl (fun h w12 J Sm => ?_)
    refine x_aloadn (x := 125) rfl rfl ?_
    refine z_getR (N := 92) (b := 149) 12 51 rfl f_12_102 rfl J rfl 16051 ⟨rfl, rfl⟩ rfl ?_
    refine x_aloadn (x := 125) rfl rfl ?_
    refine z_getM (N := 92) (v := u11) 12 49 rfl f_12_493 rfl J rfl (jmo w12 rfl qu11) ?_
    refine x_iloadn (x := 0) rfl rfl ?_
    refine z_iast (N := 400) (l := 0) (u := 400) (w := 0) rfl hD J Sm rfl rfl rfl (by omega) jk_0 (wr_149) rfl (fun h w13 J Sm => ?_)
    refine x_aloadn (x := 125) rfl rfl ?_
    refine x_dup rfl rfl ?_
    refine z_getM (N := 92) (v := u11) 12 49 rfl f_12_493 rfl J rfl (jmo w13 rfl (jmo w12 rfl qu11)) ?_
    refine x_iconst (v := 1) rfl ki_1 ?_
    refine z_iadd rfl rfl jk_1 (by omega) (fun v14 ev14 => ?_)
    refine z_putI (N := 92) (w := v14.toInt) 12 49 rfl f_12_493 rfl (jfin_no TX12 RX12 92 rfl rfl) hD J Sm rfl rfl rfl (pw_125_49 (by omega)) rfl (fun h w15 J Sm => ?_)
    refine x_vret rfl rfl ?_
    show jX m_X12_readPlain 6 0 0 81 [(0, .ref 125), (1, .int l1)] [] _ 0 0 _
    refine x_aloadn (x := 125) rfl rfl ?_
    refine x_dup rfl rfl ?_
    refine z_getM (N := 92) (v := g2) 12 52 rfl f_12_542 rfl J rfl (jmo w15 rfl (jmo w13 rfl (jmo w12 rfl (jmc S3 rfl z2)))) ?_
    refine x_iconst (v := 1) rfl ki_1 ?_
    refine z_iadd rfl rfl jk_1 (by omega) (fun v16 ev16 => ?_)
    refine z_putI (N := 92) (w := v16.toInt) 12 52 rfl f_12_542 rfl (jfin_no TX12 RX12 92 rfl rfl) hD J Sm rfl rfl rfl (pw_125_52 (by omega)) rfl (fun h w17 J Sm => ?_)
    exact jX.sub jsb_n (ct_X12_readPlain_r125_91 hA hN hD hQ  u4 u7 u5 u6 h (jr_of rfl (by omega)) (jr_of rfl (by omega)) (jr_of rfl (by omega)) (jr_of rfl (by omega)) (rp_plain (jmu_on hA (jeq_c S3 rfl C0.1) (jeq_c S3 rfl C0.2.1) (jeq_c S3 rfl C0.2.2.1) (jeq_c S3 rfl C0.2.2.2.1) (jmc S3 rfl C0.2.2.2.2.1) (jmc S3 rfl C0.2.2.2.2.2.1) (jmc S3 rfl C0.2.2.2.2.2.2.2) (C0.2.2.2.2.2.2.1.symm.trans z4) qu6 (by omega)) hN (jmc S3 rfl qv1) (by omega) qu11 w12 w13 w15 (by omega) (by omega) w17) (by omega) (by omega) (jmo w17 rfl (jmo w15 rfl (jmo w13 rfl (jmo w12 rfl qu4)))) (jmo w17 rfl (jmo w15 rfl (jmo w13 rfl (jmo w12 rfl qu7)))) (jmo w17 rfl (jmo w15 rfl (jmo w13 rfl (jmo w12 rfl qu5)))) (jmo w17 rfl (jmo w15 rfl (jmo w13 rfl (jmo w12 rfl qu6)))) J Sm)
set_option maxRecDepth 100000 in
set_option maxHeartbeats 4000000 in
theorem sf_X12_readPlain_r125 {Dy : jH → Prop} {h : jH} {Q : Option Value → jH → Prop} {A : Nat} (hA : jTu 0 h A 0) (hN : (jiv h 125 14).toInt ≠ 0 ∨ jNsq h) (hD : jDk Dy) (J : jJ jSgM Dy h) {p0 p1 p2 : Int32} {p3 p4 p5 : Int32} (zp0 : jiv h 125 10 = p0) (zp1 : jiv h 125 8 = p1) (zp2 : jiv h 125 9 = p2) (rl_p0 : (p0.toInt ≤ p1.toInt ∧ p2.toInt ≤ p0.toInt)) (zp3 : jiv h 125 11 = p3) (zp4 : jiv h 125 9 = p4) (zp5 : jiv h 125 10 = p5) (rl_p3 : (p3.toInt = 0 ∨ p4.toInt + 1 ≤ p5.toInt)) (hQ : ∀ (v : Int32) hx9, 0 ≤ v.toInt ∧ v.toInt ≤ 3 → jJ jSgM Dy hx9 → jSm fp_X12_readPlain_r125 h hx9 → ∀ u0 u1 u2 : Int32, jiv hx9 125 10 = u0 → jiv hx9 125 8 = u1 → jiv hx9 125 9 = u2 → (u0.toInt ≤ u1.toInt ∧ u2.toInt ≤ u0.toInt) → ∀ u3 u4 u5 : Int32, jiv hx9 125 11 = u3 → jiv hx9 125 9 = u4 → jiv hx9 125 10 = u5 → (u3.toInt = 0 ∨ u4.toInt + 1 ≤ u5.toInt) → (jTn A v.toInt hx9 ∧ jFm 1 A h hx9) → Q (some (.int v)) hx9) : jC m_X12_readPlain 6 0 0 [.ref 125] h Q := by
  refine jC.of rfl k_X12_readPlain rfl ?_
  have Sm := jSm_rf fp_X12_readPlain_r125 h
  have ep0 := (show 0 ≤ p0.toInt ∧ p0.toInt ≤ 400 from zp0 ▸ jrg_f J sg_125_10_11_1_0_1)
  have ep1 := (show 0 ≤ p1.toInt ∧ p1.toInt ≤ 400 from zp1 ▸ jrg_f J sg_125_8_9_1_0_1)
  have ep2 := (show 0 ≤ p2.toInt ∧ p2.toInt ≤ 400 from zp2 ▸ jrg_f J sg_125_9_10_1_0_1)
  have ep3 := (show 0 ≤ p3.toInt ∧ p3.toInt ≤ 3 from zp3 ▸ jrg_f J sg_125_11_12_1_0_1)
  have ep4 := (show 0 ≤ p4.toInt ∧ p4.toInt ≤ 400 from zp4 ▸ jrg_f J sg_125_9_10_1_0_1)
  have ep5 := (show 0 ≤ p5.toInt ∧ p5.toInt ≤ 400 from zp5 ▸ jrg_f J sg_125_10_11_1_0_1)
  obtain rfl : p2 = p4 := zp2.symm.trans zp4
  obtain rfl : p0 = p5 := zp0.symm.trans zp5
  skip
  show jX m_X12_readPlain 6 0 0 0 [(0, .ref 125)] [] _ 0 0 _
  refine x_aloadn (x := 125) rfl rfl ?_
  refine x_ldc2 (v := 14836) rfl z_12_561 ?_
  refine x_inv (N := m_X12_isWord) (As := [.long 14836]) (b := 125) (st := []) (dx9 := 5) (mc := 0) (ms := 0) (host := "") 12 rfl t_X12_isWord ⟨Or.inl q_12_511, i_X12_isWord.1, i_X12_isWord.2⟩ ⟨by decide, rfl⟩ (congrArg Prod.fst (J.1.1 125 (12, 92) rfl)) rfl (by decide) rfl rfl ⟨by decide, by decide⟩ (jC.of rfl k_X12_isWord rfl ?_)
  show jX m_X12_isWord 5 0 0 0 [(0, .ref 125), (1, .long 14836)] [] _ 0 0 _
  refine x_aloadn (x := 125) rfl rfl ?_
  refine z_getM (N := 92) (v := p3) 12 11 rfl f_12_235 rfl J rfl zp3 ?_
  refine x_iconst (v := 1) rfl ki_1 ?_
  refine x_icne (tgt := 21) rfl rfl (ti_ne rfl jk_1 ⟨fun c1 => ?_, fun c1 => ?_⟩)
  ·
    refine x_iconst (v := 0) rfl ki_0 ?_
    refine x_zret rfl rfl (by decide) ?_
    show jX m_X12_readPlain 6 0 0 7 [(0, .ref 125)] [.int 0] _ 0 0 _
    refine x_ifeq (tgt := 23) rfl rfl (ti_eq jk_0 jk_0 (br_t (by omega) ?_))
    refine x_aloadn (x := 125) rfl rfl ?_
    refine x_bipush (v := 40) rfl kb_40 ?_
    refine x_inv (N := m_X12_isSign) (As := [.int 40]) (b := 125) (st := []) (dx9 := 5) (mc := 0) (ms := 0) (host := "") 12 rfl t_X12_isSign ⟨Or.inl q_12_257, i_X12_isSign.1, i_X12_isSign.2⟩ ⟨by decide, rfl⟩ (congrArg Prod.fst (J.1.1 125 (12, 92) rfl)) rfl (by decide) rfl rfl ⟨by decide, by decide⟩ (jC.of rfl k_X12_isSign rfl ?_)
    show jX m_X12_isSign 5 0 0 0 [(0, .ref 125), (1, .int 40)] [] _ 0 0 _
    refine x_aloadn (x := 125) rfl rfl ?_
    refine z_getM (N := 92) (v := p3) 12 11 rfl f_12_235 rfl J rfl zp3 ?_
    refine x_iconst (v := 3) rfl ki_3 ?_
    refine x_icne (tgt := 22) rfl rfl (ti_ne rfl jk_3 ⟨fun c2 => ?_, fun c2 => ?_⟩)
    ·
      refine x_iconst (v := 0) rfl ki_0 ?_
      refine x_zret rfl rfl (by decide) ?_
      show jX m_X12_readPlain 6 0 0 29 [(0, .ref 125)] [.int 0] _ 0 0 _
      refine x_ifeq (tgt := 40) rfl rfl (ti_eq jk_0 jk_0 (br_t (by omega) ?_))
      refine x_aloadn (x := 125) rfl rfl ?_
      refine x_inv (N := m_X12_plainAt) (As := []) (b := 125) (st := []) (dx9 := 5) (mc := 0) (ms := 0) (host := "") 12 rfl t_X12_plainAt ⟨Or.inl q_12_566, i_X12_plainAt.1, i_X12_plainAt.2⟩ ⟨by decide, rfl⟩ (congrArg Prod.fst (J.1.1 125 (12, 92) rfl)) rfl (by decide) rfl rfl ⟨by decide, by decide⟩ (jC.of rfl k_X12_plainAt rfl ?_)
      show jX m_X12_plainAt 5 0 0 0 [(0, .ref 125)] [] _ 0 0 _
      refine x_aloadn (x := 125) rfl rfl ?_
      refine x_ldc2 (v := 14011671716) rfl z_12_523 ?_
      refine x_inv (N := m_X12_isWord) (As := [.long 14011671716]) (b := 125) (st := []) (dx9 := 4) (mc := 0) (ms := 0) (host := "") 12 rfl t_X12_isWord ⟨Or.inl q_12_511, i_X12_isWord.1, i_X12_isWord.2⟩ ⟨by decide, rfl⟩ (congrArg Prod.fst (J.1.1 125 (12, 92) rfl)) rfl (by decide) rfl rfl ⟨by decide, by decide⟩ (jC.of rfl k_X12_isWord rfl ?_)
      show jX m_X12_isWord 4 0 0 0 [(0, .ref 125), (1, .long 14011671716)] [] _ 0 0 _
      refine x_aloadn (x := 125) rfl rfl ?_
      refine z_getM (N := 92) (v := p3) 12 11 rfl f_12_235 rfl J rfl zp3 ?_
      refine x_iconst (v := 1) rfl ki_1 ?_
      refine x_icne (tgt := 21) rfl rfl (ti_ne rfl jk_1 ⟨fun c3 => ?_, fun c3 => ?_⟩)
      ·
        refine x_iconst (v := 0) rfl ki_0 ?_
        refine x_zret rfl rfl (by decide) ?_
        show jX m_X12_plainAt 5 0 0 7 [(0, .ref 125)] [.int 0] _ 0 0 _
        refine x_ifeq (tgt := 15) rfl rfl (ti_eq jk_0 jk_0 (br_t (by omega) ?_))
        refine x_aloadn (x := 125) rfl rfl ?_
        refine x_ldc2 (v := 136228) rfl z_12_525 ?_
        refine x_inv (N := m_X12_isWord) (As := [.long 136228]) (b := 125) (st := []) (dx9 := 4) (mc := 0) (ms := 0) (host := "") 12 rfl t_X12_isWord ⟨Or.inl q_12_511, i_X12_isWord.1, i_X12_isWord.2⟩ ⟨by decide, rfl⟩ (congrArg Prod.fst (J.1.1 125 (12, 92) rfl)) rfl (by decide) rfl rfl ⟨by decide, by decide⟩ (jC.of rfl k_X12_isWord rfl ?_)
        show jX m_X12_isWord 4 0 0 0 [(0, .ref 125), (1, .long 136228)] [] _ 0 0 _
        refine x_aloadn (x := 125) rfl rfl ?_
        refine z_getM (N := 92) (v := p3) 12 11 rfl f_12_235 rfl J rfl zp3 ?_
        refine x_iconst (v := 1) rfl ki_1 ?_
        refine x_icne (tgt := 21) rfl rfl (ti_ne rfl jk_1 ⟨fun c4 => ?_, fun c4 => ?_⟩)
        ·
          refine x_iconst (v := 0) rfl ki_0 ?_
          refine x_zret rfl rfl (by decide) ?_
          show jX m_X12_plainAt 5 0 0 22 [(0, .ref 125)] [.int 0] _ 0 0 _
          refine x_ifeq (tgt := 30) rfl rfl (ti_eq jk_0 jk_0 (br_t (by omega) ?_))
          refine x_aloadn (x := 125) rfl rfl ?_
          refine x_ldc2 (v := 540146) rfl z_12_527 ?_
          refine x_inv (N := m_X12_isWord) (As := [.long 540146]) (b := 125) (st := []) (dx9 := 4) (mc := 0) (ms := 0) (host := "") 12 rfl t_X12_isWord ⟨Or.inl q_12_511, i_X12_isWord.1, i_X12_isWord.2⟩ ⟨by decide, rfl⟩ (congrArg Prod.fst (J.1.1 125 (12, 92) rfl)) rfl (by decide) rfl rfl ⟨by decide, by decide⟩ (jC.of rfl k_X12_isWord rfl ?_)
          show jX m_X12_isWord 4 0 0 0 [(0, .ref 125), (1, .long 540146)] [] _ 0 0 _
          refine x_aloadn (x := 125) rfl rfl ?_
          refine z_getM (N := 92) (v := p3) 12 11 rfl f_12_235 rfl J rfl zp3 ?_
          refine x_iconst (v := 1) rfl ki_1 ?_
          refine x_icne (tgt := 21) rfl rfl (ti_ne rfl jk_1 ⟨fun c5 => ?_, fun c5 => ?_⟩)
          ·
            refine x_iconst (v := 0) rfl ki_0 ?_
            refine x_zret rfl rfl (by decide) ?_
            show jX m_X12_plainAt 5 0 0 37 [(0, .ref 125)] [.int 0] _ 0 0 _
            refine x_ifeq (tgt := 45) rfl rfl (ti_eq jk_0 jk_0 (br_t (by omega) ?_))
            refine x_aloadn (x := 125) rfl rfl ?_
            refine x_ldc2 (v := 8892563) rfl z_12_529 ?_
            refine x_inv (N := m_X12_isWord) (As := [.long 8892563]) (b := 125) (st := []) (dx9 := 4) (mc := 0) (ms := 0) (host := "") 12 rfl t_X12_isWord ⟨Or.inl q_12_511, i_X12_isWord.1, i_X12_isWord.2⟩ ⟨by decide, rfl⟩ (congrArg Prod.fst (J.1.1 125 (12, 92) rfl)) rfl (by decide) rfl rfl ⟨by decide, by decide⟩ (jC.of rfl k_X12_isWord rfl ?_)
            show jX m_X12_isWord 4 0 0 0 [(0, .ref 125), (1, .long 8892563)] [] _ 0 0 _
            refine x_aloadn (x := 125) rfl rfl ?_
            refine z_getM (N := 92) (v := p3) 12 11 rfl f_12_235 rfl J rfl zp3 ?_
            refine x_iconst (v := 1) rfl ki_1 ?_
            refine x_icne (tgt := 21) rfl rfl (ti_ne rfl jk_1 ⟨fun c6 => ?_, fun c6 => ?_⟩)
            ·
              refine x_iconst (v := 0) rfl ki_0 ?_
              refine x_zret rfl rfl (by decide) ?_
              show jX m_X12_plainAt 5 0 0 52 [(0, .ref 125)] [.int 0] _ 0 0 _
              refine x_ifeq (tgt := 60) rfl rfl (ti_eq jk_0 jk_0 (br_t (by omega) ?_))
              refine x_aloadn (x := 125) rfl rfl ?_
              refine x_ldc2 (v := 3490341659812) rfl z_12_531 ?_
              refine x_inv (N := m_X12_isWord) (As := [.long 3490341659812]) (b := 125) (st := []) (dx9 := 4) (mc := 0) (ms := 0) (host := "") 12 rfl t_X12_isWord ⟨Or.inl q_12_511, i_X12_isWord.1, i_X12_isWord.2⟩ ⟨by decide, rfl⟩ (congrArg Prod.fst (J.1.1 125 (12, 92) rfl)) rfl (by decide) rfl rfl ⟨by decide, by decide⟩ (jC.of rfl k_X12_isWord rfl ?_)
              show jX m_X12_isWord 4 0 0 0 [(0, .ref 125), (1, .long 3490341659812)] [] _ 0 0 _
              refine x_aloadn (x := 125) rfl rfl ?_
              refine z_getM (N := 92) (v := p3) 12 11 rfl f_12_235 rfl J rfl zp3 ?_
              refine x_iconst (v := 1) rfl ki_1 ?_
              refine x_icne (tgt := 21) rfl rfl (ti_ne rfl jk_1 ⟨fun c7 => ?_, fun c7 => ?_⟩)
              ·
                refine x_iconst (v := 0) rfl ki_0 ?_
                refine x_zret rfl rfl (by decide) ?_
                show jX m_X12_plainAt 5 0 0 67 [(0, .ref 125)] [.int 0] _ 0 0 _
                refine x_ifeq (tgt := 75) rfl rfl (ti_eq jk_0 jk_0 (br_t (by omega) ?_))
                refine x_iconst (v := (-1)) rfl ki_m1 ?_
                refine x_iret rfl rfl ?_
                show jX m_X12_readPlain 6 0 0 44 [(0, .ref 125)] [.int (-1)] _ 0 0 _
                refine x_istoren (lsx9 := [(1, .int (-1)), (0, .ref 125)]) rfl rfl rfl ?_
                refine x_iloadn (x := (-1)) rfl rfl ?_
                refine x_iconst (v := (-1)) rfl ki_m1 ?_
                refine x_iceq (tgt := 93) rfl rfl (ti_eq jk_m1 jk_m1 (br_t (by omega) ?_))
                refine x_aloadn (x := 125) rfl rfl ?_
                refine x_inv (N := m_X12_readSum) (As := []) (b := 125) (st := []) (dx9 := 5) (mc := 0) (ms := 0) (host := "") 12 rfl t_X12_readSum ⟨Or.inl q_12_569, i_X12_readSum.1, i_X12_readSum.2⟩ ⟨by decide, rfl⟩ (congrArg Prod.fst (J.1.1 125 (12, 92) rfl)) rfl (by decide) rfl rfl ⟨by decide, by decide⟩ (sf_X12_readSum_r125  hA hD J zp0 zp1 zp2 (by omega) zp3 zp2 zp0 (by omega)  (fun v16 h ev16 J S8 u9 u10 u11 qu9 qu10 qu11 ru9 u12 u13 u14 qu12 qu13 qu14 ru12 P15 => ?_))
                have Sm := jSm_tr rfl Sm S8
                have eu9 := (show 0 ≤ u9.toInt ∧ u9.toInt ≤ 400 from qu9 ▸ jrg_f J sg_125_10_11_1_0_1)
                have eu10 := (show 0 ≤ u10.toInt ∧ u10.toInt ≤ 400 from qu10 ▸ jrg_f J sg_125_8_9_1_0_1)
                have eu11 := (show 0 ≤ u11.toInt ∧ u11.toInt ≤ 400 from qu11 ▸ jrg_f J sg_125_9_10_1_0_1)
                have eu12 := (show 0 ≤ u12.toInt ∧ u12.toInt ≤ 3 from qu12 ▸ jrg_f J sg_125_11_12_1_0_1)
                obtain rfl : u11 = u13 := qu11.symm.trans qu13
                obtain rfl : u9 = u14 := qu9.symm.trans qu14
                show jX m_X12_readPlain 6 0 0 97 [(1, .int (-1)), (0, .ref 125)] [.int v16] _ 0 0 _
                refine x_iret rfl rfl ?_
                exact hQ _ _ (jr_of rfl (by omega)) J Sm _ _ _ qu9 qu10 qu11 (by omega) _ _ _ qu12 qu11 qu9 (by omega) P15
              ·
                refine x_aloadn (x := 125) rfl rfl ?_
                refine z_getL0 (N := 92) 12 12 rfl f_12_224 rfl J rfl (fun v17 => ?_)
                have ev17 := jfullL v17
                refine x_lloadn (x := 3490341659812) rfl rfl ?_
                refine z_lcmp rfl rfl jkl_3490341659812 (fun v18 ev18 => ?_)
                refine x_ifne (tgt := 21) rfl rfl (ti_ne rfl jk_0 ⟨fun c19 => ?_, fun c19 => ?_⟩)
                ·
                  refine x_iconst (v := 0) rfl ki_0 ?_
                  refine x_zret rfl rfl (by decide) ?_
                  show jX m_X12_plainAt 5 0 0 67 [(0, .ref 125)] [.int 0] _ 0 0 _
                  refine x_ifeq (tgt := 75) rfl rfl (ti_eq jk_0 jk_0 (br_t (by omega) ?_))
                  refine x_iconst (v := (-1)) rfl ki_m1 ?_
                  refine x_iret rfl rfl ?_
                  show jX m_X12_readPlain 6 0 0 44 [(0, .ref 125)] [.int (-1)] _ 0 0 _
                  refine x_istoren (lsx9 := [(1, .int (-1)), (0, .ref 125)]) rfl rfl rfl ?_
                  refine x_iloadn (x := (-1)) rfl rfl ?_
                  refine x_iconst (v := (-1)) rfl ki_m1 ?_
                  refine x_iceq (tgt := 93) rfl rfl (ti_eq jk_m1 jk_m1 (br_t (by omega) ?_))
                  refine x_aloadn (x := 125) rfl rfl ?_
                  refine x_inv (N := m_X12_readSum) (As := []) (b := 125) (st := []) (dx9 := 5) (mc := 0) (ms := 0) (host := "") 12 rfl t_X12_readSum ⟨Or.inl q_12_569, i_X12_readSum.1, i_X12_readSum.2⟩ ⟨by decide, rfl⟩ (congrArg Prod.fst (J.1.1 125 (12, 92) rfl)) rfl (by decide) rfl rfl ⟨by decide, by decide⟩ (sf_X12_readSum_r125  hA hD J zp0 zp1 zp2 (by omega) zp3 zp2 zp0 (by omega)  (fun v28 h ev28 J S20 u21 u22 u23 qu21 qu22 qu23 ru21 u24 u25 u26 qu24 qu25 qu26 ru24 P27 => ?_))
                  have Sm := jSm_tr rfl Sm S20
                  have eu21 := (show 0 ≤ u21.toInt ∧ u21.toInt ≤ 400 from qu21 ▸ jrg_f J sg_125_10_11_1_0_1)
                  have eu22 := (show 0 ≤ u22.toInt ∧ u22.toInt ≤ 400 from qu22 ▸ jrg_f J sg_125_8_9_1_0_1)
                  have eu23 := (show 0 ≤ u23.toInt ∧ u23.toInt ≤ 400 from qu23 ▸ jrg_f J sg_125_9_10_1_0_1)
                  have eu24 := (show 0 ≤ u24.toInt ∧ u24.toInt ≤ 3 from qu24 ▸ jrg_f J sg_125_11_12_1_0_1)
                  obtain rfl : u23 = u25 := qu23.symm.trans qu25
                  obtain rfl : u21 = u26 := qu21.symm.trans qu26
                  show jX m_X12_readPlain 6 0 0 97 [(1, .int (-1)), (0, .ref 125)] [.int v28] _ 0 0 _
                  refine x_iret rfl rfl ?_
                  exact hQ _ _ (jr_of rfl (by omega)) J Sm _ _ _ qu21 qu22 qu23 (by omega) _ _ _ qu24 qu23 qu21 (by omega) P27
                ·
                  refine x_iconst (v := 1) rfl ki_1 ?_
                  refine x_goto (tgt := 22) rfl rfl ?_
                  refine x_zret rfl rfl (by decide) ?_
                  show jX m_X12_plainAt 5 0 0 67 [(0, .ref 125)] [.int 1] _ 0 0 _
                  refine x_ifeq (tgt := 75) rfl rfl (ti_eq jk_1 jk_0 (br_f (by omega) ?_))
                  refine x_bipush (v := 17) rfl kb_17 ?_
                  refine x_goto (tgt := 76) rfl rfl ?_
                  refine x_iret rfl rfl ?_
                  show jX m_X12_readPlain 6 0 0 44 [(0, .ref 125)] [.int 17] _ 0 0 _
                  refine x_istoren (lsx9 := [(1, .int 17), (0, .ref 125)]) rfl rfl rfl ?_
                  refine x_iloadn (x := 17) rfl rfl ?_
                  refine x_iconst (v := (-1)) rfl ki_m1 ?_
                  refine x_iceq (tgt := 93) rfl rfl (ti_eq jk_17 jk_m1 (br_f (by omega) ?_))
                  refine x_aloadn (x := 125) rfl rfl ?_
                  refine x_aloadn (x := 125) rfl rfl ?_
                  refine z_getI (N := 92) 12 52 rfl f_12_542 rfl J rfl sg_125_52_53_1_0_1 (fun v29 qv29 ev29 => ?_)
                  refine x_bipush (v := 60) rfl kb_60 ?_
                  refine x_icge (tgt := 64) rfl rfl (ti_ge rfl jk_60 ⟨fun c30 => ?_, fun c30 => ?_⟩)
                  ·
                    refine x_iconst (v := 0) rfl ki_0 ?_
                    exact jX.sub (jsb_c rfl (jsb_c rfl jsb_n)) (ct_X12_readPlain_r125_200065 hA hN hD hQ  17 p0 p3 p1 p2 h (jr_of jk_17 (by omega)) (jr_of rfl (by omega)) (jr_of rfl (by omega)) (jr_of rfl (by omega)) (jr_of rfl (by omega)) jsa_0 (by omega) (by omega) zp0 zp3 zp1 zp2 J Sm)
                  ·
                    refine x_iconst (v := 1) rfl ki_1 ?_
                    refine x_goto (tgt := 65) rfl rfl ?_
                    exact jX.sub (jsb_c rfl (jsb_c rfl jsb_n)) (ct_X12_readPlain_r125_300065 hA hN hD hQ  17 p0 p3 v29 p1 p2 h (jr_of jk_17 (by omega)) (jr_of rfl (by omega)) (jr_of rfl (by omega)) (jr_of rfl (by omega)) (jr_of rfl (by omega)) (jr_of rfl (by omega)) jsa_0 (by omega) (by omega) (by omega) zp0 zp3 qv29 zp1 zp2 J Sm)
            ·
              refine x_aloadn (x := 125) rfl rfl ?_
              refine z_getL0 (N := 92) 12 12 rfl f_12_224 rfl J rfl (fun v31 => ?_)
              have ev31 := jfullL v31
              refine x_lloadn (x := 8892563) rfl rfl ?_
              refine z_lcmp rfl rfl jkl_8892563 (fun v32 ev32 => ?_)
              refine x_ifne (tgt := 21) rfl rfl (ti_ne rfl jk_0 ⟨fun c33 => ?_, fun c33 => ?_⟩)
              ·
                refine x_iconst (v := 0) rfl ki_0 ?_
                refine x_zret rfl rfl (by decide) ?_
                show jX m_X12_plainAt 5 0 0 52 [(0, .ref 125)] [.int 0] _ 0 0 _
                refine x_ifeq (tgt := 60) rfl rfl (ti_eq jk_0 jk_0 (br_t (by omega) ?_))
                refine x_aloadn (x := 125) rfl rfl ?_
                refine x_ldc2 (v := 3490341659812) rfl z_12_531 ?_
                refine x_inv (N := m_X12_isWord) (As := [.long 3490341659812]) (b := 125) (st := []) (dx9 := 4) (mc := 0) (ms := 0) (host := "") 12 rfl t_X12_isWord ⟨Or.inl q_12_511, i_X12_isWord.1, i_X12_isWord.2⟩ ⟨by decide, rfl⟩ (congrArg Prod.fst (J.1.1 125 (12, 92) rfl)) rfl (by decide) rfl rfl ⟨by decide, by decide⟩ (jC.of rfl k_X12_isWord rfl ?_)
                show jX m_X12_isWord 4 0 0 0 [(0, .ref 125), (1, .long 3490341659812)] [] _ 0 0 _
                refine x_aloadn (x := 125) rfl rfl ?_
                refine z_getM (N := 92) (v := p3) 12 11 rfl f_12_235 rfl J rfl zp3 ?_
                refine x_iconst (v := 1) rfl ki_1 ?_
                refine x_icne (tgt := 21) rfl rfl (ti_ne rfl jk_1 (bn_f (by omega) ?_))
                refine x_aloadn (x := 125) rfl rfl ?_
                refine z_getL0 (N := 92) 12 12 rfl f_12_224 rfl J rfl (fun v34 => ?_)
                have ev34 := jfullL v34
                refine x_lloadn (x := 3490341659812) rfl rfl ?_
                refine z_lcmp rfl rfl jkl_3490341659812 (fun v35 ev35 => ?_)
                refine x_ifne (tgt := 21) rfl rfl (ti_ne rfl jk_0 ⟨fun c36 => ?_, fun c36 => ?_⟩)
                ·
                  refine x_iconst (v := 0) rfl ki_0 ?_
                  refine x_zret rfl rfl (by decide) ?_
                  show jX m_X12_plainAt 5 0 0 67 [(0, .ref 125)] [.int 0] _ 0 0 _
                  refine x_ifeq (tgt := 75) rfl rfl (ti_eq jk_0 jk_0 (br_t (by omega) ?_))
                  refine x_iconst (v := (-1)) rfl ki_m1 ?_
                  refine x_iret rfl rfl ?_
                  show jX m_X12_readPlain 6 0 0 44 [(0, .ref 125)] [.int (-1)] _ 0 0 _
                  refine x_istoren (lsx9 := [(1, .int (-1)), (0, .ref 125)]) rfl rfl rfl ?_
                  refine x_iloadn (x := (-1)) rfl rfl ?_
                  refine x_iconst (v := (-1)) rfl ki_m1 ?_
                  refine x_iceq (tgt := 93) rfl rfl (ti_eq jk_m1 jk_m1 (br_t (by omega) ?_))
                  refine x_aloadn (x := 125) rfl rfl ?_
                  refine x_inv (N := m_X12_readSum) (As := []) (b := 125) (st := []) (dx9 := 5) (mc := 0) (ms := 0) (host := "") 12 rfl t_X12_readSum ⟨Or.inl q_12_569, i_X12_readSum.1, i_X12_readSum.2⟩ ⟨by decide, rfl⟩ (congrArg Prod.fst (J.1.1 125 (12, 92) rfl)) rfl (by decide) rfl rfl ⟨by decide, by decide⟩ (sf_X12_readSum_r125  hA hD J zp0 zp1 zp2 (by omega) zp3 zp2 zp0 (by omega)  (fun v45 h ev45 J S37 u38 u39 u40 qu38 qu39 qu40 ru38 u41 u42 u43 qu41 qu42 qu43 ru41 P44 => ?_))
                  have Sm := jSm_tr rfl Sm S37
                  have eu38 := (show 0 ≤ u38.toInt ∧ u38.toInt ≤ 400 from qu38 ▸ jrg_f J sg_125_10_11_1_0_1)
                  have eu39 := (show 0 ≤ u39.toInt ∧ u39.toInt ≤ 400 from qu39 ▸ jrg_f J sg_125_8_9_1_0_1)
                  have eu40 := (show 0 ≤ u40.toInt ∧ u40.toInt ≤ 400 from qu40 ▸ jrg_f J sg_125_9_10_1_0_1)
                  have eu41 := (show 0 ≤ u41.toInt ∧ u41.toInt ≤ 3 from qu41 ▸ jrg_f J sg_125_11_12_1_0_1)
                  obtain rfl : u40 = u42 := qu40.symm.trans qu42
                  obtain rfl : u38 = u43 := qu38.symm.trans qu43
                  show jX m_X12_readPlain 6 0 0 97 [(1, .int (-1)), (0, .ref 125)] [.int v45] _ 0 0 _
                  refine x_iret rfl rfl ?_
                  exact hQ _ _ (jr_of rfl (by omega)) J Sm _ _ _ qu38 qu39 qu40 (by omega) _ _ _ qu41 qu40 qu38 (by omega) P44
                ·
                  refine x_iconst (v := 1) rfl ki_1 ?_
                  refine x_goto (tgt := 22) rfl rfl ?_
                  refine x_zret rfl rfl (by decide) ?_
                  show jX m_X12_plainAt 5 0 0 67 [(0, .ref 125)] [.int 1] _ 0 0 _
                  refine x_ifeq (tgt := 75) rfl rfl (ti_eq jk_1 jk_0 (br_f (by omega) ?_))
                  refine x_bipush (v := 17) rfl kb_17 ?_
                  refine x_goto (tgt := 76) rfl rfl ?_
                  refine x_iret rfl rfl ?_
                  show jX m_X12_readPlain 6 0 0 44 [(0, .ref 125)] [.int 17] _ 0 0 _
                  refine x_istoren (lsx9 := [(1, .int 17), (0, .ref 125)]) rfl rfl rfl ?_
                  refine x_iloadn (x := 17) rfl rfl ?_
                  refine x_iconst (v := (-1)) rfl ki_m1 ?_
                  refine x_iceq (tgt := 93) rfl rfl (ti_eq jk_17 jk_m1 (br_f (by omega) ?_))
                  refine x_aloadn (x := 125) rfl rfl ?_
                  refine x_aloadn (x := 125) rfl rfl ?_
                  refine z_getI (N := 92) 12 52 rfl f_12_542 rfl J rfl sg_125_52_53_1_0_1 (fun v46 qv46 ev46 => ?_)
                  refine x_bipush (v := 60) rfl kb_60 ?_
                  refine x_icge (tgt := 64) rfl rfl (ti_ge rfl jk_60 ⟨fun c47 => ?_, fun c47 => ?_⟩)
                  ·
                    refine x_iconst (v := 0) rfl ki_0 ?_
                    exact jX.sub (jsb_c rfl (jsb_c rfl jsb_n)) (ct_X12_readPlain_r125_200065 hA hN hD hQ  17 p0 p3 p1 p2 h (jr_of jk_17 (by omega)) (jr_of rfl (by omega)) (jr_of rfl (by omega)) (jr_of rfl (by omega)) (jr_of rfl (by omega)) jsa_0 (by omega) (by omega) zp0 zp3 zp1 zp2 J Sm)
                  ·
                    refine x_iconst (v := 1) rfl ki_1 ?_
                    refine x_goto (tgt := 65) rfl rfl ?_
                    exact jX.sub (jsb_c rfl (jsb_c rfl jsb_n)) (ct_X12_readPlain_r125_300065 hA hN hD hQ  17 p0 p3 v46 p1 p2 h (jr_of jk_17 (by omega)) (jr_of rfl (by omega)) (jr_of rfl (by omega)) (jr_of rfl (by omega)) (jr_of rfl (by omega)) (jr_of rfl (by omega)) jsa_0 (by omega) (by omega) (by omega) zp0 zp3 qv46 zp1 zp2 J Sm)
              ·
                refine x_iconst (v := 1) rfl ki_1 ?_
                refine x_goto (tgt := 22) rfl rfl ?_
                refine x_zret rfl rfl (by decide) ?_
                show jX m_X12_plainAt 5 0 0 52 [(0, .ref 125)] [.int 1] _ 0 0 _
                refine x_ifeq (tgt := 60) rfl rfl (ti_eq jk_1 jk_0 (br_f (by omega) ?_))
                refine x_bipush (v := 16) rfl kb_16 ?_
                refine x_goto (tgt := 76) rfl rfl ?_
                refine x_iret rfl rfl ?_
                show jX m_X12_readPlain 6 0 0 44 [(0, .ref 125)] [.int 16] _ 0 0 _
                refine x_istoren (lsx9 := [(1, .int 16), (0, .ref 125)]) rfl rfl rfl ?_
                refine x_iloadn (x := 16) rfl rfl ?_
                refine x_iconst (v := (-1)) rfl ki_m1 ?_
                refine x_iceq (tgt := 93) rfl rfl (ti_eq jk_16 jk_m1 (br_f (by omega) ?_))
                refine x_aloadn (x := 125) rfl rfl ?_
                refine x_aloadn (x := 125) rfl rfl ?_
                refine z_getI (N := 92) 12 52 rfl f_12_542 rfl J rfl sg_125_52_53_1_0_1 (fun v48 qv48 ev48 => ?_)
                refine x_bipush (v := 60) rfl kb_60 ?_
                refine x_icge (tgt := 64) rfl rfl (ti_ge rfl jk_60 ⟨fun c49 => ?_, fun c49 => ?_⟩)
                ·
                  refine x_iconst (v := 0) rfl ki_0 ?_
                  exact jX.sub (jsb_c rfl (jsb_c rfl jsb_n)) (ct_X12_readPlain_r125_200065 hA hN hD hQ  16 p0 p3 p1 p2 h (jr_of jk_16 (by omega)) (jr_of rfl (by omega)) (jr_of rfl (by omega)) (jr_of rfl (by omega)) (jr_of rfl (by omega)) jsa_0 (by omega) (by omega) zp0 zp3 zp1 zp2 J Sm)
                ·
                  refine x_iconst (v := 1) rfl ki_1 ?_
                  refine x_goto (tgt := 65) rfl rfl ?_
                  exact jX.sub (jsb_c rfl (jsb_c rfl jsb_n)) (ct_X12_readPlain_r125_300065 hA hN hD hQ  16 p0 p3 v48 p1 p2 h (jr_of jk_16 (by omega)) (jr_of rfl (by omega)) (jr_of rfl (by omega)) (jr_of rfl (by omega)) (jr_of rfl (by omega)) (jr_of rfl (by omega)) jsa_0 (by omega) (by omega) (by omega) zp0 zp3 qv48 zp1 zp2 J Sm)
          ·
            refine x_aloadn (x := 125) rfl rfl ?_
            refine z_getL0 (N := 92) 12 12 rfl f_12_224 rfl J rfl (fun v50 => ?_)
            have ev50 := jfullL v50
            refine x_lloadn (x := 540146) rfl rfl ?_
            refine z_lcmp rfl rfl jkl_540146 (fun v51 ev51 => ?_)
            refine x_ifne (tgt := 21) rfl rfl (ti_ne rfl jk_0 ⟨fun c52 => ?_, fun c52 => ?_⟩)
            ·
              refine x_iconst (v := 0) rfl ki_0 ?_
              refine x_zret rfl rfl (by decide) ?_
              show jX m_X12_plainAt 5 0 0 37 [(0, .ref 125)] [.int 0] _ 0 0 _
              refine x_ifeq (tgt := 45) rfl rfl (ti_eq jk_0 jk_0 (br_t (by omega) ?_))
              refine x_aloadn (x := 125) rfl rfl ?_
              refine x_ldc2 (v := 8892563) rfl z_12_529 ?_
              refine x_inv (N := m_X12_isWord) (As := [.long 8892563]) (b := 125) (st := []) (dx9 := 4) (mc := 0) (ms := 0) (host := "") 12 rfl t_X12_isWord ⟨Or.inl q_12_511, i_X12_isWord.1, i_X12_isWord.2⟩ ⟨by decide, rfl⟩ (congrArg Prod.fst (J.1.1 125 (12, 92) rfl)) rfl (by decide) rfl rfl ⟨by decide, by decide⟩ (jC.of rfl k_X12_isWord rfl ?_)
              show jX m_X12_isWord 4 0 0 0 [(0, .ref 125), (1, .long 8892563)] [] _ 0 0 _
              refine x_aloadn (x := 125) rfl rfl ?_
              refine z_getM (N := 92) (v := p3) 12 11 rfl f_12_235 rfl J rfl zp3 ?_
              refine x_iconst (v := 1) rfl ki_1 ?_
              refine x_icne (tgt := 21) rfl rfl (ti_ne rfl jk_1 (bn_f (by omega) ?_))
              refine x_aloadn (x := 125) rfl rfl ?_
              refine z_getL0 (N := 92) 12 12 rfl f_12_224 rfl J rfl (fun v53 => ?_)
              have ev53 := jfullL v53
              refine x_lloadn (x := 8892563) rfl rfl ?_
              refine z_lcmp rfl rfl jkl_8892563 (fun v54 ev54 => ?_)
              refine x_ifne (tgt := 21) rfl rfl (ti_ne rfl jk_0 ⟨fun c55 => ?_, fun c55 => ?_⟩)
              ·
                refine x_iconst (v := 0) rfl ki_0 ?_
                refine x_zret rfl rfl (by decide) ?_
                show jX m_X12_plainAt 5 0 0 52 [(0, .ref 125)] [.int 0] _ 0 0 _
                refine x_ifeq (tgt := 60) rfl rfl (ti_eq jk_0 jk_0 (br_t (by omega) ?_))
                refine x_aloadn (x := 125) rfl rfl ?_
                refine x_ldc2 (v := 3490341659812) rfl z_12_531 ?_
                refine x_inv (N := m_X12_isWord) (As := [.long 3490341659812]) (b := 125) (st := []) (dx9 := 4) (mc := 0) (ms := 0) (host := "") 12 rfl t_X12_isWord ⟨Or.inl q_12_511, i_X12_isWord.1, i_X12_isWord.2⟩ ⟨by decide, rfl⟩ (congrArg Prod.fst (J.1.1 125 (12, 92) rfl)) rfl (by decide) rfl rfl ⟨by decide, by decide⟩ (jC.of rfl k_X12_isWord rfl ?_)
                show jX m_X12_isWord 4 0 0 0 [(0, .ref 125), (1, .long 3490341659812)] [] _ 0 0 _
                refine x_aloadn (x := 125) rfl rfl ?_
                refine z_getM (N := 92) (v := p3) 12 11 rfl f_12_235 rfl J rfl zp3 ?_
                refine x_iconst (v := 1) rfl ki_1 ?_
                refine x_icne (tgt := 21) rfl rfl (ti_ne rfl jk_1 (bn_f (by omega) ?_))
                refine x_aloadn (x := 125) rfl rfl ?_
                refine z_getL0 (N := 92) 12 12 rfl f_12_224 rfl J rfl (fun v56 => ?_)
                have ev56 := jfullL v56
                refine x_lloadn (x := 3490341659812) rfl rfl ?_
                refine z_lcmp rfl rfl jkl_3490341659812 (fun v57 ev57 => ?_)
                refine x_ifne (tgt := 21) rfl rfl (ti_ne rfl jk_0 ⟨fun c58 => ?_, fun c58 => ?_⟩)
                ·
                  refine x_iconst (v := 0) rfl ki_0 ?_
                  refine x_zret rfl rfl (by decide) ?_
                  show jX m_X12_plainAt 5 0 0 67 [(0, .ref 125)] [.int 0] _ 0 0 _
                  refine x_ifeq (tgt := 75) rfl rfl (ti_eq jk_0 jk_0 (br_t (by omega) ?_))
                  refine x_iconst (v := (-1)) rfl ki_m1 ?_
                  refine x_iret rfl rfl ?_
                  show jX m_X12_readPlain 6 0 0 44 [(0, .ref 125)] [.int (-1)] _ 0 0 _
                  refine x_istoren (lsx9 := [(1, .int (-1)), (0, .ref 125)]) rfl rfl rfl ?_
                  refine x_iloadn (x := (-1)) rfl rfl ?_
                  refine x_iconst (v := (-1)) rfl ki_m1 ?_
                  refine x_iceq (tgt := 93) rfl rfl (ti_eq jk_m1 jk_m1 (br_t (by omega) ?_))
                  refine x_aloadn (x := 125) rfl rfl ?_
                  refine x_inv (N := m_X12_readSum) (As := []) (b := 125) (st := []) (dx9 := 5) (mc := 0) (ms := 0) (host := "") 12 rfl t_X12_readSum ⟨Or.inl q_12_569, i_X12_readSum.1, i_X12_readSum.2⟩ ⟨by decide, rfl⟩ (congrArg Prod.fst (J.1.1 125 (12, 92) rfl)) rfl (by decide) rfl rfl ⟨by decide, by decide⟩ (sf_X12_readSum_r125  hA hD J zp0 zp1 zp2 (by omega) zp3 zp2 zp0 (by omega)  (fun v67 h ev67 J S59 u60 u61 u62 qu60 qu61 qu62 ru60 u63 u64 u65 qu63 qu64 qu65 ru63 P66 => ?_))
                  have Sm := jSm_tr rfl Sm S59
                  have eu60 := (show 0 ≤ u60.toInt ∧ u60.toInt ≤ 400 from qu60 ▸ jrg_f J sg_125_10_11_1_0_1)
                  have eu61 := (show 0 ≤ u61.toInt ∧ u61.toInt ≤ 400 from qu61 ▸ jrg_f J sg_125_8_9_1_0_1)
                  have eu62 := (show 0 ≤ u62.toInt ∧ u62.toInt ≤ 400 from qu62 ▸ jrg_f J sg_125_9_10_1_0_1)
                  have eu63 := (show 0 ≤ u63.toInt ∧ u63.toInt ≤ 3 from qu63 ▸ jrg_f J sg_125_11_12_1_0_1)
                  obtain rfl : u62 = u64 := qu62.symm.trans qu64
                  obtain rfl : u60 = u65 := qu60.symm.trans qu65
                  show jX m_X12_readPlain 6 0 0 97 [(1, .int (-1)), (0, .ref 125)] [.int v67] _ 0 0 _
                  refine x_iret rfl rfl ?_
                  exact hQ _ _ (jr_of rfl (by omega)) J Sm _ _ _ qu60 qu61 qu62 (by omega) _ _ _ qu63 qu62 qu60 (by omega) P66
                ·
                  refine x_iconst (v := 1) rfl ki_1 ?_
                  refine x_goto (tgt := 22) rfl rfl ?_
                  refine x_zret rfl rfl (by decide) ?_
                  show jX m_X12_plainAt 5 0 0 67 [(0, .ref 125)] [.int 1] _ 0 0 _
                  refine x_ifeq (tgt := 75) rfl rfl (ti_eq jk_1 jk_0 (br_f (by omega) ?_))
                  refine x_bipush (v := 17) rfl kb_17 ?_
                  refine x_goto (tgt := 76) rfl rfl ?_
                  refine x_iret rfl rfl ?_
                  show jX m_X12_readPlain 6 0 0 44 [(0, .ref 125)] [.int 17] _ 0 0 _
                  refine x_istoren (lsx9 := [(1, .int 17), (0, .ref 125)]) rfl rfl rfl ?_
                  refine x_iloadn (x := 17) rfl rfl ?_
                  refine x_iconst (v := (-1)) rfl ki_m1 ?_
                  refine x_iceq (tgt := 93) rfl rfl (ti_eq jk_17 jk_m1 (br_f (by omega) ?_))
                  refine x_aloadn (x := 125) rfl rfl ?_
                  refine x_aloadn (x := 125) rfl rfl ?_
                  refine z_getI (N := 92) 12 52 rfl f_12_542 rfl J rfl sg_125_52_53_1_0_1 (fun v68 qv68 ev68 => ?_)
                  refine x_bipush (v := 60) rfl kb_60 ?_
                  refine x_icge (tgt := 64) rfl rfl (ti_ge rfl jk_60 ⟨fun c69 => ?_, fun c69 => ?_⟩)
                  ·
                    refine x_iconst (v := 0) rfl ki_0 ?_
                    exact jX.sub (jsb_c rfl (jsb_c rfl jsb_n)) (ct_X12_readPlain_r125_200065 hA hN hD hQ  17 p0 p3 p1 p2 h (jr_of jk_17 (by omega)) (jr_of rfl (by omega)) (jr_of rfl (by omega)) (jr_of rfl (by omega)) (jr_of rfl (by omega)) jsa_0 (by omega) (by omega) zp0 zp3 zp1 zp2 J Sm)
                  ·
                    refine x_iconst (v := 1) rfl ki_1 ?_
                    refine x_goto (tgt := 65) rfl rfl ?_
                    exact jX.sub (jsb_c rfl (jsb_c rfl jsb_n)) (ct_X12_readPlain_r125_300065 hA hN hD hQ  17 p0 p3 v68 p1 p2 h (jr_of jk_17 (by omega)) (jr_of rfl (by omega)) (jr_of rfl (by omega)) (jr_of rfl (by omega)) (jr_of rfl (by omega)) (jr_of rfl (by omega)) jsa_0 (by omega) (by omega) (by omega) zp0 zp3 qv68 zp1 zp2 J Sm)
              ·
                refine x_iconst (v := 1) rfl ki_1 ?_
                refine x_goto (tgt := 22) rfl rfl ?_
                refine x_zret rfl rfl (by decide) ?_
                show jX m_X12_plainAt 5 0 0 52 [(0, .ref 125)] [.int 1] _ 0 0 _
                refine x_ifeq (tgt := 60) rfl rfl (ti_eq jk_1 jk_0 (br_f (by omega) ?_))
                refine x_bipush (v := 16) rfl kb_16 ?_
                refine x_goto (tgt := 76) rfl rfl ?_
                refine x_iret rfl rfl ?_
                show jX m_X12_readPlain 6 0 0 44 [(0, .ref 125)] [.int 16] _ 0 0 _
                refine x_istoren (lsx9 := [(1, .int 16), (0, .ref 125)]) rfl rfl rfl ?_
                refine x_iloadn (x := 16) rfl rfl ?_
                refine x_iconst (v := (-1)) rfl ki_m1 ?_
                refine x_iceq (tgt := 93) rfl rfl (ti_eq jk_16 jk_m1 (br_f (by omega) ?_))
                refine x_aloadn (x := 125) rfl rfl ?_
                refine x_aloadn (x := 125) rfl rfl ?_
                refine z_getI (N := 92) 12 52 rfl f_12_542 rfl J rfl sg_125_52_53_1_0_1 (fun v70 qv70 ev70 => ?_)
                refine x_bipush (v := 60) rfl kb_60 ?_
                refine x_icge (tgt := 64) rfl rfl (ti_ge rfl jk_60 ⟨fun c71 => ?_, fun c71 => ?_⟩)
                ·
                  refine x_iconst (v := 0) rfl ki_0 ?_
                  exact jX.sub (jsb_c rfl (jsb_c rfl jsb_n)) (ct_X12_readPlain_r125_200065 hA hN hD hQ  16 p0 p3 p1 p2 h (jr_of jk_16 (by omega)) (jr_of rfl (by omega)) (jr_of rfl (by omega)) (jr_of rfl (by omega)) (jr_of rfl (by omega)) jsa_0 (by omega) (by omega) zp0 zp3 zp1 zp2 J Sm)
                ·
                  refine x_iconst (v := 1) rfl ki_1 ?_
                  refine x_goto (tgt := 65) rfl rfl ?_
                  exact jX.sub (jsb_c rfl (jsb_c rfl jsb_n)) (ct_X12_readPlain_r125_300065 hA hN hD hQ  16 p0 p3 v70 p1 p2 h (jr_of jk_16 (by omega)) (jr_of rfl (by omega)) (jr_of rfl (by omega)) (jr_of rfl (by omega)) (jr_of rfl (by omega)) (jr_of rfl (by omega)) jsa_0 (by omega) (by omega) (by omega) zp0 zp3 qv70 zp1 zp2 J Sm)
            ·
              refine x_iconst (v := 1) rfl ki_1 ?_
              refine x_goto (tgt := 22) rfl rfl ?_
              refine x_zret rfl rfl (by decide) ?_
              show jX m_X12_plainAt 5 0 0 37 [(0, .ref 125)] [.int 1] _ 0 0 _
              refine x_ifeq (tgt := 45) rfl rfl (ti_eq jk_1 jk_0 (br_f (by omega) ?_))
              refine x_bipush (v := 15) rfl kb_15 ?_
              refine x_goto (tgt := 76) rfl rfl ?_
              refine x_iret rfl rfl ?_
              show jX m_X12_readPlain 6 0 0 44 [(0, .ref 125)] [.int 15] _ 0 0 _
              refine x_istoren (lsx9 := [(1, .int 15), (0, .ref 125)]) rfl rfl rfl ?_
              refine x_iloadn (x := 15) rfl rfl ?_
              refine x_iconst (v := (-1)) rfl ki_m1 ?_
              refine x_iceq (tgt := 93) rfl rfl (ti_eq jk_15 jk_m1 (br_f (by omega) ?_))
              refine x_aloadn (x := 125) rfl rfl ?_
              refine x_aloadn (x := 125) rfl rfl ?_
              refine z_getI (N := 92) 12 52 rfl f_12_542 rfl J rfl sg_125_52_53_1_0_1 (fun v72 qv72 ev72 => ?_)
              refine x_bipush (v := 60) rfl kb_60 ?_
              refine x_icge (tgt := 64) rfl rfl (ti_ge rfl jk_60 ⟨fun c73 => ?_, fun c73 => ?_⟩)
              ·
                refine x_iconst (v := 0) rfl ki_0 ?_
                exact jX.sub (jsb_c rfl (jsb_c rfl jsb_n)) (ct_X12_readPlain_r125_200065 hA hN hD hQ  15 p0 p3 p1 p2 h (jr_of jk_15 (by omega)) (jr_of rfl (by omega)) (jr_of rfl (by omega)) (jr_of rfl (by omega)) (jr_of rfl (by omega)) jsa_0 (by omega) (by omega) zp0 zp3 zp1 zp2 J Sm)
              ·
                refine x_iconst (v := 1) rfl ki_1 ?_
                refine x_goto (tgt := 65) rfl rfl ?_
                exact jX.sub (jsb_c rfl (jsb_c rfl jsb_n)) (ct_X12_readPlain_r125_300065 hA hN hD hQ  15 p0 p3 v72 p1 p2 h (jr_of jk_15 (by omega)) (jr_of rfl (by omega)) (jr_of rfl (by omega)) (jr_of rfl (by omega)) (jr_of rfl (by omega)) (jr_of rfl (by omega)) jsa_0 (by omega) (by omega) (by omega) zp0 zp3 qv72 zp1 zp2 J Sm)
        ·
          refine x_aloadn (x := 125) rfl rfl ?_
          refine z_getL0 (N := 92) 12 12 rfl f_12_224 rfl J rfl (fun v74 => ?_)
          have ev74 := jfullL v74
          refine x_lloadn (x := 136228) rfl rfl ?_
          refine z_lcmp rfl rfl jkl_136228 (fun v75 ev75 => ?_)
          refine x_ifne (tgt := 21) rfl rfl (ti_ne rfl jk_0 ⟨fun c76 => ?_, fun c76 => ?_⟩)
          ·
            refine x_iconst (v := 0) rfl ki_0 ?_
            refine x_zret rfl rfl (by decide) ?_
            show jX m_X12_plainAt 5 0 0 22 [(0, .ref 125)] [.int 0] _ 0 0 _
            refine x_ifeq (tgt := 30) rfl rfl (ti_eq jk_0 jk_0 (br_t (by omega) ?_))
            refine x_aloadn (x := 125) rfl rfl ?_
            refine x_ldc2 (v := 540146) rfl z_12_527 ?_
            refine x_inv (N := m_X12_isWord) (As := [.long 540146]) (b := 125) (st := []) (dx9 := 4) (mc := 0) (ms := 0) (host := "") 12 rfl t_X12_isWord ⟨Or.inl q_12_511, i_X12_isWord.1, i_X12_isWord.2⟩ ⟨by decide, rfl⟩ (congrArg Prod.fst (J.1.1 125 (12, 92) rfl)) rfl (by decide) rfl rfl ⟨by decide, by decide⟩ (jC.of rfl k_X12_isWord rfl ?_)
            show jX m_X12_isWord 4 0 0 0 [(0, .ref 125), (1, .long 540146)] [] _ 0 0 _
            refine x_aloadn (x := 125) rfl rfl ?_
            refine z_getM (N := 92) (v := p3) 12 11 rfl f_12_235 rfl J rfl zp3 ?_
            refine x_iconst (v := 1) rfl ki_1 ?_
            refine x_icne (tgt := 21) rfl rfl (ti_ne rfl jk_1 (bn_f (by omega) ?_))
            refine x_aloadn (x := 125) rfl rfl ?_
            refine z_getL0 (N := 92) 12 12 rfl f_12_224 rfl J rfl (fun v77 => ?_)
            have ev77 := jfullL v77
            refine x_lloadn (x := 540146) rfl rfl ?_
            refine z_lcmp rfl rfl jkl_540146 (fun v78 ev78 => ?_)
            refine x_ifne (tgt := 21) rfl rfl (ti_ne rfl jk_0 ⟨fun c79 => ?_, fun c79 => ?_⟩)
            ·
              refine x_iconst (v := 0) rfl ki_0 ?_
              refine x_zret rfl rfl (by decide) ?_
              show jX m_X12_plainAt 5 0 0 37 [(0, .ref 125)] [.int 0] _ 0 0 _
              refine x_ifeq (tgt := 45) rfl rfl (ti_eq jk_0 jk_0 (br_t (by omega) ?_))
              refine x_aloadn (x := 125) rfl rfl ?_
              refine x_ldc2 (v := 8892563) rfl z_12_529 ?_
              refine x_inv (N := m_X12_isWord) (As := [.long 8892563]) (b := 125) (st := []) (dx9 := 4) (mc := 0) (ms := 0) (host := "") 12 rfl t_X12_isWord ⟨Or.inl q_12_511, i_X12_isWord.1, i_X12_isWord.2⟩ ⟨by decide, rfl⟩ (congrArg Prod.fst (J.1.1 125 (12, 92) rfl)) rfl (by decide) rfl rfl ⟨by decide, by decide⟩ (jC.of rfl k_X12_isWord rfl ?_)
              show jX m_X12_isWord 4 0 0 0 [(0, .ref 125), (1, .long 8892563)] [] _ 0 0 _
              refine x_aloadn (x := 125) rfl rfl ?_
              refine z_getM (N := 92) (v := p3) 12 11 rfl f_12_235 rfl J rfl zp3 ?_
              refine x_iconst (v := 1) rfl ki_1 ?_
              refine x_icne (tgt := 21) rfl rfl (ti_ne rfl jk_1 (bn_f (by omega) ?_))
              refine x_aloadn (x := 125) rfl rfl ?_
              refine z_getL0 (N := 92) 12 12 rfl f_12_224 rfl J rfl (fun v80 => ?_)
              have ev80 := jfullL v80
              refine x_lloadn (x := 8892563) rfl rfl ?_
              refine z_lcmp rfl rfl jkl_8892563 (fun v81 ev81 => ?_)
              refine x_ifne (tgt := 21) rfl rfl (ti_ne rfl jk_0 ⟨fun c82 => ?_, fun c82 => ?_⟩)
              ·
                refine x_iconst (v := 0) rfl ki_0 ?_
                refine x_zret rfl rfl (by decide) ?_
                show jX m_X12_plainAt 5 0 0 52 [(0, .ref 125)] [.int 0] _ 0 0 _
                refine x_ifeq (tgt := 60) rfl rfl (ti_eq jk_0 jk_0 (br_t (by omega) ?_))
                refine x_aloadn (x := 125) rfl rfl ?_
                refine x_ldc2 (v := 3490341659812) rfl z_12_531 ?_
                refine x_inv (N := m_X12_isWord) (As := [.long 3490341659812]) (b := 125) (st := []) (dx9 := 4) (mc := 0) (ms := 0) (host := "") 12 rfl t_X12_isWord ⟨Or.inl q_12_511, i_X12_isWord.1, i_X12_isWord.2⟩ ⟨by decide, rfl⟩ (congrArg Prod.fst (J.1.1 125 (12, 92) rfl)) rfl (by decide) rfl rfl ⟨by decide, by decide⟩ (jC.of rfl k_X12_isWord rfl ?_)
                show jX m_X12_isWord 4 0 0 0 [(0, .ref 125), (1, .long 3490341659812)] [] _ 0 0 _
                refine x_aloadn (x := 125) rfl rfl ?_
                refine z_getM (N := 92) (v := p3) 12 11 rfl f_12_235 rfl J rfl zp3 ?_
                refine x_iconst (v := 1) rfl ki_1 ?_
                refine x_icne (tgt := 21) rfl rfl (ti_ne rfl jk_1 (bn_f (by omega) ?_))
                refine x_aloadn (x := 125) rfl rfl ?_
                refine z_getL0 (N := 92) 12 12 rfl f_12_224 rfl J rfl (fun v83 => ?_)
                have ev83 := jfullL v83
                refine x_lloadn (x := 3490341659812) rfl rfl ?_
                refine z_lcmp rfl rfl jkl_3490341659812 (fun v84 ev84 => ?_)
                refine x_ifne (tgt := 21) rfl rfl (ti_ne rfl jk_0 ⟨fun c85 => ?_, fun c85 => ?_⟩)
                ·
                  refine x_iconst (v := 0) rfl ki_0 ?_
                  refine x_zret rfl rfl (by decide) ?_
                  show jX m_X12_plainAt 5 0 0 67 [(0, .ref 125)] [.int 0] _ 0 0 _
                  refine x_ifeq (tgt := 75) rfl rfl (ti_eq jk_0 jk_0 (br_t (by omega) ?_))
                  refine x_iconst (v := (-1)) rfl ki_m1 ?_
                  refine x_iret rfl rfl ?_
                  show jX m_X12_readPlain 6 0 0 44 [(0, .ref 125)] [.int (-1)] _ 0 0 _
                  refine x_istoren (lsx9 := [(1, .int (-1)), (0, .ref 125)]) rfl rfl rfl ?_
                  refine x_iloadn (x := (-1)) rfl rfl ?_
                  refine x_iconst (v := (-1)) rfl ki_m1 ?_
                  refine x_iceq (tgt := 93) rfl rfl (ti_eq jk_m1 jk_m1 (br_t (by omega) ?_))
                  refine x_aloadn (x := 125) rfl rfl ?_
                  refine x_inv (N := m_X12_readSum) (As := []) (b := 125) (st := []) (dx9 := 5) (mc := 0) (ms := 0) (host := "") 12 rfl t_X12_readSum ⟨Or.inl q_12_569, i_X12_readSum.1, i_X12_readSum.2⟩ ⟨by decide, rfl⟩ (congrArg Prod.fst (J.1.1 125 (12, 92) rfl)) rfl (by decide) rfl rfl ⟨by decide, by decide⟩ (sf_X12_readSum_r125  hA hD J zp0 zp1 zp2 (by omega) zp3 zp2 zp0 (by omega)  (fun v94 h ev94 J S86 u87 u88 u89 qu87 qu88 qu89 ru87 u90 u91 u92 qu90 qu91 qu92 ru90 P93 => ?_))
                  have Sm := jSm_tr rfl Sm S86
                  have eu87 := (show 0 ≤ u87.toInt ∧ u87.toInt ≤ 400 from qu87 ▸ jrg_f J sg_125_10_11_1_0_1)
                  have eu88 := (show 0 ≤ u88.toInt ∧ u88.toInt ≤ 400 from qu88 ▸ jrg_f J sg_125_8_9_1_0_1)
                  have eu89 := (show 0 ≤ u89.toInt ∧ u89.toInt ≤ 400 from qu89 ▸ jrg_f J sg_125_9_10_1_0_1)
                  have eu90 := (show 0 ≤ u90.toInt ∧ u90.toInt ≤ 3 from qu90 ▸ jrg_f J sg_125_11_12_1_0_1)
                  obtain rfl : u89 = u91 := qu89.symm.trans qu91
                  obtain rfl : u87 = u92 := qu87.symm.trans qu92
                  show jX m_X12_readPlain 6 0 0 97 [(1, .int (-1)), (0, .ref 125)] [.int v94] _ 0 0 _
                  refine x_iret rfl rfl ?_
                  exact hQ _ _ (jr_of rfl (by omega)) J Sm _ _ _ qu87 qu88 qu89 (by omega) _ _ _ qu90 qu89 qu87 (by omega) P93
                ·
                  refine x_iconst (v := 1) rfl ki_1 ?_
                  refine x_goto (tgt := 22) rfl rfl ?_
                  refine x_zret rfl rfl (by decide) ?_
                  show jX m_X12_plainAt 5 0 0 67 [(0, .ref 125)] [.int 1] _ 0 0 _
                  refine x_ifeq (tgt := 75) rfl rfl (ti_eq jk_1 jk_0 (br_f (by omega) ?_))
                  refine x_bipush (v := 17) rfl kb_17 ?_
                  refine x_goto (tgt := 76) rfl rfl ?_
                  refine x_iret rfl rfl ?_
                  show jX m_X12_readPlain 6 0 0 44 [(0, .ref 125)] [.int 17] _ 0 0 _
                  refine x_istoren (lsx9 := [(1, .int 17), (0, .ref 125)]) rfl rfl rfl ?_
                  refine x_iloadn (x := 17) rfl rfl ?_
                  refine x_iconst (v := (-1)) rfl ki_m1 ?_
                  refine x_iceq (tgt := 93) rfl rfl (ti_eq jk_17 jk_m1 (br_f (by omega) ?_))
                  refine x_aloadn (x := 125) rfl rfl ?_
                  refine x_aloadn (x := 125) rfl rfl ?_
                  refine z_getI (N := 92) 12 52 rfl f_12_542 rfl J rfl sg_125_52_53_1_0_1 (fun v95 qv95 ev95 => ?_)
                  refine x_bipush (v := 60) rfl kb_60 ?_
                  refine x_icge (tgt := 64) rfl rfl (ti_ge rfl jk_60 ⟨fun c96 => ?_, fun c96 => ?_⟩)
                  ·
                    refine x_iconst (v := 0) rfl ki_0 ?_
                    exact jX.sub (jsb_c rfl (jsb_c rfl jsb_n)) (ct_X12_readPlain_r125_200065 hA hN hD hQ  17 p0 p3 p1 p2 h (jr_of jk_17 (by omega)) (jr_of rfl (by omega)) (jr_of rfl (by omega)) (jr_of rfl (by omega)) (jr_of rfl (by omega)) jsa_0 (by omega) (by omega) zp0 zp3 zp1 zp2 J Sm)
                  ·
                    refine x_iconst (v := 1) rfl ki_1 ?_
                    refine x_goto (tgt := 65) rfl rfl ?_
                    exact jX.sub (jsb_c rfl (jsb_c rfl jsb_n)) (ct_X12_readPlain_r125_300065 hA hN hD hQ  17 p0 p3 v95 p1 p2 h (jr_of jk_17 (by omega)) (jr_of rfl (by omega)) (jr_of rfl (by omega)) (jr_of rfl (by omega)) (jr_of rfl (by omega)) (jr_of rfl (by omega)) jsa_0 (by omega) (by omega) (by omega) zp0 zp3 qv95 zp1 zp2 J Sm)
              ·
                refine x_iconst (v := 1) rfl ki_1 ?_
                refine x_goto (tgt := 22) rfl rfl ?_
                refine x_zret rfl rfl (by decide) ?_
                show jX m_X12_plainAt 5 0 0 52 [(0, .ref 125)] [.int 1] _ 0 0 _
                refine x_ifeq (tgt := 60) rfl rfl (ti_eq jk_1 jk_0 (br_f (by omega) ?_))
                refine x_bipush (v := 16) rfl kb_16 ?_
                refine x_goto (tgt := 76) rfl rfl ?_
                refine x_iret rfl rfl ?_
                show jX m_X12_readPlain 6 0 0 44 [(0, .ref 125)] [.int 16] _ 0 0 _
                refine x_istoren (lsx9 := [(1, .int 16), (0, .ref 125)]) rfl rfl rfl ?_
                refine x_iloadn (x := 16) rfl rfl ?_
                refine x_iconst (v := (-1)) rfl ki_m1 ?_
                refine x_iceq (tgt := 93) rfl rfl (ti_eq jk_16 jk_m1 (br_f (by omega) ?_))
                refine x_aloadn (x := 125) rfl rfl ?_
                refine x_aloadn (x := 125) rfl rfl ?_
                refine z_getI (N := 92) 12 52 rfl f_12_542 rfl J rfl sg_125_52_53_1_0_1 (fun v97 qv97 ev97 => ?_)
                refine x_bipush (v := 60) rfl kb_60 ?_
                refine x_icge (tgt := 64) rfl rfl (ti_ge rfl jk_60 ⟨fun c98 => ?_, fun c98 => ?_⟩)
                ·
                  refine x_iconst (v := 0) rfl ki_0 ?_
                  exact jX.sub (jsb_c rfl (jsb_c rfl jsb_n)) (ct_X12_readPlain_r125_200065 hA hN hD hQ  16 p0 p3 p1 p2 h (jr_of jk_16 (by omega)) (jr_of rfl (by omega)) (jr_of rfl (by omega)) (jr_of rfl (by omega)) (jr_of rfl (by omega)) jsa_0 (by omega) (by omega) zp0 zp3 zp1 zp2 J Sm)
                ·
                  refine x_iconst (v := 1) rfl ki_1 ?_
                  refine x_goto (tgt := 65) rfl rfl ?_
                  exact jX.sub (jsb_c rfl (jsb_c rfl jsb_n)) (ct_X12_readPlain_r125_300065 hA hN hD hQ  16 p0 p3 v97 p1 p2 h (jr_of jk_16 (by omega)) (jr_of rfl (by omega)) (jr_of rfl (by omega)) (jr_of rfl (by omega)) (jr_of rfl (by omega)) (jr_of rfl (by omega)) jsa_0 (by omega) (by omega) (by omega) zp0 zp3 qv97 zp1 zp2 J Sm)
            ·
              refine x_iconst (v := 1) rfl ki_1 ?_
              refine x_goto (tgt := 22) rfl rfl ?_
              refine x_zret rfl rfl (by decide) ?_
              show jX m_X12_plainAt 5 0 0 37 [(0, .ref 125)] [.int 1] _ 0 0 _
              refine x_ifeq (tgt := 45) rfl rfl (ti_eq jk_1 jk_0 (br_f (by omega) ?_))
              refine x_bipush (v := 15) rfl kb_15 ?_
              refine x_goto (tgt := 76) rfl rfl ?_
              refine x_iret rfl rfl ?_
              show jX m_X12_readPlain 6 0 0 44 [(0, .ref 125)] [.int 15] _ 0 0 _
              refine x_istoren (lsx9 := [(1, .int 15), (0, .ref 125)]) rfl rfl rfl ?_
              refine x_iloadn (x := 15) rfl rfl ?_
              refine x_iconst (v := (-1)) rfl ki_m1 ?_
              refine x_iceq (tgt := 93) rfl rfl (ti_eq jk_15 jk_m1 (br_f (by omega) ?_))
              refine x_aloadn (x := 125) rfl rfl ?_
              refine x_aloadn (x := 125) rfl rfl ?_
              refine z_getI (N := 92) 12 52 rfl f_12_542 rfl J rfl sg_125_52_53_1_0_1 (fun v99 qv99 ev99 => ?_)
              refine x_bipush (v := 60) rfl kb_60 ?_
              refine x_icge (tgt := 64) rfl rfl (ti_ge rfl jk_60 ⟨fun c100 => ?_, fun c100 => ?_⟩)
              ·
                refine x_iconst (v := 0) rfl ki_0 ?_
                exact jX.sub (jsb_c rfl (jsb_c rfl jsb_n)) (ct_X12_readPlain_r125_200065 hA hN hD hQ  15 p0 p3 p1 p2 h (jr_of jk_15 (by omega)) (jr_of rfl (by omega)) (jr_of rfl (by omega)) (jr_of rfl (by omega)) (jr_of rfl (by omega)) jsa_0 (by omega) (by omega) zp0 zp3 zp1 zp2 J Sm)
              ·
                refine x_iconst (v := 1) rfl ki_1 ?_
                refine x_goto (tgt := 65) rfl rfl ?_
                exact jX.sub (jsb_c rfl (jsb_c rfl jsb_n)) (ct_X12_readPlain_r125_300065 hA hN hD hQ  15 p0 p3 v99 p1 p2 h (jr_of jk_15 (by omega)) (jr_of rfl (by omega)) (jr_of rfl (by omega)) (jr_of rfl (by omega)) (jr_of rfl (by omega)) (jr_of rfl (by omega)) jsa_0 (by omega) (by omega) (by omega) zp0 zp3 qv99 zp1 zp2 J Sm)
          ·
            refine x_iconst (v := 1) rfl ki_1 ?_
            refine x_goto (tgt := 22) rfl rfl ?_
            refine x_zret rfl rfl (by decide) ?_
            show jX m_X12_plainAt 5 0 0 22 [(0, .ref 125)] [.int 1] _ 0 0 _
            refine x_ifeq (tgt := 30) rfl rfl (ti_eq jk_1 jk_0 (br_f (by omega) ?_))
            refine x_bipush (v := 14) rfl kb_14 ?_
            refine x_goto (tgt := 76) rfl rfl ?_
            refine x_iret rfl rfl ?_
            show jX m_X12_readPlain 6 0 0 44 [(0, .ref 125)] [.int 14] _ 0 0 _
            refine x_istoren (lsx9 := [(1, .int 14), (0, .ref 125)]) rfl rfl rfl ?_
            refine x_iloadn (x := 14) rfl rfl ?_
            refine x_iconst (v := (-1)) rfl ki_m1 ?_
            refine x_iceq (tgt := 93) rfl rfl (ti_eq jk_14 jk_m1 (br_f (by omega) ?_))
            refine x_aloadn (x := 125) rfl rfl ?_
            refine x_aloadn (x := 125) rfl rfl ?_
            refine z_getI (N := 92) 12 52 rfl f_12_542 rfl J rfl sg_125_52_53_1_0_1 (fun v101 qv101 ev101 => ?_)
            refine x_bipush (v := 60) rfl kb_60 ?_
            refine x_icge (tgt := 64) rfl rfl (ti_ge rfl jk_60 ⟨fun c102 => ?_, fun c102 => ?_⟩)
            ·
              refine x_iconst (v := 0) rfl ki_0 ?_
              exact jX.sub (jsb_c rfl (jsb_c rfl jsb_n)) (ct_X12_readPlain_r125_200065 hA hN hD hQ  14 p0 p3 p1 p2 h (jr_of jk_14 (by omega)) (jr_of rfl (by omega)) (jr_of rfl (by omega)) (jr_of rfl (by omega)) (jr_of rfl (by omega)) jsa_0 (by omega) (by omega) zp0 zp3 zp1 zp2 J Sm)
            ·
              refine x_iconst (v := 1) rfl ki_1 ?_
              refine x_goto (tgt := 65) rfl rfl ?_
              exact jX.sub (jsb_c rfl (jsb_c rfl jsb_n)) (ct_X12_readPlain_r125_300065 hA hN hD hQ  14 p0 p3 v101 p1 p2 h (jr_of jk_14 (by omega)) (jr_of rfl (by omega)) (jr_of rfl (by omega)) (jr_of rfl (by omega)) (jr_of rfl (by omega)) (jr_of rfl (by omega)) jsa_0 (by omega) (by omega) (by omega) zp0 zp3 qv101 zp1 zp2 J Sm)
      ·
        refine x_aloadn (x := 125) rfl rfl ?_
        refine z_getL0 (N := 92) 12 12 rfl f_12_224 rfl J rfl (fun v103 => ?_)
        have ev103 := jfullL v103
        refine x_lloadn (x := 14011671716) rfl rfl ?_
        refine z_lcmp rfl rfl jkl_14011671716 (fun v104 ev104 => ?_)
        refine x_ifne (tgt := 21) rfl rfl (ti_ne rfl jk_0 ⟨fun c105 => ?_, fun c105 => ?_⟩)
        ·
          refine x_iconst (v := 0) rfl ki_0 ?_
          refine x_zret rfl rfl (by decide) ?_
          show jX m_X12_plainAt 5 0 0 7 [(0, .ref 125)] [.int 0] _ 0 0 _
          refine x_ifeq (tgt := 15) rfl rfl (ti_eq jk_0 jk_0 (br_t (by omega) ?_))
          refine x_aloadn (x := 125) rfl rfl ?_
          refine x_ldc2 (v := 136228) rfl z_12_525 ?_
          refine x_inv (N := m_X12_isWord) (As := [.long 136228]) (b := 125) (st := []) (dx9 := 4) (mc := 0) (ms := 0) (host := "") 12 rfl t_X12_isWord ⟨Or.inl q_12_511, i_X12_isWord.1, i_X12_isWord.2⟩ ⟨by decide, rfl⟩ (congrArg Prod.fst (J.1.1 125 (12, 92) rfl)) rfl (by decide) rfl rfl ⟨by decide, by decide⟩ (jC.of rfl k_X12_isWord rfl ?_)
          show jX m_X12_isWord 4 0 0 0 [(0, .ref 125), (1, .long 136228)] [] _ 0 0 _
          refine x_aloadn (x := 125) rfl rfl ?_
          refine z_getM (N := 92) (v := p3) 12 11 rfl f_12_235 rfl J rfl zp3 ?_
          refine x_iconst (v := 1) rfl ki_1 ?_
          refine x_icne (tgt := 21) rfl rfl (ti_ne rfl jk_1 (bn_f (by omega) ?_))
          refine x_aloadn (x := 125) rfl rfl ?_
          refine z_getL0 (N := 92) 12 12 rfl f_12_224 rfl J rfl (fun v106 => ?_)
          have ev106 := jfullL v106
          refine x_lloadn (x := 136228) rfl rfl ?_
          refine z_lcmp rfl rfl jkl_136228 (fun v107 ev107 => ?_)
          refine x_ifne (tgt := 21) rfl rfl (ti_ne rfl jk_0 ⟨fun c108 => ?_, fun c108 => ?_⟩)
          ·
            refine x_iconst (v := 0) rfl ki_0 ?_
            refine x_zret rfl rfl (by decide) ?_
            show jX m_X12_plainAt 5 0 0 22 [(0, .ref 125)] [.int 0] _ 0 0 _
            refine x_ifeq (tgt := 30) rfl rfl (ti_eq jk_0 jk_0 (br_t (by omega) ?_))
            refine x_aloadn (x := 125) rfl rfl ?_
            refine x_ldc2 (v := 540146) rfl z_12_527 ?_
            refine x_inv (N := m_X12_isWord) (As := [.long 540146]) (b := 125) (st := []) (dx9 := 4) (mc := 0) (ms := 0) (host := "") 12 rfl t_X12_isWord ⟨Or.inl q_12_511, i_X12_isWord.1, i_X12_isWord.2⟩ ⟨by decide, rfl⟩ (congrArg Prod.fst (J.1.1 125 (12, 92) rfl)) rfl (by decide) rfl rfl ⟨by decide, by decide⟩ (jC.of rfl k_X12_isWord rfl ?_)
            show jX m_X12_isWord 4 0 0 0 [(0, .ref 125), (1, .long 540146)] [] _ 0 0 _
            refine x_aloadn (x := 125) rfl rfl ?_
            refine z_getM (N := 92) (v := p3) 12 11 rfl f_12_235 rfl J rfl zp3 ?_
            refine x_iconst (v := 1) rfl ki_1 ?_
            refine x_icne (tgt := 21) rfl rfl (ti_ne rfl jk_1 (bn_f (by omega) ?_))
            refine x_aloadn (x := 125) rfl rfl ?_
            refine z_getL0 (N := 92) 12 12 rfl f_12_224 rfl J rfl (fun v109 => ?_)
            have ev109 := jfullL v109
            refine x_lloadn (x := 540146) rfl rfl ?_
            refine z_lcmp rfl rfl jkl_540146 (fun v110 ev110 => ?_)
            refine x_ifne (tgt := 21) rfl rfl (ti_ne rfl jk_0 ⟨fun c111 => ?_, fun c111 => ?_⟩)
            ·
              refine x_iconst (v := 0) rfl ki_0 ?_
              refine x_zret rfl rfl (by decide) ?_
              show jX m_X12_plainAt 5 0 0 37 [(0, .ref 125)] [.int 0] _ 0 0 _
              refine x_ifeq (tgt := 45) rfl rfl (ti_eq jk_0 jk_0 (br_t (by omega) ?_))
              refine x_aloadn (x := 125) rfl rfl ?_
              refine x_ldc2 (v := 8892563) rfl z_12_529 ?_
              refine x_inv (N := m_X12_isWord) (As := [.long 8892563]) (b := 125) (st := []) (dx9 := 4) (mc := 0) (ms := 0) (host := "") 12 rfl t_X12_isWord ⟨Or.inl q_12_511, i_X12_isWord.1, i_X12_isWord.2⟩ ⟨by decide, rfl⟩ (congrArg Prod.fst (J.1.1 125 (12, 92) rfl)) rfl (by decide) rfl rfl ⟨by decide, by decide⟩ (jC.of rfl k_X12_isWord rfl ?_)
              show jX m_X12_isWord 4 0 0 0 [(0, .ref 125), (1, .long 8892563)] [] _ 0 0 _
              refine x_aloadn (x := 125) rfl rfl ?_
              refine z_getM (N := 92) (v := p3) 12 11 rfl f_12_235 rfl J rfl zp3 ?_
              refine x_iconst (v := 1) rfl ki_1 ?_
              refine x_icne (tgt := 21) rfl rfl (ti_ne rfl jk_1 (bn_f (by omega) ?_))
              refine x_aloadn (x := 125) rfl rfl ?_
              refine z_getL0 (N := 92) 12 12 rfl f_12_224 rfl J rfl (fun v112 => ?_)
              have ev112 := jfullL v112
              refine x_lloadn (x := 8892563) rfl rfl ?_
              refine z_lcmp rfl rfl jkl_8892563 (fun v113 ev113 => ?_)
              refine x_ifne (tgt := 21) rfl rfl (ti_ne rfl jk_0 ⟨fun c114 => ?_, fun c114 => ?_⟩)
              ·
                refine x_iconst (v := 0) rfl ki_0 ?_
                refine x_zret rfl rfl (by decide) ?_
                show jX m_X12_plainAt 5 0 0 52 [(0, .ref 125)] [.int 0] _ 0 0 _
                refine x_ifeq (tgt := 60) rfl rfl (ti_eq jk_0 jk_0 (br_t (by omega) ?_))
                refine x_aloadn (x := 125) rfl rfl ?_
                refine x_ldc2 (v := 3490341659812) rfl z_12_531 ?_
                refine x_inv (N := m_X12_isWord) (As := [.long 3490341659812]) (b := 125) (st := []) (dx9 := 4) (mc := 0) (ms := 0) (host := "") 12 rfl t_X12_isWord ⟨Or.inl q_12_511, i_X12_isWord.1, i_X12_isWord.2⟩ ⟨by decide, rfl⟩ (congrArg Prod.fst (J.1.1 125 (12, 92) rfl)) rfl (by decide) rfl rfl ⟨by decide, by decide⟩ (jC.of rfl k_X12_isWord rfl ?_)
                show jX m_X12_isWord 4 0 0 0 [(0, .ref 125), (1, .long 3490341659812)] [] _ 0 0 _
                refine x_aloadn (x := 125) rfl rfl ?_
                refine z_getM (N := 92) (v := p3) 12 11 rfl f_12_235 rfl J rfl zp3 ?_
                refine x_iconst (v := 1) rfl ki_1 ?_
                refine x_icne (tgt := 21) rfl rfl (ti_ne rfl jk_1 (bn_f (by omega) ?_))
                refine x_aloadn (x := 125) rfl rfl ?_
                refine z_getL0 (N := 92) 12 12 rfl f_12_224 rfl J rfl (fun v115 => ?_)
                have ev115 := jfullL v115
                refine x_lloadn (x := 3490341659812) rfl rfl ?_
                refine z_lcmp rfl rfl jkl_3490341659812 (fun v116 ev116 => ?_)
                refine x_ifne (tgt := 21) rfl rfl (ti_ne rfl jk_0 ⟨fun c117 => ?_, fun c117 => ?_⟩)
                ·
                  refine x_iconst (v := 0) rfl ki_0 ?_
                  refine x_zret rfl rfl (by decide) ?_
                  show jX m_X12_plainAt 5 0 0 67 [(0, .ref 125)] [.int 0] _ 0 0 _
                  refine x_ifeq (tgt := 75) rfl rfl (ti_eq jk_0 jk_0 (br_t (by omega) ?_))
                  refine x_iconst (v := (-1)) rfl ki_m1 ?_
                  refine x_iret rfl rfl ?_
                  show jX m_X12_readPlain 6 0 0 44 [(0, .ref 125)] [.int (-1)] _ 0 0 _
                  refine x_istoren (lsx9 := [(1, .int (-1)), (0, .ref 125)]) rfl rfl rfl ?_
                  refine x_iloadn (x := (-1)) rfl rfl ?_
                  refine x_iconst (v := (-1)) rfl ki_m1 ?_
                  refine x_iceq (tgt := 93) rfl rfl (ti_eq jk_m1 jk_m1 (br_t (by omega) ?_))
                  refine x_aloadn (x := 125) rfl rfl ?_
                  refine x_inv (N := m_X12_readSum) (As := []) (b := 125) (st := []) (dx9 := 5) (mc := 0) (ms := 0) (host := "") 12 rfl t_X12_readSum ⟨Or.inl q_12_569, i_X12_readSum.1, i_X12_readSum.2⟩ ⟨by decide, rfl⟩ (congrArg Prod.fst (J.1.1 125 (12, 92) rfl)) rfl (by decide) rfl rfl ⟨by decide, by decide⟩ (sf_X12_readSum_r125  hA hD J zp0 zp1 zp2 (by omega) zp3 zp2 zp0 (by omega)  (fun v126 h ev126 J S118 u119 u120 u121 qu119 qu120 qu121 ru119 u122 u123 u124 qu122 qu123 qu124 ru122 P125 => ?_))
                  have Sm := jSm_tr rfl Sm S118
                  have eu119 := (show 0 ≤ u119.toInt ∧ u119.toInt ≤ 400 from qu119 ▸ jrg_f J sg_125_10_11_1_0_1)
                  have eu120 := (show 0 ≤ u120.toInt ∧ u120.toInt ≤ 400 from qu120 ▸ jrg_f J sg_125_8_9_1_0_1)
                  have eu121 := (show 0 ≤ u121.toInt ∧ u121.toInt ≤ 400 from qu121 ▸ jrg_f J sg_125_9_10_1_0_1)
                  have eu122 := (show 0 ≤ u122.toInt ∧ u122.toInt ≤ 3 from qu122 ▸ jrg_f J sg_125_11_12_1_0_1)
                  obtain rfl : u121 = u123 := qu121.symm.trans qu123
                  obtain rfl : u119 = u124 := qu119.symm.trans qu124
                  show jX m_X12_readPlain 6 0 0 97 [(1, .int (-1)), (0, .ref 125)] [.int v126] _ 0 0 _
                  refine x_iret rfl rfl ?_
                  exact hQ _ _ (jr_of rfl (by omega)) J Sm _ _ _ qu119 qu120 qu121 (by omega) _ _ _ qu122 qu121 qu119 (by omega) P125
                ·
                  refine x_iconst (v := 1) rfl ki_1 ?_
                  refine x_goto (tgt := 22) rfl rfl ?_
                  refine x_zret rfl rfl (by decide) ?_
                  show jX m_X12_plainAt 5 0 0 67 [(0, .ref 125)] [.int 1] _ 0 0 _
                  refine x_ifeq (tgt := 75) rfl rfl (ti_eq jk_1 jk_0 (br_f (by omega) ?_))
                  refine x_bipush (v := 17) rfl kb_17 ?_
                  refine x_goto (tgt := 76) rfl rfl ?_
                  refine x_iret rfl rfl ?_
                  show jX m_X12_readPlain 6 0 0 44 [(0, .ref 125)] [.int 17] _ 0 0 _
                  refine x_istoren (lsx9 := [(1, .int 17), (0, .ref 125)]) rfl rfl rfl ?_
                  refine x_iloadn (x := 17) rfl rfl ?_
                  refine x_iconst (v := (-1)) rfl ki_m1 ?_
                  refine x_iceq (tgt := 93) rfl rfl (ti_eq jk_17 jk_m1 (br_f (by omega) ?_))
                  refine x_aloadn (x := 125) rfl rfl ?_
                  refine x_aloadn (x := 125) rfl rfl ?_
                  refine z_getI (N := 92) 12 52 rfl f_12_542 rfl J rfl sg_125_52_53_1_0_1 (fun v127 qv127 ev127 => ?_)
                  refine x_bipush (v := 60) rfl kb_60 ?_
                  refine x_icge (tgt := 64) rfl rfl (ti_ge rfl jk_60 ⟨fun c128 => ?_, fun c128 => ?_⟩)
                  ·
                    refine x_iconst (v := 0) rfl ki_0 ?_
                    exact jX.sub (jsb_c rfl (jsb_c rfl jsb_n)) (ct_X12_readPlain_r125_200065 hA hN hD hQ  17 p0 p3 p1 p2 h (jr_of jk_17 (by omega)) (jr_of rfl (by omega)) (jr_of rfl (by omega)) (jr_of rfl (by omega)) (jr_of rfl (by omega)) jsa_0 (by omega) (by omega) zp0 zp3 zp1 zp2 J Sm)
                  ·
                    refine x_iconst (v := 1) rfl ki_1 ?_
                    refine x_goto (tgt := 65) rfl rfl ?_
                    exact jX.sub (jsb_c rfl (jsb_c rfl jsb_n)) (ct_X12_readPlain_r125_300065 hA hN hD hQ  17 p0 p3 v127 p1 p2 h (jr_of jk_17 (by omega)) (jr_of rfl (by omega)) (jr_of rfl (by omega)) (jr_of rfl (by omega)) (jr_of rfl (by omega)) (jr_of rfl (by omega)) jsa_0 (by omega) (by omega) (by omega) zp0 zp3 qv127 zp1 zp2 J Sm)
              ·
                refine x_iconst (v := 1) rfl ki_1 ?_
                refine x_goto (tgt := 22) rfl rfl ?_
                refine x_zret rfl rfl (by decide) ?_
                show jX m_X12_plainAt 5 0 0 52 [(0, .ref 125)] [.int 1] _ 0 0 _
                refine x_ifeq (tgt := 60) rfl rfl (ti_eq jk_1 jk_0 (br_f (by omega) ?_))
                refine x_bipush (v := 16) rfl kb_16 ?_
                refine x_goto (tgt := 76) rfl rfl ?_
                refine x_iret rfl rfl ?_
                show jX m_X12_readPlain 6 0 0 44 [(0, .ref 125)] [.int 16] _ 0 0 _
                refine x_istoren (lsx9 := [(1, .int 16), (0, .ref 125)]) rfl rfl rfl ?_
                refine x_iloadn (x := 16) rfl rfl ?_
                refine x_iconst (v := (-1)) rfl ki_m1 ?_
                refine x_iceq (tgt := 93) rfl rfl (ti_eq jk_16 jk_m1 (br_f (by omega) ?_))
                refine x_aloadn (x := 125) rfl rfl ?_
                refine x_aloadn (x := 125) rfl rfl ?_
                refine z_getI (N := 92) 12 52 rfl f_12_542 rfl J rfl sg_125_52_53_1_0_1 (fun v129 qv129 ev129 => ?_)
                refine x_bipush (v := 60) rfl kb_60 ?_
                refine x_icge (tgt := 64) rfl rfl (ti_ge rfl jk_60 ⟨fun c130 => ?_, fun c130 => ?_⟩)
                ·
                  refine x_iconst (v := 0) rfl ki_0 ?_
                  exact jX.sub (jsb_c rfl (jsb_c rfl jsb_n)) (ct_X12_readPlain_r125_200065 hA hN hD hQ  16 p0 p3 p1 p2 h (jr_of jk_16 (by omega)) (jr_of rfl (by omega)) (jr_of rfl (by omega)) (jr_of rfl (by omega)) (jr_of rfl (by omega)) jsa_0 (by omega) (by omega) zp0 zp3 zp1 zp2 J Sm)
                ·
                  refine x_iconst (v := 1) rfl ki_1 ?_
                  refine x_goto (tgt := 65) rfl rfl ?_
                  exact jX.sub (jsb_c rfl (jsb_c rfl jsb_n)) (ct_X12_readPlain_r125_300065 hA hN hD hQ  16 p0 p3 v129 p1 p2 h (jr_of jk_16 (by omega)) (jr_of rfl (by omega)) (jr_of rfl (by omega)) (jr_of rfl (by omega)) (jr_of rfl (by omega)) (jr_of rfl (by omega)) jsa_0 (by omega) (by omega) (by omega) zp0 zp3 qv129 zp1 zp2 J Sm)
            ·
              refine x_iconst (v := 1) rfl ki_1 ?_
              refine x_goto (tgt := 22) rfl rfl ?_
              refine x_zret rfl rfl (by decide) ?_
              show jX m_X12_plainAt 5 0 0 37 [(0, .ref 125)] [.int 1] _ 0 0 _
              refine x_ifeq (tgt := 45) rfl rfl (ti_eq jk_1 jk_0 (br_f (by omega) ?_))
              refine x_bipush (v := 15) rfl kb_15 ?_
              refine x_goto (tgt := 76) rfl rfl ?_
              refine x_iret rfl rfl ?_
              show jX m_X12_readPlain 6 0 0 44 [(0, .ref 125)] [.int 15] _ 0 0 _
              refine x_istoren (lsx9 := [(1, .int 15), (0, .ref 125)]) rfl rfl rfl ?_
              refine x_iloadn (x := 15) rfl rfl ?_
              refine x_iconst (v := (-1)) rfl ki_m1 ?_
              refine x_iceq (tgt := 93) rfl rfl (ti_eq jk_15 jk_m1 (br_f (by omega) ?_))
              refine x_aloadn (x := 125) rfl rfl ?_
              refine x_aloadn (x := 125) rfl rfl ?_
              refine z_getI (N := 92) 12 52 rfl f_12_542 rfl J rfl sg_125_52_53_1_0_1 (fun v131 qv131 ev131 => ?_)
              refine x_bipush (v := 60) rfl kb_60 ?_
              refine x_icge (tgt := 64) rfl rfl (ti_ge rfl jk_60 ⟨fun c132 => ?_, fun c132 => ?_⟩)
              ·
                refine x_iconst (v := 0) rfl ki_0 ?_
                exact jX.sub (jsb_c rfl (jsb_c rfl jsb_n)) (ct_X12_readPlain_r125_200065 hA hN hD hQ  15 p0 p3 p1 p2 h (jr_of jk_15 (by omega)) (jr_of rfl (by omega)) (jr_of rfl (by omega)) (jr_of rfl (by omega)) (jr_of rfl (by omega)) jsa_0 (by omega) (by omega) zp0 zp3 zp1 zp2 J Sm)
              ·
                refine x_iconst (v := 1) rfl ki_1 ?_
                refine x_goto (tgt := 65) rfl rfl ?_
                exact jX.sub (jsb_c rfl (jsb_c rfl jsb_n)) (ct_X12_readPlain_r125_300065 hA hN hD hQ  15 p0 p3 v131 p1 p2 h (jr_of jk_15 (by omega)) (jr_of rfl (by omega)) (jr_of rfl (by omega)) (jr_of rfl (by omega)) (jr_of rfl (by omega)) (jr_of rfl (by omega)) jsa_0 (by omega) (by omega) (by omega) zp0 zp3 qv131 zp1 zp2 J Sm)
          ·
            refine x_iconst (v := 1) rfl ki_1 ?_
            refine x_goto (tgt := 22) rfl rfl ?_
            refine x_zret rfl rfl (by decide) ?_
            show jX m_X12_plainAt 5 0 0 22 [(0, .ref 125)] [.int 1] _ 0 0 _
            refine x_ifeq (tgt := 30) rfl rfl (ti_eq jk_1 jk_0 (br_f (by omega) ?_))
            refine x_bipush (v := 14) rfl kb_14 ?_
            refine x_goto (tgt := 76) rfl rfl ?_
            refine x_iret rfl rfl ?_
            show jX m_X12_readPlain 6 0 0 44 [(0, .ref 125)] [.int 14] _ 0 0 _
            refine x_istoren (lsx9 := [(1, .int 14), (0, .ref 125)]) rfl rfl rfl ?_
            refine x_iloadn (x := 14) rfl rfl ?_
            refine x_iconst (v := (-1)) rfl ki_m1 ?_
            refine x_iceq (tgt := 93) rfl rfl (ti_eq jk_14 jk_m1 (br_f (by omega) ?_))
            refine x_aloadn (x := 125) rfl rfl ?_
            refine x_aloadn (x := 125) rfl rfl ?_
            refine z_getI (N := 92) 12 52 rfl f_12_542 rfl J rfl sg_125_52_53_1_0_1 (fun v133 qv133 ev133 => ?_)
            refine x_bipush (v := 60) rfl kb_60 ?_
            refine x_icge (tgt := 64) rfl rfl (ti_ge rfl jk_60 ⟨fun c134 => ?_, fun c134 => ?_⟩)
            ·
              refine x_iconst (v := 0) rfl ki_0 ?_
              exact jX.sub (jsb_c rfl (jsb_c rfl jsb_n)) (ct_X12_readPlain_r125_200065 hA hN hD hQ  14 p0 p3 p1 p2 h (jr_of jk_14 (by omega)) (jr_of rfl (by omega)) (jr_of rfl (by omega)) (jr_of rfl (by omega)) (jr_of rfl (by omega)) jsa_0 (by omega) (by omega) zp0 zp3 zp1 zp2 J Sm)
            ·
              refine x_iconst (v := 1) rfl ki_1 ?_
              refine x_goto (tgt := 65) rfl rfl ?_
              exact jX.sub (jsb_c rfl (jsb_c rfl jsb_n)) (ct_X12_readPlain_r125_300065 hA hN hD hQ  14 p0 p3 v133 p1 p2 h (jr_of jk_14 (by omega)) (jr_of rfl (by omega)) (jr_of rfl (by omega)) (jr_of rfl (by omega)) (jr_of rfl (by omega)) (jr_of rfl (by omega)) jsa_0 (by omega) (by omega) (by omega) zp0 zp3 qv133 zp1 zp2 J Sm)
        ·
          refine x_iconst (v := 1) rfl ki_1 ?_
          refine x_goto (tgt := 22) rfl rfl ?_
          refine x_zret rfl rfl (by decide) ?_
          show jX m_X12_plainAt 5 0 0 7 [(0, .ref 125)] [.int 1] _ 0 0 _
          refine x_ifeq (tgt := 15) rfl rfl (ti_eq jk_1 jk_0 (br_f (by omega) ?_))
          refine x_bipush (v := 13) rfl kb_13 ?_
          refine x_goto (tgt := 76) rfl rfl ?_
          refine x_iret rfl rfl ?_
          show jX m_X12_readPlain 6 0 0 44 [(0, .ref 125)] [.int 13] _ 0 0 _
          refine x_istoren (lsx9 := [(1, .int 13), (0, .ref 125)]) rfl rfl rfl ?_
          refine x_iloadn (x := 13) rfl rfl ?_
          refine x_iconst (v := (-1)) rfl ki_m1 ?_
          refine x_iceq (tgt := 93) rfl rfl (ti_eq jk_13 jk_m1 (br_f (by omega) ?_))
          refine x_aloadn (x := 125) rfl rfl ?_
          refine x_aloadn (x := 125) rfl rfl ?_
          refine z_getI (N := 92) 12 52 rfl f_12_542 rfl J rfl sg_125_52_53_1_0_1 (fun v135 qv135 ev135 => ?_)
          refine x_bipush (v := 60) rfl kb_60 ?_
          refine x_icge (tgt := 64) rfl rfl (ti_ge rfl jk_60 ⟨fun c136 => ?_, fun c136 => ?_⟩)
          ·
            refine x_iconst (v := 0) rfl ki_0 ?_
            exact jX.sub (jsb_c rfl (jsb_c rfl jsb_n)) (ct_X12_readPlain_r125_200065 hA hN hD hQ  13 p0 p3 p1 p2 h (jr_of jk_13 (by omega)) (jr_of rfl (by omega)) (jr_of rfl (by omega)) (jr_of rfl (by omega)) (jr_of rfl (by omega)) jsa_0 (by omega) (by omega) zp0 zp3 zp1 zp2 J Sm)
          ·
            refine x_iconst (v := 1) rfl ki_1 ?_
            refine x_goto (tgt := 65) rfl rfl ?_
            exact jX.sub (jsb_c rfl (jsb_c rfl jsb_n)) (ct_X12_readPlain_r125_300065 hA hN hD hQ  13 p0 p3 v135 p1 p2 h (jr_of jk_13 (by omega)) (jr_of rfl (by omega)) (jr_of rfl (by omega)) (jr_of rfl (by omega)) (jr_of rfl (by omega)) (jr_of rfl (by omega)) jsa_0 (by omega) (by omega) (by omega) zp0 zp3 qv135 zp1 zp2 J Sm)
    ·
      refine x_aloadn (x := 125) rfl rfl ?_
      refine z_getL0 (N := 92) 12 12 rfl f_12_224 rfl J rfl (fun v137 => ?_)
      have ev137 := jfullL v137
      refine x_iloadn (x := 40) rfl rfl ?_
      refine z_i2l rfl jk_40 (fun v138 ev138 => ?_)
      refine z_lcmp rfl rfl rfl (fun v139 ev139 => ?_)
      refine x_ifne (tgt := 22) rfl rfl (ti_ne rfl jk_0 ⟨fun c140 => ?_, fun c140 => ?_⟩)
      ·
        refine x_iconst (v := 0) rfl ki_0 ?_
        refine x_zret rfl rfl (by decide) ?_
        show jX m_X12_readPlain 6 0 0 29 [(0, .ref 125)] [.int 0] _ 0 0 _
        refine x_ifeq (tgt := 40) rfl rfl (ti_eq jk_0 jk_0 (br_t (by omega) ?_))
        refine x_aloadn (x := 125) rfl rfl ?_
        refine x_inv (N := m_X12_plainAt) (As := []) (b := 125) (st := []) (dx9 := 5) (mc := 0) (ms := 0) (host := "") 12 rfl t_X12_plainAt ⟨Or.inl q_12_566, i_X12_plainAt.1, i_X12_plainAt.2⟩ ⟨by decide, rfl⟩ (congrArg Prod.fst (J.1.1 125 (12, 92) rfl)) rfl (by decide) rfl rfl ⟨by decide, by decide⟩ (jC.of rfl k_X12_plainAt rfl ?_)
        show jX m_X12_plainAt 5 0 0 0 [(0, .ref 125)] [] _ 0 0 _
        refine x_aloadn (x := 125) rfl rfl ?_
        refine x_ldc2 (v := 14011671716) rfl z_12_523 ?_
        refine x_inv (N := m_X12_isWord) (As := [.long 14011671716]) (b := 125) (st := []) (dx9 := 4) (mc := 0) (ms := 0) (host := "") 12 rfl t_X12_isWord ⟨Or.inl q_12_511, i_X12_isWord.1, i_X12_isWord.2⟩ ⟨by decide, rfl⟩ (congrArg Prod.fst (J.1.1 125 (12, 92) rfl)) rfl (by decide) rfl rfl ⟨by decide, by decide⟩ (jC.of rfl k_X12_isWord rfl ?_)
        show jX m_X12_isWord 4 0 0 0 [(0, .ref 125), (1, .long 14011671716)] [] _ 0 0 _
        refine x_aloadn (x := 125) rfl rfl ?_
        refine z_getM (N := 92) (v := p3) 12 11 rfl f_12_235 rfl J rfl zp3 ?_
        refine x_iconst (v := 1) rfl ki_1 ?_
        refine x_icne (tgt := 21) rfl rfl (ti_ne rfl jk_1 (bn_t (by omega) ?_))
        refine x_iconst (v := 0) rfl ki_0 ?_
        refine x_zret rfl rfl (by decide) ?_
        show jX m_X12_plainAt 5 0 0 7 [(0, .ref 125)] [.int 0] _ 0 0 _
        refine x_ifeq (tgt := 15) rfl rfl (ti_eq jk_0 jk_0 (br_t (by omega) ?_))
        refine x_aloadn (x := 125) rfl rfl ?_
        refine x_ldc2 (v := 136228) rfl z_12_525 ?_
        refine x_inv (N := m_X12_isWord) (As := [.long 136228]) (b := 125) (st := []) (dx9 := 4) (mc := 0) (ms := 0) (host := "") 12 rfl t_X12_isWord ⟨Or.inl q_12_511, i_X12_isWord.1, i_X12_isWord.2⟩ ⟨by decide, rfl⟩ (congrArg Prod.fst (J.1.1 125 (12, 92) rfl)) rfl (by decide) rfl rfl ⟨by decide, by decide⟩ (jC.of rfl k_X12_isWord rfl ?_)
        show jX m_X12_isWord 4 0 0 0 [(0, .ref 125), (1, .long 136228)] [] _ 0 0 _
        refine x_aloadn (x := 125) rfl rfl ?_
        refine z_getM (N := 92) (v := p3) 12 11 rfl f_12_235 rfl J rfl zp3 ?_
        refine x_iconst (v := 1) rfl ki_1 ?_
        refine x_icne (tgt := 21) rfl rfl (ti_ne rfl jk_1 (bn_t (by omega) ?_))
        refine x_iconst (v := 0) rfl ki_0 ?_
        refine x_zret rfl rfl (by decide) ?_
        show jX m_X12_plainAt 5 0 0 22 [(0, .ref 125)] [.int 0] _ 0 0 _
        refine x_ifeq (tgt := 30) rfl rfl (ti_eq jk_0 jk_0 (br_t (by omega) ?_))
        refine x_aloadn (x := 125) rfl rfl ?_
        refine x_ldc2 (v := 540146) rfl z_12_527 ?_
        refine x_inv (N := m_X12_isWord) (As := [.long 540146]) (b := 125) (st := []) (dx9 := 4) (mc := 0) (ms := 0) (host := "") 12 rfl t_X12_isWord ⟨Or.inl q_12_511, i_X12_isWord.1, i_X12_isWord.2⟩ ⟨by decide, rfl⟩ (congrArg Prod.fst (J.1.1 125 (12, 92) rfl)) rfl (by decide) rfl rfl ⟨by decide, by decide⟩ (jC.of rfl k_X12_isWord rfl ?_)
        show jX m_X12_isWord 4 0 0 0 [(0, .ref 125), (1, .long 540146)] [] _ 0 0 _
        refine x_aloadn (x := 125) rfl rfl ?_
        refine z_getM (N := 92) (v := p3) 12 11 rfl f_12_235 rfl J rfl zp3 ?_
        refine x_iconst (v := 1) rfl ki_1 ?_
        refine x_icne (tgt := 21) rfl rfl (ti_ne rfl jk_1 (bn_t (by omega) ?_))
        refine x_iconst (v := 0) rfl ki_0 ?_
        refine x_zret rfl rfl (by decide) ?_
        show jX m_X12_plainAt 5 0 0 37 [(0, .ref 125)] [.int 0] _ 0 0 _
        refine x_ifeq (tgt := 45) rfl rfl (ti_eq jk_0 jk_0 (br_t (by omega) ?_))
        refine x_aloadn (x := 125) rfl rfl ?_
        refine x_ldc2 (v := 8892563) rfl z_12_529 ?_
        refine x_inv (N := m_X12_isWord) (As := [.long 8892563]) (b := 125) (st := []) (dx9 := 4) (mc := 0) (ms := 0) (host := "") 12 rfl t_X12_isWord ⟨Or.inl q_12_511, i_X12_isWord.1, i_X12_isWord.2⟩ ⟨by decide, rfl⟩ (congrArg Prod.fst (J.1.1 125 (12, 92) rfl)) rfl (by decide) rfl rfl ⟨by decide, by decide⟩ (jC.of rfl k_X12_isWord rfl ?_)
        show jX m_X12_isWord 4 0 0 0 [(0, .ref 125), (1, .long 8892563)] [] _ 0 0 _
        refine x_aloadn (x := 125) rfl rfl ?_
        refine z_getM (N := 92) (v := p3) 12 11 rfl f_12_235 rfl J rfl zp3 ?_
        refine x_iconst (v := 1) rfl ki_1 ?_
        refine x_icne (tgt := 21) rfl rfl (ti_ne rfl jk_1 (bn_t (by omega) ?_))
        refine x_iconst (v := 0) rfl ki_0 ?_
        refine x_zret rfl rfl (by decide) ?_
        show jX m_X12_plainAt 5 0 0 52 [(0, .ref 125)] [.int 0] _ 0 0 _
        refine x_ifeq (tgt := 60) rfl rfl (ti_eq jk_0 jk_0 (br_t (by omega) ?_))
        refine x_aloadn (x := 125) rfl rfl ?_
        refine x_ldc2 (v := 3490341659812) rfl z_12_531 ?_
        refine x_inv (N := m_X12_isWord) (As := [.long 3490341659812]) (b := 125) (st := []) (dx9 := 4) (mc := 0) (ms := 0) (host := "") 12 rfl t_X12_isWord ⟨Or.inl q_12_511, i_X12_isWord.1, i_X12_isWord.2⟩ ⟨by decide, rfl⟩ (congrArg Prod.fst (J.1.1 125 (12, 92) rfl)) rfl (by decide) rfl rfl ⟨by decide, by decide⟩ (jC.of rfl k_X12_isWord rfl ?_)
        show jX m_X12_isWord 4 0 0 0 [(0, .ref 125), (1, .long 3490341659812)] [] _ 0 0 _
        refine x_aloadn (x := 125) rfl rfl ?_
        refine z_getM (N := 92) (v := p3) 12 11 rfl f_12_235 rfl J rfl zp3 ?_
        refine x_iconst (v := 1) rfl ki_1 ?_
        refine x_icne (tgt := 21) rfl rfl (ti_ne rfl jk_1 (bn_t (by omega) ?_))
        refine x_iconst (v := 0) rfl ki_0 ?_
        refine x_zret rfl rfl (by decide) ?_
        show jX m_X12_plainAt 5 0 0 67 [(0, .ref 125)] [.int 0] _ 0 0 _
        refine x_ifeq (tgt := 75) rfl rfl (ti_eq jk_0 jk_0 (br_t (by omega) ?_))
        refine x_iconst (v := (-1)) rfl ki_m1 ?_
        refine x_iret rfl rfl ?_
        show jX m_X12_readPlain 6 0 0 44 [(0, .ref 125)] [.int (-1)] _ 0 0 _
        refine x_istoren (lsx9 := [(1, .int (-1)), (0, .ref 125)]) rfl rfl rfl ?_
        refine x_iloadn (x := (-1)) rfl rfl ?_
        refine x_iconst (v := (-1)) rfl ki_m1 ?_
        refine x_iceq (tgt := 93) rfl rfl (ti_eq jk_m1 jk_m1 (br_t (by omega) ?_))
        refine x_aloadn (x := 125) rfl rfl ?_
        refine x_inv (N := m_X12_readSum) (As := []) (b := 125) (st := []) (dx9 := 5) (mc := 0) (ms := 0) (host := "") 12 rfl t_X12_readSum ⟨Or.inl q_12_569, i_X12_readSum.1, i_X12_readSum.2⟩ ⟨by decide, rfl⟩ (congrArg Prod.fst (J.1.1 125 (12, 92) rfl)) rfl (by decide) rfl rfl ⟨by decide, by decide⟩ (sf_X12_readSum_r125  hA hD J zp0 zp1 zp2 (by omega) zp3 zp2 zp0 (by omega)  (fun v149 h ev149 J S141 u142 u143 u144 qu142 qu143 qu144 ru142 u145 u146 u147 qu145 qu146 qu147 ru145 P148 => ?_))
        have Sm := jSm_tr rfl Sm S141
        have eu142 := (show 0 ≤ u142.toInt ∧ u142.toInt ≤ 400 from qu142 ▸ jrg_f J sg_125_10_11_1_0_1)
        have eu143 := (show 0 ≤ u143.toInt ∧ u143.toInt ≤ 400 from qu143 ▸ jrg_f J sg_125_8_9_1_0_1)
        have eu144 := (show 0 ≤ u144.toInt ∧ u144.toInt ≤ 400 from qu144 ▸ jrg_f J sg_125_9_10_1_0_1)
        have eu145 := (show 0 ≤ u145.toInt ∧ u145.toInt ≤ 3 from qu145 ▸ jrg_f J sg_125_11_12_1_0_1)
        obtain rfl : u144 = u146 := qu144.symm.trans qu146
        obtain rfl : u142 = u147 := qu142.symm.trans qu147
        show jX m_X12_readPlain 6 0 0 97 [(1, .int (-1)), (0, .ref 125)] [.int v149] _ 0 0 _
        refine x_iret rfl rfl ?_
        exact hQ _ _ (jr_of rfl (by omega)) J Sm _ _ _ qu142 qu143 qu144 (by omega) _ _ _ qu145 qu144 qu142 (by omega) P148
      ·
        refine x_iconst (v := 1) rfl ki_1 ?_
        refine x_goto (tgt := 23) rfl rfl ?_
        refine x_zret rfl rfl (by decide) ?_
        show jX m_X12_readPlain 6 0 0 29 [(0, .ref 125)] [.int 1] _ 0 0 _
        refine x_ifeq (tgt := 40) rfl rfl (ti_eq jk_1 jk_0 (br_f (by omega) ?_))
        refine x_aloadn (x := 125) rfl rfl ?_
        refine x_bipush (v := 30) rfl kb_30 ?_
        refine x_inv (N := m_X12_open) (As := [.int 30]) (b := 125) (st := []) (dx9 := 5) (mc := 0) (ms := 0) (host := "") 12 rfl t_X12_open ⟨Or.inl q_12_563, i_X12_open.1, i_X12_open.2⟩ ⟨by decide, rfl⟩ (congrArg Prod.fst (J.1.1 125 (12, 92) rfl)) rfl (by decide) rfl rfl ⟨by decide, by decide⟩ (jC.of rfl k_X12_open rfl ?_)
        show jX m_X12_open 5 0 0 0 [(0, .ref 125), (1, .int 30)] [] _ 0 0 _
        refine x_aloadn (x := 125) rfl rfl ?_
        refine x_aloadn (x := 125) rfl rfl ?_
        refine z_getI0 (N := 92) 12 56 rfl f_12_533 rfl J rfl (fun v150 qv150 => ?_)
        have ev150 := jfull v150
        refine x_bipush (v := 8) rfl kb_8 ?_
        refine x_icge (tgt := 14) rfl rfl (ti_ge rfl jk_8 ⟨fun c151 => ?_, fun c151 => ?_⟩)
        ·
          refine x_iconst (v := 0) rfl ki_0 ?_
          refine x_inv (N := m_X12_must) (As := [.int 0]) (b := 125) (st := []) (dx9 := 4) (mc := 0) (ms := 0) (host := "") 12 rfl t_X12_must ⟨Or.inl q_12_250, i_X12_must.1, i_X12_must.2⟩ ⟨by decide, rfl⟩ (congrArg Prod.fst (J.1.1 125 (12, 92) rfl)) rfl (by decide) rfl rfl ⟨by decide, by decide⟩ (jC.of rfl k_X12_must rfl ?_)
          show jX m_X12_must 4 0 0 0 [(0, .ref 125), (1, .int 0)] [] _ 0 0 _
          refine x_aloadn (x := 125) rfl rfl ?_
          refine z_getI (N := 92) 12 14 rfl f_12_214 rfl J rfl sg_125_14_15_1_0_1 (fun v152 qv152 ev152 => ?_)
          refine x_ifne (tgt := 24) rfl rfl (ti_ne rfl jk_0 ⟨fun c153 => ?_, fun c153 => ?_⟩)
          ·
            refine x_aloadn (x := 125) rfl rfl ?_
            refine z_getM (N := 92) (v := v152) 12 14 rfl f_12_214 rfl J rfl qv152 ?_
            refine x_ifne (tgt := 35) rfl rfl (ti_ne rfl jk_0 (bn_t (by omega) ?_))
            refine x_vret rfl rfl ?_
            show jX m_X12_open 5 0 0 18 [(0, .ref 125), (1, .int 30)] [] _ 0 0 _
            refine x_aloadn (x := 125) rfl rfl ?_
            refine z_getM (N := 92) (v := v152) 12 14 rfl f_12_214 rfl J rfl qv152 ?_
            refine x_ifne (tgt := 41) rfl rfl (ti_ne rfl jk_0 (bn_t (by omega) ?_))
            refine x_vret rfl rfl ?_
            show jX m_X12_readPlain 6 0 0 38 [(0, .ref 125)] [] _ 0 0 _
            refine x_iconst (v := 0) rfl ki_0 ?_
            refine x_iret rfl rfl ?_
            exact hQ _ _ (jr_of jk_0 (by omega)) J Sm _ _ _ zp0 zp1 zp2 (by omega) _ _ _ zp3 zp2 zp0 (by omega) (by rw [jk_0]; exact jmu_tb (jmu_bad hA jeq_0 jeq_0 jeq_0 jeq_0 rfl rfl rfl qv152 (by omega)) qv152 (by omega))
          ·
            refine x_iloadn (x := 0) rfl rfl ?_
            refine x_ifne (tgt := 24) rfl rfl (ti_ne jk_0 jk_0 (bn_f (by omega) ?_))
            refine x_aloadn (x := 125) rfl rfl ?_
            refine x_iconst (v := 1) rfl ki_1 ?_
            refine z_putZ (N := 92) (w := 1) 12 14 rfl f_12_214 rfl (jfin_no TX12 RX12 92 rfl rfl) hD J Sm rfl rfl jk_1 (by omega) (pw_125_14 (by omega)) rfl (fun h w154 J Sm => ?_)
            refine x_aloadn (x := 125) rfl rfl ?_
            refine x_aloadn (x := 125) rfl rfl ?_
            refine z_getM (N := 92) (v := p2) 12 9 rfl f_12_221 rfl J rfl (jmo w154 rfl zp2) ?_
            refine z_putI (N := 92) (w := p2.toInt) 12 13 rfl f_12_32 rfl (jfin_no TX12 RX12 92 rfl rfl) hD J Sm rfl rfl rfl (pw_125_13 (by omega)) rfl (fun h w155 J Sm => ?_)
            refine x_aloadn (x := 125) rfl rfl ?_
            refine z_getM (N := 92) (v := 1) 12 14 rfl f_12_214 rfl J rfl (jmo w155 rfl (jmw w154)) ?_
            refine x_ifne (tgt := 35) rfl rfl (ti_ne jk_1 jk_0 (bn_t (by omega) ?_))
            refine x_vret rfl rfl ?_
            show jX m_X12_open 5 0 0 18 [(0, .ref 125), (1, .int 30)] [] _ 0 0 _
            refine x_aloadn (x := 125) rfl rfl ?_
            refine z_getM (N := 92) (v := 1) 12 14 rfl f_12_214 rfl J rfl (jmo w155 rfl (jmw w154)) ?_
            refine x_ifne (tgt := 41) rfl rfl (ti_ne jk_1 jk_0 (bn_t (by omega) ?_))
            refine x_vret rfl rfl ?_
            show jX m_X12_readPlain 6 0 0 38 [(0, .ref 125)] [] _ 0 0 _
            refine x_iconst (v := 0) rfl ki_0 ?_
            refine x_iret rfl rfl ?_
            exact hQ _ _ (jr_of jk_0 (by omega)) J Sm _ _ _ (jmo w155 rfl (jmo w154 rfl zp0)) (jmo w155 rfl (jmo w154 rfl zp1)) (jmo w155 rfl (jmo w154 rfl zp2)) (by omega) _ _ _ (jmo w155 rfl (jmo w154 rfl zp3)) (jmo w155 rfl (jmo w154 rfl zp2)) (jmo w155 rfl (jmo w154 rfl zp0)) (by omega) (by rw [jk_0]; exact jmu_tb (jmu_bad hA (jeq_o w155 rfl (jeq_o w154 rfl jeq_0)) (jeq_o w155 rfl (jeq_o w154 rfl jeq_0)) (jeq_o w155 rfl (jeq_o w154 rfl jeq_0)) (jeq_o w155 rfl (jeq_o w154 rfl jeq_0)) (jmo w155 rfl (jmo w154 rfl rfl)) (jmo w155 rfl (jmo w154 rfl rfl)) (jmo w155 rfl (jmo w154 rfl rfl)) (jmo w155 rfl (jmw w154)) (by decide)) (jmo w155 rfl (jmw w154)) (by decide))
        ·
          refine x_iconst (v := 1) rfl ki_1 ?_
          refine x_goto (tgt := 15) rfl rfl ?_
          refine x_inv (N := m_X12_must) (As := [.int 1]) (b := 125) (st := []) (dx9 := 4) (mc := 0) (ms := 0) (host := "") 12 rfl t_X12_must ⟨Or.inl q_12_250, i_X12_must.1, i_X12_must.2⟩ ⟨by decide, rfl⟩ (congrArg Prod.fst (J.1.1 125 (12, 92) rfl)) rfl (by decide) rfl rfl ⟨by decide, by decide⟩ (jC.of rfl k_X12_must rfl ?_)
          show jX m_X12_must 4 0 0 0 [(0, .ref 125), (1, .int 1)] [] _ 0 0 _
          refine x_aloadn (x := 125) rfl rfl ?_
          refine z_getI (N := 92) 12 14 rfl f_12_214 rfl J rfl sg_125_14_15_1_0_1 (fun v156 qv156 ev156 => ?_)
          refine x_ifne (tgt := 24) rfl rfl (ti_ne rfl jk_0 ⟨fun c157 => ?_, fun c157 => ?_⟩)
          ·
            refine x_aloadn (x := 125) rfl rfl ?_
            refine z_getM (N := 92) (v := v156) 12 14 rfl f_12_214 rfl J rfl qv156 ?_
            refine x_ifne (tgt := 35) rfl rfl (ti_ne rfl jk_0 (bn_t (by omega) ?_))
            refine x_vret rfl rfl ?_
            show jX m_X12_open 5 0 0 18 [(0, .ref 125), (1, .int 30)] [] _ 0 0 _
            refine x_aloadn (x := 125) rfl rfl ?_
            refine z_getM (N := 92) (v := v156) 12 14 rfl f_12_214 rfl J rfl qv156 ?_
            refine x_ifne (tgt := 41) rfl rfl (ti_ne rfl jk_0 (bn_t (by omega) ?_))
            refine x_vret rfl rfl ?_
            show jX m_X12_readPlain 6 0 0 38 [(0, .ref 125)] [] _ 0 0 _
            refine x_iconst (v := 0) rfl ki_0 ?_
            refine x_iret rfl rfl ?_
            exact hQ _ _ (jr_of jk_0 (by omega)) J Sm _ _ _ zp0 zp1 zp2 (by omega) _ _ _ zp3 zp2 zp0 (by omega) (by rw [jk_0]; exact jmu_tb (jmu_bad hA jeq_0 jeq_0 jeq_0 jeq_0 rfl rfl rfl qv156 (by omega)) qv156 (by omega))
          ·
            refine x_iloadn (x := 1) rfl rfl ?_
            refine x_ifne (tgt := 24) rfl rfl (ti_ne jk_1 jk_0 (bn_t (by omega) ?_))
            refine x_aloadn (x := 125) rfl rfl ?_
            refine z_getM (N := 92) (v := v156) 12 14 rfl f_12_214 rfl J rfl qv156 ?_
            refine x_ifne (tgt := 35) rfl rfl (ti_ne rfl jk_0 (bn_f (by omega) ?_))
            refine x_aloadn (x := 125) rfl rfl ?_
            refine x_inv (N := m_X12_next) (As := []) (b := 125) (st := []) (dx9 := 2) (mc := 0) (ms := 0) (host := "") 12 rfl t_X12_next ⟨Or.inl q_12_218, i_X12_next.1, i_X12_next.2⟩ ⟨by decide, rfl⟩ (congrArg Prod.fst (J.1.1 125 (12, 92) rfl)) rfl (by decide) rfl rfl ⟨by decide, by decide⟩ (sf_X12_next_r125  hD J zp0 zp1 (by omega)  (fun h J S158 u159 u160 u161 qu159 qu160 qu161 ru159 u162 u163 u164 qu162 qu163 qu164 ru162 P165 => ?_))
            have Sm := jSm_tr rfl Sm S158
            have eu159 := (show 0 ≤ u159.toInt ∧ u159.toInt ≤ 400 from qu159 ▸ jrg_f J sg_125_10_11_1_0_1)
            have eu160 := (show 0 ≤ u160.toInt ∧ u160.toInt ≤ 400 from qu160 ▸ jrg_f J sg_125_8_9_1_0_1)
            have eu161 := (show 0 ≤ u161.toInt ∧ u161.toInt ≤ 400 from qu161 ▸ jrg_f J sg_125_9_10_1_0_1)
            have eu162 := (show 0 ≤ u162.toInt ∧ u162.toInt ≤ 3 from qu162 ▸ jrg_f J sg_125_11_12_1_0_1)
            obtain rfl : u161 = u163 := qu161.symm.trans qu163
            obtain rfl : u159 = u164 := qu159.symm.trans qu164
            have nfP165 := jnf P165.1 zp0 qu161
            show jX m_X12_must 4 0 0 35 [(0, .ref 125), (1, .int 1)] [] _ 0 0 _
            refine x_vret rfl rfl ?_
            show jX m_X12_open 5 0 0 18 [(0, .ref 125), (1, .int 30)] [] _ 0 0 _
            refine x_aloadn (x := 125) rfl rfl ?_
            refine z_getM (N := 92) (v := v156) 12 14 rfl f_12_214 rfl J rfl (jmc S158 rfl qv156) ?_
            refine x_ifne (tgt := 41) rfl rfl (ti_ne rfl jk_0 (bn_f (by omega) ?_))
            obtain ⟨u166, qu166⟩ : ∃ v : Int32, jiv h 125 55 = v := ⟨_, rfl⟩
            have eu166 := (show 0 ≤ u166.toInt ∧ u166.toInt ≤ 400 from qu166 ▸ jrg_f J sg_125_55_56_1_0_1)
            have lx := jmu_l (jmu_on hA (jeq_c S158 rfl jeq_0) (jeq_c S158 rfl jeq_0) (jeq_c S158 rfl jeq_0) (jeq_c S158 rfl jeq_0) (jmc S158 rfl rfl) (jmc S158 rfl rfl) (jmc S158 rfl rfl) (zp2) qu161 (by omega)) (jmc S158 rfl qv156) (by omega) qu166 (by have := jrg_f J sg_125_9_10_1_0_1; omega)
            refine x_aloadn (x := 125) rfl rfl ?_
            refine x_dup rfl rfl ?_
            refine z_getM (N := 92) (v := v150) 12 56 rfl f_12_533 rfl J rfl (jmc S158 rfl qv150) ?_
            refine x_iconst (v := 1) rfl ki_1 ?_
            refine z_iadd rfl rfl jk_1 (by omega) (fun v167 ev167 => ?_)
            refine z_putI (N := 92) (w := v167.toInt) 12 56 rfl f_12_533 rfl (jfin_no TX12 RX12 92 rfl rfl) hD J Sm rfl rfl rfl (pw_125_56 trivial) rfl (fun h w168 J Sm => ?_)
            refine x_aloadn (x := 125) rfl rfl ?_
            refine x_iloadn (x := 30) rfl rfl ?_
            refine x_iconst (v := 0) rfl ki_0 ?_
            refine x_inv (N := m_X12_push) (As := [.int 30, .int 0]) (b := 125) (st := []) (dx9 := 4) (mc := 0) (ms := 0) (host := "") 12 rfl t_X12_push ⟨Or.inl q_12_536, i_X12_push.1, i_X12_push.2⟩ ⟨by decide, rfl⟩ (congrArg Prod.fst (J.1.1 125 (12, 92) rfl)) rfl (by decide) rfl rfl ⟨by decide, by decide⟩ (jC.of rfl k_X12_push rfl ?_)
            show jX m_X12_push 4 0 0 0 [(0, .ref 125), (1, .int 30), (2, .int 0)] [] _ 0 0 _
            refine x_aloadn (x := 125) rfl rfl ?_
            refine z_getR (N := 92) (b := 150) 12 53 rfl f_12_105 rfl J rfl 16053 ⟨rfl, rfl⟩ rfl ?_
            refine x_aloadn (x := 125) rfl rfl ?_
            refine z_getM (N := 92) (v := u166) 12 55 rfl f_12_496 rfl J rfl (jmo w168 rfl qu166) ?_
            refine x_iloadn (x := 30) rfl rfl ?_
            refine z_iast (N := 400) (l := 0) (u := 400) (w := 30) rfl hD J Sm rfl rfl rfl (by omega) jk_30 (wr_150) rfl (fun h w169 J Sm => ?_)
            refine x_aloadn (x := 125) rfl rfl ?_
            refine z_getR (N := 92) (b := 151) 12 54 rfl f_12_108 rfl J rfl 16054 ⟨rfl, rfl⟩ rfl ?_
            refine x_aloadn (x := 125) rfl rfl ?_
            refine z_getM (N := 92) (v := u166) 12 55 rfl f_12_496 rfl J rfl (jmo w169 rfl (jmo w168 rfl qu166)) ?_
            refine x_iloadn (x := 0) rfl rfl ?_
            refine z_iast (N := 400) (l := 0) (u := 400) (w := 0) rfl hD J Sm rfl rfl rfl (by omega) jk_0 (wr_151) rfl (fun h w170 J Sm => ?_)
            refine x_aloadn (x := 125) rfl rfl ?_
            refine x_dup rfl rfl ?_
            refine z_getM (N := 92) (v := u166) 12 55 rfl f_12_496 rfl J rfl (jmo w170 rfl (jmo w169 rfl (jmo w168 rfl qu166))) ?_
            refine x_iconst (v := 1) rfl ki_1 ?_
            refine z_iadd rfl rfl jk_1 (by omega) (fun v171 ev171 => ?_)
            refine z_putI (N := 92) (w := v171.toInt) 12 55 rfl f_12_496 rfl (jfin_no TX12 RX12 92 rfl rfl) hD J Sm rfl rfl rfl (pw_125_55 (by omega)) rfl (fun h w172 J Sm => ?_)
            refine x_vret rfl rfl ?_
            show jX m_X12_open 5 0 0 41 [(0, .ref 125), (1, .int 30)] [] _ 0 0 _
            refine x_vret rfl rfl ?_
            show jX m_X12_readPlain 6 0 0 38 [(0, .ref 125)] [] _ 0 0 _
            refine x_iconst (v := 0) rfl ki_0 ?_
            refine x_iret rfl rfl ?_
            exact hQ _ _ (jr_of jk_0 (by omega)) J Sm _ _ _ (jmo w172 rfl (jmo w170 rfl (jmo w169 rfl (jmo w168 rfl qu159)))) (jmo w172 rfl (jmo w170 rfl (jmo w169 rfl (jmo w168 rfl qu160)))) (jmo w172 rfl (jmo w170 rfl (jmo w169 rfl (jmo w168 rfl qu161)))) (by omega) _ _ _ (jmo w172 rfl (jmo w170 rfl (jmo w169 rfl (jmo w168 rfl qu162)))) (jmo w172 rfl (jmo w170 rfl (jmo w169 rfl (jmo w168 rfl qu161)))) (jmo w172 rfl (jmo w170 rfl (jmo w169 rfl (jmo w168 rfl qu159)))) (by omega) (by rw [jk_0]; exact op_mark (jmu_on hA (jeq_c S158 rfl jeq_0) (jeq_c S158 rfl jeq_0) (jeq_c S158 rfl jeq_0) (jeq_c S158 rfl jeq_0) (jmc S158 rfl rfl) (jmc S158 rfl rfl) (jmc S158 rfl rfl) (zp2) qu161 (by omega)) (jmc S158 rfl qv156) (by omega) w168 (jmo w168 rfl qu166) w169 w170 w172 (by omega) (Or.inl ⟨by decide, rfl⟩) (Or.inr hN))
  ·
    refine x_aloadn (x := 125) rfl rfl ?_
    refine z_getL0 (N := 92) 12 12 rfl f_12_224 rfl J rfl (fun v173 => ?_)
    have ev173 := jfullL v173
    refine x_lloadn (x := 14836) rfl rfl ?_
    refine z_lcmp rfl rfl jkl_14836 (fun v174 ev174 => ?_)
    refine x_ifne (tgt := 21) rfl rfl (ti_ne rfl jk_0 ⟨fun c175 => ?_, fun c175 => ?_⟩)
    ·
      refine x_iconst (v := 0) rfl ki_0 ?_
      refine x_zret rfl rfl (by decide) ?_
      show jX m_X12_readPlain 6 0 0 7 [(0, .ref 125)] [.int 0] _ 0 0 _
      refine x_ifeq (tgt := 23) rfl rfl (ti_eq jk_0 jk_0 (br_t (by omega) ?_))
      refine x_aloadn (x := 125) rfl rfl ?_
      refine x_bipush (v := 40) rfl kb_40 ?_
      refine x_inv (N := m_X12_isSign) (As := [.int 40]) (b := 125) (st := []) (dx9 := 5) (mc := 0) (ms := 0) (host := "") 12 rfl t_X12_isSign ⟨Or.inl q_12_257, i_X12_isSign.1, i_X12_isSign.2⟩ ⟨by decide, rfl⟩ (congrArg Prod.fst (J.1.1 125 (12, 92) rfl)) rfl (by decide) rfl rfl ⟨by decide, by decide⟩ (jC.of rfl k_X12_isSign rfl ?_)
      show jX m_X12_isSign 5 0 0 0 [(0, .ref 125), (1, .int 40)] [] _ 0 0 _
      refine x_aloadn (x := 125) rfl rfl ?_
      refine z_getM (N := 92) (v := p3) 12 11 rfl f_12_235 rfl J rfl zp3 ?_
      refine x_iconst (v := 3) rfl ki_3 ?_
      refine x_icne (tgt := 22) rfl rfl (ti_ne rfl jk_3 (bn_t (by omega) ?_))
      refine x_iconst (v := 0) rfl ki_0 ?_
      refine x_zret rfl rfl (by decide) ?_
      show jX m_X12_readPlain 6 0 0 29 [(0, .ref 125)] [.int 0] _ 0 0 _
      refine x_ifeq (tgt := 40) rfl rfl (ti_eq jk_0 jk_0 (br_t (by omega) ?_))
      refine x_aloadn (x := 125) rfl rfl ?_
      refine x_inv (N := m_X12_plainAt) (As := []) (b := 125) (st := []) (dx9 := 5) (mc := 0) (ms := 0) (host := "") 12 rfl t_X12_plainAt ⟨Or.inl q_12_566, i_X12_plainAt.1, i_X12_plainAt.2⟩ ⟨by decide, rfl⟩ (congrArg Prod.fst (J.1.1 125 (12, 92) rfl)) rfl (by decide) rfl rfl ⟨by decide, by decide⟩ (jC.of rfl k_X12_plainAt rfl ?_)
      show jX m_X12_plainAt 5 0 0 0 [(0, .ref 125)] [] _ 0 0 _
      refine x_aloadn (x := 125) rfl rfl ?_
      refine x_ldc2 (v := 14011671716) rfl z_12_523 ?_
      refine x_inv (N := m_X12_isWord) (As := [.long 14011671716]) (b := 125) (st := []) (dx9 := 4) (mc := 0) (ms := 0) (host := "") 12 rfl t_X12_isWord ⟨Or.inl q_12_511, i_X12_isWord.1, i_X12_isWord.2⟩ ⟨by decide, rfl⟩ (congrArg Prod.fst (J.1.1 125 (12, 92) rfl)) rfl (by decide) rfl rfl ⟨by decide, by decide⟩ (jC.of rfl k_X12_isWord rfl ?_)
      show jX m_X12_isWord 4 0 0 0 [(0, .ref 125), (1, .long 14011671716)] [] _ 0 0 _
      refine x_aloadn (x := 125) rfl rfl ?_
      refine z_getM (N := 92) (v := p3) 12 11 rfl f_12_235 rfl J rfl zp3 ?_
      refine x_iconst (v := 1) rfl ki_1 ?_
      refine x_icne (tgt := 21) rfl rfl (ti_ne rfl jk_1 (bn_f (by omega) ?_))
      refine x_aloadn (x := 125) rfl rfl ?_
      refine z_getL0 (N := 92) 12 12 rfl f_12_224 rfl J rfl (fun v176 => ?_)
      have ev176 := jfullL v176
      refine x_lloadn (x := 14011671716) rfl rfl ?_
      refine z_lcmp rfl rfl jkl_14011671716 (fun v177 ev177 => ?_)
      refine x_ifne (tgt := 21) rfl rfl (ti_ne rfl jk_0 ⟨fun c178 => ?_, fun c178 => ?_⟩)
      ·
        refine x_iconst (v := 0) rfl ki_0 ?_
        refine x_zret rfl rfl (by decide) ?_
        show jX m_X12_plainAt 5 0 0 7 [(0, .ref 125)] [.int 0] _ 0 0 _
        refine x_ifeq (tgt := 15) rfl rfl (ti_eq jk_0 jk_0 (br_t (by omega) ?_))
        refine x_aloadn (x := 125) rfl rfl ?_
        refine x_ldc2 (v := 136228) rfl z_12_525 ?_
        refine x_inv (N := m_X12_isWord) (As := [.long 136228]) (b := 125) (st := []) (dx9 := 4) (mc := 0) (ms := 0) (host := "") 12 rfl t_X12_isWord ⟨Or.inl q_12_511, i_X12_isWord.1, i_X12_isWord.2⟩ ⟨by decide, rfl⟩ (congrArg Prod.fst (J.1.1 125 (12, 92) rfl)) rfl (by decide) rfl rfl ⟨by decide, by decide⟩ (jC.of rfl k_X12_isWord rfl ?_)
        show jX m_X12_isWord 4 0 0 0 [(0, .ref 125), (1, .long 136228)] [] _ 0 0 _
        refine x_aloadn (x := 125) rfl rfl ?_
        refine z_getM (N := 92) (v := p3) 12 11 rfl f_12_235 rfl J rfl zp3 ?_
        refine x_iconst (v := 1) rfl ki_1 ?_
        refine x_icne (tgt := 21) rfl rfl (ti_ne rfl jk_1 (bn_f (by omega) ?_))
        refine x_aloadn (x := 125) rfl rfl ?_
        refine z_getL0 (N := 92) 12 12 rfl f_12_224 rfl J rfl (fun v179 => ?_)
        have ev179 := jfullL v179
        refine x_lloadn (x := 136228) rfl rfl ?_
        refine z_lcmp rfl rfl jkl_136228 (fun v180 ev180 => ?_)
        refine x_ifne (tgt := 21) rfl rfl (ti_ne rfl jk_0 ⟨fun c181 => ?_, fun c181 => ?_⟩)
        ·
          refine x_iconst (v := 0) rfl ki_0 ?_
          refine x_zret rfl rfl (by decide) ?_
          show jX m_X12_plainAt 5 0 0 22 [(0, .ref 125)] [.int 0] _ 0 0 _
          refine x_ifeq (tgt := 30) rfl rfl (ti_eq jk_0 jk_0 (br_t (by omega) ?_))
          refine x_aloadn (x := 125) rfl rfl ?_
          refine x_ldc2 (v := 540146) rfl z_12_527 ?_
          refine x_inv (N := m_X12_isWord) (As := [.long 540146]) (b := 125) (st := []) (dx9 := 4) (mc := 0) (ms := 0) (host := "") 12 rfl t_X12_isWord ⟨Or.inl q_12_511, i_X12_isWord.1, i_X12_isWord.2⟩ ⟨by decide, rfl⟩ (congrArg Prod.fst (J.1.1 125 (12, 92) rfl)) rfl (by decide) rfl rfl ⟨by decide, by decide⟩ (jC.of rfl k_X12_isWord rfl ?_)
          show jX m_X12_isWord 4 0 0 0 [(0, .ref 125), (1, .long 540146)] [] _ 0 0 _
          refine x_aloadn (x := 125) rfl rfl ?_
          refine z_getM (N := 92) (v := p3) 12 11 rfl f_12_235 rfl J rfl zp3 ?_
          refine x_iconst (v := 1) rfl ki_1 ?_
          refine x_icne (tgt := 21) rfl rfl (ti_ne rfl jk_1 (bn_f (by omega) ?_))
          refine x_aloadn (x := 125) rfl rfl ?_
          refine z_getL0 (N := 92) 12 12 rfl f_12_224 rfl J rfl (fun v182 => ?_)
          have ev182 := jfullL v182
          refine x_lloadn (x := 540146) rfl rfl ?_
          refine z_lcmp rfl rfl jkl_540146 (fun v183 ev183 => ?_)
          refine x_ifne (tgt := 21) rfl rfl (ti_ne rfl jk_0 ⟨fun c184 => ?_, fun c184 => ?_⟩)
          ·
            refine x_iconst (v := 0) rfl ki_0 ?_
            refine x_zret rfl rfl (by decide) ?_
            show jX m_X12_plainAt 5 0 0 37 [(0, .ref 125)] [.int 0] _ 0 0 _
            refine x_ifeq (tgt := 45) rfl rfl (ti_eq jk_0 jk_0 (br_t (by omega) ?_))
            refine x_aloadn (x := 125) rfl rfl ?_
            refine x_ldc2 (v := 8892563) rfl z_12_529 ?_
            refine x_inv (N := m_X12_isWord) (As := [.long 8892563]) (b := 125) (st := []) (dx9 := 4) (mc := 0) (ms := 0) (host := "") 12 rfl t_X12_isWord ⟨Or.inl q_12_511, i_X12_isWord.1, i_X12_isWord.2⟩ ⟨by decide, rfl⟩ (congrArg Prod.fst (J.1.1 125 (12, 92) rfl)) rfl (by decide) rfl rfl ⟨by decide, by decide⟩ (jC.of rfl k_X12_isWord rfl ?_)
            show jX m_X12_isWord 4 0 0 0 [(0, .ref 125), (1, .long 8892563)] [] _ 0 0 _
            refine x_aloadn (x := 125) rfl rfl ?_
            refine z_getM (N := 92) (v := p3) 12 11 rfl f_12_235 rfl J rfl zp3 ?_
            refine x_iconst (v := 1) rfl ki_1 ?_
            refine x_icne (tgt := 21) rfl rfl (ti_ne rfl jk_1 (bn_f (by omega) ?_))
            refine x_aloadn (x := 125) rfl rfl ?_
            refine z_getL0 (N := 92) 12 12 rfl f_12_224 rfl J rfl (fun v185 => ?_)
            have ev185 := jfullL v185
            refine x_lloadn (x := 8892563) rfl rfl ?_
            refine z_lcmp rfl rfl jkl_8892563 (fun v186 ev186 => ?_)
            refine x_ifne (tgt := 21) rfl rfl (ti_ne rfl jk_0 ⟨fun c187 => ?_, fun c187 => ?_⟩)
            ·
              refine x_iconst (v := 0) rfl ki_0 ?_
              refine x_zret rfl rfl (by decide) ?_
              show jX m_X12_plainAt 5 0 0 52 [(0, .ref 125)] [.int 0] _ 0 0 _
              refine x_ifeq (tgt := 60) rfl rfl (ti_eq jk_0 jk_0 (br_t (by omega) ?_))
              refine x_aloadn (x := 125) rfl rfl ?_
              refine x_ldc2 (v := 3490341659812) rfl z_12_531 ?_
              refine x_inv (N := m_X12_isWord) (As := [.long 3490341659812]) (b := 125) (st := []) (dx9 := 4) (mc := 0) (ms := 0) (host := "") 12 rfl t_X12_isWord ⟨Or.inl q_12_511, i_X12_isWord.1, i_X12_isWord.2⟩ ⟨by decide, rfl⟩ (congrArg Prod.fst (J.1.1 125 (12, 92) rfl)) rfl (by decide) rfl rfl ⟨by decide, by decide⟩ (jC.of rfl k_X12_isWord rfl ?_)
              show jX m_X12_isWord 4 0 0 0 [(0, .ref 125), (1, .long 3490341659812)] [] _ 0 0 _
              refine x_aloadn (x := 125) rfl rfl ?_
              refine z_getM (N := 92) (v := p3) 12 11 rfl f_12_235 rfl J rfl zp3 ?_
              refine x_iconst (v := 1) rfl ki_1 ?_
              refine x_icne (tgt := 21) rfl rfl (ti_ne rfl jk_1 (bn_f (by omega) ?_))
              refine x_aloadn (x := 125) rfl rfl ?_
              refine z_getL0 (N := 92) 12 12 rfl f_12_224 rfl J rfl (fun v188 => ?_)
              have ev188 := jfullL v188
              refine x_lloadn (x := 3490341659812) rfl rfl ?_
              refine z_lcmp rfl rfl jkl_3490341659812 (fun v189 ev189 => ?_)
              refine x_ifne (tgt := 21) rfl rfl (ti_ne rfl jk_0 ⟨fun c190 => ?_, fun c190 => ?_⟩)
              ·
                refine x_iconst (v := 0) rfl ki_0 ?_
                refine x_zret rfl rfl (by decide) ?_
                show jX m_X12_plainAt 5 0 0 67 [(0, .ref 125)] [.int 0] _ 0 0 _
                refine x_ifeq (tgt := 75) rfl rfl (ti_eq jk_0 jk_0 (br_t (by omega) ?_))
                refine x_iconst (v := (-1)) rfl ki_m1 ?_
                refine x_iret rfl rfl ?_
                show jX m_X12_readPlain 6 0 0 44 [(0, .ref 125)] [.int (-1)] _ 0 0 _
                refine x_istoren (lsx9 := [(1, .int (-1)), (0, .ref 125)]) rfl rfl rfl ?_
                refine x_iloadn (x := (-1)) rfl rfl ?_
                refine x_iconst (v := (-1)) rfl ki_m1 ?_
                refine x_iceq (tgt := 93) rfl rfl (ti_eq jk_m1 jk_m1 (br_t (by omega) ?_))
                refine x_aloadn (x := 125) rfl rfl ?_
                refine x_inv (N := m_X12_readSum) (As := []) (b := 125) (st := []) (dx9 := 5) (mc := 0) (ms := 0) (host := "") 12 rfl t_X12_readSum ⟨Or.inl q_12_569, i_X12_readSum.1, i_X12_readSum.2⟩ ⟨by decide, rfl⟩ (congrArg Prod.fst (J.1.1 125 (12, 92) rfl)) rfl (by decide) rfl rfl ⟨by decide, by decide⟩ (sf_X12_readSum_r125  hA hD J zp0 zp1 zp2 (by omega) zp3 zp2 zp0 (by omega)  (fun v199 h ev199 J S191 u192 u193 u194 qu192 qu193 qu194 ru192 u195 u196 u197 qu195 qu196 qu197 ru195 P198 => ?_))
                have Sm := jSm_tr rfl Sm S191
                have eu192 := (show 0 ≤ u192.toInt ∧ u192.toInt ≤ 400 from qu192 ▸ jrg_f J sg_125_10_11_1_0_1)
                have eu193 := (show 0 ≤ u193.toInt ∧ u193.toInt ≤ 400 from qu193 ▸ jrg_f J sg_125_8_9_1_0_1)
                have eu194 := (show 0 ≤ u194.toInt ∧ u194.toInt ≤ 400 from qu194 ▸ jrg_f J sg_125_9_10_1_0_1)
                have eu195 := (show 0 ≤ u195.toInt ∧ u195.toInt ≤ 3 from qu195 ▸ jrg_f J sg_125_11_12_1_0_1)
                obtain rfl : u194 = u196 := qu194.symm.trans qu196
                obtain rfl : u192 = u197 := qu192.symm.trans qu197
                show jX m_X12_readPlain 6 0 0 97 [(1, .int (-1)), (0, .ref 125)] [.int v199] _ 0 0 _
                refine x_iret rfl rfl ?_
                exact hQ _ _ (jr_of rfl (by omega)) J Sm _ _ _ qu192 qu193 qu194 (by omega) _ _ _ qu195 qu194 qu192 (by omega) P198
              ·
                refine x_iconst (v := 1) rfl ki_1 ?_
                refine x_goto (tgt := 22) rfl rfl ?_
                refine x_zret rfl rfl (by decide) ?_
                show jX m_X12_plainAt 5 0 0 67 [(0, .ref 125)] [.int 1] _ 0 0 _
                refine x_ifeq (tgt := 75) rfl rfl (ti_eq jk_1 jk_0 (br_f (by omega) ?_))
                refine x_bipush (v := 17) rfl kb_17 ?_
                refine x_goto (tgt := 76) rfl rfl ?_
                refine x_iret rfl rfl ?_
                show jX m_X12_readPlain 6 0 0 44 [(0, .ref 125)] [.int 17] _ 0 0 _
                refine x_istoren (lsx9 := [(1, .int 17), (0, .ref 125)]) rfl rfl rfl ?_
                refine x_iloadn (x := 17) rfl rfl ?_
                refine x_iconst (v := (-1)) rfl ki_m1 ?_
                refine x_iceq (tgt := 93) rfl rfl (ti_eq jk_17 jk_m1 (br_f (by omega) ?_))
                refine x_aloadn (x := 125) rfl rfl ?_
                refine x_aloadn (x := 125) rfl rfl ?_
                refine z_getI (N := 92) 12 52 rfl f_12_542 rfl J rfl sg_125_52_53_1_0_1 (fun v200 qv200 ev200 => ?_)
                refine x_bipush (v := 60) rfl kb_60 ?_
                refine x_icge (tgt := 64) rfl rfl (ti_ge rfl jk_60 ⟨fun c201 => ?_, fun c201 => ?_⟩)
                ·
                  refine x_iconst (v := 0) rfl ki_0 ?_
                  exact jX.sub (jsb_c rfl (jsb_c rfl jsb_n)) (ct_X12_readPlain_r125_200065 hA hN hD hQ  17 p0 p3 p1 p2 h (jr_of jk_17 (by omega)) (jr_of rfl (by omega)) (jr_of rfl (by omega)) (jr_of rfl (by omega)) (jr_of rfl (by omega)) jsa_0 (by omega) (by omega) zp0 zp3 zp1 zp2 J Sm)
                ·
                  refine x_iconst (v := 1) rfl ki_1 ?_
                  refine x_goto (tgt := 65) rfl rfl ?_
                  exact jX.sub (jsb_c rfl (jsb_c rfl jsb_n)) (ct_X12_readPlain_r125_300065 hA hN hD hQ  17 p0 p3 v200 p1 p2 h (jr_of jk_17 (by omega)) (jr_of rfl (by omega)) (jr_of rfl (by omega)) (jr_of rfl (by omega)) (jr_of rfl (by omega)) (jr_of rfl (by omega)) jsa_0 (by omega) (by omega) (by omega) zp0 zp3 qv200 zp1 zp2 J Sm)
            ·
              refine x_iconst (v := 1) rfl ki_1 ?_
              refine x_goto (tgt := 22) rfl rfl ?_
              refine x_zret rfl rfl (by decide) ?_
              show jX m_X12_plainAt 5 0 0 52 [(0, .ref 125)] [.int 1] _ 0 0 _
              refine x_ifeq (tgt := 60) rfl rfl (ti_eq jk_1 jk_0 (br_f (by omega) ?_))
              refine x_bipush (v := 16) rfl kb_16 ?_
              refine x_goto (tgt := 76) rfl rfl ?_
              refine x_iret rfl rfl ?_
              show jX m_X12_readPlain 6 0 0 44 [(0, .ref 125)] [.int 16] _ 0 0 _
              refine x_istoren (lsx9 := [(1, .int 16), (0, .ref 125)]) rfl rfl rfl ?_
              refine x_iloadn (x := 16) rfl rfl ?_
              refine x_iconst (v := (-1)) rfl ki_m1 ?_
              refine x_iceq (tgt := 93) rfl rfl (ti_eq jk_16 jk_m1 (br_f (by omega) ?_))
              refine x_aloadn (x := 125) rfl rfl ?_
              refine x_aloadn (x := 125) rfl rfl ?_
              refine z_getI (N := 92) 12 52 rfl f_12_542 rfl J rfl sg_125_52_53_1_0_1 (fun v202 qv202 ev202 => ?_)
              refine x_bipush (v := 60) rfl kb_60 ?_
              refine x_icge (tgt := 64) rfl rfl (ti_ge rfl jk_60 ⟨fun c203 => ?_, fun c203 => ?_⟩)
              ·
                refine x_iconst (v := 0) rfl ki_0 ?_
                exact jX.sub (jsb_c rfl (jsb_c rfl jsb_n)) (ct_X12_readPlain_r125_200065 hA hN hD hQ  16 p0 p3 p1 p2 h (jr_of jk_16 (by omega)) (jr_of rfl (by omega)) (jr_of rfl (by omega)) (jr_of rfl (by omega)) (jr_of rfl (by omega)) jsa_0 (by omega) (by omega) zp0 zp3 zp1 zp2 J Sm)
              ·
                refine x_iconst (v := 1) rfl ki_1 ?_
                refine x_goto (tgt := 65) rfl rfl ?_
                exact jX.sub (jsb_c rfl (jsb_c rfl jsb_n)) (ct_X12_readPlain_r125_300065 hA hN hD hQ  16 p0 p3 v202 p1 p2 h (jr_of jk_16 (by omega)) (jr_of rfl (by omega)) (jr_of rfl (by omega)) (jr_of rfl (by omega)) (jr_of rfl (by omega)) (jr_of rfl (by omega)) jsa_0 (by omega) (by omega) (by omega) zp0 zp3 qv202 zp1 zp2 J Sm)
          ·
            refine x_iconst (v := 1) rfl ki_1 ?_
            refine x_goto (tgt := 22) rfl rfl ?_
            refine x_zret rfl rfl (by decide) ?_
            show jX m_X12_plainAt 5 0 0 37 [(0, .ref 125)] [.int 1] _ 0 0 _
            refine x_ifeq (tgt := 45) rfl rfl (ti_eq jk_1 jk_0 (br_f (by omega) ?_))
            refine x_bipush (v := 15) rfl kb_15 ?_
            refine x_goto (tgt := 76) rfl rfl ?_
            refine x_iret rfl rfl ?_
            show jX m_X12_readPlain 6 0 0 44 [(0, .ref 125)] [.int 15] _ 0 0 _
            refine x_istoren (lsx9 := [(1, .int 15), (0, .ref 125)]) rfl rfl rfl ?_
            refine x_iloadn (x := 15) rfl rfl ?_
            refine x_iconst (v := (-1)) rfl ki_m1 ?_
            refine x_iceq (tgt := 93) rfl rfl (ti_eq jk_15 jk_m1 (br_f (by omega) ?_))
            refine x_aloadn (x := 125) rfl rfl ?_
            refine x_aloadn (x := 125) rfl rfl ?_
            refine z_getI (N := 92) 12 52 rfl f_12_542 rfl J rfl sg_125_52_53_1_0_1 (fun v204 qv204 ev204 => ?_)
            refine x_bipush (v := 60) rfl kb_60 ?_
            refine x_icge (tgt := 64) rfl rfl (ti_ge rfl jk_60 ⟨fun c205 => ?_, fun c205 => ?_⟩)
            ·
              refine x_iconst (v := 0) rfl ki_0 ?_
              exact jX.sub (jsb_c rfl (jsb_c rfl jsb_n)) (ct_X12_readPlain_r125_200065 hA hN hD hQ  15 p0 p3 p1 p2 h (jr_of jk_15 (by omega)) (jr_of rfl (by omega)) (jr_of rfl (by omega)) (jr_of rfl (by omega)) (jr_of rfl (by omega)) jsa_0 (by omega) (by omega) zp0 zp3 zp1 zp2 J Sm)
            ·
              refine x_iconst (v := 1) rfl ki_1 ?_
              refine x_goto (tgt := 65) rfl rfl ?_
              exact jX.sub (jsb_c rfl (jsb_c rfl jsb_n)) (ct_X12_readPlain_r125_300065 hA hN hD hQ  15 p0 p3 v204 p1 p2 h (jr_of jk_15 (by omega)) (jr_of rfl (by omega)) (jr_of rfl (by omega)) (jr_of rfl (by omega)) (jr_of rfl (by omega)) (jr_of rfl (by omega)) jsa_0 (by omega) (by omega) (by omega) zp0 zp3 qv204 zp1 zp2 J Sm)
        ·
          refine x_iconst (v := 1) rfl ki_1 ?_
          refine x_goto (tgt := 22) rfl rfl ?_
          refine x_zret rfl rfl (by decide) ?_
          show jX m_X12_plainAt 5 0 0 22 [(0, .ref 125)] [.int 1] _ 0 0 _
          refine x_ifeq (tgt := 30) rfl rfl (ti_eq jk_1 jk_0 (br_f (by omega) ?_))
          refine x_bipush (v := 14) rfl kb_14 ?_
          refine x_goto (tgt := 76) rfl rfl ?_
          refine x_iret rfl rfl ?_
          show jX m_X12_readPlain 6 0 0 44 [(0, .ref 125)] [.int 14] _ 0 0 _
          refine x_istoren (lsx9 := [(1, .int 14), (0, .ref 125)]) rfl rfl rfl ?_
          refine x_iloadn (x := 14) rfl rfl ?_
          refine x_iconst (v := (-1)) rfl ki_m1 ?_
          refine x_iceq (tgt := 93) rfl rfl (ti_eq jk_14 jk_m1 (br_f (by omega) ?_))
          refine x_aloadn (x := 125) rfl rfl ?_
          refine x_aloadn (x := 125) rfl rfl ?_
          refine z_getI (N := 92) 12 52 rfl f_12_542 rfl J rfl sg_125_52_53_1_0_1 (fun v206 qv206 ev206 => ?_)
          refine x_bipush (v := 60) rfl kb_60 ?_
          refine x_icge (tgt := 64) rfl rfl (ti_ge rfl jk_60 ⟨fun c207 => ?_, fun c207 => ?_⟩)
          ·
            refine x_iconst (v := 0) rfl ki_0 ?_
            exact jX.sub (jsb_c rfl (jsb_c rfl jsb_n)) (ct_X12_readPlain_r125_200065 hA hN hD hQ  14 p0 p3 p1 p2 h (jr_of jk_14 (by omega)) (jr_of rfl (by omega)) (jr_of rfl (by omega)) (jr_of rfl (by omega)) (jr_of rfl (by omega)) jsa_0 (by omega) (by omega) zp0 zp3 zp1 zp2 J Sm)
          ·
            refine x_iconst (v := 1) rfl ki_1 ?_
            refine x_goto (tgt := 65) rfl rfl ?_
            exact jX.sub (jsb_c rfl (jsb_c rfl jsb_n)) (ct_X12_readPlain_r125_300065 hA hN hD hQ  14 p0 p3 v206 p1 p2 h (jr_of jk_14 (by omega)) (jr_of rfl (by omega)) (jr_of rfl (by omega)) (jr_of rfl (by omega)) (jr_of rfl (by omega)) (jr_of rfl (by omega)) jsa_0 (by omega) (by omega) (by omega) zp0 zp3 qv206 zp1 zp2 J Sm)
      ·
        refine x_iconst (v := 1) rfl ki_1 ?_
        refine x_goto (tgt := 22) rfl rfl ?_
        refine x_zret rfl rfl (by decide) ?_
        show jX m_X12_plainAt 5 0 0 7 [(0, .ref 125)] [.int 1] _ 0 0 _
        refine x_ifeq (tgt := 15) rfl rfl (ti_eq jk_1 jk_0 (br_f (by omega) ?_))
        refine x_bipush (v := 13) rfl kb_13 ?_
        refine x_goto (tgt := 76) rfl rfl ?_
        refine x_iret rfl rfl ?_
        show jX m_X12_readPlain 6 0 0 44 [(0, .ref 125)] [.int 13] _ 0 0 _
        refine x_istoren (lsx9 := [(1, .int 13), (0, .ref 125)]) rfl rfl rfl ?_
        refine x_iloadn (x := 13) rfl rfl ?_
        refine x_iconst (v := (-1)) rfl ki_m1 ?_
        refine x_iceq (tgt := 93) rfl rfl (ti_eq jk_13 jk_m1 (br_f (by omega) ?_))
        refine x_aloadn (x := 125) rfl rfl ?_
        refine x_aloadn (x := 125) rfl rfl ?_
        refine z_getI (N := 92) 12 52 rfl f_12_542 rfl J rfl sg_125_52_53_1_0_1 (fun v208 qv208 ev208 => ?_)
        refine x_bipush (v := 60) rfl kb_60 ?_
        refine x_icge (tgt := 64) rfl rfl (ti_ge rfl jk_60 ⟨fun c209 => ?_, fun c209 => ?_⟩)
        ·
          refine x_iconst (v := 0) rfl ki_0 ?_
          exact jX.sub (jsb_c rfl (jsb_c rfl jsb_n)) (ct_X12_readPlain_r125_200065 hA hN hD hQ  13 p0 p3 p1 p2 h (jr_of jk_13 (by omega)) (jr_of rfl (by omega)) (jr_of rfl (by omega)) (jr_of rfl (by omega)) (jr_of rfl (by omega)) jsa_0 (by omega) (by omega) zp0 zp3 zp1 zp2 J Sm)
        ·
          refine x_iconst (v := 1) rfl ki_1 ?_
          refine x_goto (tgt := 65) rfl rfl ?_
          exact jX.sub (jsb_c rfl (jsb_c rfl jsb_n)) (ct_X12_readPlain_r125_300065 hA hN hD hQ  13 p0 p3 v208 p1 p2 h (jr_of jk_13 (by omega)) (jr_of rfl (by omega)) (jr_of rfl (by omega)) (jr_of rfl (by omega)) (jr_of rfl (by omega)) (jr_of rfl (by omega)) jsa_0 (by omega) (by omega) (by omega) zp0 zp3 qv208 zp1 zp2 J Sm)
    ·
      refine x_iconst (v := 1) rfl ki_1 ?_
      refine x_goto (tgt := 22) rfl rfl ?_
      refine x_zret rfl rfl (by decide) ?_
      show jX m_X12_readPlain 6 0 0 7 [(0, .ref 125)] [.int 1] _ 0 0 _
      refine x_ifeq (tgt := 23) rfl rfl (ti_eq jk_1 jk_0 (br_f (by omega) ?_))
      refine x_aloadn (x := 125) rfl rfl ?_
      refine x_bipush (v := 18) rfl kb_18 ?_
      refine x_iconst (v := 0) rfl ki_0 ?_
      refine x_inv (N := m_X12_push) (As := [.int 18, .int 0]) (b := 125) (st := []) (dx9 := 5) (mc := 0) (ms := 0) (host := "") 12 rfl t_X12_push ⟨Or.inl q_12_536, i_X12_push.1, i_X12_push.2⟩ ⟨by decide, rfl⟩ (congrArg Prod.fst (J.1.1 125 (12, 92) rfl)) rfl (by decide) rfl rfl ⟨by decide, by decide⟩ (jC.of rfl k_X12_push rfl ?_)
      show jX m_X12_push 5 0 0 0 [(0, .ref 125), (1, .int 18), (2, .int 0)] [] _ 0 0 _
      obtain ⟨u210, qu210⟩ : ∃ v : Int32, jiv h 125 55 = v := ⟨_, rfl⟩
      have eu210 := (show 0 ≤ u210.toInt ∧ u210.toInt ≤ 400 from qu210 ▸ jrg_f J sg_125_55_56_1_0_1)
      have lx := jtw_l hA.1 qu210 zp2
      refine x_aloadn (x := 125) rfl rfl ?_
      refine z_getR (N := 92) (b := 150) 12 53 rfl f_12_105 rfl J rfl 16053 ⟨rfl, rfl⟩ rfl ?_
      refine x_aloadn (x := 125) rfl rfl ?_
      refine z_getM (N := 92) (v := u210) 12 55 rfl f_12_496 rfl J rfl qu210 ?_
      refine x_iloadn (x := 18) rfl rfl ?_
      refine z_iast (N := 400) (l := 0) (u := 400) (w := 18) rfl hD J Sm rfl rfl rfl (by omega) jk_18 (wr_150) rfl (fun h w211 J Sm => ?_)
      refine x_aloadn (x := 125) rfl rfl ?_
      refine z_getR (N := 92) (b := 151) 12 54 rfl f_12_108 rfl J rfl 16054 ⟨rfl, rfl⟩ rfl ?_
      refine x_aloadn (x := 125) rfl rfl ?_
      refine z_getM (N := 92) (v := u210) 12 55 rfl f_12_496 rfl J rfl (jmo w211 rfl qu210) ?_
      refine x_iloadn (x := 0) rfl rfl ?_
      refine z_iast (N := 400) (l := 0) (u := 400) (w := 0) rfl hD J Sm rfl rfl rfl (by omega) jk_0 (wr_151) rfl (fun h w212 J Sm => ?_)
      refine x_aloadn (x := 125) rfl rfl ?_
      refine x_dup rfl rfl ?_
      refine z_getM (N := 92) (v := u210) 12 55 rfl f_12_496 rfl J rfl (jmo w212 rfl (jmo w211 rfl qu210)) ?_
      refine x_iconst (v := 1) rfl ki_1 ?_
      refine z_iadd rfl rfl jk_1 (by omega) (fun v213 ev213 => ?_)
      refine z_putI (N := 92) (w := v213.toInt) 12 55 rfl f_12_496 rfl (jfin_no TX12 RX12 92 rfl rfl) hD J Sm rfl rfl rfl (pw_125_55 (by omega)) rfl (fun h w214 J Sm => ?_)
      refine x_vret rfl rfl ?_
      show jX m_X12_readPlain 6 0 0 17 [(0, .ref 125)] [] _ 0 0 _
      refine x_aloadn (x := 125) rfl rfl ?_
      refine x_inv (N := m_X12_next) (As := []) (b := 125) (st := []) (dx9 := 2) (mc := 0) (ms := 0) (host := "") 12 rfl t_X12_next ⟨Or.inl q_12_218, i_X12_next.1, i_X12_next.2⟩ ⟨by decide, rfl⟩ (congrArg Prod.fst (J.1.1 125 (12, 92) rfl)) rfl (by decide) rfl rfl ⟨by decide, by decide⟩ (sf_X12_next_r125  hD J (jmo w214 rfl (jmo w212 rfl (jmo w211 rfl zp0))) (jmo w214 rfl (jmo w212 rfl (jmo w211 rfl zp1))) (by omega)  (fun h J S215 u216 u217 u218 qu216 qu217 qu218 ru216 u219 u220 u221 qu219 qu220 qu221 ru219 P222 => ?_))
      have Sm := jSm_tr rfl Sm S215
      have eu216 := (show 0 ≤ u216.toInt ∧ u216.toInt ≤ 400 from qu216 ▸ jrg_f J sg_125_10_11_1_0_1)
      have eu217 := (show 0 ≤ u217.toInt ∧ u217.toInt ≤ 400 from qu217 ▸ jrg_f J sg_125_8_9_1_0_1)
      have eu218 := (show 0 ≤ u218.toInt ∧ u218.toInt ≤ 400 from qu218 ▸ jrg_f J sg_125_9_10_1_0_1)
      have eu219 := (show 0 ≤ u219.toInt ∧ u219.toInt ≤ 3 from qu219 ▸ jrg_f J sg_125_11_12_1_0_1)
      obtain rfl : u218 = u220 := qu218.symm.trans qu220
      obtain rfl : u216 = u221 := qu216.symm.trans qu221
      have nfP222 := jnf P222.1 (jmo w214 rfl (jmo w212 rfl (jmo w211 rfl zp0))) qu218
      show jX m_X12_readPlain 6 0 0 21 [(0, .ref 125)] [] _ 0 0 _
      refine x_iconst (v := 0) rfl ki_0 ?_
      refine x_iret rfl rfl ?_
      exact hQ _ _ (jr_of jk_0 (by omega)) J Sm _ _ _ qu216 qu217 qu218 (by omega) _ _ _ qu219 qu218 qu216 (by omega) (by rw [jk_0]; exact rp_not hA hN qu210 w211 w212 w214 (by omega) (jeq_c S215 rfl jeq_0) (jeq_c S215 rfl jeq_0) (jeq_c S215 rfl jeq_0) (jeq_c S215 rfl jeq_0) (jmc S215 rfl rfl) (jmc S215 rfl rfl) (jmc S215 rfl rfl) zp2 qu218  (by omega))
def fp_X12_readSide_r125 : jFp := [(125, 9, 10), (125, 10, 11), (125, 11, 12), (125, 12, 13), (125, 13, 14), (125, 14, 15), (135, 0, 16), (136, 0, 48)]
set_option maxRecDepth 100000 in
set_option maxHeartbeats 4000000 in
theorem ct_X12_readSide_r125_55 {Dy : jH → Prop} {h0 : jH} {Q : Option Value → jH → Prop} {a1 : Int32} (yy_a1 : 0 ≤ a1.toInt ∧ a1.toInt ≤ 15) (hD : jDk Dy) (hQ : ∀ hx9, jJ jSgM Dy hx9 → jSm fp_X12_readSide_r125 h0 hx9 → ∀ u0 u1 u2 : Int32, jiv hx9 125 10 = u0 → jiv hx9 125 8 = u1 → jiv hx9 125 9 = u2 → (u0.toInt ≤ u1.toInt ∧ u2.toInt ≤ u0.toInt) → ∀ u3 u4 u5 : Int32, jiv hx9 125 11 = u3 → jiv hx9 125 9 = u4 → jiv hx9 125 10 = u5 → (u3.toInt = 0 ∨ u4.toInt + 1 ≤ u5.toInt) → jRs a1 h0 hx9 → Q none hx9) : ∀ r : Nat, ∀ (l2 : Int32) (l3 : Int32) (l4 : Int32) (g0 : Int32) (g1 : Int32) (g2 : Int32) (g3 : Int32) (h : jH), 3 - l4.toInt < (r : Int) → 1 ≤ l2.toInt ∧ l2.toInt ≤ 3 → 0 ≤ l3.toInt ∧ l3.toInt ≤ 400 → 0 ≤ l4.toInt ∧ l4.toInt ≤ 3 → 0 ≤ g0.toInt ∧ g0.toInt ≤ 400 → 0 ≤ g1.toInt ∧ g1.toInt ≤ 3 → 0 ≤ g2.toInt ∧ g2.toInt ≤ 400 → 0 ≤ g3.toInt ∧ g3.toInt ≤ 400 → l3.toInt + l2.toInt ≤ 400 → jRs a1 h0 h → l3.toInt + l2.toInt ≤ 400 → (g0.toInt ≤ g2.toInt ∧ g3.toInt ≤ g0.toInt) → (g1.toInt = 0 ∨ g3.toInt + 1 ≤ g0.toInt) → jiv h 125 10 = g0 → jiv h 125 11 = g1 → jiv h 125 8 = g2 → jiv h 125 9 = g3 → jJ jSgM Dy h → jSm fp_X12_readSide_r125 h0 h → jX m_X12_readSide 4 0 0 55 [(0, .ref 125), (1, .int a1), (2, .int l2), (3, .int l3), (4, .int l4)] [] h 0 0 Q := by
  intro r
  induction r with
  | zero =>
    intro l2 l3 l4 g0 g1 g2 g3 h hm y0 y1 y2 y3 y4 y5 y6 y7 C0 y9 y10 y11 z0 z1 z2 z3  J Sm
    exfalso
    omega
  | succ r ih =>
    intro l2 l3 l4 g0 g1 g2 g3 h hm y0 y1 y2 y3 y4 y5 y6 y7 C0 y9 y10 y11 z0 z1 z2 z3  J Sm
    refine x_iload (x := l4) rfl rfl ?_
    refine x_iloadn (x := l2) rfl rfl ?_
    refine x_icge (tgt := 87) rfl rfl (ti_ge rfl rfl ⟨fun c1 => ?_, fun c1 => ?_⟩)
    ·
      refine x_vret rfl rfl ?_
      exact hQ _ J Sm _ _ _ z0 z2 z3 (by omega) _ _ _ z1 z3 z0 (by omega) C0
    ·
      refine x_aloadn (x := 125) rfl rfl ?_
      refine z_getR (N := 92) (b := 136) 12 20 rfl f_12_48 rfl J rfl 16020 ⟨rfl, rfl⟩ rfl ?_
      refine x_iconst (v := 3) rfl ki_3 ?_
      refine x_iloadn (x := a1) rfl rfl ?_
      refine z_imul rfl jk_3 rfl (by omega) (fun v2 ev2 => ?_)
      refine x_iload (x := l4) rfl rfl ?_
      refine z_iadd rfl rfl rfl (by omega) (fun v3 ev3 => ?_)
      refine x_aloadn (x := 125) rfl rfl ?_
      refine z_getR (N := 92) (b := 131) 12 7 rfl f_12_29 rfl J rfl 16007 ⟨rfl, rfl⟩ rfl ?_
      refine x_iloadn (x := l3) rfl rfl ?_
      refine x_iload (x := l4) rfl rfl ?_
      refine z_iadd rfl rfl rfl (by omega) (fun v4 ev4 => ?_)
      refine z_iald (N := 400) rfl J rfl sg_131_0_400_1_0_1 rfl (by omega) (fun v5 qv5 ev5 => ?_)
      refine z_iast (N := 48) (l := 0) (u := 48) (w := v5.toInt) rfl hD J Sm rfl rfl rfl (by omega) rfl (wr_136 (fun q1 q2 q3 q4 => by omega)) rfl (fun h w6 J Sm => ?_)
      refine z_iinc (x := l4) (lsx9 := fun v7 => [(4, .int v7), (0, .ref 125), (1, .int a1), (2, .int l2), (3, .int l3)]) rfl rfl rfl jko_1 (by omega) rfl (fun _ => rfl) (fun v7 ev7 => ?_)
      refine x_goto (tgt := 55) rfl rfl ?_
      exact jX.sub (jsb_c rfl (jsb_c rfl (jsb_c rfl (jsb_c rfl (jsb_c rfl jsb_n))))) (ih l2 l3 v7 g0 g1 g2 g3 h (by omega) (jr_of rfl (by omega)) (jr_of rfl (by omega)) (jr_of rfl (by omega)) (jr_of rfl (by omega)) (jr_of rfl (by omega)) (jr_of rfl (by omega)) (jr_of rfl (by omega)) (by omega) (jrs_mv (jeq_o w6 rfl jeq_0) (jmo w6 rfl rfl) C0) (by omega) (by omega) (by omega) (jmo w6 rfl z0) (jmo w6 rfl z1) (jmo w6 rfl z2) (jmo w6 rfl z3) J Sm)
set_option maxRecDepth 100000 in
set_option maxHeartbeats 4000000 in
theorem ct_X12_readSide_r125_300034 {Dy : jH → Prop} {h0 : jH} {Q : Option Value → jH → Prop} {a1 : Int32} (yy_a1 : 0 ≤ a1.toInt ∧ a1.toInt ≤ 15) (hD : jDk Dy) (hQ : ∀ hx9, jJ jSgM Dy hx9 → jSm fp_X12_readSide_r125 h0 hx9 → ∀ u0 u1 u2 : Int32, jiv hx9 125 10 = u0 → jiv hx9 125 8 = u1 → jiv hx9 125 9 = u2 → (u0.toInt ≤ u1.toInt ∧ u2.toInt ≤ u0.toInt) → ∀ u3 u4 u5 : Int32, jiv hx9 125 11 = u3 → jiv hx9 125 9 = u4 → jiv hx9 125 10 = u5 → (u3.toInt = 0 ∨ u4.toInt + 1 ≤ u5.toInt) → jRs a1 h0 hx9 → Q none hx9) : ∀ (l2 : Int32) (l3 : Int32) (g0 : Int32) (g1 : Int32) (g2 : Int32) (g3 : Int32) (h : jH), 0 ≤ l2.toInt ∧ l2.toInt ≤ 3 → 0 ≤ l3.toInt ∧ l3.toInt ≤ 400 → 0 ≤ g0.toInt ∧ g0.toInt ≤ 400 → 1 ≤ g1.toInt ∧ g1.toInt ≤ 1 → 0 ≤ g2.toInt ∧ g2.toInt ≤ 400 → 0 ≤ g3.toInt ∧ g3.toInt ≤ 400 → 1 ≤ l2.toInt → (jEq 135 (fun _ => True) h h0 ∧ jiv h 125 14 = jiv h0 125 14) → l3.toInt + l2.toInt ≤ 400 → (g0.toInt ≤ g2.toInt ∧ g3.toInt ≤ g0.toInt) → (g1.toInt = 0 ∨ g3.toInt + 1 ≤ g0.toInt) → jiv h 125 10 = g0 → jiv h 125 11 = g1 → jiv h 125 8 = g2 → jiv h 125 9 = g3 → jJ jSgM Dy h → jSm fp_X12_readSide_r125 h0 h → jX m_X12_readSide 4 0 0 34 [(0, .ref 125), (1, .int a1), (2, .int l2), (3, .int l3)] [.int 1, .ref 125] h 0 0 Q := by
  intro l2 l3 g0 g1 g2 g3 h y0 y1 y2 y3 y4 y5 y6 C0 y8 y9 y10 z0 z1 z2 z3  J Sm
  obtain ⟨u1, qu1⟩ : ∃ v : Int32, jiv h 125 14 = v := ⟨_, rfl⟩
  have eu1 := (show 0 ≤ u1.toInt ∧ u1.toInt ≤ 1 from qu1 ▸ jrg_f J sg_125_14_15_1_0_1)
  have bq := congrArg Int32.toInt qu1
  have b0 := congrArg Int32.toInt C0.2
  refine x_inv (N := m_X12_must) (As := [.int 1]) (b := 125) (st := []) (dx9 := 3) (mc := 0) (ms := 0) (host := "") 12 rfl t_X12_must ⟨Or.inl q_12_250, i_X12_must.1, i_X12_must.2⟩ ⟨by decide, rfl⟩ (congrArg Prod.fst (J.1.1 125 (12, 92) rfl)) rfl (by decide) rfl rfl ⟨by decide, by decide⟩ (jC.of rfl k_X12_must rfl ?_)
  show jX m_X12_must 3 0 0 0 [(0, .ref 125), (1, .int 1)] [] _ 0 0 _
  refine x_aloadn (x := 125) rfl rfl ?_
  refine z_getM (N := 92) (v := u1) 12 14 rfl f_12_214 rfl J rfl qu1 ?_
  refine x_ifne (tgt := 24) rfl rfl (ti_ne rfl jk_0 ⟨fun c2 => ?_, fun c2 => ?_⟩)
  ·
    refine x_aloadn (x := 125) rfl rfl ?_
    refine z_getM (N := 92) (v := u1) 12 14 rfl f_12_214 rfl J rfl qu1 ?_
    refine x_ifne (tgt := 35) rfl rfl (ti_ne rfl jk_0 (bn_t (by omega) ?_))
    refine x_vret rfl rfl ?_
    show jX m_X12_readSide 4 0 0 37 [(0, .ref 125), (1, .int a1), (2, .int l2), (3, .int l3)] [] _ 0 0 _
    refine x_aloadn (x := 125) rfl rfl ?_
    refine z_getM (N := 92) (v := u1) 12 14 rfl f_12_214 rfl J rfl qu1 ?_
    refine x_ifeq (tgt := 45) rfl rfl (ti_eq rfl jk_0 (br_f (by omega) ?_))
    refine x_vret rfl rfl ?_
    exact hQ _ J Sm _ _ _ z0 z2 z3 (by omega) _ _ _ z1 z3 z0 (by omega) (jrs_bad C0.1 qu1 (by omega))
  ·
    refine x_iloadn (x := 1) rfl rfl ?_
    refine x_ifne (tgt := 24) rfl rfl (ti_ne jk_1 jk_0 (bn_t (by omega) ?_))
    refine x_aloadn (x := 125) rfl rfl ?_
    refine z_getM (N := 92) (v := u1) 12 14 rfl f_12_214 rfl J rfl qu1 ?_
    refine x_ifne (tgt := 35) rfl rfl (ti_ne rfl jk_0 (bn_f (by omega) ?_))
    refine x_aloadn (x := 125) rfl rfl ?_
    refine x_inv (N := m_X12_next) (As := []) (b := 125) (st := []) (dx9 := 2) (mc := 0) (ms := 0) (host := "") 12 rfl t_X12_next ⟨Or.inl q_12_218, i_X12_next.1, i_X12_next.2⟩ ⟨by decide, rfl⟩ (congrArg Prod.fst (J.1.1 125 (12, 92) rfl)) rfl (by decide) rfl rfl ⟨by decide, by decide⟩ (sf_X12_next_r125  hD J z0 z2 (by omega)  (fun h J S3 u4 u5 u6 qu4 qu5 qu6 ru4 u7 u8 u9 qu7 qu8 qu9 ru7 P10 => ?_))
    have Sm := jSm_tr rfl Sm S3
    have eu4 := (show 0 ≤ u4.toInt ∧ u4.toInt ≤ 400 from qu4 ▸ jrg_f J sg_125_10_11_1_0_1)
    have eu5 := (show 0 ≤ u5.toInt ∧ u5.toInt ≤ 400 from qu5 ▸ jrg_f J sg_125_8_9_1_0_1)
    have eu6 := (show 0 ≤ u6.toInt ∧ u6.toInt ≤ 400 from qu6 ▸ jrg_f J sg_125_9_10_1_0_1)
    have eu7 := (show 0 ≤ u7.toInt ∧ u7.toInt ≤ 3 from qu7 ▸ jrg_f J sg_125_11_12_1_0_1)
    obtain rfl : u6 = u8 := qu6.symm.trans qu8
    obtain rfl : u4 = u9 := qu4.symm.trans qu9
    have nfP10 := jnf P10.1 z0 qu6
    show jX m_X12_must 3 0 0 35 [(0, .ref 125), (1, .int 1)] [] _ 0 0 _
    refine x_vret rfl rfl ?_
    show jX m_X12_readSide 4 0 0 37 [(0, .ref 125), (1, .int a1), (2, .int l2), (3, .int l3)] [] _ 0 0 _
    refine x_aloadn (x := 125) rfl rfl ?_
    refine z_getM (N := 92) (v := u1) 12 14 rfl f_12_214 rfl J rfl (jmc S3 rfl qu1) ?_
    refine x_ifeq (tgt := 45) rfl rfl (ti_eq rfl jk_0 (br_t (by omega) ?_))
    refine x_aloadn (x := 125) rfl rfl ?_
    refine z_getR (N := 92) (b := 135) 12 19 rfl f_12_45 rfl J rfl 16019 ⟨rfl, rfl⟩ rfl ?_
    refine x_iloadn (x := a1) rfl rfl ?_
    refine x_iloadn (x := l2) rfl rfl ?_
    refine z_iast (N := 16) (l := 0) (u := 16) (w := l2.toInt) rfl hD J Sm rfl rfl rfl (by omega) rfl (wr_135 (fun q1 q2 q3 q4 => by omega)) rfl (fun h w11 J Sm => ?_)
    refine x_iconst (v := 0) rfl ki_0 ?_
    refine x_istore (lsx9 := [(4, .int 0), (0, .ref 125), (1, .int a1), (2, .int l2), (3, .int l3)]) rfl rfl rfl ?_
    exact jX.sub (jsb_c rfl (jsb_c rfl (jsb_c rfl (jsb_c rfl (jsb_c rfl jsb_n))))) (ct_X12_readSide_r125_55 yy_a1 hD hQ  4 l2 l3 0 u4 u7 u5 u6 h (by have := jk_0; omega) (jr_of rfl (by omega)) (jr_of rfl (by omega)) (jr_of jk_0 (by omega)) (jr_of rfl (by omega)) (jr_of rfl (by omega)) (jr_of rfl (by omega)) (jr_of rfl (by omega)) (by omega) (jrs_w (v := 0) (jeq_c S3 rfl C0.1) w11 (by omega) (by omega)) (by omega) (by omega) (by omega) (jmo w11 rfl qu4) (jmo w11 rfl qu7) (jmo w11 rfl qu5) (jmo w11 rfl qu6) J Sm)
set_option maxRecDepth 100000 in
set_option maxHeartbeats 4000000 in
theorem ct_X12_readSide_r125_200034 {Dy : jH → Prop} {h0 : jH} {Q : Option Value → jH → Prop} {a1 : Int32} (yy_a1 : 0 ≤ a1.toInt ∧ a1.toInt ≤ 15) (hD : jDk Dy) (hQ : ∀ hx9, jJ jSgM Dy hx9 → jSm fp_X12_readSide_r125 h0 hx9 → ∀ u0 u1 u2 : Int32, jiv hx9 125 10 = u0 → jiv hx9 125 8 = u1 → jiv hx9 125 9 = u2 → (u0.toInt ≤ u1.toInt ∧ u2.toInt ≤ u0.toInt) → ∀ u3 u4 u5 : Int32, jiv hx9 125 11 = u3 → jiv hx9 125 9 = u4 → jiv hx9 125 10 = u5 → (u3.toInt = 0 ∨ u4.toInt + 1 ≤ u5.toInt) → jRs a1 h0 hx9 → Q none hx9) : ∀ (l2 : Int32) (l3 : Int32) (g0 : Int32) (g1 : Int32) (g2 : Int32) (g3 : Int32) (h : jH), 0 ≤ l2.toInt ∧ l2.toInt ≤ 400 → 0 ≤ l3.toInt ∧ l3.toInt ≤ 400 → 0 ≤ g0.toInt ∧ g0.toInt ≤ 400 → 0 ≤ g1.toInt ∧ g1.toInt ≤ 3 → 0 ≤ g2.toInt ∧ g2.toInt ≤ 400 → 0 ≤ g3.toInt ∧ g3.toInt ≤ 400 → (jEq 135 (fun _ => True) h h0 ∧ jiv h 125 14 = jiv h0 125 14) → l3.toInt + l2.toInt ≤ 400 → (g0.toInt ≤ g2.toInt ∧ g3.toInt ≤ g0.toInt) → (g1.toInt = 0 ∨ g3.toInt + 1 ≤ g0.toInt) → jiv h 125 10 = g0 → jiv h 125 11 = g1 → jiv h 125 8 = g2 → jiv h 125 9 = g3 → jJ jSgM Dy h → jSm fp_X12_readSide_r125 h0 h → jX m_X12_readSide 4 0 0 34 [(0, .ref 125), (1, .int a1), (2, .int l2), (3, .int l3)] [.int 0, .ref 125] h 0 0 Q := by
  intro l2 l3 g0 g1 g2 g3 h y0 y1 y2 y3 y4 y5 C0 y7 y8 y9 z0 z1 z2 z3  J Sm
  obtain ⟨u1, qu1⟩ : ∃ v : Int32, jiv h 125 14 = v := ⟨_, rfl⟩
  have eu1 := (show 0 ≤ u1.toInt ∧ u1.toInt ≤ 1 from qu1 ▸ jrg_f J sg_125_14_15_1_0_1)
  have bq := congrArg Int32.toInt qu1
  have b0 := congrArg Int32.toInt C0.2
  refine x_inv (N := m_X12_must) (As := [.int 0]) (b := 125) (st := []) (dx9 := 3) (mc := 0) (ms := 0) (host := "") 12 rfl t_X12_must ⟨Or.inl q_12_250, i_X12_must.1, i_X12_must.2⟩ ⟨by decide, rfl⟩ (congrArg Prod.fst (J.1.1 125 (12, 92) rfl)) rfl (by decide) rfl rfl ⟨by decide, by decide⟩ (jC.of rfl k_X12_must rfl ?_)
  show jX m_X12_must 3 0 0 0 [(0, .ref 125), (1, .int 0)] [] _ 0 0 _
  refine x_aloadn (x := 125) rfl rfl ?_
  refine z_getM (N := 92) (v := u1) 12 14 rfl f_12_214 rfl J rfl qu1 ?_
  refine x_ifne (tgt := 24) rfl rfl (ti_ne rfl jk_0 ⟨fun c2 => ?_, fun c2 => ?_⟩)
  ·
    refine x_aloadn (x := 125) rfl rfl ?_
    refine z_getM (N := 92) (v := u1) 12 14 rfl f_12_214 rfl J rfl qu1 ?_
    refine x_ifne (tgt := 35) rfl rfl (ti_ne rfl jk_0 (bn_t (by omega) ?_))
    refine x_vret rfl rfl ?_
    show jX m_X12_readSide 4 0 0 37 [(0, .ref 125), (1, .int a1), (2, .int l2), (3, .int l3)] [] _ 0 0 _
    refine x_aloadn (x := 125) rfl rfl ?_
    refine z_getM (N := 92) (v := u1) 12 14 rfl f_12_214 rfl J rfl qu1 ?_
    refine x_ifeq (tgt := 45) rfl rfl (ti_eq rfl jk_0 (br_f (by omega) ?_))
    refine x_vret rfl rfl ?_
    exact hQ _ J Sm _ _ _ z0 z2 z3 (by omega) _ _ _ z1 z3 z0 (by omega) (jrs_bad C0.1 qu1 (by omega))
  ·
    refine x_iloadn (x := 0) rfl rfl ?_
    refine x_ifne (tgt := 24) rfl rfl (ti_ne jk_0 jk_0 (bn_f (by omega) ?_))
    refine x_aloadn (x := 125) rfl rfl ?_
    refine x_iconst (v := 1) rfl ki_1 ?_
    refine z_putZ (N := 92) (w := 1) 12 14 rfl f_12_214 rfl (jfin_no TX12 RX12 92 rfl rfl) hD J Sm rfl rfl jk_1 (by omega) (pw_125_14 (by omega)) rfl (fun h w3 J Sm => ?_)
    refine x_aloadn (x := 125) rfl rfl ?_
    refine x_aloadn (x := 125) rfl rfl ?_
    refine z_getM (N := 92) (v := g3) 12 9 rfl f_12_221 rfl J rfl (jmo w3 rfl z3) ?_
    refine z_putI (N := 92) (w := g3.toInt) 12 13 rfl f_12_32 rfl (jfin_no TX12 RX12 92 rfl rfl) hD J Sm rfl rfl rfl (pw_125_13 (by omega)) rfl (fun h w4 J Sm => ?_)
    refine x_aloadn (x := 125) rfl rfl ?_
    refine z_getM (N := 92) (v := 1) 12 14 rfl f_12_214 rfl J rfl (jmo w4 rfl (jmw w3)) ?_
    refine x_ifne (tgt := 35) rfl rfl (ti_ne jk_1 jk_0 (bn_t (by omega) ?_))
    refine x_vret rfl rfl ?_
    show jX m_X12_readSide 4 0 0 37 [(0, .ref 125), (1, .int a1), (2, .int l2), (3, .int l3)] [] _ 0 0 _
    refine x_aloadn (x := 125) rfl rfl ?_
    refine z_getM (N := 92) (v := 1) 12 14 rfl f_12_214 rfl J rfl (jmo w4 rfl (jmw w3)) ?_
    refine x_ifeq (tgt := 45) rfl rfl (ti_eq jk_1 jk_0 (br_f (by omega) ?_))
    refine x_vret rfl rfl ?_
    exact hQ _ J Sm _ _ _ (jmo w4 rfl (jmo w3 rfl z0)) (jmo w4 rfl (jmo w3 rfl z2)) (jmo w4 rfl (jmo w3 rfl z3)) (by omega) _ _ _ (jmo w4 rfl (jmo w3 rfl z1)) (jmo w4 rfl (jmo w3 rfl z3)) (jmo w4 rfl (jmo w3 rfl z0)) (by omega) (jrs_bad (jeq_o w4 rfl (jeq_o w3 rfl C0.1)) (jmo w4 rfl (jmw w3)) (by decide))
set_option maxRecDepth 100000 in
set_option maxHeartbeats 4000000 in
theorem ct_X12_readSide_r125_33 {Dy : jH → Prop} {h0 : jH} {Q : Option Value → jH → Prop} {a1 : Int32} (yy_a1 : 0 ≤ a1.toInt ∧ a1.toInt ≤ 15) (hD : jDk Dy) (hQ : ∀ hx9, jJ jSgM Dy hx9 → jSm fp_X12_readSide_r125 h0 hx9 → ∀ u0 u1 u2 : Int32, jiv hx9 125 10 = u0 → jiv hx9 125 8 = u1 → jiv hx9 125 9 = u2 → (u0.toInt ≤ u1.toInt ∧ u2.toInt ≤ u0.toInt) → ∀ u3 u4 u5 : Int32, jiv hx9 125 11 = u3 → jiv hx9 125 9 = u4 → jiv hx9 125 10 = u5 → (u3.toInt = 0 ∨ u4.toInt + 1 ≤ u5.toInt) → jRs a1 h0 hx9 → Q none hx9) : ∀ (l2 : Int32) (l3 : Int32) (g0 : Int32) (g1 : Int32) (g2 : Int32) (g3 : Int32) (h : jH), 0 ≤ l2.toInt ∧ l2.toInt ≤ 400 → 0 ≤ l3.toInt ∧ l3.toInt ≤ 400 → 0 ≤ g0.toInt ∧ g0.toInt ≤ 400 → 0 ≤ g1.toInt ∧ g1.toInt ≤ 3 → 0 ≤ g2.toInt ∧ g2.toInt ≤ 400 → 0 ≤ g3.toInt ∧ g3.toInt ≤ 400 → (jEq 135 (fun _ => True) h h0 ∧ jiv h 125 14 = jiv h0 125 14) → l3.toInt + l2.toInt ≤ 400 → (g0.toInt ≤ g2.toInt ∧ g3.toInt ≤ g0.toInt) → (g1.toInt = 0 ∨ g3.toInt + 1 ≤ g0.toInt) → jiv h 125 10 = g0 → jiv h 125 11 = g1 → jiv h 125 8 = g2 → jiv h 125 9 = g3 → jJ jSgM Dy h → jSm fp_X12_readSide_r125 h0 h → jX m_X12_readSide 4 0 0 33 [(0, .ref 125), (1, .int a1), (2, .int l2), (3, .int l3)] [.ref 125] h 0 0 Q := by
  intro l2 l3 g0 g1 g2 g3 h y0 y1 y2 y3 y4 y5 C0 y7 y8 y9 z0 z1 z2 z3  J Sm
  refine x_iconst (v := 0) rfl ki_0 ?_
  exact jX.sub (jsb_c rfl (jsb_c rfl (jsb_c rfl (jsb_c rfl jsb_n)))) (ct_X12_readSide_r125_200034 yy_a1 hD hQ  l2 l3 g0 g1 g2 g3 h (jr_of rfl (by omega)) (jr_of rfl (by omega)) (jr_of rfl (by omega)) (jr_of rfl (by omega)) (jr_of rfl (by omega)) (jr_of rfl (by omega)) C0 (by omega) (by omega) (by omega) z0 z1 z2 z3 J Sm)
set_option maxRecDepth 100000 in
set_option maxHeartbeats 4000000 in
theorem sf_X12_readSide_r125 {Dy : jH → Prop} {h : jH} {Q : Option Value → jH → Prop} {a1 : Int32} (y1 : 0 ≤ a1.toInt ∧ a1.toInt ≤ 15) (hD : jDk Dy) (J : jJ jSgM Dy h) {p0 p1 p2 : Int32} {p3 p4 p5 : Int32} (zp0 : jiv h 125 10 = p0) (zp1 : jiv h 125 8 = p1) (zp2 : jiv h 125 9 = p2) (rl_p0 : (p0.toInt ≤ p1.toInt ∧ p2.toInt ≤ p0.toInt)) (zp3 : jiv h 125 11 = p3) (zp4 : jiv h 125 9 = p4) (zp5 : jiv h 125 10 = p5) (rl_p3 : (p3.toInt = 0 ∨ p4.toInt + 1 ≤ p5.toInt)) (hQ : ∀ hx9, jJ jSgM Dy hx9 → jSm fp_X12_readSide_r125 h hx9 → ∀ u0 u1 u2 : Int32, jiv hx9 125 10 = u0 → jiv hx9 125 8 = u1 → jiv hx9 125 9 = u2 → (u0.toInt ≤ u1.toInt ∧ u2.toInt ≤ u0.toInt) → ∀ u3 u4 u5 : Int32, jiv hx9 125 11 = u3 → jiv hx9 125 9 = u4 → jiv hx9 125 10 = u5 → (u3.toInt = 0 ∨ u4.toInt + 1 ≤ u5.toInt) → jRs a1 h hx9 → Q none hx9) : jC m_X12_readSide 4 0 0 [.ref 125, .int a1] h Q := by
  refine jC.of rfl k_X12_readSide rfl ?_
  have Sm := jSm_rf fp_X12_readSide_r125 h
  have ep0 := (show 0 ≤ p0.toInt ∧ p0.toInt ≤ 400 from zp0 ▸ jrg_f J sg_125_10_11_1_0_1)
  have ep1 := (show 0 ≤ p1.toInt ∧ p1.toInt ≤ 400 from zp1 ▸ jrg_f J sg_125_8_9_1_0_1)
  have ep2 := (show 0 ≤ p2.toInt ∧ p2.toInt ≤ 400 from zp2 ▸ jrg_f J sg_125_9_10_1_0_1)
  have ep3 := (show 0 ≤ p3.toInt ∧ p3.toInt ≤ 3 from zp3 ▸ jrg_f J sg_125_11_12_1_0_1)
  have ep4 := (show 0 ≤ p4.toInt ∧ p4.toInt ≤ 400 from zp4 ▸ jrg_f J sg_125_9_10_1_0_1)
  have ep5 := (show 0 ≤ p5.toInt ∧ p5.toInt ≤ 400 from zp5 ▸ jrg_f J sg_125_10_11_1_0_1)
  obtain rfl : p2 = p4 := zp2.symm.trans zp4
  obtain rfl : p0 = p5 := zp0.symm.trans zp5
  have yy_a1 := y1
  show jX m_X12_readSide 4 0 0 0 [(0, .ref 125), (1, .int a1)] [] _ 0 0 _
  refine x_aloadn (x := 125) rfl rfl ?_
  refine z_getM (N := 92) (v := p0) 12 10 rfl f_12_211 rfl J rfl zp0 ?_
  refine x_aloadn (x := 125) rfl rfl ?_
  refine z_getM (N := 92) (v := p2) 12 9 rfl f_12_221 rfl J rfl zp2 ?_
  refine z_isub rfl rfl rfl (by omega) (fun v1 ev1 => ?_)
  refine x_istoren (lsx9 := [(2, .int v1), (0, .ref 125), (1, .int a1)]) rfl rfl rfl ?_
  refine x_aloadn (x := 125) rfl rfl ?_
  refine z_getM (N := 92) (v := p2) 12 9 rfl f_12_221 rfl J rfl zp2 ?_
  refine x_istoren (lsx9 := [(3, .int p2), (2, .int v1), (0, .ref 125), (1, .int a1)]) rfl rfl rfl ?_
  refine x_aloadn (x := 125) rfl rfl ?_
  refine x_aloadn (x := 125) rfl rfl ?_
  refine z_getM (N := 92) (v := p3) 12 11 rfl f_12_235 rfl J rfl zp3 ?_
  refine x_iconst (v := 1) rfl ki_1 ?_
  refine x_icne (tgt := 33) rfl rfl (ti_ne rfl jk_1 ⟨fun c2 => ?_, fun c2 => ?_⟩)
  ·
    exact jX.sub (jsb_c rfl (jsb_c rfl (jsb_c rfl (jsb_c rfl jsb_n)))) (ct_X12_readSide_r125_33 yy_a1 hD hQ  v1 p2 p0 p3 p1 p2 h (jr_of rfl (by omega)) (jr_of rfl (by omega)) (jr_of rfl (by omega)) (jr_of rfl (by omega)) (jr_of rfl (by omega)) (jr_of rfl (by omega)) ⟨jeq_0, rfl⟩ (by omega) (by omega) (by omega) zp0 zp3 zp1 zp2 J Sm)
  ·
    refine x_iloadn (x := v1) rfl rfl ?_
    refine x_iconst (v := 3) rfl ki_3 ?_
    refine x_icgt (tgt := 33) rfl rfl (ti_gt rfl jk_3 ⟨fun c3 => ?_, fun c3 => ?_⟩)
    ·
      exact jX.sub (jsb_c rfl (jsb_c rfl (jsb_c rfl (jsb_c rfl jsb_n)))) (ct_X12_readSide_r125_33 yy_a1 hD hQ  v1 p2 p0 p3 p1 p2 h (jr_of rfl (by omega)) (jr_of rfl (by omega)) (jr_of rfl (by omega)) (jr_of rfl (by omega)) (jr_of rfl (by omega)) (jr_of rfl (by omega)) ⟨jeq_0, rfl⟩ (by omega) (by omega) (by omega) zp0 zp3 zp1 zp2 J Sm)
    ·
      refine x_iconst (v := 1) rfl ki_1 ?_
      refine x_goto (tgt := 34) rfl rfl ?_
      exact jX.sub (jsb_c rfl (jsb_c rfl (jsb_c rfl (jsb_c rfl jsb_n)))) (ct_X12_readSide_r125_300034 yy_a1 hD hQ  v1 p2 p0 p3 p1 p2 h (jr_of rfl (by omega)) (jr_of rfl (by omega)) (jr_of rfl (by omega)) (jr_of rfl (by omega)) (jr_of rfl (by omega)) (jr_of rfl (by omega)) (by omega) ⟨jeq_0, rfl⟩ (by omega) (by omega) (by omega) zp0 zp3 zp1 zp2 J Sm)
def fp_X12_readPair_r125 : jFp := [(125, 9, 10), (125, 10, 11), (125, 11, 12), (125, 12, 13), (125, 13, 14), (125, 14, 15), (125, 18, 19), (135, 0, 16), (136, 0, 48)]
set_option maxRecDepth 100000 in
set_option maxHeartbeats 4000000 in
theorem ct_X12_readPair_r125_76 {Dy : jH → Prop} {h0 : jH} {Q : Option Value → jH → Prop} (hD : jDk Dy) (hQ : ∀ hx9, jJ jSgM Dy hx9 → jSm fp_X12_readPair_r125 h0 hx9 → ∀ u0 u1 u2 : Int32, jiv hx9 125 10 = u0 → jiv hx9 125 8 = u1 → jiv hx9 125 9 = u2 → (u0.toInt ≤ u1.toInt ∧ u2.toInt ≤ u0.toInt) → ∀ u3 u4 u5 : Int32, jiv hx9 125 11 = u3 → jiv hx9 125 9 = u4 → jiv hx9 125 10 = u5 → (u3.toInt = 0 ∨ u4.toInt + 1 ≤ u5.toInt) → jRp h0 hx9 → Q none hx9) : ∀ (g0 : Int32) (g1 : Int32) (g2 : Int32) (g3 : Int32) (g4 : Int32) (h : jH), 0 ≤ g0.toInt ∧ g0.toInt ≤ 400 → 0 ≤ g1.toInt ∧ g1.toInt ≤ 3 → 0 ≤ g2.toInt ∧ g2.toInt ≤ 7 → 0 ≤ g3.toInt ∧ g3.toInt ≤ 400 → 0 ≤ g4.toInt ∧ g4.toInt ≤ 400 → (jiv h 125 18 = jiv h0 125 18 ∧ jRq h0 h) → (g0.toInt ≤ g3.toInt ∧ g4.toInt ≤ g0.toInt) → (g1.toInt = 0 ∨ g4.toInt + 1 ≤ g0.toInt) → jiv h 125 10 = g0 → jiv h 125 11 = g1 → jiv h 125 18 = g2 → jiv h 125 8 = g3 → jiv h 125 9 = g4 → jJ jSgM Dy h → jSm fp_X12_readPair_r125 h0 h → jX m_X12_readPair 5 0 0 76 [(0, .ref 125)] [] h 0 0 Q := by
  intro g0 g1 g2 g3 g4 h y0 y1 y2 y3 y4 C0 y6 y7 z0 z1 z2 z3 z4  J Sm
  refine x_aloadn (x := 125) rfl rfl ?_
  refine x_dup rfl rfl ?_
  refine z_getM (N := 92) (v := g2) 12 18 rfl f_12_302 rfl J rfl z2 ?_
  refine x_iconst (v := 1) rfl ki_1 ?_
  refine z_iadd rfl rfl jk_1 (by omega) (fun v1 ev1 => ?_)
  refine z_putI (N := 92) (w := v1.toInt) 12 18 rfl f_12_302 rfl (jfin_no TX12 RX12 92 rfl rfl) hD J Sm rfl rfl rfl (pw_125_18 (by omega)) rfl (fun h w2 J Sm => ?_)
  refine x_vret rfl rfl ?_
  exact hQ _ J Sm _ _ _ (jmo w2 rfl z0) (jmo w2 rfl z3) (jmo w2 rfl z4) (by omega) _ _ _ (jmo w2 rfl z1) (jmo w2 rfl z4) (jmo w2 rfl z0) (by omega) (jrp_of C0.2 z2 C0.1 w2 (by omega))
set_option maxRecDepth 100000 in
set_option maxHeartbeats 4000000 in
theorem sf_X12_readPair_r125 {Dy : jH → Prop} {h : jH} {Q : Option Value → jH → Prop} (hD : jDk Dy) (J : jJ jSgM Dy h) {p0 p1 p2 : Int32} {p3 p4 p5 : Int32} (zp0 : jiv h 125 10 = p0) (zp1 : jiv h 125 8 = p1) (zp2 : jiv h 125 9 = p2) (rl_p0 : (p0.toInt ≤ p1.toInt ∧ p2.toInt ≤ p0.toInt)) (zp3 : jiv h 125 11 = p3) (zp4 : jiv h 125 9 = p4) (zp5 : jiv h 125 10 = p5) (rl_p3 : (p3.toInt = 0 ∨ p4.toInt + 1 ≤ p5.toInt)) (hQ : ∀ hx9, jJ jSgM Dy hx9 → jSm fp_X12_readPair_r125 h hx9 → ∀ u0 u1 u2 : Int32, jiv hx9 125 10 = u0 → jiv hx9 125 8 = u1 → jiv hx9 125 9 = u2 → (u0.toInt ≤ u1.toInt ∧ u2.toInt ≤ u0.toInt) → ∀ u3 u4 u5 : Int32, jiv hx9 125 11 = u3 → jiv hx9 125 9 = u4 → jiv hx9 125 10 = u5 → (u3.toInt = 0 ∨ u4.toInt + 1 ≤ u5.toInt) → jRp h hx9 → Q none hx9) : jC m_X12_readPair 5 0 0 [.ref 125] h Q := by
  refine jC.of rfl k_X12_readPair rfl ?_
  have Sm := jSm_rf fp_X12_readPair_r125 h
  have ep0 := (show 0 ≤ p0.toInt ∧ p0.toInt ≤ 400 from zp0 ▸ jrg_f J sg_125_10_11_1_0_1)
  have ep1 := (show 0 ≤ p1.toInt ∧ p1.toInt ≤ 400 from zp1 ▸ jrg_f J sg_125_8_9_1_0_1)
  have ep2 := (show 0 ≤ p2.toInt ∧ p2.toInt ≤ 400 from zp2 ▸ jrg_f J sg_125_9_10_1_0_1)
  have ep3 := (show 0 ≤ p3.toInt ∧ p3.toInt ≤ 3 from zp3 ▸ jrg_f J sg_125_11_12_1_0_1)
  have ep4 := (show 0 ≤ p4.toInt ∧ p4.toInt ≤ 400 from zp4 ▸ jrg_f J sg_125_9_10_1_0_1)
  have ep5 := (show 0 ≤ p5.toInt ∧ p5.toInt ≤ 400 from zp5 ▸ jrg_f J sg_125_10_11_1_0_1)
  obtain rfl : p2 = p4 := zp2.symm.trans zp4
  obtain rfl : p0 = p5 := zp0.symm.trans zp5
  show jX m_X12_readPair 5 0 0 0 [(0, .ref 125)] [] _ 0 0 _
  refine x_aloadn (x := 125) rfl rfl ?_
  refine z_getI (N := 92) 12 18 rfl f_12_302 rfl J rfl sg_125_18_19_1_0_1 (fun v1 qv1 ev1 => ?_)
  refine x_bipush (v := 8) rfl kb_8 ?_
  refine x_icne (tgt := 15) rfl rfl (ti_ne rfl jk_8 ⟨fun c2 => ?_, fun c2 => ?_⟩)
  ·
    refine x_aloadn (x := 125) rfl rfl ?_
    refine x_iconst (v := 2) rfl ki_2 ?_
    refine x_aloadn (x := 125) rfl rfl ?_
    refine z_getM (N := 92) (v := v1) 12 18 rfl f_12_302 rfl J rfl qv1 ?_
    refine z_imul rfl jk_2 rfl (by omega) (fun v3 ev3 => ?_)
    refine x_inv (N := m_X12_readSide) (As := [.int v3]) (b := 125) (st := []) (dx9 := 4) (mc := 0) (ms := 0) (host := "") 12 rfl t_X12_readSide ⟨Or.inl q_12_305, i_X12_readSide.1, i_X12_readSide.2⟩ ⟨by decide, rfl⟩ (congrArg Prod.fst (J.1.1 125 (12, 92) rfl)) rfl (by decide) rfl rfl ⟨by decide, by decide⟩ (sf_X12_readSide_r125 (jr_of rfl (by omega)) hD J zp0 zp1 zp2 (by omega) zp3 zp2 zp0 (by omega)  (fun h J S4 u5 u6 u7 qu5 qu6 qu7 ru5 u8 u9 u10 qu8 qu9 qu10 ru8 P11 => ?_))
    have Sm := jSm_tr rfl Sm S4
    have eu5 := (show 0 ≤ u5.toInt ∧ u5.toInt ≤ 400 from qu5 ▸ jrg_f J sg_125_10_11_1_0_1)
    have eu6 := (show 0 ≤ u6.toInt ∧ u6.toInt ≤ 400 from qu6 ▸ jrg_f J sg_125_8_9_1_0_1)
    have eu7 := (show 0 ≤ u7.toInt ∧ u7.toInt ≤ 400 from qu7 ▸ jrg_f J sg_125_9_10_1_0_1)
    have eu8 := (show 0 ≤ u8.toInt ∧ u8.toInt ≤ 3 from qu8 ▸ jrg_f J sg_125_11_12_1_0_1)
    obtain rfl : u7 = u9 := qu7.symm.trans qu9
    obtain rfl : u5 = u10 := qu5.symm.trans qu10
    show jX m_X12_readPair 5 0 0 25 [(0, .ref 125)] [] _ 0 0 _
    obtain ⟨u12, qu12⟩ : ∃ v : Int32, jiv h 125 14 = v := ⟨_, rfl⟩
    have eu12 := (show 0 ≤ u12.toInt ∧ u12.toInt ≤ 1 from qu12 ▸ jrg_f J sg_125_14_15_1_0_1)
    refine x_aloadn (x := 125) rfl rfl ?_
    refine x_aloadn (x := 125) rfl rfl ?_
    refine x_bipush (v := 62) rfl kb_62 ?_
    refine x_inv (N := m_X12_isSign) (As := [.int 62]) (b := 125) (st := [.ref 125]) (dx9 := 4) (mc := 0) (ms := 0) (host := "") 12 rfl t_X12_isSign ⟨Or.inl q_12_257, i_X12_isSign.1, i_X12_isSign.2⟩ ⟨by decide, rfl⟩ (congrArg Prod.fst (J.1.1 125 (12, 92) rfl)) rfl (by decide) rfl rfl ⟨by decide, by decide⟩ (jC.of rfl k_X12_isSign rfl ?_)
    show jX m_X12_isSign 4 0 0 0 [(0, .ref 125), (1, .int 62)] [] _ 0 0 _
    refine x_aloadn (x := 125) rfl rfl ?_
    refine z_getM (N := 92) (v := u8) 12 11 rfl f_12_235 rfl J rfl qu8 ?_
    refine x_iconst (v := 3) rfl ki_3 ?_
    refine x_icne (tgt := 22) rfl rfl (ti_ne rfl jk_3 ⟨fun c13 => ?_, fun c13 => ?_⟩)
    ·
      refine x_iconst (v := 0) rfl ki_0 ?_
      refine x_zret rfl rfl (by decide) ?_
      show jX m_X12_readPair 5 0 0 32 [(0, .ref 125)] [.int 0, .ref 125] _ 0 0 _
      refine x_inv (N := m_X12_must) (As := [.int 0]) (b := 125) (st := []) (dx9 := 4) (mc := 0) (ms := 0) (host := "") 12 rfl t_X12_must ⟨Or.inl q_12_250, i_X12_must.1, i_X12_must.2⟩ ⟨by decide, rfl⟩ (congrArg Prod.fst (J.1.1 125 (12, 92) rfl)) rfl (by decide) rfl rfl ⟨by decide, by decide⟩ (jC.of rfl k_X12_must rfl ?_)
      show jX m_X12_must 4 0 0 0 [(0, .ref 125), (1, .int 0)] [] _ 0 0 _
      refine x_aloadn (x := 125) rfl rfl ?_
      refine z_getM (N := 92) (v := u12) 12 14 rfl f_12_214 rfl J rfl qu12 ?_
      refine x_ifne (tgt := 24) rfl rfl (ti_ne rfl jk_0 ⟨fun c14 => ?_, fun c14 => ?_⟩)
      ·
        refine x_aloadn (x := 125) rfl rfl ?_
        refine z_getM (N := 92) (v := u12) 12 14 rfl f_12_214 rfl J rfl qu12 ?_
        refine x_ifne (tgt := 35) rfl rfl (ti_ne rfl jk_0 (bn_t (by omega) ?_))
        refine x_vret rfl rfl ?_
        show jX m_X12_readPair 5 0 0 35 [(0, .ref 125)] [] _ 0 0 _
        refine x_aloadn (x := 125) rfl rfl ?_
        refine z_getR (N := 92) (b := 135) 12 19 rfl f_12_45 rfl J rfl 16019 ⟨rfl, rfl⟩ rfl ?_
        refine x_iconst (v := 2) rfl ki_2 ?_
        refine x_aloadn (x := 125) rfl rfl ?_
        refine z_getM (N := 92) (v := v1) 12 18 rfl f_12_302 rfl J rfl (jmc S4 rfl qv1) ?_
        refine z_imul rfl jk_2 rfl (by omega) (fun v15 ev15 => ?_)
        refine x_iconst (v := 1) rfl ki_1 ?_
        refine z_iadd rfl rfl jk_1 (by omega) (fun v16 ev16 => ?_)
        refine x_iconst (v := 0) rfl ki_0 ?_
        refine z_iast (N := 16) (l := 0) (u := 16) (w := 0) rfl hD J Sm rfl rfl rfl (by omega) jk_0 (wr_135 (fun q1 q2 q3 q4 => by omega)) rfl (fun h w17 J Sm => ?_)
        refine x_aloadn (x := 125) rfl rfl ?_
        refine z_getM (N := 92) (v := u12) 12 14 rfl f_12_214 rfl J rfl (jmo w17 rfl qu12) ?_
        refine x_ifne (tgt := 76) rfl rfl (ti_ne rfl jk_0 (bn_t (by omega) ?_))
        exact jX.sub (jsb_c rfl jsb_n) (ct_X12_readPair_r125_76 hD hQ  u5 u8 v1 u6 u7 h (jr_of rfl (by omega)) (jr_of rfl (by omega)) (jr_of rfl (by omega)) (jr_of rfl (by omega)) (jr_of rfl (by omega)) ⟨(jmo w17 rfl (jmc S4 rfl rfl)), (if z : u12.toInt = 0 then jrq_1 P11 qv1 (by omega) (by omega) qu12 z (jeq_s w17 (by have := jcl_of (d := v16) (by omega); have := jcl_of (d := v1) (by omega); omega) jeq_0) else Or.inl (by rw [(jmo w17 rfl qu12)]; exact z))⟩ (by omega) (by omega) (jmo w17 rfl qu5) (jmo w17 rfl qu8) (jmo w17 rfl (jmc S4 rfl qv1)) (jmo w17 rfl qu6) (jmo w17 rfl qu7) J Sm)
      ·
        refine x_iloadn (x := 0) rfl rfl ?_
        refine x_ifne (tgt := 24) rfl rfl (ti_ne jk_0 jk_0 (bn_f (by omega) ?_))
        refine x_aloadn (x := 125) rfl rfl ?_
        refine x_iconst (v := 1) rfl ki_1 ?_
        refine z_putZ (N := 92) (w := 1) 12 14 rfl f_12_214 rfl (jfin_no TX12 RX12 92 rfl rfl) hD J Sm rfl rfl jk_1 (by omega) (pw_125_14 (by omega)) rfl (fun h w18 J Sm => ?_)
        refine x_aloadn (x := 125) rfl rfl ?_
        refine x_aloadn (x := 125) rfl rfl ?_
        refine z_getM (N := 92) (v := u7) 12 9 rfl f_12_221 rfl J rfl (jmo w18 rfl qu7) ?_
        refine z_putI (N := 92) (w := u7.toInt) 12 13 rfl f_12_32 rfl (jfin_no TX12 RX12 92 rfl rfl) hD J Sm rfl rfl rfl (pw_125_13 (by omega)) rfl (fun h w19 J Sm => ?_)
        refine x_aloadn (x := 125) rfl rfl ?_
        refine z_getM (N := 92) (v := 1) 12 14 rfl f_12_214 rfl J rfl (jmo w19 rfl (jmw w18)) ?_
        refine x_ifne (tgt := 35) rfl rfl (ti_ne jk_1 jk_0 (bn_t (by omega) ?_))
        refine x_vret rfl rfl ?_
        show jX m_X12_readPair 5 0 0 35 [(0, .ref 125)] [] _ 0 0 _
        refine x_aloadn (x := 125) rfl rfl ?_
        refine z_getR (N := 92) (b := 135) 12 19 rfl f_12_45 rfl J rfl 16019 ⟨rfl, rfl⟩ rfl ?_
        refine x_iconst (v := 2) rfl ki_2 ?_
        refine x_aloadn (x := 125) rfl rfl ?_
        refine z_getM (N := 92) (v := v1) 12 18 rfl f_12_302 rfl J rfl (jmo w19 rfl (jmo w18 rfl (jmc S4 rfl qv1))) ?_
        refine z_imul rfl jk_2 rfl (by omega) (fun v20 ev20 => ?_)
        refine x_iconst (v := 1) rfl ki_1 ?_
        refine z_iadd rfl rfl jk_1 (by omega) (fun v21 ev21 => ?_)
        refine x_iconst (v := 0) rfl ki_0 ?_
        refine z_iast (N := 16) (l := 0) (u := 16) (w := 0) rfl hD J Sm rfl rfl rfl (by omega) jk_0 (wr_135 (fun q1 q2 q3 q4 => by omega)) rfl (fun h w22 J Sm => ?_)
        refine x_aloadn (x := 125) rfl rfl ?_
        refine z_getM (N := 92) (v := 1) 12 14 rfl f_12_214 rfl J rfl (jmo w22 rfl (jmo w19 rfl (jmw w18))) ?_
        refine x_ifne (tgt := 76) rfl rfl (ti_ne jk_1 jk_0 (bn_t (by omega) ?_))
        exact jX.sub (jsb_c rfl jsb_n) (ct_X12_readPair_r125_76 hD hQ  u5 u8 v1 u6 u7 h (jr_of rfl (by omega)) (jr_of rfl (by omega)) (jr_of rfl (by omega)) (jr_of rfl (by omega)) (jr_of rfl (by omega)) ⟨(jmo w22 rfl (jmo w19 rfl (jmo w18 rfl (jmc S4 rfl rfl)))), (Or.inl (by rw [(jmo w22 rfl (jmo w19 rfl (jmw w18)))]; decide))⟩ (by omega) (by omega) (jmo w22 rfl (jmo w19 rfl (jmo w18 rfl qu5))) (jmo w22 rfl (jmo w19 rfl (jmo w18 rfl qu8))) (jmo w22 rfl (jmo w19 rfl (jmo w18 rfl (jmc S4 rfl qv1)))) (jmo w22 rfl (jmo w19 rfl (jmo w18 rfl qu6))) (jmo w22 rfl (jmo w19 rfl (jmo w18 rfl qu7))) J Sm)
    ·
      refine x_aloadn (x := 125) rfl rfl ?_
      refine z_getL0 (N := 92) 12 12 rfl f_12_224 rfl J rfl (fun v23 => ?_)
      have ev23 := jfullL v23
      refine x_iloadn (x := 62) rfl rfl ?_
      refine z_i2l rfl jk_62 (fun v24 ev24 => ?_)
      refine z_lcmp rfl rfl rfl (fun v25 ev25 => ?_)
      refine x_ifne (tgt := 22) rfl rfl (ti_ne rfl jk_0 ⟨fun c26 => ?_, fun c26 => ?_⟩)
      ·
        refine x_iconst (v := 0) rfl ki_0 ?_
        refine x_zret rfl rfl (by decide) ?_
        show jX m_X12_readPair 5 0 0 32 [(0, .ref 125)] [.int 0, .ref 125] _ 0 0 _
        refine x_inv (N := m_X12_must) (As := [.int 0]) (b := 125) (st := []) (dx9 := 4) (mc := 0) (ms := 0) (host := "") 12 rfl t_X12_must ⟨Or.inl q_12_250, i_X12_must.1, i_X12_must.2⟩ ⟨by decide, rfl⟩ (congrArg Prod.fst (J.1.1 125 (12, 92) rfl)) rfl (by decide) rfl rfl ⟨by decide, by decide⟩ (jC.of rfl k_X12_must rfl ?_)
        show jX m_X12_must 4 0 0 0 [(0, .ref 125), (1, .int 0)] [] _ 0 0 _
        refine x_aloadn (x := 125) rfl rfl ?_
        refine z_getM (N := 92) (v := u12) 12 14 rfl f_12_214 rfl J rfl qu12 ?_
        refine x_ifne (tgt := 24) rfl rfl (ti_ne rfl jk_0 ⟨fun c27 => ?_, fun c27 => ?_⟩)
        ·
          refine x_aloadn (x := 125) rfl rfl ?_
          refine z_getM (N := 92) (v := u12) 12 14 rfl f_12_214 rfl J rfl qu12 ?_
          refine x_ifne (tgt := 35) rfl rfl (ti_ne rfl jk_0 (bn_t (by omega) ?_))
          refine x_vret rfl rfl ?_
          show jX m_X12_readPair 5 0 0 35 [(0, .ref 125)] [] _ 0 0 _
          refine x_aloadn (x := 125) rfl rfl ?_
          refine z_getR (N := 92) (b := 135) 12 19 rfl f_12_45 rfl J rfl 16019 ⟨rfl, rfl⟩ rfl ?_
          refine x_iconst (v := 2) rfl ki_2 ?_
          refine x_aloadn (x := 125) rfl rfl ?_
          refine z_getM (N := 92) (v := v1) 12 18 rfl f_12_302 rfl J rfl (jmc S4 rfl qv1) ?_
          refine z_imul rfl jk_2 rfl (by omega) (fun v28 ev28 => ?_)
          refine x_iconst (v := 1) rfl ki_1 ?_
          refine z_iadd rfl rfl jk_1 (by omega) (fun v29 ev29 => ?_)
          refine x_iconst (v := 0) rfl ki_0 ?_
          refine z_iast (N := 16) (l := 0) (u := 16) (w := 0) rfl hD J Sm rfl rfl rfl (by omega) jk_0 (wr_135 (fun q1 q2 q3 q4 => by omega)) rfl (fun h w30 J Sm => ?_)
          refine x_aloadn (x := 125) rfl rfl ?_
          refine z_getM (N := 92) (v := u12) 12 14 rfl f_12_214 rfl J rfl (jmo w30 rfl qu12) ?_
          refine x_ifne (tgt := 76) rfl rfl (ti_ne rfl jk_0 (bn_t (by omega) ?_))
          exact jX.sub (jsb_c rfl jsb_n) (ct_X12_readPair_r125_76 hD hQ  u5 u8 v1 u6 u7 h (jr_of rfl (by omega)) (jr_of rfl (by omega)) (jr_of rfl (by omega)) (jr_of rfl (by omega)) (jr_of rfl (by omega)) ⟨(jmo w30 rfl (jmc S4 rfl rfl)), (if z : u12.toInt = 0 then jrq_1 P11 qv1 (by omega) (by omega) qu12 z (jeq_s w30 (by have := jcl_of (d := v29) (by omega); have := jcl_of (d := v1) (by omega); omega) jeq_0) else Or.inl (by rw [(jmo w30 rfl qu12)]; exact z))⟩ (by omega) (by omega) (jmo w30 rfl qu5) (jmo w30 rfl qu8) (jmo w30 rfl (jmc S4 rfl qv1)) (jmo w30 rfl qu6) (jmo w30 rfl qu7) J Sm)
        ·
          refine x_iloadn (x := 0) rfl rfl ?_
          refine x_ifne (tgt := 24) rfl rfl (ti_ne jk_0 jk_0 (bn_f (by omega) ?_))
          refine x_aloadn (x := 125) rfl rfl ?_
          refine x_iconst (v := 1) rfl ki_1 ?_
          refine z_putZ (N := 92) (w := 1) 12 14 rfl f_12_214 rfl (jfin_no TX12 RX12 92 rfl rfl) hD J Sm rfl rfl jk_1 (by omega) (pw_125_14 (by omega)) rfl (fun h w31 J Sm => ?_)
          refine x_aloadn (x := 125) rfl rfl ?_
          refine x_aloadn (x := 125) rfl rfl ?_
          refine z_getM (N := 92) (v := u7) 12 9 rfl f_12_221 rfl J rfl (jmo w31 rfl qu7) ?_
          refine z_putI (N := 92) (w := u7.toInt) 12 13 rfl f_12_32 rfl (jfin_no TX12 RX12 92 rfl rfl) hD J Sm rfl rfl rfl (pw_125_13 (by omega)) rfl (fun h w32 J Sm => ?_)
          refine x_aloadn (x := 125) rfl rfl ?_
          refine z_getM (N := 92) (v := 1) 12 14 rfl f_12_214 rfl J rfl (jmo w32 rfl (jmw w31)) ?_
          refine x_ifne (tgt := 35) rfl rfl (ti_ne jk_1 jk_0 (bn_t (by omega) ?_))
          refine x_vret rfl rfl ?_
          show jX m_X12_readPair 5 0 0 35 [(0, .ref 125)] [] _ 0 0 _
          refine x_aloadn (x := 125) rfl rfl ?_
          refine z_getR (N := 92) (b := 135) 12 19 rfl f_12_45 rfl J rfl 16019 ⟨rfl, rfl⟩ rfl ?_
          refine x_iconst (v := 2) rfl ki_2 ?_
          refine x_aloadn (x := 125) rfl rfl ?_
          refine z_getM (N := 92) (v := v1) 12 18 rfl f_12_302 rfl J rfl (jmo w32 rfl (jmo w31 rfl (jmc S4 rfl qv1))) ?_
          refine z_imul rfl jk_2 rfl (by omega) (fun v33 ev33 => ?_)
          refine x_iconst (v := 1) rfl ki_1 ?_
          refine z_iadd rfl rfl jk_1 (by omega) (fun v34 ev34 => ?_)
          refine x_iconst (v := 0) rfl ki_0 ?_
          refine z_iast (N := 16) (l := 0) (u := 16) (w := 0) rfl hD J Sm rfl rfl rfl (by omega) jk_0 (wr_135 (fun q1 q2 q3 q4 => by omega)) rfl (fun h w35 J Sm => ?_)
          refine x_aloadn (x := 125) rfl rfl ?_
          refine z_getM (N := 92) (v := 1) 12 14 rfl f_12_214 rfl J rfl (jmo w35 rfl (jmo w32 rfl (jmw w31))) ?_
          refine x_ifne (tgt := 76) rfl rfl (ti_ne jk_1 jk_0 (bn_t (by omega) ?_))
          exact jX.sub (jsb_c rfl jsb_n) (ct_X12_readPair_r125_76 hD hQ  u5 u8 v1 u6 u7 h (jr_of rfl (by omega)) (jr_of rfl (by omega)) (jr_of rfl (by omega)) (jr_of rfl (by omega)) (jr_of rfl (by omega)) ⟨(jmo w35 rfl (jmo w32 rfl (jmo w31 rfl (jmc S4 rfl rfl)))), (Or.inl (by rw [(jmo w35 rfl (jmo w32 rfl (jmw w31)))]; decide))⟩ (by omega) (by omega) (jmo w35 rfl (jmo w32 rfl (jmo w31 rfl qu5))) (jmo w35 rfl (jmo w32 rfl (jmo w31 rfl qu8))) (jmo w35 rfl (jmo w32 rfl (jmo w31 rfl (jmc S4 rfl qv1)))) (jmo w35 rfl (jmo w32 rfl (jmo w31 rfl qu6))) (jmo w35 rfl (jmo w32 rfl (jmo w31 rfl qu7))) J Sm)
      ·
        refine x_iconst (v := 1) rfl ki_1 ?_
        refine x_goto (tgt := 23) rfl rfl ?_
        refine x_zret rfl rfl (by decide) ?_
        show jX m_X12_readPair 5 0 0 32 [(0, .ref 125)] [.int 1, .ref 125] _ 0 0 _
        refine x_inv (N := m_X12_must) (As := [.int 1]) (b := 125) (st := []) (dx9 := 4) (mc := 0) (ms := 0) (host := "") 12 rfl t_X12_must ⟨Or.inl q_12_250, i_X12_must.1, i_X12_must.2⟩ ⟨by decide, rfl⟩ (congrArg Prod.fst (J.1.1 125 (12, 92) rfl)) rfl (by decide) rfl rfl ⟨by decide, by decide⟩ (jC.of rfl k_X12_must rfl ?_)
        show jX m_X12_must 4 0 0 0 [(0, .ref 125), (1, .int 1)] [] _ 0 0 _
        refine x_aloadn (x := 125) rfl rfl ?_
        refine z_getM (N := 92) (v := u12) 12 14 rfl f_12_214 rfl J rfl qu12 ?_
        refine x_ifne (tgt := 24) rfl rfl (ti_ne rfl jk_0 ⟨fun c36 => ?_, fun c36 => ?_⟩)
        ·
          refine x_aloadn (x := 125) rfl rfl ?_
          refine z_getM (N := 92) (v := u12) 12 14 rfl f_12_214 rfl J rfl qu12 ?_
          refine x_ifne (tgt := 35) rfl rfl (ti_ne rfl jk_0 (bn_t (by omega) ?_))
          refine x_vret rfl rfl ?_
          show jX m_X12_readPair 5 0 0 35 [(0, .ref 125)] [] _ 0 0 _
          refine x_aloadn (x := 125) rfl rfl ?_
          refine z_getR (N := 92) (b := 135) 12 19 rfl f_12_45 rfl J rfl 16019 ⟨rfl, rfl⟩ rfl ?_
          refine x_iconst (v := 2) rfl ki_2 ?_
          refine x_aloadn (x := 125) rfl rfl ?_
          refine z_getM (N := 92) (v := v1) 12 18 rfl f_12_302 rfl J rfl (jmc S4 rfl qv1) ?_
          refine z_imul rfl jk_2 rfl (by omega) (fun v37 ev37 => ?_)
          refine x_iconst (v := 1) rfl ki_1 ?_
          refine z_iadd rfl rfl jk_1 (by omega) (fun v38 ev38 => ?_)
          refine x_iconst (v := 0) rfl ki_0 ?_
          refine z_iast (N := 16) (l := 0) (u := 16) (w := 0) rfl hD J Sm rfl rfl rfl (by omega) jk_0 (wr_135 (fun q1 q2 q3 q4 => by omega)) rfl (fun h w39 J Sm => ?_)
          refine x_aloadn (x := 125) rfl rfl ?_
          refine z_getM (N := 92) (v := u12) 12 14 rfl f_12_214 rfl J rfl (jmo w39 rfl qu12) ?_
          refine x_ifne (tgt := 76) rfl rfl (ti_ne rfl jk_0 (bn_t (by omega) ?_))
          exact jX.sub (jsb_c rfl jsb_n) (ct_X12_readPair_r125_76 hD hQ  u5 u8 v1 u6 u7 h (jr_of rfl (by omega)) (jr_of rfl (by omega)) (jr_of rfl (by omega)) (jr_of rfl (by omega)) (jr_of rfl (by omega)) ⟨(jmo w39 rfl (jmc S4 rfl rfl)), (if z : u12.toInt = 0 then jrq_1 P11 qv1 (by omega) (by omega) qu12 z (jeq_s w39 (by have := jcl_of (d := v38) (by omega); have := jcl_of (d := v1) (by omega); omega) jeq_0) else Or.inl (by rw [(jmo w39 rfl qu12)]; exact z))⟩ (by omega) (by omega) (jmo w39 rfl qu5) (jmo w39 rfl qu8) (jmo w39 rfl (jmc S4 rfl qv1)) (jmo w39 rfl qu6) (jmo w39 rfl qu7) J Sm)
        ·
          refine x_iloadn (x := 1) rfl rfl ?_
          refine x_ifne (tgt := 24) rfl rfl (ti_ne jk_1 jk_0 (bn_t (by omega) ?_))
          refine x_aloadn (x := 125) rfl rfl ?_
          refine z_getM (N := 92) (v := u12) 12 14 rfl f_12_214 rfl J rfl qu12 ?_
          refine x_ifne (tgt := 35) rfl rfl (ti_ne rfl jk_0 (bn_f (by omega) ?_))
          refine x_aloadn (x := 125) rfl rfl ?_
          refine x_inv (N := m_X12_next) (As := []) (b := 125) (st := []) (dx9 := 2) (mc := 0) (ms := 0) (host := "") 12 rfl t_X12_next ⟨Or.inl q_12_218, i_X12_next.1, i_X12_next.2⟩ ⟨by decide, rfl⟩ (congrArg Prod.fst (J.1.1 125 (12, 92) rfl)) rfl (by decide) rfl rfl ⟨by decide, by decide⟩ (sf_X12_next_r125  hD J qu5 qu6 (by omega)  (fun h J S40 u41 u42 u43 qu41 qu42 qu43 ru41 u44 u45 u46 qu44 qu45 qu46 ru44 P47 => ?_))
          have Sm := jSm_tr rfl Sm S40
          have eu41 := (show 0 ≤ u41.toInt ∧ u41.toInt ≤ 400 from qu41 ▸ jrg_f J sg_125_10_11_1_0_1)
          have eu42 := (show 0 ≤ u42.toInt ∧ u42.toInt ≤ 400 from qu42 ▸ jrg_f J sg_125_8_9_1_0_1)
          have eu43 := (show 0 ≤ u43.toInt ∧ u43.toInt ≤ 400 from qu43 ▸ jrg_f J sg_125_9_10_1_0_1)
          have eu44 := (show 0 ≤ u44.toInt ∧ u44.toInt ≤ 3 from qu44 ▸ jrg_f J sg_125_11_12_1_0_1)
          obtain rfl : u43 = u45 := qu43.symm.trans qu45
          obtain rfl : u41 = u46 := qu41.symm.trans qu46
          have nfP47 := jnf P47.1 qu5 qu43
          show jX m_X12_must 4 0 0 35 [(0, .ref 125), (1, .int 1)] [] _ 0 0 _
          refine x_vret rfl rfl ?_
          show jX m_X12_readPair 5 0 0 35 [(0, .ref 125)] [] _ 0 0 _
          refine x_aloadn (x := 125) rfl rfl ?_
          refine z_getR (N := 92) (b := 135) 12 19 rfl f_12_45 rfl J rfl 16019 ⟨rfl, rfl⟩ rfl ?_
          refine x_iconst (v := 2) rfl ki_2 ?_
          refine x_aloadn (x := 125) rfl rfl ?_
          refine z_getM (N := 92) (v := v1) 12 18 rfl f_12_302 rfl J rfl (jmc S40 rfl (jmc S4 rfl qv1)) ?_
          refine z_imul rfl jk_2 rfl (by omega) (fun v48 ev48 => ?_)
          refine x_iconst (v := 1) rfl ki_1 ?_
          refine z_iadd rfl rfl jk_1 (by omega) (fun v49 ev49 => ?_)
          refine x_iconst (v := 0) rfl ki_0 ?_
          refine z_iast (N := 16) (l := 0) (u := 16) (w := 0) rfl hD J Sm rfl rfl rfl (by omega) jk_0 (wr_135 (fun q1 q2 q3 q4 => by omega)) rfl (fun h w50 J Sm => ?_)
          refine x_aloadn (x := 125) rfl rfl ?_
          refine z_getM (N := 92) (v := u12) 12 14 rfl f_12_214 rfl J rfl (jmo w50 rfl (jmc S40 rfl qu12)) ?_
          refine x_ifne (tgt := 76) rfl rfl (ti_ne rfl jk_0 (bn_f (by omega) ?_))
          refine x_aloadn (x := 125) rfl rfl ?_
          refine z_getM (N := 92) (v := u44) 12 11 rfl f_12_235 rfl J rfl (jmo w50 rfl qu44) ?_
          refine x_iconst (v := 1) rfl ki_1 ?_
          refine x_icne (tgt := 76) rfl rfl (ti_ne rfl jk_1 ⟨fun c51 => ?_, fun c51 => ?_⟩)
          ·
            exact jX.sub (jsb_c rfl jsb_n) (ct_X12_readPair_r125_76 hD hQ  u41 u44 v1 u42 u43 h (jr_of rfl (by omega)) (jr_of rfl (by omega)) (jr_of rfl (by omega)) (jr_of rfl (by omega)) (jr_of rfl (by omega)) ⟨(jmo w50 rfl (jmc S40 rfl (jmc S4 rfl rfl))), (if z : u12.toInt = 0 then jrq_1 P11 qv1 (by omega) (by omega) qu12 z (jeq_s w50 (by have := jcl_of (d := v49) (by omega); have := jcl_of (d := v1) (by omega); omega) (jeq_c S40 rfl jeq_0)) else Or.inl (by rw [(jmo w50 rfl (jmc S40 rfl qu12))]; exact z))⟩ (by omega) (by omega) (jmo w50 rfl qu41) (jmo w50 rfl qu44) (jmo w50 rfl (jmc S40 rfl (jmc S4 rfl qv1))) (jmo w50 rfl qu42) (jmo w50 rfl qu43) J Sm)
          ·
            have rq := jrq_1 P11 qv1 (by omega) (by omega) qu12 (by omega) (jeq_s w50 (by have := jcl_of (d := v49) (by omega); have := jcl_of (d := v1) (by omega); omega) (jeq_c S40 rfl jeq_0))
            have rb : (jiv h 125 14).toInt = 0 := by rw [(jmo w50 rfl (jmc S40 rfl qu12))]; omega
            refine x_aloadn (x := 125) rfl rfl ?_
            refine x_iconst (v := 2) rfl ki_2 ?_
            refine x_aloadn (x := 125) rfl rfl ?_
            refine z_getM (N := 92) (v := v1) 12 18 rfl f_12_302 rfl J rfl (jmo w50 rfl (jmc S40 rfl (jmc S4 rfl qv1))) ?_
            refine z_imul rfl jk_2 rfl (by omega) (fun v52 ev52 => ?_)
            refine x_iconst (v := 1) rfl ki_1 ?_
            refine z_iadd rfl rfl jk_1 (by omega) (fun v53 ev53 => ?_)
            refine x_inv (N := m_X12_readSide) (As := [.int v53]) (b := 125) (st := []) (dx9 := 4) (mc := 0) (ms := 0) (host := "") 12 rfl t_X12_readSide ⟨Or.inl q_12_305, i_X12_readSide.1, i_X12_readSide.2⟩ ⟨by decide, rfl⟩ (congrArg Prod.fst (J.1.1 125 (12, 92) rfl)) rfl (by decide) rfl rfl ⟨by decide, by decide⟩ (sf_X12_readSide_r125 (jr_of rfl (by omega)) hD J (jmo w50 rfl qu41) (jmo w50 rfl qu42) (jmo w50 rfl qu43) (by omega) (jmo w50 rfl qu44) (jmo w50 rfl qu43) (jmo w50 rfl qu41) (by omega)  (fun h J S54 u55 u56 u57 qu55 qu56 qu57 ru55 u58 u59 u60 qu58 qu59 qu60 ru58 P61 => ?_))
            have Sm := jSm_tr rfl Sm S54
            have eu55 := (show 0 ≤ u55.toInt ∧ u55.toInt ≤ 400 from qu55 ▸ jrg_f J sg_125_10_11_1_0_1)
            have eu56 := (show 0 ≤ u56.toInt ∧ u56.toInt ≤ 400 from qu56 ▸ jrg_f J sg_125_8_9_1_0_1)
            have eu57 := (show 0 ≤ u57.toInt ∧ u57.toInt ≤ 400 from qu57 ▸ jrg_f J sg_125_9_10_1_0_1)
            have eu58 := (show 0 ≤ u58.toInt ∧ u58.toInt ≤ 3 from qu58 ▸ jrg_f J sg_125_11_12_1_0_1)
            obtain rfl : u57 = u59 := qu57.symm.trans qu59
            obtain rfl : u55 = u60 := qu55.symm.trans qu60
            show jX m_X12_readPair 5 0 0 76 [(0, .ref 125)] [] _ 0 0 _
            exact jX.sub (jsb_c rfl jsb_n) (ct_X12_readPair_r125_76 hD hQ  u55 u58 v1 u56 u57 h (jr_of rfl (by omega)) (jr_of rfl (by omega)) (jr_of rfl (by omega)) (jr_of rfl (by omega)) (jr_of rfl (by omega)) ⟨(jmc S54 rfl (jmo w50 rfl (jmc S40 rfl (jmc S4 rfl rfl)))), (jrq_2 P61 qv1 (by omega) (by omega) rq rb)⟩ (by omega) (by omega) qu55 qu58 (jmc S54 rfl (jmo w50 rfl (jmc S40 rfl (jmc S4 rfl qv1)))) qu56 qu57 J Sm)
  ·
    refine x_aloadn (x := 125) rfl rfl ?_
    refine x_iconst (v := 0) rfl ki_0 ?_
    refine x_inv (N := m_X12_must) (As := [.int 0]) (b := 125) (st := []) (dx9 := 4) (mc := 0) (ms := 0) (host := "") 12 rfl t_X12_must ⟨Or.inl q_12_250, i_X12_must.1, i_X12_must.2⟩ ⟨by decide, rfl⟩ (congrArg Prod.fst (J.1.1 125 (12, 92) rfl)) rfl (by decide) rfl rfl ⟨by decide, by decide⟩ (jC.of rfl k_X12_must rfl ?_)
    show jX m_X12_must 4 0 0 0 [(0, .ref 125), (1, .int 0)] [] _ 0 0 _
    refine x_aloadn (x := 125) rfl rfl ?_
    refine z_getI (N := 92) 12 14 rfl f_12_214 rfl J rfl sg_125_14_15_1_0_1 (fun v62 qv62 ev62 => ?_)
    refine x_ifne (tgt := 24) rfl rfl (ti_ne rfl jk_0 ⟨fun c63 => ?_, fun c63 => ?_⟩)
    ·
      refine x_aloadn (x := 125) rfl rfl ?_
      refine z_getM (N := 92) (v := v62) 12 14 rfl f_12_214 rfl J rfl qv62 ?_
      refine x_ifne (tgt := 35) rfl rfl (ti_ne rfl jk_0 (bn_t (by omega) ?_))
      refine x_vret rfl rfl ?_
      show jX m_X12_readPair 5 0 0 14 [(0, .ref 125)] [] _ 0 0 _
      refine x_vret rfl rfl ?_
      exact hQ _ J Sm _ _ _ zp0 zp1 zp2 (by omega) _ _ _ zp3 zp2 zp0 (by omega) (Or.inl (by rw [qv62]; omega))
    ·
      refine x_iloadn (x := 0) rfl rfl ?_
      refine x_ifne (tgt := 24) rfl rfl (ti_ne jk_0 jk_0 (bn_f (by omega) ?_))
      refine x_aloadn (x := 125) rfl rfl ?_
      refine x_iconst (v := 1) rfl ki_1 ?_
      refine z_putZ (N := 92) (w := 1) 12 14 rfl f_12_214 rfl (jfin_no TX12 RX12 92 rfl rfl) hD J Sm rfl rfl jk_1 (by omega) (pw_125_14 (by omega)) rfl (fun h w64 J Sm => ?_)
      refine x_aloadn (x := 125) rfl rfl ?_
      refine x_aloadn (x := 125) rfl rfl ?_
      refine z_getM (N := 92) (v := p2) 12 9 rfl f_12_221 rfl J rfl (jmo w64 rfl zp2) ?_
      refine z_putI (N := 92) (w := p2.toInt) 12 13 rfl f_12_32 rfl (jfin_no TX12 RX12 92 rfl rfl) hD J Sm rfl rfl rfl (pw_125_13 (by omega)) rfl (fun h w65 J Sm => ?_)
      refine x_aloadn (x := 125) rfl rfl ?_
      refine z_getM (N := 92) (v := 1) 12 14 rfl f_12_214 rfl J rfl (jmo w65 rfl (jmw w64)) ?_
      refine x_ifne (tgt := 35) rfl rfl (ti_ne jk_1 jk_0 (bn_t (by omega) ?_))
      refine x_vret rfl rfl ?_
      show jX m_X12_readPair 5 0 0 14 [(0, .ref 125)] [] _ 0 0 _
      refine x_vret rfl rfl ?_
      exact hQ _ J Sm _ _ _ (jmo w65 rfl (jmo w64 rfl zp0)) (jmo w65 rfl (jmo w64 rfl zp1)) (jmo w65 rfl (jmo w64 rfl zp2)) (by omega) _ _ _ (jmo w65 rfl (jmo w64 rfl zp3)) (jmo w65 rfl (jmo w64 rfl zp2)) (jmo w65 rfl (jmo w64 rfl zp0)) (by omega) (Or.inl (by rw [(jmo w65 rfl (jmw w64))]; decide))
def fp_X12_reason_r125 : jFp := [(125, 0, 1), (137, 0, 80), (138, 0, 2)]
set_option maxRecDepth 100000 in
set_option maxHeartbeats 4000000 in
theorem ct_X12_reason_r125_31 {Dy : jH → Prop} {h0 : jH} {Q : Option Value → jH → Prop} (hD : jDk Dy) (hQ : ∀ (v : Int32) hx9, (-1) ≤ v.toInt ∧ v.toInt ≤ 7 → jJ jSgM Dy hx9 → jSm fp_X12_reason_r125 h0 hx9 → Q (some (.int v)) hx9) : ∀ (s0 : Int32) (h : jH), 0 ≤ s0.toInt ∧ s0.toInt ≤ 7 → jJ jSgM Dy h → jSm fp_X12_reason_r125 h0 h → jX m_X12_reason 7 0 0 31 [] [.int s0] h 0 0 Q := by
  intro s0 h y0   J Sm
  refine x_iret rfl rfl ?_
  exact hQ _ _ (jr_of rfl (by omega)) J Sm
set_option maxRecDepth 100000 in
set_option maxHeartbeats 4000000 in
theorem ct_X12_reason_r125_100031 {Dy : jH → Prop} {h0 : jH} {Q : Option Value → jH → Prop} (hD : jDk Dy) (hQ : ∀ (v : Int32) hx9, (-1) ≤ v.toInt ∧ v.toInt ≤ 7 → jJ jSgM Dy hx9 → jSm fp_X12_reason_r125 h0 hx9 → Q (some (.int v)) hx9) : ∀ (h : jH), jJ jSgM Dy h → jSm fp_X12_reason_r125 h0 h → jX m_X12_reason 7 0 0 31 [] [.int (-1)] h 0 0 Q := by
  intro  h    J Sm
  refine x_iret rfl rfl ?_
  exact hQ _ _ (jr_of jk_m1 (by omega)) J Sm
set_option maxRecDepth 100000 in
set_option maxHeartbeats 4000000 in
theorem ct_X12_reason_r125_30 {Dy : jH → Prop} {h0 : jH} {Q : Option Value → jH → Prop} (hD : jDk Dy) (hQ : ∀ (v : Int32) hx9, (-1) ≤ v.toInt ∧ v.toInt ≤ 7 → jJ jSgM Dy hx9 → jSm fp_X12_reason_r125 h0 hx9 → Q (some (.int v)) hx9) : ∀ (h : jH), jJ jSgM Dy h → jSm fp_X12_reason_r125 h0 h → jX m_X12_reason 7 0 0 30 [] [] h 0 0 Q := by
  intro  h    J Sm
  refine x_iconst (v := (-1)) rfl ki_m1 ?_
  exact jX.sub jsb_n (ct_X12_reason_r125_100031 hD hQ  h J Sm)
set_option maxRecDepth 100000 in
set_option maxHeartbeats 4000000 in
theorem sf_X12_reason_r125 {Dy : jH → Prop} {h : jH} {Q : Option Value → jH → Prop} {a1 : Int32} {a2 : Int32} (hD : jDk Dy) (J : jJ jSgM Dy h) (hQ : ∀ (v : Int32) hx9, (-1) ≤ v.toInt ∧ v.toInt ≤ 7 → jJ jSgM Dy hx9 → jSm fp_X12_reason_r125 h hx9 → Q (some (.int v)) hx9) : jC m_X12_reason 7 0 0 [.ref 125, .int a1, .int a2] h Q := by
  refine jC.of rfl k_X12_reason rfl ?_
  have Sm := jSm_rf fp_X12_reason_r125 h
  have ea1 := jfull a1
  have ea2 := jfull a2
  show jX m_X12_reason 7 0 0 0 [(0, .ref 125), (1, .int a1), (2, .int a2)] [] _ 0 0 _
  refine x_aloadn (x := 125) rfl rfl ?_
  refine x_iconst (v := 0) rfl ki_0 ?_
  refine z_putI (N := 92) (w := 0) 12 0 rfl f_12_180 rfl (jfin_no TX12 RX12 92 rfl rfl) hD J Sm rfl rfl jk_0 (pw_125_0 (by omega)) rfl (fun h w1 J Sm => ?_)
  refine x_aloadn (x := 125) rfl rfl ?_
  refine x_iloadn (x := a1) rfl rfl ?_
  refine x_inv (N := m_X12_isMention) (As := [.int a1]) (b := 125) (st := []) (dx9 := 6) (mc := 0) (ms := 0) (host := "") 12 rfl t_X12_isMention ⟨Or.inl q_12_322, i_X12_isMention.1, i_X12_isMention.2⟩ ⟨by decide, rfl⟩ (congrArg Prod.fst (J.1.1 125 (12, 92) rfl)) rfl (by decide) rfl rfl ⟨by decide, by decide⟩ (jC.of rfl k_X12_isMention rfl ?_)
  show jX m_X12_isMention 6 0 0 0 [(0, .ref 125), (1, .int a1)] [] _ 0 0 _
  refine x_iloadn (x := a1) rfl rfl ?_
  refine x_iflt (tgt := 34) rfl rfl (ti_lt rfl jk_0 ⟨fun c2 => ?_, fun c2 => ?_⟩)
  ·
    refine x_iconst (v := 0) rfl ki_0 ?_
    refine x_zret rfl rfl (by decide) ?_
    show jX m_X12_reason 7 0 0 10 [(0, .ref 125), (1, .int a1), (2, .int a2)] [.int 0] _ 0 0 _
    refine x_ifeq (tgt := 30) rfl rfl (ti_eq jk_0 jk_0 (br_t (by omega) ?_))
    exact jX.sub jsb_n (ct_X12_reason_r125_30 hD hQ  h J Sm)
  ·
    refine x_aloadn (x := 125) rfl rfl ?_
    refine x_iloadn (x := a1) rfl rfl ?_
    refine x_iconst (v := 3) rfl ki_3 ?_
    refine z_idiv rfl rfl jk_3 (by omega) (by omega) (fun v3 ev3 => ?_)
    refine x_inv (N := m_X12_isLine) (As := [.int v3]) (b := 125) (st := []) (dx9 := 5) (mc := 0) (ms := 0) (host := "") 12 rfl t_X12_isLine ⟨Or.inl q_12_293, i_X12_isLine.1, i_X12_isLine.2⟩ ⟨by decide, rfl⟩ (congrArg Prod.fst (J.1.1 125 (12, 92) rfl)) rfl (by decide) rfl rfl ⟨by decide, by decide⟩ (jC.of rfl k_X12_isLine rfl ?_)
    show jX m_X12_isLine 5 0 0 0 [(0, .ref 125), (1, .int v3)] [] _ 0 0 _
    refine x_iloadn (x := v3) rfl rfl ?_
    refine z_i2l rfl rfl (fun v4 ev4 => ?_)
    refine x_lconst (v := 0) rfl kl_0 ?_
    refine x_aloadn (x := 125) rfl rfl ?_
    refine z_getR (N := 92) (b := 126) 12 2 rfl f_12_8 rfl J rfl 16002 ⟨rfl, rfl⟩ rfl ?_
    refine x_iconst (v := 0) rfl ki_0 ?_
    refine z_iald (N := 50660) rfl J rfl sg_126_0_1_1_0_1 jk_0 (by omega) (fun v5 qv5 ev5 => ?_)
    refine z_i2l rfl rfl (fun v6 ev6 => ?_)
    refine x_lconst (v := 1) rfl kl_1 ?_
    refine z_lsub rfl rfl jkl_1 (by omega) (fun v7 ev7 => ?_)
    refine x_inst (N := m_X12_in) (As := [.long v4, .long 0, .long v7]) (st := []) (dx9 := 1) (mc := 0) (ms := 0) (host := "") rfl t_X12_in ⟨Or.inl q_12_188, s_X12_in⟩ rfl (by decide) rfl rfl ⟨by decide, by decide⟩ (zc_X12_in rfl jkl_0 rfl (fun v8 ev8 => ?_))
    show jX m_X12_isLine 5 0 0 15 [(0, .ref 125), (1, .int v3)] [.int v8] _ 0 0 _
    refine x_zret rfl rfl (jz01 (by omega)) ?_
    show jX m_X12_isMention 6 0 0 11 [(0, .ref 125), (1, .int a1)] [.int v8] _ 0 0 _
    refine x_ifeq (tgt := 34) rfl rfl (ti_eq rfl jk_0 ⟨fun c9 => ?_, fun c9 => ?_⟩)
    ·
      refine x_iconst (v := 0) rfl ki_0 ?_
      refine x_zret rfl rfl (by decide) ?_
      show jX m_X12_reason 7 0 0 10 [(0, .ref 125), (1, .int a1), (2, .int a2)] [.int 0] _ 0 0 _
      refine x_ifeq (tgt := 30) rfl rfl (ti_eq jk_0 jk_0 (br_t (by omega) ?_))
      exact jX.sub jsb_n (ct_X12_reason_r125_30 hD hQ  h J Sm)
    ·
      refine x_iloadn (x := a1) rfl rfl ?_
      refine x_iconst (v := 3) rfl ki_3 ?_
      refine z_irem rfl rfl jk_3 (by omega) (by omega) (fun v10 ev10 => ?_)
      refine x_aloadn (x := 125) rfl rfl ?_
      refine x_iloadn (x := a1) rfl rfl ?_
      refine x_iconst (v := 3) rfl ki_3 ?_
      refine z_idiv rfl rfl jk_3 (by omega) (by omega) (fun v11 ev11 => ?_)
      refine x_inv (N := m_X12_bookOf) (As := [.int v11]) (b := 125) (st := [.int v10]) (dx9 := 5) (mc := 0) (ms := 0) (host := "") 12 rfl t_X12_bookOf ⟨Or.inl q_12_299, i_X12_bookOf.1, i_X12_bookOf.2⟩ ⟨by decide, rfl⟩ (congrArg Prod.fst (J.1.1 125 (12, 92) rfl)) rfl (by decide) rfl rfl ⟨by decide, by decide⟩ (jC.of rfl k_X12_bookOf rfl ?_)
      show jX m_X12_bookOf 5 0 0 0 [(0, .ref 125), (1, .int v11)] [] _ 0 0 _
      refine x_aloadn (x := 125) rfl rfl ?_
      refine z_getR (N := 92) (b := 126) 12 2 rfl f_12_8 rfl J rfl 16002 ⟨rfl, rfl⟩ rfl ?_
      refine x_aloadn (x := 125) rfl rfl ?_
      refine x_iloadn (x := v11) rfl rfl ?_
      refine x_inv (N := m_X12_at) (As := [.int v11]) (b := 125) (st := [.ref 126]) (dx9 := 4) (mc := 0) (ms := 0) (host := "") 12 rfl t_X12_at ⟨Or.inl q_12_254, i_X12_at.1, i_X12_at.2⟩ ⟨by decide, rfl⟩ (congrArg Prod.fst (J.1.1 125 (12, 92) rfl)) rfl (by decide) rfl rfl ⟨by decide, by decide⟩ (jC.of rfl k_X12_at rfl ?_)
      show jX m_X12_at 4 0 0 0 [(0, .ref 125), (1, .int v11)] [] _ 0 0 _
      refine x_bipush (v := 20) rfl kb_20 ?_
      refine x_bipush (v := 90) rfl kb_90 ?_
      refine x_iloadn (x := v11) rfl rfl ?_
      refine z_imul rfl jk_90 rfl (by omega) (fun v12 ev12 => ?_)
      refine z_iadd rfl jk_20 rfl (by omega) (fun v13 ev13 => ?_)
      refine x_iret rfl rfl ?_
      show jX m_X12_bookOf 5 0 0 9 [(0, .ref 125), (1, .int v11)] [.int v13, .ref 126] _ 0 0 _
      refine z_iald (N := 50660) rfl J rfl sg_126_20_18020_90_0_1 rfl (by omega) (fun v14 qv14 ev14 => ?_)
      refine x_iret rfl rfl ?_
      show jX m_X12_isMention 6 0 0 24 [(0, .ref 125), (1, .int a1)] [.int v14, .int v10] _ 0 0 _
      refine x_inst (N := m_X12_rolesOf) (As := [.int v14]) (st := [.int v10]) (dx9 := 5) (mc := 0) (ms := 0) (host := "") rfl t_X12_rolesOf ⟨Or.inl q_12_286, s_X12_rolesOf⟩ rfl (by decide) rfl rfl ⟨by decide, by decide⟩ (jC.of rfl k_X12_rolesOf rfl ?_)
      show jX m_X12_rolesOf 5 0 0 0 [(0, .int v14)] [] _ 0 0 _
      refine x_iloadn (x := v14) rfl rfl ?_
      refine x_ifne (tgt := 8) rfl rfl (ti_ne rfl jk_0 ⟨fun c15 => ?_, fun c15 => ?_⟩)
      ·
        refine x_iloadn (x := v14) rfl rfl ?_
        refine x_iconst (v := 1) rfl ki_1 ?_
        refine x_icne (tgt := 17) rfl rfl (ti_ne rfl jk_1 ⟨fun c16 => ?_, fun c16 => ?_⟩)
        ·
          refine x_iconst (v := 1) rfl ki_1 ?_
          refine x_iret rfl rfl ?_
          show jX m_X12_isMention 6 0 0 27 [(0, .ref 125), (1, .int a1)] [.int 1, .int v10] _ 0 0 _
          refine x_icge (tgt := 34) rfl rfl (ti_ge rfl jk_1 ⟨fun c17 => ?_, fun c17 => ?_⟩)
          ·
            refine x_iconst (v := 0) rfl ki_0 ?_
            refine x_zret rfl rfl (by decide) ?_
            show jX m_X12_reason 7 0 0 10 [(0, .ref 125), (1, .int a1), (2, .int a2)] [.int 0] _ 0 0 _
            refine x_ifeq (tgt := 30) rfl rfl (ti_eq jk_0 jk_0 (br_t (by omega) ?_))
            exact jX.sub jsb_n (ct_X12_reason_r125_30 hD hQ  h J Sm)
          ·
            refine x_iconst (v := 1) rfl ki_1 ?_
            refine x_goto (tgt := 35) rfl rfl ?_
            refine x_zret rfl rfl (by decide) ?_
            show jX m_X12_reason 7 0 0 10 [(0, .ref 125), (1, .int a1), (2, .int a2)] [.int 1] _ 0 0 _
            refine x_ifeq (tgt := 30) rfl rfl (ti_eq jk_1 jk_0 (br_f (by omega) ?_))
            refine x_aloadn (x := 125) rfl rfl ?_
            refine x_iloadn (x := a2) rfl rfl ?_
            refine x_inv (N := m_X12_isMention) (As := [.int a2]) (b := 125) (st := []) (dx9 := 6) (mc := 0) (ms := 0) (host := "") 12 rfl t_X12_isMention ⟨Or.inl q_12_322, i_X12_isMention.1, i_X12_isMention.2⟩ ⟨by decide, rfl⟩ (congrArg Prod.fst (J.1.1 125 (12, 92) rfl)) rfl (by decide) rfl rfl ⟨by decide, by decide⟩ (jC.of rfl k_X12_isMention rfl ?_)
            show jX m_X12_isMention 6 0 0 0 [(0, .ref 125), (1, .int a2)] [] _ 0 0 _
            refine x_iloadn (x := a2) rfl rfl ?_
            refine x_iflt (tgt := 34) rfl rfl (ti_lt rfl jk_0 ⟨fun c18 => ?_, fun c18 => ?_⟩)
            ·
              refine x_iconst (v := 0) rfl ki_0 ?_
              refine x_zret rfl rfl (by decide) ?_
              show jX m_X12_reason 7 0 0 18 [(0, .ref 125), (1, .int a1), (2, .int a2)] [.int 0] _ 0 0 _
              refine x_ifeq (tgt := 30) rfl rfl (ti_eq jk_0 jk_0 (br_t (by omega) ?_))
              exact jX.sub jsb_n (ct_X12_reason_r125_30 hD hQ  h J Sm)
            ·
              refine x_aloadn (x := 125) rfl rfl ?_
              refine x_iloadn (x := a2) rfl rfl ?_
              refine x_iconst (v := 3) rfl ki_3 ?_
              refine z_idiv rfl rfl jk_3 (by omega) (by omega) (fun v19 ev19 => ?_)
              refine x_inv (N := m_X12_isLine) (As := [.int v19]) (b := 125) (st := []) (dx9 := 5) (mc := 0) (ms := 0) (host := "") 12 rfl t_X12_isLine ⟨Or.inl q_12_293, i_X12_isLine.1, i_X12_isLine.2⟩ ⟨by decide, rfl⟩ (congrArg Prod.fst (J.1.1 125 (12, 92) rfl)) rfl (by decide) rfl rfl ⟨by decide, by decide⟩ (jC.of rfl k_X12_isLine rfl ?_)
              show jX m_X12_isLine 5 0 0 0 [(0, .ref 125), (1, .int v19)] [] _ 0 0 _
              refine x_iloadn (x := v19) rfl rfl ?_
              refine z_i2l rfl rfl (fun v20 ev20 => ?_)
              refine x_lconst (v := 0) rfl kl_0 ?_
              refine x_aloadn (x := 125) rfl rfl ?_
              refine z_getR (N := 92) (b := 126) 12 2 rfl f_12_8 rfl J rfl 16002 ⟨rfl, rfl⟩ rfl ?_
              refine x_iconst (v := 0) rfl ki_0 ?_
              refine z_ialdM (N := 50660) (v := v5) rfl J rfl jk_0 (by omega) qv5 ?_
              refine z_i2l rfl rfl (fun v21 ev21 => ?_)
              refine x_lconst (v := 1) rfl kl_1 ?_
              refine z_lsub rfl rfl jkl_1 (by omega) (fun v22 ev22 => ?_)
              refine x_inst (N := m_X12_in) (As := [.long v20, .long 0, .long v22]) (st := []) (dx9 := 1) (mc := 0) (ms := 0) (host := "") rfl t_X12_in ⟨Or.inl q_12_188, s_X12_in⟩ rfl (by decide) rfl rfl ⟨by decide, by decide⟩ (zc_X12_in rfl jkl_0 rfl (fun v23 ev23 => ?_))
              show jX m_X12_isLine 5 0 0 15 [(0, .ref 125), (1, .int v19)] [.int v23] _ 0 0 _
              refine x_zret rfl rfl (jz01 (by omega)) ?_
              show jX m_X12_isMention 6 0 0 11 [(0, .ref 125), (1, .int a2)] [.int v23] _ 0 0 _
              refine x_ifeq (tgt := 34) rfl rfl (ti_eq rfl jk_0 ⟨fun c24 => ?_, fun c24 => ?_⟩)
              ·
                refine x_iconst (v := 0) rfl ki_0 ?_
                refine x_zret rfl rfl (by decide) ?_
                show jX m_X12_reason 7 0 0 18 [(0, .ref 125), (1, .int a1), (2, .int a2)] [.int 0] _ 0 0 _
                refine x_ifeq (tgt := 30) rfl rfl (ti_eq jk_0 jk_0 (br_t (by omega) ?_))
                exact jX.sub jsb_n (ct_X12_reason_r125_30 hD hQ  h J Sm)
              ·
                refine x_iloadn (x := a2) rfl rfl ?_
                refine x_iconst (v := 3) rfl ki_3 ?_
                refine z_irem rfl rfl jk_3 (by omega) (by omega) (fun v25 ev25 => ?_)
                refine x_aloadn (x := 125) rfl rfl ?_
                refine x_iloadn (x := a2) rfl rfl ?_
                refine x_iconst (v := 3) rfl ki_3 ?_
                refine z_idiv rfl rfl jk_3 (by omega) (by omega) (fun v26 ev26 => ?_)
                refine x_inv (N := m_X12_bookOf) (As := [.int v26]) (b := 125) (st := [.int v25]) (dx9 := 5) (mc := 0) (ms := 0) (host := "") 12 rfl t_X12_bookOf ⟨Or.inl q_12_299, i_X12_bookOf.1, i_X12_bookOf.2⟩ ⟨by decide, rfl⟩ (congrArg Prod.fst (J.1.1 125 (12, 92) rfl)) rfl (by decide) rfl rfl ⟨by decide, by decide⟩ (jC.of rfl k_X12_bookOf rfl ?_)
                show jX m_X12_bookOf 5 0 0 0 [(0, .ref 125), (1, .int v26)] [] _ 0 0 _
                refine x_aloadn (x := 125) rfl rfl ?_
                refine z_getR (N := 92) (b := 126) 12 2 rfl f_12_8 rfl J rfl 16002 ⟨rfl, rfl⟩ rfl ?_
                refine x_aloadn (x := 125) rfl rfl ?_
                refine x_iloadn (x := v26) rfl rfl ?_
                refine x_inv (N := m_X12_at) (As := [.int v26]) (b := 125) (st := [.ref 126]) (dx9 := 4) (mc := 0) (ms := 0) (host := "") 12 rfl t_X12_at ⟨Or.inl q_12_254, i_X12_at.1, i_X12_at.2⟩ ⟨by decide, rfl⟩ (congrArg Prod.fst (J.1.1 125 (12, 92) rfl)) rfl (by decide) rfl rfl ⟨by decide, by decide⟩ (jC.of rfl k_X12_at rfl ?_)
                show jX m_X12_at 4 0 0 0 [(0, .ref 125), (1, .int v26)] [] _ 0 0 _
                refine x_bipush (v := 20) rfl kb_20 ?_
                refine x_bipush (v := 90) rfl kb_90 ?_
                refine x_iloadn (x := v26) rfl rfl ?_
                refine z_imul rfl jk_90 rfl (by omega) (fun v27 ev27 => ?_)
                refine z_iadd rfl jk_20 rfl (by omega) (fun v28 ev28 => ?_)
                refine x_iret rfl rfl ?_
                show jX m_X12_bookOf 5 0 0 9 [(0, .ref 125), (1, .int v26)] [.int v28, .ref 126] _ 0 0 _
                refine z_iald (N := 50660) rfl J rfl sg_126_20_18020_90_0_1 rfl (by omega) (fun v29 qv29 ev29 => ?_)
                refine x_iret rfl rfl ?_
                show jX m_X12_isMention 6 0 0 24 [(0, .ref 125), (1, .int a2)] [.int v29, .int v25] _ 0 0 _
                refine x_inst (N := m_X12_rolesOf) (As := [.int v29]) (st := [.int v25]) (dx9 := 5) (mc := 0) (ms := 0) (host := "") rfl t_X12_rolesOf ⟨Or.inl q_12_286, s_X12_rolesOf⟩ rfl (by decide) rfl rfl ⟨by decide, by decide⟩ (jC.of rfl k_X12_rolesOf rfl ?_)
                show jX m_X12_rolesOf 5 0 0 0 [(0, .int v29)] [] _ 0 0 _
                refine x_iloadn (x := v29) rfl rfl ?_
                refine x_ifne (tgt := 8) rfl rfl (ti_ne rfl jk_0 ⟨fun c30 => ?_, fun c30 => ?_⟩)
                ·
                  refine x_iloadn (x := v29) rfl rfl ?_
                  refine x_iconst (v := 1) rfl ki_1 ?_
                  refine x_icne (tgt := 17) rfl rfl (ti_ne rfl jk_1 ⟨fun c31 => ?_, fun c31 => ?_⟩)
                  ·
                    refine x_iconst (v := 1) rfl ki_1 ?_
                    refine x_iret rfl rfl ?_
                    show jX m_X12_isMention 6 0 0 27 [(0, .ref 125), (1, .int a2)] [.int 1, .int v25] _ 0 0 _
                    refine x_icge (tgt := 34) rfl rfl (ti_ge rfl jk_1 ⟨fun c32 => ?_, fun c32 => ?_⟩)
                    ·
                      refine x_iconst (v := 0) rfl ki_0 ?_
                      refine x_zret rfl rfl (by decide) ?_
                      show jX m_X12_reason 7 0 0 18 [(0, .ref 125), (1, .int a1), (2, .int a2)] [.int 0] _ 0 0 _
                      refine x_ifeq (tgt := 30) rfl rfl (ti_eq jk_0 jk_0 (br_t (by omega) ?_))
                      exact jX.sub jsb_n (ct_X12_reason_r125_30 hD hQ  h J Sm)
                    ·
                      refine x_iconst (v := 1) rfl ki_1 ?_
                      refine x_goto (tgt := 35) rfl rfl ?_
                      refine x_zret rfl rfl (by decide) ?_
                      show jX m_X12_reason 7 0 0 18 [(0, .ref 125), (1, .int a1), (2, .int a2)] [.int 1] _ 0 0 _
                      refine x_ifeq (tgt := 30) rfl rfl (ti_eq jk_1 jk_0 (br_f (by omega) ?_))
                      refine x_aloadn (x := 125) rfl rfl ?_
                      refine x_iloadn (x := a1) rfl rfl ?_
                      refine x_iloadn (x := a2) rfl rfl ?_
                      refine x_inv (N := m_X12_why) (As := [.int a1, .int a2]) (b := 125) (st := []) (dx9 := 6) (mc := 0) (ms := 0) (host := "") 12 rfl t_X12_why ⟨Or.inl q_12_368, i_X12_why.1, i_X12_why.2⟩ ⟨by decide, rfl⟩ (congrArg Prod.fst (J.1.1 125 (12, 92) rfl)) rfl (by decide) rfl rfl ⟨by decide, by decide⟩ (sf_X12_why_r125 (jr_of rfl (by omega)) (jr_of rfl (by omega)) hD J  (fun v34 h ev34 J S33 => ?_))
                      have Sm := jSm_tr rfl Sm S33
                      show jX m_X12_reason 7 0 0 27 [(0, .ref 125), (1, .int a1), (2, .int a2)] [.int v34] _ 0 0 _
                      refine x_goto (tgt := 31) rfl rfl ?_
                      exact jX.sub jsb_n (ct_X12_reason_r125_31 hD hQ  v34 h (jr_of rfl (by omega)) J Sm)
                  ·
                    refine x_iconst (v := 2) rfl ki_2 ?_
                    refine x_goto (tgt := 18) rfl rfl ?_
                    refine x_iret rfl rfl ?_
                    show jX m_X12_isMention 6 0 0 27 [(0, .ref 125), (1, .int a2)] [.int 2, .int v25] _ 0 0 _
                    refine x_icge (tgt := 34) rfl rfl (ti_ge rfl jk_2 ⟨fun c35 => ?_, fun c35 => ?_⟩)
                    ·
                      refine x_iconst (v := 0) rfl ki_0 ?_
                      refine x_zret rfl rfl (by decide) ?_
                      show jX m_X12_reason 7 0 0 18 [(0, .ref 125), (1, .int a1), (2, .int a2)] [.int 0] _ 0 0 _
                      refine x_ifeq (tgt := 30) rfl rfl (ti_eq jk_0 jk_0 (br_t (by omega) ?_))
                      exact jX.sub jsb_n (ct_X12_reason_r125_30 hD hQ  h J Sm)
                    ·
                      refine x_iconst (v := 1) rfl ki_1 ?_
                      refine x_goto (tgt := 35) rfl rfl ?_
                      refine x_zret rfl rfl (by decide) ?_
                      show jX m_X12_reason 7 0 0 18 [(0, .ref 125), (1, .int a1), (2, .int a2)] [.int 1] _ 0 0 _
                      refine x_ifeq (tgt := 30) rfl rfl (ti_eq jk_1 jk_0 (br_f (by omega) ?_))
                      refine x_aloadn (x := 125) rfl rfl ?_
                      refine x_iloadn (x := a1) rfl rfl ?_
                      refine x_iloadn (x := a2) rfl rfl ?_
                      refine x_inv (N := m_X12_why) (As := [.int a1, .int a2]) (b := 125) (st := []) (dx9 := 6) (mc := 0) (ms := 0) (host := "") 12 rfl t_X12_why ⟨Or.inl q_12_368, i_X12_why.1, i_X12_why.2⟩ ⟨by decide, rfl⟩ (congrArg Prod.fst (J.1.1 125 (12, 92) rfl)) rfl (by decide) rfl rfl ⟨by decide, by decide⟩ (sf_X12_why_r125 (jr_of rfl (by omega)) (jr_of rfl (by omega)) hD J  (fun v37 h ev37 J S36 => ?_))
                      have Sm := jSm_tr rfl Sm S36
                      show jX m_X12_reason 7 0 0 27 [(0, .ref 125), (1, .int a1), (2, .int a2)] [.int v37] _ 0 0 _
                      refine x_goto (tgt := 31) rfl rfl ?_
                      exact jX.sub jsb_n (ct_X12_reason_r125_31 hD hQ  v37 h (jr_of rfl (by omega)) J Sm)
                ·
                  refine x_iconst (v := 3) rfl ki_3 ?_
                  refine x_goto (tgt := 18) rfl rfl ?_
                  refine x_iret rfl rfl ?_
                  show jX m_X12_isMention 6 0 0 27 [(0, .ref 125), (1, .int a2)] [.int 3, .int v25] _ 0 0 _
                  refine x_icge (tgt := 34) rfl rfl (ti_ge rfl jk_3 (br_f (by omega) ?_))
                  refine x_iconst (v := 1) rfl ki_1 ?_
                  refine x_goto (tgt := 35) rfl rfl ?_
                  refine x_zret rfl rfl (by decide) ?_
                  show jX m_X12_reason 7 0 0 18 [(0, .ref 125), (1, .int a1), (2, .int a2)] [.int 1] _ 0 0 _
                  refine x_ifeq (tgt := 30) rfl rfl (ti_eq jk_1 jk_0 (br_f (by omega) ?_))
                  refine x_aloadn (x := 125) rfl rfl ?_
                  refine x_iloadn (x := a1) rfl rfl ?_
                  refine x_iloadn (x := a2) rfl rfl ?_
                  refine x_inv (N := m_X12_why) (As := [.int a1, .int a2]) (b := 125) (st := []) (dx9 := 6) (mc := 0) (ms := 0) (host := "") 12 rfl t_X12_why ⟨Or.inl q_12_368, i_X12_why.1, i_X12_why.2⟩ ⟨by decide, rfl⟩ (congrArg Prod.fst (J.1.1 125 (12, 92) rfl)) rfl (by decide) rfl rfl ⟨by decide, by decide⟩ (sf_X12_why_r125 (jr_of rfl (by omega)) (jr_of rfl (by omega)) hD J  (fun v39 h ev39 J S38 => ?_))
                  have Sm := jSm_tr rfl Sm S38
                  show jX m_X12_reason 7 0 0 27 [(0, .ref 125), (1, .int a1), (2, .int a2)] [.int v39] _ 0 0 _
                  refine x_goto (tgt := 31) rfl rfl ?_
                  exact jX.sub jsb_n (ct_X12_reason_r125_31 hD hQ  v39 h (jr_of rfl (by omega)) J Sm)
        ·
          refine x_iconst (v := 2) rfl ki_2 ?_
          refine x_goto (tgt := 18) rfl rfl ?_
          refine x_iret rfl rfl ?_
          show jX m_X12_isMention 6 0 0 27 [(0, .ref 125), (1, .int a1)] [.int 2, .int v10] _ 0 0 _
          refine x_icge (tgt := 34) rfl rfl (ti_ge rfl jk_2 ⟨fun c40 => ?_, fun c40 => ?_⟩)
          ·
            refine x_iconst (v := 0) rfl ki_0 ?_
            refine x_zret rfl rfl (by decide) ?_
            show jX m_X12_reason 7 0 0 10 [(0, .ref 125), (1, .int a1), (2, .int a2)] [.int 0] _ 0 0 _
            refine x_ifeq (tgt := 30) rfl rfl (ti_eq jk_0 jk_0 (br_t (by omega) ?_))
            exact jX.sub jsb_n (ct_X12_reason_r125_30 hD hQ  h J Sm)
          ·
            refine x_iconst (v := 1) rfl ki_1 ?_
            refine x_goto (tgt := 35) rfl rfl ?_
            refine x_zret rfl rfl (by decide) ?_
            show jX m_X12_reason 7 0 0 10 [(0, .ref 125), (1, .int a1), (2, .int a2)] [.int 1] _ 0 0 _
            refine x_ifeq (tgt := 30) rfl rfl (ti_eq jk_1 jk_0 (br_f (by omega) ?_))
            refine x_aloadn (x := 125) rfl rfl ?_
            refine x_iloadn (x := a2) rfl rfl ?_
            refine x_inv (N := m_X12_isMention) (As := [.int a2]) (b := 125) (st := []) (dx9 := 6) (mc := 0) (ms := 0) (host := "") 12 rfl t_X12_isMention ⟨Or.inl q_12_322, i_X12_isMention.1, i_X12_isMention.2⟩ ⟨by decide, rfl⟩ (congrArg Prod.fst (J.1.1 125 (12, 92) rfl)) rfl (by decide) rfl rfl ⟨by decide, by decide⟩ (jC.of rfl k_X12_isMention rfl ?_)
            show jX m_X12_isMention 6 0 0 0 [(0, .ref 125), (1, .int a2)] [] _ 0 0 _
            refine x_iloadn (x := a2) rfl rfl ?_
            refine x_iflt (tgt := 34) rfl rfl (ti_lt rfl jk_0 ⟨fun c41 => ?_, fun c41 => ?_⟩)
            ·
              refine x_iconst (v := 0) rfl ki_0 ?_
              refine x_zret rfl rfl (by decide) ?_
              show jX m_X12_reason 7 0 0 18 [(0, .ref 125), (1, .int a1), (2, .int a2)] [.int 0] _ 0 0 _
              refine x_ifeq (tgt := 30) rfl rfl (ti_eq jk_0 jk_0 (br_t (by omega) ?_))
              exact jX.sub jsb_n (ct_X12_reason_r125_30 hD hQ  h J Sm)
            ·
              refine x_aloadn (x := 125) rfl rfl ?_
              refine x_iloadn (x := a2) rfl rfl ?_
              refine x_iconst (v := 3) rfl ki_3 ?_
              refine z_idiv rfl rfl jk_3 (by omega) (by omega) (fun v42 ev42 => ?_)
              refine x_inv (N := m_X12_isLine) (As := [.int v42]) (b := 125) (st := []) (dx9 := 5) (mc := 0) (ms := 0) (host := "") 12 rfl t_X12_isLine ⟨Or.inl q_12_293, i_X12_isLine.1, i_X12_isLine.2⟩ ⟨by decide, rfl⟩ (congrArg Prod.fst (J.1.1 125 (12, 92) rfl)) rfl (by decide) rfl rfl ⟨by decide, by decide⟩ (jC.of rfl k_X12_isLine rfl ?_)
              show jX m_X12_isLine 5 0 0 0 [(0, .ref 125), (1, .int v42)] [] _ 0 0 _
              refine x_iloadn (x := v42) rfl rfl ?_
              refine z_i2l rfl rfl (fun v43 ev43 => ?_)
              refine x_lconst (v := 0) rfl kl_0 ?_
              refine x_aloadn (x := 125) rfl rfl ?_
              refine z_getR (N := 92) (b := 126) 12 2 rfl f_12_8 rfl J rfl 16002 ⟨rfl, rfl⟩ rfl ?_
              refine x_iconst (v := 0) rfl ki_0 ?_
              refine z_ialdM (N := 50660) (v := v5) rfl J rfl jk_0 (by omega) qv5 ?_
              refine z_i2l rfl rfl (fun v44 ev44 => ?_)
              refine x_lconst (v := 1) rfl kl_1 ?_
              refine z_lsub rfl rfl jkl_1 (by omega) (fun v45 ev45 => ?_)
              refine x_inst (N := m_X12_in) (As := [.long v43, .long 0, .long v45]) (st := []) (dx9 := 1) (mc := 0) (ms := 0) (host := "") rfl t_X12_in ⟨Or.inl q_12_188, s_X12_in⟩ rfl (by decide) rfl rfl ⟨by decide, by decide⟩ (zc_X12_in rfl jkl_0 rfl (fun v46 ev46 => ?_))
              show jX m_X12_isLine 5 0 0 15 [(0, .ref 125), (1, .int v42)] [.int v46] _ 0 0 _
              refine x_zret rfl rfl (jz01 (by omega)) ?_
              show jX m_X12_isMention 6 0 0 11 [(0, .ref 125), (1, .int a2)] [.int v46] _ 0 0 _
              refine x_ifeq (tgt := 34) rfl rfl (ti_eq rfl jk_0 ⟨fun c47 => ?_, fun c47 => ?_⟩)
              ·
                refine x_iconst (v := 0) rfl ki_0 ?_
                refine x_zret rfl rfl (by decide) ?_
                show jX m_X12_reason 7 0 0 18 [(0, .ref 125), (1, .int a1), (2, .int a2)] [.int 0] _ 0 0 _
                refine x_ifeq (tgt := 30) rfl rfl (ti_eq jk_0 jk_0 (br_t (by omega) ?_))
                exact jX.sub jsb_n (ct_X12_reason_r125_30 hD hQ  h J Sm)
              ·
                refine x_iloadn (x := a2) rfl rfl ?_
                refine x_iconst (v := 3) rfl ki_3 ?_
                refine z_irem rfl rfl jk_3 (by omega) (by omega) (fun v48 ev48 => ?_)
                refine x_aloadn (x := 125) rfl rfl ?_
                refine x_iloadn (x := a2) rfl rfl ?_
                refine x_iconst (v := 3) rfl ki_3 ?_
                refine z_idiv rfl rfl jk_3 (by omega) (by omega) (fun v49 ev49 => ?_)
                refine x_inv (N := m_X12_bookOf) (As := [.int v49]) (b := 125) (st := [.int v48]) (dx9 := 5) (mc := 0) (ms := 0) (host := "") 12 rfl t_X12_bookOf ⟨Or.inl q_12_299, i_X12_bookOf.1, i_X12_bookOf.2⟩ ⟨by decide, rfl⟩ (congrArg Prod.fst (J.1.1 125 (12, 92) rfl)) rfl (by decide) rfl rfl ⟨by decide, by decide⟩ (jC.of rfl k_X12_bookOf rfl ?_)
                show jX m_X12_bookOf 5 0 0 0 [(0, .ref 125), (1, .int v49)] [] _ 0 0 _
                refine x_aloadn (x := 125) rfl rfl ?_
                refine z_getR (N := 92) (b := 126) 12 2 rfl f_12_8 rfl J rfl 16002 ⟨rfl, rfl⟩ rfl ?_
                refine x_aloadn (x := 125) rfl rfl ?_
                refine x_iloadn (x := v49) rfl rfl ?_
                refine x_inv (N := m_X12_at) (As := [.int v49]) (b := 125) (st := [.ref 126]) (dx9 := 4) (mc := 0) (ms := 0) (host := "") 12 rfl t_X12_at ⟨Or.inl q_12_254, i_X12_at.1, i_X12_at.2⟩ ⟨by decide, rfl⟩ (congrArg Prod.fst (J.1.1 125 (12, 92) rfl)) rfl (by decide) rfl rfl ⟨by decide, by decide⟩ (jC.of rfl k_X12_at rfl ?_)
                show jX m_X12_at 4 0 0 0 [(0, .ref 125), (1, .int v49)] [] _ 0 0 _
                refine x_bipush (v := 20) rfl kb_20 ?_
                refine x_bipush (v := 90) rfl kb_90 ?_
                refine x_iloadn (x := v49) rfl rfl ?_
                refine z_imul rfl jk_90 rfl (by omega) (fun v50 ev50 => ?_)
                refine z_iadd rfl jk_20 rfl (by omega) (fun v51 ev51 => ?_)
                refine x_iret rfl rfl ?_
                show jX m_X12_bookOf 5 0 0 9 [(0, .ref 125), (1, .int v49)] [.int v51, .ref 126] _ 0 0 _
                refine z_iald (N := 50660) rfl J rfl sg_126_20_18020_90_0_1 rfl (by omega) (fun v52 qv52 ev52 => ?_)
                refine x_iret rfl rfl ?_
                show jX m_X12_isMention 6 0 0 24 [(0, .ref 125), (1, .int a2)] [.int v52, .int v48] _ 0 0 _
                refine x_inst (N := m_X12_rolesOf) (As := [.int v52]) (st := [.int v48]) (dx9 := 5) (mc := 0) (ms := 0) (host := "") rfl t_X12_rolesOf ⟨Or.inl q_12_286, s_X12_rolesOf⟩ rfl (by decide) rfl rfl ⟨by decide, by decide⟩ (jC.of rfl k_X12_rolesOf rfl ?_)
                show jX m_X12_rolesOf 5 0 0 0 [(0, .int v52)] [] _ 0 0 _
                refine x_iloadn (x := v52) rfl rfl ?_
                refine x_ifne (tgt := 8) rfl rfl (ti_ne rfl jk_0 ⟨fun c53 => ?_, fun c53 => ?_⟩)
                ·
                  refine x_iloadn (x := v52) rfl rfl ?_
                  refine x_iconst (v := 1) rfl ki_1 ?_
                  refine x_icne (tgt := 17) rfl rfl (ti_ne rfl jk_1 ⟨fun c54 => ?_, fun c54 => ?_⟩)
                  ·
                    refine x_iconst (v := 1) rfl ki_1 ?_
                    refine x_iret rfl rfl ?_
                    show jX m_X12_isMention 6 0 0 27 [(0, .ref 125), (1, .int a2)] [.int 1, .int v48] _ 0 0 _
                    refine x_icge (tgt := 34) rfl rfl (ti_ge rfl jk_1 ⟨fun c55 => ?_, fun c55 => ?_⟩)
                    ·
                      refine x_iconst (v := 0) rfl ki_0 ?_
                      refine x_zret rfl rfl (by decide) ?_
                      show jX m_X12_reason 7 0 0 18 [(0, .ref 125), (1, .int a1), (2, .int a2)] [.int 0] _ 0 0 _
                      refine x_ifeq (tgt := 30) rfl rfl (ti_eq jk_0 jk_0 (br_t (by omega) ?_))
                      exact jX.sub jsb_n (ct_X12_reason_r125_30 hD hQ  h J Sm)
                    ·
                      refine x_iconst (v := 1) rfl ki_1 ?_
                      refine x_goto (tgt := 35) rfl rfl ?_
                      refine x_zret rfl rfl (by decide) ?_
                      show jX m_X12_reason 7 0 0 18 [(0, .ref 125), (1, .int a1), (2, .int a2)] [.int 1] _ 0 0 _
                      refine x_ifeq (tgt := 30) rfl rfl (ti_eq jk_1 jk_0 (br_f (by omega) ?_))
                      refine x_aloadn (x := 125) rfl rfl ?_
                      refine x_iloadn (x := a1) rfl rfl ?_
                      refine x_iloadn (x := a2) rfl rfl ?_
                      refine x_inv (N := m_X12_why) (As := [.int a1, .int a2]) (b := 125) (st := []) (dx9 := 6) (mc := 0) (ms := 0) (host := "") 12 rfl t_X12_why ⟨Or.inl q_12_368, i_X12_why.1, i_X12_why.2⟩ ⟨by decide, rfl⟩ (congrArg Prod.fst (J.1.1 125 (12, 92) rfl)) rfl (by decide) rfl rfl ⟨by decide, by decide⟩ (sf_X12_why_r125 (jr_of rfl (by omega)) (jr_of rfl (by omega)) hD J  (fun v57 h ev57 J S56 => ?_))
                      have Sm := jSm_tr rfl Sm S56
                      show jX m_X12_reason 7 0 0 27 [(0, .ref 125), (1, .int a1), (2, .int a2)] [.int v57] _ 0 0 _
                      refine x_goto (tgt := 31) rfl rfl ?_
                      exact jX.sub jsb_n (ct_X12_reason_r125_31 hD hQ  v57 h (jr_of rfl (by omega)) J Sm)
                  ·
                    refine x_iconst (v := 2) rfl ki_2 ?_
                    refine x_goto (tgt := 18) rfl rfl ?_
                    refine x_iret rfl rfl ?_
                    show jX m_X12_isMention 6 0 0 27 [(0, .ref 125), (1, .int a2)] [.int 2, .int v48] _ 0 0 _
                    refine x_icge (tgt := 34) rfl rfl (ti_ge rfl jk_2 ⟨fun c58 => ?_, fun c58 => ?_⟩)
                    ·
                      refine x_iconst (v := 0) rfl ki_0 ?_
                      refine x_zret rfl rfl (by decide) ?_
                      show jX m_X12_reason 7 0 0 18 [(0, .ref 125), (1, .int a1), (2, .int a2)] [.int 0] _ 0 0 _
                      refine x_ifeq (tgt := 30) rfl rfl (ti_eq jk_0 jk_0 (br_t (by omega) ?_))
                      exact jX.sub jsb_n (ct_X12_reason_r125_30 hD hQ  h J Sm)
                    ·
                      refine x_iconst (v := 1) rfl ki_1 ?_
                      refine x_goto (tgt := 35) rfl rfl ?_
                      refine x_zret rfl rfl (by decide) ?_
                      show jX m_X12_reason 7 0 0 18 [(0, .ref 125), (1, .int a1), (2, .int a2)] [.int 1] _ 0 0 _
                      refine x_ifeq (tgt := 30) rfl rfl (ti_eq jk_1 jk_0 (br_f (by omega) ?_))
                      refine x_aloadn (x := 125) rfl rfl ?_
                      refine x_iloadn (x := a1) rfl rfl ?_
                      refine x_iloadn (x := a2) rfl rfl ?_
                      refine x_inv (N := m_X12_why) (As := [.int a1, .int a2]) (b := 125) (st := []) (dx9 := 6) (mc := 0) (ms := 0) (host := "") 12 rfl t_X12_why ⟨Or.inl q_12_368, i_X12_why.1, i_X12_why.2⟩ ⟨by decide, rfl⟩ (congrArg Prod.fst (J.1.1 125 (12, 92) rfl)) rfl (by decide) rfl rfl ⟨by decide, by decide⟩ (sf_X12_why_r125 (jr_of rfl (by omega)) (jr_of rfl (by omega)) hD J  (fun v60 h ev60 J S59 => ?_))
                      have Sm := jSm_tr rfl Sm S59
                      show jX m_X12_reason 7 0 0 27 [(0, .ref 125), (1, .int a1), (2, .int a2)] [.int v60] _ 0 0 _
                      refine x_goto (tgt := 31) rfl rfl ?_
                      exact jX.sub jsb_n (ct_X12_reason_r125_31 hD hQ  v60 h (jr_of rfl (by omega)) J Sm)
                ·
                  refine x_iconst (v := 3) rfl ki_3 ?_
                  refine x_goto (tgt := 18) rfl rfl ?_
                  refine x_iret rfl rfl ?_
                  show jX m_X12_isMention 6 0 0 27 [(0, .ref 125), (1, .int a2)] [.int 3, .int v48] _ 0 0 _
                  refine x_icge (tgt := 34) rfl rfl (ti_ge rfl jk_3 (br_f (by omega) ?_))
                  refine x_iconst (v := 1) rfl ki_1 ?_
                  refine x_goto (tgt := 35) rfl rfl ?_
                  refine x_zret rfl rfl (by decide) ?_
                  show jX m_X12_reason 7 0 0 18 [(0, .ref 125), (1, .int a1), (2, .int a2)] [.int 1] _ 0 0 _
                  refine x_ifeq (tgt := 30) rfl rfl (ti_eq jk_1 jk_0 (br_f (by omega) ?_))
                  refine x_aloadn (x := 125) rfl rfl ?_
                  refine x_iloadn (x := a1) rfl rfl ?_
                  refine x_iloadn (x := a2) rfl rfl ?_
                  refine x_inv (N := m_X12_why) (As := [.int a1, .int a2]) (b := 125) (st := []) (dx9 := 6) (mc := 0) (ms := 0) (host := "") 12 rfl t_X12_why ⟨Or.inl q_12_368, i_X12_why.1, i_X12_why.2⟩ ⟨by decide, rfl⟩ (congrArg Prod.fst (J.1.1 125 (12, 92) rfl)) rfl (by decide) rfl rfl ⟨by decide, by decide⟩ (sf_X12_why_r125 (jr_of rfl (by omega)) (jr_of rfl (by omega)) hD J  (fun v62 h ev62 J S61 => ?_))
                  have Sm := jSm_tr rfl Sm S61
                  show jX m_X12_reason 7 0 0 27 [(0, .ref 125), (1, .int a1), (2, .int a2)] [.int v62] _ 0 0 _
                  refine x_goto (tgt := 31) rfl rfl ?_
                  exact jX.sub jsb_n (ct_X12_reason_r125_31 hD hQ  v62 h (jr_of rfl (by omega)) J Sm)
      ·
        refine x_iconst (v := 3) rfl ki_3 ?_
        refine x_goto (tgt := 18) rfl rfl ?_
        refine x_iret rfl rfl ?_
        show jX m_X12_isMention 6 0 0 27 [(0, .ref 125), (1, .int a1)] [.int 3, .int v10] _ 0 0 _
        refine x_icge (tgt := 34) rfl rfl (ti_ge rfl jk_3 (br_f (by omega) ?_))
        refine x_iconst (v := 1) rfl ki_1 ?_
        refine x_goto (tgt := 35) rfl rfl ?_
        refine x_zret rfl rfl (by decide) ?_
        show jX m_X12_reason 7 0 0 10 [(0, .ref 125), (1, .int a1), (2, .int a2)] [.int 1] _ 0 0 _
        refine x_ifeq (tgt := 30) rfl rfl (ti_eq jk_1 jk_0 (br_f (by omega) ?_))
        refine x_aloadn (x := 125) rfl rfl ?_
        refine x_iloadn (x := a2) rfl rfl ?_
        refine x_inv (N := m_X12_isMention) (As := [.int a2]) (b := 125) (st := []) (dx9 := 6) (mc := 0) (ms := 0) (host := "") 12 rfl t_X12_isMention ⟨Or.inl q_12_322, i_X12_isMention.1, i_X12_isMention.2⟩ ⟨by decide, rfl⟩ (congrArg Prod.fst (J.1.1 125 (12, 92) rfl)) rfl (by decide) rfl rfl ⟨by decide, by decide⟩ (jC.of rfl k_X12_isMention rfl ?_)
        show jX m_X12_isMention 6 0 0 0 [(0, .ref 125), (1, .int a2)] [] _ 0 0 _
        refine x_iloadn (x := a2) rfl rfl ?_
        refine x_iflt (tgt := 34) rfl rfl (ti_lt rfl jk_0 ⟨fun c63 => ?_, fun c63 => ?_⟩)
        ·
          refine x_iconst (v := 0) rfl ki_0 ?_
          refine x_zret rfl rfl (by decide) ?_
          show jX m_X12_reason 7 0 0 18 [(0, .ref 125), (1, .int a1), (2, .int a2)] [.int 0] _ 0 0 _
          refine x_ifeq (tgt := 30) rfl rfl (ti_eq jk_0 jk_0 (br_t (by omega) ?_))
          exact jX.sub jsb_n (ct_X12_reason_r125_30 hD hQ  h J Sm)
        ·
          refine x_aloadn (x := 125) rfl rfl ?_
          refine x_iloadn (x := a2) rfl rfl ?_
          refine x_iconst (v := 3) rfl ki_3 ?_
          refine z_idiv rfl rfl jk_3 (by omega) (by omega) (fun v64 ev64 => ?_)
          refine x_inv (N := m_X12_isLine) (As := [.int v64]) (b := 125) (st := []) (dx9 := 5) (mc := 0) (ms := 0) (host := "") 12 rfl t_X12_isLine ⟨Or.inl q_12_293, i_X12_isLine.1, i_X12_isLine.2⟩ ⟨by decide, rfl⟩ (congrArg Prod.fst (J.1.1 125 (12, 92) rfl)) rfl (by decide) rfl rfl ⟨by decide, by decide⟩ (jC.of rfl k_X12_isLine rfl ?_)
          show jX m_X12_isLine 5 0 0 0 [(0, .ref 125), (1, .int v64)] [] _ 0 0 _
          refine x_iloadn (x := v64) rfl rfl ?_
          refine z_i2l rfl rfl (fun v65 ev65 => ?_)
          refine x_lconst (v := 0) rfl kl_0 ?_
          refine x_aloadn (x := 125) rfl rfl ?_
          refine z_getR (N := 92) (b := 126) 12 2 rfl f_12_8 rfl J rfl 16002 ⟨rfl, rfl⟩ rfl ?_
          refine x_iconst (v := 0) rfl ki_0 ?_
          refine z_ialdM (N := 50660) (v := v5) rfl J rfl jk_0 (by omega) qv5 ?_
          refine z_i2l rfl rfl (fun v66 ev66 => ?_)
          refine x_lconst (v := 1) rfl kl_1 ?_
          refine z_lsub rfl rfl jkl_1 (by omega) (fun v67 ev67 => ?_)
          refine x_inst (N := m_X12_in) (As := [.long v65, .long 0, .long v67]) (st := []) (dx9 := 1) (mc := 0) (ms := 0) (host := "") rfl t_X12_in ⟨Or.inl q_12_188, s_X12_in⟩ rfl (by decide) rfl rfl ⟨by decide, by decide⟩ (zc_X12_in rfl jkl_0 rfl (fun v68 ev68 => ?_))
          show jX m_X12_isLine 5 0 0 15 [(0, .ref 125), (1, .int v64)] [.int v68] _ 0 0 _
          refine x_zret rfl rfl (jz01 (by omega)) ?_
          show jX m_X12_isMention 6 0 0 11 [(0, .ref 125), (1, .int a2)] [.int v68] _ 0 0 _
          refine x_ifeq (tgt := 34) rfl rfl (ti_eq rfl jk_0 ⟨fun c69 => ?_, fun c69 => ?_⟩)
          ·
            refine x_iconst (v := 0) rfl ki_0 ?_
            refine x_zret rfl rfl (by decide) ?_
            show jX m_X12_reason 7 0 0 18 [(0, .ref 125), (1, .int a1), (2, .int a2)] [.int 0] _ 0 0 _
            refine x_ifeq (tgt := 30) rfl rfl (ti_eq jk_0 jk_0 (br_t (by omega) ?_))
            exact jX.sub jsb_n (ct_X12_reason_r125_30 hD hQ  h J Sm)
          ·
            refine x_iloadn (x := a2) rfl rfl ?_
            refine x_iconst (v := 3) rfl ki_3 ?_
            refine z_irem rfl rfl jk_3 (by omega) (by omega) (fun v70 ev70 => ?_)
            refine x_aloadn (x := 125) rfl rfl ?_
            refine x_iloadn (x := a2) rfl rfl ?_
            refine x_iconst (v := 3) rfl ki_3 ?_
            refine z_idiv rfl rfl jk_3 (by omega) (by omega) (fun v71 ev71 => ?_)
            refine x_inv (N := m_X12_bookOf) (As := [.int v71]) (b := 125) (st := [.int v70]) (dx9 := 5) (mc := 0) (ms := 0) (host := "") 12 rfl t_X12_bookOf ⟨Or.inl q_12_299, i_X12_bookOf.1, i_X12_bookOf.2⟩ ⟨by decide, rfl⟩ (congrArg Prod.fst (J.1.1 125 (12, 92) rfl)) rfl (by decide) rfl rfl ⟨by decide, by decide⟩ (jC.of rfl k_X12_bookOf rfl ?_)
            show jX m_X12_bookOf 5 0 0 0 [(0, .ref 125), (1, .int v71)] [] _ 0 0 _
            refine x_aloadn (x := 125) rfl rfl ?_
            refine z_getR (N := 92) (b := 126) 12 2 rfl f_12_8 rfl J rfl 16002 ⟨rfl, rfl⟩ rfl ?_
            refine x_aloadn (x := 125) rfl rfl ?_
            refine x_iloadn (x := v71) rfl rfl ?_
            refine x_inv (N := m_X12_at) (As := [.int v71]) (b := 125) (st := [.ref 126]) (dx9 := 4) (mc := 0) (ms := 0) (host := "") 12 rfl t_X12_at ⟨Or.inl q_12_254, i_X12_at.1, i_X12_at.2⟩ ⟨by decide, rfl⟩ (congrArg Prod.fst (J.1.1 125 (12, 92) rfl)) rfl (by decide) rfl rfl ⟨by decide, by decide⟩ (jC.of rfl k_X12_at rfl ?_)
            show jX m_X12_at 4 0 0 0 [(0, .ref 125), (1, .int v71)] [] _ 0 0 _
            refine x_bipush (v := 20) rfl kb_20 ?_
            refine x_bipush (v := 90) rfl kb_90 ?_
            refine x_iloadn (x := v71) rfl rfl ?_
            refine z_imul rfl jk_90 rfl (by omega) (fun v72 ev72 => ?_)
            refine z_iadd rfl jk_20 rfl (by omega) (fun v73 ev73 => ?_)
            refine x_iret rfl rfl ?_
            show jX m_X12_bookOf 5 0 0 9 [(0, .ref 125), (1, .int v71)] [.int v73, .ref 126] _ 0 0 _
            refine z_iald (N := 50660) rfl J rfl sg_126_20_18020_90_0_1 rfl (by omega) (fun v74 qv74 ev74 => ?_)
            refine x_iret rfl rfl ?_
            show jX m_X12_isMention 6 0 0 24 [(0, .ref 125), (1, .int a2)] [.int v74, .int v70] _ 0 0 _
            refine x_inst (N := m_X12_rolesOf) (As := [.int v74]) (st := [.int v70]) (dx9 := 5) (mc := 0) (ms := 0) (host := "") rfl t_X12_rolesOf ⟨Or.inl q_12_286, s_X12_rolesOf⟩ rfl (by decide) rfl rfl ⟨by decide, by decide⟩ (jC.of rfl k_X12_rolesOf rfl ?_)
            show jX m_X12_rolesOf 5 0 0 0 [(0, .int v74)] [] _ 0 0 _
            refine x_iloadn (x := v74) rfl rfl ?_
            refine x_ifne (tgt := 8) rfl rfl (ti_ne rfl jk_0 ⟨fun c75 => ?_, fun c75 => ?_⟩)
            ·
              refine x_iloadn (x := v74) rfl rfl ?_
              refine x_iconst (v := 1) rfl ki_1 ?_
              refine x_icne (tgt := 17) rfl rfl (ti_ne rfl jk_1 ⟨fun c76 => ?_, fun c76 => ?_⟩)
              ·
                refine x_iconst (v := 1) rfl ki_1 ?_
                refine x_iret rfl rfl ?_
                show jX m_X12_isMention 6 0 0 27 [(0, .ref 125), (1, .int a2)] [.int 1, .int v70] _ 0 0 _
                refine x_icge (tgt := 34) rfl rfl (ti_ge rfl jk_1 ⟨fun c77 => ?_, fun c77 => ?_⟩)
                ·
                  refine x_iconst (v := 0) rfl ki_0 ?_
                  refine x_zret rfl rfl (by decide) ?_
                  show jX m_X12_reason 7 0 0 18 [(0, .ref 125), (1, .int a1), (2, .int a2)] [.int 0] _ 0 0 _
                  refine x_ifeq (tgt := 30) rfl rfl (ti_eq jk_0 jk_0 (br_t (by omega) ?_))
                  exact jX.sub jsb_n (ct_X12_reason_r125_30 hD hQ  h J Sm)
                ·
                  refine x_iconst (v := 1) rfl ki_1 ?_
                  refine x_goto (tgt := 35) rfl rfl ?_
                  refine x_zret rfl rfl (by decide) ?_
                  show jX m_X12_reason 7 0 0 18 [(0, .ref 125), (1, .int a1), (2, .int a2)] [.int 1] _ 0 0 _
                  refine x_ifeq (tgt := 30) rfl rfl (ti_eq jk_1 jk_0 (br_f (by omega) ?_))
                  refine x_aloadn (x := 125) rfl rfl ?_
                  refine x_iloadn (x := a1) rfl rfl ?_
                  refine x_iloadn (x := a2) rfl rfl ?_
                  refine x_inv (N := m_X12_why) (As := [.int a1, .int a2]) (b := 125) (st := []) (dx9 := 6) (mc := 0) (ms := 0) (host := "") 12 rfl t_X12_why ⟨Or.inl q_12_368, i_X12_why.1, i_X12_why.2⟩ ⟨by decide, rfl⟩ (congrArg Prod.fst (J.1.1 125 (12, 92) rfl)) rfl (by decide) rfl rfl ⟨by decide, by decide⟩ (sf_X12_why_r125 (jr_of rfl (by omega)) (jr_of rfl (by omega)) hD J  (fun v79 h ev79 J S78 => ?_))
                  have Sm := jSm_tr rfl Sm S78
                  show jX m_X12_reason 7 0 0 27 [(0, .ref 125), (1, .int a1), (2, .int a2)] [.int v79] _ 0 0 _
                  refine x_goto (tgt := 31) rfl rfl ?_
                  exact jX.sub jsb_n (ct_X12_reason_r125_31 hD hQ  v79 h (jr_of rfl (by omega)) J Sm)
              ·
                refine x_iconst (v := 2) rfl ki_2 ?_
                refine x_goto (tgt := 18) rfl rfl ?_
                refine x_iret rfl rfl ?_
                show jX m_X12_isMention 6 0 0 27 [(0, .ref 125), (1, .int a2)] [.int 2, .int v70] _ 0 0 _
                refine x_icge (tgt := 34) rfl rfl (ti_ge rfl jk_2 ⟨fun c80 => ?_, fun c80 => ?_⟩)
                ·
                  refine x_iconst (v := 0) rfl ki_0 ?_
                  refine x_zret rfl rfl (by decide) ?_
                  show jX m_X12_reason 7 0 0 18 [(0, .ref 125), (1, .int a1), (2, .int a2)] [.int 0] _ 0 0 _
                  refine x_ifeq (tgt := 30) rfl rfl (ti_eq jk_0 jk_0 (br_t (by omega) ?_))
                  exact jX.sub jsb_n (ct_X12_reason_r125_30 hD hQ  h J Sm)
                ·
                  refine x_iconst (v := 1) rfl ki_1 ?_
                  refine x_goto (tgt := 35) rfl rfl ?_
                  refine x_zret rfl rfl (by decide) ?_
                  show jX m_X12_reason 7 0 0 18 [(0, .ref 125), (1, .int a1), (2, .int a2)] [.int 1] _ 0 0 _
                  refine x_ifeq (tgt := 30) rfl rfl (ti_eq jk_1 jk_0 (br_f (by omega) ?_))
                  refine x_aloadn (x := 125) rfl rfl ?_
                  refine x_iloadn (x := a1) rfl rfl ?_
                  refine x_iloadn (x := a2) rfl rfl ?_
                  refine x_inv (N := m_X12_why) (As := [.int a1, .int a2]) (b := 125) (st := []) (dx9 := 6) (mc := 0) (ms := 0) (host := "") 12 rfl t_X12_why ⟨Or.inl q_12_368, i_X12_why.1, i_X12_why.2⟩ ⟨by decide, rfl⟩ (congrArg Prod.fst (J.1.1 125 (12, 92) rfl)) rfl (by decide) rfl rfl ⟨by decide, by decide⟩ (sf_X12_why_r125 (jr_of rfl (by omega)) (jr_of rfl (by omega)) hD J  (fun v82 h ev82 J S81 => ?_))
                  have Sm := jSm_tr rfl Sm S81
                  show jX m_X12_reason 7 0 0 27 [(0, .ref 125), (1, .int a1), (2, .int a2)] [.int v82] _ 0 0 _
                  refine x_goto (tgt := 31) rfl rfl ?_
                  exact jX.sub jsb_n (ct_X12_reason_r125_31 hD hQ  v82 h (jr_of rfl (by omega)) J Sm)
            ·
              refine x_iconst (v := 3) rfl ki_3 ?_
              refine x_goto (tgt := 18) rfl rfl ?_
              refine x_iret rfl rfl ?_
              show jX m_X12_isMention 6 0 0 27 [(0, .ref 125), (1, .int a2)] [.int 3, .int v70] _ 0 0 _
              refine x_icge (tgt := 34) rfl rfl (ti_ge rfl jk_3 (br_f (by omega) ?_))
              refine x_iconst (v := 1) rfl ki_1 ?_
              refine x_goto (tgt := 35) rfl rfl ?_
              refine x_zret rfl rfl (by decide) ?_
              show jX m_X12_reason 7 0 0 18 [(0, .ref 125), (1, .int a1), (2, .int a2)] [.int 1] _ 0 0 _
              refine x_ifeq (tgt := 30) rfl rfl (ti_eq jk_1 jk_0 (br_f (by omega) ?_))
              refine x_aloadn (x := 125) rfl rfl ?_
              refine x_iloadn (x := a1) rfl rfl ?_
              refine x_iloadn (x := a2) rfl rfl ?_
              refine x_inv (N := m_X12_why) (As := [.int a1, .int a2]) (b := 125) (st := []) (dx9 := 6) (mc := 0) (ms := 0) (host := "") 12 rfl t_X12_why ⟨Or.inl q_12_368, i_X12_why.1, i_X12_why.2⟩ ⟨by decide, rfl⟩ (congrArg Prod.fst (J.1.1 125 (12, 92) rfl)) rfl (by decide) rfl rfl ⟨by decide, by decide⟩ (sf_X12_why_r125 (jr_of rfl (by omega)) (jr_of rfl (by omega)) hD J  (fun v84 h ev84 J S83 => ?_))
              have Sm := jSm_tr rfl Sm S83
              show jX m_X12_reason 7 0 0 27 [(0, .ref 125), (1, .int a1), (2, .int a2)] [.int v84] _ 0 0 _
              refine x_goto (tgt := 31) rfl rfl ?_
              exact jX.sub jsb_n (ct_X12_reason_r125_31 hD hQ  v84 h (jr_of rfl (by omega)) J Sm)
def fp_X12_seal_r125 : jFp := [(125, 0, 1), (125, 1, 2), (125, 89, 90), (125, 90, 91), (125, 91, 92), (129, 0, 1600)]
set_option maxRecDepth 100000 in
set_option maxHeartbeats 4000000 in
theorem sf_X12_seal_r125 {Dy : jH → Prop} {h : jH} {Q : Option Value → jH → Prop} {a1 : Int32} (hD : jDk Dy) (J : jJ jSgM Dy h) (hQ : ∀ (v : Int32) hx9, jJ jSgM Dy hx9 → jSm fp_X12_seal_r125 h hx9 → Q (some (.int v)) hx9) : jC m_X12_seal 4 0 0 [.ref 125, .int a1] h Q := by
  refine jC.of rfl k_X12_seal rfl ?_
  have Sm := jSm_rf fp_X12_seal_r125 h
  have ea1 := jfull a1
  show jX m_X12_seal 4 0 0 0 [(0, .ref 125), (1, .int a1)] [] _ 0 0 _
  refine x_aloadn (x := 125) rfl rfl ?_
  refine x_iconst (v := 0) rfl ki_0 ?_
  refine z_putI (N := 92) (w := 0) 12 0 rfl f_12_180 rfl (jfin_no TX12 RX12 92 rfl rfl) hD J Sm rfl rfl jk_0 (pw_125_0 (by omega)) rfl (fun h w1 J Sm => ?_)
  refine x_iloadn (x := a1) rfl rfl ?_
  refine x_inst (N := m_X12_isYear) (As := [.int a1]) (st := []) (dx9 := 2) (mc := 0) (ms := 0) (host := "") rfl t_X12_isYear ⟨Or.inl q_12_817, s_X12_isYear⟩ rfl (by decide) rfl rfl ⟨by decide, by decide⟩ (zc_X12_isYear (d := 1) rfl (fun v2 ev2 => ?_))
  show jX m_X12_seal 4 0 0 9 [(0, .ref 125), (1, .int a1)] [.int v2] _ 0 0 _
  refine x_ifne (tgt := 18) rfl rfl (ti_ne rfl jk_0 ⟨fun c3 => ?_, fun c3 => ?_⟩)
  ·
    refine x_aloadn (x := 125) rfl rfl ?_
    refine x_iloadn (x := a1) rfl rfl ?_
    refine x_inv (N := m_X12_addYear) (As := [.int a1]) (b := 125) (st := []) (dx9 := 3) (mc := 0) (ms := 0) (host := "") 12 rfl t_X12_addYear ⟨Or.inl q_12_872, i_X12_addYear.1, i_X12_addYear.2⟩ ⟨by decide, rfl⟩ (congrArg Prod.fst (J.1.1 125 (12, 92) rfl)) rfl (by decide) rfl rfl ⟨by decide, by decide⟩ (sf_X12_addYear_r125 (jr_of rfl (by omega)) hD J  (fun h J S4 => ?_))
    have Sm := jSm_tr rfl Sm S4
    show jX m_X12_seal 4 0 0 23 [(0, .ref 125), (1, .int a1)] [] _ 0 0 _
    refine x_aloadn (x := 125) rfl rfl ?_
    refine z_getR (N := 92) (b := 129) 12 5 rfl f_12_22 rfl J rfl 16005 ⟨rfl, rfl⟩ rfl ?_
    refine x_iconst (v := 4) rfl ki_4 ?_
    refine x_iloadn (x := a1) rfl rfl ?_
    refine z_imul rfl jk_4 rfl (by omega) (fun v5 ev5 => ?_)
    refine x_lconst (v := 1) rfl kl_1 ?_
    refine z_last (N := 1600) (l := 0) (u := 1600) rfl hD J Sm rfl rfl rfl (by omega) rfl (fun h w6 J Sm => ?_)
    refine x_aloadn (x := 125) rfl rfl ?_
    refine z_getR (N := 92) (b := 129) 12 5 rfl f_12_22 rfl J rfl 16005 ⟨rfl, rfl⟩ rfl ?_
    refine x_iconst (v := 4) rfl ki_4 ?_
    refine x_iloadn (x := a1) rfl rfl ?_
    refine z_imul rfl jk_4 rfl (by omega) (fun v7 ev7 => ?_)
    refine x_iconst (v := 1) rfl ki_1 ?_
    refine z_iadd rfl rfl jk_1 (by omega) (fun v8 ev8 => ?_)
    refine x_aloadn (x := 125) rfl rfl ?_
    refine z_getI0 (N := 92) 12 89 rfl f_12_863 rfl J rfl (fun v9 qv9 => ?_)
    have ev9 := jfull v9
    refine z_i2l rfl rfl (fun v10 ev10 => ?_)
    refine z_last (N := 1600) (l := 0) (u := 1600) rfl hD J Sm rfl rfl rfl (by omega) rfl (fun h w11 J Sm => ?_)
    refine x_aloadn (x := 125) rfl rfl ?_
    refine z_getR (N := 92) (b := 129) 12 5 rfl f_12_22 rfl J rfl 16005 ⟨rfl, rfl⟩ rfl ?_
    refine x_iconst (v := 4) rfl ki_4 ?_
    refine x_iloadn (x := a1) rfl rfl ?_
    refine z_imul rfl jk_4 rfl (by omega) (fun v12 ev12 => ?_)
    refine x_iconst (v := 2) rfl ki_2 ?_
    refine z_iadd rfl rfl jk_2 (by omega) (fun v13 ev13 => ?_)
    refine x_aloadn (x := 125) rfl rfl ?_
    refine z_getL0 (N := 92) 12 90 rfl f_12_866 rfl J rfl (fun v14 => ?_)
    have ev14 := jfullL v14
    refine z_last (N := 1600) (l := 0) (u := 1600) rfl hD J Sm rfl rfl rfl (by omega) rfl (fun h w15 J Sm => ?_)
    refine x_aloadn (x := 125) rfl rfl ?_
    refine z_getR (N := 92) (b := 129) 12 5 rfl f_12_22 rfl J rfl 16005 ⟨rfl, rfl⟩ rfl ?_
    refine x_iconst (v := 4) rfl ki_4 ?_
    refine x_iloadn (x := a1) rfl rfl ?_
    refine z_imul rfl jk_4 rfl (by omega) (fun v16 ev16 => ?_)
    refine x_iconst (v := 3) rfl ki_3 ?_
    refine z_iadd rfl rfl jk_3 (by omega) (fun v17 ev17 => ?_)
    refine x_aloadn (x := 125) rfl rfl ?_
    refine z_getL0 (N := 92) 12 91 rfl f_12_869 rfl J rfl (fun v18 => ?_)
    have ev18 := jfullL v18
    refine z_last (N := 1600) (l := 0) (u := 1600) rfl hD J Sm rfl rfl rfl (by omega) rfl (fun h w19 J Sm => ?_)
    refine x_aloadn (x := 125) rfl rfl ?_
    refine x_aloadn (x := 125) rfl rfl ?_
    refine z_getM (N := 92) (v := v9) 12 89 rfl f_12_863 rfl J rfl (jml w19 (jml w15 (jml w11 qv9))) ?_
    refine x_inv (N := m_X12_told) (As := [.int v9]) (b := 125) (st := []) (dx9 := 1) (mc := 0) (ms := 0) (host := "") 12 rfl t_X12_told ⟨Or.inl q_12_197, i_X12_told.1, i_X12_told.2⟩ ⟨by decide, rfl⟩ (congrArg Prod.fst (J.1.1 125 (12, 92) rfl)) rfl (by decide) rfl rfl ⟨by decide, by decide⟩ (sf_X12_told_r125  hD J  (fun v21 h J S20 => ?_))
    have ev21 := jfull v21
    have Sm := jSm_tr rfl Sm S20
    show jX m_X12_seal 4 0 0 83 [(0, .ref 125), (1, .int a1)] [.int v21] _ 0 0 _
    refine x_iret rfl rfl ?_
    exact hQ _ _ J Sm
  ·
    refine x_aloadn (x := 125) rfl rfl ?_
    refine x_iconst (v := (-1)) rfl ki_m1 ?_
    refine x_inv (N := m_X12_told) (As := [.int (-1)]) (b := 125) (st := []) (dx9 := 1) (mc := 0) (ms := 0) (host := "") 12 rfl t_X12_told ⟨Or.inl q_12_197, i_X12_told.1, i_X12_told.2⟩ ⟨by decide, rfl⟩ (congrArg Prod.fst (J.1.1 125 (12, 92) rfl)) rfl (by decide) rfl rfl ⟨by decide, by decide⟩ (sf_X12_told_r125  hD J  (fun v23 h J S22 => ?_))
    have ev23 := jfull v23
    have Sm := jSm_tr rfl Sm S22
    show jX m_X12_seal 4 0 0 17 [(0, .ref 125), (1, .int a1)] [.int v23] _ 0 0 _
    refine x_iret rfl rfl ?_
    exact hQ _ _ J Sm
def fp_X12_sitsAhead_r125 : jFp := []
set_option maxRecDepth 100000 in
set_option maxHeartbeats 4000000 in
theorem ct_X12_sitsAhead_r125_200083 {Dy : jH → Prop} {h0 : jH} {Q : Option Value → jH → Prop} (hD : jDk Dy) (hQ : ∀ (v : Int32) hx9, 0 ≤ v.toInt ∧ v.toInt ≤ 1 → jJ jSgM Dy hx9 → jSm fp_X12_sitsAhead_r125 h0 hx9 → Q (some (.int v)) hx9) : ∀ (h : jH), jJ jSgM Dy h → jSm fp_X12_sitsAhead_r125 h0 h → jX m_X12_sitsAhead 1 0 0 83 [] [.int 0] h 0 0 Q := by
  intro  h    J Sm
  refine x_zret rfl rfl (by decide) ?_
  exact hQ _ _ (jr_of jk_0 (by omega)) J Sm
set_option maxRecDepth 100000 in
set_option maxHeartbeats 4000000 in
theorem ct_X12_sitsAhead_r125_300083 {Dy : jH → Prop} {h0 : jH} {Q : Option Value → jH → Prop} (hD : jDk Dy) (hQ : ∀ (v : Int32) hx9, 0 ≤ v.toInt ∧ v.toInt ≤ 1 → jJ jSgM Dy hx9 → jSm fp_X12_sitsAhead_r125 h0 hx9 → Q (some (.int v)) hx9) : ∀ (h : jH), jJ jSgM Dy h → jSm fp_X12_sitsAhead_r125 h0 h → jX m_X12_sitsAhead 1 0 0 83 [] [.int 1] h 0 0 Q := by
  intro  h    J Sm
  refine x_zret rfl rfl (by decide) ?_
  exact hQ _ _ (jr_of jk_1 (by omega)) J Sm
set_option maxRecDepth 100000 in
set_option maxHeartbeats 4000000 in
theorem ct_X12_sitsAhead_r125_83 {Dy : jH → Prop} {h0 : jH} {Q : Option Value → jH → Prop} (hD : jDk Dy) (hQ : ∀ (v : Int32) hx9, 0 ≤ v.toInt ∧ v.toInt ≤ 1 → jJ jSgM Dy hx9 → jSm fp_X12_sitsAhead_r125 h0 hx9 → Q (some (.int v)) hx9) : ∀ (s0 : Int32) (h : jH), 0 ≤ s0.toInt ∧ s0.toInt ≤ 1 → jJ jSgM Dy h → jSm fp_X12_sitsAhead_r125 h0 h → jX m_X12_sitsAhead 1 0 0 83 [] [.int s0] h 0 0 Q := by
  intro s0 h y0   J Sm
  refine x_zret rfl rfl (jz01 (by omega)) ?_
  exact hQ _ _ (jr_of rfl (by omega)) J Sm
set_option maxRecDepth 100000 in
set_option maxHeartbeats 4000000 in
theorem ct_X12_sitsAhead_r125_73 {Dy : jH → Prop} {h0 : jH} {Q : Option Value → jH → Prop} (hD : jDk Dy) (hQ : ∀ (v : Int32) hx9, 0 ≤ v.toInt ∧ v.toInt ≤ 1 → jJ jSgM Dy hx9 → jSm fp_X12_sitsAhead_r125 h0 hx9 → Q (some (.int v)) hx9) : ∀ (l1 : Int32) (l2 : Int32) (h : jH), 0 ≤ l1.toInt ∧ l1.toInt ≤ 39 → 0 ≤ l2.toInt ∧ l2.toInt ≤ 39 → jJ jSgM Dy h → jSm fp_X12_sitsAhead_r125 h0 h → jX m_X12_sitsAhead 1 0 0 73 [(1, .int l1), (2, .int l2)] [] h 0 0 Q := by
  intro l1 l2 h y0 y1   J Sm
  refine x_iloadn (x := l1) rfl rfl ?_
  refine x_iloadn (x := l2) rfl rfl ?_
  refine x_icge (tgt := 82) rfl rfl (ti_ge rfl rfl ⟨fun c1 => ?_, fun c1 => ?_⟩)
  ·
    refine x_iconst (v := 0) rfl ki_0 ?_
    exact jX.sub jsb_n (ct_X12_sitsAhead_r125_200083 hD hQ  h J Sm)
  ·
    refine x_iconst (v := 1) rfl ki_1 ?_
    refine x_goto (tgt := 83) rfl rfl ?_
    exact jX.sub jsb_n (ct_X12_sitsAhead_r125_300083 hD hQ  h J Sm)
set_option maxRecDepth 100000 in
set_option maxHeartbeats 4000000 in
theorem sf_X12_sitsAhead_r125 {Dy : jH → Prop} {h : jH} {Q : Option Value → jH → Prop} {a1 : Int32} {a2 : Int32} (y1 : 0 ≤ a1.toInt ∧ a1.toInt ≤ 39) (y2 : 0 ≤ a2.toInt ∧ a2.toInt ≤ 39) (hD : jDk Dy) (J : jJ jSgM Dy h) (hQ : ∀ (v : Int32) hx9, 0 ≤ v.toInt ∧ v.toInt ≤ 1 → jJ jSgM Dy hx9 → jSm fp_X12_sitsAhead_r125 h hx9 → Q (some (.int v)) hx9) : jC m_X12_sitsAhead 1 0 0 [.ref 125, .int a1, .int a2] h Q := by
  refine jC.of rfl k_X12_sitsAhead rfl ?_
  have Sm := jSm_rf fp_X12_sitsAhead_r125 h
  show jX m_X12_sitsAhead 1 0 0 0 [(0, .ref 125), (1, .int a1), (2, .int a2)] [] _ 0 0 _
  refine x_aloadn (x := 125) rfl rfl ?_
  refine z_getR (N := 92) (b := 171) 12 86 rfl f_12_171 rfl J rfl 16086 ⟨rfl, rfl⟩ rfl ?_
  refine x_iloadn (x := a1) rfl rfl ?_
  refine z_zald (N := 40) rfl J rfl sg_171_0_40_1_0_1 rfl (by omega) (fun v1 qv1 ev1 => ?_)
  refine x_aloadn (x := 125) rfl rfl ?_
  refine z_getR (N := 92) (b := 171) 12 86 rfl f_12_171 rfl J rfl 16086 ⟨rfl, rfl⟩ rfl ?_
  refine x_iloadn (x := a2) rfl rfl ?_
  refine z_zald (N := 40) rfl J rfl sg_171_0_40_1_0_1 rfl (by omega) (fun v2 qv2 ev2 => ?_)
  refine x_iceq (tgt := 24) rfl rfl (ti_eq rfl rfl ⟨fun c3 => ?_, fun c3 => ?_⟩)
  ·
    refine x_aloadn (x := 125) rfl rfl ?_
    refine z_getR (N := 92) (b := 171) 12 86 rfl f_12_171 rfl J rfl 16086 ⟨rfl, rfl⟩ rfl ?_
    refine x_iloadn (x := a1) rfl rfl ?_
    refine z_zaldM (N := 40) (v := v1) rfl J rfl rfl (by omega) qv1 ?_
    refine x_ifeq (tgt := 73) rfl rfl (ti_eq rfl jk_0 ⟨fun c4 => ?_, fun c4 => ?_⟩)
    ·
      exact jX.sub (jsb_c rfl (jsb_c rfl jsb_n)) (ct_X12_sitsAhead_r125_73 hD hQ  a1 a2 h (jr_of rfl (by omega)) (jr_of rfl (by omega)) J Sm)
    ·
      refine x_aloadn (x := 125) rfl rfl ?_
      refine z_getR (N := 92) (b := 170) 12 85 rfl f_12_168 rfl J rfl 16085 ⟨rfl, rfl⟩ rfl ?_
      refine x_iloadn (x := a1) rfl rfl ?_
      refine z_lald0 (N := 40) rfl J rfl rfl (by omega) (fun v5 => ?_)
      have ev5 := jfullL v5
      refine x_aloadn (x := 125) rfl rfl ?_
      refine z_getR (N := 92) (b := 170) 12 85 rfl f_12_168 rfl J rfl 16085 ⟨rfl, rfl⟩ rfl ?_
      refine x_iloadn (x := a2) rfl rfl ?_
      refine z_lald0 (N := 40) rfl J rfl rfl (by omega) (fun v6 => ?_)
      have ev6 := jfullL v6
      refine z_lcmp rfl rfl rfl (fun v7 ev7 => ?_)
      refine x_ifeq (tgt := 73) rfl rfl (ti_eq rfl jk_0 ⟨fun c8 => ?_, fun c8 => ?_⟩)
      ·
        exact jX.sub (jsb_c rfl (jsb_c rfl jsb_n)) (ct_X12_sitsAhead_r125_73 hD hQ  a1 a2 h (jr_of rfl (by omega)) (jr_of rfl (by omega)) J Sm)
      ·
        refine x_aloadn (x := 125) rfl rfl ?_
        refine z_getR (N := 92) (b := 170) 12 85 rfl f_12_168 rfl J rfl 16085 ⟨rfl, rfl⟩ rfl ?_
        refine x_iloadn (x := a1) rfl rfl ?_
        refine z_lald0 (N := 40) rfl J rfl rfl (by omega) (fun v9 => ?_)
        have ev9 := jfullL v9
        refine x_aloadn (x := 125) rfl rfl ?_
        refine z_getR (N := 92) (b := 170) 12 85 rfl f_12_168 rfl J rfl 16085 ⟨rfl, rfl⟩ rfl ?_
        refine x_iloadn (x := a2) rfl rfl ?_
        refine z_lald0 (N := 40) rfl J rfl rfl (by omega) (fun v10 => ?_)
        have ev10 := jfullL v10
        refine z_lcmp rfl rfl rfl (fun v11 ev11 => ?_)
        refine x_ifle (tgt := 69) rfl rfl (ti_le rfl jk_0 ⟨fun c12 => ?_, fun c12 => ?_⟩)
        ·
          refine x_iconst (v := 0) rfl ki_0 ?_
          refine x_goto (tgt := 83) rfl rfl ?_
          exact jX.sub jsb_n (ct_X12_sitsAhead_r125_200083 hD hQ  h J Sm)
        ·
          refine x_iconst (v := 1) rfl ki_1 ?_
          refine x_goto (tgt := 83) rfl rfl ?_
          exact jX.sub jsb_n (ct_X12_sitsAhead_r125_300083 hD hQ  h J Sm)
  ·
    refine x_aloadn (x := 125) rfl rfl ?_
    refine z_getR (N := 92) (b := 171) 12 86 rfl f_12_171 rfl J rfl 16086 ⟨rfl, rfl⟩ rfl ?_
    refine x_iloadn (x := a1) rfl rfl ?_
    refine z_zaldM (N := 40) (v := v1) rfl J rfl rfl (by omega) qv1 ?_
    refine x_goto (tgt := 83) rfl rfl ?_
    exact jX.sub jsb_n (ct_X12_sitsAhead_r125_83 hD hQ  v1 h (jr_of rfl (by omega)) J Sm)
def fp_X12_seat_r125 : jFp := [(125, 0, 1), (125, 28, 29), (125, 31, 32), (125, 32, 33), (125, 33, 34), (125, 34, 35), (125, 35, 36), (125, 57, 58), (125, 61, 62), (125, 62, 63), (125, 63, 64), (125, 64, 65), (125, 65, 66), (125, 66, 67), (137, 0, 80), (138, 0, 2), (139, 0, 600), (140, 0, 200), (152, 0, 360), (153, 0, 30), (154, 0, 400), (155, 0, 360), (162, 0, 40), (162, 40, 80), (163, 0, 40), (163, 40, 80), (164, 0, 40), (170, 0, 40), (171, 0, 40), (172, 0, 40)]
set_option maxRecDepth 100000 in
set_option maxHeartbeats 4000000 in
theorem ct_X12_seat_r125_19 {Dy : jH → Prop} {h0 : jH} {Q : Option Value → jH → Prop} (hD : jDk Dy) (hQ : ∀ (v : Int32) hx9, (-1) ≤ v.toInt ∧ v.toInt ≤ 40 → jJ jSgM Dy hx9 → jSm fp_X12_seat_r125 h0 hx9 → Q (some (.int v)) hx9) : ∀ (h : jH), jJ jSgM Dy h → jSm fp_X12_seat_r125 h0 h → jX m_X12_seat 12 0 0 19 [] [] h 0 0 Q := by
  intro  h    J Sm
  refine x_iconst (v := (-1)) rfl ki_m1 ?_
  refine x_iret rfl rfl ?_
  exact hQ _ _ (jr_of jk_m1 (by omega)) J Sm
set_option maxRecDepth 100000 in
set_option maxHeartbeats 4000000 in
theorem ct_X12_seat_r125_100214 {Dy : jH → Prop} {h0 : jH} {Q : Option Value → jH → Prop} (hD : jDk Dy) (hQ : ∀ (v : Int32) hx9, (-1) ≤ v.toInt ∧ v.toInt ≤ 40 → jJ jSgM Dy hx9 → jSm fp_X12_seat_r125 h0 hx9 → Q (some (.int v)) hx9) : ∀ (h : jH), jJ jSgM Dy h → jSm fp_X12_seat_r125 h0 h → jX m_X12_seat 12 0 0 214 [] [.int (-1)] h 0 0 Q := by
  intro  h    J Sm
  refine x_iret rfl rfl ?_
  exact hQ _ _ (jr_of jk_m1 (by omega)) J Sm
set_option maxRecDepth 100000 in
set_option maxHeartbeats 4000000 in
theorem ct_X12_seat_r125_214 {Dy : jH → Prop} {h0 : jH} {Q : Option Value → jH → Prop} (hD : jDk Dy) (hQ : ∀ (v : Int32) hx9, (-1) ≤ v.toInt ∧ v.toInt ≤ 40 → jJ jSgM Dy hx9 → jSm fp_X12_seat_r125 h0 hx9 → Q (some (.int v)) hx9) : ∀ (s0 : Int32) (h : jH), 0 ≤ s0.toInt ∧ s0.toInt ≤ 40 → jJ jSgM Dy h → jSm fp_X12_seat_r125 h0 h → jX m_X12_seat 12 0 0 214 [] [.int s0] h 0 0 Q := by
  intro s0 h y0   J Sm
  refine x_iret rfl rfl ?_
  exact hQ _ _ (jr_of rfl (by omega)) J Sm
set_option maxRecDepth 100000 in
set_option maxHeartbeats 4000000 in
theorem ct_X12_seat_r125_174 {Dy : jH → Prop} {h0 : jH} {Q : Option Value → jH → Prop} {R38 : Int} (hD : jDk Dy) (hQ : ∀ (v : Int32) hx9, (-1) ≤ v.toInt ∧ v.toInt ≤ 40 → jJ jSgM Dy hx9 → jSm fp_X12_seat_r125 h0 hx9 → Q (some (.int v)) hx9) (k38 : ∀ (l1 : Int32) (l3 : Int32) (l4 : Int32) (l5 : Int32) (h : jH), 40 - l5.toInt < R38 → 0 ≤ l1.toInt ∧ l1.toInt ≤ 146399 → 0 ≤ l4.toInt ∧ l4.toInt ≤ 40 → 0 ≤ l5.toInt ∧ l5.toInt ≤ 40 → l4.toInt - l5.toInt ≤ 0 → jJ jSgM Dy h → jSm fp_X12_seat_r125 h0 h → jX m_X12_seat 12 0 0 38 [(0, .ref 125), (1, .int l1), (3, .int l3), (4, .int l4), (5, .int l5)] [] h 0 0 Q) : ∀ (l1 : Int32) (l3 : Int32) (l4 : Int32) (l5 : Int32) (h : jH), 0 ≤ l1.toInt ∧ l1.toInt ≤ 146399 → 0 ≤ l4.toInt ∧ l4.toInt ≤ 40 → 0 ≤ l5.toInt ∧ l5.toInt ≤ 39 → l4.toInt - l5.toInt ≤ 1 → 40 - l5.toInt ≤ R38 → jJ jSgM Dy h → jSm fp_X12_seat_r125 h0 h → jX m_X12_seat 12 0 0 174 [(0, .ref 125), (1, .int l1), (3, .int l3), (4, .int l4), (5, .int l5)] [] h 0 0 Q := by
  intro l1 l3 l4 l5 h y0 y1 y2 y3  m38 J Sm
  have el3 := jfull l3
  refine z_iinc (x := l5) (lsx9 := fun v1 => [(5, .int v1), (0, .ref 125), (1, .int l1), (3, .int l3), (4, .int l4)]) rfl rfl rfl jko_1 (by omega) rfl (fun _ => rfl) (fun v1 ev1 => ?_)
  refine x_goto (tgt := 38) rfl rfl ?_
  exact jX.sub (jsb_c rfl (jsb_c rfl (jsb_c rfl (jsb_c rfl (jsb_c rfl jsb_n))))) (k38 l1 l3 l4 v1 h (by omega) (jr_of rfl (by omega)) (jr_of rfl (by omega)) (jr_of rfl (by omega)) (by omega) J Sm)
set_option maxRecDepth 100000 in
set_option maxHeartbeats 4000000 in
theorem ct_X12_seat_r125_162 {Dy : jH → Prop} {h0 : jH} {Q : Option Value → jH → Prop} {R38 : Int} (hD : jDk Dy) (hQ : ∀ (v : Int32) hx9, (-1) ≤ v.toInt ∧ v.toInt ≤ 40 → jJ jSgM Dy hx9 → jSm fp_X12_seat_r125 h0 hx9 → Q (some (.int v)) hx9) (k38 : ∀ (l1 : Int32) (l3 : Int32) (l4 : Int32) (l5 : Int32) (h : jH), 40 - l5.toInt < R38 → 0 ≤ l1.toInt ∧ l1.toInt ≤ 146399 → 0 ≤ l4.toInt ∧ l4.toInt ≤ 40 → 0 ≤ l5.toInt ∧ l5.toInt ≤ 40 → l4.toInt - l5.toInt ≤ 0 → jJ jSgM Dy h → jSm fp_X12_seat_r125 h0 h → jX m_X12_seat 12 0 0 38 [(0, .ref 125), (1, .int l1), (3, .int l3), (4, .int l4), (5, .int l5)] [] h 0 0 Q) : ∀ (l1 : Int32) (l3 : Int32) (l4 : Int32) (l5 : Int32) (l6 : Int32) (h : jH), 0 ≤ l1.toInt ∧ l1.toInt ≤ 146399 → 0 ≤ l4.toInt ∧ l4.toInt ≤ 39 → 0 ≤ l5.toInt ∧ l5.toInt ≤ 39 → 0 ≤ l6.toInt ∧ l6.toInt ≤ 39 → l4.toInt - l5.toInt ≤ 0 → l6.toInt - l4.toInt ≤ 0 → 40 - l5.toInt ≤ R38 → jJ jSgM Dy h → jSm fp_X12_seat_r125 h0 h → jX m_X12_seat 12 0 0 162 [(0, .ref 125), (1, .int l1), (3, .int l3), (4, .int l4), (5, .int l5), (6, .int l6)] [] h 0 0 Q := by
  intro l1 l3 l4 l5 l6 h y0 y1 y2 y3 y4 y5  m38 J Sm
  have el3 := jfull l3
  refine x_aloadn (x := 125) rfl rfl ?_
  refine z_getR (N := 92) (b := 172) 12 87 rfl f_12_174 rfl J rfl 16087 ⟨rfl, rfl⟩ rfl ?_
  refine x_iload (x := l6) rfl rfl ?_
  refine x_iload (x := l5) rfl rfl ?_
  refine z_iast (N := 40) (l := 0) (u := 40) (w := l5.toInt) rfl hD J Sm rfl rfl rfl (by omega) rfl (wr_172 (fun q1 q2 q3 q4 => by omega)) rfl (fun h w1 J Sm => ?_)
  refine z_iinc (x := l4) (lsx9 := fun v2 => [(4, .int v2), (0, .ref 125), (1, .int l1), (3, .int l3), (5, .int l5), (6, .int l6)]) rfl rfl rfl jko_1 (by omega) rfl (fun _ => rfl) (fun v2 ev2 => ?_)
  exact jX.sub (jsb_c rfl (jsb_c rfl (jsb_c rfl (jsb_c rfl (jsb_c rfl jsb_n))))) (ct_X12_seat_r125_174 hD hQ k38 l1 l3 v2 l5 h (jr_of rfl (by omega)) (jr_of rfl (by omega)) (jr_of rfl (by omega)) (by omega) (by omega) J Sm)
set_option maxRecDepth 100000 in
set_option maxHeartbeats 4000000 in
theorem ct_X12_seat_r125_117 {Dy : jH → Prop} {h0 : jH} {Q : Option Value → jH → Prop} {R38 : Int} (hD : jDk Dy) (hQ : ∀ (v : Int32) hx9, (-1) ≤ v.toInt ∧ v.toInt ≤ 40 → jJ jSgM Dy hx9 → jSm fp_X12_seat_r125 h0 hx9 → Q (some (.int v)) hx9) (k38 : ∀ (l1 : Int32) (l3 : Int32) (l4 : Int32) (l5 : Int32) (h : jH), 40 - l5.toInt < R38 → 0 ≤ l1.toInt ∧ l1.toInt ≤ 146399 → 0 ≤ l4.toInt ∧ l4.toInt ≤ 40 → 0 ≤ l5.toInt ∧ l5.toInt ≤ 40 → l4.toInt - l5.toInt ≤ 0 → jJ jSgM Dy h → jSm fp_X12_seat_r125 h0 h → jX m_X12_seat 12 0 0 38 [(0, .ref 125), (1, .int l1), (3, .int l3), (4, .int l4), (5, .int l5)] [] h 0 0 Q) : ∀ r : Nat, ∀ (l1 : Int32) (l3 : Int32) (l4 : Int32) (l5 : Int32) (l6 : Int32) (h : jH), l6.toInt - 0 < (r : Int) → 0 ≤ l1.toInt ∧ l1.toInt ≤ 146399 → 0 ≤ l4.toInt ∧ l4.toInt ≤ 39 → 0 ≤ l5.toInt ∧ l5.toInt ≤ 39 → 0 ≤ l6.toInt ∧ l6.toInt ≤ 39 → l4.toInt - l5.toInt ≤ 0 → l6.toInt - l4.toInt ≤ 0 → 40 - l5.toInt ≤ R38 → jJ jSgM Dy h → jSm fp_X12_seat_r125 h0 h → jX m_X12_seat 12 0 0 117 [(0, .ref 125), (1, .int l1), (3, .int l3), (4, .int l4), (5, .int l5), (6, .int l6)] [] h 0 0 Q := by
  intro r
  induction r with
  | zero =>
    intro l1 l3 l4 l5 l6 h hm y0 y1 y2 y3 y4 y5  m38 J Sm
    exfalso
    have el3 := jfull l3
    omega
  | succ r ih =>
    intro l1 l3 l4 l5 l6 h hm y0 y1 y2 y3 y4 y5  m38 J Sm
    have el3 := jfull l3
    refine x_iload (x := l6) rfl rfl ?_
    refine x_ifle (tgt := 162) rfl rfl (ti_le rfl jk_0 ⟨fun c1 => ?_, fun c1 => ?_⟩)
    ·
      exact jX.sub (jsb_c rfl (jsb_c rfl (jsb_c rfl (jsb_c rfl (jsb_c rfl (jsb_c rfl jsb_n)))))) (ct_X12_seat_r125_162 hD hQ k38 l1 l3 l4 l5 l6 h (jr_of rfl (by omega)) (jr_of rfl (by omega)) (jr_of rfl (by omega)) (jr_of rfl (by omega)) (by omega) (by omega) (by omega) J Sm)
    ·
      refine x_aloadn (x := 125) rfl rfl ?_
      refine x_iload (x := l5) rfl rfl ?_
      refine x_aloadn (x := 125) rfl rfl ?_
      refine z_getR (N := 92) (b := 172) 12 87 rfl f_12_174 rfl J rfl 16087 ⟨rfl, rfl⟩ rfl ?_
      refine x_iload (x := l6) rfl rfl ?_
      refine x_iconst (v := 1) rfl ki_1 ?_
      refine z_isub rfl rfl jk_1 (by omega) (fun v2 ev2 => ?_)
      refine z_iald (N := 40) rfl J rfl sg_172_0_40_1_0_1 rfl (by omega) (fun v3 qv3 ev3 => ?_)
      refine x_inv (N := m_X12_sitsAhead) (As := [.int l5, .int v3]) (b := 125) (st := []) (dx9 := 1) (mc := 0) (ms := 0) (host := "") 12 rfl t_X12_sitsAhead ⟨Or.inl q_12_851, i_X12_sitsAhead.1, i_X12_sitsAhead.2⟩ ⟨by decide, rfl⟩ (congrArg Prod.fst (J.1.1 125 (12, 92) rfl)) rfl (by decide) rfl rfl ⟨by decide, by decide⟩ (sf_X12_sitsAhead_r125 (jr_of rfl (by omega)) (jr_of rfl (by omega)) hD J  (fun v5 h ev5 J S4 => ?_))
      have Sm := jSm_tr rfl Sm S4
      show jX m_X12_seat 12 0 0 137 [(0, .ref 125), (1, .int l1), (3, .int l3), (4, .int l4), (5, .int l5), (6, .int l6)] [.int v5] _ 0 0 _
      refine x_ifeq (tgt := 162) rfl rfl (ti_eq rfl jk_0 ⟨fun c6 => ?_, fun c6 => ?_⟩)
      ·
        exact jX.sub (jsb_c rfl (jsb_c rfl (jsb_c rfl (jsb_c rfl (jsb_c rfl (jsb_c rfl jsb_n)))))) (ct_X12_seat_r125_162 hD hQ k38 l1 l3 l4 l5 l6 h (jr_of rfl (by omega)) (jr_of rfl (by omega)) (jr_of rfl (by omega)) (jr_of rfl (by omega)) (by omega) (by omega) (by omega) J Sm)
      ·
        refine x_aloadn (x := 125) rfl rfl ?_
        refine z_getR (N := 92) (b := 172) 12 87 rfl f_12_174 rfl J rfl 16087 ⟨rfl, rfl⟩ rfl ?_
        refine x_iload (x := l6) rfl rfl ?_
        refine x_aloadn (x := 125) rfl rfl ?_
        refine z_getR (N := 92) (b := 172) 12 87 rfl f_12_174 rfl J rfl 16087 ⟨rfl, rfl⟩ rfl ?_
        refine x_iload (x := l6) rfl rfl ?_
        refine x_iconst (v := 1) rfl ki_1 ?_
        refine z_isub rfl rfl jk_1 (by omega) (fun v7 ev7 => ?_)
        refine z_iald (N := 40) rfl J rfl sg_172_0_40_1_0_1 rfl (by omega) (fun v8 qv8 ev8 => ?_)
        refine z_iast (N := 40) (l := 0) (u := 40) (w := v8.toInt) rfl hD J Sm rfl rfl rfl (by omega) rfl (wr_172 (fun q1 q2 q3 q4 => by omega)) rfl (fun h w9 J Sm => ?_)
        refine z_iinc (x := l6) (lsx9 := fun v10 => [(6, .int v10), (0, .ref 125), (1, .int l1), (3, .int l3), (4, .int l4), (5, .int l5)]) rfl rfl rfl jko_m1 (by omega) rfl (fun _ => rfl) (fun v10 ev10 => ?_)
        refine x_goto (tgt := 117) rfl rfl ?_
        exact jX.sub (jsb_c rfl (jsb_c rfl (jsb_c rfl (jsb_c rfl (jsb_c rfl (jsb_c rfl jsb_n)))))) (ih l1 l3 l4 l5 v10 h (by omega) (jr_of rfl (by omega)) (jr_of rfl (by omega)) (jr_of rfl (by omega)) (jr_of rfl (by omega)) (by omega) (by omega) (by omega) J Sm)
set_option maxRecDepth 100000 in
set_option maxHeartbeats 4000000 in
theorem ct_X12_seat_r125_200101 {Dy : jH → Prop} {h0 : jH} {Q : Option Value → jH → Prop} {R38 : Int} (hD : jDk Dy) (hQ : ∀ (v : Int32) hx9, (-1) ≤ v.toInt ∧ v.toInt ≤ 40 → jJ jSgM Dy hx9 → jSm fp_X12_seat_r125 h0 hx9 → Q (some (.int v)) hx9) (k38 : ∀ (l1 : Int32) (l3 : Int32) (l4 : Int32) (l5 : Int32) (h : jH), 40 - l5.toInt < R38 → 0 ≤ l1.toInt ∧ l1.toInt ≤ 146399 → 0 ≤ l4.toInt ∧ l4.toInt ≤ 40 → 0 ≤ l5.toInt ∧ l5.toInt ≤ 40 → l4.toInt - l5.toInt ≤ 0 → jJ jSgM Dy h → jSm fp_X12_seat_r125 h0 h → jX m_X12_seat 12 0 0 38 [(0, .ref 125), (1, .int l1), (3, .int l3), (4, .int l4), (5, .int l5)] [] h 0 0 Q) : ∀ (l1 : Int32) (l3 : Int32) (l4 : Int32) (l5 : Int32) (s1 : Int32) (h : jH), 0 ≤ l1.toInt ∧ l1.toInt ≤ 146399 → 0 ≤ l4.toInt ∧ l4.toInt ≤ 39 → 0 ≤ l5.toInt ∧ l5.toInt ≤ 39 → 0 ≤ s1.toInt ∧ s1.toInt ≤ 39 → l4.toInt - l5.toInt ≤ 0 → 40 - l5.toInt ≤ R38 → jJ jSgM Dy h → jSm fp_X12_seat_r125 h0 h → jX m_X12_seat 12 0 0 101 [(0, .ref 125), (1, .int l1), (3, .int l3), (4, .int l4), (5, .int l5)] [.int 0, .int s1, .ref 171] h 0 0 Q := by
  intro l1 l3 l4 l5 s1 h y0 y1 y2 y3 y4  m38 J Sm
  have el3 := jfull l3
  refine z_zast (N := 40) (l := 0) (u := 40) (w := 0) rfl hD J Sm rfl rfl rfl (by omega) jk_0 (by omega) (wr_171 (fun q1 q2 q3 q4 => by omega)) rfl (fun h w1 J Sm => ?_)
  refine x_aloadn (x := 125) rfl rfl ?_
  refine z_getR (N := 92) (b := 170) 12 85 rfl f_12_168 rfl J rfl 16085 ⟨rfl, rfl⟩ rfl ?_
  refine x_iload (x := l5) rfl rfl ?_
  refine x_aloadn (x := 125) rfl rfl ?_
  refine z_getL0 (N := 92) 12 64 rfl f_12_755 rfl J rfl (fun v2 => ?_)
  have ev2 := jfullL v2
  refine z_last (N := 40) (l := 0) (u := 40) rfl hD J Sm rfl rfl rfl (by omega) rfl (fun h w3 J Sm => ?_)
  refine x_iload (x := l4) rfl rfl ?_
  refine x_istore (lsx9 := [(6, .int l4), (0, .ref 125), (1, .int l1), (3, .int l3), (4, .int l4), (5, .int l5)]) rfl rfl rfl ?_
  exact jX.sub (jsb_c rfl (jsb_c rfl (jsb_c rfl (jsb_c rfl (jsb_c rfl (jsb_c rfl jsb_n)))))) (ct_X12_seat_r125_117 hD hQ k38 40 l1 l3 l4 l5 l4 h (by omega) (jr_of rfl (by omega)) (jr_of rfl (by omega)) (jr_of rfl (by omega)) (jr_of rfl (by omega)) (by omega) (by omega) (by omega) J Sm)
set_option maxRecDepth 100000 in
set_option maxHeartbeats 4000000 in
theorem ct_X12_seat_r125_300101 {Dy : jH → Prop} {h0 : jH} {Q : Option Value → jH → Prop} {R38 : Int} (hD : jDk Dy) (hQ : ∀ (v : Int32) hx9, (-1) ≤ v.toInt ∧ v.toInt ≤ 40 → jJ jSgM Dy hx9 → jSm fp_X12_seat_r125 h0 hx9 → Q (some (.int v)) hx9) (k38 : ∀ (l1 : Int32) (l3 : Int32) (l4 : Int32) (l5 : Int32) (h : jH), 40 - l5.toInt < R38 → 0 ≤ l1.toInt ∧ l1.toInt ≤ 146399 → 0 ≤ l4.toInt ∧ l4.toInt ≤ 40 → 0 ≤ l5.toInt ∧ l5.toInt ≤ 40 → l4.toInt - l5.toInt ≤ 0 → jJ jSgM Dy h → jSm fp_X12_seat_r125 h0 h → jX m_X12_seat 12 0 0 38 [(0, .ref 125), (1, .int l1), (3, .int l3), (4, .int l4), (5, .int l5)] [] h 0 0 Q) : ∀ (l1 : Int32) (l3 : Int32) (l4 : Int32) (l5 : Int32) (s1 : Int32) (h : jH), 0 ≤ l1.toInt ∧ l1.toInt ≤ 146399 → 0 ≤ l4.toInt ∧ l4.toInt ≤ 39 → 0 ≤ l5.toInt ∧ l5.toInt ≤ 39 → 0 ≤ s1.toInt ∧ s1.toInt ≤ 39 → l4.toInt - l5.toInt ≤ 0 → 40 - l5.toInt ≤ R38 → jJ jSgM Dy h → jSm fp_X12_seat_r125 h0 h → jX m_X12_seat 12 0 0 101 [(0, .ref 125), (1, .int l1), (3, .int l3), (4, .int l4), (5, .int l5)] [.int 1, .int s1, .ref 171] h 0 0 Q := by
  intro l1 l3 l4 l5 s1 h y0 y1 y2 y3 y4  m38 J Sm
  have el3 := jfull l3
  refine z_zast (N := 40) (l := 0) (u := 40) (w := 1) rfl hD J Sm rfl rfl rfl (by omega) jk_1 (by omega) (wr_171 (fun q1 q2 q3 q4 => by omega)) rfl (fun h w1 J Sm => ?_)
  refine x_aloadn (x := 125) rfl rfl ?_
  refine z_getR (N := 92) (b := 170) 12 85 rfl f_12_168 rfl J rfl 16085 ⟨rfl, rfl⟩ rfl ?_
  refine x_iload (x := l5) rfl rfl ?_
  refine x_aloadn (x := 125) rfl rfl ?_
  refine z_getL0 (N := 92) 12 64 rfl f_12_755 rfl J rfl (fun v2 => ?_)
  have ev2 := jfullL v2
  refine z_last (N := 40) (l := 0) (u := 40) rfl hD J Sm rfl rfl rfl (by omega) rfl (fun h w3 J Sm => ?_)
  refine x_iload (x := l4) rfl rfl ?_
  refine x_istore (lsx9 := [(6, .int l4), (0, .ref 125), (1, .int l1), (3, .int l3), (4, .int l4), (5, .int l5)]) rfl rfl rfl ?_
  exact jX.sub (jsb_c rfl (jsb_c rfl (jsb_c rfl (jsb_c rfl (jsb_c rfl (jsb_c rfl jsb_n)))))) (ct_X12_seat_r125_117 hD hQ k38 40 l1 l3 l4 l5 l4 h (by omega) (jr_of rfl (by omega)) (jr_of rfl (by omega)) (jr_of rfl (by omega)) (jr_of rfl (by omega)) (by omega) (by omega) (by omega) J Sm)
set_option maxRecDepth 100000 in
set_option maxHeartbeats 4000000 in
theorem ct_X12_seat_r125_38 {Dy : jH → Prop} {h0 : jH} {Q : Option Value → jH → Prop} (hD : jDk Dy) (hQ : ∀ (v : Int32) hx9, (-1) ≤ v.toInt ∧ v.toInt ≤ 40 → jJ jSgM Dy hx9 → jSm fp_X12_seat_r125 h0 hx9 → Q (some (.int v)) hx9) : ∀ r : Nat, ∀ (l1 : Int32) (l3 : Int32) (l4 : Int32) (l5 : Int32) (h : jH), 40 - l5.toInt < (r : Int) → 0 ≤ l1.toInt ∧ l1.toInt ≤ 146399 → 0 ≤ l4.toInt ∧ l4.toInt ≤ 40 → 0 ≤ l5.toInt ∧ l5.toInt ≤ 40 → l4.toInt - l5.toInt ≤ 0 → jJ jSgM Dy h → jSm fp_X12_seat_r125 h0 h → jX m_X12_seat 12 0 0 38 [(0, .ref 125), (1, .int l1), (3, .int l3), (4, .int l4), (5, .int l5)] [] h 0 0 Q := by
  intro r
  induction r with
  | zero =>
    intro l1 l3 l4 l5 h hm y0 y1 y2 y3   J Sm
    exfalso
    have el3 := jfull l3
    omega
  | succ r ih =>
    intro l1 l3 l4 l5 h hm y0 y1 y2 y3   J Sm
    have el3 := jfull l3
    refine x_iload (x := l5) rfl rfl ?_
    refine x_aloadn (x := 125) rfl rfl ?_
    refine z_getR (N := 92) (b := 126) 12 2 rfl f_12_8 rfl J rfl 16002 ⟨rfl, rfl⟩ rfl ?_
    refine x_bipush (v := 7) rfl kb_7 ?_
    refine z_iald (N := 50660) rfl J rfl sg_126_7_8_1_0_1 jk_7 (by omega) (fun v1 qv1 ev1 => ?_)
    refine x_icge (tgt := 180) rfl rfl (ti_ge rfl rfl ⟨fun c2 => ?_, fun c2 => ?_⟩)
    ·
      refine x_iloadn (x := l3) rfl rfl ?_
      refine x_iconst (v := (-1)) rfl ki_m1 ?_
      refine x_icne (tgt := 190) rfl rfl (ti_ne rfl jk_m1 ⟨fun c3 => ?_, fun c3 => ?_⟩)
      ·
        refine x_iloadn (x := l3) rfl rfl ?_
        refine z_i2l rfl rfl (fun v4 ev4 => ?_)
        refine x_lconst (v := 0) rfl kl_0 ?_
        refine x_iload (x := l4) rfl rfl ?_
        refine z_i2l rfl rfl (fun v5 ev5 => ?_)
        refine x_lconst (v := 1) rfl kl_1 ?_
        refine z_lsub rfl rfl jkl_1 (by omega) (fun v6 ev6 => ?_)
        refine x_inst (N := m_X12_in) (As := [.long v4, .long 0, .long v6]) (st := []) (dx9 := 1) (mc := 0) (ms := 0) (host := "") rfl t_X12_in ⟨Or.inl q_12_188, s_X12_in⟩ rfl (by decide) rfl rfl ⟨by decide, by decide⟩ (zc_X12_in rfl jkl_0 rfl (fun v7 ev7 => ?_))
        show jX m_X12_seat 12 0 0 201 [(0, .ref 125), (1, .int l1), (3, .int l3), (4, .int l4), (5, .int l5)] [.int v7] _ 0 0 _
        refine x_ifeq (tgt := 213) rfl rfl (ti_eq rfl jk_0 ⟨fun c8 => ?_, fun c8 => ?_⟩)
        ·
          refine x_iconst (v := (-1)) rfl ki_m1 ?_
          exact jX.sub jsb_n (ct_X12_seat_r125_100214 hD hQ  h J Sm)
        ·
          refine x_aloadn (x := 125) rfl rfl ?_
          refine z_getR (N := 92) (b := 172) 12 87 rfl f_12_174 rfl J rfl 16087 ⟨rfl, rfl⟩ rfl ?_
          refine x_iloadn (x := l3) rfl rfl ?_
          refine z_iald (N := 40) rfl J rfl sg_172_0_40_1_0_1 rfl (by omega) (fun v9 qv9 ev9 => ?_)
          refine x_goto (tgt := 214) rfl rfl ?_
          exact jX.sub jsb_n (ct_X12_seat_r125_214 hD hQ  v9 h (jr_of rfl (by omega)) J Sm)
      ·
        refine x_iload (x := l4) rfl rfl ?_
        refine x_goto (tgt := 214) rfl rfl ?_
        exact jX.sub jsb_n (ct_X12_seat_r125_214 hD hQ  l4 h (jr_of rfl (by omega)) J Sm)
    ·
      refine x_aloadn (x := 125) rfl rfl ?_
      refine z_getR (N := 92) (b := 163) 12 78 rfl f_12_147 rfl J rfl 16078 ⟨rfl, rfl⟩ rfl ?_
      refine x_bipush (v := 40) rfl kb_40 ?_
      refine x_iload (x := l5) rfl rfl ?_
      refine z_iadd rfl jk_40 rfl (by omega) (fun v10 ev10 => ?_)
      refine z_iald (N := 80) rfl J rfl sg_163_0_80_1_0_1 rfl (by omega) (fun v11 qv11 ev11 => ?_)
      refine x_iconst (v := (-1)) rfl ki_m1 ?_
      refine x_iceq (tgt := 174) rfl rfl (ti_eq rfl jk_m1 ⟨fun c12 => ?_, fun c12 => ?_⟩)
      ·
        exact jX.sub (jsb_c rfl (jsb_c rfl (jsb_c rfl (jsb_c rfl (jsb_c rfl jsb_n))))) (ct_X12_seat_r125_174 hD hQ ih l1 l3 l4 l5 h (jr_of rfl (by omega)) (jr_of rfl (by omega)) (jr_of rfl (by omega)) (by omega) (by omega) J Sm)
      ·
        refine x_aloadn (x := 125) rfl rfl ?_
        refine x_bipush (v := 8) rfl kb_8 ?_
        refine x_iconst (v := 0) rfl ki_0 ?_
        refine x_aloadn (x := 125) rfl rfl ?_
        refine z_getR (N := 92) (b := 163) 12 78 rfl f_12_147 rfl J rfl 16078 ⟨rfl, rfl⟩ rfl ?_
        refine x_bipush (v := 40) rfl kb_40 ?_
        refine x_iload (x := l5) rfl rfl ?_
        refine z_iadd rfl jk_40 rfl (by omega) (fun v13 ev13 => ?_)
        refine z_iald (N := 80) rfl J rfl sg_163_0_80_1_0_1 rfl (by omega) (fun v14 qv14 ev14 => ?_)
        refine x_iloadn (x := l1) rfl rfl ?_
        refine x_inv (N := m_X12_findCount) (As := [.int 8, .int 0, .int v14, .int l1]) (b := 125) (st := []) (dx9 := 11) (mc := 0) (ms := 0) (host := "") 12 rfl t_X12_findCount ⟨Or.inl q_12_765, i_X12_findCount.1, i_X12_findCount.2⟩ ⟨by decide, rfl⟩ (congrArg Prod.fst (J.1.1 125 (12, 92) rfl)) rfl (by decide) rfl rfl ⟨by decide, by decide⟩ (sf_X12_findCount_r125 (jr_of jk_8 (by omega)) (jr_of jk_0 (by omega)) (jr_of rfl (by omega)) (jr_of rfl (by omega)) hD J  (fun h J S15 => ?_))
        have Sm := jSm_tr rfl Sm S15
        show jX m_X12_seat 12 0 0 82 [(0, .ref 125), (1, .int l1), (3, .int l3), (4, .int l4), (5, .int l5)] [] _ 0 0 _
        refine x_aloadn (x := 125) rfl rfl ?_
        refine z_getR (N := 92) (b := 171) 12 86 rfl f_12_171 rfl J rfl 16086 ⟨rfl, rfl⟩ rfl ?_
        refine x_iload (x := l5) rfl rfl ?_
        refine x_aloadn (x := 125) rfl rfl ?_
        refine z_getI (N := 92) 12 65 rfl f_12_752 rfl J rfl sg_125_65_66_1_0_1 (fun v16 qv16 ev16 => ?_)
        refine x_iconst (v := (-1)) rfl ki_m1 ?_
        refine x_iceq (tgt := 100) rfl rfl (ti_eq rfl jk_m1 ⟨fun c17 => ?_, fun c17 => ?_⟩)
        ·
          refine x_iconst (v := 0) rfl ki_0 ?_
          exact jX.sub (jsb_c rfl (jsb_c rfl (jsb_c rfl (jsb_c rfl (jsb_c rfl jsb_n))))) (ct_X12_seat_r125_200101 hD hQ ih l1 l3 l4 l5 l5 h (jr_of rfl (by omega)) (jr_of rfl (by omega)) (jr_of rfl (by omega)) (jr_of rfl (by omega)) (by omega) (by omega) J Sm)
        ·
          refine x_iconst (v := 1) rfl ki_1 ?_
          refine x_goto (tgt := 101) rfl rfl ?_
          exact jX.sub (jsb_c rfl (jsb_c rfl (jsb_c rfl (jsb_c rfl (jsb_c rfl jsb_n))))) (ct_X12_seat_r125_300101 hD hQ ih l1 l3 l4 l5 l5 h (jr_of rfl (by omega)) (jr_of rfl (by omega)) (jr_of rfl (by omega)) (jr_of rfl (by omega)) (by omega) (by omega) J Sm)
set_option maxRecDepth 100000 in
set_option maxHeartbeats 4000000 in
theorem sf_X12_seat_r125 {Dy : jH → Prop} {h : jH} {Q : Option Value → jH → Prop} {a1 : Int32} {a2 : Int32} {a3 : Int32} (hD : jDk Dy) (J : jJ jSgM Dy h) (hQ : ∀ (v : Int32) hx9, (-1) ≤ v.toInt ∧ v.toInt ≤ 40 → jJ jSgM Dy hx9 → jSm fp_X12_seat_r125 h hx9 → Q (some (.int v)) hx9) : jC m_X12_seat 12 0 0 [.ref 125, .int a1, .int a2, .int a3] h Q := by
  refine jC.of rfl k_X12_seat rfl ?_
  have Sm := jSm_rf fp_X12_seat_r125 h
  have ea1 := jfull a1
  have ea2 := jfull a2
  have ea3 := jfull a3
  show jX m_X12_seat 12 0 0 0 [(0, .ref 125), (1, .int a1), (2, .int a2), (3, .int a3)] [] _ 0 0 _
  refine x_aloadn (x := 125) rfl rfl ?_
  refine x_iconst (v := 0) rfl ki_0 ?_
  refine z_putI (N := 92) (w := 0) 12 0 rfl f_12_180 rfl (jfin_no TX12 RX12 92 rfl rfl) hD J Sm rfl rfl jk_0 (pw_125_0 (by omega)) rfl (fun h w1 J Sm => ?_)
  refine x_iloadn (x := a1) rfl rfl ?_
  refine x_inst (N := m_X12_isDay) (As := [.int a1]) (st := []) (dx9 := 2) (mc := 0) (ms := 0) (host := "") rfl t_X12_isDay ⟨Or.inl q_12_273, s_X12_isDay⟩ rfl (by decide) rfl rfl ⟨by decide, by decide⟩ (zc_X12_isDay (d := 1) rfl (fun v2 ev2 => ?_))
  show jX m_X12_seat 12 0 0 9 [(0, .ref 125), (1, .int a1), (2, .int a2), (3, .int a3)] [.int v2] _ 0 0 _
  refine x_ifeq (tgt := 19) rfl rfl (ti_eq rfl jk_0 ⟨fun c3 => ?_, fun c3 => ?_⟩)
  ·
    exact jX.sub jsb_n (ct_X12_seat_r125_19 hD hQ  h J Sm)
  ·
    refine x_iloadn (x := a2) rfl rfl ?_
    refine x_inst (N := m_X12_isDay) (As := [.int a2]) (st := []) (dx9 := 2) (mc := 0) (ms := 0) (host := "") rfl t_X12_isDay ⟨Or.inl q_12_273, s_X12_isDay⟩ rfl (by decide) rfl rfl ⟨by decide, by decide⟩ (zc_X12_isDay (d := 1) rfl (fun v4 ev4 => ?_))
    show jX m_X12_seat 12 0 0 16 [(0, .ref 125), (1, .int a1), (2, .int a2), (3, .int a3)] [.int v4] _ 0 0 _
    refine x_ifne (tgt := 21) rfl rfl (ti_ne rfl jk_0 ⟨fun c5 => ?_, fun c5 => ?_⟩)
    ·
      refine x_aloadn (x := 125) rfl rfl ?_
      refine x_iloadn (x := a2) rfl rfl ?_
      refine x_inv (N := m_X12_find) (As := [.int a2]) (b := 125) (st := []) (dx9 := 8) (mc := 0) (ms := 0) (host := "") 12 rfl t_X12_find ⟨Or.inl q_12_393, i_X12_find.1, i_X12_find.2⟩ ⟨by decide, rfl⟩ (congrArg Prod.fst (J.1.1 125 (12, 92) rfl)) rfl (by decide) rfl rfl ⟨by decide, by decide⟩ (sf_X12_find_r125 (jr_of rfl (by omega)) hD J  (fun h J S6 => ?_))
      have Sm := jSm_tr rfl Sm S6
      show jX m_X12_seat 12 0 0 26 [(0, .ref 125), (1, .int a1), (2, .int a2), (3, .int a3)] [] _ 0 0 _
      refine x_aloadn (x := 125) rfl rfl ?_
      refine x_iloadn (x := a1) rfl rfl ?_
      refine x_iconst (v := 1) rfl ki_1 ?_
      refine x_inv (N := m_X12_findHouses) (As := [.int a1, .int 1]) (b := 125) (st := []) (dx9 := 2) (mc := 0) (ms := 0) (host := "") 12 rfl t_X12_findHouses ⟨Or.inl q_12_694, i_X12_findHouses.1, i_X12_findHouses.2⟩ ⟨by decide, rfl⟩ (congrArg Prod.fst (J.1.1 125 (12, 92) rfl)) rfl (by decide) rfl rfl ⟨by decide, by decide⟩ (sf_X12_findHouses_r125_c1 (jr_of rfl (by omega)) hD J  (fun h J S7 => ?_))
      have Sm := jSm_tr rfl Sm S7
      show jX m_X12_seat 12 0 0 32 [(0, .ref 125), (1, .int a1), (2, .int a2), (3, .int a3)] [] _ 0 0 _
      refine x_iconst (v := 0) rfl ki_0 ?_
      refine x_istore (lsx9 := [(4, .int 0), (0, .ref 125), (1, .int a1), (2, .int a2), (3, .int a3)]) rfl rfl rfl ?_
      refine x_iconst (v := 0) rfl ki_0 ?_
      refine x_istore (lsx9 := [(5, .int 0), (4, .int 0), (0, .ref 125), (1, .int a1), (2, .int a2), (3, .int a3)]) rfl rfl rfl ?_
      exact jX.sub (jsb_c rfl (jsb_c rfl (jsb_c rfl (jsb_c rfl (jsb_c rfl jsb_n))))) (ct_X12_seat_r125_38 hD hQ  41 a1 a3 0 0 h (by have := jk_0; omega) (jr_of rfl (by omega)) (jr_of jk_0 (by omega)) (jr_of jk_0 (by omega)) (by have := jk_0; have := jk_0; omega) J Sm)
    ·
      exact jX.sub jsb_n (ct_X12_seat_r125_19 hD hQ  h J Sm)
def fp_X12_soul_r125 : jFp := [(125, 0, 1), (125, 28, 29), (125, 31, 32), (125, 57, 58), (137, 0, 80), (138, 0, 2), (139, 0, 600), (140, 0, 200)]
set_option maxRecDepth 100000 in
set_option maxHeartbeats 4000000 in
theorem ct_X12_soul_r125_20 {Dy : jH → Prop} {h0 : jH} {Q : Option Value → jH → Prop} (hD : jDk Dy) (hQ : ∀ (v : Int32) hx9, (-1) ≤ v.toInt ∧ v.toInt ≤ 599 → jJ jSgM Dy hx9 → jSm fp_X12_soul_r125 h0 hx9 → Q (some (.int v)) hx9) : ∀ (h : jH), jJ jSgM Dy h → jSm fp_X12_soul_r125 h0 h → jX m_X12_soul 9 0 0 20 [] [] h 0 0 Q := by
  intro  h    J Sm
  refine x_iconst (v := (-1)) rfl ki_m1 ?_
  refine x_iret rfl rfl ?_
  exact hQ _ _ (jr_of jk_m1 (by omega)) J Sm
set_option maxRecDepth 100000 in
set_option maxHeartbeats 4000000 in
theorem sf_X12_soul_r125 {Dy : jH → Prop} {h : jH} {Q : Option Value → jH → Prop} {a1 : Int32} {a2 : Int32} (hD : jDk Dy) (J : jJ jSgM Dy h) (hQ : ∀ (v : Int32) hx9, (-1) ≤ v.toInt ∧ v.toInt ≤ 599 → jJ jSgM Dy hx9 → jSm fp_X12_soul_r125 h hx9 → Q (some (.int v)) hx9) : jC m_X12_soul 9 0 0 [.ref 125, .int a1, .int a2] h Q := by
  refine jC.of rfl k_X12_soul rfl ?_
  have Sm := jSm_rf fp_X12_soul_r125 h
  have ea1 := jfull a1
  have ea2 := jfull a2
  show jX m_X12_soul 9 0 0 0 [(0, .ref 125), (1, .int a1), (2, .int a2)] [] _ 0 0 _
  refine x_aloadn (x := 125) rfl rfl ?_
  refine x_iconst (v := 0) rfl ki_0 ?_
  refine z_putI (N := 92) (w := 0) 12 0 rfl f_12_180 rfl (jfin_no TX12 RX12 92 rfl rfl) hD J Sm rfl rfl jk_0 (pw_125_0 (by omega)) rfl (fun h w1 J Sm => ?_)
  refine x_aloadn (x := 125) rfl rfl ?_
  refine x_iloadn (x := a1) rfl rfl ?_
  refine x_inv (N := m_X12_isMention) (As := [.int a1]) (b := 125) (st := []) (dx9 := 8) (mc := 0) (ms := 0) (host := "") 12 rfl t_X12_isMention ⟨Or.inl q_12_322, i_X12_isMention.1, i_X12_isMention.2⟩ ⟨by decide, rfl⟩ (congrArg Prod.fst (J.1.1 125 (12, 92) rfl)) rfl (by decide) rfl rfl ⟨by decide, by decide⟩ (jC.of rfl k_X12_isMention rfl ?_)
  show jX m_X12_isMention 8 0 0 0 [(0, .ref 125), (1, .int a1)] [] _ 0 0 _
  refine x_iloadn (x := a1) rfl rfl ?_
  refine x_iflt (tgt := 34) rfl rfl (ti_lt rfl jk_0 ⟨fun c2 => ?_, fun c2 => ?_⟩)
  ·
    refine x_iconst (v := 0) rfl ki_0 ?_
    refine x_zret rfl rfl (by decide) ?_
    show jX m_X12_soul 9 0 0 10 [(0, .ref 125), (1, .int a1), (2, .int a2)] [.int 0] _ 0 0 _
    refine x_ifeq (tgt := 20) rfl rfl (ti_eq jk_0 jk_0 (br_t (by omega) ?_))
    exact jX.sub jsb_n (ct_X12_soul_r125_20 hD hQ  h J Sm)
  ·
    refine x_aloadn (x := 125) rfl rfl ?_
    refine x_iloadn (x := a1) rfl rfl ?_
    refine x_iconst (v := 3) rfl ki_3 ?_
    refine z_idiv rfl rfl jk_3 (by omega) (by omega) (fun v3 ev3 => ?_)
    refine x_inv (N := m_X12_isLine) (As := [.int v3]) (b := 125) (st := []) (dx9 := 7) (mc := 0) (ms := 0) (host := "") 12 rfl t_X12_isLine ⟨Or.inl q_12_293, i_X12_isLine.1, i_X12_isLine.2⟩ ⟨by decide, rfl⟩ (congrArg Prod.fst (J.1.1 125 (12, 92) rfl)) rfl (by decide) rfl rfl ⟨by decide, by decide⟩ (jC.of rfl k_X12_isLine rfl ?_)
    show jX m_X12_isLine 7 0 0 0 [(0, .ref 125), (1, .int v3)] [] _ 0 0 _
    refine x_iloadn (x := v3) rfl rfl ?_
    refine z_i2l rfl rfl (fun v4 ev4 => ?_)
    refine x_lconst (v := 0) rfl kl_0 ?_
    refine x_aloadn (x := 125) rfl rfl ?_
    refine z_getR (N := 92) (b := 126) 12 2 rfl f_12_8 rfl J rfl 16002 ⟨rfl, rfl⟩ rfl ?_
    refine x_iconst (v := 0) rfl ki_0 ?_
    refine z_iald (N := 50660) rfl J rfl sg_126_0_1_1_0_1 jk_0 (by omega) (fun v5 qv5 ev5 => ?_)
    refine z_i2l rfl rfl (fun v6 ev6 => ?_)
    refine x_lconst (v := 1) rfl kl_1 ?_
    refine z_lsub rfl rfl jkl_1 (by omega) (fun v7 ev7 => ?_)
    refine x_inst (N := m_X12_in) (As := [.long v4, .long 0, .long v7]) (st := []) (dx9 := 1) (mc := 0) (ms := 0) (host := "") rfl t_X12_in ⟨Or.inl q_12_188, s_X12_in⟩ rfl (by decide) rfl rfl ⟨by decide, by decide⟩ (zc_X12_in rfl jkl_0 rfl (fun v8 ev8 => ?_))
    show jX m_X12_isLine 7 0 0 15 [(0, .ref 125), (1, .int v3)] [.int v8] _ 0 0 _
    refine x_zret rfl rfl (jz01 (by omega)) ?_
    show jX m_X12_isMention 8 0 0 11 [(0, .ref 125), (1, .int a1)] [.int v8] _ 0 0 _
    refine x_ifeq (tgt := 34) rfl rfl (ti_eq rfl jk_0 ⟨fun c9 => ?_, fun c9 => ?_⟩)
    ·
      refine x_iconst (v := 0) rfl ki_0 ?_
      refine x_zret rfl rfl (by decide) ?_
      show jX m_X12_soul 9 0 0 10 [(0, .ref 125), (1, .int a1), (2, .int a2)] [.int 0] _ 0 0 _
      refine x_ifeq (tgt := 20) rfl rfl (ti_eq jk_0 jk_0 (br_t (by omega) ?_))
      exact jX.sub jsb_n (ct_X12_soul_r125_20 hD hQ  h J Sm)
    ·
      refine x_iloadn (x := a1) rfl rfl ?_
      refine x_iconst (v := 3) rfl ki_3 ?_
      refine z_irem rfl rfl jk_3 (by omega) (by omega) (fun v10 ev10 => ?_)
      refine x_aloadn (x := 125) rfl rfl ?_
      refine x_iloadn (x := a1) rfl rfl ?_
      refine x_iconst (v := 3) rfl ki_3 ?_
      refine z_idiv rfl rfl jk_3 (by omega) (by omega) (fun v11 ev11 => ?_)
      refine x_inv (N := m_X12_bookOf) (As := [.int v11]) (b := 125) (st := [.int v10]) (dx9 := 7) (mc := 0) (ms := 0) (host := "") 12 rfl t_X12_bookOf ⟨Or.inl q_12_299, i_X12_bookOf.1, i_X12_bookOf.2⟩ ⟨by decide, rfl⟩ (congrArg Prod.fst (J.1.1 125 (12, 92) rfl)) rfl (by decide) rfl rfl ⟨by decide, by decide⟩ (jC.of rfl k_X12_bookOf rfl ?_)
      show jX m_X12_bookOf 7 0 0 0 [(0, .ref 125), (1, .int v11)] [] _ 0 0 _
      refine x_aloadn (x := 125) rfl rfl ?_
      refine z_getR (N := 92) (b := 126) 12 2 rfl f_12_8 rfl J rfl 16002 ⟨rfl, rfl⟩ rfl ?_
      refine x_aloadn (x := 125) rfl rfl ?_
      refine x_iloadn (x := v11) rfl rfl ?_
      refine x_inv (N := m_X12_at) (As := [.int v11]) (b := 125) (st := [.ref 126]) (dx9 := 6) (mc := 0) (ms := 0) (host := "") 12 rfl t_X12_at ⟨Or.inl q_12_254, i_X12_at.1, i_X12_at.2⟩ ⟨by decide, rfl⟩ (congrArg Prod.fst (J.1.1 125 (12, 92) rfl)) rfl (by decide) rfl rfl ⟨by decide, by decide⟩ (jC.of rfl k_X12_at rfl ?_)
      show jX m_X12_at 6 0 0 0 [(0, .ref 125), (1, .int v11)] [] _ 0 0 _
      refine x_bipush (v := 20) rfl kb_20 ?_
      refine x_bipush (v := 90) rfl kb_90 ?_
      refine x_iloadn (x := v11) rfl rfl ?_
      refine z_imul rfl jk_90 rfl (by omega) (fun v12 ev12 => ?_)
      refine z_iadd rfl jk_20 rfl (by omega) (fun v13 ev13 => ?_)
      refine x_iret rfl rfl ?_
      show jX m_X12_bookOf 7 0 0 9 [(0, .ref 125), (1, .int v11)] [.int v13, .ref 126] _ 0 0 _
      refine z_iald (N := 50660) rfl J rfl sg_126_20_18020_90_0_1 rfl (by omega) (fun v14 qv14 ev14 => ?_)
      refine x_iret rfl rfl ?_
      show jX m_X12_isMention 8 0 0 24 [(0, .ref 125), (1, .int a1)] [.int v14, .int v10] _ 0 0 _
      refine x_inst (N := m_X12_rolesOf) (As := [.int v14]) (st := [.int v10]) (dx9 := 7) (mc := 0) (ms := 0) (host := "") rfl t_X12_rolesOf ⟨Or.inl q_12_286, s_X12_rolesOf⟩ rfl (by decide) rfl rfl ⟨by decide, by decide⟩ (jC.of rfl k_X12_rolesOf rfl ?_)
      show jX m_X12_rolesOf 7 0 0 0 [(0, .int v14)] [] _ 0 0 _
      refine x_iloadn (x := v14) rfl rfl ?_
      refine x_ifne (tgt := 8) rfl rfl (ti_ne rfl jk_0 ⟨fun c15 => ?_, fun c15 => ?_⟩)
      ·
        refine x_iloadn (x := v14) rfl rfl ?_
        refine x_iconst (v := 1) rfl ki_1 ?_
        refine x_icne (tgt := 17) rfl rfl (ti_ne rfl jk_1 ⟨fun c16 => ?_, fun c16 => ?_⟩)
        ·
          refine x_iconst (v := 1) rfl ki_1 ?_
          refine x_iret rfl rfl ?_
          show jX m_X12_isMention 8 0 0 27 [(0, .ref 125), (1, .int a1)] [.int 1, .int v10] _ 0 0 _
          refine x_icge (tgt := 34) rfl rfl (ti_ge rfl jk_1 ⟨fun c17 => ?_, fun c17 => ?_⟩)
          ·
            refine x_iconst (v := 0) rfl ki_0 ?_
            refine x_zret rfl rfl (by decide) ?_
            show jX m_X12_soul 9 0 0 10 [(0, .ref 125), (1, .int a1), (2, .int a2)] [.int 0] _ 0 0 _
            refine x_ifeq (tgt := 20) rfl rfl (ti_eq jk_0 jk_0 (br_t (by omega) ?_))
            exact jX.sub jsb_n (ct_X12_soul_r125_20 hD hQ  h J Sm)
          ·
            refine x_iconst (v := 1) rfl ki_1 ?_
            refine x_goto (tgt := 35) rfl rfl ?_
            refine x_zret rfl rfl (by decide) ?_
            show jX m_X12_soul 9 0 0 10 [(0, .ref 125), (1, .int a1), (2, .int a2)] [.int 1] _ 0 0 _
            refine x_ifeq (tgt := 20) rfl rfl (ti_eq jk_1 jk_0 (br_f (by omega) ?_))
            refine x_iloadn (x := a2) rfl rfl ?_
            refine x_inst (N := m_X12_isDay) (As := [.int a2]) (st := []) (dx9 := 2) (mc := 0) (ms := 0) (host := "") rfl t_X12_isDay ⟨Or.inl q_12_273, s_X12_isDay⟩ rfl (by decide) rfl rfl ⟨by decide, by decide⟩ (zc_X12_isDay (d := 1) rfl (fun v18 ev18 => ?_))
            show jX m_X12_soul 9 0 0 17 [(0, .ref 125), (1, .int a1), (2, .int a2)] [.int v18] _ 0 0 _
            refine x_ifne (tgt := 22) rfl rfl (ti_ne rfl jk_0 ⟨fun c19 => ?_, fun c19 => ?_⟩)
            ·
              refine x_aloadn (x := 125) rfl rfl ?_
              refine x_iloadn (x := a2) rfl rfl ?_
              refine x_inv (N := m_X12_find) (As := [.int a2]) (b := 125) (st := []) (dx9 := 8) (mc := 0) (ms := 0) (host := "") 12 rfl t_X12_find ⟨Or.inl q_12_393, i_X12_find.1, i_X12_find.2⟩ ⟨by decide, rfl⟩ (congrArg Prod.fst (J.1.1 125 (12, 92) rfl)) rfl (by decide) rfl rfl ⟨by decide, by decide⟩ (sf_X12_find_r125 (jr_of rfl (by omega)) hD J  (fun h J S20 => ?_))
              have Sm := jSm_tr rfl Sm S20
              show jX m_X12_soul 9 0 0 27 [(0, .ref 125), (1, .int a1), (2, .int a2)] [] _ 0 0 _
              refine x_aloadn (x := 125) rfl rfl ?_
              refine z_getR (N := 92) (b := 139) 12 29 rfl f_12_72 rfl J rfl 16029 ⟨rfl, rfl⟩ rfl ?_
              refine x_iloadn (x := a1) rfl rfl ?_
              refine z_iald (N := 600) rfl J rfl sg_139_0_600_1_0_1 rfl (by omega) (fun v21 qv21 ev21 => ?_)
              refine x_iret rfl rfl ?_
              exact hQ _ _ (jr_of rfl (by omega)) J Sm
            ·
              exact jX.sub jsb_n (ct_X12_soul_r125_20 hD hQ  h J Sm)
        ·
          refine x_iconst (v := 2) rfl ki_2 ?_
          refine x_goto (tgt := 18) rfl rfl ?_
          refine x_iret rfl rfl ?_
          show jX m_X12_isMention 8 0 0 27 [(0, .ref 125), (1, .int a1)] [.int 2, .int v10] _ 0 0 _
          refine x_icge (tgt := 34) rfl rfl (ti_ge rfl jk_2 ⟨fun c22 => ?_, fun c22 => ?_⟩)
          ·
            refine x_iconst (v := 0) rfl ki_0 ?_
            refine x_zret rfl rfl (by decide) ?_
            show jX m_X12_soul 9 0 0 10 [(0, .ref 125), (1, .int a1), (2, .int a2)] [.int 0] _ 0 0 _
            refine x_ifeq (tgt := 20) rfl rfl (ti_eq jk_0 jk_0 (br_t (by omega) ?_))
            exact jX.sub jsb_n (ct_X12_soul_r125_20 hD hQ  h J Sm)
          ·
            refine x_iconst (v := 1) rfl ki_1 ?_
            refine x_goto (tgt := 35) rfl rfl ?_
            refine x_zret rfl rfl (by decide) ?_
            show jX m_X12_soul 9 0 0 10 [(0, .ref 125), (1, .int a1), (2, .int a2)] [.int 1] _ 0 0 _
            refine x_ifeq (tgt := 20) rfl rfl (ti_eq jk_1 jk_0 (br_f (by omega) ?_))
            refine x_iloadn (x := a2) rfl rfl ?_
            refine x_inst (N := m_X12_isDay) (As := [.int a2]) (st := []) (dx9 := 2) (mc := 0) (ms := 0) (host := "") rfl t_X12_isDay ⟨Or.inl q_12_273, s_X12_isDay⟩ rfl (by decide) rfl rfl ⟨by decide, by decide⟩ (zc_X12_isDay (d := 1) rfl (fun v23 ev23 => ?_))
            show jX m_X12_soul 9 0 0 17 [(0, .ref 125), (1, .int a1), (2, .int a2)] [.int v23] _ 0 0 _
            refine x_ifne (tgt := 22) rfl rfl (ti_ne rfl jk_0 ⟨fun c24 => ?_, fun c24 => ?_⟩)
            ·
              refine x_aloadn (x := 125) rfl rfl ?_
              refine x_iloadn (x := a2) rfl rfl ?_
              refine x_inv (N := m_X12_find) (As := [.int a2]) (b := 125) (st := []) (dx9 := 8) (mc := 0) (ms := 0) (host := "") 12 rfl t_X12_find ⟨Or.inl q_12_393, i_X12_find.1, i_X12_find.2⟩ ⟨by decide, rfl⟩ (congrArg Prod.fst (J.1.1 125 (12, 92) rfl)) rfl (by decide) rfl rfl ⟨by decide, by decide⟩ (sf_X12_find_r125 (jr_of rfl (by omega)) hD J  (fun h J S25 => ?_))
              have Sm := jSm_tr rfl Sm S25
              show jX m_X12_soul 9 0 0 27 [(0, .ref 125), (1, .int a1), (2, .int a2)] [] _ 0 0 _
              refine x_aloadn (x := 125) rfl rfl ?_
              refine z_getR (N := 92) (b := 139) 12 29 rfl f_12_72 rfl J rfl 16029 ⟨rfl, rfl⟩ rfl ?_
              refine x_iloadn (x := a1) rfl rfl ?_
              refine z_iald (N := 600) rfl J rfl sg_139_0_600_1_0_1 rfl (by omega) (fun v26 qv26 ev26 => ?_)
              refine x_iret rfl rfl ?_
              exact hQ _ _ (jr_of rfl (by omega)) J Sm
            ·
              exact jX.sub jsb_n (ct_X12_soul_r125_20 hD hQ  h J Sm)
      ·
        refine x_iconst (v := 3) rfl ki_3 ?_
        refine x_goto (tgt := 18) rfl rfl ?_
        refine x_iret rfl rfl ?_
        show jX m_X12_isMention 8 0 0 27 [(0, .ref 125), (1, .int a1)] [.int 3, .int v10] _ 0 0 _
        refine x_icge (tgt := 34) rfl rfl (ti_ge rfl jk_3 (br_f (by omega) ?_))
        refine x_iconst (v := 1) rfl ki_1 ?_
        refine x_goto (tgt := 35) rfl rfl ?_
        refine x_zret rfl rfl (by decide) ?_
        show jX m_X12_soul 9 0 0 10 [(0, .ref 125), (1, .int a1), (2, .int a2)] [.int 1] _ 0 0 _
        refine x_ifeq (tgt := 20) rfl rfl (ti_eq jk_1 jk_0 (br_f (by omega) ?_))
        refine x_iloadn (x := a2) rfl rfl ?_
        refine x_inst (N := m_X12_isDay) (As := [.int a2]) (st := []) (dx9 := 2) (mc := 0) (ms := 0) (host := "") rfl t_X12_isDay ⟨Or.inl q_12_273, s_X12_isDay⟩ rfl (by decide) rfl rfl ⟨by decide, by decide⟩ (zc_X12_isDay (d := 1) rfl (fun v27 ev27 => ?_))
        show jX m_X12_soul 9 0 0 17 [(0, .ref 125), (1, .int a1), (2, .int a2)] [.int v27] _ 0 0 _
        refine x_ifne (tgt := 22) rfl rfl (ti_ne rfl jk_0 ⟨fun c28 => ?_, fun c28 => ?_⟩)
        ·
          refine x_aloadn (x := 125) rfl rfl ?_
          refine x_iloadn (x := a2) rfl rfl ?_
          refine x_inv (N := m_X12_find) (As := [.int a2]) (b := 125) (st := []) (dx9 := 8) (mc := 0) (ms := 0) (host := "") 12 rfl t_X12_find ⟨Or.inl q_12_393, i_X12_find.1, i_X12_find.2⟩ ⟨by decide, rfl⟩ (congrArg Prod.fst (J.1.1 125 (12, 92) rfl)) rfl (by decide) rfl rfl ⟨by decide, by decide⟩ (sf_X12_find_r125 (jr_of rfl (by omega)) hD J  (fun h J S29 => ?_))
          have Sm := jSm_tr rfl Sm S29
          show jX m_X12_soul 9 0 0 27 [(0, .ref 125), (1, .int a1), (2, .int a2)] [] _ 0 0 _
          refine x_aloadn (x := 125) rfl rfl ?_
          refine z_getR (N := 92) (b := 139) 12 29 rfl f_12_72 rfl J rfl 16029 ⟨rfl, rfl⟩ rfl ?_
          refine x_iloadn (x := a1) rfl rfl ?_
          refine z_iald (N := 600) rfl J rfl sg_139_0_600_1_0_1 rfl (by omega) (fun v30 qv30 ev30 => ?_)
          refine x_iret rfl rfl ?_
          exact hQ _ _ (jr_of rfl (by omega)) J Sm
        ·
          exact jX.sub jsb_n (ct_X12_soul_r125_20 hD hQ  h J Sm)
def fp_X12_span_r125 : jFp := [(125, 0, 1), (125, 28, 29), (125, 31, 32), (125, 32, 33), (125, 33, 34), (125, 34, 35), (125, 35, 36), (125, 57, 58), (137, 0, 80), (138, 0, 2), (139, 0, 600), (140, 0, 200)]
set_option maxRecDepth 100000 in
set_option maxHeartbeats 4000000 in
theorem ct_X12_span_r125_31 {Dy : jH → Prop} {h0 : jH} {Q : Option Value → jH → Prop} (hD : jDk Dy) (hQ : ∀ (v : Int32) hx9, jJ jSgM Dy hx9 → jSm fp_X12_span_r125 h0 hx9 → Q (some (.int v)) hx9) : ∀ (h : jH), jJ jSgM Dy h → jSm fp_X12_span_r125 h0 h → jX m_X12_span 10 0 0 31 [] [] h 0 0 Q := by
  intro  h    J Sm
  refine x_iconst (v := (-1)) rfl ki_m1 ?_
  refine x_iret rfl rfl ?_
  exact hQ _ _ J Sm
set_option maxRecDepth 100000 in
set_option maxHeartbeats 4000000 in
theorem ct_X12_span_r125_78 {Dy : jH → Prop} {h0 : jH} {Q : Option Value → jH → Prop} (hD : jDk Dy) (hQ : ∀ (v : Int32) hx9, jJ jSgM Dy hx9 → jSm fp_X12_span_r125 h0 hx9 → Q (some (.int v)) hx9) : ∀ (s0 : Int32) (h : jH), jJ jSgM Dy h → jSm fp_X12_span_r125 h0 h → jX m_X12_span 10 0 0 78 [] [.int s0] h 0 0 Q := by
  intro s0 h    J Sm
  have es0 := jfull s0
  refine x_iret rfl rfl ?_
  exact hQ _ _ J Sm
set_option maxRecDepth 100000 in
set_option maxHeartbeats 4000000 in
theorem sf_X12_span_r125 {Dy : jH → Prop} {h : jH} {Q : Option Value → jH → Prop} {a1 : Int32} {a2 : Int32} {a3 : Int32} (hD : jDk Dy) (J : jJ jSgM Dy h) (hQ : ∀ (v : Int32) hx9, jJ jSgM Dy hx9 → jSm fp_X12_span_r125 h hx9 → Q (some (.int v)) hx9) : jC m_X12_span 10 0 0 [.ref 125, .int a1, .int a2, .int a3] h Q := by
  refine jC.of rfl k_X12_span rfl ?_
  have Sm := jSm_rf fp_X12_span_r125 h
  have ea1 := jfull a1
  have ea2 := jfull a2
  have ea3 := jfull a3
  show jX m_X12_span 10 0 0 0 [(0, .ref 125), (1, .int a1), (2, .int a2), (3, .int a3)] [] _ 0 0 _
  refine x_aloadn (x := 125) rfl rfl ?_
  refine x_iconst (v := 0) rfl ki_0 ?_
  refine z_putI (N := 92) (w := 0) 12 0 rfl f_12_180 rfl (jfin_no TX12 RX12 92 rfl rfl) hD J Sm rfl rfl jk_0 (pw_125_0 (by omega)) rfl (fun h w1 J Sm => ?_)
  refine x_aloadn (x := 125) rfl rfl ?_
  refine x_iloadn (x := a1) rfl rfl ?_
  refine x_iloadn (x := a2) rfl rfl ?_
  refine x_inv (N := m_X12_soulAt) (As := [.int a1, .int a2]) (b := 125) (st := []) (dx9 := 9) (mc := 0) (ms := 0) (host := "") 12 rfl t_X12_soulAt ⟨Or.inl q_12_399, i_X12_soulAt.1, i_X12_soulAt.2⟩ ⟨by decide, rfl⟩ (congrArg Prod.fst (J.1.1 125 (12, 92) rfl)) rfl (by decide) rfl rfl ⟨by decide, by decide⟩ (jC.of rfl k_X12_soulAt rfl ?_)
  show jX m_X12_soulAt 9 0 0 0 [(0, .ref 125), (1, .int a1), (2, .int a2)] [] _ 0 0 _
  refine x_aloadn (x := 125) rfl rfl ?_
  refine x_iloadn (x := a1) rfl rfl ?_
  refine x_inv (N := m_X12_isMention) (As := [.int a1]) (b := 125) (st := []) (dx9 := 8) (mc := 0) (ms := 0) (host := "") 12 rfl t_X12_isMention ⟨Or.inl q_12_322, i_X12_isMention.1, i_X12_isMention.2⟩ ⟨by decide, rfl⟩ (congrArg Prod.fst (J.1.1 125 (12, 92) rfl)) rfl (by decide) rfl rfl ⟨by decide, by decide⟩ (jC.of rfl k_X12_isMention rfl ?_)
  show jX m_X12_isMention 8 0 0 0 [(0, .ref 125), (1, .int a1)] [] _ 0 0 _
  refine x_iloadn (x := a1) rfl rfl ?_
  refine x_iflt (tgt := 34) rfl rfl (ti_lt rfl jk_0 ⟨fun c2 => ?_, fun c2 => ?_⟩)
  ·
    refine x_iconst (v := 0) rfl ki_0 ?_
    refine x_zret rfl rfl (by decide) ?_
    show jX m_X12_soulAt 9 0 0 5 [(0, .ref 125), (1, .int a1), (2, .int a2)] [.int 0] _ 0 0 _
    refine x_ifeq (tgt := 15) rfl rfl (ti_eq jk_0 jk_0 (br_t (by omega) ?_))
    refine x_iconst (v := (-1)) rfl ki_m1 ?_
    refine x_iret rfl rfl ?_
    show jX m_X12_span 10 0 0 11 [(0, .ref 125), (1, .int a1), (2, .int a2), (3, .int a3)] [.int (-1)] _ 0 0 _
    refine x_istore (lsx9 := [(4, .int (-1)), (0, .ref 125), (1, .int a1), (2, .int a2), (3, .int a3)]) rfl rfl rfl ?_
    refine x_iload (x := (-1)) rfl rfl ?_
    refine x_iconst (v := (-1)) rfl ki_m1 ?_
    refine x_iceq (tgt := 31) rfl rfl (ti_eq jk_m1 jk_m1 (br_t (by omega) ?_))
    exact jX.sub jsb_n (ct_X12_span_r125_31 hD hQ  h J Sm)
  ·
    refine x_aloadn (x := 125) rfl rfl ?_
    refine x_iloadn (x := a1) rfl rfl ?_
    refine x_iconst (v := 3) rfl ki_3 ?_
    refine z_idiv rfl rfl jk_3 (by omega) (by omega) (fun v3 ev3 => ?_)
    refine x_inv (N := m_X12_isLine) (As := [.int v3]) (b := 125) (st := []) (dx9 := 7) (mc := 0) (ms := 0) (host := "") 12 rfl t_X12_isLine ⟨Or.inl q_12_293, i_X12_isLine.1, i_X12_isLine.2⟩ ⟨by decide, rfl⟩ (congrArg Prod.fst (J.1.1 125 (12, 92) rfl)) rfl (by decide) rfl rfl ⟨by decide, by decide⟩ (jC.of rfl k_X12_isLine rfl ?_)
    show jX m_X12_isLine 7 0 0 0 [(0, .ref 125), (1, .int v3)] [] _ 0 0 _
    refine x_iloadn (x := v3) rfl rfl ?_
    refine z_i2l rfl rfl (fun v4 ev4 => ?_)
    refine x_lconst (v := 0) rfl kl_0 ?_
    refine x_aloadn (x := 125) rfl rfl ?_
    refine z_getR (N := 92) (b := 126) 12 2 rfl f_12_8 rfl J rfl 16002 ⟨rfl, rfl⟩ rfl ?_
    refine x_iconst (v := 0) rfl ki_0 ?_
    refine z_iald (N := 50660) rfl J rfl sg_126_0_1_1_0_1 jk_0 (by omega) (fun v5 qv5 ev5 => ?_)
    refine z_i2l rfl rfl (fun v6 ev6 => ?_)
    refine x_lconst (v := 1) rfl kl_1 ?_
    refine z_lsub rfl rfl jkl_1 (by omega) (fun v7 ev7 => ?_)
    refine x_inst (N := m_X12_in) (As := [.long v4, .long 0, .long v7]) (st := []) (dx9 := 1) (mc := 0) (ms := 0) (host := "") rfl t_X12_in ⟨Or.inl q_12_188, s_X12_in⟩ rfl (by decide) rfl rfl ⟨by decide, by decide⟩ (zc_X12_in rfl jkl_0 rfl (fun v8 ev8 => ?_))
    show jX m_X12_isLine 7 0 0 15 [(0, .ref 125), (1, .int v3)] [.int v8] _ 0 0 _
    refine x_zret rfl rfl (jz01 (by omega)) ?_
    show jX m_X12_isMention 8 0 0 11 [(0, .ref 125), (1, .int a1)] [.int v8] _ 0 0 _
    refine x_ifeq (tgt := 34) rfl rfl (ti_eq rfl jk_0 ⟨fun c9 => ?_, fun c9 => ?_⟩)
    ·
      refine x_iconst (v := 0) rfl ki_0 ?_
      refine x_zret rfl rfl (by decide) ?_
      show jX m_X12_soulAt 9 0 0 5 [(0, .ref 125), (1, .int a1), (2, .int a2)] [.int 0] _ 0 0 _
      refine x_ifeq (tgt := 15) rfl rfl (ti_eq jk_0 jk_0 (br_t (by omega) ?_))
      refine x_iconst (v := (-1)) rfl ki_m1 ?_
      refine x_iret rfl rfl ?_
      show jX m_X12_span 10 0 0 11 [(0, .ref 125), (1, .int a1), (2, .int a2), (3, .int a3)] [.int (-1)] _ 0 0 _
      refine x_istore (lsx9 := [(4, .int (-1)), (0, .ref 125), (1, .int a1), (2, .int a2), (3, .int a3)]) rfl rfl rfl ?_
      refine x_iload (x := (-1)) rfl rfl ?_
      refine x_iconst (v := (-1)) rfl ki_m1 ?_
      refine x_iceq (tgt := 31) rfl rfl (ti_eq jk_m1 jk_m1 (br_t (by omega) ?_))
      exact jX.sub jsb_n (ct_X12_span_r125_31 hD hQ  h J Sm)
    ·
      refine x_iloadn (x := a1) rfl rfl ?_
      refine x_iconst (v := 3) rfl ki_3 ?_
      refine z_irem rfl rfl jk_3 (by omega) (by omega) (fun v10 ev10 => ?_)
      refine x_aloadn (x := 125) rfl rfl ?_
      refine x_iloadn (x := a1) rfl rfl ?_
      refine x_iconst (v := 3) rfl ki_3 ?_
      refine z_idiv rfl rfl jk_3 (by omega) (by omega) (fun v11 ev11 => ?_)
      refine x_inv (N := m_X12_bookOf) (As := [.int v11]) (b := 125) (st := [.int v10]) (dx9 := 7) (mc := 0) (ms := 0) (host := "") 12 rfl t_X12_bookOf ⟨Or.inl q_12_299, i_X12_bookOf.1, i_X12_bookOf.2⟩ ⟨by decide, rfl⟩ (congrArg Prod.fst (J.1.1 125 (12, 92) rfl)) rfl (by decide) rfl rfl ⟨by decide, by decide⟩ (jC.of rfl k_X12_bookOf rfl ?_)
      show jX m_X12_bookOf 7 0 0 0 [(0, .ref 125), (1, .int v11)] [] _ 0 0 _
      refine x_aloadn (x := 125) rfl rfl ?_
      refine z_getR (N := 92) (b := 126) 12 2 rfl f_12_8 rfl J rfl 16002 ⟨rfl, rfl⟩ rfl ?_
      refine x_aloadn (x := 125) rfl rfl ?_
      refine x_iloadn (x := v11) rfl rfl ?_
      refine x_inv (N := m_X12_at) (As := [.int v11]) (b := 125) (st := [.ref 126]) (dx9 := 6) (mc := 0) (ms := 0) (host := "") 12 rfl t_X12_at ⟨Or.inl q_12_254, i_X12_at.1, i_X12_at.2⟩ ⟨by decide, rfl⟩ (congrArg Prod.fst (J.1.1 125 (12, 92) rfl)) rfl (by decide) rfl rfl ⟨by decide, by decide⟩ (jC.of rfl k_X12_at rfl ?_)
      show jX m_X12_at 6 0 0 0 [(0, .ref 125), (1, .int v11)] [] _ 0 0 _
      refine x_bipush (v := 20) rfl kb_20 ?_
      refine x_bipush (v := 90) rfl kb_90 ?_
      refine x_iloadn (x := v11) rfl rfl ?_
      refine z_imul rfl jk_90 rfl (by omega) (fun v12 ev12 => ?_)
      refine z_iadd rfl jk_20 rfl (by omega) (fun v13 ev13 => ?_)
      refine x_iret rfl rfl ?_
      show jX m_X12_bookOf 7 0 0 9 [(0, .ref 125), (1, .int v11)] [.int v13, .ref 126] _ 0 0 _
      refine z_iald (N := 50660) rfl J rfl sg_126_20_18020_90_0_1 rfl (by omega) (fun v14 qv14 ev14 => ?_)
      refine x_iret rfl rfl ?_
      show jX m_X12_isMention 8 0 0 24 [(0, .ref 125), (1, .int a1)] [.int v14, .int v10] _ 0 0 _
      refine x_inst (N := m_X12_rolesOf) (As := [.int v14]) (st := [.int v10]) (dx9 := 7) (mc := 0) (ms := 0) (host := "") rfl t_X12_rolesOf ⟨Or.inl q_12_286, s_X12_rolesOf⟩ rfl (by decide) rfl rfl ⟨by decide, by decide⟩ (jC.of rfl k_X12_rolesOf rfl ?_)
      show jX m_X12_rolesOf 7 0 0 0 [(0, .int v14)] [] _ 0 0 _
      refine x_iloadn (x := v14) rfl rfl ?_
      refine x_ifne (tgt := 8) rfl rfl (ti_ne rfl jk_0 ⟨fun c15 => ?_, fun c15 => ?_⟩)
      ·
        refine x_iloadn (x := v14) rfl rfl ?_
        refine x_iconst (v := 1) rfl ki_1 ?_
        refine x_icne (tgt := 17) rfl rfl (ti_ne rfl jk_1 ⟨fun c16 => ?_, fun c16 => ?_⟩)
        ·
          refine x_iconst (v := 1) rfl ki_1 ?_
          refine x_iret rfl rfl ?_
          show jX m_X12_isMention 8 0 0 27 [(0, .ref 125), (1, .int a1)] [.int 1, .int v10] _ 0 0 _
          refine x_icge (tgt := 34) rfl rfl (ti_ge rfl jk_1 ⟨fun c17 => ?_, fun c17 => ?_⟩)
          ·
            refine x_iconst (v := 0) rfl ki_0 ?_
            refine x_zret rfl rfl (by decide) ?_
            show jX m_X12_soulAt 9 0 0 5 [(0, .ref 125), (1, .int a1), (2, .int a2)] [.int 0] _ 0 0 _
            refine x_ifeq (tgt := 15) rfl rfl (ti_eq jk_0 jk_0 (br_t (by omega) ?_))
            refine x_iconst (v := (-1)) rfl ki_m1 ?_
            refine x_iret rfl rfl ?_
            show jX m_X12_span 10 0 0 11 [(0, .ref 125), (1, .int a1), (2, .int a2), (3, .int a3)] [.int (-1)] _ 0 0 _
            refine x_istore (lsx9 := [(4, .int (-1)), (0, .ref 125), (1, .int a1), (2, .int a2), (3, .int a3)]) rfl rfl rfl ?_
            refine x_iload (x := (-1)) rfl rfl ?_
            refine x_iconst (v := (-1)) rfl ki_m1 ?_
            refine x_iceq (tgt := 31) rfl rfl (ti_eq jk_m1 jk_m1 (br_t (by omega) ?_))
            exact jX.sub jsb_n (ct_X12_span_r125_31 hD hQ  h J Sm)
          ·
            refine x_iconst (v := 1) rfl ki_1 ?_
            refine x_goto (tgt := 35) rfl rfl ?_
            refine x_zret rfl rfl (by decide) ?_
            show jX m_X12_soulAt 9 0 0 5 [(0, .ref 125), (1, .int a1), (2, .int a2)] [.int 1] _ 0 0 _
            refine x_ifeq (tgt := 15) rfl rfl (ti_eq jk_1 jk_0 (br_f (by omega) ?_))
            refine x_iloadn (x := a2) rfl rfl ?_
            refine x_inst (N := m_X12_isDay) (As := [.int a2]) (st := []) (dx9 := 2) (mc := 0) (ms := 0) (host := "") rfl t_X12_isDay ⟨Or.inl q_12_273, s_X12_isDay⟩ rfl (by decide) rfl rfl ⟨by decide, by decide⟩ (zc_X12_isDay (d := 1) rfl (fun v18 ev18 => ?_))
            show jX m_X12_soulAt 9 0 0 12 [(0, .ref 125), (1, .int a1), (2, .int a2)] [.int v18] _ 0 0 _
            refine x_ifne (tgt := 17) rfl rfl (ti_ne rfl jk_0 ⟨fun c19 => ?_, fun c19 => ?_⟩)
            ·
              refine x_aloadn (x := 125) rfl rfl ?_
              refine x_iloadn (x := a2) rfl rfl ?_
              refine x_inv (N := m_X12_find) (As := [.int a2]) (b := 125) (st := []) (dx9 := 8) (mc := 0) (ms := 0) (host := "") 12 rfl t_X12_find ⟨Or.inl q_12_393, i_X12_find.1, i_X12_find.2⟩ ⟨by decide, rfl⟩ (congrArg Prod.fst (J.1.1 125 (12, 92) rfl)) rfl (by decide) rfl rfl ⟨by decide, by decide⟩ (sf_X12_find_r125 (jr_of rfl (by omega)) hD J  (fun h J S20 => ?_))
              have Sm := jSm_tr rfl Sm S20
              show jX m_X12_soulAt 9 0 0 22 [(0, .ref 125), (1, .int a1), (2, .int a2)] [] _ 0 0 _
              refine x_aloadn (x := 125) rfl rfl ?_
              refine z_getR (N := 92) (b := 139) 12 29 rfl f_12_72 rfl J rfl 16029 ⟨rfl, rfl⟩ rfl ?_
              refine x_iloadn (x := a1) rfl rfl ?_
              refine z_iald (N := 600) rfl J rfl sg_139_0_600_1_0_1 rfl (by omega) (fun v21 qv21 ev21 => ?_)
              refine x_iret rfl rfl ?_
              show jX m_X12_span 10 0 0 11 [(0, .ref 125), (1, .int a1), (2, .int a2), (3, .int a3)] [.int v21] _ 0 0 _
              refine x_istore (lsx9 := [(4, .int v21), (0, .ref 125), (1, .int a1), (2, .int a2), (3, .int a3)]) rfl rfl rfl ?_
              refine x_iload (x := v21) rfl rfl ?_
              refine x_iconst (v := (-1)) rfl ki_m1 ?_
              refine x_iceq (tgt := 31) rfl rfl (ti_eq rfl jk_m1 ⟨fun c22 => ?_, fun c22 => ?_⟩)
              ·
                exact jX.sub jsb_n (ct_X12_span_r125_31 hD hQ  h J Sm)
              ·
                refine x_iloadn (x := a3) rfl rfl ?_
                refine z_i2l rfl rfl (fun v23 ev23 => ?_)
                refine x_lconst (v := 0) rfl kl_0 ?_
                refine x_ldc2 (v := 3) rfl z_12_195 ?_
                refine x_inst (N := m_X12_in) (As := [.long v23, .long 0, .long 3]) (st := []) (dx9 := 1) (mc := 0) (ms := 0) (host := "") rfl t_X12_in ⟨Or.inl q_12_188, s_X12_in⟩ rfl (by decide) rfl rfl ⟨by decide, by decide⟩ (zc_X12_in rfl jkl_0 jkl_3 (fun v24 ev24 => ?_))
                show jX m_X12_span 10 0 0 28 [(4, .int v21), (0, .ref 125), (1, .int a1), (2, .int a2), (3, .int a3)] [.int v24] _ 0 0 _
                refine x_ifne (tgt := 33) rfl rfl (ti_ne rfl jk_0 ⟨fun c25 => ?_, fun c25 => ?_⟩)
                ·
                  refine x_aloadn (x := 125) rfl rfl ?_
                  refine x_iload (x := v21) rfl rfl ?_
                  refine x_inv (N := m_X12_findSpan) (As := [.int v21]) (b := 125) (st := []) (dx9 := 6) (mc := 0) (ms := 0) (host := "") 12 rfl t_X12_findSpan ⟨Or.inl q_12_437, i_X12_findSpan.1, i_X12_findSpan.2⟩ ⟨by decide, rfl⟩ (congrArg Prod.fst (J.1.1 125 (12, 92) rfl)) rfl (by decide) rfl rfl ⟨by decide, by decide⟩ (sf_X12_findSpan_r125 (jr_of rfl (by omega)) hD J  (fun h J S26 => ?_))
                  have Sm := jSm_tr rfl Sm S26
                  show jX m_X12_span 10 0 0 39 [(4, .int v21), (0, .ref 125), (1, .int a1), (2, .int a2), (3, .int a3)] [] _ 0 0 _
                  refine x_iloadn (x := a3) rfl rfl ?_
                  refine x_ifne (tgt := 50) rfl rfl (ti_ne rfl jk_0 ⟨fun c27 => ?_, fun c27 => ?_⟩)
                  ·
                    refine x_iloadn (x := a3) rfl rfl ?_
                    refine x_iconst (v := 1) rfl ki_1 ?_
                    refine x_icne (tgt := 62) rfl rfl (ti_ne rfl jk_1 ⟨fun c28 => ?_, fun c28 => ?_⟩)
                    ·
                      refine x_iloadn (x := a3) rfl rfl ?_
                      refine x_iconst (v := 2) rfl ki_2 ?_
                      refine x_icne (tgt := 74) rfl rfl (ti_ne rfl jk_2 ⟨fun c29 => ?_, fun c29 => ?_⟩)
                      ·
                        refine x_aloadn (x := 125) rfl rfl ?_
                        refine z_getI (N := 92) 12 35 rfl f_12_421 rfl J rfl sg_125_35_36_1_0_1 (fun v30 qv30 ev30 => ?_)
                        exact jX.sub jsb_n (ct_X12_span_r125_78 hD hQ  v30 h J Sm)
                      ·
                        refine x_aloadn (x := 125) rfl rfl ?_
                        refine z_getI (N := 92) 12 34 rfl f_12_418 rfl J rfl sg_125_34_35_1_0_1 (fun v31 qv31 ev31 => ?_)
                        refine x_goto (tgt := 78) rfl rfl ?_
                        exact jX.sub jsb_n (ct_X12_span_r125_78 hD hQ  v31 h J Sm)
                    ·
                      refine x_aloadn (x := 125) rfl rfl ?_
                      refine z_getI (N := 92) 12 33 rfl f_12_415 rfl J rfl sg_125_33_34_1_0_1 (fun v32 qv32 ev32 => ?_)
                      refine x_goto (tgt := 78) rfl rfl ?_
                      exact jX.sub jsb_n (ct_X12_span_r125_78 hD hQ  v32 h J Sm)
                  ·
                    refine x_aloadn (x := 125) rfl rfl ?_
                    refine z_getI (N := 92) 12 32 rfl f_12_412 rfl J rfl sg_125_32_33_1_0_1 (fun v33 qv33 ev33 => ?_)
                    refine x_goto (tgt := 78) rfl rfl ?_
                    exact jX.sub jsb_n (ct_X12_span_r125_78 hD hQ  v33 h J Sm)
                ·
                  exact jX.sub jsb_n (ct_X12_span_r125_31 hD hQ  h J Sm)
            ·
              refine x_iconst (v := (-1)) rfl ki_m1 ?_
              refine x_iret rfl rfl ?_
              show jX m_X12_span 10 0 0 11 [(0, .ref 125), (1, .int a1), (2, .int a2), (3, .int a3)] [.int (-1)] _ 0 0 _
              refine x_istore (lsx9 := [(4, .int (-1)), (0, .ref 125), (1, .int a1), (2, .int a2), (3, .int a3)]) rfl rfl rfl ?_
              refine x_iload (x := (-1)) rfl rfl ?_
              refine x_iconst (v := (-1)) rfl ki_m1 ?_
              refine x_iceq (tgt := 31) rfl rfl (ti_eq jk_m1 jk_m1 (br_t (by omega) ?_))
              exact jX.sub jsb_n (ct_X12_span_r125_31 hD hQ  h J Sm)
        ·
          refine x_iconst (v := 2) rfl ki_2 ?_
          refine x_goto (tgt := 18) rfl rfl ?_
          refine x_iret rfl rfl ?_
          show jX m_X12_isMention 8 0 0 27 [(0, .ref 125), (1, .int a1)] [.int 2, .int v10] _ 0 0 _
          refine x_icge (tgt := 34) rfl rfl (ti_ge rfl jk_2 ⟨fun c34 => ?_, fun c34 => ?_⟩)
          ·
            refine x_iconst (v := 0) rfl ki_0 ?_
            refine x_zret rfl rfl (by decide) ?_
            show jX m_X12_soulAt 9 0 0 5 [(0, .ref 125), (1, .int a1), (2, .int a2)] [.int 0] _ 0 0 _
            refine x_ifeq (tgt := 15) rfl rfl (ti_eq jk_0 jk_0 (br_t (by omega) ?_))
            refine x_iconst (v := (-1)) rfl ki_m1 ?_
            refine x_iret rfl rfl ?_
            show jX m_X12_span 10 0 0 11 [(0, .ref 125), (1, .int a1), (2, .int a2), (3, .int a3)] [.int (-1)] _ 0 0 _
            refine x_istore (lsx9 := [(4, .int (-1)), (0, .ref 125), (1, .int a1), (2, .int a2), (3, .int a3)]) rfl rfl rfl ?_
            refine x_iload (x := (-1)) rfl rfl ?_
            refine x_iconst (v := (-1)) rfl ki_m1 ?_
            refine x_iceq (tgt := 31) rfl rfl (ti_eq jk_m1 jk_m1 (br_t (by omega) ?_))
            exact jX.sub jsb_n (ct_X12_span_r125_31 hD hQ  h J Sm)
          ·
            refine x_iconst (v := 1) rfl ki_1 ?_
            refine x_goto (tgt := 35) rfl rfl ?_
            refine x_zret rfl rfl (by decide) ?_
            show jX m_X12_soulAt 9 0 0 5 [(0, .ref 125), (1, .int a1), (2, .int a2)] [.int 1] _ 0 0 _
            refine x_ifeq (tgt := 15) rfl rfl (ti_eq jk_1 jk_0 (br_f (by omega) ?_))
            refine x_iloadn (x := a2) rfl rfl ?_
            refine x_inst (N := m_X12_isDay) (As := [.int a2]) (st := []) (dx9 := 2) (mc := 0) (ms := 0) (host := "") rfl t_X12_isDay ⟨Or.inl q_12_273, s_X12_isDay⟩ rfl (by decide) rfl rfl ⟨by decide, by decide⟩ (zc_X12_isDay (d := 1) rfl (fun v35 ev35 => ?_))
            show jX m_X12_soulAt 9 0 0 12 [(0, .ref 125), (1, .int a1), (2, .int a2)] [.int v35] _ 0 0 _
            refine x_ifne (tgt := 17) rfl rfl (ti_ne rfl jk_0 ⟨fun c36 => ?_, fun c36 => ?_⟩)
            ·
              refine x_aloadn (x := 125) rfl rfl ?_
              refine x_iloadn (x := a2) rfl rfl ?_
              refine x_inv (N := m_X12_find) (As := [.int a2]) (b := 125) (st := []) (dx9 := 8) (mc := 0) (ms := 0) (host := "") 12 rfl t_X12_find ⟨Or.inl q_12_393, i_X12_find.1, i_X12_find.2⟩ ⟨by decide, rfl⟩ (congrArg Prod.fst (J.1.1 125 (12, 92) rfl)) rfl (by decide) rfl rfl ⟨by decide, by decide⟩ (sf_X12_find_r125 (jr_of rfl (by omega)) hD J  (fun h J S37 => ?_))
              have Sm := jSm_tr rfl Sm S37
              show jX m_X12_soulAt 9 0 0 22 [(0, .ref 125), (1, .int a1), (2, .int a2)] [] _ 0 0 _
              refine x_aloadn (x := 125) rfl rfl ?_
              refine z_getR (N := 92) (b := 139) 12 29 rfl f_12_72 rfl J rfl 16029 ⟨rfl, rfl⟩ rfl ?_
              refine x_iloadn (x := a1) rfl rfl ?_
              refine z_iald (N := 600) rfl J rfl sg_139_0_600_1_0_1 rfl (by omega) (fun v38 qv38 ev38 => ?_)
              refine x_iret rfl rfl ?_
              show jX m_X12_span 10 0 0 11 [(0, .ref 125), (1, .int a1), (2, .int a2), (3, .int a3)] [.int v38] _ 0 0 _
              refine x_istore (lsx9 := [(4, .int v38), (0, .ref 125), (1, .int a1), (2, .int a2), (3, .int a3)]) rfl rfl rfl ?_
              refine x_iload (x := v38) rfl rfl ?_
              refine x_iconst (v := (-1)) rfl ki_m1 ?_
              refine x_iceq (tgt := 31) rfl rfl (ti_eq rfl jk_m1 ⟨fun c39 => ?_, fun c39 => ?_⟩)
              ·
                exact jX.sub jsb_n (ct_X12_span_r125_31 hD hQ  h J Sm)
              ·
                refine x_iloadn (x := a3) rfl rfl ?_
                refine z_i2l rfl rfl (fun v40 ev40 => ?_)
                refine x_lconst (v := 0) rfl kl_0 ?_
                refine x_ldc2 (v := 3) rfl z_12_195 ?_
                refine x_inst (N := m_X12_in) (As := [.long v40, .long 0, .long 3]) (st := []) (dx9 := 1) (mc := 0) (ms := 0) (host := "") rfl t_X12_in ⟨Or.inl q_12_188, s_X12_in⟩ rfl (by decide) rfl rfl ⟨by decide, by decide⟩ (zc_X12_in rfl jkl_0 jkl_3 (fun v41 ev41 => ?_))
                show jX m_X12_span 10 0 0 28 [(4, .int v38), (0, .ref 125), (1, .int a1), (2, .int a2), (3, .int a3)] [.int v41] _ 0 0 _
                refine x_ifne (tgt := 33) rfl rfl (ti_ne rfl jk_0 ⟨fun c42 => ?_, fun c42 => ?_⟩)
                ·
                  refine x_aloadn (x := 125) rfl rfl ?_
                  refine x_iload (x := v38) rfl rfl ?_
                  refine x_inv (N := m_X12_findSpan) (As := [.int v38]) (b := 125) (st := []) (dx9 := 6) (mc := 0) (ms := 0) (host := "") 12 rfl t_X12_findSpan ⟨Or.inl q_12_437, i_X12_findSpan.1, i_X12_findSpan.2⟩ ⟨by decide, rfl⟩ (congrArg Prod.fst (J.1.1 125 (12, 92) rfl)) rfl (by decide) rfl rfl ⟨by decide, by decide⟩ (sf_X12_findSpan_r125 (jr_of rfl (by omega)) hD J  (fun h J S43 => ?_))
                  have Sm := jSm_tr rfl Sm S43
                  show jX m_X12_span 10 0 0 39 [(4, .int v38), (0, .ref 125), (1, .int a1), (2, .int a2), (3, .int a3)] [] _ 0 0 _
                  refine x_iloadn (x := a3) rfl rfl ?_
                  refine x_ifne (tgt := 50) rfl rfl (ti_ne rfl jk_0 ⟨fun c44 => ?_, fun c44 => ?_⟩)
                  ·
                    refine x_iloadn (x := a3) rfl rfl ?_
                    refine x_iconst (v := 1) rfl ki_1 ?_
                    refine x_icne (tgt := 62) rfl rfl (ti_ne rfl jk_1 ⟨fun c45 => ?_, fun c45 => ?_⟩)
                    ·
                      refine x_iloadn (x := a3) rfl rfl ?_
                      refine x_iconst (v := 2) rfl ki_2 ?_
                      refine x_icne (tgt := 74) rfl rfl (ti_ne rfl jk_2 ⟨fun c46 => ?_, fun c46 => ?_⟩)
                      ·
                        refine x_aloadn (x := 125) rfl rfl ?_
                        refine z_getI (N := 92) 12 35 rfl f_12_421 rfl J rfl sg_125_35_36_1_0_1 (fun v47 qv47 ev47 => ?_)
                        exact jX.sub jsb_n (ct_X12_span_r125_78 hD hQ  v47 h J Sm)
                      ·
                        refine x_aloadn (x := 125) rfl rfl ?_
                        refine z_getI (N := 92) 12 34 rfl f_12_418 rfl J rfl sg_125_34_35_1_0_1 (fun v48 qv48 ev48 => ?_)
                        refine x_goto (tgt := 78) rfl rfl ?_
                        exact jX.sub jsb_n (ct_X12_span_r125_78 hD hQ  v48 h J Sm)
                    ·
                      refine x_aloadn (x := 125) rfl rfl ?_
                      refine z_getI (N := 92) 12 33 rfl f_12_415 rfl J rfl sg_125_33_34_1_0_1 (fun v49 qv49 ev49 => ?_)
                      refine x_goto (tgt := 78) rfl rfl ?_
                      exact jX.sub jsb_n (ct_X12_span_r125_78 hD hQ  v49 h J Sm)
                  ·
                    refine x_aloadn (x := 125) rfl rfl ?_
                    refine z_getI (N := 92) 12 32 rfl f_12_412 rfl J rfl sg_125_32_33_1_0_1 (fun v50 qv50 ev50 => ?_)
                    refine x_goto (tgt := 78) rfl rfl ?_
                    exact jX.sub jsb_n (ct_X12_span_r125_78 hD hQ  v50 h J Sm)
                ·
                  exact jX.sub jsb_n (ct_X12_span_r125_31 hD hQ  h J Sm)
            ·
              refine x_iconst (v := (-1)) rfl ki_m1 ?_
              refine x_iret rfl rfl ?_
              show jX m_X12_span 10 0 0 11 [(0, .ref 125), (1, .int a1), (2, .int a2), (3, .int a3)] [.int (-1)] _ 0 0 _
              refine x_istore (lsx9 := [(4, .int (-1)), (0, .ref 125), (1, .int a1), (2, .int a2), (3, .int a3)]) rfl rfl rfl ?_
              refine x_iload (x := (-1)) rfl rfl ?_
              refine x_iconst (v := (-1)) rfl ki_m1 ?_
              refine x_iceq (tgt := 31) rfl rfl (ti_eq jk_m1 jk_m1 (br_t (by omega) ?_))
              exact jX.sub jsb_n (ct_X12_span_r125_31 hD hQ  h J Sm)
      ·
        refine x_iconst (v := 3) rfl ki_3 ?_
        refine x_goto (tgt := 18) rfl rfl ?_
        refine x_iret rfl rfl ?_
        show jX m_X12_isMention 8 0 0 27 [(0, .ref 125), (1, .int a1)] [.int 3, .int v10] _ 0 0 _
        refine x_icge (tgt := 34) rfl rfl (ti_ge rfl jk_3 (br_f (by omega) ?_))
        refine x_iconst (v := 1) rfl ki_1 ?_
        refine x_goto (tgt := 35) rfl rfl ?_
        refine x_zret rfl rfl (by decide) ?_
        show jX m_X12_soulAt 9 0 0 5 [(0, .ref 125), (1, .int a1), (2, .int a2)] [.int 1] _ 0 0 _
        refine x_ifeq (tgt := 15) rfl rfl (ti_eq jk_1 jk_0 (br_f (by omega) ?_))
        refine x_iloadn (x := a2) rfl rfl ?_
        refine x_inst (N := m_X12_isDay) (As := [.int a2]) (st := []) (dx9 := 2) (mc := 0) (ms := 0) (host := "") rfl t_X12_isDay ⟨Or.inl q_12_273, s_X12_isDay⟩ rfl (by decide) rfl rfl ⟨by decide, by decide⟩ (zc_X12_isDay (d := 1) rfl (fun v51 ev51 => ?_))
        show jX m_X12_soulAt 9 0 0 12 [(0, .ref 125), (1, .int a1), (2, .int a2)] [.int v51] _ 0 0 _
        refine x_ifne (tgt := 17) rfl rfl (ti_ne rfl jk_0 ⟨fun c52 => ?_, fun c52 => ?_⟩)
        ·
          refine x_aloadn (x := 125) rfl rfl ?_
          refine x_iloadn (x := a2) rfl rfl ?_
          refine x_inv (N := m_X12_find) (As := [.int a2]) (b := 125) (st := []) (dx9 := 8) (mc := 0) (ms := 0) (host := "") 12 rfl t_X12_find ⟨Or.inl q_12_393, i_X12_find.1, i_X12_find.2⟩ ⟨by decide, rfl⟩ (congrArg Prod.fst (J.1.1 125 (12, 92) rfl)) rfl (by decide) rfl rfl ⟨by decide, by decide⟩ (sf_X12_find_r125 (jr_of rfl (by omega)) hD J  (fun h J S53 => ?_))
          have Sm := jSm_tr rfl Sm S53
          show jX m_X12_soulAt 9 0 0 22 [(0, .ref 125), (1, .int a1), (2, .int a2)] [] _ 0 0 _
          refine x_aloadn (x := 125) rfl rfl ?_
          refine z_getR (N := 92) (b := 139) 12 29 rfl f_12_72 rfl J rfl 16029 ⟨rfl, rfl⟩ rfl ?_
          refine x_iloadn (x := a1) rfl rfl ?_
          refine z_iald (N := 600) rfl J rfl sg_139_0_600_1_0_1 rfl (by omega) (fun v54 qv54 ev54 => ?_)
          refine x_iret rfl rfl ?_
          show jX m_X12_span 10 0 0 11 [(0, .ref 125), (1, .int a1), (2, .int a2), (3, .int a3)] [.int v54] _ 0 0 _
          refine x_istore (lsx9 := [(4, .int v54), (0, .ref 125), (1, .int a1), (2, .int a2), (3, .int a3)]) rfl rfl rfl ?_
          refine x_iload (x := v54) rfl rfl ?_
          refine x_iconst (v := (-1)) rfl ki_m1 ?_
          refine x_iceq (tgt := 31) rfl rfl (ti_eq rfl jk_m1 ⟨fun c55 => ?_, fun c55 => ?_⟩)
          ·
            exact jX.sub jsb_n (ct_X12_span_r125_31 hD hQ  h J Sm)
          ·
            refine x_iloadn (x := a3) rfl rfl ?_
            refine z_i2l rfl rfl (fun v56 ev56 => ?_)
            refine x_lconst (v := 0) rfl kl_0 ?_
            refine x_ldc2 (v := 3) rfl z_12_195 ?_
            refine x_inst (N := m_X12_in) (As := [.long v56, .long 0, .long 3]) (st := []) (dx9 := 1) (mc := 0) (ms := 0) (host := "") rfl t_X12_in ⟨Or.inl q_12_188, s_X12_in⟩ rfl (by decide) rfl rfl ⟨by decide, by decide⟩ (zc_X12_in rfl jkl_0 jkl_3 (fun v57 ev57 => ?_))
            show jX m_X12_span 10 0 0 28 [(4, .int v54), (0, .ref 125), (1, .int a1), (2, .int a2), (3, .int a3)] [.int v57] _ 0 0 _
            refine x_ifne (tgt := 33) rfl rfl (ti_ne rfl jk_0 ⟨fun c58 => ?_, fun c58 => ?_⟩)
            ·
              refine x_aloadn (x := 125) rfl rfl ?_
              refine x_iload (x := v54) rfl rfl ?_
              refine x_inv (N := m_X12_findSpan) (As := [.int v54]) (b := 125) (st := []) (dx9 := 6) (mc := 0) (ms := 0) (host := "") 12 rfl t_X12_findSpan ⟨Or.inl q_12_437, i_X12_findSpan.1, i_X12_findSpan.2⟩ ⟨by decide, rfl⟩ (congrArg Prod.fst (J.1.1 125 (12, 92) rfl)) rfl (by decide) rfl rfl ⟨by decide, by decide⟩ (sf_X12_findSpan_r125 (jr_of rfl (by omega)) hD J  (fun h J S59 => ?_))
              have Sm := jSm_tr rfl Sm S59
              show jX m_X12_span 10 0 0 39 [(4, .int v54), (0, .ref 125), (1, .int a1), (2, .int a2), (3, .int a3)] [] _ 0 0 _
              refine x_iloadn (x := a3) rfl rfl ?_
              refine x_ifne (tgt := 50) rfl rfl (ti_ne rfl jk_0 ⟨fun c60 => ?_, fun c60 => ?_⟩)
              ·
                refine x_iloadn (x := a3) rfl rfl ?_
                refine x_iconst (v := 1) rfl ki_1 ?_
                refine x_icne (tgt := 62) rfl rfl (ti_ne rfl jk_1 ⟨fun c61 => ?_, fun c61 => ?_⟩)
                ·
                  refine x_iloadn (x := a3) rfl rfl ?_
                  refine x_iconst (v := 2) rfl ki_2 ?_
                  refine x_icne (tgt := 74) rfl rfl (ti_ne rfl jk_2 ⟨fun c62 => ?_, fun c62 => ?_⟩)
                  ·
                    refine x_aloadn (x := 125) rfl rfl ?_
                    refine z_getI (N := 92) 12 35 rfl f_12_421 rfl J rfl sg_125_35_36_1_0_1 (fun v63 qv63 ev63 => ?_)
                    exact jX.sub jsb_n (ct_X12_span_r125_78 hD hQ  v63 h J Sm)
                  ·
                    refine x_aloadn (x := 125) rfl rfl ?_
                    refine z_getI (N := 92) 12 34 rfl f_12_418 rfl J rfl sg_125_34_35_1_0_1 (fun v64 qv64 ev64 => ?_)
                    refine x_goto (tgt := 78) rfl rfl ?_
                    exact jX.sub jsb_n (ct_X12_span_r125_78 hD hQ  v64 h J Sm)
                ·
                  refine x_aloadn (x := 125) rfl rfl ?_
                  refine z_getI (N := 92) 12 33 rfl f_12_415 rfl J rfl sg_125_33_34_1_0_1 (fun v65 qv65 ev65 => ?_)
                  refine x_goto (tgt := 78) rfl rfl ?_
                  exact jX.sub jsb_n (ct_X12_span_r125_78 hD hQ  v65 h J Sm)
              ·
                refine x_aloadn (x := 125) rfl rfl ?_
                refine z_getI (N := 92) 12 32 rfl f_12_412 rfl J rfl sg_125_32_33_1_0_1 (fun v66 qv66 ev66 => ?_)
                refine x_goto (tgt := 78) rfl rfl ?_
                exact jX.sub jsb_n (ct_X12_span_r125_78 hD hQ  v66 h J Sm)
            ·
              exact jX.sub jsb_n (ct_X12_span_r125_31 hD hQ  h J Sm)
        ·
          refine x_iconst (v := (-1)) rfl ki_m1 ?_
          refine x_iret rfl rfl ?_
          show jX m_X12_span 10 0 0 11 [(0, .ref 125), (1, .int a1), (2, .int a2), (3, .int a3)] [.int (-1)] _ 0 0 _
          refine x_istore (lsx9 := [(4, .int (-1)), (0, .ref 125), (1, .int a1), (2, .int a2), (3, .int a3)]) rfl rfl rfl ?_
          refine x_iload (x := (-1)) rfl rfl ?_
          refine x_iconst (v := (-1)) rfl ki_m1 ?_
          refine x_iceq (tgt := 31) rfl rfl (ti_eq jk_m1 jk_m1 (br_t (by omega) ?_))
          exact jX.sub jsb_n (ct_X12_span_r125_31 hD hQ  h J Sm)
def fp_X12_spell_r125 : jFp := [(125, 0, 1), (125, 1, 2), (125, 8, 9), (125, 9, 10), (125, 10, 11), (125, 11, 12), (125, 12, 13), (125, 13, 14), (125, 14, 15), (125, 18, 19), (132, 0, 16), (133, 0, 256), (134, 0, 768), (135, 0, 16), (136, 0, 48)]
set_option maxRecDepth 100000 in
set_option maxHeartbeats 4000000 in
theorem ct_X12_spell_r125_94 {Dy : jH → Prop} {h0 : jH} {Q : Option Value → jH → Prop} (hD : jDk Dy) (hQ : ∀ (v : Int32) hx9, jJ jSgM Dy hx9 → jSm fp_X12_spell_r125 h0 hx9 → Q (some (.int v)) hx9) : ∀ (l1 : Int32) (g0 : Int32) (g1 : Int32) (g2 : Int32) (g3 : Int32) (g4 : Int32) (h : jH), 0 ≤ l1.toInt ∧ l1.toInt ≤ 15 → 0 ≤ g0.toInt ∧ g0.toInt ≤ 400 → 0 ≤ g1.toInt ∧ g1.toInt ≤ 3 → 0 ≤ g2.toInt ∧ g2.toInt ≤ 1 → 0 ≤ g3.toInt ∧ g3.toInt ≤ 400 → 0 ≤ g4.toInt ∧ g4.toInt ≤ 400 → jSo h → (g0.toInt ≤ g3.toInt ∧ g4.toInt ≤ g0.toInt) → (g1.toInt = 0 ∨ g4.toInt + 1 ≤ g0.toInt) → jiv h 125 10 = g0 → jiv h 125 11 = g1 → jiv h 125 14 = g2 → jiv h 125 8 = g3 → jiv h 125 9 = g4 → jJ jSgM Dy h → jSm fp_X12_spell_r125 h0 h → jX m_X12_spell 6 0 0 94 [(0, .ref 125), (1, .int l1)] [] h 0 0 Q := by
  intro l1 g0 g1 g2 g3 g4 h y0 y1 y2 y3 y4 y5 C0 y7 y8 z0 z1 z2 z3 z4  J Sm
  refine x_aloadn (x := 125) rfl rfl ?_
  refine x_iconst (v := 0) rfl ki_0 ?_
  refine z_putI (N := 92) (w := 0) 12 8 rfl f_12_201 rfl (jfin_no TX12 RX12 92 rfl rfl) hD J Sm rfl rfl jk_0 (pw_125_8 (by omega)) rfl (fun h w1 J Sm => ?_)
  refine x_aloadn (x := 125) rfl rfl ?_
  refine z_getM (N := 92) (v := g2) 12 14 rfl f_12_214 rfl J rfl (jmo w1 rfl z2) ?_
  refine x_ifeq (tgt := 113) rfl rfl (ti_eq rfl jk_0 ⟨fun c2 => ?_, fun c2 => ?_⟩)
  ·
    obtain ⟨u3, qu3⟩ : ∃ v : Int32, jiv h 125 18 = v := ⟨_, rfl⟩
    have eu3 := (show 0 ≤ u3.toInt ∧ u3.toInt ≤ 8 from qu3 ▸ jrg_f J sg_125_18_19_1_0_1)
    exact jX.sub (jsb_c rfl (jsb_c rfl jsb_n)) (sp_tail hD J Sm rfl rfl rfl rfl (by omega) (by omega) qu3 (jso_use (jso_mv (jeq_o w1 rfl jeq_0) (jmo w1 rfl rfl) (jmo w1 rfl rfl) C0) (jmo w1 rfl z2) (by omega) qu3) hQ)
  ·
    refine x_aloadn (x := 125) rfl rfl ?_
    refine x_bipush (v := (-6)) rfl kb_m6 ?_
    refine x_inv (N := m_X12_told) (As := [.int (-6)]) (b := 125) (st := []) (dx9 := 1) (mc := 0) (ms := 0) (host := "") 12 rfl t_X12_told ⟨Or.inl q_12_197, i_X12_told.1, i_X12_told.2⟩ ⟨by decide, rfl⟩ (congrArg Prod.fst (J.1.1 125 (12, 92) rfl)) rfl (by decide) rfl rfl ⟨by decide, by decide⟩ (sf_X12_told_r125  hD J  (fun v5 h J S4 => ?_))
    have ev5 := jfull v5
    have Sm := jSm_tr rfl Sm S4
    show jX m_X12_spell 6 0 0 112 [(0, .ref 125), (1, .int l1)] [.int v5] _ 0 0 _
    refine x_iret rfl rfl ?_
    exact hQ _ _ J Sm
set_option maxRecDepth 100000 in
set_option maxHeartbeats 4000000 in
theorem ct_X12_spell_r125_75 {Dy : jH → Prop} {h0 : jH} {Q : Option Value → jH → Prop} (hD : jDk Dy) (hQ : ∀ (v : Int32) hx9, jJ jSgM Dy hx9 → jSm fp_X12_spell_r125 h0 hx9 → Q (some (.int v)) hx9) : ∀ (l1 : Int32) (g0 : Int32) (g1 : Int32) (g2 : Int32) (g3 : Int32) (g4 : Int32) (h : jH), 0 ≤ l1.toInt ∧ l1.toInt ≤ 15 → 0 ≤ g0.toInt ∧ g0.toInt ≤ 400 → 0 ≤ g1.toInt ∧ g1.toInt ≤ 3 → 0 ≤ g2.toInt ∧ g2.toInt ≤ 1 → 0 ≤ g3.toInt ∧ g3.toInt ≤ 400 → 0 ≤ g4.toInt ∧ g4.toInt ≤ 400 → jSo h → (g0.toInt ≤ g3.toInt ∧ g4.toInt ≤ g0.toInt) → (g1.toInt = 0 ∨ g4.toInt + 1 ≤ g0.toInt) → jiv h 125 10 = g0 → jiv h 125 11 = g1 → jiv h 125 14 = g2 → jiv h 125 8 = g3 → jiv h 125 9 = g4 → jJ jSgM Dy h → jSm fp_X12_spell_r125 h0 h → jX m_X12_spell 6 0 0 75 [(0, .ref 125), (1, .int l1)] [] h 0 0 Q := by
  intro l1 g0 g1 g2 g3 g4 h y0 y1 y2 y3 y4 y5 C0 y7 y8 z0 z1 z2 z3 z4  J Sm
  refine x_aloadn (x := 125) rfl rfl ?_
  refine z_getM (N := 92) (v := g2) 12 14 rfl f_12_214 rfl J rfl z2 ?_
  refine x_ifne (tgt := 94) rfl rfl (ti_ne rfl jk_0 ⟨fun c1 => ?_, fun c1 => ?_⟩)
  ·
    exact jX.sub (jsb_c rfl (jsb_c rfl jsb_n)) (ct_X12_spell_r125_94 hD hQ  l1 g0 g1 g2 g3 g4 h (jr_of rfl (by omega)) (jr_of rfl (by omega)) (jr_of rfl (by omega)) (jr_of rfl (by omega)) (jr_of rfl (by omega)) (jr_of rfl (by omega)) C0 (by omega) (by omega) z0 z1 z2 z3 z4 J Sm)
  ·
    refine x_aloadn (x := 125) rfl rfl ?_
    refine z_getM (N := 92) (v := g1) 12 11 rfl f_12_235 rfl J rfl z1 ?_
    refine x_ifeq (tgt := 94) rfl rfl (ti_eq rfl jk_0 ⟨fun c2 => ?_, fun c2 => ?_⟩)
    ·
      exact jX.sub (jsb_c rfl (jsb_c rfl jsb_n)) (ct_X12_spell_r125_94 hD hQ  l1 g0 g1 g2 g3 g4 h (jr_of rfl (by omega)) (jr_of rfl (by omega)) (jr_of rfl (by omega)) (jr_of rfl (by omega)) (jr_of rfl (by omega)) (jr_of rfl (by omega)) C0 (by omega) (by omega) z0 z1 z2 z3 z4 J Sm)
    ·
      refine x_aloadn (x := 125) rfl rfl ?_
      refine x_iconst (v := 0) rfl ki_0 ?_
      refine x_inv (N := m_X12_must) (As := [.int 0]) (b := 125) (st := []) (dx9 := 5) (mc := 0) (ms := 0) (host := "") 12 rfl t_X12_must ⟨Or.inl q_12_250, i_X12_must.1, i_X12_must.2⟩ ⟨by decide, rfl⟩ (congrArg Prod.fst (J.1.1 125 (12, 92) rfl)) rfl (by decide) rfl rfl ⟨by decide, by decide⟩ (jC.of rfl k_X12_must rfl ?_)
      show jX m_X12_must 5 0 0 0 [(0, .ref 125), (1, .int 0)] [] _ 0 0 _
      refine x_aloadn (x := 125) rfl rfl ?_
      refine z_getM (N := 92) (v := g2) 12 14 rfl f_12_214 rfl J rfl z2 ?_
      refine x_ifne (tgt := 24) rfl rfl (ti_ne rfl jk_0 (bn_f (by omega) ?_))
      refine x_iloadn (x := 0) rfl rfl ?_
      refine x_ifne (tgt := 24) rfl rfl (ti_ne jk_0 jk_0 (bn_f (by omega) ?_))
      refine x_aloadn (x := 125) rfl rfl ?_
      refine x_iconst (v := 1) rfl ki_1 ?_
      refine z_putZ (N := 92) (w := 1) 12 14 rfl f_12_214 rfl (jfin_no TX12 RX12 92 rfl rfl) hD J Sm rfl rfl jk_1 (by omega) (pw_125_14 (by omega)) rfl (fun h w3 J Sm => ?_)
      refine x_aloadn (x := 125) rfl rfl ?_
      refine x_aloadn (x := 125) rfl rfl ?_
      refine z_getM (N := 92) (v := g4) 12 9 rfl f_12_221 rfl J rfl (jmo w3 rfl z4) ?_
      refine z_putI (N := 92) (w := g4.toInt) 12 13 rfl f_12_32 rfl (jfin_no TX12 RX12 92 rfl rfl) hD J Sm rfl rfl rfl (pw_125_13 (by omega)) rfl (fun h w4 J Sm => ?_)
      refine x_aloadn (x := 125) rfl rfl ?_
      refine z_getM (N := 92) (v := 1) 12 14 rfl f_12_214 rfl J rfl (jmo w4 rfl (jmw w3)) ?_
      refine x_ifne (tgt := 35) rfl rfl (ti_ne jk_1 jk_0 (bn_t (by omega) ?_))
      refine x_vret rfl rfl ?_
      show jX m_X12_spell 6 0 0 94 [(0, .ref 125), (1, .int l1)] [] _ 0 0 _
      exact jX.sub (jsb_c rfl (jsb_c rfl jsb_n)) (ct_X12_spell_r125_94 hD hQ  l1 g0 g1 1 g3 g4 h (jr_of rfl (by omega)) (jr_of rfl (by omega)) (jr_of rfl (by omega)) (jr_of jk_1 (by omega)) (jr_of rfl (by omega)) (jr_of rfl (by omega)) (Or.inl (by rw [(jmo w4 rfl (jmw w3))]; decide)) (by omega) (by omega) (jmo w4 rfl (jmo w3 rfl z0)) (jmo w4 rfl (jmo w3 rfl z1)) (jmo w4 rfl (jmw w3)) (jmo w4 rfl (jmo w3 rfl z3)) (jmo w4 rfl (jmo w3 rfl z4)) J Sm)
set_option maxRecDepth 100000 in
set_option maxHeartbeats 4000000 in
theorem ct_X12_spell_r125_48 {Dy : jH → Prop} {h0 : jH} {Q : Option Value → jH → Prop} (hD : jDk Dy) (hQ : ∀ (v : Int32) hx9, jJ jSgM Dy hx9 → jSm fp_X12_spell_r125 h0 hx9 → Q (some (.int v)) hx9) : ∀ r : Nat, ∀ (l1 : Int32) (g0 : Int32) (g1 : Int32) (g2 : Int32) (g3 : Int32) (h : jH), jsm h < (r : Int) → 0 ≤ l1.toInt ∧ l1.toInt ≤ 15 → 0 ≤ g0.toInt ∧ g0.toInt ≤ 400 → 0 ≤ g1.toInt ∧ g1.toInt ≤ 3 → 0 ≤ g2.toInt ∧ g2.toInt ≤ 400 → 0 ≤ g3.toInt ∧ g3.toInt ≤ 400 → jSo h → (g0.toInt ≤ g2.toInt ∧ g3.toInt ≤ g0.toInt) → (g1.toInt = 0 ∨ g3.toInt + 1 ≤ g0.toInt) → jiv h 125 10 = g0 → jiv h 125 11 = g1 → jiv h 125 8 = g2 → jiv h 125 9 = g3 → jJ jSgM Dy h → jSm fp_X12_spell_r125 h0 h → jX m_X12_spell 6 0 0 48 [(0, .ref 125), (1, .int l1)] [] h 0 0 Q := by
  intro r
  induction r with
  | zero =>
    intro l1 g0 g1 g2 g3 h hm y0 y1 y2 y3 y4 C0 y6 y7 z0 z1 z2 z3  J Sm
    exfalso
    have := (jsm_b (h := h) (jrg_f J sg_125_18_19_1_0_1)).1; omega
  | succ r ih =>
    intro l1 g0 g1 g2 g3 h hm y0 y1 y2 y3 y4 C0 y6 y7 z0 z1 z2 z3  J Sm
    refine x_aloadn (x := 125) rfl rfl ?_
    refine z_getI (N := 92) 12 14 rfl f_12_214 rfl J rfl sg_125_14_15_1_0_1 (fun v1 qv1 ev1 => ?_)
    refine x_ifne (tgt := 75) rfl rfl (ti_ne rfl jk_0 ⟨fun c2 => ?_, fun c2 => ?_⟩)
    ·
      exact jX.sub (jsb_c rfl (jsb_c rfl jsb_n)) (ct_X12_spell_r125_75 hD hQ  l1 g0 g1 v1 g2 g3 h (jr_of rfl (by omega)) (jr_of rfl (by omega)) (jr_of rfl (by omega)) (jr_of rfl (by omega)) (jr_of rfl (by omega)) (jr_of rfl (by omega)) C0 (by omega) (by omega) z0 z1 qv1 z2 z3 J Sm)
    ·
      refine x_aloadn (x := 125) rfl rfl ?_
      refine x_bipush (v := 44) rfl kb_44 ?_
      refine x_inv (N := m_X12_isSign) (As := [.int 44]) (b := 125) (st := []) (dx9 := 5) (mc := 0) (ms := 0) (host := "") 12 rfl t_X12_isSign ⟨Or.inl q_12_257, i_X12_isSign.1, i_X12_isSign.2⟩ ⟨by decide, rfl⟩ (congrArg Prod.fst (J.1.1 125 (12, 92) rfl)) rfl (by decide) rfl rfl ⟨by decide, by decide⟩ (jC.of rfl k_X12_isSign rfl ?_)
      show jX m_X12_isSign 5 0 0 0 [(0, .ref 125), (1, .int 44)] [] _ 0 0 _
      refine x_aloadn (x := 125) rfl rfl ?_
      refine z_getM (N := 92) (v := g1) 12 11 rfl f_12_235 rfl J rfl z1 ?_
      refine x_iconst (v := 3) rfl ki_3 ?_
      refine x_icne (tgt := 22) rfl rfl (ti_ne rfl jk_3 ⟨fun c3 => ?_, fun c3 => ?_⟩)
      ·
        refine x_iconst (v := 0) rfl ki_0 ?_
        refine x_zret rfl rfl (by decide) ?_
        show jX m_X12_spell 6 0 0 61 [(0, .ref 125), (1, .int l1)] [.int 0] _ 0 0 _
        refine x_ifeq (tgt := 75) rfl rfl (ti_eq jk_0 jk_0 (br_t (by omega) ?_))
        exact jX.sub (jsb_c rfl (jsb_c rfl jsb_n)) (ct_X12_spell_r125_75 hD hQ  l1 g0 g1 v1 g2 g3 h (jr_of rfl (by omega)) (jr_of rfl (by omega)) (jr_of rfl (by omega)) (jr_of rfl (by omega)) (jr_of rfl (by omega)) (jr_of rfl (by omega)) C0 (by omega) (by omega) z0 z1 qv1 z2 z3 J Sm)
      ·
        refine x_aloadn (x := 125) rfl rfl ?_
        refine z_getL0 (N := 92) 12 12 rfl f_12_224 rfl J rfl (fun v4 => ?_)
        have ev4 := jfullL v4
        refine x_iloadn (x := 44) rfl rfl ?_
        refine z_i2l rfl jk_44 (fun v5 ev5 => ?_)
        refine z_lcmp rfl rfl rfl (fun v6 ev6 => ?_)
        refine x_ifne (tgt := 22) rfl rfl (ti_ne rfl jk_0 ⟨fun c7 => ?_, fun c7 => ?_⟩)
        ·
          refine x_iconst (v := 0) rfl ki_0 ?_
          refine x_zret rfl rfl (by decide) ?_
          show jX m_X12_spell 6 0 0 61 [(0, .ref 125), (1, .int l1)] [.int 0] _ 0 0 _
          refine x_ifeq (tgt := 75) rfl rfl (ti_eq jk_0 jk_0 (br_t (by omega) ?_))
          exact jX.sub (jsb_c rfl (jsb_c rfl jsb_n)) (ct_X12_spell_r125_75 hD hQ  l1 g0 g1 v1 g2 g3 h (jr_of rfl (by omega)) (jr_of rfl (by omega)) (jr_of rfl (by omega)) (jr_of rfl (by omega)) (jr_of rfl (by omega)) (jr_of rfl (by omega)) C0 (by omega) (by omega) z0 z1 qv1 z2 z3 J Sm)
        ·
          refine x_iconst (v := 1) rfl ki_1 ?_
          refine x_goto (tgt := 23) rfl rfl ?_
          refine x_zret rfl rfl (by decide) ?_
          show jX m_X12_spell 6 0 0 61 [(0, .ref 125), (1, .int l1)] [.int 1] _ 0 0 _
          refine x_ifeq (tgt := 75) rfl rfl (ti_eq jk_1 jk_0 (br_f (by omega) ?_))
          refine x_aloadn (x := 125) rfl rfl ?_
          refine x_inv (N := m_X12_next) (As := []) (b := 125) (st := []) (dx9 := 2) (mc := 0) (ms := 0) (host := "") 12 rfl t_X12_next ⟨Or.inl q_12_218, i_X12_next.1, i_X12_next.2⟩ ⟨by decide, rfl⟩ (congrArg Prod.fst (J.1.1 125 (12, 92) rfl)) rfl (by decide) rfl rfl ⟨by decide, by decide⟩ (sf_X12_next_r125  hD J z0 z2 (by omega)  (fun h J S8 u9 u10 u11 qu9 qu10 qu11 ru9 u12 u13 u14 qu12 qu13 qu14 ru12 P15 => ?_))
          have Sm := jSm_tr rfl Sm S8
          have eu9 := (show 0 ≤ u9.toInt ∧ u9.toInt ≤ 400 from qu9 ▸ jrg_f J sg_125_10_11_1_0_1)
          have eu10 := (show 0 ≤ u10.toInt ∧ u10.toInt ≤ 400 from qu10 ▸ jrg_f J sg_125_8_9_1_0_1)
          have eu11 := (show 0 ≤ u11.toInt ∧ u11.toInt ≤ 400 from qu11 ▸ jrg_f J sg_125_9_10_1_0_1)
          have eu12 := (show 0 ≤ u12.toInt ∧ u12.toInt ≤ 3 from qu12 ▸ jrg_f J sg_125_11_12_1_0_1)
          obtain rfl : u11 = u13 := qu11.symm.trans qu13
          obtain rfl : u9 = u14 := qu9.symm.trans qu14
          have nfP15 := jnf P15.1 z0 qu11
          show jX m_X12_spell 6 0 0 68 [(0, .ref 125), (1, .int l1)] [] _ 0 0 _
          refine x_aloadn (x := 125) rfl rfl ?_
          have J16 := J
          refine x_inv (N := m_X12_readPair) (As := []) (b := 125) (st := []) (dx9 := 5) (mc := 0) (ms := 0) (host := "") 12 rfl t_X12_readPair ⟨Or.inl q_12_308, i_X12_readPair.1, i_X12_readPair.2⟩ ⟨by decide, rfl⟩ (congrArg Prod.fst (J.1.1 125 (12, 92) rfl)) rfl (by decide) rfl rfl ⟨by decide, by decide⟩ (sf_X12_readPair_r125  hD J qu9 qu10 qu11 (by omega) qu12 qu11 qu9 (by omega)  (fun h J S17 u18 u19 u20 qu18 qu19 qu20 ru18 u21 u22 u23 qu21 qu22 qu23 ru21 P24 => ?_))
          have Sm := jSm_tr rfl Sm S17
          have eu18 := (show 0 ≤ u18.toInt ∧ u18.toInt ≤ 400 from qu18 ▸ jrg_f J sg_125_10_11_1_0_1)
          have eu19 := (show 0 ≤ u19.toInt ∧ u19.toInt ≤ 400 from qu19 ▸ jrg_f J sg_125_8_9_1_0_1)
          have eu20 := (show 0 ≤ u20.toInt ∧ u20.toInt ≤ 400 from qu20 ▸ jrg_f J sg_125_9_10_1_0_1)
          have eu21 := (show 0 ≤ u21.toInt ∧ u21.toInt ≤ 3 from qu21 ▸ jrg_f J sg_125_11_12_1_0_1)
          obtain rfl : u20 = u22 := qu20.symm.trans qu22
          obtain rfl : u18 = u23 := qu18.symm.trans qu23
          show jX m_X12_spell 6 0 0 72 [(0, .ref 125), (1, .int l1)] [] _ 0 0 _
          refine x_goto (tgt := 48) rfl rfl ?_
          exact jX.sub (jsb_c rfl (jsb_c rfl jsb_n)) (ih l1 u18 u21 u19 u20 h (by have e := jsm_e (jmc S8 rfl rfl) (jmc S8 rfl rfl); have q := jsm_p P24 (by rw [(jmc S8 rfl qv1)]; omega) (by have := jrg_f J16 sg_125_18_19_1_0_1; omega); omega) (jr_of rfl (by omega)) (jr_of rfl (by omega)) (jr_of rfl (by omega)) (jr_of rfl (by omega)) (jr_of rfl (by omega)) (jso_p (jso_mv (jeq_c S8 rfl jeq_0) (jmc S8 rfl rfl) (jmc S8 rfl rfl) C0) P24 (jrg_f J16 sg_125_18_19_1_0_1).1) (by omega) (by omega) qu18 qu21 qu19 qu20 J Sm)
set_option maxRecDepth 100000 in
set_option maxHeartbeats 4000000 in
theorem sf_X12_spell_r125 {Dy : jH → Prop} {h : jH} {Q : Option Value → jH → Prop} {a1 : Int32} (hD : jDk Dy) (J : jJ jSgM Dy h) (hQ : ∀ (v : Int32) hx9, jJ jSgM Dy hx9 → jSm fp_X12_spell_r125 h hx9 → Q (some (.int v)) hx9) : jC m_X12_spell 6 0 0 [.ref 125, .int a1] h Q := by
  refine jC.of rfl k_X12_spell rfl ?_
  have Sm := jSm_rf fp_X12_spell_r125 h
  have ea1 := jfull a1
  show jX m_X12_spell 6 0 0 0 [(0, .ref 125), (1, .int a1)] [] _ 0 0 _
  refine x_aloadn (x := 125) rfl rfl ?_
  refine x_iconst (v := 0) rfl ki_0 ?_
  refine z_putI (N := 92) (w := 0) 12 0 rfl f_12_180 rfl (jfin_no TX12 RX12 92 rfl rfl) hD J Sm rfl rfl jk_0 (pw_125_0 (by omega)) rfl (fun h w1 J Sm => ?_)
  refine x_iloadn (x := a1) rfl rfl ?_
  refine z_i2l rfl rfl (fun v2 ev2 => ?_)
  refine x_lconst (v := 0) rfl kl_0 ?_
  refine x_ldc2 (v := 15) rfl z_12_271 ?_
  refine x_inst (N := m_X12_in) (As := [.long v2, .long 0, .long 15]) (st := []) (dx9 := 1) (mc := 0) (ms := 0) (host := "") rfl t_X12_in ⟨Or.inl q_12_188, s_X12_in⟩ rfl (by decide) rfl rfl ⟨by decide, by decide⟩ (zc_X12_in rfl jkl_0 jkl_15 (fun v3 ev3 => ?_))
  show jX m_X12_spell 6 0 0 14 [(0, .ref 125), (1, .int a1)] [.int v3] _ 0 0 _
  refine x_ifne (tgt := 28) rfl rfl (ti_ne rfl jk_0 ⟨fun c4 => ?_, fun c4 => ?_⟩)
  ·
    refine x_aloadn (x := 125) rfl rfl ?_
    refine x_inv (N := m_X12_begin) (As := []) (b := 125) (st := []) (dx9 := 5) (mc := 0) (ms := 0) (host := "") 12 rfl t_X12_begin ⟨Or.inl q_12_280, i_X12_begin.1, i_X12_begin.2⟩ ⟨by decide, rfl⟩ (congrArg Prod.fst (J.1.1 125 (12, 92) rfl)) rfl (by decide) rfl rfl ⟨by decide, by decide⟩ (jC.of rfl k_X12_begin rfl ?_)
    show jX m_X12_begin 5 0 0 0 [(0, .ref 125)] [] _ 0 0 _
    refine x_aloadn (x := 125) rfl rfl ?_
    refine x_iconst (v := 0) rfl ki_0 ?_
    refine z_putI (N := 92) (w := 0) 12 10 rfl f_12_211 rfl (jfin_no TX12 RX12 92 rfl rfl) hD J Sm rfl rfl jk_0 (pw_125_10 (by omega)) rfl (fun h w5 J Sm => ?_)
    refine x_aloadn (x := 125) rfl rfl ?_
    refine x_iconst (v := 0) rfl ki_0 ?_
    refine z_putZ (N := 92) (w := 0) 12 14 rfl f_12_214 rfl (jfin_no TX12 RX12 92 rfl rfl) hD J Sm rfl rfl jk_0 (by omega) (pw_125_14 (by omega)) rfl (fun h w6 J Sm => ?_)
    refine x_aloadn (x := 125) rfl rfl ?_
    refine x_iconst (v := (-1)) rfl ki_m1 ?_
    refine z_putI (N := 92) (w := (-1)) 12 13 rfl f_12_32 rfl (jfin_no TX12 RX12 92 rfl rfl) hD J Sm rfl rfl jk_m1 (pw_125_13 (by omega)) rfl (fun h w7 J Sm => ?_)
    refine x_aloadn (x := 125) rfl rfl ?_
    obtain ⟨u8, qu8⟩ : ∃ v : Int32, jiv h 125 8 = v := ⟨_, rfl⟩
    have eu8 := (show 0 ≤ u8.toInt ∧ u8.toInt ≤ 400 from qu8 ▸ jrg_f J sg_125_8_9_1_0_1)
    refine x_inv (N := m_X12_next) (As := []) (b := 125) (st := []) (dx9 := 2) (mc := 0) (ms := 0) (host := "") 12 rfl t_X12_next ⟨Or.inl q_12_218, i_X12_next.1, i_X12_next.2⟩ ⟨by decide, rfl⟩ (congrArg Prod.fst (J.1.1 125 (12, 92) rfl)) rfl (by decide) rfl rfl ⟨by decide, by decide⟩ (sf_X12_next_r125  hD J (jmo w7 rfl (jmo w6 rfl (jmw w5))) qu8 (by have := jk_0; omega)  (fun h J S9 u10 u11 u12 qu10 qu11 qu12 ru10 u13 u14 u15 qu13 qu14 qu15 ru13 P16 => ?_))
    have Sm := jSm_tr rfl Sm S9
    have eu10 := (show 0 ≤ u10.toInt ∧ u10.toInt ≤ 400 from qu10 ▸ jrg_f J sg_125_10_11_1_0_1)
    have eu11 := (show 0 ≤ u11.toInt ∧ u11.toInt ≤ 400 from qu11 ▸ jrg_f J sg_125_8_9_1_0_1)
    have eu12 := (show 0 ≤ u12.toInt ∧ u12.toInt ≤ 400 from qu12 ▸ jrg_f J sg_125_9_10_1_0_1)
    have eu13 := (show 0 ≤ u13.toInt ∧ u13.toInt ≤ 3 from qu13 ▸ jrg_f J sg_125_11_12_1_0_1)
    obtain rfl : u12 = u14 := qu12.symm.trans qu14
    obtain rfl : u10 = u15 := qu10.symm.trans qu15
    have nfP16 := jnf P16.1 (jmo w7 rfl (jmo w6 rfl (jmw w5))) qu12
    show jX m_X12_begin 5 0 0 19 [(0, .ref 125)] [] _ 0 0 _
    refine x_vret rfl rfl ?_
    show jX m_X12_spell 6 0 0 32 [(0, .ref 125), (1, .int a1)] [] _ 0 0 _
    refine x_aloadn (x := 125) rfl rfl ?_
    refine x_iconst (v := 0) rfl ki_0 ?_
    refine z_putI (N := 92) (w := 0) 12 18 rfl f_12_302 rfl (jfin_no TX12 RX12 92 rfl rfl) hD J Sm rfl rfl jk_0 (pw_125_18 (by omega)) rfl (fun h w17 J Sm => ?_)
    refine x_aloadn (x := 125) rfl rfl ?_
    refine z_getM (N := 92) (v := u13) 12 11 rfl f_12_235 rfl J rfl (jmo w17 rfl qu13) ?_
    refine x_ifeq (tgt := 94) rfl rfl (ti_eq rfl jk_0 ⟨fun c18 => ?_, fun c18 => ?_⟩)
    ·
      exact jX.sub (jsb_c rfl (jsb_c rfl jsb_n)) (ct_X12_spell_r125_94 hD hQ  a1 u10 u13 0 u11 u12 h (jr_of rfl (by omega)) (jr_of rfl (by omega)) (jr_of rfl (by omega)) (jr_of jk_0 (by omega)) (jr_of rfl (by omega)) (jr_of rfl (by omega)) (jso_0 (jmw w17)) (by omega) (by omega) (jmo w17 rfl qu10) (jmo w17 rfl qu13) (jmo w17 rfl (jmc S9 rfl (jmo w7 rfl (jmw w6)))) (jmo w17 rfl qu11) (jmo w17 rfl qu12) J Sm)
    ·
      refine x_aloadn (x := 125) rfl rfl ?_
      have J19 := J
      refine x_inv (N := m_X12_readPair) (As := []) (b := 125) (st := []) (dx9 := 5) (mc := 0) (ms := 0) (host := "") 12 rfl t_X12_readPair ⟨Or.inl q_12_308, i_X12_readPair.1, i_X12_readPair.2⟩ ⟨by decide, rfl⟩ (congrArg Prod.fst (J.1.1 125 (12, 92) rfl)) rfl (by decide) rfl rfl ⟨by decide, by decide⟩ (sf_X12_readPair_r125  hD J (jmo w17 rfl qu10) (jmo w17 rfl qu11) (jmo w17 rfl qu12) (by omega) (jmo w17 rfl qu13) (jmo w17 rfl qu12) (jmo w17 rfl qu10) (by omega)  (fun h J S20 u21 u22 u23 qu21 qu22 qu23 ru21 u24 u25 u26 qu24 qu25 qu26 ru24 P27 => ?_))
      have Sm := jSm_tr rfl Sm S20
      have eu21 := (show 0 ≤ u21.toInt ∧ u21.toInt ≤ 400 from qu21 ▸ jrg_f J sg_125_10_11_1_0_1)
      have eu22 := (show 0 ≤ u22.toInt ∧ u22.toInt ≤ 400 from qu22 ▸ jrg_f J sg_125_8_9_1_0_1)
      have eu23 := (show 0 ≤ u23.toInt ∧ u23.toInt ≤ 400 from qu23 ▸ jrg_f J sg_125_9_10_1_0_1)
      have eu24 := (show 0 ≤ u24.toInt ∧ u24.toInt ≤ 3 from qu24 ▸ jrg_f J sg_125_11_12_1_0_1)
      obtain rfl : u23 = u25 := qu23.symm.trans qu25
      obtain rfl : u21 = u26 := qu21.symm.trans qu26
      show jX m_X12_spell 6 0 0 48 [(0, .ref 125), (1, .int a1)] [] _ 0 0 _
      exact jX.sub (jsb_c rfl (jsb_c rfl jsb_n)) (ct_X12_spell_r125_48 hD hQ  12 a1 u21 u24 u22 u23 h (by have := (jsm_b (h := h) (jrg_f J sg_125_18_19_1_0_1)).2; omega) (jr_of rfl (by omega)) (jr_of rfl (by omega)) (jr_of rfl (by omega)) (jr_of rfl (by omega)) (jr_of rfl (by omega)) (jso_p (jso_0 (jmw w17)) P27 (jrg_f J19 sg_125_18_19_1_0_1).1) (by omega) (by omega) qu21 qu24 qu22 qu23 J Sm)
  ·
    refine x_aloadn (x := 125) rfl rfl ?_
    refine x_iconst (v := 0) rfl ki_0 ?_
    refine z_putI (N := 92) (w := 0) 12 8 rfl f_12_201 rfl (jfin_no TX12 RX12 92 rfl rfl) hD J Sm rfl rfl jk_0 (pw_125_8 (by omega)) rfl (fun h w28 J Sm => ?_)
    refine x_aloadn (x := 125) rfl rfl ?_
    refine x_iconst (v := (-1)) rfl ki_m1 ?_
    refine x_inv (N := m_X12_told) (As := [.int (-1)]) (b := 125) (st := []) (dx9 := 1) (mc := 0) (ms := 0) (host := "") 12 rfl t_X12_told ⟨Or.inl q_12_197, i_X12_told.1, i_X12_told.2⟩ ⟨by decide, rfl⟩ (congrArg Prod.fst (J.1.1 125 (12, 92) rfl)) rfl (by decide) rfl rfl ⟨by decide, by decide⟩ (sf_X12_told_r125  hD J  (fun v30 h J S29 => ?_))
    have ev30 := jfull v30
    have Sm := jSm_tr rfl Sm S29
    show jX m_X12_spell 6 0 0 27 [(0, .ref 125), (1, .int a1)] [.int v30] _ 0 0 _
    refine x_iret rfl rfl ?_
    exact hQ _ _ J Sm
