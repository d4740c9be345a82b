def fp_X12_behindSum_r125 : jFp := [(125, 9, 10), (125, 10, 11), (125, 11, 12), (125, 12, 13), (125, 13, 14), (125, 14, 15), (125, 49, 50), (125, 55, 56), (125, 56, 57), (148, 0, 400), (149, 0, 400), (150, 0, 400), (151, 0, 400)]
set_option maxRecDepth 100000 in
set_option maxHeartbeats 4000000 in
theorem ct_X12_behindSum_r125_211 {Dy : jH → Prop} {h0 : jH} {Q : Option Value → jH → Prop} {A : Nat} (hA : jTu 0 h0 A 1) (hD : jDk Dy) (hQ : ∀ (v : Int32) hx9, 1 ≤ v.toInt ∧ v.toInt ≤ 4 → jJ jSgM Dy hx9 → jSm fp_X12_behindSum_r125 h0 hx9 → ∀ u0 u1 u2 : Int32, jiv hx9 125 10 = u0 → jiv hx9 125 8 = u1 → jiv hx9 125 9 = u2 → (u0.toInt ≤ u1.toInt ∧ u2.toInt ≤ u0.toInt) → ∀ u3 u4 u5 : Int32, jiv hx9 125 11 = u3 → jiv hx9 125 9 = u4 → jiv hx9 125 10 = u5 → (u3.toInt = 0 ∨ u4.toInt + 1 ≤ u5.toInt) → jBp 2 4 A h0 v.toInt hx9 → Q (some (.int v)) hx9) : ∀ (g0 : Int32) (g1 : Int32) (g2 : Int32) (g3 : Int32) (h : jH), 0 ≤ g0.toInt ∧ g0.toInt ≤ 400 → 0 ≤ g1.toInt ∧ g1.toInt ≤ 3 → 0 ≤ g2.toInt ∧ g2.toInt ≤ 400 → 0 ≤ g3.toInt ∧ g3.toInt ≤ 400 → (jTn A 1 h ∧ jFm 1 A h0 h) → (g0.toInt ≤ g2.toInt ∧ g3.toInt ≤ g0.toInt) → (g1.toInt = 0 ∨ g3.toInt + 1 ≤ g0.toInt) → jiv h 125 10 = g0 → jiv h 125 11 = g1 → jiv h 125 8 = g2 → jiv h 125 9 = g3 → jJ jSgM Dy h → jSm fp_X12_behindSum_r125 h0 h → jX m_X12_behindSum 4 0 0 211 [] [] h 0 0 Q := by
  intro g0 g1 g2 g3 h y0 y1 y2 y3 C0 y5 y6 z0 z1 z2 z3  J Sm
  refine x_iconst (v := 1) rfl ki_1 ?_
  refine x_iret rfl rfl ?_
  exact hQ _ _ (jr_of jk_1 (by omega)) J Sm _ _ _ z0 z2 z3 (by omega) _ _ _ z1 z3 z0 (by omega) (by rw [jk_1]; exact jbp_1 C0)
set_option maxRecDepth 100000 in
set_option maxHeartbeats 4000000 in
theorem ct_X12_behindSum_r125_200190 {Dy : jH → Prop} {h0 : jH} {Q : Option Value → jH → Prop} {A : Nat} (hA : jTu 0 h0 A 1) (hD : jDk Dy) (hQ : ∀ (v : Int32) hx9, 1 ≤ v.toInt ∧ v.toInt ≤ 4 → jJ jSgM Dy hx9 → jSm fp_X12_behindSum_r125 h0 hx9 → ∀ u0 u1 u2 : Int32, jiv hx9 125 10 = u0 → jiv hx9 125 8 = u1 → jiv hx9 125 9 = u2 → (u0.toInt ≤ u1.toInt ∧ u2.toInt ≤ u0.toInt) → ∀ u3 u4 u5 : Int32, jiv hx9 125 11 = u3 → jiv hx9 125 9 = u4 → jiv hx9 125 10 = u5 → (u3.toInt = 0 ∨ u4.toInt + 1 ≤ u5.toInt) → jBp 2 4 A h0 v.toInt hx9 → Q (some (.int v)) hx9) : ∀ (l3 : Int32) (g0 : Int32) (g1 : Int32) (g2 : Int32) (g3 : Int32) (h : jH), 12 ≤ l3.toInt ∧ l3.toInt ≤ 12 → 0 ≤ g0.toInt ∧ g0.toInt ≤ 400 → 0 ≤ g1.toInt ∧ g1.toInt ≤ 3 → 0 ≤ g2.toInt ∧ g2.toInt ≤ 400 → 0 ≤ g3.toInt ∧ g3.toInt ≤ 400 → jSa h0 h → ((jiv h0 125 14).toInt ≠ 0 ∨ jNsq h0) → (g0.toInt ≤ g2.toInt ∧ g3.toInt ≤ g0.toInt) → (g1.toInt = 0 ∨ g3.toInt + 1 ≤ g0.toInt) → jiv h 125 10 = g0 → jiv h 125 11 = g1 → jiv h 125 8 = g2 → jiv h 125 9 = g3 → jJ jSgM Dy h → jSm fp_X12_behindSum_r125 h0 h → jX m_X12_behindSum 4 0 0 190 [(0, .ref 125), (3, .int l3)] [.int 0, .ref 125] h 0 0 Q := by
  intro l3 g0 g1 g2 g3 h y0 y1 y2 y3 y4 C0 C1 y7 y8 z0 z1 z2 z3  J Sm
  refine x_inv (N := m_X12_must) (As := [.int 0]) (b := 125) (st := []) (dx9 := 3) (mc := 0) (ms := 0) (host := "") 12 rfl t_X12_must ⟨Or.inl q_12_250, i_X12_must.1, i_X12_must.2⟩ ⟨by decide, rfl⟩ (congrArg Prod.fst (J.1.1 125 (12, 92) rfl)) rfl (by decide) rfl rfl ⟨by decide, by decide⟩ (jC.of rfl k_X12_must rfl ?_)
  show jX m_X12_must 3 0 0 0 [(0, .ref 125), (1, .int 0)] [] _ 0 0 _
  refine x_aloadn (x := 125) rfl rfl ?_
  refine z_getI (N := 92) 12 14 rfl f_12_214 rfl J rfl sg_125_14_15_1_0_1 (fun v1 qv1 ev1 => ?_)
  refine x_ifne (tgt := 24) rfl rfl (ti_ne rfl jk_0 ⟨fun c2 => ?_, fun c2 => ?_⟩)
  ·
    refine x_aloadn (x := 125) rfl rfl ?_
    refine z_getM (N := 92) (v := v1) 12 14 rfl f_12_214 rfl J rfl qv1 ?_
    refine x_ifne (tgt := 35) rfl rfl (ti_ne rfl jk_0 (bn_t (by omega) ?_))
    refine x_vret rfl rfl ?_
    show jX m_X12_behindSum 4 0 0 193 [(0, .ref 125), (3, .int l3)] [] _ 0 0 _
    refine x_aloadn (x := 125) rfl rfl ?_
    refine z_getM (N := 92) (v := v1) 12 14 rfl f_12_214 rfl J rfl qv1 ?_
    refine x_ifne (tgt := 211) rfl rfl (ti_ne rfl jk_0 (bn_t (by omega) ?_))
    exact jX.sub jsb_n (ct_X12_behindSum_r125_211 hA hD hQ  g0 g1 g2 g3 h (jr_of rfl (by omega)) (jr_of rfl (by omega)) (jr_of rfl (by omega)) (jr_of rfl (by omega)) (jmu_tb (jmu_bad hA C0.1 C0.2.1 C0.2.2.1 C0.2.2.2.1 C0.2.2.2.2.1 C0.2.2.2.2.2.1 C0.2.2.2.2.2.2.1 qv1 (by omega)) qv1 (by omega)) (by omega) (by omega) z0 z1 z2 z3 J Sm)
  ·
    refine x_iloadn (x := 0) rfl rfl ?_
    refine x_ifne (tgt := 24) rfl rfl (ti_ne jk_0 jk_0 (bn_f (by omega) ?_))
    refine x_aloadn (x := 125) rfl rfl ?_
    refine x_iconst (v := 1) rfl ki_1 ?_
    refine z_putZ (N := 92) (w := 1) 12 14 rfl f_12_214 rfl (jfin_no TX12 RX12 92 rfl rfl) hD J Sm rfl rfl jk_1 (by omega) (pw_125_14 (by omega)) rfl (fun h w3 J Sm => ?_)
    refine x_aloadn (x := 125) rfl rfl ?_
    refine x_aloadn (x := 125) rfl rfl ?_
    refine z_getM (N := 92) (v := g3) 12 9 rfl f_12_221 rfl J rfl (jmo w3 rfl z3) ?_
    refine z_putI (N := 92) (w := g3.toInt) 12 13 rfl f_12_32 rfl (jfin_no TX12 RX12 92 rfl rfl) hD J Sm rfl rfl rfl (pw_125_13 (by omega)) rfl (fun h w4 J Sm => ?_)
    refine x_aloadn (x := 125) rfl rfl ?_
    refine z_getM (N := 92) (v := 1) 12 14 rfl f_12_214 rfl J rfl (jmo w4 rfl (jmw w3)) ?_
    refine x_ifne (tgt := 35) rfl rfl (ti_ne jk_1 jk_0 (bn_t (by omega) ?_))
    refine x_vret rfl rfl ?_
    show jX m_X12_behindSum 4 0 0 193 [(0, .ref 125), (3, .int l3)] [] _ 0 0 _
    refine x_aloadn (x := 125) rfl rfl ?_
    refine z_getM (N := 92) (v := 1) 12 14 rfl f_12_214 rfl J rfl (jmo w4 rfl (jmw w3)) ?_
    refine x_ifne (tgt := 211) rfl rfl (ti_ne jk_1 jk_0 (bn_t (by omega) ?_))
    exact jX.sub jsb_n (ct_X12_behindSum_r125_211 hA hD hQ  g0 g1 g2 g3 h (jr_of rfl (by omega)) (jr_of rfl (by omega)) (jr_of rfl (by omega)) (jr_of rfl (by omega)) (jmu_tb (jmu_bad hA (jeq_o w4 rfl (jeq_o w3 rfl C0.1)) (jeq_o w4 rfl (jeq_o w3 rfl C0.2.1)) (jeq_o w4 rfl (jeq_o w3 rfl C0.2.2.1)) (jeq_o w4 rfl (jeq_o w3 rfl C0.2.2.2.1)) (jmo w4 rfl (jmo w3 rfl C0.2.2.2.2.1)) (jmo w4 rfl (jmo w3 rfl C0.2.2.2.2.2.1)) (jmo w4 rfl (jmo w3 rfl C0.2.2.2.2.2.2.1)) (jmo w4 rfl (jmw w3)) (by decide)) (jmo w4 rfl (jmw w3)) (by decide)) (by omega) (by omega) (jmo w4 rfl (jmo w3 rfl z0)) (jmo w4 rfl (jmo w3 rfl z1)) (jmo w4 rfl (jmo w3 rfl z2)) (jmo w4 rfl (jmo w3 rfl z3)) J Sm)
set_option maxRecDepth 100000 in
set_option maxHeartbeats 4000000 in
theorem ct_X12_behindSum_r125_300190 {Dy : jH → Prop} {h0 : jH} {Q : Option Value → jH → Prop} {A : Nat} (hA : jTu 0 h0 A 1) (hD : jDk Dy) (hQ : ∀ (v : Int32) hx9, 1 ≤ v.toInt ∧ v.toInt ≤ 4 → jJ jSgM Dy hx9 → jSm fp_X12_behindSum_r125 h0 hx9 → ∀ u0 u1 u2 : Int32, jiv hx9 125 10 = u0 → jiv hx9 125 8 = u1 → jiv hx9 125 9 = u2 → (u0.toInt ≤ u1.toInt ∧ u2.toInt ≤ u0.toInt) → ∀ u3 u4 u5 : Int32, jiv hx9 125 11 = u3 → jiv hx9 125 9 = u4 → jiv hx9 125 10 = u5 → (u3.toInt = 0 ∨ u4.toInt + 1 ≤ u5.toInt) → jBp 2 4 A h0 v.toInt hx9 → Q (some (.int v)) hx9) : ∀ (l3 : Int32) (g0 : Int32) (g1 : Int32) (g2 : Int32) (g3 : Int32) (h : jH), 10 ≤ l3.toInt ∧ l3.toInt ≤ 12 → 0 ≤ g0.toInt ∧ g0.toInt ≤ 400 → 0 ≤ g1.toInt ∧ g1.toInt ≤ 3 → 0 ≤ g2.toInt ∧ g2.toInt ≤ 400 → 0 ≤ g3.toInt ∧ g3.toInt ≤ 400 → jSa h0 h → ((jiv h0 125 14).toInt ≠ 0 ∨ jNsq h0) → g1.toInt ≠ 0 → (g0.toInt ≤ g2.toInt ∧ g3.toInt ≤ g0.toInt) → (g1.toInt = 0 ∨ g3.toInt + 1 ≤ g0.toInt) → jiv h 125 10 = g0 → jiv h 125 11 = g1 → jiv h 125 8 = g2 → jiv h 125 9 = g3 → jJ jSgM Dy h → jSm fp_X12_behindSum_r125 h0 h → jX m_X12_behindSum 4 0 0 190 [(0, .ref 125), (3, .int l3)] [.int 1, .ref 125] h 0 0 Q := by
  intro l3 g0 g1 g2 g3 h y0 y1 y2 y3 y4 C0 C1 y7 y8 y9 z0 z1 z2 z3  J Sm
  refine x_inv (N := m_X12_must) (As := [.int 1]) (b := 125) (st := []) (dx9 := 3) (mc := 0) (ms := 0) (host := "") 12 rfl t_X12_must ⟨Or.inl q_12_250, i_X12_must.1, i_X12_must.2⟩ ⟨by decide, rfl⟩ (congrArg Prod.fst (J.1.1 125 (12, 92) rfl)) rfl (by decide) rfl rfl ⟨by decide, by decide⟩ (jC.of rfl k_X12_must rfl ?_)
  show jX m_X12_must 3 0 0 0 [(0, .ref 125), (1, .int 1)] [] _ 0 0 _
  refine x_aloadn (x := 125) rfl rfl ?_
  refine z_getI (N := 92) 12 14 rfl f_12_214 rfl J rfl sg_125_14_15_1_0_1 (fun v1 qv1 ev1 => ?_)
  refine x_ifne (tgt := 24) rfl rfl (ti_ne rfl jk_0 ⟨fun c2 => ?_, fun c2 => ?_⟩)
  ·
    refine x_aloadn (x := 125) rfl rfl ?_
    refine z_getM (N := 92) (v := v1) 12 14 rfl f_12_214 rfl J rfl qv1 ?_
    refine x_ifne (tgt := 35) rfl rfl (ti_ne rfl jk_0 (bn_t (by omega) ?_))
    refine x_vret rfl rfl ?_
    show jX m_X12_behindSum 4 0 0 193 [(0, .ref 125), (3, .int l3)] [] _ 0 0 _
    refine x_aloadn (x := 125) rfl rfl ?_
    refine z_getM (N := 92) (v := v1) 12 14 rfl f_12_214 rfl J rfl qv1 ?_
    refine x_ifne (tgt := 211) rfl rfl (ti_ne rfl jk_0 (bn_t (by omega) ?_))
    exact jX.sub jsb_n (ct_X12_behindSum_r125_211 hA hD hQ  g0 g1 g2 g3 h (jr_of rfl (by omega)) (jr_of rfl (by omega)) (jr_of rfl (by omega)) (jr_of rfl (by omega)) (jmu_tb (jmu_bad hA C0.1 C0.2.1 C0.2.2.1 C0.2.2.2.1 C0.2.2.2.2.1 C0.2.2.2.2.2.1 C0.2.2.2.2.2.2.1 qv1 (by omega)) qv1 (by omega)) (by omega) (by omega) z0 z1 z2 z3 J Sm)
  ·
    refine x_iloadn (x := 1) rfl rfl ?_
    refine x_ifne (tgt := 24) rfl rfl (ti_ne jk_1 jk_0 (bn_t (by omega) ?_))
    refine x_aloadn (x := 125) rfl rfl ?_
    refine z_getM (N := 92) (v := v1) 12 14 rfl f_12_214 rfl J rfl qv1 ?_
    refine x_ifne (tgt := 35) rfl rfl (ti_ne rfl jk_0 (bn_f (by omega) ?_))
    refine x_aloadn (x := 125) rfl rfl ?_
    refine x_inv (N := m_X12_next) (As := []) (b := 125) (st := []) (dx9 := 2) (mc := 0) (ms := 0) (host := "") 12 rfl t_X12_next ⟨Or.inl q_12_218, i_X12_next.1, i_X12_next.2⟩ ⟨by decide, rfl⟩ (congrArg Prod.fst (J.1.1 125 (12, 92) rfl)) rfl (by decide) rfl rfl ⟨by decide, by decide⟩ (sf_X12_next_r125  hD J z0 z2 (by omega)  (fun h J S3 u4 u5 u6 qu4 qu5 qu6 ru4 u7 u8 u9 qu7 qu8 qu9 ru7 P10 => ?_))
    have Sm := jSm_tr rfl Sm S3
    have eu4 := (show 0 ≤ u4.toInt ∧ u4.toInt ≤ 400 from qu4 ▸ jrg_f J sg_125_10_11_1_0_1)
    have eu5 := (show 0 ≤ u5.toInt ∧ u5.toInt ≤ 400 from qu5 ▸ jrg_f J sg_125_8_9_1_0_1)
    have eu6 := (show 0 ≤ u6.toInt ∧ u6.toInt ≤ 400 from qu6 ▸ jrg_f J sg_125_9_10_1_0_1)
    have eu7 := (show 0 ≤ u7.toInt ∧ u7.toInt ≤ 3 from qu7 ▸ jrg_f J sg_125_11_12_1_0_1)
    obtain rfl : u6 = u8 := qu6.symm.trans qu8
    obtain rfl : u4 = u9 := qu4.symm.trans qu9
    have nfP10 := jnf P10.1 z0 qu6
    show jX m_X12_must 3 0 0 35 [(0, .ref 125), (1, .int 1)] [] _ 0 0 _
    refine x_vret rfl rfl ?_
    show jX m_X12_behindSum 4 0 0 193 [(0, .ref 125), (3, .int l3)] [] _ 0 0 _
    refine x_aloadn (x := 125) rfl rfl ?_
    refine z_getM (N := 92) (v := v1) 12 14 rfl f_12_214 rfl J rfl (jmc S3 rfl qv1) ?_
    refine x_ifne (tgt := 211) rfl rfl (ti_ne rfl jk_0 (bn_f (by omega) ?_))
    refine x_aloadn (x := 125) rfl rfl ?_
    refine x_iconst (v := 5) rfl ki_5 ?_
    refine x_inv (N := m_X12_settle) (As := [.int 5]) (b := 125) (st := []) (dx9 := 2) (mc := 0) (ms := 0) (host := "") 12 rfl t_X12_settle ⟨Or.inl q_12_548, i_X12_settle.1, i_X12_settle.2⟩ ⟨by decide, rfl⟩ (congrArg Prod.fst (J.1.1 125 (12, 92) rfl)) rfl (by decide) rfl rfl ⟨by decide, by decide⟩ (sf_X12_settle_r125 (jr_of jk_5 (by omega)) (K9 := 1) (by decide) (jmu_1 (jmu_on hA (jeq_c S3 rfl C0.1) (jeq_c S3 rfl C0.2.1) (jeq_c S3 rfl C0.2.2.1) (jeq_c S3 rfl C0.2.2.2.1) (jmc S3 rfl C0.2.2.2.2.1) (jmc S3 rfl C0.2.2.2.2.2.1) (jmc S3 rfl C0.2.2.2.2.2.2.2) (C0.2.2.2.2.2.2.1.symm.trans z3) qu6 (by omega)) (jmc S3 rfl qv1) (by omega)) hD J  (fun h J S11 P12 => ?_))
    have Sm := jSm_tr rfl Sm S11
    show jX m_X12_behindSum 4 0 0 205 [(0, .ref 125), (3, .int l3)] [] _ 0 0 _
    refine x_aloadn (x := 125) rfl rfl ?_
    refine x_iloadn (x := l3) rfl rfl ?_
    refine x_iconst (v := 0) rfl ki_0 ?_
    refine x_inv (N := m_X12_push) (As := [.int l3, .int 0]) (b := 125) (st := []) (dx9 := 3) (mc := 0) (ms := 0) (host := "") 12 rfl t_X12_push ⟨Or.inl q_12_536, i_X12_push.1, i_X12_push.2⟩ ⟨by decide, rfl⟩ (congrArg Prod.fst (J.1.1 125 (12, 92) rfl)) rfl (by decide) rfl rfl ⟨by decide, by decide⟩ (jC.of rfl k_X12_push rfl ?_)
    show jX m_X12_push 3 0 0 0 [(0, .ref 125), (1, .int l3), (2, .int 0)] [] _ 0 0 _
    obtain ⟨u13, qu13⟩ : ∃ v : Int32, jiv h 125 55 = v := ⟨_, rfl⟩
    have eu13 := (show 0 ≤ u13.toInt ∧ u13.toInt ≤ 400 from qu13 ▸ jrg_f J sg_125_55_56_1_0_1)
    have lx := jtw_l P12.1.1.1 qu13 (jmc S11 rfl qu6)
    refine x_aloadn (x := 125) rfl rfl ?_
    refine z_getR (N := 92) (b := 150) 12 53 rfl f_12_105 rfl J rfl 16053 ⟨rfl, rfl⟩ rfl ?_
    refine x_aloadn (x := 125) rfl rfl ?_
    refine z_getM (N := 92) (v := u13) 12 55 rfl f_12_496 rfl J rfl qu13 ?_
    refine x_iloadn (x := l3) rfl rfl ?_
    refine z_iast (N := 400) (l := 0) (u := 400) (w := l3.toInt) rfl hD J Sm rfl rfl rfl (by omega) rfl (wr_150) rfl (fun h w14 J Sm => ?_)
    refine x_aloadn (x := 125) rfl rfl ?_
    refine z_getR (N := 92) (b := 151) 12 54 rfl f_12_108 rfl J rfl 16054 ⟨rfl, rfl⟩ rfl ?_
    refine x_aloadn (x := 125) rfl rfl ?_
    refine z_getM (N := 92) (v := u13) 12 55 rfl f_12_496 rfl J rfl (jmo w14 rfl qu13) ?_
    refine x_iloadn (x := 0) rfl rfl ?_
    refine z_iast (N := 400) (l := 0) (u := 400) (w := 0) rfl hD J Sm rfl rfl rfl (by omega) jk_0 (wr_151) rfl (fun h w15 J Sm => ?_)
    refine x_aloadn (x := 125) rfl rfl ?_
    refine x_dup rfl rfl ?_
    refine z_getM (N := 92) (v := u13) 12 55 rfl f_12_496 rfl J rfl (jmo w15 rfl (jmo w14 rfl qu13)) ?_
    refine x_iconst (v := 1) rfl ki_1 ?_
    refine z_iadd rfl rfl jk_1 (by omega) (fun v16 ev16 => ?_)
    refine z_putI (N := 92) (w := v16.toInt) 12 55 rfl f_12_496 rfl (jfin_no TX12 RX12 92 rfl rfl) hD J Sm rfl rfl rfl (pw_125_55 (by omega)) rfl (fun h w17 J Sm => ?_)
    refine x_vret rfl rfl ?_
    show jX m_X12_behindSum 4 0 0 211 [(0, .ref 125), (3, .int l3)] [] _ 0 0 _
    exact jX.sub jsb_n (ct_X12_behindSum_r125_211 hA hD hQ  u4 u7 u5 u6 h (jr_of rfl (by omega)) (jr_of rfl (by omega)) (jr_of rfl (by omega)) (jr_of rfl (by omega)) (bs_cmp2 (jmu_on hA (jeq_c S3 rfl C0.1) (jeq_c S3 rfl C0.2.1) (jeq_c S3 rfl C0.2.2.1) (jeq_c S3 rfl C0.2.2.2.1) (jmc S3 rfl C0.2.2.2.2.1) (jmc S3 rfl C0.2.2.2.2.2.1) (jmc S3 rfl C0.2.2.2.2.2.2.2) (C0.2.2.2.2.2.2.1.symm.trans z3) qu6 (by omega)) (jmc S3 rfl qv1) (by omega) C1 P12 (jmc S11 rfl rfl) (jmc S11 rfl rfl) qu13 w14 w15 w17 (by omega) (by omega)) (by omega) (by omega) (jmo w17 rfl (jmo w15 rfl (jmo w14 rfl (jmc S11 rfl qu4)))) (jmo w17 rfl (jmo w15 rfl (jmo w14 rfl (jmc S11 rfl qu7)))) (jmo w17 rfl (jmo w15 rfl (jmo w14 rfl (jmc S11 rfl qu5)))) (jmo w17 rfl (jmo w15 rfl (jmo w14 rfl (jmc S11 rfl qu6)))) J Sm)
set_option maxRecDepth 100000 in
set_option maxHeartbeats 4000000 in
theorem ct_X12_behindSum_r125_185 {Dy : jH → Prop} {h0 : jH} {Q : Option Value → jH → Prop} {A : Nat} (hA : jTu 0 h0 A 1) (hD : jDk Dy) (hQ : ∀ (v : Int32) hx9, 1 ≤ v.toInt ∧ v.toInt ≤ 4 → jJ jSgM Dy hx9 → jSm fp_X12_behindSum_r125 h0 hx9 → ∀ u0 u1 u2 : Int32, jiv hx9 125 10 = u0 → jiv hx9 125 8 = u1 → jiv hx9 125 9 = u2 → (u0.toInt ≤ u1.toInt ∧ u2.toInt ≤ u0.toInt) → ∀ u3 u4 u5 : Int32, jiv hx9 125 11 = u3 → jiv hx9 125 9 = u4 → jiv hx9 125 10 = u5 → (u3.toInt = 0 ∨ u4.toInt + 1 ≤ u5.toInt) → jBp 2 4 A h0 v.toInt hx9 → Q (some (.int v)) hx9) : ∀ (l3 : Int32) (g0 : Int32) (g1 : Int32) (g2 : Int32) (g3 : Int32) (h : jH), 10 ≤ l3.toInt ∧ l3.toInt ≤ 12 → 0 ≤ g0.toInt ∧ g0.toInt ≤ 400 → 0 ≤ g1.toInt ∧ g1.toInt ≤ 3 → 0 ≤ g2.toInt ∧ g2.toInt ≤ 400 → 0 ≤ g3.toInt ∧ g3.toInt ≤ 400 → jSa h0 h → ((jiv h0 125 14).toInt ≠ 0 ∨ jNsq h0) → g1.toInt ≠ 0 → (g0.toInt ≤ g2.toInt ∧ g3.toInt ≤ g0.toInt) → (g1.toInt = 0 ∨ g3.toInt + 1 ≤ g0.toInt) → jiv h 125 10 = g0 → jiv h 125 11 = g1 → jiv h 125 8 = g2 → jiv h 125 9 = g3 → jJ jSgM Dy h → jSm fp_X12_behindSum_r125 h0 h → jX m_X12_behindSum 4 0 0 185 [(0, .ref 125), (3, .int l3)] [.ref 125] h 0 0 Q := by
  intro l3 g0 g1 g2 g3 h y0 y1 y2 y3 y4 C0 C1 y7 y8 y9 z0 z1 z2 z3  J Sm
  refine x_iconst (v := 1) rfl ki_1 ?_
  refine x_goto (tgt := 190) rfl rfl ?_
  exact jX.sub (jsb_c rfl (jsb_c rfl jsb_n)) (ct_X12_behindSum_r125_300190 hA hD hQ  l3 g0 g1 g2 g3 h (jr_of rfl (by omega)) (jr_of rfl (by omega)) (jr_of rfl (by omega)) (jr_of rfl (by omega)) (jr_of rfl (by omega)) C0 C1 (by omega) (by omega) (by omega) z0 z1 z2 z3 J Sm)
set_option maxRecDepth 100000 in
set_option maxHeartbeats 4000000 in
theorem ct_X12_behindSum_r125_168 {Dy : jH → Prop} {h0 : jH} {Q : Option Value → jH → Prop} {A : Nat} (hA : jTu 0 h0 A 1) (hD : jDk Dy) (hQ : ∀ (v : Int32) hx9, 1 ≤ v.toInt ∧ v.toInt ≤ 4 → jJ jSgM Dy hx9 → jSm fp_X12_behindSum_r125 h0 hx9 → ∀ u0 u1 u2 : Int32, jiv hx9 125 10 = u0 → jiv hx9 125 8 = u1 → jiv hx9 125 9 = u2 → (u0.toInt ≤ u1.toInt ∧ u2.toInt ≤ u0.toInt) → ∀ u3 u4 u5 : Int32, jiv hx9 125 11 = u3 → jiv hx9 125 9 = u4 → jiv hx9 125 10 = u5 → (u3.toInt = 0 ∨ u4.toInt + 1 ≤ u5.toInt) → jBp 2 4 A h0 v.toInt hx9 → Q (some (.int v)) hx9) : ∀ (s0 : Int32) (g0 : Int32) (g1 : Int32) (g2 : Int32) (g3 : Int32) (h : jH), 10 ≤ s0.toInt ∧ s0.toInt ≤ 12 → 0 ≤ g0.toInt ∧ g0.toInt ≤ 400 → 0 ≤ g1.toInt ∧ g1.toInt ≤ 3 → 0 ≤ g2.toInt ∧ g2.toInt ≤ 400 → 0 ≤ g3.toInt ∧ g3.toInt ≤ 400 → jSa h0 h → ((jiv h0 125 14).toInt ≠ 0 ∨ jNsq h0) → (s0.toInt = 12 ∨ g1.toInt ≠ 0) → (g0.toInt ≤ g2.toInt ∧ g3.toInt ≤ g0.toInt) → (g1.toInt = 0 ∨ g3.toInt + 1 ≤ g0.toInt) → jiv h 125 10 = g0 → jiv h 125 11 = g1 → jiv h 125 8 = g2 → jiv h 125 9 = g3 → jJ jSgM Dy h → jSm fp_X12_behindSum_r125 h0 h → jX m_X12_behindSum 4 0 0 168 [(0, .ref 125)] [.int s0] h 0 0 Q := by
  intro s0 g0 g1 g2 g3 h y0 y1 y2 y3 y4 C0 C1 y7 y8 y9 z0 z1 z2 z3  J Sm
  refine x_istoren (lsx9 := [(3, .int s0), (0, .ref 125)]) rfl rfl rfl ?_
  refine x_aloadn (x := 125) rfl rfl ?_
  refine x_iloadn (x := s0) rfl rfl ?_
  refine x_bipush (v := 12) rfl kb_12 ?_
  refine x_icne (tgt := 185) rfl rfl (ti_ne rfl jk_12 ⟨fun c1 => ?_, fun c1 => ?_⟩)
  ·
    exact jX.sub (jsb_c rfl (jsb_c rfl jsb_n)) (ct_X12_behindSum_r125_185 hA hD hQ  s0 g0 g1 g2 g3 h (jr_of rfl (by omega)) (jr_of rfl (by omega)) (jr_of rfl (by omega)) (jr_of rfl (by omega)) (jr_of rfl (by omega)) C0 C1 (by omega) (by omega) (by omega) z0 z1 z2 z3 J Sm)
  ·
    refine x_aloadn (x := 125) rfl rfl ?_
    refine x_bipush (v := 61) rfl kb_61 ?_
    refine x_inv (N := m_X12_isSign) (As := [.int 61]) (b := 125) (st := [.ref 125]) (dx9 := 3) (mc := 0) (ms := 0) (host := "") 12 rfl t_X12_isSign ⟨Or.inl q_12_257, i_X12_isSign.1, i_X12_isSign.2⟩ ⟨by decide, rfl⟩ (congrArg Prod.fst (J.1.1 125 (12, 92) rfl)) rfl (by decide) rfl rfl ⟨by decide, by decide⟩ (jC.of rfl k_X12_isSign rfl ?_)
    show jX m_X12_isSign 3 0 0 0 [(0, .ref 125), (1, .int 61)] [] _ 0 0 _
    refine x_aloadn (x := 125) rfl rfl ?_
    refine z_getM (N := 92) (v := g1) 12 11 rfl f_12_235 rfl J rfl z1 ?_
    refine x_iconst (v := 3) rfl ki_3 ?_
    refine x_icne (tgt := 22) rfl rfl (ti_ne rfl jk_3 ⟨fun c2 => ?_, fun c2 => ?_⟩)
    ·
      refine x_iconst (v := 0) rfl ki_0 ?_
      refine x_zret rfl rfl (by decide) ?_
      show jX m_X12_behindSum 4 0 0 182 [(3, .int s0), (0, .ref 125)] [.int 0, .ref 125] _ 0 0 _
      refine x_ifeq (tgt := 189) rfl rfl (ti_eq jk_0 jk_0 (br_t (by omega) ?_))
      refine x_iconst (v := 0) rfl ki_0 ?_
      exact jX.sub (jsb_c rfl (jsb_c rfl jsb_n)) (ct_X12_behindSum_r125_200190 hA hD hQ  s0 g0 g1 g2 g3 h (jr_of rfl (by omega)) (jr_of rfl (by omega)) (jr_of rfl (by omega)) (jr_of rfl (by omega)) (jr_of rfl (by omega)) C0 C1 (by omega) (by omega) z0 z1 z2 z3 J Sm)
    ·
      refine x_aloadn (x := 125) rfl rfl ?_
      refine z_getL0 (N := 92) 12 12 rfl f_12_224 rfl J rfl (fun v3 => ?_)
      have ev3 := jfullL v3
      refine x_iloadn (x := 61) rfl rfl ?_
      refine z_i2l rfl jk_61 (fun v4 ev4 => ?_)
      refine z_lcmp rfl rfl rfl (fun v5 ev5 => ?_)
      refine x_ifne (tgt := 22) rfl rfl (ti_ne rfl jk_0 ⟨fun c6 => ?_, fun c6 => ?_⟩)
      ·
        refine x_iconst (v := 0) rfl ki_0 ?_
        refine x_zret rfl rfl (by decide) ?_
        show jX m_X12_behindSum 4 0 0 182 [(3, .int s0), (0, .ref 125)] [.int 0, .ref 125] _ 0 0 _
        refine x_ifeq (tgt := 189) rfl rfl (ti_eq jk_0 jk_0 (br_t (by omega) ?_))
        refine x_iconst (v := 0) rfl ki_0 ?_
        exact jX.sub (jsb_c rfl (jsb_c rfl jsb_n)) (ct_X12_behindSum_r125_200190 hA hD hQ  s0 g0 g1 g2 g3 h (jr_of rfl (by omega)) (jr_of rfl (by omega)) (jr_of rfl (by omega)) (jr_of rfl (by omega)) (jr_of rfl (by omega)) C0 C1 (by omega) (by omega) z0 z1 z2 z3 J Sm)
      ·
        refine x_iconst (v := 1) rfl ki_1 ?_
        refine x_goto (tgt := 23) rfl rfl ?_
        refine x_zret rfl rfl (by decide) ?_
        show jX m_X12_behindSum 4 0 0 182 [(3, .int s0), (0, .ref 125)] [.int 1, .ref 125] _ 0 0 _
        refine x_ifeq (tgt := 189) rfl rfl (ti_eq jk_1 jk_0 (br_f (by omega) ?_))
        exact jX.sub (jsb_c rfl (jsb_c rfl jsb_n)) (ct_X12_behindSum_r125_185 hA hD hQ  s0 g0 g1 g2 g3 h (jr_of rfl (by omega)) (jr_of rfl (by omega)) (jr_of rfl (by omega)) (jr_of rfl (by omega)) (jr_of rfl (by omega)) C0 C1 (by omega) (by omega) (by omega) z0 z1 z2 z3 J Sm)
set_option maxRecDepth 100000 in
set_option maxHeartbeats 4000000 in
theorem ct_X12_behindSum_r125_129 {Dy : jH → Prop} {h0 : jH} {Q : Option Value → jH → Prop} {A : Nat} (hA : jTu 0 h0 A 1) (hD : jDk Dy) (hQ : ∀ (v : Int32) hx9, 1 ≤ v.toInt ∧ v.toInt ≤ 4 → jJ jSgM Dy hx9 → jSm fp_X12_behindSum_r125 h0 hx9 → ∀ u0 u1 u2 : Int32, jiv hx9 125 10 = u0 → jiv hx9 125 8 = u1 → jiv hx9 125 9 = u2 → (u0.toInt ≤ u1.toInt ∧ u2.toInt ≤ u0.toInt) → ∀ u3 u4 u5 : Int32, jiv hx9 125 11 = u3 → jiv hx9 125 9 = u4 → jiv hx9 125 10 = u5 → (u3.toInt = 0 ∨ u4.toInt + 1 ≤ u5.toInt) → jBp 2 4 A h0 v.toInt hx9 → Q (some (.int v)) hx9) : ∀ (g0 : Int32) (g1 : Int32) (g2 : Int32) (g3 : Int32) (h : jH), 0 ≤ g0.toInt ∧ g0.toInt ≤ 400 → 0 ≤ g1.toInt ∧ g1.toInt ≤ 3 → 0 ≤ g2.toInt ∧ g2.toInt ≤ 400 → 0 ≤ g3.toInt ∧ g3.toInt ≤ 400 → jSa h0 h → ((jiv h0 125 14).toInt ≠ 0 ∨ jNsq h0) → (g0.toInt ≤ g2.toInt ∧ g3.toInt ≤ g0.toInt) → (g1.toInt = 0 ∨ g3.toInt + 1 ≤ g0.toInt) → jiv h 125 10 = g0 → jiv h 125 11 = g1 → jiv h 125 8 = g2 → jiv h 125 9 = g3 → jJ jSgM Dy h → jSm fp_X12_behindSum_r125 h0 h → jX m_X12_behindSum 4 0 0 129 [(0, .ref 125)] [] h 0 0 Q := by
  intro g0 g1 g2 g3 h y0 y1 y2 y3 C0 C1 y6 y7 z0 z1 z2 z3  J Sm
  refine x_aloadn (x := 125) rfl rfl ?_
  refine x_inv (N := m_X12_isCompared) (As := []) (b := 125) (st := []) (dx9 := 2) (mc := 0) (ms := 0) (host := "") 12 rfl t_X12_isCompared ⟨Or.inl q_12_554, i_X12_isCompared.1, i_X12_isCompared.2⟩ ⟨by decide, rfl⟩ (congrArg Prod.fst (J.1.1 125 (12, 92) rfl)) rfl (by decide) rfl rfl ⟨by decide, by decide⟩ (sf_X12_isCompared_r125  hD J  (fun v2 h ev2 J S1 => ?_))
  have Sm := jSm_tr rfl Sm S1
  show jX m_X12_behindSum 4 0 0 133 [(0, .ref 125)] [.int v2] _ 0 0 _
  refine x_ifeq (tgt := 138) rfl rfl (ti_eq rfl jk_0 ⟨fun c3 => ?_, fun c3 => ?_⟩)
  ·
    refine x_aloadn (x := 125) rfl rfl ?_
    refine x_bipush (v := 60) rfl kb_60 ?_
    refine x_inv (N := m_X12_isSign) (As := [.int 60]) (b := 125) (st := []) (dx9 := 3) (mc := 0) (ms := 0) (host := "") 12 rfl t_X12_isSign ⟨Or.inl q_12_257, i_X12_isSign.1, i_X12_isSign.2⟩ ⟨by decide, rfl⟩ (congrArg Prod.fst (J.1.1 125 (12, 92) rfl)) rfl (by decide) rfl rfl ⟨by decide, by decide⟩ (jC.of rfl k_X12_isSign rfl ?_)
    show jX m_X12_isSign 3 0 0 0 [(0, .ref 125), (1, .int 60)] [] _ 0 0 _
    refine x_aloadn (x := 125) rfl rfl ?_
    refine z_getM (N := 92) (v := g1) 12 11 rfl f_12_235 rfl J rfl (jmc S1 rfl z1) ?_
    refine x_iconst (v := 3) rfl ki_3 ?_
    refine x_icne (tgt := 22) rfl rfl (ti_ne rfl jk_3 ⟨fun c4 => ?_, fun c4 => ?_⟩)
    ·
      refine x_iconst (v := 0) rfl ki_0 ?_
      refine x_zret rfl rfl (by decide) ?_
      show jX m_X12_behindSum 4 0 0 144 [(0, .ref 125)] [.int 0] _ 0 0 _
      refine x_ifeq (tgt := 152) rfl rfl (ti_eq jk_0 jk_0 (br_t (by omega) ?_))
      refine x_aloadn (x := 125) rfl rfl ?_
      refine x_bipush (v := 62) rfl kb_62 ?_
      refine x_inv (N := m_X12_isSign) (As := [.int 62]) (b := 125) (st := []) (dx9 := 3) (mc := 0) (ms := 0) (host := "") 12 rfl t_X12_isSign ⟨Or.inl q_12_257, i_X12_isSign.1, i_X12_isSign.2⟩ ⟨by decide, rfl⟩ (congrArg Prod.fst (J.1.1 125 (12, 92) rfl)) rfl (by decide) rfl rfl ⟨by decide, by decide⟩ (jC.of rfl k_X12_isSign rfl ?_)
      show jX m_X12_isSign 3 0 0 0 [(0, .ref 125), (1, .int 62)] [] _ 0 0 _
      refine x_aloadn (x := 125) rfl rfl ?_
      refine z_getM (N := 92) (v := g1) 12 11 rfl f_12_235 rfl J rfl (jmc S1 rfl z1) ?_
      refine x_iconst (v := 3) rfl ki_3 ?_
      refine x_icne (tgt := 22) rfl rfl (ti_ne rfl jk_3 (bn_t (by omega) ?_))
      refine x_iconst (v := 0) rfl ki_0 ?_
      refine x_zret rfl rfl (by decide) ?_
      show jX m_X12_behindSum 4 0 0 158 [(0, .ref 125)] [.int 0] _ 0 0 _
      refine x_ifeq (tgt := 166) rfl rfl (ti_eq jk_0 jk_0 (br_t (by omega) ?_))
      refine x_bipush (v := 12) rfl kb_12 ?_
      exact jX.sub (jsb_c rfl jsb_n) (ct_X12_behindSum_r125_168 hA hD hQ  12 g0 g1 g2 g3 h (jr_of jk_12 (by omega)) (jr_of rfl (by omega)) (jr_of rfl (by omega)) (jr_of rfl (by omega)) (jr_of rfl (by omega)) ⟨(jeq_c S1 rfl C0.1), (jeq_c S1 rfl C0.2.1), (jeq_c S1 rfl C0.2.2.1), (jeq_c S1 rfl C0.2.2.2.1), (jmc S1 rfl C0.2.2.2.2.1), (jmc S1 rfl C0.2.2.2.2.2.1), (jmc S1 rfl C0.2.2.2.2.2.2.1), (jmc S1 rfl C0.2.2.2.2.2.2.2)⟩ C1 (by have := jk_12; omega) (by omega) (by omega) (jmc S1 rfl z0) (jmc S1 rfl z1) (jmc S1 rfl z2) (jmc S1 rfl z3) J Sm)
    ·
      refine x_aloadn (x := 125) rfl rfl ?_
      refine z_getL0 (N := 92) 12 12 rfl f_12_224 rfl J rfl (fun v5 => ?_)
      have ev5 := jfullL v5
      refine x_iloadn (x := 60) rfl rfl ?_
      refine z_i2l rfl jk_60 (fun v6 ev6 => ?_)
      refine z_lcmp rfl rfl rfl (fun v7 ev7 => ?_)
      refine x_ifne (tgt := 22) rfl rfl (ti_ne rfl jk_0 ⟨fun c8 => ?_, fun c8 => ?_⟩)
      ·
        refine x_iconst (v := 0) rfl ki_0 ?_
        refine x_zret rfl rfl (by decide) ?_
        show jX m_X12_behindSum 4 0 0 144 [(0, .ref 125)] [.int 0] _ 0 0 _
        refine x_ifeq (tgt := 152) rfl rfl (ti_eq jk_0 jk_0 (br_t (by omega) ?_))
        refine x_aloadn (x := 125) rfl rfl ?_
        refine x_bipush (v := 62) rfl kb_62 ?_
        refine x_inv (N := m_X12_isSign) (As := [.int 62]) (b := 125) (st := []) (dx9 := 3) (mc := 0) (ms := 0) (host := "") 12 rfl t_X12_isSign ⟨Or.inl q_12_257, i_X12_isSign.1, i_X12_isSign.2⟩ ⟨by decide, rfl⟩ (congrArg Prod.fst (J.1.1 125 (12, 92) rfl)) rfl (by decide) rfl rfl ⟨by decide, by decide⟩ (jC.of rfl k_X12_isSign rfl ?_)
        show jX m_X12_isSign 3 0 0 0 [(0, .ref 125), (1, .int 62)] [] _ 0 0 _
        refine x_aloadn (x := 125) rfl rfl ?_
        refine z_getM (N := 92) (v := g1) 12 11 rfl f_12_235 rfl J rfl (jmc S1 rfl z1) ?_
        refine x_iconst (v := 3) rfl ki_3 ?_
        refine x_icne (tgt := 22) rfl rfl (ti_ne rfl jk_3 (bn_f (by omega) ?_))
        refine x_aloadn (x := 125) rfl rfl ?_
        refine z_getL0 (N := 92) 12 12 rfl f_12_224 rfl J rfl (fun v9 => ?_)
        have ev9 := jfullL v9
        refine x_iloadn (x := 62) rfl rfl ?_
        refine z_i2l rfl jk_62 (fun v10 ev10 => ?_)
        refine z_lcmp rfl rfl rfl (fun v11 ev11 => ?_)
        refine x_ifne (tgt := 22) rfl rfl (ti_ne rfl jk_0 ⟨fun c12 => ?_, fun c12 => ?_⟩)
        ·
          refine x_iconst (v := 0) rfl ki_0 ?_
          refine x_zret rfl rfl (by decide) ?_
          show jX m_X12_behindSum 4 0 0 158 [(0, .ref 125)] [.int 0] _ 0 0 _
          refine x_ifeq (tgt := 166) rfl rfl (ti_eq jk_0 jk_0 (br_t (by omega) ?_))
          refine x_bipush (v := 12) rfl kb_12 ?_
          exact jX.sub (jsb_c rfl jsb_n) (ct_X12_behindSum_r125_168 hA hD hQ  12 g0 g1 g2 g3 h (jr_of jk_12 (by omega)) (jr_of rfl (by omega)) (jr_of rfl (by omega)) (jr_of rfl (by omega)) (jr_of rfl (by omega)) ⟨(jeq_c S1 rfl C0.1), (jeq_c S1 rfl C0.2.1), (jeq_c S1 rfl C0.2.2.1), (jeq_c S1 rfl C0.2.2.2.1), (jmc S1 rfl C0.2.2.2.2.1), (jmc S1 rfl C0.2.2.2.2.2.1), (jmc S1 rfl C0.2.2.2.2.2.2.1), (jmc S1 rfl C0.2.2.2.2.2.2.2)⟩ C1 (by have := jk_12; omega) (by omega) (by omega) (jmc S1 rfl z0) (jmc S1 rfl z1) (jmc S1 rfl z2) (jmc S1 rfl z3) J Sm)
        ·
          refine x_iconst (v := 1) rfl ki_1 ?_
          refine x_goto (tgt := 23) rfl rfl ?_
          refine x_zret rfl rfl (by decide) ?_
          show jX m_X12_behindSum 4 0 0 158 [(0, .ref 125)] [.int 1] _ 0 0 _
          refine x_ifeq (tgt := 166) rfl rfl (ti_eq jk_1 jk_0 (br_f (by omega) ?_))
          refine x_bipush (v := 11) rfl kb_11 ?_
          refine x_goto (tgt := 168) rfl rfl ?_
          exact jX.sub (jsb_c rfl jsb_n) (ct_X12_behindSum_r125_168 hA hD hQ  11 g0 g1 g2 g3 h (jr_of jk_11 (by omega)) (jr_of rfl (by omega)) (jr_of rfl (by omega)) (jr_of rfl (by omega)) (jr_of rfl (by omega)) ⟨(jeq_c S1 rfl C0.1), (jeq_c S1 rfl C0.2.1), (jeq_c S1 rfl C0.2.2.1), (jeq_c S1 rfl C0.2.2.2.1), (jmc S1 rfl C0.2.2.2.2.1), (jmc S1 rfl C0.2.2.2.2.2.1), (jmc S1 rfl C0.2.2.2.2.2.2.1), (jmc S1 rfl C0.2.2.2.2.2.2.2)⟩ C1 (by have := jk_11; omega) (by omega) (by omega) (jmc S1 rfl z0) (jmc S1 rfl z1) (jmc S1 rfl z2) (jmc S1 rfl z3) J Sm)
      ·
        refine x_iconst (v := 1) rfl ki_1 ?_
        refine x_goto (tgt := 23) rfl rfl ?_
        refine x_zret rfl rfl (by decide) ?_
        show jX m_X12_behindSum 4 0 0 144 [(0, .ref 125)] [.int 1] _ 0 0 _
        refine x_ifeq (tgt := 152) rfl rfl (ti_eq jk_1 jk_0 (br_f (by omega) ?_))
        refine x_bipush (v := 10) rfl kb_10 ?_
        refine x_goto (tgt := 168) rfl rfl ?_
        exact jX.sub (jsb_c rfl jsb_n) (ct_X12_behindSum_r125_168 hA hD hQ  10 g0 g1 g2 g3 h (jr_of jk_10 (by omega)) (jr_of rfl (by omega)) (jr_of rfl (by omega)) (jr_of rfl (by omega)) (jr_of rfl (by omega)) ⟨(jeq_c S1 rfl C0.1), (jeq_c S1 rfl C0.2.1), (jeq_c S1 rfl C0.2.2.1), (jeq_c S1 rfl C0.2.2.2.1), (jmc S1 rfl C0.2.2.2.2.1), (jmc S1 rfl C0.2.2.2.2.2.1), (jmc S1 rfl C0.2.2.2.2.2.2.1), (jmc S1 rfl C0.2.2.2.2.2.2.2)⟩ C1 (by have := jk_10; omega) (by omega) (by omega) (jmc S1 rfl z0) (jmc S1 rfl z1) (jmc S1 rfl z2) (jmc S1 rfl z3) J Sm)
  ·
    refine x_iconst (v := 2) rfl ki_2 ?_
    refine x_iret rfl rfl ?_
    exact hQ _ _ (jr_of jk_2 (by omega)) J Sm _ _ _ (jmc S1 rfl z0) (jmc S1 rfl z2) (jmc S1 rfl z3) (by omega) _ _ _ (jmc S1 rfl z1) (jmc S1 rfl z3) (jmc S1 rfl z0) (by omega) (by rw [jk_2]; exact jbp_u (bs_told2 hA ⟨(jeq_c S1 rfl C0.1), (jeq_c S1 rfl C0.2.1), (jeq_c S1 rfl C0.2.2.1), (jeq_c S1 rfl C0.2.2.2.1), (jmc S1 rfl C0.2.2.2.2.1), (jmc S1 rfl C0.2.2.2.2.2.1), (jmc S1 rfl C0.2.2.2.2.2.2.1), (jmc S1 rfl C0.2.2.2.2.2.2.2)⟩ C1) (Or.inl rfl))
set_option maxRecDepth 100000 in
set_option maxHeartbeats 4000000 in
theorem ct_X12_behindSum_r125_116 {Dy : jH → Prop} {h0 : jH} {Q : Option Value → jH → Prop} {A : Nat} (hA : jTu 0 h0 A 1) (hD : jDk Dy) (hQ : ∀ (v : Int32) hx9, 1 ≤ v.toInt ∧ v.toInt ≤ 4 → jJ jSgM Dy hx9 → jSm fp_X12_behindSum_r125 h0 hx9 → ∀ u0 u1 u2 : Int32, jiv hx9 125 10 = u0 → jiv hx9 125 8 = u1 → jiv hx9 125 9 = u2 → (u0.toInt ≤ u1.toInt ∧ u2.toInt ≤ u0.toInt) → ∀ u3 u4 u5 : Int32, jiv hx9 125 11 = u3 → jiv hx9 125 9 = u4 → jiv hx9 125 10 = u5 → (u3.toInt = 0 ∨ u4.toInt + 1 ≤ u5.toInt) → jBp 2 4 A h0 v.toInt hx9 → Q (some (.int v)) hx9) : ∀ (g0 : Int32) (g1 : Int32) (g2 : Int32) (g3 : Int32) (h : jH), 0 ≤ g0.toInt ∧ g0.toInt ≤ 400 → 0 ≤ g1.toInt ∧ g1.toInt ≤ 3 → 0 ≤ g2.toInt ∧ g2.toInt ≤ 400 → 0 ≤ g3.toInt ∧ g3.toInt ≤ 400 → (jTn A 3 h ∧ jFm 1 A h0 h) → (g0.toInt ≤ g2.toInt ∧ g3.toInt ≤ g0.toInt) → (g1.toInt = 0 ∨ g3.toInt + 1 ≤ g0.toInt) → jiv h 125 10 = g0 → jiv h 125 11 = g1 → jiv h 125 8 = g2 → jiv h 125 9 = g3 → jJ jSgM Dy h → jSm fp_X12_behindSum_r125 h0 h → jX m_X12_behindSum 4 0 0 116 [] [] h 0 0 Q := by
  intro g0 g1 g2 g3 h y0 y1 y2 y3 C0 y5 y6 z0 z1 z2 z3  J Sm
  refine x_iconst (v := 3) rfl ki_3 ?_
  refine x_iret rfl rfl ?_
  exact hQ _ _ (jr_of jk_3 (by omega)) J Sm _ _ _ z0 z2 z3 (by omega) _ _ _ z1 z3 z0 (by omega) (by rw [jk_3]; exact jbp_1 C0)
set_option maxRecDepth 100000 in
set_option maxHeartbeats 4000000 in
theorem ct_X12_behindSum_r125_100062 {Dy : jH → Prop} {h0 : jH} {Q : Option Value → jH → Prop} {A : Nat} (hA : jTu 0 h0 A 1) (hD : jDk Dy) (hQ : ∀ (v : Int32) hx9, 1 ≤ v.toInt ∧ v.toInt ≤ 4 → jJ jSgM Dy hx9 → jSm fp_X12_behindSum_r125 h0 hx9 → ∀ u0 u1 u2 : Int32, jiv hx9 125 10 = u0 → jiv hx9 125 8 = u1 → jiv hx9 125 9 = u2 → (u0.toInt ≤ u1.toInt ∧ u2.toInt ≤ u0.toInt) → ∀ u3 u4 u5 : Int32, jiv hx9 125 11 = u3 → jiv hx9 125 9 = u4 → jiv hx9 125 10 = u5 → (u3.toInt = 0 ∨ u4.toInt + 1 ≤ u5.toInt) → jBp 2 4 A h0 v.toInt hx9 → Q (some (.int v)) hx9) : ∀ (l1 : Int32) (l2 : Int32) (g0 : Int32) (g1 : Int32) (g2 : Int32) (g3 : Int32) (h : jH), 0 ≤ l1.toInt ∧ l1.toInt ≤ 1 → (-1) ≤ l2.toInt ∧ l2.toInt ≤ 2147483647 → 0 ≤ g0.toInt ∧ g0.toInt ≤ 400 → 0 ≤ g1.toInt ∧ g1.toInt ≤ 3 → 0 ≤ g2.toInt ∧ g2.toInt ≤ 400 → 0 ≤ g3.toInt ∧ g3.toInt ≤ 400 → jSa h0 h → jIr (jiv h 150) l2 (jnL h) → (g0.toInt ≤ g2.toInt ∧ g3.toInt ≤ g0.toInt) → (g1.toInt = 0 ∨ g3.toInt + 1 ≤ g0.toInt) → jiv h 125 10 = g0 → jiv h 125 11 = g1 → jiv h 125 8 = g2 → jiv h 125 9 = g3 → jJ jSgM Dy h → jSm fp_X12_behindSum_r125 h0 h → jX m_X12_behindSum 4 0 0 62 [(0, .ref 125), (1, .int l1), (2, .int l2)] [.int (-1)] h 0 0 Q := by
  intro l1 l2 g0 g1 g2 g3 h y0 y1 y2 y3 y4 y5 C0 C1 y8 y9 z0 z1 z2 z3  J Sm
  refine x_istoren (lsx9 := [(3, .int (-1)), (0, .ref 125), (1, .int l1), (2, .int l2)]) rfl rfl rfl ?_
  refine x_iloadn (x := (-1)) rfl rfl ?_
  refine x_iconst (v := (-1)) rfl ki_m1 ?_
  refine x_iceq (tgt := 88) rfl rfl (ti_eq jk_m1 jk_m1 (br_t (by omega) ?_))
  refine x_iloadn (x := l2) rfl rfl ?_
  refine x_bipush (v := 31) rfl kb_31 ?_
  refine x_icne (tgt := 118) rfl rfl (ti_ne rfl jk_31 ⟨fun c1 => ?_, fun c1 => ?_⟩)
  ·
    refine x_iloadn (x := l2) rfl rfl ?_
    refine x_iconst (v := (-1)) rfl ki_m1 ?_
    refine x_icne (tgt := 129) rfl rfl (ti_ne rfl jk_m1 ⟨fun c2 => ?_, fun c2 => ?_⟩)
    ·
      exact jX.sub (jsb_c rfl jsb_n) (ct_X12_behindSum_r125_129 hA hD hQ  g0 g1 g2 g3 h (jr_of rfl (by omega)) (jr_of rfl (by omega)) (jr_of rfl (by omega)) (jr_of rfl (by omega)) C0 (jns_62 hA C0 C1 (by omega)) (by omega) (by omega) z0 z1 z2 z3 J Sm)
    ·
      refine x_iloadn (x := l1) rfl rfl ?_
      refine x_ifne (tgt := 129) rfl rfl (ti_ne rfl jk_0 ⟨fun c3 => ?_, fun c3 => ?_⟩)
      ·
        exact jX.sub (jsb_c rfl jsb_n) (ct_X12_behindSum_r125_129 hA hD hQ  g0 g1 g2 g3 h (jr_of rfl (by omega)) (jr_of rfl (by omega)) (jr_of rfl (by omega)) (jr_of rfl (by omega)) C0 (jns_62 hA C0 C1 (by omega)) (by omega) (by omega) z0 z1 z2 z3 J Sm)
      ·
        refine x_iconst (v := 4) rfl ki_4 ?_
        refine x_iret rfl rfl ?_
        exact hQ _ _ (jr_of jk_4 (by omega)) J Sm _ _ _ z0 z2 z3 (by omega) _ _ _ z1 z3 z0 (by omega) (by rw [jk_4]; exact jbp_u (bt_over hA C0 C1 (by omega)) (Or.inr rfl))
  ·
    refine x_aloadn (x := 125) rfl rfl ?_
    refine x_aloadn (x := 125) rfl rfl ?_
    refine x_bipush (v := 93) rfl kb_93 ?_
    refine x_inv (N := m_X12_isSign) (As := [.int 93]) (b := 125) (st := [.ref 125]) (dx9 := 3) (mc := 0) (ms := 0) (host := "") 12 rfl t_X12_isSign ⟨Or.inl q_12_257, i_X12_isSign.1, i_X12_isSign.2⟩ ⟨by decide, rfl⟩ (congrArg Prod.fst (J.1.1 125 (12, 92) rfl)) rfl (by decide) rfl rfl ⟨by decide, by decide⟩ (jC.of rfl k_X12_isSign rfl ?_)
    show jX m_X12_isSign 3 0 0 0 [(0, .ref 125), (1, .int 93)] [] _ 0 0 _
    refine x_aloadn (x := 125) rfl rfl ?_
    refine z_getM (N := 92) (v := g1) 12 11 rfl f_12_235 rfl J rfl z1 ?_
    refine x_iconst (v := 3) rfl ki_3 ?_
    refine x_icne (tgt := 22) rfl rfl (ti_ne rfl jk_3 ⟨fun c4 => ?_, fun c4 => ?_⟩)
    ·
      refine x_iconst (v := 0) rfl ki_0 ?_
      refine x_zret rfl rfl (by decide) ?_
      show jX m_X12_behindSum 4 0 0 101 [(3, .int (-1)), (0, .ref 125), (1, .int l1), (2, .int l2)] [.int 0, .ref 125] _ 0 0 _
      refine x_inv (N := m_X12_must) (As := [.int 0]) (b := 125) (st := []) (dx9 := 3) (mc := 0) (ms := 0) (host := "") 12 rfl t_X12_must ⟨Or.inl q_12_250, i_X12_must.1, i_X12_must.2⟩ ⟨by decide, rfl⟩ (congrArg Prod.fst (J.1.1 125 (12, 92) rfl)) rfl (by decide) rfl rfl ⟨by decide, by decide⟩ (jC.of rfl k_X12_must rfl ?_)
      show jX m_X12_must 3 0 0 0 [(0, .ref 125), (1, .int 0)] [] _ 0 0 _
      refine x_aloadn (x := 125) rfl rfl ?_
      refine z_getI (N := 92) 12 14 rfl f_12_214 rfl J rfl sg_125_14_15_1_0_1 (fun v5 qv5 ev5 => ?_)
      refine x_ifne (tgt := 24) rfl rfl (ti_ne rfl jk_0 ⟨fun c6 => ?_, fun c6 => ?_⟩)
      ·
        refine x_aloadn (x := 125) rfl rfl ?_
        refine z_getM (N := 92) (v := v5) 12 14 rfl f_12_214 rfl J rfl qv5 ?_
        refine x_ifne (tgt := 35) rfl rfl (ti_ne rfl jk_0 (bn_t (by omega) ?_))
        refine x_vret rfl rfl ?_
        show jX m_X12_behindSum 4 0 0 104 [(3, .int (-1)), (0, .ref 125), (1, .int l1), (2, .int l2)] [] _ 0 0 _
        refine x_aloadn (x := 125) rfl rfl ?_
        refine z_getM (N := 92) (v := v5) 12 14 rfl f_12_214 rfl J rfl qv5 ?_
        refine x_ifne (tgt := 116) rfl rfl (ti_ne rfl jk_0 (bn_t (by omega) ?_))
        exact jX.sub jsb_n (ct_X12_behindSum_r125_116 hA hD hQ  g0 g1 g2 g3 h (jr_of rfl (by omega)) (jr_of rfl (by omega)) (jr_of rfl (by omega)) (jr_of rfl (by omega)) (jmu_tb (jmu_bad hA C0.1 C0.2.1 C0.2.2.1 C0.2.2.2.1 C0.2.2.2.2.1 C0.2.2.2.2.2.1 C0.2.2.2.2.2.2.1 qv5 (by omega)) qv5 (by omega)) (by omega) (by omega) z0 z1 z2 z3 J Sm)
      ·
        refine x_iloadn (x := 0) rfl rfl ?_
        refine x_ifne (tgt := 24) rfl rfl (ti_ne jk_0 jk_0 (bn_f (by omega) ?_))
        refine x_aloadn (x := 125) rfl rfl ?_
        refine x_iconst (v := 1) rfl ki_1 ?_
        refine z_putZ (N := 92) (w := 1) 12 14 rfl f_12_214 rfl (jfin_no TX12 RX12 92 rfl rfl) hD J Sm rfl rfl jk_1 (by omega) (pw_125_14 (by omega)) rfl (fun h w7 J Sm => ?_)
        refine x_aloadn (x := 125) rfl rfl ?_
        refine x_aloadn (x := 125) rfl rfl ?_
        refine z_getM (N := 92) (v := g3) 12 9 rfl f_12_221 rfl J rfl (jmo w7 rfl z3) ?_
        refine z_putI (N := 92) (w := g3.toInt) 12 13 rfl f_12_32 rfl (jfin_no TX12 RX12 92 rfl rfl) hD J Sm rfl rfl rfl (pw_125_13 (by omega)) rfl (fun h w8 J Sm => ?_)
        refine x_aloadn (x := 125) rfl rfl ?_
        refine z_getM (N := 92) (v := 1) 12 14 rfl f_12_214 rfl J rfl (jmo w8 rfl (jmw w7)) ?_
        refine x_ifne (tgt := 35) rfl rfl (ti_ne jk_1 jk_0 (bn_t (by omega) ?_))
        refine x_vret rfl rfl ?_
        show jX m_X12_behindSum 4 0 0 104 [(3, .int (-1)), (0, .ref 125), (1, .int l1), (2, .int l2)] [] _ 0 0 _
        refine x_aloadn (x := 125) rfl rfl ?_
        refine z_getM (N := 92) (v := 1) 12 14 rfl f_12_214 rfl J rfl (jmo w8 rfl (jmw w7)) ?_
        refine x_ifne (tgt := 116) rfl rfl (ti_ne jk_1 jk_0 (bn_t (by omega) ?_))
        exact jX.sub jsb_n (ct_X12_behindSum_r125_116 hA hD hQ  g0 g1 g2 g3 h (jr_of rfl (by omega)) (jr_of rfl (by omega)) (jr_of rfl (by omega)) (jr_of rfl (by omega)) (jmu_tb (jmu_bad hA (jeq_o w8 rfl (jeq_o w7 rfl C0.1)) (jeq_o w8 rfl (jeq_o w7 rfl C0.2.1)) (jeq_o w8 rfl (jeq_o w7 rfl C0.2.2.1)) (jeq_o w8 rfl (jeq_o w7 rfl C0.2.2.2.1)) (jmo w8 rfl (jmo w7 rfl C0.2.2.2.2.1)) (jmo w8 rfl (jmo w7 rfl C0.2.2.2.2.2.1)) (jmo w8 rfl (jmo w7 rfl C0.2.2.2.2.2.2.1)) (jmo w8 rfl (jmw w7)) (by decide)) (jmo w8 rfl (jmw w7)) (by decide)) (by omega) (by omega) (jmo w8 rfl (jmo w7 rfl z0)) (jmo w8 rfl (jmo w7 rfl z1)) (jmo w8 rfl (jmo w7 rfl z2)) (jmo w8 rfl (jmo w7 rfl z3)) J Sm)
    ·
      refine x_aloadn (x := 125) rfl rfl ?_
      refine z_getL0 (N := 92) 12 12 rfl f_12_224 rfl J rfl (fun v9 => ?_)
      have ev9 := jfullL v9
      refine x_iloadn (x := 93) rfl rfl ?_
      refine z_i2l rfl jk_93 (fun v10 ev10 => ?_)
      refine z_lcmp rfl rfl rfl (fun v11 ev11 => ?_)
      refine x_ifne (tgt := 22) rfl rfl (ti_ne rfl jk_0 ⟨fun c12 => ?_, fun c12 => ?_⟩)
      ·
        refine x_iconst (v := 0) rfl ki_0 ?_
        refine x_zret rfl rfl (by decide) ?_
        show jX m_X12_behindSum 4 0 0 101 [(3, .int (-1)), (0, .ref 125), (1, .int l1), (2, .int l2)] [.int 0, .ref 125] _ 0 0 _
        refine x_inv (N := m_X12_must) (As := [.int 0]) (b := 125) (st := []) (dx9 := 3) (mc := 0) (ms := 0) (host := "") 12 rfl t_X12_must ⟨Or.inl q_12_250, i_X12_must.1, i_X12_must.2⟩ ⟨by decide, rfl⟩ (congrArg Prod.fst (J.1.1 125 (12, 92) rfl)) rfl (by decide) rfl rfl ⟨by decide, by decide⟩ (jC.of rfl k_X12_must rfl ?_)
        show jX m_X12_must 3 0 0 0 [(0, .ref 125), (1, .int 0)] [] _ 0 0 _
        refine x_aloadn (x := 125) rfl rfl ?_
        refine z_getI (N := 92) 12 14 rfl f_12_214 rfl J rfl sg_125_14_15_1_0_1 (fun v13 qv13 ev13 => ?_)
        refine x_ifne (tgt := 24) rfl rfl (ti_ne rfl jk_0 ⟨fun c14 => ?_, fun c14 => ?_⟩)
        ·
          refine x_aloadn (x := 125) rfl rfl ?_
          refine z_getM (N := 92) (v := v13) 12 14 rfl f_12_214 rfl J rfl qv13 ?_
          refine x_ifne (tgt := 35) rfl rfl (ti_ne rfl jk_0 (bn_t (by omega) ?_))
          refine x_vret rfl rfl ?_
          show jX m_X12_behindSum 4 0 0 104 [(3, .int (-1)), (0, .ref 125), (1, .int l1), (2, .int l2)] [] _ 0 0 _
          refine x_aloadn (x := 125) rfl rfl ?_
          refine z_getM (N := 92) (v := v13) 12 14 rfl f_12_214 rfl J rfl qv13 ?_
          refine x_ifne (tgt := 116) rfl rfl (ti_ne rfl jk_0 (bn_t (by omega) ?_))
          exact jX.sub jsb_n (ct_X12_behindSum_r125_116 hA hD hQ  g0 g1 g2 g3 h (jr_of rfl (by omega)) (jr_of rfl (by omega)) (jr_of rfl (by omega)) (jr_of rfl (by omega)) (jmu_tb (jmu_bad hA C0.1 C0.2.1 C0.2.2.1 C0.2.2.2.1 C0.2.2.2.2.1 C0.2.2.2.2.2.1 C0.2.2.2.2.2.2.1 qv13 (by omega)) qv13 (by omega)) (by omega) (by omega) z0 z1 z2 z3 J Sm)
        ·
          refine x_iloadn (x := 0) rfl rfl ?_
          refine x_ifne (tgt := 24) rfl rfl (ti_ne jk_0 jk_0 (bn_f (by omega) ?_))
          refine x_aloadn (x := 125) rfl rfl ?_
          refine x_iconst (v := 1) rfl ki_1 ?_
          refine z_putZ (N := 92) (w := 1) 12 14 rfl f_12_214 rfl (jfin_no TX12 RX12 92 rfl rfl) hD J Sm rfl rfl jk_1 (by omega) (pw_125_14 (by omega)) rfl (fun h w15 J Sm => ?_)
          refine x_aloadn (x := 125) rfl rfl ?_
          refine x_aloadn (x := 125) rfl rfl ?_
          refine z_getM (N := 92) (v := g3) 12 9 rfl f_12_221 rfl J rfl (jmo w15 rfl z3) ?_
          refine z_putI (N := 92) (w := g3.toInt) 12 13 rfl f_12_32 rfl (jfin_no TX12 RX12 92 rfl rfl) hD J Sm rfl rfl rfl (pw_125_13 (by omega)) rfl (fun h w16 J Sm => ?_)
          refine x_aloadn (x := 125) rfl rfl ?_
          refine z_getM (N := 92) (v := 1) 12 14 rfl f_12_214 rfl J rfl (jmo w16 rfl (jmw w15)) ?_
          refine x_ifne (tgt := 35) rfl rfl (ti_ne jk_1 jk_0 (bn_t (by omega) ?_))
          refine x_vret rfl rfl ?_
          show jX m_X12_behindSum 4 0 0 104 [(3, .int (-1)), (0, .ref 125), (1, .int l1), (2, .int l2)] [] _ 0 0 _
          refine x_aloadn (x := 125) rfl rfl ?_
          refine z_getM (N := 92) (v := 1) 12 14 rfl f_12_214 rfl J rfl (jmo w16 rfl (jmw w15)) ?_
          refine x_ifne (tgt := 116) rfl rfl (ti_ne jk_1 jk_0 (bn_t (by omega) ?_))
          exact jX.sub jsb_n (ct_X12_behindSum_r125_116 hA hD hQ  g0 g1 g2 g3 h (jr_of rfl (by omega)) (jr_of rfl (by omega)) (jr_of rfl (by omega)) (jr_of rfl (by omega)) (jmu_tb (jmu_bad hA (jeq_o w16 rfl (jeq_o w15 rfl C0.1)) (jeq_o w16 rfl (jeq_o w15 rfl C0.2.1)) (jeq_o w16 rfl (jeq_o w15 rfl C0.2.2.1)) (jeq_o w16 rfl (jeq_o w15 rfl C0.2.2.2.1)) (jmo w16 rfl (jmo w15 rfl C0.2.2.2.2.1)) (jmo w16 rfl (jmo w15 rfl C0.2.2.2.2.2.1)) (jmo w16 rfl (jmo w15 rfl C0.2.2.2.2.2.2.1)) (jmo w16 rfl (jmw w15)) (by decide)) (jmo w16 rfl (jmw w15)) (by decide)) (by omega) (by omega) (jmo w16 rfl (jmo w15 rfl z0)) (jmo w16 rfl (jmo w15 rfl z1)) (jmo w16 rfl (jmo w15 rfl z2)) (jmo w16 rfl (jmo w15 rfl z3)) J Sm)
      ·
        refine x_iconst (v := 1) rfl ki_1 ?_
        refine x_goto (tgt := 23) rfl rfl ?_
        refine x_zret rfl rfl (by decide) ?_
        show jX m_X12_behindSum 4 0 0 101 [(3, .int (-1)), (0, .ref 125), (1, .int l1), (2, .int l2)] [.int 1, .ref 125] _ 0 0 _
        refine x_inv (N := m_X12_must) (As := [.int 1]) (b := 125) (st := []) (dx9 := 3) (mc := 0) (ms := 0) (host := "") 12 rfl t_X12_must ⟨Or.inl q_12_250, i_X12_must.1, i_X12_must.2⟩ ⟨by decide, rfl⟩ (congrArg Prod.fst (J.1.1 125 (12, 92) rfl)) rfl (by decide) rfl rfl ⟨by decide, by decide⟩ (jC.of rfl k_X12_must rfl ?_)
        show jX m_X12_must 3 0 0 0 [(0, .ref 125), (1, .int 1)] [] _ 0 0 _
        refine x_aloadn (x := 125) rfl rfl ?_
        refine z_getI (N := 92) 12 14 rfl f_12_214 rfl J rfl sg_125_14_15_1_0_1 (fun v17 qv17 ev17 => ?_)
        refine x_ifne (tgt := 24) rfl rfl (ti_ne rfl jk_0 ⟨fun c18 => ?_, fun c18 => ?_⟩)
        ·
          refine x_aloadn (x := 125) rfl rfl ?_
          refine z_getM (N := 92) (v := v17) 12 14 rfl f_12_214 rfl J rfl qv17 ?_
          refine x_ifne (tgt := 35) rfl rfl (ti_ne rfl jk_0 (bn_t (by omega) ?_))
          refine x_vret rfl rfl ?_
          show jX m_X12_behindSum 4 0 0 104 [(3, .int (-1)), (0, .ref 125), (1, .int l1), (2, .int l2)] [] _ 0 0 _
          refine x_aloadn (x := 125) rfl rfl ?_
          refine z_getM (N := 92) (v := v17) 12 14 rfl f_12_214 rfl J rfl qv17 ?_
          refine x_ifne (tgt := 116) rfl rfl (ti_ne rfl jk_0 (bn_t (by omega) ?_))
          exact jX.sub jsb_n (ct_X12_behindSum_r125_116 hA hD hQ  g0 g1 g2 g3 h (jr_of rfl (by omega)) (jr_of rfl (by omega)) (jr_of rfl (by omega)) (jr_of rfl (by omega)) (jmu_tb (jmu_bad hA C0.1 C0.2.1 C0.2.2.1 C0.2.2.2.1 C0.2.2.2.2.1 C0.2.2.2.2.2.1 C0.2.2.2.2.2.2.1 qv17 (by omega)) qv17 (by omega)) (by omega) (by omega) z0 z1 z2 z3 J Sm)
        ·
          refine x_iloadn (x := 1) rfl rfl ?_
          refine x_ifne (tgt := 24) rfl rfl (ti_ne jk_1 jk_0 (bn_t (by omega) ?_))
          refine x_aloadn (x := 125) rfl rfl ?_
          refine z_getM (N := 92) (v := v17) 12 14 rfl f_12_214 rfl J rfl qv17 ?_
          refine x_ifne (tgt := 35) rfl rfl (ti_ne rfl jk_0 (bn_f (by omega) ?_))
          refine x_aloadn (x := 125) rfl rfl ?_
          refine x_inv (N := m_X12_next) (As := []) (b := 125) (st := []) (dx9 := 2) (mc := 0) (ms := 0) (host := "") 12 rfl t_X12_next ⟨Or.inl q_12_218, i_X12_next.1, i_X12_next.2⟩ ⟨by decide, rfl⟩ (congrArg Prod.fst (J.1.1 125 (12, 92) rfl)) rfl (by decide) rfl rfl ⟨by decide, by decide⟩ (sf_X12_next_r125  hD J z0 z2 (by omega)  (fun h J S19 u20 u21 u22 qu20 qu21 qu22 ru20 u23 u24 u25 qu23 qu24 qu25 ru23 P26 => ?_))
          have Sm := jSm_tr rfl Sm S19
          have eu20 := (show 0 ≤ u20.toInt ∧ u20.toInt ≤ 400 from qu20 ▸ jrg_f J sg_125_10_11_1_0_1)
          have eu21 := (show 0 ≤ u21.toInt ∧ u21.toInt ≤ 400 from qu21 ▸ jrg_f J sg_125_8_9_1_0_1)
          have eu22 := (show 0 ≤ u22.toInt ∧ u22.toInt ≤ 400 from qu22 ▸ jrg_f J sg_125_9_10_1_0_1)
          have eu23 := (show 0 ≤ u23.toInt ∧ u23.toInt ≤ 3 from qu23 ▸ jrg_f J sg_125_11_12_1_0_1)
          obtain rfl : u22 = u24 := qu22.symm.trans qu24
          obtain rfl : u20 = u25 := qu20.symm.trans qu25
          have nfP26 := jnf P26.1 z0 qu22
          show jX m_X12_must 3 0 0 35 [(0, .ref 125), (1, .int 1)] [] _ 0 0 _
          refine x_vret rfl rfl ?_
          show jX m_X12_behindSum 4 0 0 104 [(3, .int (-1)), (0, .ref 125), (1, .int l1), (2, .int l2)] [] _ 0 0 _
          refine x_aloadn (x := 125) rfl rfl ?_
          refine z_getM (N := 92) (v := v17) 12 14 rfl f_12_214 rfl J rfl (jmc S19 rfl qv17) ?_
          refine x_ifne (tgt := 116) rfl rfl (ti_ne rfl jk_0 (bn_f (by omega) ?_))
          refine x_aloadn (x := 125) rfl rfl ?_
          refine x_iconst (v := 5) rfl ki_5 ?_
          refine x_inv (N := m_X12_close) (As := [.int 5]) (b := 125) (st := []) (dx9 := 3) (mc := 0) (ms := 0) (host := "") 12 rfl t_X12_close ⟨Or.inl q_12_551, i_X12_close.1, i_X12_close.2⟩ ⟨by decide, rfl⟩ (congrArg Prod.fst (J.1.1 125 (12, 92) rfl)) rfl (by decide) rfl rfl ⟨by decide, by decide⟩ (jC.of rfl k_X12_close rfl ?_)
          show jX m_X12_close 3 0 0 0 [(0, .ref 125), (1, .int 5)] [] _ 0 0 _
          refine x_aloadn (x := 125) rfl rfl ?_
          refine x_iloadn (x := 5) rfl rfl ?_
          refine x_inv (N := m_X12_settle) (As := [.int 5]) (b := 125) (st := []) (dx9 := 2) (mc := 0) (ms := 0) (host := "") 12 rfl t_X12_settle ⟨Or.inl q_12_548, i_X12_settle.1, i_X12_settle.2⟩ ⟨by decide, rfl⟩ (congrArg Prod.fst (J.1.1 125 (12, 92) rfl)) rfl (by decide) rfl rfl ⟨by decide, by decide⟩ (sf_X12_settle_r125 (jr_of jk_5 (by omega)) (K9 := 1) (by decide) (jmu_1 (jmu_on hA (jeq_c S19 rfl C0.1) (jeq_c S19 rfl C0.2.1) (jeq_c S19 rfl C0.2.2.1) (jeq_c S19 rfl C0.2.2.2.1) (jmc S19 rfl C0.2.2.2.2.1) (jmc S19 rfl C0.2.2.2.2.2.1) (jmc S19 rfl C0.2.2.2.2.2.2.2) (C0.2.2.2.2.2.2.1.symm.trans z3) qu22 (by omega)) (jmc S19 rfl qv17) (by omega)) hD J  (fun h J S27 P28 => ?_))
          have Sm := jSm_tr rfl Sm S27
          show jX m_X12_close 3 0 0 5 [(0, .ref 125), (1, .int 5)] [] _ 0 0 _
          refine x_aloadn (x := 125) rfl rfl ?_
          refine x_dup rfl rfl ?_
          refine z_getI (N := 92) 12 55 rfl f_12_496 rfl J rfl sg_125_55_56_1_0_1 (fun v29 qv29 ev29 => ?_)
          have px := cl_l (jmu_on hA (jeq_c S19 rfl C0.1) (jeq_c S19 rfl C0.2.1) (jeq_c S19 rfl C0.2.2.1) (jeq_c S19 rfl C0.2.2.2.1) (jmc S19 rfl C0.2.2.2.2.1) (jmc S19 rfl C0.2.2.2.2.2.1) (jmc S19 rfl C0.2.2.2.2.2.2.2) (C0.2.2.2.2.2.2.1.symm.trans z3) qu22 (by omega)) (jmc S19 rfl qv17) (by omega) (jir_bk C0.2.2.1 C0.2.2.2.2.2.1 C1) P28 (Or.inl ⟨rfl, (by omega)⟩) qv29
          refine x_iconst (v := 1) rfl ki_1 ?_
          refine z_isub rfl rfl jk_1 (by omega) (fun v30 ev30 => ?_)
          refine z_putI (N := 92) (w := v30.toInt) 12 55 rfl f_12_496 rfl (jfin_no TX12 RX12 92 rfl rfl) hD J Sm rfl rfl rfl (pw_125_55 (by omega)) rfl (fun h w31 J Sm => ?_)
          refine x_aloadn (x := 125) rfl rfl ?_
          refine x_dup rfl rfl ?_
          refine z_getI0 (N := 92) 12 56 rfl f_12_533 rfl J rfl (fun v32 qv32 => ?_)
          have ev32 := jfull v32
          refine x_iconst (v := 1) rfl ki_1 ?_
          refine z_isub0 rfl (fun v33 => ?_)
          have ev33 := jfull v33
          refine z_putI (N := 92) (w := v33.toInt) 12 56 rfl f_12_533 rfl (jfin_no TX12 RX12 92 rfl rfl) hD J Sm rfl rfl rfl (pw_125_56 trivial) rfl (fun h w34 J Sm => ?_)
          refine x_vret rfl rfl ?_
          show jX m_X12_behindSum 4 0 0 116 [(3, .int (-1)), (0, .ref 125), (1, .int l1), (2, .int l2)] [] _ 0 0 _
          exact jX.sub jsb_n (ct_X12_behindSum_r125_116 hA hD hQ  u20 u23 u21 u22 h (jr_of rfl (by omega)) (jr_of rfl (by omega)) (jr_of rfl (by omega)) (jr_of rfl (by omega)) (cl_mark (jmu_on hA (jeq_c S19 rfl C0.1) (jeq_c S19 rfl C0.2.1) (jeq_c S19 rfl C0.2.2.1) (jeq_c S19 rfl C0.2.2.2.1) (jmc S19 rfl C0.2.2.2.2.1) (jmc S19 rfl C0.2.2.2.2.2.1) (jmc S19 rfl C0.2.2.2.2.2.2.2) (C0.2.2.2.2.2.2.1.symm.trans z3) qu22 (by omega)) (jmc S19 rfl qv17) (by omega) (jir_bk C0.2.2.1 C0.2.2.2.2.2.1 C1) P28 (jmc S27 rfl rfl) (jmc S27 rfl rfl) (Or.inl ⟨rfl, (by omega), rfl⟩) (Or.inl rfl) qv29 w31 (by omega) w34).2 (by omega) (by omega) (jmo w34 rfl (jmo w31 rfl (jmc S27 rfl qu20))) (jmo w34 rfl (jmo w31 rfl (jmc S27 rfl qu23))) (jmo w34 rfl (jmo w31 rfl (jmc S27 rfl qu21))) (jmo w34 rfl (jmo w31 rfl (jmc S27 rfl qu22))) J Sm)
set_option maxRecDepth 100000 in
set_option maxHeartbeats 4000000 in
theorem ct_X12_behindSum_r125_62 {Dy : jH → Prop} {h0 : jH} {Q : Option Value → jH → Prop} {A : Nat} (hA : jTu 0 h0 A 1) (hD : jDk Dy) (hQ : ∀ (v : Int32) hx9, 1 ≤ v.toInt ∧ v.toInt ≤ 4 → jJ jSgM Dy hx9 → jSm fp_X12_behindSum_r125 h0 hx9 → ∀ u0 u1 u2 : Int32, jiv hx9 125 10 = u0 → jiv hx9 125 8 = u1 → jiv hx9 125 9 = u2 → (u0.toInt ≤ u1.toInt ∧ u2.toInt ≤ u0.toInt) → ∀ u3 u4 u5 : Int32, jiv hx9 125 11 = u3 → jiv hx9 125 9 = u4 → jiv hx9 125 10 = u5 → (u3.toInt = 0 ∨ u4.toInt + 1 ≤ u5.toInt) → jBp 2 4 A h0 v.toInt hx9 → Q (some (.int v)) hx9) : ∀ (l1 : Int32) (l2 : Int32) (g0 : Int32) (g1 : Int32) (g2 : Int32) (g3 : Int32) (h : jH), 0 ≤ l1.toInt ∧ l1.toInt ≤ 1 → (-1) ≤ l2.toInt ∧ l2.toInt ≤ 2147483647 → 0 ≤ g0.toInt ∧ g0.toInt ≤ 400 → 3 ≤ g1.toInt ∧ g1.toInt ≤ 3 → 0 ≤ g2.toInt ∧ g2.toInt ≤ 400 → 0 ≤ g3.toInt ∧ g3.toInt ≤ 400 → jSa h0 h → jIr (jiv h 150) l2 (jnL h) → g1.toInt ≠ 0 → (g0.toInt ≤ g2.toInt ∧ g3.toInt ≤ g0.toInt) → (g1.toInt = 0 ∨ g3.toInt + 1 ≤ g0.toInt) → jiv h 125 10 = g0 → jiv h 125 11 = g1 → jiv h 125 8 = g2 → jiv h 125 9 = g3 → jJ jSgM Dy h → jSm fp_X12_behindSum_r125 h0 h → jX m_X12_behindSum 4 0 0 62 [(0, .ref 125), (1, .int l1), (2, .int l2)] [.int 9] h 0 0 Q := by
  intro l1 l2 g0 g1 g2 g3 h y0 y1 y2 y3 y4 y5 C0 C1 y8 y9 y10 z0 z1 z2 z3  J Sm
  refine x_istoren (lsx9 := [(3, .int 9), (0, .ref 125), (1, .int l1), (2, .int l2)]) rfl rfl rfl ?_
  refine x_iloadn (x := 9) rfl rfl ?_
  refine x_iconst (v := (-1)) rfl ki_m1 ?_
  refine x_iceq (tgt := 88) rfl rfl (ti_eq jk_9 jk_m1 (br_f (by omega) ?_))
  refine x_aloadn (x := 125) rfl rfl ?_
  refine x_iloadn (x := 9) rfl rfl ?_
  refine x_inst (N := m_X12_binds) (As := [.int 9]) (st := [.ref 125]) (dx9 := 3) (mc := 0) (ms := 0) (host := "") rfl t_X12_binds ⟨Or.inl q_12_499, s_X12_binds⟩ rfl (by decide) rfl rfl ⟨by decide, by decide⟩ (jC.of rfl k_X12_binds rfl ?_)
  show jX m_X12_binds 3 0 0 0 [(0, .int 9)] [] _ 0 0 _
  refine x_iloadn (x := 9) rfl rfl ?_
  refine x_bipush (v := 30) rfl kb_30 ?_
  refine x_iclt (tgt := 10) rfl rfl (ti_lt jk_9 jk_30 (br_t (by omega) ?_))
  refine x_iloadn (x := 9) rfl rfl ?_
  refine x_bipush (v := 20) rfl kb_20 ?_
  refine x_icne (tgt := 20) rfl rfl (ti_ne jk_9 jk_20 (bn_t (by omega) ?_))
  refine x_iloadn (x := 9) rfl rfl ?_
  refine x_bipush (v := 19) rfl kb_19 ?_
  refine x_icne (tgt := 30) rfl rfl (ti_ne jk_9 jk_19 (bn_t (by omega) ?_))
  refine x_iloadn (x := 9) rfl rfl ?_
  refine x_bipush (v := 18) rfl kb_18 ?_
  refine x_icne (tgt := 40) rfl rfl (ti_ne jk_9 jk_18 (bn_t (by omega) ?_))
  refine x_iloadn (x := 9) rfl rfl ?_
  refine x_bipush (v := 10) rfl kb_10 ?_
  refine x_iclt (tgt := 50) rfl rfl (ti_lt jk_9 jk_10 (br_t (by omega) ?_))
  refine x_iloadn (x := 9) rfl rfl ?_
  refine x_bipush (v := 8) rfl kb_8 ?_
  refine x_iclt (tgt := 61) rfl rfl (ti_lt jk_9 jk_8 (br_f (by omega) ?_))
  refine x_bipush (v := 6) rfl kb_6 ?_
  refine x_goto (tgt := 62) rfl rfl ?_
  refine x_iret rfl rfl ?_
  show jX m_X12_behindSum 4 0 0 73 [(3, .int 9), (0, .ref 125), (1, .int l1), (2, .int l2)] [.int 6, .ref 125] _ 0 0 _
  refine x_inv (N := m_X12_settle) (As := [.int 6]) (b := 125) (st := []) (dx9 := 2) (mc := 0) (ms := 0) (host := "") 12 rfl t_X12_settle ⟨Or.inl q_12_548, i_X12_settle.1, i_X12_settle.2⟩ ⟨by decide, rfl⟩ (congrArg Prod.fst (J.1.1 125 (12, 92) rfl)) rfl (by decide) rfl rfl ⟨by decide, by decide⟩ (sf_X12_settle_r125 (jr_of jk_6 (by omega)) (K9 := 0) (by decide) (jtu_sa hA C0) hD J  (fun h J S1 P2 => ?_))
  have Sm := jSm_tr rfl Sm S1
  show jX m_X12_behindSum 4 0 0 76 [(3, .int 9), (0, .ref 125), (1, .int l1), (2, .int l2)] [] _ 0 0 _
  refine x_aloadn (x := 125) rfl rfl ?_
  refine x_iloadn (x := 9) rfl rfl ?_
  refine x_iconst (v := 0) rfl ki_0 ?_
  refine x_inv (N := m_X12_push) (As := [.int 9, .int 0]) (b := 125) (st := []) (dx9 := 3) (mc := 0) (ms := 0) (host := "") 12 rfl t_X12_push ⟨Or.inl q_12_536, i_X12_push.1, i_X12_push.2⟩ ⟨by decide, rfl⟩ (congrArg Prod.fst (J.1.1 125 (12, 92) rfl)) rfl (by decide) rfl rfl ⟨by decide, by decide⟩ (jC.of rfl k_X12_push rfl ?_)
  show jX m_X12_push 3 0 0 0 [(0, .ref 125), (1, .int 9), (2, .int 0)] [] _ 0 0 _
  obtain ⟨u3, qu3⟩ : ∃ v : Int32, jiv h 125 55 = v := ⟨_, rfl⟩
  have eu3 := (show 0 ≤ u3.toInt ∧ u3.toInt ≤ 400 from qu3 ▸ jrg_f J sg_125_55_56_1_0_1)
  have lx := jtw_l P2.1.1.1 qu3 (jmc S1 rfl z3)
  refine x_aloadn (x := 125) rfl rfl ?_
  refine z_getR (N := 92) (b := 150) 12 53 rfl f_12_105 rfl J rfl 16053 ⟨rfl, rfl⟩ rfl ?_
  refine x_aloadn (x := 125) rfl rfl ?_
  refine z_getM (N := 92) (v := u3) 12 55 rfl f_12_496 rfl J rfl qu3 ?_
  refine x_iloadn (x := 9) rfl rfl ?_
  refine z_iast (N := 400) (l := 0) (u := 400) (w := 9) rfl hD J Sm rfl rfl rfl (by omega) jk_9 (wr_150) rfl (fun h w4 J Sm => ?_)
  refine x_aloadn (x := 125) rfl rfl ?_
  refine z_getR (N := 92) (b := 151) 12 54 rfl f_12_108 rfl J rfl 16054 ⟨rfl, rfl⟩ rfl ?_
  refine x_aloadn (x := 125) rfl rfl ?_
  refine z_getM (N := 92) (v := u3) 12 55 rfl f_12_496 rfl J rfl (jmo w4 rfl qu3) ?_
  refine x_iloadn (x := 0) rfl rfl ?_
  refine z_iast (N := 400) (l := 0) (u := 400) (w := 0) rfl hD J Sm rfl rfl rfl (by omega) jk_0 (wr_151) rfl (fun h w5 J Sm => ?_)
  refine x_aloadn (x := 125) rfl rfl ?_
  refine x_dup rfl rfl ?_
  refine z_getM (N := 92) (v := u3) 12 55 rfl f_12_496 rfl J rfl (jmo w5 rfl (jmo w4 rfl qu3)) ?_
  refine x_iconst (v := 1) rfl ki_1 ?_
  refine z_iadd rfl rfl jk_1 (by omega) (fun v6 ev6 => ?_)
  refine z_putI (N := 92) (w := v6.toInt) 12 55 rfl f_12_496 rfl (jfin_no TX12 RX12 92 rfl rfl) hD J Sm rfl rfl rfl (pw_125_55 (by omega)) rfl (fun h w7 J Sm => ?_)
  refine x_vret rfl rfl ?_
  show jX m_X12_behindSum 4 0 0 82 [(3, .int 9), (0, .ref 125), (1, .int l1), (2, .int l2)] [] _ 0 0 _
  refine x_aloadn (x := 125) rfl rfl ?_
  refine x_inv (N := m_X12_next) (As := []) (b := 125) (st := []) (dx9 := 2) (mc := 0) (ms := 0) (host := "") 12 rfl t_X12_next ⟨Or.inl q_12_218, i_X12_next.1, i_X12_next.2⟩ ⟨by decide, rfl⟩ (congrArg Prod.fst (J.1.1 125 (12, 92) rfl)) rfl (by decide) rfl rfl ⟨by decide, by decide⟩ (sf_X12_next_r125  hD J (jmo w7 rfl (jmo w5 rfl (jmo w4 rfl (jmc S1 rfl z0)))) (jmo w7 rfl (jmo w5 rfl (jmo w4 rfl (jmc S1 rfl z2)))) (by omega)  (fun h J S8 u9 u10 u11 qu9 qu10 qu11 ru9 u12 u13 u14 qu12 qu13 qu14 ru12 P15 => ?_))
  have Sm := jSm_tr rfl Sm S8
  have eu9 := (show 0 ≤ u9.toInt ∧ u9.toInt ≤ 400 from qu9 ▸ jrg_f J sg_125_10_11_1_0_1)
  have eu10 := (show 0 ≤ u10.toInt ∧ u10.toInt ≤ 400 from qu10 ▸ jrg_f J sg_125_8_9_1_0_1)
  have eu11 := (show 0 ≤ u11.toInt ∧ u11.toInt ≤ 400 from qu11 ▸ jrg_f J sg_125_9_10_1_0_1)
  have eu12 := (show 0 ≤ u12.toInt ∧ u12.toInt ≤ 3 from qu12 ▸ jrg_f J sg_125_11_12_1_0_1)
  obtain rfl : u11 = u13 := qu11.symm.trans qu13
  obtain rfl : u9 = u14 := qu9.symm.trans qu14
  have nfP15 := jnf P15.1 (jmo w7 rfl (jmo w5 rfl (jmo w4 rfl (jmc S1 rfl z0)))) qu11
  show jX m_X12_behindSum 4 0 0 86 [(3, .int 9), (0, .ref 125), (1, .int l1), (2, .int l2)] [] _ 0 0 _
  refine x_iconst (v := 1) rfl ki_1 ?_
  refine x_iret rfl rfl ?_
  exact hQ _ _ (jr_of jk_1 (by omega)) J Sm _ _ _ qu9 qu10 qu11 (by omega) _ _ _ qu12 qu11 qu9 (by omega) (by rw [jk_1]; exact jbp_1 (bs_arith hA C0 P2 (jmc S1 rfl rfl) (jmc S1 rfl rfl) qu3 w4 w5 w7 (by omega) (by decide) (jeq_c S8 rfl jeq_0) (jeq_c S8 rfl jeq_0) (jeq_c S8 rfl jeq_0) (jeq_c S8 rfl jeq_0) (jmc S8 rfl rfl) (jmc S8 rfl rfl) (jmc S8 rfl rfl) (jmc S1 rfl z3) qu11 (by omega)))
set_option maxRecDepth 100000 in
set_option maxHeartbeats 4000000 in
theorem ct_X12_behindSum_r125_1000062 {Dy : jH → Prop} {h0 : jH} {Q : Option Value → jH → Prop} {A : Nat} (hA : jTu 0 h0 A 1) (hD : jDk Dy) (hQ : ∀ (v : Int32) hx9, 1 ≤ v.toInt ∧ v.toInt ≤ 4 → jJ jSgM Dy hx9 → jSm fp_X12_behindSum_r125 h0 hx9 → ∀ u0 u1 u2 : Int32, jiv hx9 125 10 = u0 → jiv hx9 125 8 = u1 → jiv hx9 125 9 = u2 → (u0.toInt ≤ u1.toInt ∧ u2.toInt ≤ u0.toInt) → ∀ u3 u4 u5 : Int32, jiv hx9 125 11 = u3 → jiv hx9 125 9 = u4 → jiv hx9 125 10 = u5 → (u3.toInt = 0 ∨ u4.toInt + 1 ≤ u5.toInt) → jBp 2 4 A h0 v.toInt hx9 → Q (some (.int v)) hx9) : ∀ (l1 : Int32) (l2 : Int32) (g0 : Int32) (g1 : Int32) (g2 : Int32) (g3 : Int32) (h : jH), 0 ≤ l1.toInt ∧ l1.toInt ≤ 1 → (-1) ≤ l2.toInt ∧ l2.toInt ≤ 2147483647 → 0 ≤ g0.toInt ∧ g0.toInt ≤ 400 → 3 ≤ g1.toInt ∧ g1.toInt ≤ 3 → 0 ≤ g2.toInt ∧ g2.toInt ≤ 400 → 0 ≤ g3.toInt ∧ g3.toInt ≤ 400 → jSa h0 h → jIr (jiv h 150) l2 (jnL h) → g1.toInt ≠ 0 → (g0.toInt ≤ g2.toInt ∧ g3.toInt ≤ g0.toInt) → (g1.toInt = 0 ∨ g3.toInt + 1 ≤ g0.toInt) → jiv h 125 10 = g0 → jiv h 125 11 = g1 → jiv h 125 8 = g2 → jiv h 125 9 = g3 → jJ jSgM Dy h → jSm fp_X12_behindSum_r125 h0 h → jX m_X12_behindSum 4 0 0 62 [(0, .ref 125), (1, .int l1), (2, .int l2)] [.int 8] h 0 0 Q := by
  intro l1 l2 g0 g1 g2 g3 h y0 y1 y2 y3 y4 y5 C0 C1 y8 y9 y10 z0 z1 z2 z3  J Sm
  refine x_istoren (lsx9 := [(3, .int 8), (0, .ref 125), (1, .int l1), (2, .int l2)]) rfl rfl rfl ?_
  refine x_iloadn (x := 8) rfl rfl ?_
  refine x_iconst (v := (-1)) rfl ki_m1 ?_
  refine x_iceq (tgt := 88) rfl rfl (ti_eq jk_8 jk_m1 (br_f (by omega) ?_))
  refine x_aloadn (x := 125) rfl rfl ?_
  refine x_iloadn (x := 8) rfl rfl ?_
  refine x_inst (N := m_X12_binds) (As := [.int 8]) (st := [.ref 125]) (dx9 := 3) (mc := 0) (ms := 0) (host := "") rfl t_X12_binds ⟨Or.inl q_12_499, s_X12_binds⟩ rfl (by decide) rfl rfl ⟨by decide, by decide⟩ (jC.of rfl k_X12_binds rfl ?_)
  show jX m_X12_binds 3 0 0 0 [(0, .int 8)] [] _ 0 0 _
  refine x_iloadn (x := 8) rfl rfl ?_
  refine x_bipush (v := 30) rfl kb_30 ?_
  refine x_iclt (tgt := 10) rfl rfl (ti_lt jk_8 jk_30 (br_t (by omega) ?_))
  refine x_iloadn (x := 8) rfl rfl ?_
  refine x_bipush (v := 20) rfl kb_20 ?_
  refine x_icne (tgt := 20) rfl rfl (ti_ne jk_8 jk_20 (bn_t (by omega) ?_))
  refine x_iloadn (x := 8) rfl rfl ?_
  refine x_bipush (v := 19) rfl kb_19 ?_
  refine x_icne (tgt := 30) rfl rfl (ti_ne jk_8 jk_19 (bn_t (by omega) ?_))
  refine x_iloadn (x := 8) rfl rfl ?_
  refine x_bipush (v := 18) rfl kb_18 ?_
  refine x_icne (tgt := 40) rfl rfl (ti_ne jk_8 jk_18 (bn_t (by omega) ?_))
  refine x_iloadn (x := 8) rfl rfl ?_
  refine x_bipush (v := 10) rfl kb_10 ?_
  refine x_iclt (tgt := 50) rfl rfl (ti_lt jk_8 jk_10 (br_t (by omega) ?_))
  refine x_iloadn (x := 8) rfl rfl ?_
  refine x_bipush (v := 8) rfl kb_8 ?_
  refine x_iclt (tgt := 61) rfl rfl (ti_lt jk_8 jk_8 (br_f (by omega) ?_))
  refine x_bipush (v := 6) rfl kb_6 ?_
  refine x_goto (tgt := 62) rfl rfl ?_
  refine x_iret rfl rfl ?_
  show jX m_X12_behindSum 4 0 0 73 [(3, .int 8), (0, .ref 125), (1, .int l1), (2, .int l2)] [.int 6, .ref 125] _ 0 0 _
  refine x_inv (N := m_X12_settle) (As := [.int 6]) (b := 125) (st := []) (dx9 := 2) (mc := 0) (ms := 0) (host := "") 12 rfl t_X12_settle ⟨Or.inl q_12_548, i_X12_settle.1, i_X12_settle.2⟩ ⟨by decide, rfl⟩ (congrArg Prod.fst (J.1.1 125 (12, 92) rfl)) rfl (by decide) rfl rfl ⟨by decide, by decide⟩ (sf_X12_settle_r125 (jr_of jk_6 (by omega)) (K9 := 0) (by decide) (jtu_sa hA C0) hD J  (fun h J S1 P2 => ?_))
  have Sm := jSm_tr rfl Sm S1
  show jX m_X12_behindSum 4 0 0 76 [(3, .int 8), (0, .ref 125), (1, .int l1), (2, .int l2)] [] _ 0 0 _
  refine x_aloadn (x := 125) rfl rfl ?_
  refine x_iloadn (x := 8) rfl rfl ?_
  refine x_iconst (v := 0) rfl ki_0 ?_
  refine x_inv (N := m_X12_push) (As := [.int 8, .int 0]) (b := 125) (st := []) (dx9 := 3) (mc := 0) (ms := 0) (host := "") 12 rfl t_X12_push ⟨Or.inl q_12_536, i_X12_push.1, i_X12_push.2⟩ ⟨by decide, rfl⟩ (congrArg Prod.fst (J.1.1 125 (12, 92) rfl)) rfl (by decide) rfl rfl ⟨by decide, by decide⟩ (jC.of rfl k_X12_push rfl ?_)
  show jX m_X12_push 3 0 0 0 [(0, .ref 125), (1, .int 8), (2, .int 0)] [] _ 0 0 _
  obtain ⟨u3, qu3⟩ : ∃ v : Int32, jiv h 125 55 = v := ⟨_, rfl⟩
  have eu3 := (show 0 ≤ u3.toInt ∧ u3.toInt ≤ 400 from qu3 ▸ jrg_f J sg_125_55_56_1_0_1)
  have lx := jtw_l P2.1.1.1 qu3 (jmc S1 rfl z3)
  refine x_aloadn (x := 125) rfl rfl ?_
  refine z_getR (N := 92) (b := 150) 12 53 rfl f_12_105 rfl J rfl 16053 ⟨rfl, rfl⟩ rfl ?_
  refine x_aloadn (x := 125) rfl rfl ?_
  refine z_getM (N := 92) (v := u3) 12 55 rfl f_12_496 rfl J rfl qu3 ?_
  refine x_iloadn (x := 8) rfl rfl ?_
  refine z_iast (N := 400) (l := 0) (u := 400) (w := 8) rfl hD J Sm rfl rfl rfl (by omega) jk_8 (wr_150) rfl (fun h w4 J Sm => ?_)
  refine x_aloadn (x := 125) rfl rfl ?_
  refine z_getR (N := 92) (b := 151) 12 54 rfl f_12_108 rfl J rfl 16054 ⟨rfl, rfl⟩ rfl ?_
  refine x_aloadn (x := 125) rfl rfl ?_
  refine z_getM (N := 92) (v := u3) 12 55 rfl f_12_496 rfl J rfl (jmo w4 rfl qu3) ?_
  refine x_iloadn (x := 0) rfl rfl ?_
  refine z_iast (N := 400) (l := 0) (u := 400) (w := 0) rfl hD J Sm rfl rfl rfl (by omega) jk_0 (wr_151) rfl (fun h w5 J Sm => ?_)
  refine x_aloadn (x := 125) rfl rfl ?_
  refine x_dup rfl rfl ?_
  refine z_getM (N := 92) (v := u3) 12 55 rfl f_12_496 rfl J rfl (jmo w5 rfl (jmo w4 rfl qu3)) ?_
  refine x_iconst (v := 1) rfl ki_1 ?_
  refine z_iadd rfl rfl jk_1 (by omega) (fun v6 ev6 => ?_)
  refine z_putI (N := 92) (w := v6.toInt) 12 55 rfl f_12_496 rfl (jfin_no TX12 RX12 92 rfl rfl) hD J Sm rfl rfl rfl (pw_125_55 (by omega)) rfl (fun h w7 J Sm => ?_)
  refine x_vret rfl rfl ?_
  show jX m_X12_behindSum 4 0 0 82 [(3, .int 8), (0, .ref 125), (1, .int l1), (2, .int l2)] [] _ 0 0 _
  refine x_aloadn (x := 125) rfl rfl ?_
  refine x_inv (N := m_X12_next) (As := []) (b := 125) (st := []) (dx9 := 2) (mc := 0) (ms := 0) (host := "") 12 rfl t_X12_next ⟨Or.inl q_12_218, i_X12_next.1, i_X12_next.2⟩ ⟨by decide, rfl⟩ (congrArg Prod.fst (J.1.1 125 (12, 92) rfl)) rfl (by decide) rfl rfl ⟨by decide, by decide⟩ (sf_X12_next_r125  hD J (jmo w7 rfl (jmo w5 rfl (jmo w4 rfl (jmc S1 rfl z0)))) (jmo w7 rfl (jmo w5 rfl (jmo w4 rfl (jmc S1 rfl z2)))) (by omega)  (fun h J S8 u9 u10 u11 qu9 qu10 qu11 ru9 u12 u13 u14 qu12 qu13 qu14 ru12 P15 => ?_))
  have Sm := jSm_tr rfl Sm S8
  have eu9 := (show 0 ≤ u9.toInt ∧ u9.toInt ≤ 400 from qu9 ▸ jrg_f J sg_125_10_11_1_0_1)
  have eu10 := (show 0 ≤ u10.toInt ∧ u10.toInt ≤ 400 from qu10 ▸ jrg_f J sg_125_8_9_1_0_1)
  have eu11 := (show 0 ≤ u11.toInt ∧ u11.toInt ≤ 400 from qu11 ▸ jrg_f J sg_125_9_10_1_0_1)
  have eu12 := (show 0 ≤ u12.toInt ∧ u12.toInt ≤ 3 from qu12 ▸ jrg_f J sg_125_11_12_1_0_1)
  obtain rfl : u11 = u13 := qu11.symm.trans qu13
  obtain rfl : u9 = u14 := qu9.symm.trans qu14
  have nfP15 := jnf P15.1 (jmo w7 rfl (jmo w5 rfl (jmo w4 rfl (jmc S1 rfl z0)))) qu11
  show jX m_X12_behindSum 4 0 0 86 [(3, .int 8), (0, .ref 125), (1, .int l1), (2, .int l2)] [] _ 0 0 _
  refine x_iconst (v := 1) rfl ki_1 ?_
  refine x_iret rfl rfl ?_
  exact hQ _ _ (jr_of jk_1 (by omega)) J Sm _ _ _ qu9 qu10 qu11 (by omega) _ _ _ qu12 qu11 qu9 (by omega) (by rw [jk_1]; exact jbp_1 (bs_arith hA C0 P2 (jmc S1 rfl rfl) (jmc S1 rfl rfl) qu3 w4 w5 w7 (by omega) (by decide) (jeq_c S8 rfl jeq_0) (jeq_c S8 rfl jeq_0) (jeq_c S8 rfl jeq_0) (jeq_c S8 rfl jeq_0) (jmc S8 rfl rfl) (jmc S8 rfl rfl) (jmc S8 rfl rfl) (jmc S1 rfl z3) qu11 (by omega)))
set_option maxRecDepth 100000 in
set_option maxHeartbeats 4000000 in
theorem ct_X12_behindSum_r125_900062 {Dy : jH → Prop} {h0 : jH} {Q : Option Value → jH → Prop} {A : Nat} (hA : jTu 0 h0 A 1) (hD : jDk Dy) (hQ : ∀ (v : Int32) hx9, 1 ≤ v.toInt ∧ v.toInt ≤ 4 → jJ jSgM Dy hx9 → jSm fp_X12_behindSum_r125 h0 hx9 → ∀ u0 u1 u2 : Int32, jiv hx9 125 10 = u0 → jiv hx9 125 8 = u1 → jiv hx9 125 9 = u2 → (u0.toInt ≤ u1.toInt ∧ u2.toInt ≤ u0.toInt) → ∀ u3 u4 u5 : Int32, jiv hx9 125 11 = u3 → jiv hx9 125 9 = u4 → jiv hx9 125 10 = u5 → (u3.toInt = 0 ∨ u4.toInt + 1 ≤ u5.toInt) → jBp 2 4 A h0 v.toInt hx9 → Q (some (.int v)) hx9) : ∀ (l1 : Int32) (l2 : Int32) (g0 : Int32) (g1 : Int32) (g2 : Int32) (g3 : Int32) (h : jH), 0 ≤ l1.toInt ∧ l1.toInt ≤ 1 → (-1) ≤ l2.toInt ∧ l2.toInt ≤ 2147483647 → 0 ≤ g0.toInt ∧ g0.toInt ≤ 400 → 3 ≤ g1.toInt ∧ g1.toInt ≤ 3 → 0 ≤ g2.toInt ∧ g2.toInt ≤ 400 → 0 ≤ g3.toInt ∧ g3.toInt ≤ 400 → jSa h0 h → jIr (jiv h 150) l2 (jnL h) → g1.toInt ≠ 0 → (g0.toInt ≤ g2.toInt ∧ g3.toInt ≤ g0.toInt) → (g1.toInt = 0 ∨ g3.toInt + 1 ≤ g0.toInt) → jiv h 125 10 = g0 → jiv h 125 11 = g1 → jiv h 125 8 = g2 → jiv h 125 9 = g3 → jJ jSgM Dy h → jSm fp_X12_behindSum_r125 h0 h → jX m_X12_behindSum 4 0 0 62 [(0, .ref 125), (1, .int l1), (2, .int l2)] [.int 7] h 0 0 Q := by
  intro l1 l2 g0 g1 g2 g3 h y0 y1 y2 y3 y4 y5 C0 C1 y8 y9 y10 z0 z1 z2 z3  J Sm
  refine x_istoren (lsx9 := [(3, .int 7), (0, .ref 125), (1, .int l1), (2, .int l2)]) rfl rfl rfl ?_
  refine x_iloadn (x := 7) rfl rfl ?_
  refine x_iconst (v := (-1)) rfl ki_m1 ?_
  refine x_iceq (tgt := 88) rfl rfl (ti_eq jk_7 jk_m1 (br_f (by omega) ?_))
  refine x_aloadn (x := 125) rfl rfl ?_
  refine x_iloadn (x := 7) rfl rfl ?_
  refine x_inst (N := m_X12_binds) (As := [.int 7]) (st := [.ref 125]) (dx9 := 3) (mc := 0) (ms := 0) (host := "") rfl t_X12_binds ⟨Or.inl q_12_499, s_X12_binds⟩ rfl (by decide) rfl rfl ⟨by decide, by decide⟩ (jC.of rfl k_X12_binds rfl ?_)
  show jX m_X12_binds 3 0 0 0 [(0, .int 7)] [] _ 0 0 _
  refine x_iloadn (x := 7) rfl rfl ?_
  refine x_bipush (v := 30) rfl kb_30 ?_
  refine x_iclt (tgt := 10) rfl rfl (ti_lt jk_7 jk_30 (br_t (by omega) ?_))
  refine x_iloadn (x := 7) rfl rfl ?_
  refine x_bipush (v := 20) rfl kb_20 ?_
  refine x_icne (tgt := 20) rfl rfl (ti_ne jk_7 jk_20 (bn_t (by omega) ?_))
  refine x_iloadn (x := 7) rfl rfl ?_
  refine x_bipush (v := 19) rfl kb_19 ?_
  refine x_icne (tgt := 30) rfl rfl (ti_ne jk_7 jk_19 (bn_t (by omega) ?_))
  refine x_iloadn (x := 7) rfl rfl ?_
  refine x_bipush (v := 18) rfl kb_18 ?_
  refine x_icne (tgt := 40) rfl rfl (ti_ne jk_7 jk_18 (bn_t (by omega) ?_))
  refine x_iloadn (x := 7) rfl rfl ?_
  refine x_bipush (v := 10) rfl kb_10 ?_
  refine x_iclt (tgt := 50) rfl rfl (ti_lt jk_7 jk_10 (br_t (by omega) ?_))
  refine x_iloadn (x := 7) rfl rfl ?_
  refine x_bipush (v := 8) rfl kb_8 ?_
  refine x_iclt (tgt := 61) rfl rfl (ti_lt jk_7 jk_8 (br_t (by omega) ?_))
  refine x_iconst (v := 5) rfl ki_5 ?_
  refine x_iret rfl rfl ?_
  show jX m_X12_behindSum 4 0 0 73 [(3, .int 7), (0, .ref 125), (1, .int l1), (2, .int l2)] [.int 5, .ref 125] _ 0 0 _
  refine x_inv (N := m_X12_settle) (As := [.int 5]) (b := 125) (st := []) (dx9 := 2) (mc := 0) (ms := 0) (host := "") 12 rfl t_X12_settle ⟨Or.inl q_12_548, i_X12_settle.1, i_X12_settle.2⟩ ⟨by decide, rfl⟩ (congrArg Prod.fst (J.1.1 125 (12, 92) rfl)) rfl (by decide) rfl rfl ⟨by decide, by decide⟩ (sf_X12_settle_r125 (jr_of jk_5 (by omega)) (K9 := 0) (by decide) (jtu_sa hA C0) hD J  (fun h J S1 P2 => ?_))
  have Sm := jSm_tr rfl Sm S1
  show jX m_X12_behindSum 4 0 0 76 [(3, .int 7), (0, .ref 125), (1, .int l1), (2, .int l2)] [] _ 0 0 _
  refine x_aloadn (x := 125) rfl rfl ?_
  refine x_iloadn (x := 7) rfl rfl ?_
  refine x_iconst (v := 0) rfl ki_0 ?_
  refine x_inv (N := m_X12_push) (As := [.int 7, .int 0]) (b := 125) (st := []) (dx9 := 3) (mc := 0) (ms := 0) (host := "") 12 rfl t_X12_push ⟨Or.inl q_12_536, i_X12_push.1, i_X12_push.2⟩ ⟨by decide, rfl⟩ (congrArg Prod.fst (J.1.1 125 (12, 92) rfl)) rfl (by decide) rfl rfl ⟨by decide, by decide⟩ (jC.of rfl k_X12_push rfl ?_)
  show jX m_X12_push 3 0 0 0 [(0, .ref 125), (1, .int 7), (2, .int 0)] [] _ 0 0 _
  obtain ⟨u3, qu3⟩ : ∃ v : Int32, jiv h 125 55 = v := ⟨_, rfl⟩
  have eu3 := (show 0 ≤ u3.toInt ∧ u3.toInt ≤ 400 from qu3 ▸ jrg_f J sg_125_55_56_1_0_1)
  have lx := jtw_l P2.1.1.1 qu3 (jmc S1 rfl z3)
  refine x_aloadn (x := 125) rfl rfl ?_
  refine z_getR (N := 92) (b := 150) 12 53 rfl f_12_105 rfl J rfl 16053 ⟨rfl, rfl⟩ rfl ?_
  refine x_aloadn (x := 125) rfl rfl ?_
  refine z_getM (N := 92) (v := u3) 12 55 rfl f_12_496 rfl J rfl qu3 ?_
  refine x_iloadn (x := 7) rfl rfl ?_
  refine z_iast (N := 400) (l := 0) (u := 400) (w := 7) rfl hD J Sm rfl rfl rfl (by omega) jk_7 (wr_150) rfl (fun h w4 J Sm => ?_)
  refine x_aloadn (x := 125) rfl rfl ?_
  refine z_getR (N := 92) (b := 151) 12 54 rfl f_12_108 rfl J rfl 16054 ⟨rfl, rfl⟩ rfl ?_
  refine x_aloadn (x := 125) rfl rfl ?_
  refine z_getM (N := 92) (v := u3) 12 55 rfl f_12_496 rfl J rfl (jmo w4 rfl qu3) ?_
  refine x_iloadn (x := 0) rfl rfl ?_
  refine z_iast (N := 400) (l := 0) (u := 400) (w := 0) rfl hD J Sm rfl rfl rfl (by omega) jk_0 (wr_151) rfl (fun h w5 J Sm => ?_)
  refine x_aloadn (x := 125) rfl rfl ?_
  refine x_dup rfl rfl ?_
  refine z_getM (N := 92) (v := u3) 12 55 rfl f_12_496 rfl J rfl (jmo w5 rfl (jmo w4 rfl qu3)) ?_
  refine x_iconst (v := 1) rfl ki_1 ?_
  refine z_iadd rfl rfl jk_1 (by omega) (fun v6 ev6 => ?_)
  refine z_putI (N := 92) (w := v6.toInt) 12 55 rfl f_12_496 rfl (jfin_no TX12 RX12 92 rfl rfl) hD J Sm rfl rfl rfl (pw_125_55 (by omega)) rfl (fun h w7 J Sm => ?_)
  refine x_vret rfl rfl ?_
  show jX m_X12_behindSum 4 0 0 82 [(3, .int 7), (0, .ref 125), (1, .int l1), (2, .int l2)] [] _ 0 0 _
  refine x_aloadn (x := 125) rfl rfl ?_
  refine x_inv (N := m_X12_next) (As := []) (b := 125) (st := []) (dx9 := 2) (mc := 0) (ms := 0) (host := "") 12 rfl t_X12_next ⟨Or.inl q_12_218, i_X12_next.1, i_X12_next.2⟩ ⟨by decide, rfl⟩ (congrArg Prod.fst (J.1.1 125 (12, 92) rfl)) rfl (by decide) rfl rfl ⟨by decide, by decide⟩ (sf_X12_next_r125  hD J (jmo w7 rfl (jmo w5 rfl (jmo w4 rfl (jmc S1 rfl z0)))) (jmo w7 rfl (jmo w5 rfl (jmo w4 rfl (jmc S1 rfl z2)))) (by omega)  (fun h J S8 u9 u10 u11 qu9 qu10 qu11 ru9 u12 u13 u14 qu12 qu13 qu14 ru12 P15 => ?_))
  have Sm := jSm_tr rfl Sm S8
  have eu9 := (show 0 ≤ u9.toInt ∧ u9.toInt ≤ 400 from qu9 ▸ jrg_f J sg_125_10_11_1_0_1)
  have eu10 := (show 0 ≤ u10.toInt ∧ u10.toInt ≤ 400 from qu10 ▸ jrg_f J sg_125_8_9_1_0_1)
  have eu11 := (show 0 ≤ u11.toInt ∧ u11.toInt ≤ 400 from qu11 ▸ jrg_f J sg_125_9_10_1_0_1)
  have eu12 := (show 0 ≤ u12.toInt ∧ u12.toInt ≤ 3 from qu12 ▸ jrg_f J sg_125_11_12_1_0_1)
  obtain rfl : u11 = u13 := qu11.symm.trans qu13
  obtain rfl : u9 = u14 := qu9.symm.trans qu14
  have nfP15 := jnf P15.1 (jmo w7 rfl (jmo w5 rfl (jmo w4 rfl (jmc S1 rfl z0)))) qu11
  show jX m_X12_behindSum 4 0 0 86 [(3, .int 7), (0, .ref 125), (1, .int l1), (2, .int l2)] [] _ 0 0 _
  refine x_iconst (v := 1) rfl ki_1 ?_
  refine x_iret rfl rfl ?_
  exact hQ _ _ (jr_of jk_1 (by omega)) J Sm _ _ _ qu9 qu10 qu11 (by omega) _ _ _ qu12 qu11 qu9 (by omega) (by rw [jk_1]; exact jbp_1 (bs_arith hA C0 P2 (jmc S1 rfl rfl) (jmc S1 rfl rfl) qu3 w4 w5 w7 (by omega) (by decide) (jeq_c S8 rfl jeq_0) (jeq_c S8 rfl jeq_0) (jeq_c S8 rfl jeq_0) (jeq_c S8 rfl jeq_0) (jmc S8 rfl rfl) (jmc S8 rfl rfl) (jmc S8 rfl rfl) (jmc S1 rfl z3) qu11 (by omega)))
set_option maxRecDepth 100000 in
set_option maxHeartbeats 4000000 in
theorem ct_X12_behindSum_r125_800062 {Dy : jH → Prop} {h0 : jH} {Q : Option Value → jH → Prop} {A : Nat} (hA : jTu 0 h0 A 1) (hD : jDk Dy) (hQ : ∀ (v : Int32) hx9, 1 ≤ v.toInt ∧ v.toInt ≤ 4 → jJ jSgM Dy hx9 → jSm fp_X12_behindSum_r125 h0 hx9 → ∀ u0 u1 u2 : Int32, jiv hx9 125 10 = u0 → jiv hx9 125 8 = u1 → jiv hx9 125 9 = u2 → (u0.toInt ≤ u1.toInt ∧ u2.toInt ≤ u0.toInt) → ∀ u3 u4 u5 : Int32, jiv hx9 125 11 = u3 → jiv hx9 125 9 = u4 → jiv hx9 125 10 = u5 → (u3.toInt = 0 ∨ u4.toInt + 1 ≤ u5.toInt) → jBp 2 4 A h0 v.toInt hx9 → Q (some (.int v)) hx9) : ∀ (l1 : Int32) (l2 : Int32) (g0 : Int32) (g1 : Int32) (g2 : Int32) (g3 : Int32) (h : jH), 0 ≤ l1.toInt ∧ l1.toInt ≤ 1 → (-1) ≤ l2.toInt ∧ l2.toInt ≤ 2147483647 → 0 ≤ g0.toInt ∧ g0.toInt ≤ 400 → 3 ≤ g1.toInt ∧ g1.toInt ≤ 3 → 0 ≤ g2.toInt ∧ g2.toInt ≤ 400 → 0 ≤ g3.toInt ∧ g3.toInt ≤ 400 → jSa h0 h → jIr (jiv h 150) l2 (jnL h) → g1.toInt ≠ 0 → (g0.toInt ≤ g2.toInt ∧ g3.toInt ≤ g0.toInt) → (g1.toInt = 0 ∨ g3.toInt + 1 ≤ g0.toInt) → jiv h 125 10 = g0 → jiv h 125 11 = g1 → jiv h 125 8 = g2 → jiv h 125 9 = g3 → jJ jSgM Dy h → jSm fp_X12_behindSum_r125 h0 h → jX m_X12_behindSum 4 0 0 62 [(0, .ref 125), (1, .int l1), (2, .int l2)] [.int 6] h 0 0 Q := by
  intro l1 l2 g0 g1 g2 g3 h y0 y1 y2 y3 y4 y5 C0 C1 y8 y9 y10 z0 z1 z2 z3  J Sm
  refine x_istoren (lsx9 := [(3, .int 6), (0, .ref 125), (1, .int l1), (2, .int l2)]) rfl rfl rfl ?_
  refine x_iloadn (x := 6) rfl rfl ?_
  refine x_iconst (v := (-1)) rfl ki_m1 ?_
  refine x_iceq (tgt := 88) rfl rfl (ti_eq jk_6 jk_m1 (br_f (by omega) ?_))
  refine x_aloadn (x := 125) rfl rfl ?_
  refine x_iloadn (x := 6) rfl rfl ?_
  refine x_inst (N := m_X12_binds) (As := [.int 6]) (st := [.ref 125]) (dx9 := 3) (mc := 0) (ms := 0) (host := "") rfl t_X12_binds ⟨Or.inl q_12_499, s_X12_binds⟩ rfl (by decide) rfl rfl ⟨by decide, by decide⟩ (jC.of rfl k_X12_binds rfl ?_)
  show jX m_X12_binds 3 0 0 0 [(0, .int 6)] [] _ 0 0 _
  refine x_iloadn (x := 6) rfl rfl ?_
  refine x_bipush (v := 30) rfl kb_30 ?_
  refine x_iclt (tgt := 10) rfl rfl (ti_lt jk_6 jk_30 (br_t (by omega) ?_))
  refine x_iloadn (x := 6) rfl rfl ?_
  refine x_bipush (v := 20) rfl kb_20 ?_
  refine x_icne (tgt := 20) rfl rfl (ti_ne jk_6 jk_20 (bn_t (by omega) ?_))
  refine x_iloadn (x := 6) rfl rfl ?_
  refine x_bipush (v := 19) rfl kb_19 ?_
  refine x_icne (tgt := 30) rfl rfl (ti_ne jk_6 jk_19 (bn_t (by omega) ?_))
  refine x_iloadn (x := 6) rfl rfl ?_
  refine x_bipush (v := 18) rfl kb_18 ?_
  refine x_icne (tgt := 40) rfl rfl (ti_ne jk_6 jk_18 (bn_t (by omega) ?_))
  refine x_iloadn (x := 6) rfl rfl ?_
  refine x_bipush (v := 10) rfl kb_10 ?_
  refine x_iclt (tgt := 50) rfl rfl (ti_lt jk_6 jk_10 (br_t (by omega) ?_))
  refine x_iloadn (x := 6) rfl rfl ?_
  refine x_bipush (v := 8) rfl kb_8 ?_
  refine x_iclt (tgt := 61) rfl rfl (ti_lt jk_6 jk_8 (br_t (by omega) ?_))
  refine x_iconst (v := 5) rfl ki_5 ?_
  refine x_iret rfl rfl ?_
  show jX m_X12_behindSum 4 0 0 73 [(3, .int 6), (0, .ref 125), (1, .int l1), (2, .int l2)] [.int 5, .ref 125] _ 0 0 _
  refine x_inv (N := m_X12_settle) (As := [.int 5]) (b := 125) (st := []) (dx9 := 2) (mc := 0) (ms := 0) (host := "") 12 rfl t_X12_settle ⟨Or.inl q_12_548, i_X12_settle.1, i_X12_settle.2⟩ ⟨by decide, rfl⟩ (congrArg Prod.fst (J.1.1 125 (12, 92) rfl)) rfl (by decide) rfl rfl ⟨by decide, by decide⟩ (sf_X12_settle_r125 (jr_of jk_5 (by omega)) (K9 := 0) (by decide) (jtu_sa hA C0) hD J  (fun h J S1 P2 => ?_))
  have Sm := jSm_tr rfl Sm S1
  show jX m_X12_behindSum 4 0 0 76 [(3, .int 6), (0, .ref 125), (1, .int l1), (2, .int l2)] [] _ 0 0 _
  refine x_aloadn (x := 125) rfl rfl ?_
  refine x_iloadn (x := 6) rfl rfl ?_
  refine x_iconst (v := 0) rfl ki_0 ?_
  refine x_inv (N := m_X12_push) (As := [.int 6, .int 0]) (b := 125) (st := []) (dx9 := 3) (mc := 0) (ms := 0) (host := "") 12 rfl t_X12_push ⟨Or.inl q_12_536, i_X12_push.1, i_X12_push.2⟩ ⟨by decide, rfl⟩ (congrArg Prod.fst (J.1.1 125 (12, 92) rfl)) rfl (by decide) rfl rfl ⟨by decide, by decide⟩ (jC.of rfl k_X12_push rfl ?_)
  show jX m_X12_push 3 0 0 0 [(0, .ref 125), (1, .int 6), (2, .int 0)] [] _ 0 0 _
  obtain ⟨u3, qu3⟩ : ∃ v : Int32, jiv h 125 55 = v := ⟨_, rfl⟩
  have eu3 := (show 0 ≤ u3.toInt ∧ u3.toInt ≤ 400 from qu3 ▸ jrg_f J sg_125_55_56_1_0_1)
  have lx := jtw_l P2.1.1.1 qu3 (jmc S1 rfl z3)
  refine x_aloadn (x := 125) rfl rfl ?_
  refine z_getR (N := 92) (b := 150) 12 53 rfl f_12_105 rfl J rfl 16053 ⟨rfl, rfl⟩ rfl ?_
  refine x_aloadn (x := 125) rfl rfl ?_
  refine z_getM (N := 92) (v := u3) 12 55 rfl f_12_496 rfl J rfl qu3 ?_
  refine x_iloadn (x := 6) rfl rfl ?_
  refine z_iast (N := 400) (l := 0) (u := 400) (w := 6) rfl hD J Sm rfl rfl rfl (by omega) jk_6 (wr_150) rfl (fun h w4 J Sm => ?_)
  refine x_aloadn (x := 125) rfl rfl ?_
  refine z_getR (N := 92) (b := 151) 12 54 rfl f_12_108 rfl J rfl 16054 ⟨rfl, rfl⟩ rfl ?_
  refine x_aloadn (x := 125) rfl rfl ?_
  refine z_getM (N := 92) (v := u3) 12 55 rfl f_12_496 rfl J rfl (jmo w4 rfl qu3) ?_
  refine x_iloadn (x := 0) rfl rfl ?_
  refine z_iast (N := 400) (l := 0) (u := 400) (w := 0) rfl hD J Sm rfl rfl rfl (by omega) jk_0 (wr_151) rfl (fun h w5 J Sm => ?_)
  refine x_aloadn (x := 125) rfl rfl ?_
  refine x_dup rfl rfl ?_
  refine z_getM (N := 92) (v := u3) 12 55 rfl f_12_496 rfl J rfl (jmo w5 rfl (jmo w4 rfl qu3)) ?_
  refine x_iconst (v := 1) rfl ki_1 ?_
  refine z_iadd rfl rfl jk_1 (by omega) (fun v6 ev6 => ?_)
  refine z_putI (N := 92) (w := v6.toInt) 12 55 rfl f_12_496 rfl (jfin_no TX12 RX12 92 rfl rfl) hD J Sm rfl rfl rfl (pw_125_55 (by omega)) rfl (fun h w7 J Sm => ?_)
  refine x_vret rfl rfl ?_
  show jX m_X12_behindSum 4 0 0 82 [(3, .int 6), (0, .ref 125), (1, .int l1), (2, .int l2)] [] _ 0 0 _
  refine x_aloadn (x := 125) rfl rfl ?_
  refine x_inv (N := m_X12_next) (As := []) (b := 125) (st := []) (dx9 := 2) (mc := 0) (ms := 0) (host := "") 12 rfl t_X12_next ⟨Or.inl q_12_218, i_X12_next.1, i_X12_next.2⟩ ⟨by decide, rfl⟩ (congrArg Prod.fst (J.1.1 125 (12, 92) rfl)) rfl (by decide) rfl rfl ⟨by decide, by decide⟩ (sf_X12_next_r125  hD J (jmo w7 rfl (jmo w5 rfl (jmo w4 rfl (jmc S1 rfl z0)))) (jmo w7 rfl (jmo w5 rfl (jmo w4 rfl (jmc S1 rfl z2)))) (by omega)  (fun h J S8 u9 u10 u11 qu9 qu10 qu11 ru9 u12 u13 u14 qu12 qu13 qu14 ru12 P15 => ?_))
  have Sm := jSm_tr rfl Sm S8
  have eu9 := (show 0 ≤ u9.toInt ∧ u9.toInt ≤ 400 from qu9 ▸ jrg_f J sg_125_10_11_1_0_1)
  have eu10 := (show 0 ≤ u10.toInt ∧ u10.toInt ≤ 400 from qu10 ▸ jrg_f J sg_125_8_9_1_0_1)
  have eu11 := (show 0 ≤ u11.toInt ∧ u11.toInt ≤ 400 from qu11 ▸ jrg_f J sg_125_9_10_1_0_1)
  have eu12 := (show 0 ≤ u12.toInt ∧ u12.toInt ≤ 3 from qu12 ▸ jrg_f J sg_125_11_12_1_0_1)
  obtain rfl : u11 = u13 := qu11.symm.trans qu13
  obtain rfl : u9 = u14 := qu9.symm.trans qu14
  have nfP15 := jnf P15.1 (jmo w7 rfl (jmo w5 rfl (jmo w4 rfl (jmc S1 rfl z0)))) qu11
  show jX m_X12_behindSum 4 0 0 86 [(3, .int 6), (0, .ref 125), (1, .int l1), (2, .int l2)] [] _ 0 0 _
  refine x_iconst (v := 1) rfl ki_1 ?_
  refine x_iret rfl rfl ?_
  exact hQ _ _ (jr_of jk_1 (by omega)) J Sm _ _ _ qu9 qu10 qu11 (by omega) _ _ _ qu12 qu11 qu9 (by omega) (by rw [jk_1]; exact jbp_1 (bs_arith hA C0 P2 (jmc S1 rfl rfl) (jmc S1 rfl rfl) qu3 w4 w5 w7 (by omega) (by decide) (jeq_c S8 rfl jeq_0) (jeq_c S8 rfl jeq_0) (jeq_c S8 rfl jeq_0) (jeq_c S8 rfl jeq_0) (jmc S8 rfl rfl) (jmc S8 rfl rfl) (jmc S8 rfl rfl) (jmc S1 rfl z3) qu11 (by omega)))
set_option maxRecDepth 100000 in
set_option maxHeartbeats 4000000 in
theorem sf_X12_behindSum_r125 {Dy : jH → Prop} {h : jH} {Q : Option Value → jH → Prop} {a1 : Int32} (y1 : 0 ≤ a1.toInt ∧ a1.toInt ≤ 1) {A : Nat} (hA : jTu 0 h A 1) (hD : jDk Dy) (J : jJ jSgM Dy h) {p0 p1 p2 : Int32} {p3 p4 p5 : Int32} (zp0 : jiv h 125 10 = p0) (zp1 : jiv h 125 8 = p1) (zp2 : jiv h 125 9 = p2) (rl_p0 : (p0.toInt ≤ p1.toInt ∧ p2.toInt ≤ p0.toInt)) (zp3 : jiv h 125 11 = p3) (zp4 : jiv h 125 9 = p4) (zp5 : jiv h 125 10 = p5) (rl_p3 : (p3.toInt = 0 ∨ p4.toInt + 1 ≤ p5.toInt)) (hQ : ∀ (v : Int32) hx9, 1 ≤ v.toInt ∧ v.toInt ≤ 4 → jJ jSgM Dy hx9 → jSm fp_X12_behindSum_r125 h hx9 → ∀ u0 u1 u2 : Int32, jiv hx9 125 10 = u0 → jiv hx9 125 8 = u1 → jiv hx9 125 9 = u2 → (u0.toInt ≤ u1.toInt ∧ u2.toInt ≤ u0.toInt) → ∀ u3 u4 u5 : Int32, jiv hx9 125 11 = u3 → jiv hx9 125 9 = u4 → jiv hx9 125 10 = u5 → (u3.toInt = 0 ∨ u4.toInt + 1 ≤ u5.toInt) → jBp 2 4 A h v.toInt hx9 → Q (some (.int v)) hx9) : jC m_X12_behindSum 4 0 0 [.ref 125, .int a1] h Q := by
  refine jC.of rfl k_X12_behindSum rfl ?_
  have Sm := jSm_rf fp_X12_behindSum_r125 h
  have ep0 := (show 0 ≤ p0.toInt ∧ p0.toInt ≤ 400 from zp0 ▸ jrg_f J sg_125_10_11_1_0_1)
  have ep1 := (show 0 ≤ p1.toInt ∧ p1.toInt ≤ 400 from zp1 ▸ jrg_f J sg_125_8_9_1_0_1)
  have ep2 := (show 0 ≤ p2.toInt ∧ p2.toInt ≤ 400 from zp2 ▸ jrg_f J sg_125_9_10_1_0_1)
  have ep3 := (show 0 ≤ p3.toInt ∧ p3.toInt ≤ 3 from zp3 ▸ jrg_f J sg_125_11_12_1_0_1)
  have ep4 := (show 0 ≤ p4.toInt ∧ p4.toInt ≤ 400 from zp4 ▸ jrg_f J sg_125_9_10_1_0_1)
  have ep5 := (show 0 ≤ p5.toInt ∧ p5.toInt ≤ 400 from zp5 ▸ jrg_f J sg_125_10_11_1_0_1)
  obtain rfl : p2 = p4 := zp2.symm.trans zp4
  obtain rfl : p0 = p5 := zp0.symm.trans zp5
  skip
  show jX m_X12_behindSum 4 0 0 0 [(0, .ref 125), (1, .int a1)] [] _ 0 0 _
  refine x_aloadn (x := 125) rfl rfl ?_
  refine x_inv (N := m_X12_inner) (As := []) (b := 125) (st := []) (dx9 := 1) (mc := 0) (ms := 0) (host := "") 12 rfl t_X12_inner ⟨Or.inl q_12_545, i_X12_inner.1, i_X12_inner.2⟩ ⟨by decide, rfl⟩ (congrArg Prod.fst (J.1.1 125 (12, 92) rfl)) rfl (by decide) rfl rfl ⟨by decide, by decide⟩ (sf_X12_inner_r125  hD J  (fun v3 h ev3 J S1 P2 => ?_))
  have Sm := jSm_tr rfl Sm S1
  have iv30 := jir_30 P2
  show jX m_X12_behindSum 4 0 0 4 [(0, .ref 125), (1, .int a1)] [.int v3] _ 0 0 _
  refine x_istoren (lsx9 := [(2, .int v3), (0, .ref 125), (1, .int a1)]) rfl rfl rfl ?_
  refine x_aloadn (x := 125) rfl rfl ?_
  refine x_bipush (v := 43) rfl kb_43 ?_
  refine x_inv (N := m_X12_isSign) (As := [.int 43]) (b := 125) (st := []) (dx9 := 3) (mc := 0) (ms := 0) (host := "") 12 rfl t_X12_isSign ⟨Or.inl q_12_257, i_X12_isSign.1, i_X12_isSign.2⟩ ⟨by decide, rfl⟩ (congrArg Prod.fst (J.1.1 125 (12, 92) rfl)) rfl (by decide) rfl rfl ⟨by decide, by decide⟩ (jC.of rfl k_X12_isSign rfl ?_)
  show jX m_X12_isSign 3 0 0 0 [(0, .ref 125), (1, .int 43)] [] _ 0 0 _
  refine x_aloadn (x := 125) rfl rfl ?_
  refine z_getM (N := 92) (v := p3) 12 11 rfl f_12_235 rfl J rfl (jmc S1 rfl zp3) ?_
  refine x_iconst (v := 3) rfl ki_3 ?_
  refine x_icne (tgt := 22) rfl rfl (ti_ne rfl jk_3 ⟨fun c4 => ?_, fun c4 => ?_⟩)
  ·
    refine x_iconst (v := 0) rfl ki_0 ?_
    refine x_zret rfl rfl (by decide) ?_
    show jX m_X12_behindSum 4 0 0 11 [(2, .int v3), (0, .ref 125), (1, .int a1)] [.int 0] _ 0 0 _
    refine x_ifeq (tgt := 19) rfl rfl (ti_eq jk_0 jk_0 (br_t (by omega) ?_))
    refine x_aloadn (x := 125) rfl rfl ?_
    refine x_bipush (v := 45) rfl kb_45 ?_
    refine x_inv (N := m_X12_isSign) (As := [.int 45]) (b := 125) (st := []) (dx9 := 3) (mc := 0) (ms := 0) (host := "") 12 rfl t_X12_isSign ⟨Or.inl q_12_257, i_X12_isSign.1, i_X12_isSign.2⟩ ⟨by decide, rfl⟩ (congrArg Prod.fst (J.1.1 125 (12, 92) rfl)) rfl (by decide) rfl rfl ⟨by decide, by decide⟩ (jC.of rfl k_X12_isSign rfl ?_)
    show jX m_X12_isSign 3 0 0 0 [(0, .ref 125), (1, .int 45)] [] _ 0 0 _
    refine x_aloadn (x := 125) rfl rfl ?_
    refine z_getM (N := 92) (v := p3) 12 11 rfl f_12_235 rfl J rfl (jmc S1 rfl zp3) ?_
    refine x_iconst (v := 3) rfl ki_3 ?_
    refine x_icne (tgt := 22) rfl rfl (ti_ne rfl jk_3 (bn_t (by omega) ?_))
    refine x_iconst (v := 0) rfl ki_0 ?_
    refine x_zret rfl rfl (by decide) ?_
    show jX m_X12_behindSum 4 0 0 25 [(2, .int v3), (0, .ref 125), (1, .int a1)] [.int 0] _ 0 0 _
    refine x_ifeq (tgt := 33) rfl rfl (ti_eq jk_0 jk_0 (br_t (by omega) ?_))
    refine x_aloadn (x := 125) rfl rfl ?_
    refine x_bipush (v := 42) rfl kb_42 ?_
    refine x_inv (N := m_X12_isSign) (As := [.int 42]) (b := 125) (st := []) (dx9 := 3) (mc := 0) (ms := 0) (host := "") 12 rfl t_X12_isSign ⟨Or.inl q_12_257, i_X12_isSign.1, i_X12_isSign.2⟩ ⟨by decide, rfl⟩ (congrArg Prod.fst (J.1.1 125 (12, 92) rfl)) rfl (by decide) rfl rfl ⟨by decide, by decide⟩ (jC.of rfl k_X12_isSign rfl ?_)
    show jX m_X12_isSign 3 0 0 0 [(0, .ref 125), (1, .int 42)] [] _ 0 0 _
    refine x_aloadn (x := 125) rfl rfl ?_
    refine z_getM (N := 92) (v := p3) 12 11 rfl f_12_235 rfl J rfl (jmc S1 rfl zp3) ?_
    refine x_iconst (v := 3) rfl ki_3 ?_
    refine x_icne (tgt := 22) rfl rfl (ti_ne rfl jk_3 (bn_t (by omega) ?_))
    refine x_iconst (v := 0) rfl ki_0 ?_
    refine x_zret rfl rfl (by decide) ?_
    show jX m_X12_behindSum 4 0 0 39 [(2, .int v3), (0, .ref 125), (1, .int a1)] [.int 0] _ 0 0 _
    refine x_ifeq (tgt := 47) rfl rfl (ti_eq jk_0 jk_0 (br_t (by omega) ?_))
    refine x_aloadn (x := 125) rfl rfl ?_
    refine x_bipush (v := 47) rfl kb_47 ?_
    refine x_inv (N := m_X12_isSign) (As := [.int 47]) (b := 125) (st := []) (dx9 := 3) (mc := 0) (ms := 0) (host := "") 12 rfl t_X12_isSign ⟨Or.inl q_12_257, i_X12_isSign.1, i_X12_isSign.2⟩ ⟨by decide, rfl⟩ (congrArg Prod.fst (J.1.1 125 (12, 92) rfl)) rfl (by decide) rfl rfl ⟨by decide, by decide⟩ (jC.of rfl k_X12_isSign rfl ?_)
    show jX m_X12_isSign 3 0 0 0 [(0, .ref 125), (1, .int 47)] [] _ 0 0 _
    refine x_aloadn (x := 125) rfl rfl ?_
    refine z_getM (N := 92) (v := p3) 12 11 rfl f_12_235 rfl J rfl (jmc S1 rfl zp3) ?_
    refine x_iconst (v := 3) rfl ki_3 ?_
    refine x_icne (tgt := 22) rfl rfl (ti_ne rfl jk_3 (bn_t (by omega) ?_))
    refine x_iconst (v := 0) rfl ki_0 ?_
    refine x_zret rfl rfl (by decide) ?_
    show jX m_X12_behindSum 4 0 0 53 [(2, .int v3), (0, .ref 125), (1, .int a1)] [.int 0] _ 0 0 _
    refine x_ifeq (tgt := 61) rfl rfl (ti_eq jk_0 jk_0 (br_t (by omega) ?_))
    refine x_iconst (v := (-1)) rfl ki_m1 ?_
    exact jX.sub (jsb_c rfl (jsb_c rfl (jsb_c rfl jsb_n))) (ct_X12_behindSum_r125_100062 hA hD hQ  a1 v3 p0 p3 p1 p2 h (jr_of rfl (by omega)) (jr_of rfl (by omega)) (jr_of rfl (by omega)) (jr_of rfl (by omega)) (jr_of rfl (by omega)) (jr_of rfl (by omega)) ⟨(jeq_c S1 rfl jeq_0), (jeq_c S1 rfl jeq_0), (jeq_c S1 rfl jeq_0), (jeq_c S1 rfl jeq_0), (jmc S1 rfl rfl), (jmc S1 rfl rfl), (jmc S1 rfl rfl), (jmc S1 rfl rfl)⟩ P2 (by omega) (by omega) (jmc S1 rfl zp0) (jmc S1 rfl zp3) (jmc S1 rfl zp1) (jmc S1 rfl zp2) J Sm)
  ·
    refine x_aloadn (x := 125) rfl rfl ?_
    refine z_getL0 (N := 92) 12 12 rfl f_12_224 rfl J rfl (fun v5 => ?_)
    have ev5 := jfullL v5
    refine x_iloadn (x := 43) rfl rfl ?_
    refine z_i2l rfl jk_43 (fun v6 ev6 => ?_)
    refine z_lcmp rfl rfl rfl (fun v7 ev7 => ?_)
    refine x_ifne (tgt := 22) rfl rfl (ti_ne rfl jk_0 ⟨fun c8 => ?_, fun c8 => ?_⟩)
    ·
      refine x_iconst (v := 0) rfl ki_0 ?_
      refine x_zret rfl rfl (by decide) ?_
      show jX m_X12_behindSum 4 0 0 11 [(2, .int v3), (0, .ref 125), (1, .int a1)] [.int 0] _ 0 0 _
      refine x_ifeq (tgt := 19) rfl rfl (ti_eq jk_0 jk_0 (br_t (by omega) ?_))
      refine x_aloadn (x := 125) rfl rfl ?_
      refine x_bipush (v := 45) rfl kb_45 ?_
      refine x_inv (N := m_X12_isSign) (As := [.int 45]) (b := 125) (st := []) (dx9 := 3) (mc := 0) (ms := 0) (host := "") 12 rfl t_X12_isSign ⟨Or.inl q_12_257, i_X12_isSign.1, i_X12_isSign.2⟩ ⟨by decide, rfl⟩ (congrArg Prod.fst (J.1.1 125 (12, 92) rfl)) rfl (by decide) rfl rfl ⟨by decide, by decide⟩ (jC.of rfl k_X12_isSign rfl ?_)
      show jX m_X12_isSign 3 0 0 0 [(0, .ref 125), (1, .int 45)] [] _ 0 0 _
      refine x_aloadn (x := 125) rfl rfl ?_
      refine z_getM (N := 92) (v := p3) 12 11 rfl f_12_235 rfl J rfl (jmc S1 rfl zp3) ?_
      refine x_iconst (v := 3) rfl ki_3 ?_
      refine x_icne (tgt := 22) rfl rfl (ti_ne rfl jk_3 (bn_f (by omega) ?_))
      refine x_aloadn (x := 125) rfl rfl ?_
      refine z_getL0 (N := 92) 12 12 rfl f_12_224 rfl J rfl (fun v9 => ?_)
      have ev9 := jfullL v9
      refine x_iloadn (x := 45) rfl rfl ?_
      refine z_i2l rfl jk_45 (fun v10 ev10 => ?_)
      refine z_lcmp rfl rfl rfl (fun v11 ev11 => ?_)
      refine x_ifne (tgt := 22) rfl rfl (ti_ne rfl jk_0 ⟨fun c12 => ?_, fun c12 => ?_⟩)
      ·
        refine x_iconst (v := 0) rfl ki_0 ?_
        refine x_zret rfl rfl (by decide) ?_
        show jX m_X12_behindSum 4 0 0 25 [(2, .int v3), (0, .ref 125), (1, .int a1)] [.int 0] _ 0 0 _
        refine x_ifeq (tgt := 33) rfl rfl (ti_eq jk_0 jk_0 (br_t (by omega) ?_))
        refine x_aloadn (x := 125) rfl rfl ?_
        refine x_bipush (v := 42) rfl kb_42 ?_
        refine x_inv (N := m_X12_isSign) (As := [.int 42]) (b := 125) (st := []) (dx9 := 3) (mc := 0) (ms := 0) (host := "") 12 rfl t_X12_isSign ⟨Or.inl q_12_257, i_X12_isSign.1, i_X12_isSign.2⟩ ⟨by decide, rfl⟩ (congrArg Prod.fst (J.1.1 125 (12, 92) rfl)) rfl (by decide) rfl rfl ⟨by decide, by decide⟩ (jC.of rfl k_X12_isSign rfl ?_)
        show jX m_X12_isSign 3 0 0 0 [(0, .ref 125), (1, .int 42)] [] _ 0 0 _
        refine x_aloadn (x := 125) rfl rfl ?_
        refine z_getM (N := 92) (v := p3) 12 11 rfl f_12_235 rfl J rfl (jmc S1 rfl zp3) ?_
        refine x_iconst (v := 3) rfl ki_3 ?_
        refine x_icne (tgt := 22) rfl rfl (ti_ne rfl jk_3 (bn_f (by omega) ?_))
        refine x_aloadn (x := 125) rfl rfl ?_
        refine z_getL0 (N := 92) 12 12 rfl f_12_224 rfl J rfl (fun v13 => ?_)
        have ev13 := jfullL v13
        refine x_iloadn (x := 42) rfl rfl ?_
        refine z_i2l rfl jk_42 (fun v14 ev14 => ?_)
        refine z_lcmp rfl rfl rfl (fun v15 ev15 => ?_)
        refine x_ifne (tgt := 22) rfl rfl (ti_ne rfl jk_0 ⟨fun c16 => ?_, fun c16 => ?_⟩)
        ·
          refine x_iconst (v := 0) rfl ki_0 ?_
          refine x_zret rfl rfl (by decide) ?_
          show jX m_X12_behindSum 4 0 0 39 [(2, .int v3), (0, .ref 125), (1, .int a1)] [.int 0] _ 0 0 _
          refine x_ifeq (tgt := 47) rfl rfl (ti_eq jk_0 jk_0 (br_t (by omega) ?_))
          refine x_aloadn (x := 125) rfl rfl ?_
          refine x_bipush (v := 47) rfl kb_47 ?_
          refine x_inv (N := m_X12_isSign) (As := [.int 47]) (b := 125) (st := []) (dx9 := 3) (mc := 0) (ms := 0) (host := "") 12 rfl t_X12_isSign ⟨Or.inl q_12_257, i_X12_isSign.1, i_X12_isSign.2⟩ ⟨by decide, rfl⟩ (congrArg Prod.fst (J.1.1 125 (12, 92) rfl)) rfl (by decide) rfl rfl ⟨by decide, by decide⟩ (jC.of rfl k_X12_isSign rfl ?_)
          show jX m_X12_isSign 3 0 0 0 [(0, .ref 125), (1, .int 47)] [] _ 0 0 _
          refine x_aloadn (x := 125) rfl rfl ?_
          refine z_getM (N := 92) (v := p3) 12 11 rfl f_12_235 rfl J rfl (jmc S1 rfl zp3) ?_
          refine x_iconst (v := 3) rfl ki_3 ?_
          refine x_icne (tgt := 22) rfl rfl (ti_ne rfl jk_3 (bn_f (by omega) ?_))
          refine x_aloadn (x := 125) rfl rfl ?_
          refine z_getL0 (N := 92) 12 12 rfl f_12_224 rfl J rfl (fun v17 => ?_)
          have ev17 := jfullL v17
          refine x_iloadn (x := 47) rfl rfl ?_
          refine z_i2l rfl jk_47 (fun v18 ev18 => ?_)
          refine z_lcmp rfl rfl rfl (fun v19 ev19 => ?_)
          refine x_ifne (tgt := 22) rfl rfl (ti_ne rfl jk_0 ⟨fun c20 => ?_, fun c20 => ?_⟩)
          ·
            refine x_iconst (v := 0) rfl ki_0 ?_
            refine x_zret rfl rfl (by decide) ?_
            show jX m_X12_behindSum 4 0 0 53 [(2, .int v3), (0, .ref 125), (1, .int a1)] [.int 0] _ 0 0 _
            refine x_ifeq (tgt := 61) rfl rfl (ti_eq jk_0 jk_0 (br_t (by omega) ?_))
            refine x_iconst (v := (-1)) rfl ki_m1 ?_
            exact jX.sub (jsb_c rfl (jsb_c rfl (jsb_c rfl jsb_n))) (ct_X12_behindSum_r125_100062 hA hD hQ  a1 v3 p0 p3 p1 p2 h (jr_of rfl (by omega)) (jr_of rfl (by omega)) (jr_of rfl (by omega)) (jr_of rfl (by omega)) (jr_of rfl (by omega)) (jr_of rfl (by omega)) ⟨(jeq_c S1 rfl jeq_0), (jeq_c S1 rfl jeq_0), (jeq_c S1 rfl jeq_0), (jeq_c S1 rfl jeq_0), (jmc S1 rfl rfl), (jmc S1 rfl rfl), (jmc S1 rfl rfl), (jmc S1 rfl rfl)⟩ P2 (by omega) (by omega) (jmc S1 rfl zp0) (jmc S1 rfl zp3) (jmc S1 rfl zp1) (jmc S1 rfl zp2) J Sm)
          ·
            refine x_iconst (v := 1) rfl ki_1 ?_
            refine x_goto (tgt := 23) rfl rfl ?_
            refine x_zret rfl rfl (by decide) ?_
            show jX m_X12_behindSum 4 0 0 53 [(2, .int v3), (0, .ref 125), (1, .int a1)] [.int 1] _ 0 0 _
            refine x_ifeq (tgt := 61) rfl rfl (ti_eq jk_1 jk_0 (br_f (by omega) ?_))
            refine x_bipush (v := 9) rfl kb_9 ?_
            refine x_goto (tgt := 62) rfl rfl ?_
            exact jX.sub (jsb_c rfl (jsb_c rfl (jsb_c rfl jsb_n))) (ct_X12_behindSum_r125_62 hA hD hQ  a1 v3 p0 p3 p1 p2 h (jr_of rfl (by omega)) (jr_of rfl (by omega)) (jr_of rfl (by omega)) (jr_of rfl (by omega)) (jr_of rfl (by omega)) (jr_of rfl (by omega)) ⟨(jeq_c S1 rfl jeq_0), (jeq_c S1 rfl jeq_0), (jeq_c S1 rfl jeq_0), (jeq_c S1 rfl jeq_0), (jmc S1 rfl rfl), (jmc S1 rfl rfl), (jmc S1 rfl rfl), (jmc S1 rfl rfl)⟩ P2 (by omega) (by omega) (by omega) (jmc S1 rfl zp0) (jmc S1 rfl zp3) (jmc S1 rfl zp1) (jmc S1 rfl zp2) J Sm)
        ·
          refine x_iconst (v := 1) rfl ki_1 ?_
          refine x_goto (tgt := 23) rfl rfl ?_
          refine x_zret rfl rfl (by decide) ?_
          show jX m_X12_behindSum 4 0 0 39 [(2, .int v3), (0, .ref 125), (1, .int a1)] [.int 1] _ 0 0 _
          refine x_ifeq (tgt := 47) rfl rfl (ti_eq jk_1 jk_0 (br_f (by omega) ?_))
          refine x_bipush (v := 8) rfl kb_8 ?_
          refine x_goto (tgt := 62) rfl rfl ?_
          exact jX.sub (jsb_c rfl (jsb_c rfl (jsb_c rfl jsb_n))) (ct_X12_behindSum_r125_1000062 hA hD hQ  a1 v3 p0 p3 p1 p2 h (jr_of rfl (by omega)) (jr_of rfl (by omega)) (jr_of rfl (by omega)) (jr_of rfl (by omega)) (jr_of rfl (by omega)) (jr_of rfl (by omega)) ⟨(jeq_c S1 rfl jeq_0), (jeq_c S1 rfl jeq_0), (jeq_c S1 rfl jeq_0), (jeq_c S1 rfl jeq_0), (jmc S1 rfl rfl), (jmc S1 rfl rfl), (jmc S1 rfl rfl), (jmc S1 rfl rfl)⟩ P2 (by omega) (by omega) (by omega) (jmc S1 rfl zp0) (jmc S1 rfl zp3) (jmc S1 rfl zp1) (jmc S1 rfl zp2) J Sm)
      ·
        refine x_iconst (v := 1) rfl ki_1 ?_
        refine x_goto (tgt := 23) rfl rfl ?_
        refine x_zret rfl rfl (by decide) ?_
        show jX m_X12_behindSum 4 0 0 25 [(2, .int v3), (0, .ref 125), (1, .int a1)] [.int 1] _ 0 0 _
        refine x_ifeq (tgt := 33) rfl rfl (ti_eq jk_1 jk_0 (br_f (by omega) ?_))
        refine x_bipush (v := 7) rfl kb_7 ?_
        refine x_goto (tgt := 62) rfl rfl ?_
        exact jX.sub (jsb_c rfl (jsb_c rfl (jsb_c rfl jsb_n))) (ct_X12_behindSum_r125_900062 hA hD hQ  a1 v3 p0 p3 p1 p2 h (jr_of rfl (by omega)) (jr_of rfl (by omega)) (jr_of rfl (by omega)) (jr_of rfl (by omega)) (jr_of rfl (by omega)) (jr_of rfl (by omega)) ⟨(jeq_c S1 rfl jeq_0), (jeq_c S1 rfl jeq_0), (jeq_c S1 rfl jeq_0), (jeq_c S1 rfl jeq_0), (jmc S1 rfl rfl), (jmc S1 rfl rfl), (jmc S1 rfl rfl), (jmc S1 rfl rfl)⟩ P2 (by omega) (by omega) (by omega) (jmc S1 rfl zp0) (jmc S1 rfl zp3) (jmc S1 rfl zp1) (jmc S1 rfl zp2) J Sm)
    ·
      refine x_iconst (v := 1) rfl ki_1 ?_
      refine x_goto (tgt := 23) rfl rfl ?_
      refine x_zret rfl rfl (by decide) ?_
      show jX m_X12_behindSum 4 0 0 11 [(2, .int v3), (0, .ref 125), (1, .int a1)] [.int 1] _ 0 0 _
      refine x_ifeq (tgt := 19) rfl rfl (ti_eq jk_1 jk_0 (br_f (by omega) ?_))
      refine x_bipush (v := 6) rfl kb_6 ?_
      refine x_goto (tgt := 62) rfl rfl ?_
      exact jX.sub (jsb_c rfl (jsb_c rfl (jsb_c rfl jsb_n))) (ct_X12_behindSum_r125_800062 hA hD hQ  a1 v3 p0 p3 p1 p2 h (jr_of rfl (by omega)) (jr_of rfl (by omega)) (jr_of rfl (by omega)) (jr_of rfl (by omega)) (jr_of rfl (by omega)) (jr_of rfl (by omega)) ⟨(jeq_c S1 rfl jeq_0), (jeq_c S1 rfl jeq_0), (jeq_c S1 rfl jeq_0), (jeq_c S1 rfl jeq_0), (jmc S1 rfl rfl), (jmc S1 rfl rfl), (jmc S1 rfl rfl), (jmc S1 rfl rfl)⟩ P2 (by omega) (by omega) (by omega) (jmc S1 rfl zp0) (jmc S1 rfl zp3) (jmc S1 rfl zp1) (jmc S1 rfl zp2) J Sm)
def fp_X12_behindTest_r125 : jFp := [(125, 9, 10), (125, 10, 11), (125, 11, 12), (125, 12, 13), (125, 13, 14), (125, 14, 15), (125, 49, 50), (125, 55, 56), (125, 56, 57), (148, 0, 400), (149, 0, 400), (150, 0, 400), (151, 0, 400)]
set_option maxRecDepth 100000 in
set_option maxHeartbeats 4000000 in
theorem ct_X12_behindTest_r125_66 {Dy : jH → Prop} {h0 : jH} {Q : Option Value → jH → Prop} {A : Nat} (hA : jTu 0 h0 A 1) (hN : (jiv h0 125 14).toInt ≠ 0 ∨ jNsq h0) (hD : jDk Dy) (hQ : ∀ (v : Int32) hx9, 0 ≤ v.toInt ∧ v.toInt ≤ 4 → jJ jSgM Dy hx9 → jSm fp_X12_behindTest_r125 h0 hx9 → ∀ u0 u1 u2 : Int32, jiv hx9 125 10 = u0 → jiv hx9 125 8 = u1 → jiv hx9 125 9 = u2 → (u0.toInt ≤ u1.toInt ∧ u2.toInt ≤ u0.toInt) → ∀ u3 u4 u5 : Int32, jiv hx9 125 11 = u3 → jiv hx9 125 9 = u4 → jiv hx9 125 10 = u5 → (u3.toInt = 0 ∨ u4.toInt + 1 ≤ u5.toInt) → jBp 4 4 A h0 v.toInt hx9 → Q (some (.int v)) hx9) : ∀ (s0 : Int32) (g0 : Int32) (g1 : Int32) (g2 : Int32) (g3 : Int32) (g4 : Int32) (h : jH), 19 ≤ s0.toInt ∧ s0.toInt ≤ 20 → 0 ≤ g0.toInt ∧ g0.toInt ≤ 400 → 1 ≤ g1.toInt ∧ g1.toInt ≤ 1 → 0 ≤ g2.toInt ∧ g2.toInt ≤ 399 → 0 ≤ g3.toInt ∧ g3.toInt ≤ 400 → 0 ≤ g4.toInt ∧ g4.toInt ≤ 400 → jB66 A h0 h → g1.toInt ≠ 0 → (g0.toInt ≤ g3.toInt ∧ g4.toInt ≤ g0.toInt) → (g1.toInt = 0 ∨ g4.toInt + 1 ≤ g0.toInt) → jiv h 125 10 = g0 → jiv h 125 11 = g1 → jiv h 125 49 = g2 → jiv h 125 8 = g3 → jiv h 125 9 = g4 → jJ jSgM Dy h → jSm fp_X12_behindTest_r125 h0 h → jX m_X12_behindTest 4 0 0 66 [(0, .ref 125)] [.int s0, .ref 125] h 0 0 Q := by
  intro s0 g0 g1 g2 g3 g4 h y0 y1 y2 y3 y4 y5 C0 y7 y8 y9 z0 z1 z2 z3 z4  J Sm
  have cx := jb66_c C0 z2
  refine x_iconst (v := 0) rfl ki_0 ?_
  refine x_inv (N := m_X12_emit) (As := [.int s0, .int 0]) (b := 125) (st := []) (dx9 := 3) (mc := 0) (ms := 0) (host := "") 12 rfl t_X12_emit ⟨Or.inl q_12_502, i_X12_emit.1, i_X12_emit.2⟩ ⟨by decide, rfl⟩ (congrArg Prod.fst (J.1.1 125 (12, 92) rfl)) rfl (by decide) rfl rfl ⟨by decide, by decide⟩ (jC.of rfl k_X12_emit rfl ?_)
  show jX m_X12_emit 3 0 0 0 [(0, .ref 125), (1, .int s0), (2, .int 0)] [] _ 0 0 _
  refine x_aloadn (x := 125) rfl rfl ?_
  refine z_getR (N := 92) (b := 148) 12 50 rfl f_12_99 rfl J rfl 16050 ⟨rfl, rfl⟩ rfl ?_
  refine x_aloadn (x := 125) rfl rfl ?_
  refine z_getM (N := 92) (v := g2) 12 49 rfl f_12_493 rfl J rfl z2 ?_
  refine x_iloadn (x := s0) rfl rfl ?_
  refine z_iast (N := 400) (l := 0) (u := 400) (w := s0.toInt) rfl hD J Sm rfl rfl rfl (by omega) rfl (wr_148) rfl (fun h w1 J Sm => ?_)
  refine x_aloadn (x := 125) rfl rfl ?_
  refine z_getR (N := 92) (b := 149) 12 51 rfl f_12_102 rfl J rfl 16051 ⟨rfl, rfl⟩ rfl ?_
  refine x_aloadn (x := 125) rfl rfl ?_
  refine z_getM (N := 92) (v := g2) 12 49 rfl f_12_493 rfl J rfl (jmo w1 rfl z2) ?_
  refine x_iloadn (x := 0) rfl rfl ?_
  refine z_iast (N := 400) (l := 0) (u := 400) (w := 0) rfl hD J Sm rfl rfl rfl (by omega) jk_0 (wr_149) rfl (fun h w2 J Sm => ?_)
  refine x_aloadn (x := 125) rfl rfl ?_
  refine x_dup rfl rfl ?_
  refine z_getM (N := 92) (v := g2) 12 49 rfl f_12_493 rfl J rfl (jmo w2 rfl (jmo w1 rfl z2)) ?_
  refine x_iconst (v := 1) rfl ki_1 ?_
  refine z_iadd rfl rfl jk_1 (by omega) (fun v3 ev3 => ?_)
  refine z_putI (N := 92) (w := v3.toInt) 12 49 rfl f_12_493 rfl (jfin_no TX12 RX12 92 rfl rfl) hD J Sm rfl rfl rfl (pw_125_49 (by omega)) rfl (fun h w4 J Sm => ?_)
  refine x_vret rfl rfl ?_
  show jX m_X12_behindTest 4 0 0 70 [(0, .ref 125)] [] _ 0 0 _
  refine x_aloadn (x := 125) rfl rfl ?_
  refine x_inv (N := m_X12_next) (As := []) (b := 125) (st := []) (dx9 := 2) (mc := 0) (ms := 0) (host := "") 12 rfl t_X12_next ⟨Or.inl q_12_218, i_X12_next.1, i_X12_next.2⟩ ⟨by decide, rfl⟩ (congrArg Prod.fst (J.1.1 125 (12, 92) rfl)) rfl (by decide) rfl rfl ⟨by decide, by decide⟩ (sf_X12_next_r125  hD J (jmo w4 rfl (jmo w2 rfl (jmo w1 rfl z0))) (jmo w4 rfl (jmo w2 rfl (jmo w1 rfl z3))) (by omega)  (fun h J S5 u6 u7 u8 qu6 qu7 qu8 ru6 u9 u10 u11 qu9 qu10 qu11 ru9 P12 => ?_))
  have Sm := jSm_tr rfl Sm S5
  have eu6 := (show 0 ≤ u6.toInt ∧ u6.toInt ≤ 400 from qu6 ▸ jrg_f J sg_125_10_11_1_0_1)
  have eu7 := (show 0 ≤ u7.toInt ∧ u7.toInt ≤ 400 from qu7 ▸ jrg_f J sg_125_8_9_1_0_1)
  have eu8 := (show 0 ≤ u8.toInt ∧ u8.toInt ≤ 400 from qu8 ▸ jrg_f J sg_125_9_10_1_0_1)
  have eu9 := (show 0 ≤ u9.toInt ∧ u9.toInt ≤ 3 from qu9 ▸ jrg_f J sg_125_11_12_1_0_1)
  obtain rfl : u8 = u10 := qu8.symm.trans qu10
  obtain rfl : u6 = u11 := qu6.symm.trans qu11
  have nfP12 := jnf P12.1 (jmo w4 rfl (jmo w2 rfl (jmo w1 rfl z0))) qu8
  show jX m_X12_behindTest 4 0 0 74 [(0, .ref 125)] [] _ 0 0 _
  refine x_iconst (v := 0) rfl ki_0 ?_
  refine x_iret rfl rfl ?_
  exact hQ _ _ (jr_of jk_0 (by omega)) J Sm _ _ _ qu6 qu7 qu8 (by omega) _ _ _ qu9 qu8 qu6 (by omega) (by rw [jk_0]; exact jbp_1 (bt_ao C0 z2 w1 w2 w4 (by omega) (by unfold jAo_; omega) (jeq_c S5 rfl jeq_0) (jeq_c S5 rfl jeq_0) (jeq_c S5 rfl jeq_0) (jeq_c S5 rfl jeq_0) (jmc S5 rfl rfl) (jmc S5 rfl rfl) (jmc S5 rfl rfl) z4 qu8 (by omega)))
set_option maxRecDepth 100000 in
set_option maxHeartbeats 4000000 in
theorem ct_X12_behindTest_r125_47 {Dy : jH → Prop} {h0 : jH} {Q : Option Value → jH → Prop} {A : Nat} (hA : jTu 0 h0 A 1) (hN : (jiv h0 125 14).toInt ≠ 0 ∨ jNsq h0) (hD : jDk Dy) (hQ : ∀ (v : Int32) hx9, 0 ≤ v.toInt ∧ v.toInt ≤ 4 → jJ jSgM Dy hx9 → jSm fp_X12_behindTest_r125 h0 hx9 → ∀ u0 u1 u2 : Int32, jiv hx9 125 10 = u0 → jiv hx9 125 8 = u1 → jiv hx9 125 9 = u2 → (u0.toInt ≤ u1.toInt ∧ u2.toInt ≤ u0.toInt) → ∀ u3 u4 u5 : Int32, jiv hx9 125 11 = u3 → jiv hx9 125 9 = u4 → jiv hx9 125 10 = u5 → (u3.toInt = 0 ∨ u4.toInt + 1 ≤ u5.toInt) → jBp 4 4 A h0 v.toInt hx9 → Q (some (.int v)) hx9) : ∀ (l1 : Int32) (s0 : Int32) (g0 : Int32) (g1 : Int32) (g2 : Int32) (g3 : Int32) (g4 : Int32) (g5 : Int32) (h : jH), 0 ≤ l1.toInt ∧ l1.toInt ≤ 1 → 19 ≤ s0.toInt ∧ s0.toInt ≤ 20 → 0 ≤ g0.toInt ∧ g0.toInt ≤ 400 → 1 ≤ g1.toInt ∧ g1.toInt ≤ 1 → 0 ≤ g2.toInt ∧ g2.toInt ≤ 400 → 0 ≤ g3.toInt ∧ g3.toInt ≤ 400 → 0 ≤ g4.toInt ∧ g4.toInt ≤ 400 → 0 ≤ g5.toInt ∧ g5.toInt ≤ 400 → jB47 A h0 h → g1.toInt ≠ 0 → (g0.toInt ≤ g4.toInt ∧ g5.toInt ≤ g0.toInt) → (g1.toInt = 0 ∨ g5.toInt + 1 ≤ g0.toInt) → jiv h 125 10 = g0 → jiv h 125 11 = g1 → jiv h 125 49 = g2 → jiv h 125 55 = g3 → jiv h 125 8 = g4 → jiv h 125 9 = g5 → jJ jSgM Dy h → jSm fp_X12_behindTest_r125 h0 h → jX m_X12_behindTest 4 0 0 47 [(0, .ref 125), (1, .int l1)] [.int s0, .ref 125] h 0 0 Q := by
  intro l1 s0 g0 g1 g2 g3 g4 g5 h y0 y1 y2 y3 y4 y5 y6 y7 C0 y9 y10 y11 z0 z1 z2 z3 z4 z5  J Sm
  have lx := jtw_l C0.1.1 z3 z5
  have cx := jtw_c C0.1.1 z2 z5
  refine x_aloadn (x := 125) rfl rfl ?_
  refine z_getM (N := 92) (v := g2) 12 49 rfl f_12_493 rfl J rfl z2 ?_
  refine x_inv (N := m_X12_push) (As := [.int s0, .int g2]) (b := 125) (st := []) (dx9 := 3) (mc := 0) (ms := 0) (host := "") 12 rfl t_X12_push ⟨Or.inl q_12_536, i_X12_push.1, i_X12_push.2⟩ ⟨by decide, rfl⟩ (congrArg Prod.fst (J.1.1 125 (12, 92) rfl)) rfl (by decide) rfl rfl ⟨by decide, by decide⟩ (jC.of rfl k_X12_push rfl ?_)
  show jX m_X12_push 3 0 0 0 [(0, .ref 125), (1, .int s0), (2, .int g2)] [] _ 0 0 _
  refine x_aloadn (x := 125) rfl rfl ?_
  refine z_getR (N := 92) (b := 150) 12 53 rfl f_12_105 rfl J rfl 16053 ⟨rfl, rfl⟩ rfl ?_
  refine x_aloadn (x := 125) rfl rfl ?_
  refine z_getM (N := 92) (v := g3) 12 55 rfl f_12_496 rfl J rfl z3 ?_
  refine x_iloadn (x := s0) rfl rfl ?_
  refine z_iast (N := 400) (l := 0) (u := 400) (w := s0.toInt) rfl hD J Sm rfl rfl rfl (by omega) rfl (wr_150) rfl (fun h w1 J Sm => ?_)
  refine x_aloadn (x := 125) rfl rfl ?_
  refine z_getR (N := 92) (b := 151) 12 54 rfl f_12_108 rfl J rfl 16054 ⟨rfl, rfl⟩ rfl ?_
  refine x_aloadn (x := 125) rfl rfl ?_
  refine z_getM (N := 92) (v := g3) 12 55 rfl f_12_496 rfl J rfl (jmo w1 rfl z3) ?_
  refine x_iloadn (x := g2) rfl rfl ?_
  refine z_iast (N := 400) (l := 0) (u := 400) (w := g2.toInt) rfl hD J Sm rfl rfl rfl (by omega) rfl (wr_151) rfl (fun h w2 J Sm => ?_)
  refine x_aloadn (x := 125) rfl rfl ?_
  refine x_dup rfl rfl ?_
  refine z_getM (N := 92) (v := g3) 12 55 rfl f_12_496 rfl J rfl (jmo w2 rfl (jmo w1 rfl z3)) ?_
  refine x_iconst (v := 1) rfl ki_1 ?_
  refine z_iadd rfl rfl jk_1 (by omega) (fun v3 ev3 => ?_)
  refine z_putI (N := 92) (w := v3.toInt) 12 55 rfl f_12_496 rfl (jfin_no TX12 RX12 92 rfl rfl) hD J Sm rfl rfl rfl (pw_125_55 (by omega)) rfl (fun h w4 J Sm => ?_)
  refine x_vret rfl rfl ?_
  show jX m_X12_behindTest 4 0 0 54 [(0, .ref 125), (1, .int l1)] [] _ 0 0 _
  refine x_aloadn (x := 125) rfl rfl ?_
  refine x_iloadn (x := l1) rfl rfl ?_
  refine x_ifeq (tgt := 64) rfl rfl (ti_eq rfl jk_0 ⟨fun c5 => ?_, fun c5 => ?_⟩)
  ·
    refine x_bipush (v := 20) rfl kb_20 ?_
    exact jX.sub (jsb_c rfl jsb_n) (ct_X12_behindTest_r125_66 hA hN hD hQ  20 g0 g1 g2 g4 g5 h (jr_of jk_20 (by omega)) (jr_of rfl (by omega)) (jr_of rfl (by omega)) (jr_of rfl (by omega)) (jr_of rfl (by omega)) (jr_of rfl (by omega)) ⟨_, _, _, _, _, _, _, C0.1, C0.2.1, C0.2.2.1, C0.2.2.2, z3, z2, w1, w2, w4, (by omega), (by unfold jAo_; omega), (by omega)⟩ (by omega) (by omega) (by omega) (jmo w4 rfl (jmo w2 rfl (jmo w1 rfl z0))) (jmo w4 rfl (jmo w2 rfl (jmo w1 rfl z1))) (jmo w4 rfl (jmo w2 rfl (jmo w1 rfl z2))) (jmo w4 rfl (jmo w2 rfl (jmo w1 rfl z4))) (jmo w4 rfl (jmo w2 rfl (jmo w1 rfl z5))) J Sm)
  ·
    refine x_bipush (v := 19) rfl kb_19 ?_
    refine x_goto (tgt := 66) rfl rfl ?_
    exact jX.sub (jsb_c rfl jsb_n) (ct_X12_behindTest_r125_66 hA hN hD hQ  19 g0 g1 g2 g4 g5 h (jr_of jk_19 (by omega)) (jr_of rfl (by omega)) (jr_of rfl (by omega)) (jr_of rfl (by omega)) (jr_of rfl (by omega)) (jr_of rfl (by omega)) ⟨_, _, _, _, _, _, _, C0.1, C0.2.1, C0.2.2.1, C0.2.2.2, z3, z2, w1, w2, w4, (by omega), (by unfold jAo_; omega), (by omega)⟩ (by omega) (by omega) (by omega) (jmo w4 rfl (jmo w2 rfl (jmo w1 rfl z0))) (jmo w4 rfl (jmo w2 rfl (jmo w1 rfl z1))) (jmo w4 rfl (jmo w2 rfl (jmo w1 rfl z2))) (jmo w4 rfl (jmo w2 rfl (jmo w1 rfl z4))) (jmo w4 rfl (jmo w2 rfl (jmo w1 rfl z5))) J Sm)
set_option maxRecDepth 100000 in
set_option maxHeartbeats 4000000 in
theorem ct_X12_behindTest_r125_300032 {Dy : jH → Prop} {h0 : jH} {Q : Option Value → jH → Prop} {A : Nat} (hA : jTu 0 h0 A 1) (hN : (jiv h0 125 14).toInt ≠ 0 ∨ jNsq h0) (hD : jDk Dy) (hQ : ∀ (v : Int32) hx9, 0 ≤ v.toInt ∧ v.toInt ≤ 4 → jJ jSgM Dy hx9 → jSm fp_X12_behindTest_r125 h0 hx9 → ∀ u0 u1 u2 : Int32, jiv hx9 125 10 = u0 → jiv hx9 125 8 = u1 → jiv hx9 125 9 = u2 → (u0.toInt ≤ u1.toInt ∧ u2.toInt ≤ u0.toInt) → ∀ u3 u4 u5 : Int32, jiv hx9 125 11 = u3 → jiv hx9 125 9 = u4 → jiv hx9 125 10 = u5 → (u3.toInt = 0 ∨ u4.toInt + 1 ≤ u5.toInt) → jBp 4 4 A h0 v.toInt hx9 → Q (some (.int v)) hx9) : ∀ (l1 : Int32) (g0 : Int32) (g1 : Int32) (g2 : Int32) (g3 : Int32) (h : jH), 0 ≤ l1.toInt ∧ l1.toInt ≤ 0 → 0 ≤ g0.toInt ∧ g0.toInt ≤ 400 → 1 ≤ g1.toInt ∧ g1.toInt ≤ 1 → 0 ≤ g2.toInt ∧ g2.toInt ≤ 400 → 0 ≤ g3.toInt ∧ g3.toInt ≤ 400 → jSa h0 h → g1.toInt ≠ 0 → (g0.toInt ≤ g2.toInt ∧ g3.toInt ≤ g0.toInt) → (g1.toInt = 0 ∨ g3.toInt + 1 ≤ g0.toInt) → jiv h 125 10 = g0 → jiv h 125 11 = g1 → jiv h 125 8 = g2 → jiv h 125 9 = g3 → jJ jSgM Dy h → jSm fp_X12_behindTest_r125 h0 h → jX m_X12_behindTest 4 0 0 32 [(0, .ref 125), (1, .int l1)] [.int 1, .ref 125] h 0 0 Q := by
  intro l1 g0 g1 g2 g3 h y0 y1 y2 y3 y4 C0 y6 y7 y8 z0 z1 z2 z3  J Sm
  refine x_inv (N := m_X12_settle) (As := [.int 1]) (b := 125) (st := []) (dx9 := 2) (mc := 0) (ms := 0) (host := "") 12 rfl t_X12_settle ⟨Or.inl q_12_548, i_X12_settle.1, i_X12_settle.2⟩ ⟨by decide, rfl⟩ (congrArg Prod.fst (J.1.1 125 (12, 92) rfl)) rfl (by decide) rfl rfl ⟨by decide, by decide⟩ (sf_X12_settle_r125 (jr_of jk_1 (by omega)) (K9 := 0) (by decide) (jtu_sa hA C0) hD J  (fun h J S1 P2 => ?_))
  have Sm := jSm_tr rfl Sm S1
  show jX m_X12_behindTest 4 0 0 35 [(0, .ref 125), (1, .int l1)] [] _ 0 0 _
  refine x_aloadn (x := 125) rfl rfl ?_
  refine x_iloadn (x := l1) rfl rfl ?_
  refine x_ifeq (tgt := 45) rfl rfl (ti_eq rfl jk_0 (br_t (by omega) ?_))
  refine x_bipush (v := 20) rfl kb_20 ?_
  have ex49 := jrg_f J sg_125_49_50_1_0_1
  have ex55 := jrg_f J sg_125_55_56_1_0_1
  exact jX.sub (jsb_c rfl (jsb_c rfl jsb_n)) (ct_X12_behindTest_r125_47 hA hN hD hQ  l1 20 g0 g1 (jiv h 125 49) (jiv h 125 55) g2 g3 h (jr_of rfl (by omega)) (jr_of jk_20 (by omega)) (jr_of rfl (by omega)) (jr_of rfl (by omega)) (jr_of rfl (by omega)) (jr_of rfl (by omega)) (jr_of rfl (by omega)) (jr_of rfl (by omega)) (bt_47 hN C0 P2 (jmc S1 rfl rfl) (jmc S1 rfl rfl)) (by omega) (by omega) (by omega) (jmc S1 rfl z0) (jmc S1 rfl z1) rfl rfl (jmc S1 rfl z2) (jmc S1 rfl z3) J Sm)
set_option maxRecDepth 100000 in
set_option maxHeartbeats 4000000 in
theorem ct_X12_behindTest_r125_400032 {Dy : jH → Prop} {h0 : jH} {Q : Option Value → jH → Prop} {A : Nat} (hA : jTu 0 h0 A 1) (hN : (jiv h0 125 14).toInt ≠ 0 ∨ jNsq h0) (hD : jDk Dy) (hQ : ∀ (v : Int32) hx9, 0 ≤ v.toInt ∧ v.toInt ≤ 4 → jJ jSgM Dy hx9 → jSm fp_X12_behindTest_r125 h0 hx9 → ∀ u0 u1 u2 : Int32, jiv hx9 125 10 = u0 → jiv hx9 125 8 = u1 → jiv hx9 125 9 = u2 → (u0.toInt ≤ u1.toInt ∧ u2.toInt ≤ u0.toInt) → ∀ u3 u4 u5 : Int32, jiv hx9 125 11 = u3 → jiv hx9 125 9 = u4 → jiv hx9 125 10 = u5 → (u3.toInt = 0 ∨ u4.toInt + 1 ≤ u5.toInt) → jBp 4 4 A h0 v.toInt hx9 → Q (some (.int v)) hx9) : ∀ (l1 : Int32) (g0 : Int32) (g1 : Int32) (g2 : Int32) (g3 : Int32) (h : jH), 1 ≤ l1.toInt ∧ l1.toInt ≤ 1 → 0 ≤ g0.toInt ∧ g0.toInt ≤ 400 → 1 ≤ g1.toInt ∧ g1.toInt ≤ 1 → 0 ≤ g2.toInt ∧ g2.toInt ≤ 400 → 0 ≤ g3.toInt ∧ g3.toInt ≤ 400 → l1.toInt ≠ 0 → jSa h0 h → g1.toInt ≠ 0 → (g0.toInt ≤ g2.toInt ∧ g3.toInt ≤ g0.toInt) → (g1.toInt = 0 ∨ g3.toInt + 1 ≤ g0.toInt) → jiv h 125 10 = g0 → jiv h 125 11 = g1 → jiv h 125 8 = g2 → jiv h 125 9 = g3 → jJ jSgM Dy h → jSm fp_X12_behindTest_r125 h0 h → jX m_X12_behindTest 4 0 0 32 [(0, .ref 125), (1, .int l1)] [.int 2, .ref 125] h 0 0 Q := by
  intro l1 g0 g1 g2 g3 h y0 y1 y2 y3 y4 y5 C0 y7 y8 y9 z0 z1 z2 z3  J Sm
  refine x_inv (N := m_X12_settle) (As := [.int 2]) (b := 125) (st := []) (dx9 := 2) (mc := 0) (ms := 0) (host := "") 12 rfl t_X12_settle ⟨Or.inl q_12_548, i_X12_settle.1, i_X12_settle.2⟩ ⟨by decide, rfl⟩ (congrArg Prod.fst (J.1.1 125 (12, 92) rfl)) rfl (by decide) rfl rfl ⟨by decide, by decide⟩ (sf_X12_settle_r125 (jr_of jk_2 (by omega)) (K9 := 0) (by decide) (jtu_sa hA C0) hD J  (fun h J S1 P2 => ?_))
  have Sm := jSm_tr rfl Sm S1
  show jX m_X12_behindTest 4 0 0 35 [(0, .ref 125), (1, .int l1)] [] _ 0 0 _
  refine x_aloadn (x := 125) rfl rfl ?_
  refine x_iloadn (x := l1) rfl rfl ?_
  refine x_ifeq (tgt := 45) rfl rfl (ti_eq rfl jk_0 (br_f (by omega) ?_))
  refine x_bipush (v := 19) rfl kb_19 ?_
  refine x_goto (tgt := 47) rfl rfl ?_
  have ex49 := jrg_f J sg_125_49_50_1_0_1
  have ex55 := jrg_f J sg_125_55_56_1_0_1
  exact jX.sub (jsb_c rfl (jsb_c rfl jsb_n)) (ct_X12_behindTest_r125_47 hA hN hD hQ  l1 19 g0 g1 (jiv h 125 49) (jiv h 125 55) g2 g3 h (jr_of rfl (by omega)) (jr_of jk_19 (by omega)) (jr_of rfl (by omega)) (jr_of rfl (by omega)) (jr_of rfl (by omega)) (jr_of rfl (by omega)) (jr_of rfl (by omega)) (jr_of rfl (by omega)) (bt_47 hN C0 P2 (jmc S1 rfl rfl) (jmc S1 rfl rfl)) (by omega) (by omega) (by omega) (jmc S1 rfl z0) (jmc S1 rfl z1) rfl rfl (jmc S1 rfl z2) (jmc S1 rfl z3) J Sm)
set_option maxRecDepth 100000 in
set_option maxHeartbeats 4000000 in
theorem ct_X12_behindTest_r125_22 {Dy : jH → Prop} {h0 : jH} {Q : Option Value → jH → Prop} {A : Nat} (hA : jTu 0 h0 A 1) (hN : (jiv h0 125 14).toInt ≠ 0 ∨ jNsq h0) (hD : jDk Dy) (hQ : ∀ (v : Int32) hx9, 0 ≤ v.toInt ∧ v.toInt ≤ 4 → jJ jSgM Dy hx9 → jSm fp_X12_behindTest_r125 h0 hx9 → ∀ u0 u1 u2 : Int32, jiv hx9 125 10 = u0 → jiv hx9 125 8 = u1 → jiv hx9 125 9 = u2 → (u0.toInt ≤ u1.toInt ∧ u2.toInt ≤ u0.toInt) → ∀ u3 u4 u5 : Int32, jiv hx9 125 11 = u3 → jiv hx9 125 9 = u4 → jiv hx9 125 10 = u5 → (u3.toInt = 0 ∨ u4.toInt + 1 ≤ u5.toInt) → jBp 4 4 A h0 v.toInt hx9 → Q (some (.int v)) hx9) : ∀ (l1 : Int32) (g0 : Int32) (g1 : Int32) (g2 : Int32) (g3 : Int32) (h : jH), 0 ≤ l1.toInt ∧ l1.toInt ≤ 1 → 0 ≤ g0.toInt ∧ g0.toInt ≤ 400 → 1 ≤ g1.toInt ∧ g1.toInt ≤ 1 → 0 ≤ g2.toInt ∧ g2.toInt ≤ 400 → 0 ≤ g3.toInt ∧ g3.toInt ≤ 400 → jSa h0 h → g1.toInt ≠ 0 → (g0.toInt ≤ g2.toInt ∧ g3.toInt ≤ g0.toInt) → (g1.toInt = 0 ∨ g3.toInt + 1 ≤ g0.toInt) → jiv h 125 10 = g0 → jiv h 125 11 = g1 → jiv h 125 8 = g2 → jiv h 125 9 = g3 → jJ jSgM Dy h → jSm fp_X12_behindTest_r125 h0 h → jX m_X12_behindTest 4 0 0 22 [(0, .ref 125), (1, .int l1)] [] h 0 0 Q := by
  intro l1 g0 g1 g2 g3 h y0 y1 y2 y3 y4 C0 y6 y7 y8 z0 z1 z2 z3  J Sm
  refine x_aloadn (x := 125) rfl rfl ?_
  refine x_iloadn (x := l1) rfl rfl ?_
  refine x_ifeq (tgt := 31) rfl rfl (ti_eq rfl jk_0 ⟨fun c1 => ?_, fun c1 => ?_⟩)
  ·
    refine x_iconst (v := 1) rfl ki_1 ?_
    exact jX.sub (jsb_c rfl (jsb_c rfl jsb_n)) (ct_X12_behindTest_r125_300032 hA hN hD hQ  l1 g0 g1 g2 g3 h (jr_of rfl (by omega)) (jr_of rfl (by omega)) (jr_of rfl (by omega)) (jr_of rfl (by omega)) (jr_of rfl (by omega)) C0 (by omega) (by omega) (by omega) z0 z1 z2 z3 J Sm)
  ·
    refine x_iconst (v := 2) rfl ki_2 ?_
    refine x_goto (tgt := 32) rfl rfl ?_
    exact jX.sub (jsb_c rfl (jsb_c rfl jsb_n)) (ct_X12_behindTest_r125_400032 hA hN hD hQ  l1 g0 g1 g2 g3 h (jr_of rfl (by omega)) (jr_of rfl (by omega)) (jr_of rfl (by omega)) (jr_of rfl (by omega)) (jr_of rfl (by omega)) (by omega) C0 (by omega) (by omega) (by omega) z0 z1 z2 z3 J Sm)
set_option maxRecDepth 100000 in
set_option maxHeartbeats 4000000 in
theorem ct_X12_behindTest_r125_108 {Dy : jH → Prop} {h0 : jH} {Q : Option Value → jH → Prop} {A : Nat} (hA : jTu 0 h0 A 1) (hN : (jiv h0 125 14).toInt ≠ 0 ∨ jNsq h0) (hD : jDk Dy) (hQ : ∀ (v : Int32) hx9, 0 ≤ v.toInt ∧ v.toInt ≤ 4 → jJ jSgM Dy hx9 → jSm fp_X12_behindTest_r125 h0 hx9 → ∀ u0 u1 u2 : Int32, jiv hx9 125 10 = u0 → jiv hx9 125 8 = u1 → jiv hx9 125 9 = u2 → (u0.toInt ≤ u1.toInt ∧ u2.toInt ≤ u0.toInt) → ∀ u3 u4 u5 : Int32, jiv hx9 125 11 = u3 → jiv hx9 125 9 = u4 → jiv hx9 125 10 = u5 → (u3.toInt = 0 ∨ u4.toInt + 1 ≤ u5.toInt) → jBp 4 4 A h0 v.toInt hx9 → Q (some (.int v)) hx9) : ∀ (g0 : Int32) (g1 : Int32) (g2 : Int32) (g3 : Int32) (h : jH), 0 ≤ g0.toInt ∧ g0.toInt ≤ 400 → 0 ≤ g1.toInt ∧ g1.toInt ≤ 3 → 0 ≤ g2.toInt ∧ g2.toInt ≤ 400 → 0 ≤ g3.toInt ∧ g3.toInt ≤ 400 → (jTn A 2 h ∧ jFm 1 A h0 h) → (g0.toInt ≤ g2.toInt ∧ g3.toInt ≤ g0.toInt) → (g1.toInt = 0 ∨ g3.toInt + 1 ≤ g0.toInt) → jiv h 125 10 = g0 → jiv h 125 11 = g1 → jiv h 125 8 = g2 → jiv h 125 9 = g3 → jJ jSgM Dy h → jSm fp_X12_behindTest_r125 h0 h → jX m_X12_behindTest 4 0 0 108 [] [] h 0 0 Q := by
  intro g0 g1 g2 g3 h y0 y1 y2 y3 C0 y5 y6 z0 z1 z2 z3  J Sm
  refine x_iconst (v := 2) rfl ki_2 ?_
  refine x_iret rfl rfl ?_
  exact hQ _ _ (jr_of jk_2 (by omega)) J Sm _ _ _ z0 z2 z3 (by omega) _ _ _ z1 z3 z0 (by omega) (by rw [jk_2]; exact jbp_1 C0)
set_option maxRecDepth 100000 in
set_option maxHeartbeats 4000000 in
theorem sf_X12_behindTest_r125 {Dy : jH → Prop} {h : jH} {Q : Option Value → jH → Prop} {A : Nat} (hA : jTu 0 h A 1) (hN : (jiv h 125 14).toInt ≠ 0 ∨ jNsq h) (hD : jDk Dy) (J : jJ jSgM Dy h) {p0 p1 p2 : Int32} {p3 p4 p5 : Int32} (zp0 : jiv h 125 10 = p0) (zp1 : jiv h 125 8 = p1) (zp2 : jiv h 125 9 = p2) (rl_p0 : (p0.toInt ≤ p1.toInt ∧ p2.toInt ≤ p0.toInt)) (zp3 : jiv h 125 11 = p3) (zp4 : jiv h 125 9 = p4) (zp5 : jiv h 125 10 = p5) (rl_p3 : (p3.toInt = 0 ∨ p4.toInt + 1 ≤ p5.toInt)) (hQ : ∀ (v : Int32) hx9, 0 ≤ v.toInt ∧ v.toInt ≤ 4 → jJ jSgM Dy hx9 → jSm fp_X12_behindTest_r125 h hx9 → ∀ u0 u1 u2 : Int32, jiv hx9 125 10 = u0 → jiv hx9 125 8 = u1 → jiv hx9 125 9 = u2 → (u0.toInt ≤ u1.toInt ∧ u2.toInt ≤ u0.toInt) → ∀ u3 u4 u5 : Int32, jiv hx9 125 11 = u3 → jiv hx9 125 9 = u4 → jiv hx9 125 10 = u5 → (u3.toInt = 0 ∨ u4.toInt + 1 ≤ u5.toInt) → jBp 4 4 A h v.toInt hx9 → Q (some (.int v)) hx9) : jC m_X12_behindTest 4 0 0 [.ref 125] h Q := by
  refine jC.of rfl k_X12_behindTest rfl ?_
  have Sm := jSm_rf fp_X12_behindTest_r125 h
  have ep0 := (show 0 ≤ p0.toInt ∧ p0.toInt ≤ 400 from zp0 ▸ jrg_f J sg_125_10_11_1_0_1)
  have ep1 := (show 0 ≤ p1.toInt ∧ p1.toInt ≤ 400 from zp1 ▸ jrg_f J sg_125_8_9_1_0_1)
  have ep2 := (show 0 ≤ p2.toInt ∧ p2.toInt ≤ 400 from zp2 ▸ jrg_f J sg_125_9_10_1_0_1)
  have ep3 := (show 0 ≤ p3.toInt ∧ p3.toInt ≤ 3 from zp3 ▸ jrg_f J sg_125_11_12_1_0_1)
  have ep4 := (show 0 ≤ p4.toInt ∧ p4.toInt ≤ 400 from zp4 ▸ jrg_f J sg_125_9_10_1_0_1)
  have ep5 := (show 0 ≤ p5.toInt ∧ p5.toInt ≤ 400 from zp5 ▸ jrg_f J sg_125_10_11_1_0_1)
  obtain rfl : p2 = p4 := zp2.symm.trans zp4
  obtain rfl : p0 = p5 := zp0.symm.trans zp5
  skip
  show jX m_X12_behindTest 4 0 0 0 [(0, .ref 125)] [] _ 0 0 _
  refine x_aloadn (x := 125) rfl rfl ?_
  refine x_ldc2 (v := 1476) rfl z_12_557 ?_
  refine x_inv (N := m_X12_isWord) (As := [.long 1476]) (b := 125) (st := []) (dx9 := 3) (mc := 0) (ms := 0) (host := "") 12 rfl t_X12_isWord ⟨Or.inl q_12_511, i_X12_isWord.1, i_X12_isWord.2⟩ ⟨by decide, rfl⟩ (congrArg Prod.fst (J.1.1 125 (12, 92) rfl)) rfl (by decide) rfl rfl ⟨by decide, by decide⟩ (jC.of rfl k_X12_isWord rfl ?_)
  show jX m_X12_isWord 3 0 0 0 [(0, .ref 125), (1, .long 1476)] [] _ 0 0 _
  refine x_aloadn (x := 125) rfl rfl ?_
  refine z_getM (N := 92) (v := p3) 12 11 rfl f_12_235 rfl J rfl zp3 ?_
  refine x_iconst (v := 1) rfl ki_1 ?_
  refine x_icne (tgt := 21) rfl rfl (ti_ne rfl jk_1 ⟨fun c1 => ?_, fun c1 => ?_⟩)
  ·
    refine x_iconst (v := 0) rfl ki_0 ?_
    refine x_zret rfl rfl (by decide) ?_
    show jX m_X12_behindTest 4 0 0 7 [(0, .ref 125)] [.int 0] _ 0 0 _
    refine x_istoren (lsx9 := [(1, .int 0), (0, .ref 125)]) rfl rfl rfl ?_
    refine x_iloadn (x := 0) rfl rfl ?_
    refine x_ifne (tgt := 22) rfl rfl (ti_ne jk_0 jk_0 (bn_f (by omega) ?_))
    refine x_aloadn (x := 125) rfl rfl ?_
    refine x_ldc2 (v := 498) rfl z_12_559 ?_
    refine x_inv (N := m_X12_isWord) (As := [.long 498]) (b := 125) (st := []) (dx9 := 3) (mc := 0) (ms := 0) (host := "") 12 rfl t_X12_isWord ⟨Or.inl q_12_511, i_X12_isWord.1, i_X12_isWord.2⟩ ⟨by decide, rfl⟩ (congrArg Prod.fst (J.1.1 125 (12, 92) rfl)) rfl (by decide) rfl rfl ⟨by decide, by decide⟩ (jC.of rfl k_X12_isWord rfl ?_)
    show jX m_X12_isWord 3 0 0 0 [(0, .ref 125), (1, .long 498)] [] _ 0 0 _
    refine x_aloadn (x := 125) rfl rfl ?_
    refine z_getM (N := 92) (v := p3) 12 11 rfl f_12_235 rfl J rfl zp3 ?_
    refine x_iconst (v := 1) rfl ki_1 ?_
    refine x_icne (tgt := 21) rfl rfl (ti_ne rfl jk_1 ⟨fun c2 => ?_, fun c2 => ?_⟩)
    ·
      refine x_iconst (v := 0) rfl ki_0 ?_
      refine x_zret rfl rfl (by decide) ?_
      show jX m_X12_behindTest 4 0 0 19 [(1, .int 0), (0, .ref 125)] [.int 0] _ 0 0 _
      refine x_ifeq (tgt := 76) rfl rfl (ti_eq jk_0 jk_0 (br_t (by omega) ?_))
      refine x_aloadn (x := 125) rfl rfl ?_
      refine x_inv (N := m_X12_inner) (As := []) (b := 125) (st := []) (dx9 := 1) (mc := 0) (ms := 0) (host := "") 12 rfl t_X12_inner ⟨Or.inl q_12_545, i_X12_inner.1, i_X12_inner.2⟩ ⟨by decide, rfl⟩ (congrArg Prod.fst (J.1.1 125 (12, 92) rfl)) rfl (by decide) rfl rfl ⟨by decide, by decide⟩ (sf_X12_inner_r125  hD J  (fun v5 h ev5 J S3 P4 => ?_))
      have Sm := jSm_tr rfl Sm S3
      have iv30 := jir_30 P4
      show jX m_X12_behindTest 4 0 0 80 [(1, .int 0), (0, .ref 125)] [.int v5] _ 0 0 _
      refine x_iconst (v := (-1)) rfl ki_m1 ?_
      refine x_icne (tgt := 86) rfl rfl (ti_ne rfl jk_m1 ⟨fun c6 => ?_, fun c6 => ?_⟩)
      ·
        refine x_aloadn (x := 125) rfl rfl ?_
        refine x_aloadn (x := 125) rfl rfl ?_
        refine x_bipush (v := 41) rfl kb_41 ?_
        refine x_inv (N := m_X12_isSign) (As := [.int 41]) (b := 125) (st := [.ref 125]) (dx9 := 3) (mc := 0) (ms := 0) (host := "") 12 rfl t_X12_isSign ⟨Or.inl q_12_257, i_X12_isSign.1, i_X12_isSign.2⟩ ⟨by decide, rfl⟩ (congrArg Prod.fst (J.1.1 125 (12, 92) rfl)) rfl (by decide) rfl rfl ⟨by decide, by decide⟩ (jC.of rfl k_X12_isSign rfl ?_)
        show jX m_X12_isSign 3 0 0 0 [(0, .ref 125), (1, .int 41)] [] _ 0 0 _
        refine x_aloadn (x := 125) rfl rfl ?_
        refine z_getM (N := 92) (v := p3) 12 11 rfl f_12_235 rfl J rfl (jmc S3 rfl zp3) ?_
        refine x_iconst (v := 3) rfl ki_3 ?_
        refine x_icne (tgt := 22) rfl rfl (ti_ne rfl jk_3 ⟨fun c7 => ?_, fun c7 => ?_⟩)
        ·
          refine x_iconst (v := 0) rfl ki_0 ?_
          refine x_zret rfl rfl (by decide) ?_
          show jX m_X12_behindTest 4 0 0 93 [(1, .int 0), (0, .ref 125)] [.int 0, .ref 125] _ 0 0 _
          refine x_inv (N := m_X12_must) (As := [.int 0]) (b := 125) (st := []) (dx9 := 3) (mc := 0) (ms := 0) (host := "") 12 rfl t_X12_must ⟨Or.inl q_12_250, i_X12_must.1, i_X12_must.2⟩ ⟨by decide, rfl⟩ (congrArg Prod.fst (J.1.1 125 (12, 92) rfl)) rfl (by decide) rfl rfl ⟨by decide, by decide⟩ (jC.of rfl k_X12_must rfl ?_)
          show jX m_X12_must 3 0 0 0 [(0, .ref 125), (1, .int 0)] [] _ 0 0 _
          refine x_aloadn (x := 125) rfl rfl ?_
          refine z_getI (N := 92) 12 14 rfl f_12_214 rfl J rfl sg_125_14_15_1_0_1 (fun v8 qv8 ev8 => ?_)
          refine x_ifne (tgt := 24) rfl rfl (ti_ne rfl jk_0 ⟨fun c9 => ?_, fun c9 => ?_⟩)
          ·
            refine x_aloadn (x := 125) rfl rfl ?_
            refine z_getM (N := 92) (v := v8) 12 14 rfl f_12_214 rfl J rfl qv8 ?_
            refine x_ifne (tgt := 35) rfl rfl (ti_ne rfl jk_0 (bn_t (by omega) ?_))
            refine x_vret rfl rfl ?_
            show jX m_X12_behindTest 4 0 0 96 [(1, .int 0), (0, .ref 125)] [] _ 0 0 _
            refine x_aloadn (x := 125) rfl rfl ?_
            refine z_getM (N := 92) (v := v8) 12 14 rfl f_12_214 rfl J rfl qv8 ?_
            refine x_ifne (tgt := 108) rfl rfl (ti_ne rfl jk_0 (bn_t (by omega) ?_))
            exact jX.sub jsb_n (ct_X12_behindTest_r125_108 hA hN hD hQ  p0 p3 p1 p2 h (jr_of rfl (by omega)) (jr_of rfl (by omega)) (jr_of rfl (by omega)) (jr_of rfl (by omega)) (jmu_tb (jmu_bad hA (jeq_c S3 rfl jeq_0) (jeq_c S3 rfl jeq_0) (jeq_c S3 rfl jeq_0) (jeq_c S3 rfl jeq_0) (jmc S3 rfl rfl) (jmc S3 rfl rfl) (jmc S3 rfl rfl) qv8 (by omega)) qv8 (by omega)) (by omega) (by omega) (jmc S3 rfl zp0) (jmc S3 rfl zp3) (jmc S3 rfl zp1) (jmc S3 rfl zp2) J Sm)
          ·
            refine x_iloadn (x := 0) rfl rfl ?_
            refine x_ifne (tgt := 24) rfl rfl (ti_ne jk_0 jk_0 (bn_f (by omega) ?_))
            refine x_aloadn (x := 125) rfl rfl ?_
            refine x_iconst (v := 1) rfl ki_1 ?_
            refine z_putZ (N := 92) (w := 1) 12 14 rfl f_12_214 rfl (jfin_no TX12 RX12 92 rfl rfl) hD J Sm rfl rfl jk_1 (by omega) (pw_125_14 (by omega)) rfl (fun h w10 J Sm => ?_)
            refine x_aloadn (x := 125) rfl rfl ?_
            refine x_aloadn (x := 125) rfl rfl ?_
            refine z_getM (N := 92) (v := p2) 12 9 rfl f_12_221 rfl J rfl (jmo w10 rfl (jmc S3 rfl zp2)) ?_
            refine z_putI (N := 92) (w := p2.toInt) 12 13 rfl f_12_32 rfl (jfin_no TX12 RX12 92 rfl rfl) hD J Sm rfl rfl rfl (pw_125_13 (by omega)) rfl (fun h w11 J Sm => ?_)
            refine x_aloadn (x := 125) rfl rfl ?_
            refine z_getM (N := 92) (v := 1) 12 14 rfl f_12_214 rfl J rfl (jmo w11 rfl (jmw w10)) ?_
            refine x_ifne (tgt := 35) rfl rfl (ti_ne jk_1 jk_0 (bn_t (by omega) ?_))
            refine x_vret rfl rfl ?_
            show jX m_X12_behindTest 4 0 0 96 [(1, .int 0), (0, .ref 125)] [] _ 0 0 _
            refine x_aloadn (x := 125) rfl rfl ?_
            refine z_getM (N := 92) (v := 1) 12 14 rfl f_12_214 rfl J rfl (jmo w11 rfl (jmw w10)) ?_
            refine x_ifne (tgt := 108) rfl rfl (ti_ne jk_1 jk_0 (bn_t (by omega) ?_))
            exact jX.sub jsb_n (ct_X12_behindTest_r125_108 hA hN hD hQ  p0 p3 p1 p2 h (jr_of rfl (by omega)) (jr_of rfl (by omega)) (jr_of rfl (by omega)) (jr_of rfl (by omega)) (jmu_tb (jmu_bad hA (jeq_o w11 rfl (jeq_o w10 rfl (jeq_c S3 rfl jeq_0))) (jeq_o w11 rfl (jeq_o w10 rfl (jeq_c S3 rfl jeq_0))) (jeq_o w11 rfl (jeq_o w10 rfl (jeq_c S3 rfl jeq_0))) (jeq_o w11 rfl (jeq_o w10 rfl (jeq_c S3 rfl jeq_0))) (jmo w11 rfl (jmo w10 rfl (jmc S3 rfl rfl))) (jmo w11 rfl (jmo w10 rfl (jmc S3 rfl rfl))) (jmo w11 rfl (jmo w10 rfl (jmc S3 rfl rfl))) (jmo w11 rfl (jmw w10)) (by decide)) (jmo w11 rfl (jmw w10)) (by decide)) (by omega) (by omega) (jmo w11 rfl (jmo w10 rfl (jmc S3 rfl zp0))) (jmo w11 rfl (jmo w10 rfl (jmc S3 rfl zp3))) (jmo w11 rfl (jmo w10 rfl (jmc S3 rfl zp1))) (jmo w11 rfl (jmo w10 rfl (jmc S3 rfl zp2))) J Sm)
        ·
          refine x_aloadn (x := 125) rfl rfl ?_
          refine z_getL0 (N := 92) 12 12 rfl f_12_224 rfl J rfl (fun v12 => ?_)
          have ev12 := jfullL v12
          refine x_iloadn (x := 41) rfl rfl ?_
          refine z_i2l rfl jk_41 (fun v13 ev13 => ?_)
          refine z_lcmp rfl rfl rfl (fun v14 ev14 => ?_)
          refine x_ifne (tgt := 22) rfl rfl (ti_ne rfl jk_0 ⟨fun c15 => ?_, fun c15 => ?_⟩)
          ·
            refine x_iconst (v := 0) rfl ki_0 ?_
            refine x_zret rfl rfl (by decide) ?_
            show jX m_X12_behindTest 4 0 0 93 [(1, .int 0), (0, .ref 125)] [.int 0, .ref 125] _ 0 0 _
            refine x_inv (N := m_X12_must) (As := [.int 0]) (b := 125) (st := []) (dx9 := 3) (mc := 0) (ms := 0) (host := "") 12 rfl t_X12_must ⟨Or.inl q_12_250, i_X12_must.1, i_X12_must.2⟩ ⟨by decide, rfl⟩ (congrArg Prod.fst (J.1.1 125 (12, 92) rfl)) rfl (by decide) rfl rfl ⟨by decide, by decide⟩ (jC.of rfl k_X12_must rfl ?_)
            show jX m_X12_must 3 0 0 0 [(0, .ref 125), (1, .int 0)] [] _ 0 0 _
            refine x_aloadn (x := 125) rfl rfl ?_
            refine z_getI (N := 92) 12 14 rfl f_12_214 rfl J rfl sg_125_14_15_1_0_1 (fun v16 qv16 ev16 => ?_)
            refine x_ifne (tgt := 24) rfl rfl (ti_ne rfl jk_0 ⟨fun c17 => ?_, fun c17 => ?_⟩)
            ·
              refine x_aloadn (x := 125) rfl rfl ?_
              refine z_getM (N := 92) (v := v16) 12 14 rfl f_12_214 rfl J rfl qv16 ?_
              refine x_ifne (tgt := 35) rfl rfl (ti_ne rfl jk_0 (bn_t (by omega) ?_))
              refine x_vret rfl rfl ?_
              show jX m_X12_behindTest 4 0 0 96 [(1, .int 0), (0, .ref 125)] [] _ 0 0 _
              refine x_aloadn (x := 125) rfl rfl ?_
              refine z_getM (N := 92) (v := v16) 12 14 rfl f_12_214 rfl J rfl qv16 ?_
              refine x_ifne (tgt := 108) rfl rfl (ti_ne rfl jk_0 (bn_t (by omega) ?_))
              exact jX.sub jsb_n (ct_X12_behindTest_r125_108 hA hN hD hQ  p0 p3 p1 p2 h (jr_of rfl (by omega)) (jr_of rfl (by omega)) (jr_of rfl (by omega)) (jr_of rfl (by omega)) (jmu_tb (jmu_bad hA (jeq_c S3 rfl jeq_0) (jeq_c S3 rfl jeq_0) (jeq_c S3 rfl jeq_0) (jeq_c S3 rfl jeq_0) (jmc S3 rfl rfl) (jmc S3 rfl rfl) (jmc S3 rfl rfl) qv16 (by omega)) qv16 (by omega)) (by omega) (by omega) (jmc S3 rfl zp0) (jmc S3 rfl zp3) (jmc S3 rfl zp1) (jmc S3 rfl zp2) J Sm)
            ·
              refine x_iloadn (x := 0) rfl rfl ?_
              refine x_ifne (tgt := 24) rfl rfl (ti_ne jk_0 jk_0 (bn_f (by omega) ?_))
              refine x_aloadn (x := 125) rfl rfl ?_
              refine x_iconst (v := 1) rfl ki_1 ?_
              refine z_putZ (N := 92) (w := 1) 12 14 rfl f_12_214 rfl (jfin_no TX12 RX12 92 rfl rfl) hD J Sm rfl rfl jk_1 (by omega) (pw_125_14 (by omega)) rfl (fun h w18 J Sm => ?_)
              refine x_aloadn (x := 125) rfl rfl ?_
              refine x_aloadn (x := 125) rfl rfl ?_
              refine z_getM (N := 92) (v := p2) 12 9 rfl f_12_221 rfl J rfl (jmo w18 rfl (jmc S3 rfl zp2)) ?_
              refine z_putI (N := 92) (w := p2.toInt) 12 13 rfl f_12_32 rfl (jfin_no TX12 RX12 92 rfl rfl) hD J Sm rfl rfl rfl (pw_125_13 (by omega)) rfl (fun h w19 J Sm => ?_)
              refine x_aloadn (x := 125) rfl rfl ?_
              refine z_getM (N := 92) (v := 1) 12 14 rfl f_12_214 rfl J rfl (jmo w19 rfl (jmw w18)) ?_
              refine x_ifne (tgt := 35) rfl rfl (ti_ne jk_1 jk_0 (bn_t (by omega) ?_))
              refine x_vret rfl rfl ?_
              show jX m_X12_behindTest 4 0 0 96 [(1, .int 0), (0, .ref 125)] [] _ 0 0 _
              refine x_aloadn (x := 125) rfl rfl ?_
              refine z_getM (N := 92) (v := 1) 12 14 rfl f_12_214 rfl J rfl (jmo w19 rfl (jmw w18)) ?_
              refine x_ifne (tgt := 108) rfl rfl (ti_ne jk_1 jk_0 (bn_t (by omega) ?_))
              exact jX.sub jsb_n (ct_X12_behindTest_r125_108 hA hN hD hQ  p0 p3 p1 p2 h (jr_of rfl (by omega)) (jr_of rfl (by omega)) (jr_of rfl (by omega)) (jr_of rfl (by omega)) (jmu_tb (jmu_bad hA (jeq_o w19 rfl (jeq_o w18 rfl (jeq_c S3 rfl jeq_0))) (jeq_o w19 rfl (jeq_o w18 rfl (jeq_c S3 rfl jeq_0))) (jeq_o w19 rfl (jeq_o w18 rfl (jeq_c S3 rfl jeq_0))) (jeq_o w19 rfl (jeq_o w18 rfl (jeq_c S3 rfl jeq_0))) (jmo w19 rfl (jmo w18 rfl (jmc S3 rfl rfl))) (jmo w19 rfl (jmo w18 rfl (jmc S3 rfl rfl))) (jmo w19 rfl (jmo w18 rfl (jmc S3 rfl rfl))) (jmo w19 rfl (jmw w18)) (by decide)) (jmo w19 rfl (jmw w18)) (by decide)) (by omega) (by omega) (jmo w19 rfl (jmo w18 rfl (jmc S3 rfl zp0))) (jmo w19 rfl (jmo w18 rfl (jmc S3 rfl zp3))) (jmo w19 rfl (jmo w18 rfl (jmc S3 rfl zp1))) (jmo w19 rfl (jmo w18 rfl (jmc S3 rfl zp2))) J Sm)
          ·
            refine x_iconst (v := 1) rfl ki_1 ?_
            refine x_goto (tgt := 23) rfl rfl ?_
            refine x_zret rfl rfl (by decide) ?_
            show jX m_X12_behindTest 4 0 0 93 [(1, .int 0), (0, .ref 125)] [.int 1, .ref 125] _ 0 0 _
            refine x_inv (N := m_X12_must) (As := [.int 1]) (b := 125) (st := []) (dx9 := 3) (mc := 0) (ms := 0) (host := "") 12 rfl t_X12_must ⟨Or.inl q_12_250, i_X12_must.1, i_X12_must.2⟩ ⟨by decide, rfl⟩ (congrArg Prod.fst (J.1.1 125 (12, 92) rfl)) rfl (by decide) rfl rfl ⟨by decide, by decide⟩ (jC.of rfl k_X12_must rfl ?_)
            show jX m_X12_must 3 0 0 0 [(0, .ref 125), (1, .int 1)] [] _ 0 0 _
            refine x_aloadn (x := 125) rfl rfl ?_
            refine z_getI (N := 92) 12 14 rfl f_12_214 rfl J rfl sg_125_14_15_1_0_1 (fun v20 qv20 ev20 => ?_)
            refine x_ifne (tgt := 24) rfl rfl (ti_ne rfl jk_0 ⟨fun c21 => ?_, fun c21 => ?_⟩)
            ·
              refine x_aloadn (x := 125) rfl rfl ?_
              refine z_getM (N := 92) (v := v20) 12 14 rfl f_12_214 rfl J rfl qv20 ?_
              refine x_ifne (tgt := 35) rfl rfl (ti_ne rfl jk_0 (bn_t (by omega) ?_))
              refine x_vret rfl rfl ?_
              show jX m_X12_behindTest 4 0 0 96 [(1, .int 0), (0, .ref 125)] [] _ 0 0 _
              refine x_aloadn (x := 125) rfl rfl ?_
              refine z_getM (N := 92) (v := v20) 12 14 rfl f_12_214 rfl J rfl qv20 ?_
              refine x_ifne (tgt := 108) rfl rfl (ti_ne rfl jk_0 (bn_t (by omega) ?_))
              exact jX.sub jsb_n (ct_X12_behindTest_r125_108 hA hN hD hQ  p0 p3 p1 p2 h (jr_of rfl (by omega)) (jr_of rfl (by omega)) (jr_of rfl (by omega)) (jr_of rfl (by omega)) (jmu_tb (jmu_bad hA (jeq_c S3 rfl jeq_0) (jeq_c S3 rfl jeq_0) (jeq_c S3 rfl jeq_0) (jeq_c S3 rfl jeq_0) (jmc S3 rfl rfl) (jmc S3 rfl rfl) (jmc S3 rfl rfl) qv20 (by omega)) qv20 (by omega)) (by omega) (by omega) (jmc S3 rfl zp0) (jmc S3 rfl zp3) (jmc S3 rfl zp1) (jmc S3 rfl zp2) J Sm)
            ·
              refine x_iloadn (x := 1) rfl rfl ?_
              refine x_ifne (tgt := 24) rfl rfl (ti_ne jk_1 jk_0 (bn_t (by omega) ?_))
              refine x_aloadn (x := 125) rfl rfl ?_
              refine z_getM (N := 92) (v := v20) 12 14 rfl f_12_214 rfl J rfl qv20 ?_
              refine x_ifne (tgt := 35) rfl rfl (ti_ne rfl jk_0 (bn_f (by omega) ?_))
              refine x_aloadn (x := 125) rfl rfl ?_
              refine x_inv (N := m_X12_next) (As := []) (b := 125) (st := []) (dx9 := 2) (mc := 0) (ms := 0) (host := "") 12 rfl t_X12_next ⟨Or.inl q_12_218, i_X12_next.1, i_X12_next.2⟩ ⟨by decide, rfl⟩ (congrArg Prod.fst (J.1.1 125 (12, 92) rfl)) rfl (by decide) rfl rfl ⟨by decide, by decide⟩ (sf_X12_next_r125  hD J (jmc S3 rfl zp0) (jmc S3 rfl zp1) (by omega)  (fun h J S22 u23 u24 u25 qu23 qu24 qu25 ru23 u26 u27 u28 qu26 qu27 qu28 ru26 P29 => ?_))
              have Sm := jSm_tr rfl Sm S22
              have eu23 := (show 0 ≤ u23.toInt ∧ u23.toInt ≤ 400 from qu23 ▸ jrg_f J sg_125_10_11_1_0_1)
              have eu24 := (show 0 ≤ u24.toInt ∧ u24.toInt ≤ 400 from qu24 ▸ jrg_f J sg_125_8_9_1_0_1)
              have eu25 := (show 0 ≤ u25.toInt ∧ u25.toInt ≤ 400 from qu25 ▸ jrg_f J sg_125_9_10_1_0_1)
              have eu26 := (show 0 ≤ u26.toInt ∧ u26.toInt ≤ 3 from qu26 ▸ jrg_f J sg_125_11_12_1_0_1)
              obtain rfl : u25 = u27 := qu25.symm.trans qu27
              obtain rfl : u23 = u28 := qu23.symm.trans qu28
              have nfP29 := jnf P29.1 (jmc S3 rfl zp0) qu25
              show jX m_X12_must 3 0 0 35 [(0, .ref 125), (1, .int 1)] [] _ 0 0 _
              refine x_vret rfl rfl ?_
              show jX m_X12_behindTest 4 0 0 96 [(1, .int 0), (0, .ref 125)] [] _ 0 0 _
              refine x_aloadn (x := 125) rfl rfl ?_
              refine z_getM (N := 92) (v := v20) 12 14 rfl f_12_214 rfl J rfl (jmc S22 rfl qv20) ?_
              refine x_ifne (tgt := 108) rfl rfl (ti_ne rfl jk_0 (bn_f (by omega) ?_))
              refine x_aloadn (x := 125) rfl rfl ?_
              refine x_iconst (v := 1) rfl ki_1 ?_
              refine x_inv (N := m_X12_close) (As := [.int 1]) (b := 125) (st := []) (dx9 := 3) (mc := 0) (ms := 0) (host := "") 12 rfl t_X12_close ⟨Or.inl q_12_551, i_X12_close.1, i_X12_close.2⟩ ⟨by decide, rfl⟩ (congrArg Prod.fst (J.1.1 125 (12, 92) rfl)) rfl (by decide) rfl rfl ⟨by decide, by decide⟩ (jC.of rfl k_X12_close rfl ?_)
              show jX m_X12_close 3 0 0 0 [(0, .ref 125), (1, .int 1)] [] _ 0 0 _
              refine x_aloadn (x := 125) rfl rfl ?_
              refine x_iloadn (x := 1) rfl rfl ?_
              refine x_inv (N := m_X12_settle) (As := [.int 1]) (b := 125) (st := []) (dx9 := 2) (mc := 0) (ms := 0) (host := "") 12 rfl t_X12_settle ⟨Or.inl q_12_548, i_X12_settle.1, i_X12_settle.2⟩ ⟨by decide, rfl⟩ (congrArg Prod.fst (J.1.1 125 (12, 92) rfl)) rfl (by decide) rfl rfl ⟨by decide, by decide⟩ (sf_X12_settle_r125 (jr_of jk_1 (by omega)) (K9 := 1) (by decide) (jmu_1 (jmu_on hA (jeq_c S22 rfl (jeq_c S3 rfl jeq_0)) (jeq_c S22 rfl (jeq_c S3 rfl jeq_0)) (jeq_c S22 rfl (jeq_c S3 rfl jeq_0)) (jeq_c S22 rfl (jeq_c S3 rfl jeq_0)) (jmc S22 rfl (jmc S3 rfl rfl)) (jmc S22 rfl (jmc S3 rfl rfl)) (jmc S22 rfl (jmc S3 rfl rfl)) (zp2) qu25 (by omega)) (jmc S22 rfl qv20) (by omega)) hD J  (fun h J S30 P31 => ?_))
              have Sm := jSm_tr rfl Sm S30
              show jX m_X12_close 3 0 0 5 [(0, .ref 125), (1, .int 1)] [] _ 0 0 _
              refine x_aloadn (x := 125) rfl rfl ?_
              refine x_dup rfl rfl ?_
              refine z_getI (N := 92) 12 55 rfl f_12_496 rfl J rfl sg_125_55_56_1_0_1 (fun v32 qv32 ev32 => ?_)
              have px := cl_l (jmu_on hA (jeq_c S22 rfl (jeq_c S3 rfl jeq_0)) (jeq_c S22 rfl (jeq_c S3 rfl jeq_0)) (jeq_c S22 rfl (jeq_c S3 rfl jeq_0)) (jeq_c S22 rfl (jeq_c S3 rfl jeq_0)) (jmc S22 rfl (jmc S3 rfl rfl)) (jmc S22 rfl (jmc S3 rfl rfl)) (jmc S22 rfl (jmc S3 rfl rfl)) (zp2) qu25 (by omega)) (jmc S22 rfl qv20) (by omega) (jir_bk (jeq_c S3 rfl jeq_0) (jmc S3 rfl rfl) P4) P31 (Or.inr ⟨rfl, iv30 (by omega)⟩) qv32
              refine x_iconst (v := 1) rfl ki_1 ?_
              refine z_isub rfl rfl jk_1 (by omega) (fun v33 ev33 => ?_)
              refine z_putI (N := 92) (w := v33.toInt) 12 55 rfl f_12_496 rfl (jfin_no TX12 RX12 92 rfl rfl) hD J Sm rfl rfl rfl (pw_125_55 (by omega)) rfl (fun h w34 J Sm => ?_)
              refine x_aloadn (x := 125) rfl rfl ?_
              refine x_dup rfl rfl ?_
              refine z_getI0 (N := 92) 12 56 rfl f_12_533 rfl J rfl (fun v35 qv35 => ?_)
              have ev35 := jfull v35
              refine x_iconst (v := 1) rfl ki_1 ?_
              refine z_isub0 rfl (fun v36 => ?_)
              have ev36 := jfull v36
              refine z_putI (N := 92) (w := v36.toInt) 12 56 rfl f_12_533 rfl (jfin_no TX12 RX12 92 rfl rfl) hD J Sm rfl rfl rfl (pw_125_56 trivial) rfl (fun h w37 J Sm => ?_)
              refine x_vret rfl rfl ?_
              show jX m_X12_behindTest 4 0 0 108 [(1, .int 0), (0, .ref 125)] [] _ 0 0 _
              exact jX.sub jsb_n (ct_X12_behindTest_r125_108 hA hN hD hQ  u23 u26 u24 u25 h (jr_of rfl (by omega)) (jr_of rfl (by omega)) (jr_of rfl (by omega)) (jr_of rfl (by omega)) (cl_mark (jmu_on hA (jeq_c S22 rfl (jeq_c S3 rfl jeq_0)) (jeq_c S22 rfl (jeq_c S3 rfl jeq_0)) (jeq_c S22 rfl (jeq_c S3 rfl jeq_0)) (jeq_c S22 rfl (jeq_c S3 rfl jeq_0)) (jmc S22 rfl (jmc S3 rfl rfl)) (jmc S22 rfl (jmc S3 rfl rfl)) (jmc S22 rfl (jmc S3 rfl rfl)) (zp2) qu25 (by omega)) (jmc S22 rfl qv20) (by omega) (jir_bk (jeq_c S3 rfl jeq_0) (jmc S3 rfl rfl) P4) P31 (jmc S30 rfl rfl) (jmc S30 rfl rfl) (Or.inr ⟨rfl, iv30 (by omega), rfl⟩) (Or.inr hN) qv32 w34 (by omega) w37).2 (by omega) (by omega) (jmo w37 rfl (jmo w34 rfl (jmc S30 rfl qu23))) (jmo w37 rfl (jmo w34 rfl (jmc S30 rfl qu26))) (jmo w37 rfl (jmo w34 rfl (jmc S30 rfl qu24))) (jmo w37 rfl (jmo w34 rfl (jmc S30 rfl qu25))) J Sm)
      ·
        refine x_iconst (v := 4) rfl ki_4 ?_
        refine x_iret rfl rfl ?_
        exact hQ _ _ (jr_of jk_4 (by omega)) J Sm _ _ _ (jmc S3 rfl zp0) (jmc S3 rfl zp1) (jmc S3 rfl zp2) (by omega) _ _ _ (jmc S3 rfl zp3) (jmc S3 rfl zp2) (jmc S3 rfl zp0) (by omega) (by rw [jk_4]; exact jbp_u (bt_over hA ⟨(jeq_c S3 rfl jeq_0), (jeq_c S3 rfl jeq_0), (jeq_c S3 rfl jeq_0), (jeq_c S3 rfl jeq_0), (jmc S3 rfl rfl), (jmc S3 rfl rfl), (jmc S3 rfl rfl), (jmc S3 rfl rfl)⟩ P4 (by omega)) (Or.inl rfl))
    ·
      refine x_aloadn (x := 125) rfl rfl ?_
      refine z_getL0 (N := 92) 12 12 rfl f_12_224 rfl J rfl (fun v38 => ?_)
      have ev38 := jfullL v38
      refine x_lloadn (x := 498) rfl rfl ?_
      refine z_lcmp rfl rfl jkl_498 (fun v39 ev39 => ?_)
      refine x_ifne (tgt := 21) rfl rfl (ti_ne rfl jk_0 ⟨fun c40 => ?_, fun c40 => ?_⟩)
      ·
        refine x_iconst (v := 0) rfl ki_0 ?_
        refine x_zret rfl rfl (by decide) ?_
        show jX m_X12_behindTest 4 0 0 19 [(1, .int 0), (0, .ref 125)] [.int 0] _ 0 0 _
        refine x_ifeq (tgt := 76) rfl rfl (ti_eq jk_0 jk_0 (br_t (by omega) ?_))
        refine x_aloadn (x := 125) rfl rfl ?_
        refine x_inv (N := m_X12_inner) (As := []) (b := 125) (st := []) (dx9 := 1) (mc := 0) (ms := 0) (host := "") 12 rfl t_X12_inner ⟨Or.inl q_12_545, i_X12_inner.1, i_X12_inner.2⟩ ⟨by decide, rfl⟩ (congrArg Prod.fst (J.1.1 125 (12, 92) rfl)) rfl (by decide) rfl rfl ⟨by decide, by decide⟩ (sf_X12_inner_r125  hD J  (fun v43 h ev43 J S41 P42 => ?_))
        have Sm := jSm_tr rfl Sm S41
        have iv30 := jir_30 P42
        show jX m_X12_behindTest 4 0 0 80 [(1, .int 0), (0, .ref 125)] [.int v43] _ 0 0 _
        refine x_iconst (v := (-1)) rfl ki_m1 ?_
        refine x_icne (tgt := 86) rfl rfl (ti_ne rfl jk_m1 ⟨fun c44 => ?_, fun c44 => ?_⟩)
        ·
          refine x_aloadn (x := 125) rfl rfl ?_
          refine x_aloadn (x := 125) rfl rfl ?_
          refine x_bipush (v := 41) rfl kb_41 ?_
          refine x_inv (N := m_X12_isSign) (As := [.int 41]) (b := 125) (st := [.ref 125]) (dx9 := 3) (mc := 0) (ms := 0) (host := "") 12 rfl t_X12_isSign ⟨Or.inl q_12_257, i_X12_isSign.1, i_X12_isSign.2⟩ ⟨by decide, rfl⟩ (congrArg Prod.fst (J.1.1 125 (12, 92) rfl)) rfl (by decide) rfl rfl ⟨by decide, by decide⟩ (jC.of rfl k_X12_isSign rfl ?_)
          show jX m_X12_isSign 3 0 0 0 [(0, .ref 125), (1, .int 41)] [] _ 0 0 _
          refine x_aloadn (x := 125) rfl rfl ?_
          refine z_getM (N := 92) (v := p3) 12 11 rfl f_12_235 rfl J rfl (jmc S41 rfl zp3) ?_
          refine x_iconst (v := 3) rfl ki_3 ?_
          refine x_icne (tgt := 22) rfl rfl (ti_ne rfl jk_3 (bn_t (by omega) ?_))
          refine x_iconst (v := 0) rfl ki_0 ?_
          refine x_zret rfl rfl (by decide) ?_
          show jX m_X12_behindTest 4 0 0 93 [(1, .int 0), (0, .ref 125)] [.int 0, .ref 125] _ 0 0 _
          refine x_inv (N := m_X12_must) (As := [.int 0]) (b := 125) (st := []) (dx9 := 3) (mc := 0) (ms := 0) (host := "") 12 rfl t_X12_must ⟨Or.inl q_12_250, i_X12_must.1, i_X12_must.2⟩ ⟨by decide, rfl⟩ (congrArg Prod.fst (J.1.1 125 (12, 92) rfl)) rfl (by decide) rfl rfl ⟨by decide, by decide⟩ (jC.of rfl k_X12_must rfl ?_)
          show jX m_X12_must 3 0 0 0 [(0, .ref 125), (1, .int 0)] [] _ 0 0 _
          refine x_aloadn (x := 125) rfl rfl ?_
          refine z_getI (N := 92) 12 14 rfl f_12_214 rfl J rfl sg_125_14_15_1_0_1 (fun v45 qv45 ev45 => ?_)
          refine x_ifne (tgt := 24) rfl rfl (ti_ne rfl jk_0 ⟨fun c46 => ?_, fun c46 => ?_⟩)
          ·
            refine x_aloadn (x := 125) rfl rfl ?_
            refine z_getM (N := 92) (v := v45) 12 14 rfl f_12_214 rfl J rfl qv45 ?_
            refine x_ifne (tgt := 35) rfl rfl (ti_ne rfl jk_0 (bn_t (by omega) ?_))
            refine x_vret rfl rfl ?_
            show jX m_X12_behindTest 4 0 0 96 [(1, .int 0), (0, .ref 125)] [] _ 0 0 _
            refine x_aloadn (x := 125) rfl rfl ?_
            refine z_getM (N := 92) (v := v45) 12 14 rfl f_12_214 rfl J rfl qv45 ?_
            refine x_ifne (tgt := 108) rfl rfl (ti_ne rfl jk_0 (bn_t (by omega) ?_))
            exact jX.sub jsb_n (ct_X12_behindTest_r125_108 hA hN hD hQ  p0 p3 p1 p2 h (jr_of rfl (by omega)) (jr_of rfl (by omega)) (jr_of rfl (by omega)) (jr_of rfl (by omega)) (jmu_tb (jmu_bad hA (jeq_c S41 rfl jeq_0) (jeq_c S41 rfl jeq_0) (jeq_c S41 rfl jeq_0) (jeq_c S41 rfl jeq_0) (jmc S41 rfl rfl) (jmc S41 rfl rfl) (jmc S41 rfl rfl) qv45 (by omega)) qv45 (by omega)) (by omega) (by omega) (jmc S41 rfl zp0) (jmc S41 rfl zp3) (jmc S41 rfl zp1) (jmc S41 rfl zp2) J Sm)
          ·
            refine x_iloadn (x := 0) rfl rfl ?_
            refine x_ifne (tgt := 24) rfl rfl (ti_ne jk_0 jk_0 (bn_f (by omega) ?_))
            refine x_aloadn (x := 125) rfl rfl ?_
            refine x_iconst (v := 1) rfl ki_1 ?_
            refine z_putZ (N := 92) (w := 1) 12 14 rfl f_12_214 rfl (jfin_no TX12 RX12 92 rfl rfl) hD J Sm rfl rfl jk_1 (by omega) (pw_125_14 (by omega)) rfl (fun h w47 J Sm => ?_)
            refine x_aloadn (x := 125) rfl rfl ?_
            refine x_aloadn (x := 125) rfl rfl ?_
            refine z_getM (N := 92) (v := p2) 12 9 rfl f_12_221 rfl J rfl (jmo w47 rfl (jmc S41 rfl zp2)) ?_
            refine z_putI (N := 92) (w := p2.toInt) 12 13 rfl f_12_32 rfl (jfin_no TX12 RX12 92 rfl rfl) hD J Sm rfl rfl rfl (pw_125_13 (by omega)) rfl (fun h w48 J Sm => ?_)
            refine x_aloadn (x := 125) rfl rfl ?_
            refine z_getM (N := 92) (v := 1) 12 14 rfl f_12_214 rfl J rfl (jmo w48 rfl (jmw w47)) ?_
            refine x_ifne (tgt := 35) rfl rfl (ti_ne jk_1 jk_0 (bn_t (by omega) ?_))
            refine x_vret rfl rfl ?_
            show jX m_X12_behindTest 4 0 0 96 [(1, .int 0), (0, .ref 125)] [] _ 0 0 _
            refine x_aloadn (x := 125) rfl rfl ?_
            refine z_getM (N := 92) (v := 1) 12 14 rfl f_12_214 rfl J rfl (jmo w48 rfl (jmw w47)) ?_
            refine x_ifne (tgt := 108) rfl rfl (ti_ne jk_1 jk_0 (bn_t (by omega) ?_))
            exact jX.sub jsb_n (ct_X12_behindTest_r125_108 hA hN hD hQ  p0 p3 p1 p2 h (jr_of rfl (by omega)) (jr_of rfl (by omega)) (jr_of rfl (by omega)) (jr_of rfl (by omega)) (jmu_tb (jmu_bad hA (jeq_o w48 rfl (jeq_o w47 rfl (jeq_c S41 rfl jeq_0))) (jeq_o w48 rfl (jeq_o w47 rfl (jeq_c S41 rfl jeq_0))) (jeq_o w48 rfl (jeq_o w47 rfl (jeq_c S41 rfl jeq_0))) (jeq_o w48 rfl (jeq_o w47 rfl (jeq_c S41 rfl jeq_0))) (jmo w48 rfl (jmo w47 rfl (jmc S41 rfl rfl))) (jmo w48 rfl (jmo w47 rfl (jmc S41 rfl rfl))) (jmo w48 rfl (jmo w47 rfl (jmc S41 rfl rfl))) (jmo w48 rfl (jmw w47)) (by decide)) (jmo w48 rfl (jmw w47)) (by decide)) (by omega) (by omega) (jmo w48 rfl (jmo w47 rfl (jmc S41 rfl zp0))) (jmo w48 rfl (jmo w47 rfl (jmc S41 rfl zp3))) (jmo w48 rfl (jmo w47 rfl (jmc S41 rfl zp1))) (jmo w48 rfl (jmo w47 rfl (jmc S41 rfl zp2))) J Sm)
        ·
          refine x_iconst (v := 4) rfl ki_4 ?_
          refine x_iret rfl rfl ?_
          exact hQ _ _ (jr_of jk_4 (by omega)) J Sm _ _ _ (jmc S41 rfl zp0) (jmc S41 rfl zp1) (jmc S41 rfl zp2) (by omega) _ _ _ (jmc S41 rfl zp3) (jmc S41 rfl zp2) (jmc S41 rfl zp0) (by omega) (by rw [jk_4]; exact jbp_u (bt_over hA ⟨(jeq_c S41 rfl jeq_0), (jeq_c S41 rfl jeq_0), (jeq_c S41 rfl jeq_0), (jeq_c S41 rfl jeq_0), (jmc S41 rfl rfl), (jmc S41 rfl rfl), (jmc S41 rfl rfl), (jmc S41 rfl rfl)⟩ P42 (by omega)) (Or.inl rfl))
      ·
        refine x_iconst (v := 1) rfl ki_1 ?_
        refine x_goto (tgt := 22) rfl rfl ?_
        refine x_zret rfl rfl (by decide) ?_
        show jX m_X12_behindTest 4 0 0 19 [(1, .int 0), (0, .ref 125)] [.int 1] _ 0 0 _
        refine x_ifeq (tgt := 76) rfl rfl (ti_eq jk_1 jk_0 (br_f (by omega) ?_))
        exact jX.sub (jsb_c rfl (jsb_c rfl jsb_n)) (ct_X12_behindTest_r125_22 hA hN hD hQ  0 p0 p3 p1 p2 h (jr_of jk_0 (by omega)) (jr_of rfl (by omega)) (jr_of rfl (by omega)) (jr_of rfl (by omega)) (jr_of rfl (by omega)) jsa_0 (by omega) (by omega) (by omega) zp0 zp3 zp1 zp2 J Sm)
  ·
    refine x_aloadn (x := 125) rfl rfl ?_
    refine z_getL0 (N := 92) 12 12 rfl f_12_224 rfl J rfl (fun v49 => ?_)
    have ev49 := jfullL v49
    refine x_lloadn (x := 1476) rfl rfl ?_
    refine z_lcmp rfl rfl jkl_1476 (fun v50 ev50 => ?_)
    refine x_ifne (tgt := 21) rfl rfl (ti_ne rfl jk_0 ⟨fun c51 => ?_, fun c51 => ?_⟩)
    ·
      refine x_iconst (v := 0) rfl ki_0 ?_
      refine x_zret rfl rfl (by decide) ?_
      show jX m_X12_behindTest 4 0 0 7 [(0, .ref 125)] [.int 0] _ 0 0 _
      refine x_istoren (lsx9 := [(1, .int 0), (0, .ref 125)]) rfl rfl rfl ?_
      refine x_iloadn (x := 0) rfl rfl ?_
      refine x_ifne (tgt := 22) rfl rfl (ti_ne jk_0 jk_0 (bn_f (by omega) ?_))
      refine x_aloadn (x := 125) rfl rfl ?_
      refine x_ldc2 (v := 498) rfl z_12_559 ?_
      refine x_inv (N := m_X12_isWord) (As := [.long 498]) (b := 125) (st := []) (dx9 := 3) (mc := 0) (ms := 0) (host := "") 12 rfl t_X12_isWord ⟨Or.inl q_12_511, i_X12_isWord.1, i_X12_isWord.2⟩ ⟨by decide, rfl⟩ (congrArg Prod.fst (J.1.1 125 (12, 92) rfl)) rfl (by decide) rfl rfl ⟨by decide, by decide⟩ (jC.of rfl k_X12_isWord rfl ?_)
      show jX m_X12_isWord 3 0 0 0 [(0, .ref 125), (1, .long 498)] [] _ 0 0 _
      refine x_aloadn (x := 125) rfl rfl ?_
      refine z_getM (N := 92) (v := p3) 12 11 rfl f_12_235 rfl J rfl zp3 ?_
      refine x_iconst (v := 1) rfl ki_1 ?_
      refine x_icne (tgt := 21) rfl rfl (ti_ne rfl jk_1 (bn_f (by omega) ?_))
      refine x_aloadn (x := 125) rfl rfl ?_
      refine z_getL0 (N := 92) 12 12 rfl f_12_224 rfl J rfl (fun v52 => ?_)
      have ev52 := jfullL v52
      refine x_lloadn (x := 498) rfl rfl ?_
      refine z_lcmp rfl rfl jkl_498 (fun v53 ev53 => ?_)
      refine x_ifne (tgt := 21) rfl rfl (ti_ne rfl jk_0 ⟨fun c54 => ?_, fun c54 => ?_⟩)
      ·
        refine x_iconst (v := 0) rfl ki_0 ?_
        refine x_zret rfl rfl (by decide) ?_
        show jX m_X12_behindTest 4 0 0 19 [(1, .int 0), (0, .ref 125)] [.int 0] _ 0 0 _
        refine x_ifeq (tgt := 76) rfl rfl (ti_eq jk_0 jk_0 (br_t (by omega) ?_))
        refine x_aloadn (x := 125) rfl rfl ?_
        refine x_inv (N := m_X12_inner) (As := []) (b := 125) (st := []) (dx9 := 1) (mc := 0) (ms := 0) (host := "") 12 rfl t_X12_inner ⟨Or.inl q_12_545, i_X12_inner.1, i_X12_inner.2⟩ ⟨by decide, rfl⟩ (congrArg Prod.fst (J.1.1 125 (12, 92) rfl)) rfl (by decide) rfl rfl ⟨by decide, by decide⟩ (sf_X12_inner_r125  hD J  (fun v57 h ev57 J S55 P56 => ?_))
        have Sm := jSm_tr rfl Sm S55
        have iv30 := jir_30 P56
        show jX m_X12_behindTest 4 0 0 80 [(1, .int 0), (0, .ref 125)] [.int v57] _ 0 0 _
        refine x_iconst (v := (-1)) rfl ki_m1 ?_
        refine x_icne (tgt := 86) rfl rfl (ti_ne rfl jk_m1 ⟨fun c58 => ?_, fun c58 => ?_⟩)
        ·
          refine x_aloadn (x := 125) rfl rfl ?_
          refine x_aloadn (x := 125) rfl rfl ?_
          refine x_bipush (v := 41) rfl kb_41 ?_
          refine x_inv (N := m_X12_isSign) (As := [.int 41]) (b := 125) (st := [.ref 125]) (dx9 := 3) (mc := 0) (ms := 0) (host := "") 12 rfl t_X12_isSign ⟨Or.inl q_12_257, i_X12_isSign.1, i_X12_isSign.2⟩ ⟨by decide, rfl⟩ (congrArg Prod.fst (J.1.1 125 (12, 92) rfl)) rfl (by decide) rfl rfl ⟨by decide, by decide⟩ (jC.of rfl k_X12_isSign rfl ?_)
          show jX m_X12_isSign 3 0 0 0 [(0, .ref 125), (1, .int 41)] [] _ 0 0 _
          refine x_aloadn (x := 125) rfl rfl ?_
          refine z_getM (N := 92) (v := p3) 12 11 rfl f_12_235 rfl J rfl (jmc S55 rfl zp3) ?_
          refine x_iconst (v := 3) rfl ki_3 ?_
          refine x_icne (tgt := 22) rfl rfl (ti_ne rfl jk_3 (bn_t (by omega) ?_))
          refine x_iconst (v := 0) rfl ki_0 ?_
          refine x_zret rfl rfl (by decide) ?_
          show jX m_X12_behindTest 4 0 0 93 [(1, .int 0), (0, .ref 125)] [.int 0, .ref 125] _ 0 0 _
          refine x_inv (N := m_X12_must) (As := [.int 0]) (b := 125) (st := []) (dx9 := 3) (mc := 0) (ms := 0) (host := "") 12 rfl t_X12_must ⟨Or.inl q_12_250, i_X12_must.1, i_X12_must.2⟩ ⟨by decide, rfl⟩ (congrArg Prod.fst (J.1.1 125 (12, 92) rfl)) rfl (by decide) rfl rfl ⟨by decide, by decide⟩ (jC.of rfl k_X12_must rfl ?_)
          show jX m_X12_must 3 0 0 0 [(0, .ref 125), (1, .int 0)] [] _ 0 0 _
          refine x_aloadn (x := 125) rfl rfl ?_
          refine z_getI (N := 92) 12 14 rfl f_12_214 rfl J rfl sg_125_14_15_1_0_1 (fun v59 qv59 ev59 => ?_)
          refine x_ifne (tgt := 24) rfl rfl (ti_ne rfl jk_0 ⟨fun c60 => ?_, fun c60 => ?_⟩)
          ·
            refine x_aloadn (x := 125) rfl rfl ?_
            refine z_getM (N := 92) (v := v59) 12 14 rfl f_12_214 rfl J rfl qv59 ?_
            refine x_ifne (tgt := 35) rfl rfl (ti_ne rfl jk_0 (bn_t (by omega) ?_))
            refine x_vret rfl rfl ?_
            show jX m_X12_behindTest 4 0 0 96 [(1, .int 0), (0, .ref 125)] [] _ 0 0 _
            refine x_aloadn (x := 125) rfl rfl ?_
            refine z_getM (N := 92) (v := v59) 12 14 rfl f_12_214 rfl J rfl qv59 ?_
            refine x_ifne (tgt := 108) rfl rfl (ti_ne rfl jk_0 (bn_t (by omega) ?_))
            exact jX.sub jsb_n (ct_X12_behindTest_r125_108 hA hN hD hQ  p0 p3 p1 p2 h (jr_of rfl (by omega)) (jr_of rfl (by omega)) (jr_of rfl (by omega)) (jr_of rfl (by omega)) (jmu_tb (jmu_bad hA (jeq_c S55 rfl jeq_0) (jeq_c S55 rfl jeq_0) (jeq_c S55 rfl jeq_0) (jeq_c S55 rfl jeq_0) (jmc S55 rfl rfl) (jmc S55 rfl rfl) (jmc S55 rfl rfl) qv59 (by omega)) qv59 (by omega)) (by omega) (by omega) (jmc S55 rfl zp0) (jmc S55 rfl zp3) (jmc S55 rfl zp1) (jmc S55 rfl zp2) J Sm)
          ·
            refine x_iloadn (x := 0) rfl rfl ?_
            refine x_ifne (tgt := 24) rfl rfl (ti_ne jk_0 jk_0 (bn_f (by omega) ?_))
            refine x_aloadn (x := 125) rfl rfl ?_
            refine x_iconst (v := 1) rfl ki_1 ?_
            refine z_putZ (N := 92) (w := 1) 12 14 rfl f_12_214 rfl (jfin_no TX12 RX12 92 rfl rfl) hD J Sm rfl rfl jk_1 (by omega) (pw_125_14 (by omega)) rfl (fun h w61 J Sm => ?_)
            refine x_aloadn (x := 125) rfl rfl ?_
            refine x_aloadn (x := 125) rfl rfl ?_
            refine z_getM (N := 92) (v := p2) 12 9 rfl f_12_221 rfl J rfl (jmo w61 rfl (jmc S55 rfl zp2)) ?_
            refine z_putI (N := 92) (w := p2.toInt) 12 13 rfl f_12_32 rfl (jfin_no TX12 RX12 92 rfl rfl) hD J Sm rfl rfl rfl (pw_125_13 (by omega)) rfl (fun h w62 J Sm => ?_)
            refine x_aloadn (x := 125) rfl rfl ?_
            refine z_getM (N := 92) (v := 1) 12 14 rfl f_12_214 rfl J rfl (jmo w62 rfl (jmw w61)) ?_
            refine x_ifne (tgt := 35) rfl rfl (ti_ne jk_1 jk_0 (bn_t (by omega) ?_))
            refine x_vret rfl rfl ?_
            show jX m_X12_behindTest 4 0 0 96 [(1, .int 0), (0, .ref 125)] [] _ 0 0 _
            refine x_aloadn (x := 125) rfl rfl ?_
            refine z_getM (N := 92) (v := 1) 12 14 rfl f_12_214 rfl J rfl (jmo w62 rfl (jmw w61)) ?_
            refine x_ifne (tgt := 108) rfl rfl (ti_ne jk_1 jk_0 (bn_t (by omega) ?_))
            exact jX.sub jsb_n (ct_X12_behindTest_r125_108 hA hN hD hQ  p0 p3 p1 p2 h (jr_of rfl (by omega)) (jr_of rfl (by omega)) (jr_of rfl (by omega)) (jr_of rfl (by omega)) (jmu_tb (jmu_bad hA (jeq_o w62 rfl (jeq_o w61 rfl (jeq_c S55 rfl jeq_0))) (jeq_o w62 rfl (jeq_o w61 rfl (jeq_c S55 rfl jeq_0))) (jeq_o w62 rfl (jeq_o w61 rfl (jeq_c S55 rfl jeq_0))) (jeq_o w62 rfl (jeq_o w61 rfl (jeq_c S55 rfl jeq_0))) (jmo w62 rfl (jmo w61 rfl (jmc S55 rfl rfl))) (jmo w62 rfl (jmo w61 rfl (jmc S55 rfl rfl))) (jmo w62 rfl (jmo w61 rfl (jmc S55 rfl rfl))) (jmo w62 rfl (jmw w61)) (by decide)) (jmo w62 rfl (jmw w61)) (by decide)) (by omega) (by omega) (jmo w62 rfl (jmo w61 rfl (jmc S55 rfl zp0))) (jmo w62 rfl (jmo w61 rfl (jmc S55 rfl zp3))) (jmo w62 rfl (jmo w61 rfl (jmc S55 rfl zp1))) (jmo w62 rfl (jmo w61 rfl (jmc S55 rfl zp2))) J Sm)
        ·
          refine x_iconst (v := 4) rfl ki_4 ?_
          refine x_iret rfl rfl ?_
          exact hQ _ _ (jr_of jk_4 (by omega)) J Sm _ _ _ (jmc S55 rfl zp0) (jmc S55 rfl zp1) (jmc S55 rfl zp2) (by omega) _ _ _ (jmc S55 rfl zp3) (jmc S55 rfl zp2) (jmc S55 rfl zp0) (by omega) (by rw [jk_4]; exact jbp_u (bt_over hA ⟨(jeq_c S55 rfl jeq_0), (jeq_c S55 rfl jeq_0), (jeq_c S55 rfl jeq_0), (jeq_c S55 rfl jeq_0), (jmc S55 rfl rfl), (jmc S55 rfl rfl), (jmc S55 rfl rfl), (jmc S55 rfl rfl)⟩ P56 (by omega)) (Or.inl rfl))
      ·
        refine x_iconst (v := 1) rfl ki_1 ?_
        refine x_goto (tgt := 22) rfl rfl ?_
        refine x_zret rfl rfl (by decide) ?_
        show jX m_X12_behindTest 4 0 0 19 [(1, .int 0), (0, .ref 125)] [.int 1] _ 0 0 _
        refine x_ifeq (tgt := 76) rfl rfl (ti_eq jk_1 jk_0 (br_f (by omega) ?_))
        exact jX.sub (jsb_c rfl (jsb_c rfl jsb_n)) (ct_X12_behindTest_r125_22 hA hN hD hQ  0 p0 p3 p1 p2 h (jr_of jk_0 (by omega)) (jr_of rfl (by omega)) (jr_of rfl (by omega)) (jr_of rfl (by omega)) (jr_of rfl (by omega)) jsa_0 (by omega) (by omega) (by omega) zp0 zp3 zp1 zp2 J Sm)
    ·
      refine x_iconst (v := 1) rfl ki_1 ?_
      refine x_goto (tgt := 22) rfl rfl ?_
      refine x_zret rfl rfl (by decide) ?_
      show jX m_X12_behindTest 4 0 0 7 [(0, .ref 125)] [.int 1] _ 0 0 _
      refine x_istoren (lsx9 := [(1, .int 1), (0, .ref 125)]) rfl rfl rfl ?_
      refine x_iloadn (x := 1) rfl rfl ?_
      refine x_ifne (tgt := 22) rfl rfl (ti_ne jk_1 jk_0 (bn_t (by omega) ?_))
      exact jX.sub (jsb_c rfl (jsb_c rfl jsb_n)) (ct_X12_behindTest_r125_22 hA hN hD hQ  1 p0 p3 p1 p2 h (jr_of jk_1 (by omega)) (jr_of rfl (by omega)) (jr_of rfl (by omega)) (jr_of rfl (by omega)) (jr_of rfl (by omega)) jsa_0 (by omega) (by omega) (by omega) zp0 zp3 zp1 zp2 J Sm)
def fp_X12_must_r125 : jFp := [(125, 9, 10), (125, 10, 11), (125, 11, 12), (125, 12, 13), (125, 13, 14), (125, 14, 15)]
set_option maxRecDepth 100000 in
set_option maxHeartbeats 4000000 in
theorem ct_X12_must_r125_35 {Dy : jH → Prop} {h0 : jH} {Q : Option Value → jH → Prop} {a1 : Int32} (yy_a1 : 0 ≤ a1.toInt ∧ a1.toInt ≤ 1) (hD : jDk Dy) (hQ : ∀ hx9, jJ jSgM Dy hx9 → jSm fp_X12_must_r125 h0 hx9 → ∀ u0 u1 u2 : Int32, jiv hx9 125 10 = u0 → jiv hx9 125 8 = u1 → jiv hx9 125 9 = u2 → (u0.toInt ≤ u1.toInt ∧ u2.toInt ≤ u0.toInt) → ∀ u3 u4 u5 : Int32, jiv hx9 125 11 = u3 → jiv hx9 125 9 = u4 → jiv hx9 125 10 = u5 → (u3.toInt = 0 ∨ u4.toInt + 1 ≤ u5.toInt) → jMs a1 h0 hx9 → Q none hx9) : ∀ (g0 : Int32) (g1 : Int32) (g2 : Int32) (g3 : Int32) (h : jH), 0 ≤ g0.toInt ∧ g0.toInt ≤ 400 → 0 ≤ g1.toInt ∧ g1.toInt ≤ 3 → 0 ≤ g2.toInt ∧ g2.toInt ≤ 400 → 0 ≤ g3.toInt ∧ g3.toInt ≤ 400 → jMs a1 h0 h → (g0.toInt ≤ g2.toInt ∧ g3.toInt ≤ g0.toInt) → (g1.toInt = 0 ∨ g3.toInt + 1 ≤ g0.toInt) → jiv h 125 10 = g0 → jiv h 125 11 = g1 → jiv h 125 8 = g2 → jiv h 125 9 = g3 → jJ jSgM Dy h → jSm fp_X12_must_r125 h0 h → jX m_X12_must 3 0 0 35 [] [] h 0 0 Q := by
  intro g0 g1 g2 g3 h y0 y1 y2 y3 C0 y5 y6 z0 z1 z2 z3  J Sm
  refine x_vret rfl rfl ?_
  exact hQ _ J Sm _ _ _ z0 z2 z3 (by omega) _ _ _ z1 z3 z0 (by omega) C0
set_option maxRecDepth 100000 in
set_option maxHeartbeats 4000000 in
theorem ct_X12_must_r125_24 {Dy : jH → Prop} {h0 : jH} {Q : Option Value → jH → Prop} {a1 : Int32} (yy_a1 : 0 ≤ a1.toInt ∧ a1.toInt ≤ 1) (hD : jDk Dy) (hQ : ∀ hx9, jJ jSgM Dy hx9 → jSm fp_X12_must_r125 h0 hx9 → ∀ u0 u1 u2 : Int32, jiv hx9 125 10 = u0 → jiv hx9 125 8 = u1 → jiv hx9 125 9 = u2 → (u0.toInt ≤ u1.toInt ∧ u2.toInt ≤ u0.toInt) → ∀ u3 u4 u5 : Int32, jiv hx9 125 11 = u3 → jiv hx9 125 9 = u4 → jiv hx9 125 10 = u5 → (u3.toInt = 0 ∨ u4.toInt + 1 ≤ u5.toInt) → jMs a1 h0 hx9 → Q none hx9) : ∀ (g0 : Int32) (g1 : Int32) (g2 : Int32) (g3 : Int32) (g4 : Int32) (h : jH), 0 ≤ g0.toInt ∧ g0.toInt ≤ 400 → 0 ≤ g1.toInt ∧ g1.toInt ≤ 3 → 0 ≤ g2.toInt ∧ g2.toInt ≤ 1 → 0 ≤ g3.toInt ∧ g3.toInt ≤ 400 → 0 ≤ g4.toInt ∧ g4.toInt ≤ 400 → jM24 a1 h0 h → (g0.toInt ≤ g3.toInt ∧ g4.toInt ≤ g0.toInt) → (g1.toInt = 0 ∨ g4.toInt + 1 ≤ g0.toInt) → jiv h 125 10 = g0 → jiv h 125 11 = g1 → jiv h 125 14 = g2 → jiv h 125 8 = g3 → jiv h 125 9 = g4 → jJ jSgM Dy h → jSm fp_X12_must_r125 h0 h → jX m_X12_must 3 0 0 24 [(0, .ref 125)] [] h 0 0 Q := by
  intro g0 g1 g2 g3 g4 h y0 y1 y2 y3 y4 C0 y6 y7 z0 z1 z2 z3 z4  J Sm
  refine x_aloadn (x := 125) rfl rfl ?_
  refine z_getM (N := 92) (v := g2) 12 14 rfl f_12_214 rfl J rfl z2 ?_
  refine x_ifne (tgt := 35) rfl rfl (ti_ne rfl jk_0 ⟨fun c1 => ?_, fun c1 => ?_⟩)
  ·
    exact jX.sub jsb_n (ct_X12_must_r125_35 yy_a1 hD hQ  g0 g1 g3 g4 h (jr_of rfl (by omega)) (jr_of rfl (by omega)) (jr_of rfl (by omega)) (jr_of rfl (by omega)) (ms_b C0 z2 (by omega)) (by omega) (by omega) z0 z1 z3 z4 J Sm)
  ·
    refine x_aloadn (x := 125) rfl rfl ?_
    refine x_inv (N := m_X12_next) (As := []) (b := 125) (st := []) (dx9 := 2) (mc := 0) (ms := 0) (host := "") 12 rfl t_X12_next ⟨Or.inl q_12_218, i_X12_next.1, i_X12_next.2⟩ ⟨by decide, rfl⟩ (congrArg Prod.fst (J.1.1 125 (12, 92) rfl)) rfl (by decide) rfl rfl ⟨by decide, by decide⟩ (sf_X12_next_r125  hD J z0 z3 (by omega)  (fun h J S2 u3 u4 u5 qu3 qu4 qu5 ru3 u6 u7 u8 qu6 qu7 qu8 ru6 P9 => ?_))
    have Sm := jSm_tr rfl Sm S2
    have eu3 := (show 0 ≤ u3.toInt ∧ u3.toInt ≤ 400 from qu3 ▸ jrg_f J sg_125_10_11_1_0_1)
    have eu4 := (show 0 ≤ u4.toInt ∧ u4.toInt ≤ 400 from qu4 ▸ jrg_f J sg_125_8_9_1_0_1)
    have eu5 := (show 0 ≤ u5.toInt ∧ u5.toInt ≤ 400 from qu5 ▸ jrg_f J sg_125_9_10_1_0_1)
    have eu6 := (show 0 ≤ u6.toInt ∧ u6.toInt ≤ 3 from qu6 ▸ jrg_f J sg_125_11_12_1_0_1)
    obtain rfl : u5 = u7 := qu5.symm.trans qu7
    obtain rfl : u3 = u8 := qu3.symm.trans qu8
    have nfP9 := jnf P9.1 z0 qu5
    show jX m_X12_must 3 0 0 35 [(0, .ref 125)] [] _ 0 0 _
    exact jX.sub jsb_n (ct_X12_must_r125_35 yy_a1 hD hQ  u3 u6 u4 u5 h (jr_of rfl (by omega)) (jr_of rfl (by omega)) (jr_of rfl (by omega)) (jr_of rfl (by omega)) (ms_n C0 P9.2 z4 qu5 (by omega) (jmc S2 rfl rfl)) (by omega) (by omega) qu3 qu6 qu4 qu5 J Sm)
set_option maxRecDepth 100000 in
set_option maxHeartbeats 4000000 in
theorem sf_X12_must_r125 {Dy : jH → Prop} {h : jH} {Q : Option Value → jH → Prop} {a1 : Int32} (y1 : 0 ≤ a1.toInt ∧ a1.toInt ≤ 1) (hD : jDk Dy) (J : jJ jSgM Dy h) {p0 p1 p2 : Int32} {p3 p4 p5 : Int32} (zp0 : jiv h 125 10 = p0) (zp1 : jiv h 125 8 = p1) (zp2 : jiv h 125 9 = p2) (rl_p0 : (p0.toInt ≤ p1.toInt ∧ p2.toInt ≤ p0.toInt)) (zp3 : jiv h 125 11 = p3) (zp4 : jiv h 125 9 = p4) (zp5 : jiv h 125 10 = p5) (rl_p3 : (p3.toInt = 0 ∨ p4.toInt + 1 ≤ p5.toInt)) (hQ : ∀ hx9, jJ jSgM Dy hx9 → jSm fp_X12_must_r125 h hx9 → ∀ u0 u1 u2 : Int32, jiv hx9 125 10 = u0 → jiv hx9 125 8 = u1 → jiv hx9 125 9 = u2 → (u0.toInt ≤ u1.toInt ∧ u2.toInt ≤ u0.toInt) → ∀ u3 u4 u5 : Int32, jiv hx9 125 11 = u3 → jiv hx9 125 9 = u4 → jiv hx9 125 10 = u5 → (u3.toInt = 0 ∨ u4.toInt + 1 ≤ u5.toInt) → jMs a1 h hx9 → Q none hx9) : jC m_X12_must 3 0 0 [.ref 125, .int a1] h Q := by
  refine jC.of rfl k_X12_must rfl ?_
  have Sm := jSm_rf fp_X12_must_r125 h
  have ep0 := (show 0 ≤ p0.toInt ∧ p0.toInt ≤ 400 from zp0 ▸ jrg_f J sg_125_10_11_1_0_1)
  have ep1 := (show 0 ≤ p1.toInt ∧ p1.toInt ≤ 400 from zp1 ▸ jrg_f J sg_125_8_9_1_0_1)
  have ep2 := (show 0 ≤ p2.toInt ∧ p2.toInt ≤ 400 from zp2 ▸ jrg_f J sg_125_9_10_1_0_1)
  have ep3 := (show 0 ≤ p3.toInt ∧ p3.toInt ≤ 3 from zp3 ▸ jrg_f J sg_125_11_12_1_0_1)
  have ep4 := (show 0 ≤ p4.toInt ∧ p4.toInt ≤ 400 from zp4 ▸ jrg_f J sg_125_9_10_1_0_1)
  have ep5 := (show 0 ≤ p5.toInt ∧ p5.toInt ≤ 400 from zp5 ▸ jrg_f J sg_125_10_11_1_0_1)
  obtain rfl : p2 = p4 := zp2.symm.trans zp4
  obtain rfl : p0 = p5 := zp0.symm.trans zp5
  have yy_a1 := y1
  show jX m_X12_must 3 0 0 0 [(0, .ref 125), (1, .int a1)] [] _ 0 0 _
  refine x_aloadn (x := 125) rfl rfl ?_
  refine z_getI (N := 92) 12 14 rfl f_12_214 rfl J rfl sg_125_14_15_1_0_1 (fun v1 qv1 ev1 => ?_)
  refine x_ifne (tgt := 24) rfl rfl (ti_ne rfl jk_0 ⟨fun c2 => ?_, fun c2 => ?_⟩)
  ·
    exact jX.sub (jsb_c rfl jsb_n) (ct_X12_must_r125_24 yy_a1 hD hQ  p0 p3 v1 p1 p2 h (jr_of rfl (by omega)) (jr_of rfl (by omega)) (jr_of rfl (by omega)) (jr_of rfl (by omega)) (jr_of rfl (by omega)) ⟨fun z => z, rfl, Or.inl (by rw [qv1]; omega)⟩ (by omega) (by omega) zp0 zp3 qv1 zp1 zp2 J Sm)
  ·
    refine x_iloadn (x := a1) rfl rfl ?_
    refine x_ifne (tgt := 24) rfl rfl (ti_ne rfl jk_0 ⟨fun c3 => ?_, fun c3 => ?_⟩)
    ·
      exact jX.sub (jsb_c rfl jsb_n) (ct_X12_must_r125_24 yy_a1 hD hQ  p0 p3 v1 p1 p2 h (jr_of rfl (by omega)) (jr_of rfl (by omega)) (jr_of rfl (by omega)) (jr_of rfl (by omega)) (jr_of rfl (by omega)) ⟨fun z => z, rfl, Or.inr (by omega)⟩ (by omega) (by omega) zp0 zp3 qv1 zp1 zp2 J Sm)
    ·
      refine x_aloadn (x := 125) rfl rfl ?_
      refine x_iconst (v := 1) rfl ki_1 ?_
      refine z_putZ (N := 92) (w := 1) 12 14 rfl f_12_214 rfl (jfin_no TX12 RX12 92 rfl rfl) hD J Sm rfl rfl jk_1 (by omega) (pw_125_14 (by omega)) rfl (fun h w4 J Sm => ?_)
      refine x_aloadn (x := 125) rfl rfl ?_
      refine x_aloadn (x := 125) rfl rfl ?_
      refine z_getM (N := 92) (v := p2) 12 9 rfl f_12_221 rfl J rfl (jmo w4 rfl zp2) ?_
      refine z_putI (N := 92) (w := p2.toInt) 12 13 rfl f_12_32 rfl (jfin_no TX12 RX12 92 rfl rfl) hD J Sm rfl rfl rfl (pw_125_13 (by omega)) rfl (fun h w5 J Sm => ?_)
      exact jX.sub (jsb_c rfl jsb_n) (ct_X12_must_r125_24 yy_a1 hD hQ  p0 p3 1 p1 p2 h (jr_of rfl (by omega)) (jr_of rfl (by omega)) (jr_of jk_1 (by omega)) (jr_of rfl (by omega)) (jr_of rfl (by omega)) ⟨(fun _ => by rw [(jmo w5 rfl (jmw w4))]; decide), (jmo w5 rfl (jmo w4 rfl rfl)), Or.inl (by rw [(jmo w5 rfl (jmw w4))]; decide)⟩ (by omega) (by omega) (jmo w5 rfl (jmo w4 rfl zp0)) (jmo w5 rfl (jmo w4 rfl zp3)) (jmo w5 rfl (jmw w4)) (jmo w5 rfl (jmo w4 rfl zp1)) (jmo w5 rfl (jmo w4 rfl zp2)) J Sm)
def fp_X12_choice_r125 : jFp := [(125, 9, 10), (125, 10, 11), (125, 11, 12), (125, 12, 13), (125, 13, 14), (125, 14, 15)]
set_option maxRecDepth 100000 in
set_option maxHeartbeats 4000000 in
theorem ct_X12_choice_r125_200011 {Dy : jH → Prop} {h0 : jH} {Q : Option Value → jH → Prop} (hD : jDk Dy) (hQ : ∀ (v : Int32) hx9, (-1) ≤ v.toInt ∧ v.toInt ≤ 5 → jJ jSgM Dy hx9 → jSm fp_X12_choice_r125 h0 hx9 → ∀ u0 u1 u2 : Int32, jiv hx9 125 10 = u0 → jiv hx9 125 8 = u1 → jiv hx9 125 9 = u2 → (u0.toInt ≤ u1.toInt ∧ u2.toInt ≤ u0.toInt) → ∀ u3 u4 u5 : Int32, jiv hx9 125 11 = u3 → jiv hx9 125 9 = u4 → jiv hx9 125 10 = u5 → (u3.toInt = 0 ∨ u4.toInt + 1 ≤ u5.toInt) → jMo h0 hx9 → Q (some (.int v)) hx9) : ∀ (l1 : Int32) (g0 : Int32) (g1 : Int32) (g2 : Int32) (g3 : Int32) (h : jH), (-1) ≤ l1.toInt ∧ l1.toInt ≤ (-1) → 0 ≤ g0.toInt ∧ g0.toInt ≤ 400 → 0 ≤ g1.toInt ∧ g1.toInt ≤ 3 → 0 ≤ g2.toInt ∧ g2.toInt ≤ 400 → 0 ≤ g3.toInt ∧ g3.toInt ≤ 400 → (jiv h 125 9 = jiv h0 125 9 ∧ jiv h 125 14 = jiv h0 125 14) → (g0.toInt ≤ g2.toInt ∧ g3.toInt ≤ g0.toInt) → (g1.toInt = 0 ∨ g3.toInt + 1 ≤ g0.toInt) → jiv h 125 10 = g0 → jiv h 125 11 = g1 → jiv h 125 8 = g2 → jiv h 125 9 = g3 → jJ jSgM Dy h → jSm fp_X12_choice_r125 h0 h → jX m_X12_choice 4 0 0 11 [(1, .int l1)] [.int 0, .ref 125] h 0 0 Q := by
  intro l1 g0 g1 g2 g3 h y0 y1 y2 y3 y4 C0 y6 y7 z0 z1 z2 z3  J Sm
  refine x_inv (N := m_X12_must) (As := [.int 0]) (b := 125) (st := []) (dx9 := 3) (mc := 0) (ms := 0) (host := "") 12 rfl t_X12_must ⟨Or.inl q_12_250, i_X12_must.1, i_X12_must.2⟩ ⟨by decide, rfl⟩ (congrArg Prod.fst (J.1.1 125 (12, 92) rfl)) rfl (by decide) rfl rfl ⟨by decide, by decide⟩ (sf_X12_must_r125 (jr_of jk_0 (by omega)) hD J z0 z2 z3 (by omega) z1 z3 z0 (by omega)  (fun h J S1 u2 u3 u4 qu2 qu3 qu4 ru2 u5 u6 u7 qu5 qu6 qu7 ru5 P8 => ?_))
  have Sm := jSm_tr rfl Sm S1
  have eu2 := (show 0 ≤ u2.toInt ∧ u2.toInt ≤ 400 from qu2 ▸ jrg_f J sg_125_10_11_1_0_1)
  have eu3 := (show 0 ≤ u3.toInt ∧ u3.toInt ≤ 400 from qu3 ▸ jrg_f J sg_125_8_9_1_0_1)
  have eu4 := (show 0 ≤ u4.toInt ∧ u4.toInt ≤ 400 from qu4 ▸ jrg_f J sg_125_9_10_1_0_1)
  have eu5 := (show 0 ≤ u5.toInt ∧ u5.toInt ≤ 3 from qu5 ▸ jrg_f J sg_125_11_12_1_0_1)
  obtain rfl : u4 = u6 := qu4.symm.trans qu6
  obtain rfl : u2 = u7 := qu2.symm.trans qu7
  show jX m_X12_choice 4 0 0 14 [(1, .int l1)] [] _ 0 0 _
  refine x_iloadn (x := l1) rfl rfl ?_
  refine x_iret rfl rfl ?_
  exact hQ _ _ (jr_of rfl (by omega)) J Sm _ _ _ qu2 qu3 qu4 (by omega) _ _ _ qu5 qu4 qu2 (by omega) (mo_k C0 P8.1)
set_option maxRecDepth 100000 in
set_option maxHeartbeats 4000000 in
theorem ct_X12_choice_r125_300011 {Dy : jH → Prop} {h0 : jH} {Q : Option Value → jH → Prop} (hD : jDk Dy) (hQ : ∀ (v : Int32) hx9, (-1) ≤ v.toInt ∧ v.toInt ≤ 5 → jJ jSgM Dy hx9 → jSm fp_X12_choice_r125 h0 hx9 → ∀ u0 u1 u2 : Int32, jiv hx9 125 10 = u0 → jiv hx9 125 8 = u1 → jiv hx9 125 9 = u2 → (u0.toInt ≤ u1.toInt ∧ u2.toInt ≤ u0.toInt) → ∀ u3 u4 u5 : Int32, jiv hx9 125 11 = u3 → jiv hx9 125 9 = u4 → jiv hx9 125 10 = u5 → (u3.toInt = 0 ∨ u4.toInt + 1 ≤ u5.toInt) → jMo h0 hx9 → Q (some (.int v)) hx9) : ∀ (l1 : Int32) (g0 : Int32) (g1 : Int32) (g2 : Int32) (g3 : Int32) (h : jH), 0 ≤ l1.toInt ∧ l1.toInt ≤ 5 → 0 ≤ g0.toInt ∧ g0.toInt ≤ 400 → 0 ≤ g1.toInt ∧ g1.toInt ≤ 3 → 0 ≤ g2.toInt ∧ g2.toInt ≤ 400 → 0 ≤ g3.toInt ∧ g3.toInt ≤ 400 → (jiv h 125 9 = jiv h0 125 9 ∧ jiv h 125 14 = jiv h0 125 14) → (g0.toInt ≤ g2.toInt ∧ g3.toInt ≤ g0.toInt) → (g1.toInt = 0 ∨ g3.toInt + 1 ≤ g0.toInt) → jiv h 125 10 = g0 → jiv h 125 11 = g1 → jiv h 125 8 = g2 → jiv h 125 9 = g3 → jJ jSgM Dy h → jSm fp_X12_choice_r125 h0 h → jX m_X12_choice 4 0 0 11 [(1, .int l1)] [.int 1, .ref 125] h 0 0 Q := by
  intro l1 g0 g1 g2 g3 h y0 y1 y2 y3 y4 C0 y6 y7 z0 z1 z2 z3  J Sm
  refine x_inv (N := m_X12_must) (As := [.int 1]) (b := 125) (st := []) (dx9 := 3) (mc := 0) (ms := 0) (host := "") 12 rfl t_X12_must ⟨Or.inl q_12_250, i_X12_must.1, i_X12_must.2⟩ ⟨by decide, rfl⟩ (congrArg Prod.fst (J.1.1 125 (12, 92) rfl)) rfl (by decide) rfl rfl ⟨by decide, by decide⟩ (sf_X12_must_r125 (jr_of jk_1 (by omega)) hD J z0 z2 z3 (by omega) z1 z3 z0 (by omega)  (fun h J S1 u2 u3 u4 qu2 qu3 qu4 ru2 u5 u6 u7 qu5 qu6 qu7 ru5 P8 => ?_))
  have Sm := jSm_tr rfl Sm S1
  have eu2 := (show 0 ≤ u2.toInt ∧ u2.toInt ≤ 400 from qu2 ▸ jrg_f J sg_125_10_11_1_0_1)
  have eu3 := (show 0 ≤ u3.toInt ∧ u3.toInt ≤ 400 from qu3 ▸ jrg_f J sg_125_8_9_1_0_1)
  have eu4 := (show 0 ≤ u4.toInt ∧ u4.toInt ≤ 400 from qu4 ▸ jrg_f J sg_125_9_10_1_0_1)
  have eu5 := (show 0 ≤ u5.toInt ∧ u5.toInt ≤ 3 from qu5 ▸ jrg_f J sg_125_11_12_1_0_1)
  obtain rfl : u4 = u6 := qu4.symm.trans qu6
  obtain rfl : u2 = u7 := qu2.symm.trans qu7
  show jX m_X12_choice 4 0 0 14 [(1, .int l1)] [] _ 0 0 _
  refine x_iloadn (x := l1) rfl rfl ?_
  refine x_iret rfl rfl ?_
  exact hQ _ _ (jr_of rfl (by omega)) J Sm _ _ _ qu2 qu3 qu4 (by omega) _ _ _ qu5 qu4 qu2 (by omega) (mo_k C0 P8.1)
set_option maxRecDepth 100000 in
set_option maxHeartbeats 4000000 in
theorem sf_X12_choice_r125 {Dy : jH → Prop} {h : jH} {Q : Option Value → jH → Prop} {a1 : Int32} (y1 : (-1) ≤ a1.toInt ∧ a1.toInt ≤ 5) (hD : jDk Dy) (J : jJ jSgM Dy h) {p0 p1 p2 : Int32} {p3 p4 p5 : Int32} (zp0 : jiv h 125 10 = p0) (zp1 : jiv h 125 8 = p1) (zp2 : jiv h 125 9 = p2) (rl_p0 : (p0.toInt ≤ p1.toInt ∧ p2.toInt ≤ p0.toInt)) (zp3 : jiv h 125 11 = p3) (zp4 : jiv h 125 9 = p4) (zp5 : jiv h 125 10 = p5) (rl_p3 : (p3.toInt = 0 ∨ p4.toInt + 1 ≤ p5.toInt)) (hQ : ∀ (v : Int32) hx9, (-1) ≤ v.toInt ∧ v.toInt ≤ 5 → jJ jSgM Dy hx9 → jSm fp_X12_choice_r125 h hx9 → ∀ u0 u1 u2 : Int32, jiv hx9 125 10 = u0 → jiv hx9 125 8 = u1 → jiv hx9 125 9 = u2 → (u0.toInt ≤ u1.toInt ∧ u2.toInt ≤ u0.toInt) → ∀ u3 u4 u5 : Int32, jiv hx9 125 11 = u3 → jiv hx9 125 9 = u4 → jiv hx9 125 10 = u5 → (u3.toInt = 0 ∨ u4.toInt + 1 ≤ u5.toInt) → jMo h hx9 → Q (some (.int v)) hx9) : jC m_X12_choice 4 0 0 [.ref 125, .int a1] h Q := by
  refine jC.of rfl k_X12_choice rfl ?_
  have Sm := jSm_rf fp_X12_choice_r125 h
  have ep0 := (show 0 ≤ p0.toInt ∧ p0.toInt ≤ 400 from zp0 ▸ jrg_f J sg_125_10_11_1_0_1)
  have ep1 := (show 0 ≤ p1.toInt ∧ p1.toInt ≤ 400 from zp1 ▸ jrg_f J sg_125_8_9_1_0_1)
  have ep2 := (show 0 ≤ p2.toInt ∧ p2.toInt ≤ 400 from zp2 ▸ jrg_f J sg_125_9_10_1_0_1)
  have ep3 := (show 0 ≤ p3.toInt ∧ p3.toInt ≤ 3 from zp3 ▸ jrg_f J sg_125_11_12_1_0_1)
  have ep4 := (show 0 ≤ p4.toInt ∧ p4.toInt ≤ 400 from zp4 ▸ jrg_f J sg_125_9_10_1_0_1)
  have ep5 := (show 0 ≤ p5.toInt ∧ p5.toInt ≤ 400 from zp5 ▸ jrg_f J sg_125_10_11_1_0_1)
  obtain rfl : p2 = p4 := zp2.symm.trans zp4
  obtain rfl : p0 = p5 := zp0.symm.trans zp5
  show jX m_X12_choice 4 0 0 0 [(0, .ref 125), (1, .int a1)] [] _ 0 0 _
  refine x_aloadn (x := 125) rfl rfl ?_
  refine x_iloadn (x := a1) rfl rfl ?_
  refine x_iconst (v := (-1)) rfl ki_m1 ?_
  refine x_iceq (tgt := 10) rfl rfl (ti_eq rfl jk_m1 ⟨fun c1 => ?_, fun c1 => ?_⟩)
  ·
    refine x_iconst (v := 0) rfl ki_0 ?_
    exact jX.sub (jsb_c rfl jsb_n) (ct_X12_choice_r125_200011 hD hQ  a1 p0 p3 p1 p2 h (jr_of rfl (by omega)) (jr_of rfl (by omega)) (jr_of rfl (by omega)) (jr_of rfl (by omega)) (jr_of rfl (by omega)) ⟨rfl, rfl⟩ (by omega) (by omega) zp0 zp3 zp1 zp2 J Sm)
  ·
    refine x_iconst (v := 1) rfl ki_1 ?_
    refine x_goto (tgt := 11) rfl rfl ?_
    exact jX.sub (jsb_c rfl jsb_n) (ct_X12_choice_r125_300011 hD hQ  a1 p0 p3 p1 p2 h (jr_of rfl (by omega)) (jr_of rfl (by omega)) (jr_of rfl (by omega)) (jr_of rfl (by omega)) (jr_of rfl (by omega)) ⟨rfl, rfl⟩ (by omega) (by omega) zp0 zp3 zp1 zp2 J Sm)
def fp_X12_feeAt_r125 : jFp := []
set_option maxRecDepth 100000 in
set_option maxHeartbeats 4000000 in
theorem ct_X12_feeAt_r125_100043 {Dy : jH → Prop} {h0 : jH} {Q : Option Value → jH → Prop} (hD : jDk Dy) (hQ : ∀ (v : Int32) hx9, (-1) ≤ v.toInt ∧ v.toInt ≤ 2 → jJ jSgM Dy hx9 → jSm fp_X12_feeAt_r125 h0 hx9 → Q (some (.int v)) hx9) : ∀ (h : jH), jJ jSgM Dy h → jSm fp_X12_feeAt_r125 h0 h → jX m_X12_feeAt 2 0 0 43 [] [.int (-1)] h 0 0 Q := by
  intro  h    J Sm
  refine x_iret rfl rfl ?_
  exact hQ _ _ (jr_of jk_m1 (by omega)) J Sm
set_option maxRecDepth 100000 in
set_option maxHeartbeats 4000000 in
theorem ct_X12_feeAt_r125_400043 {Dy : jH → Prop} {h0 : jH} {Q : Option Value → jH → Prop} (hD : jDk Dy) (hQ : ∀ (v : Int32) hx9, (-1) ≤ v.toInt ∧ v.toInt ≤ 2 → jJ jSgM Dy hx9 → jSm fp_X12_feeAt_r125 h0 hx9 → Q (some (.int v)) hx9) : ∀ (h : jH), jJ jSgM Dy h → jSm fp_X12_feeAt_r125 h0 h → jX m_X12_feeAt 2 0 0 43 [] [.int 2] h 0 0 Q := by
  intro  h    J Sm
  refine x_iret rfl rfl ?_
  exact hQ _ _ (jr_of jk_2 (by omega)) J Sm
set_option maxRecDepth 100000 in
set_option maxHeartbeats 4000000 in
theorem ct_X12_feeAt_r125_300043 {Dy : jH → Prop} {h0 : jH} {Q : Option Value → jH → Prop} (hD : jDk Dy) (hQ : ∀ (v : Int32) hx9, (-1) ≤ v.toInt ∧ v.toInt ≤ 2 → jJ jSgM Dy hx9 → jSm fp_X12_feeAt_r125 h0 hx9 → Q (some (.int v)) hx9) : ∀ (h : jH), jJ jSgM Dy h → jSm fp_X12_feeAt_r125 h0 h → jX m_X12_feeAt 2 0 0 43 [] [.int 1] h 0 0 Q := by
  intro  h    J Sm
  refine x_iret rfl rfl ?_
  exact hQ _ _ (jr_of jk_1 (by omega)) J Sm
set_option maxRecDepth 100000 in
set_option maxHeartbeats 4000000 in
theorem ct_X12_feeAt_r125_200043 {Dy : jH → Prop} {h0 : jH} {Q : Option Value → jH → Prop} (hD : jDk Dy) (hQ : ∀ (v : Int32) hx9, (-1) ≤ v.toInt ∧ v.toInt ≤ 2 → jJ jSgM Dy hx9 → jSm fp_X12_feeAt_r125 h0 hx9 → Q (some (.int v)) hx9) : ∀ (h : jH), jJ jSgM Dy h → jSm fp_X12_feeAt_r125 h0 h → jX m_X12_feeAt 2 0 0 43 [] [.int 0] h 0 0 Q := by
  intro  h    J Sm
  refine x_iret rfl rfl ?_
  exact hQ _ _ (jr_of jk_0 (by omega)) J Sm
set_option maxRecDepth 100000 in
set_option maxHeartbeats 4000000 in
theorem sf_X12_feeAt_r125 {Dy : jH → Prop} {h : jH} {Q : Option Value → jH → Prop} (hD : jDk Dy) (J : jJ jSgM Dy h) (hQ : ∀ (v : Int32) hx9, (-1) ≤ v.toInt ∧ v.toInt ≤ 2 → jJ jSgM Dy hx9 → jSm fp_X12_feeAt_r125 h hx9 → Q (some (.int v)) hx9) : jC m_X12_feeAt 2 0 0 [.ref 125] h Q := by
  refine jC.of rfl k_X12_feeAt rfl ?_
  have Sm := jSm_rf fp_X12_feeAt_r125 h
  show jX m_X12_feeAt 2 0 0 0 [(0, .ref 125)] [] _ 0 0 _
  refine x_aloadn (x := 125) rfl rfl ?_
  refine x_ldc2 (v := 71052) rfl z_12_609 ?_
  refine x_inv (N := m_X12_isWord) (As := [.long 71052]) (b := 125) (st := []) (dx9 := 1) (mc := 0) (ms := 0) (host := "") 12 rfl t_X12_isWord ⟨Or.inl q_12_511, i_X12_isWord.1, i_X12_isWord.2⟩ ⟨by decide, rfl⟩ (congrArg Prod.fst (J.1.1 125 (12, 92) rfl)) rfl (by decide) rfl rfl ⟨by decide, by decide⟩ (jC.of rfl k_X12_isWord rfl ?_)
  show jX m_X12_isWord 1 0 0 0 [(0, .ref 125), (1, .long 71052)] [] _ 0 0 _
  refine x_aloadn (x := 125) rfl rfl ?_
  refine z_getI (N := 92) 12 11 rfl f_12_235 rfl J rfl sg_125_11_12_1_0_1 (fun v1 qv1 ev1 => ?_)
  refine x_iconst (v := 1) rfl ki_1 ?_
  refine x_icne (tgt := 21) rfl rfl (ti_ne rfl jk_1 ⟨fun c2 => ?_, fun c2 => ?_⟩)
  ·
    refine x_iconst (v := 0) rfl ki_0 ?_
    refine x_zret rfl rfl (by decide) ?_
    show jX m_X12_feeAt 2 0 0 7 [(0, .ref 125)] [.int 0] _ 0 0 _
    refine x_ifeq (tgt := 14) rfl rfl (ti_eq jk_0 jk_0 (br_t (by omega) ?_))
    refine x_aloadn (x := 125) rfl rfl ?_
    refine x_ldc2 (v := 7931589) rfl z_12_611 ?_
    refine x_inv (N := m_X12_isWord) (As := [.long 7931589]) (b := 125) (st := []) (dx9 := 1) (mc := 0) (ms := 0) (host := "") 12 rfl t_X12_isWord ⟨Or.inl q_12_511, i_X12_isWord.1, i_X12_isWord.2⟩ ⟨by decide, rfl⟩ (congrArg Prod.fst (J.1.1 125 (12, 92) rfl)) rfl (by decide) rfl rfl ⟨by decide, by decide⟩ (jC.of rfl k_X12_isWord rfl ?_)
    show jX m_X12_isWord 1 0 0 0 [(0, .ref 125), (1, .long 7931589)] [] _ 0 0 _
    refine x_aloadn (x := 125) rfl rfl ?_
    refine z_getM (N := 92) (v := v1) 12 11 rfl f_12_235 rfl J rfl qv1 ?_
    refine x_iconst (v := 1) rfl ki_1 ?_
    refine x_icne (tgt := 21) rfl rfl (ti_ne rfl jk_1 ⟨fun c3 => ?_, fun c3 => ?_⟩)
    ·
      refine x_iconst (v := 0) rfl ki_0 ?_
      refine x_zret rfl rfl (by decide) ?_
      show jX m_X12_feeAt 2 0 0 21 [(0, .ref 125)] [.int 0] _ 0 0 _
      refine x_ifeq (tgt := 28) rfl rfl (ti_eq jk_0 jk_0 (br_t (by omega) ?_))
      refine x_aloadn (x := 125) rfl rfl ?_
      refine x_ldc2 (v := 24868169159) rfl z_12_613 ?_
      refine x_inv (N := m_X12_isWord) (As := [.long 24868169159]) (b := 125) (st := []) (dx9 := 1) (mc := 0) (ms := 0) (host := "") 12 rfl t_X12_isWord ⟨Or.inl q_12_511, i_X12_isWord.1, i_X12_isWord.2⟩ ⟨by decide, rfl⟩ (congrArg Prod.fst (J.1.1 125 (12, 92) rfl)) rfl (by decide) rfl rfl ⟨by decide, by decide⟩ (jC.of rfl k_X12_isWord rfl ?_)
      show jX m_X12_isWord 1 0 0 0 [(0, .ref 125), (1, .long 24868169159)] [] _ 0 0 _
      refine x_aloadn (x := 125) rfl rfl ?_
      refine z_getM (N := 92) (v := v1) 12 11 rfl f_12_235 rfl J rfl qv1 ?_
      refine x_iconst (v := 1) rfl ki_1 ?_
      refine x_icne (tgt := 21) rfl rfl (ti_ne rfl jk_1 ⟨fun c4 => ?_, fun c4 => ?_⟩)
      ·
        refine x_iconst (v := 0) rfl ki_0 ?_
        refine x_zret rfl rfl (by decide) ?_
        show jX m_X12_feeAt 2 0 0 35 [(0, .ref 125)] [.int 0] _ 0 0 _
        refine x_ifeq (tgt := 42) rfl rfl (ti_eq jk_0 jk_0 (br_t (by omega) ?_))
        refine x_iconst (v := (-1)) rfl ki_m1 ?_
        exact jX.sub jsb_n (ct_X12_feeAt_r125_100043 hD hQ  h J Sm)
      ·
        refine x_aloadn (x := 125) rfl rfl ?_
        refine z_getL0 (N := 92) 12 12 rfl f_12_224 rfl J rfl (fun v5 => ?_)
        have ev5 := jfullL v5
        refine x_lloadn (x := 24868169159) rfl rfl ?_
        refine z_lcmp rfl rfl jkl_24868169159 (fun v6 ev6 => ?_)
        refine x_ifne (tgt := 21) rfl rfl (ti_ne rfl jk_0 ⟨fun c7 => ?_, fun c7 => ?_⟩)
        ·
          refine x_iconst (v := 0) rfl ki_0 ?_
          refine x_zret rfl rfl (by decide) ?_
          show jX m_X12_feeAt 2 0 0 35 [(0, .ref 125)] [.int 0] _ 0 0 _
          refine x_ifeq (tgt := 42) rfl rfl (ti_eq jk_0 jk_0 (br_t (by omega) ?_))
          refine x_iconst (v := (-1)) rfl ki_m1 ?_
          exact jX.sub jsb_n (ct_X12_feeAt_r125_100043 hD hQ  h J Sm)
        ·
          refine x_iconst (v := 1) rfl ki_1 ?_
          refine x_goto (tgt := 22) rfl rfl ?_
          refine x_zret rfl rfl (by decide) ?_
          show jX m_X12_feeAt 2 0 0 35 [(0, .ref 125)] [.int 1] _ 0 0 _
          refine x_ifeq (tgt := 42) rfl rfl (ti_eq jk_1 jk_0 (br_f (by omega) ?_))
          refine x_iconst (v := 2) rfl ki_2 ?_
          refine x_goto (tgt := 43) rfl rfl ?_
          exact jX.sub jsb_n (ct_X12_feeAt_r125_400043 hD hQ  h J Sm)
    ·
      refine x_aloadn (x := 125) rfl rfl ?_
      refine z_getL0 (N := 92) 12 12 rfl f_12_224 rfl J rfl (fun v8 => ?_)
      have ev8 := jfullL v8
      refine x_lloadn (x := 7931589) rfl rfl ?_
      refine z_lcmp rfl rfl jkl_7931589 (fun v9 ev9 => ?_)
      refine x_ifne (tgt := 21) rfl rfl (ti_ne rfl jk_0 ⟨fun c10 => ?_, fun c10 => ?_⟩)
      ·
        refine x_iconst (v := 0) rfl ki_0 ?_
        refine x_zret rfl rfl (by decide) ?_
        show jX m_X12_feeAt 2 0 0 21 [(0, .ref 125)] [.int 0] _ 0 0 _
        refine x_ifeq (tgt := 28) rfl rfl (ti_eq jk_0 jk_0 (br_t (by omega) ?_))
        refine x_aloadn (x := 125) rfl rfl ?_
        refine x_ldc2 (v := 24868169159) rfl z_12_613 ?_
        refine x_inv (N := m_X12_isWord) (As := [.long 24868169159]) (b := 125) (st := []) (dx9 := 1) (mc := 0) (ms := 0) (host := "") 12 rfl t_X12_isWord ⟨Or.inl q_12_511, i_X12_isWord.1, i_X12_isWord.2⟩ ⟨by decide, rfl⟩ (congrArg Prod.fst (J.1.1 125 (12, 92) rfl)) rfl (by decide) rfl rfl ⟨by decide, by decide⟩ (jC.of rfl k_X12_isWord rfl ?_)
        show jX m_X12_isWord 1 0 0 0 [(0, .ref 125), (1, .long 24868169159)] [] _ 0 0 _
        refine x_aloadn (x := 125) rfl rfl ?_
        refine z_getM (N := 92) (v := v1) 12 11 rfl f_12_235 rfl J rfl qv1 ?_
        refine x_iconst (v := 1) rfl ki_1 ?_
        refine x_icne (tgt := 21) rfl rfl (ti_ne rfl jk_1 (bn_f (by omega) ?_))
        refine x_aloadn (x := 125) rfl rfl ?_
        refine z_getL0 (N := 92) 12 12 rfl f_12_224 rfl J rfl (fun v11 => ?_)
        have ev11 := jfullL v11
        refine x_lloadn (x := 24868169159) rfl rfl ?_
        refine z_lcmp rfl rfl jkl_24868169159 (fun v12 ev12 => ?_)
        refine x_ifne (tgt := 21) rfl rfl (ti_ne rfl jk_0 ⟨fun c13 => ?_, fun c13 => ?_⟩)
        ·
          refine x_iconst (v := 0) rfl ki_0 ?_
          refine x_zret rfl rfl (by decide) ?_
          show jX m_X12_feeAt 2 0 0 35 [(0, .ref 125)] [.int 0] _ 0 0 _
          refine x_ifeq (tgt := 42) rfl rfl (ti_eq jk_0 jk_0 (br_t (by omega) ?_))
          refine x_iconst (v := (-1)) rfl ki_m1 ?_
          exact jX.sub jsb_n (ct_X12_feeAt_r125_100043 hD hQ  h J Sm)
        ·
          refine x_iconst (v := 1) rfl ki_1 ?_
          refine x_goto (tgt := 22) rfl rfl ?_
          refine x_zret rfl rfl (by decide) ?_
          show jX m_X12_feeAt 2 0 0 35 [(0, .ref 125)] [.int 1] _ 0 0 _
          refine x_ifeq (tgt := 42) rfl rfl (ti_eq jk_1 jk_0 (br_f (by omega) ?_))
          refine x_iconst (v := 2) rfl ki_2 ?_
          refine x_goto (tgt := 43) rfl rfl ?_
          exact jX.sub jsb_n (ct_X12_feeAt_r125_400043 hD hQ  h J Sm)
      ·
        refine x_iconst (v := 1) rfl ki_1 ?_
        refine x_goto (tgt := 22) rfl rfl ?_
        refine x_zret rfl rfl (by decide) ?_
        show jX m_X12_feeAt 2 0 0 21 [(0, .ref 125)] [.int 1] _ 0 0 _
        refine x_ifeq (tgt := 28) rfl rfl (ti_eq jk_1 jk_0 (br_f (by omega) ?_))
        refine x_iconst (v := 1) rfl ki_1 ?_
        refine x_goto (tgt := 43) rfl rfl ?_
        exact jX.sub jsb_n (ct_X12_feeAt_r125_300043 hD hQ  h J Sm)
  ·
    refine x_aloadn (x := 125) rfl rfl ?_
    refine z_getL0 (N := 92) 12 12 rfl f_12_224 rfl J rfl (fun v14 => ?_)
    have ev14 := jfullL v14
    refine x_lloadn (x := 71052) rfl rfl ?_
    refine z_lcmp rfl rfl jkl_71052 (fun v15 ev15 => ?_)
    refine x_ifne (tgt := 21) rfl rfl (ti_ne rfl jk_0 ⟨fun c16 => ?_, fun c16 => ?_⟩)
    ·
      refine x_iconst (v := 0) rfl ki_0 ?_
      refine x_zret rfl rfl (by decide) ?_
      show jX m_X12_feeAt 2 0 0 7 [(0, .ref 125)] [.int 0] _ 0 0 _
      refine x_ifeq (tgt := 14) rfl rfl (ti_eq jk_0 jk_0 (br_t (by omega) ?_))
      refine x_aloadn (x := 125) rfl rfl ?_
      refine x_ldc2 (v := 7931589) rfl z_12_611 ?_
      refine x_inv (N := m_X12_isWord) (As := [.long 7931589]) (b := 125) (st := []) (dx9 := 1) (mc := 0) (ms := 0) (host := "") 12 rfl t_X12_isWord ⟨Or.inl q_12_511, i_X12_isWord.1, i_X12_isWord.2⟩ ⟨by decide, rfl⟩ (congrArg Prod.fst (J.1.1 125 (12, 92) rfl)) rfl (by decide) rfl rfl ⟨by decide, by decide⟩ (jC.of rfl k_X12_isWord rfl ?_)
      show jX m_X12_isWord 1 0 0 0 [(0, .ref 125), (1, .long 7931589)] [] _ 0 0 _
      refine x_aloadn (x := 125) rfl rfl ?_
      refine z_getM (N := 92) (v := v1) 12 11 rfl f_12_235 rfl J rfl qv1 ?_
      refine x_iconst (v := 1) rfl ki_1 ?_
      refine x_icne (tgt := 21) rfl rfl (ti_ne rfl jk_1 (bn_f (by omega) ?_))
      refine x_aloadn (x := 125) rfl rfl ?_
      refine z_getL0 (N := 92) 12 12 rfl f_12_224 rfl J rfl (fun v17 => ?_)
      have ev17 := jfullL v17
      refine x_lloadn (x := 7931589) rfl rfl ?_
      refine z_lcmp rfl rfl jkl_7931589 (fun v18 ev18 => ?_)
      refine x_ifne (tgt := 21) rfl rfl (ti_ne rfl jk_0 ⟨fun c19 => ?_, fun c19 => ?_⟩)
      ·
        refine x_iconst (v := 0) rfl ki_0 ?_
        refine x_zret rfl rfl (by decide) ?_
        show jX m_X12_feeAt 2 0 0 21 [(0, .ref 125)] [.int 0] _ 0 0 _
        refine x_ifeq (tgt := 28) rfl rfl (ti_eq jk_0 jk_0 (br_t (by omega) ?_))
        refine x_aloadn (x := 125) rfl rfl ?_
        refine x_ldc2 (v := 24868169159) rfl z_12_613 ?_
        refine x_inv (N := m_X12_isWord) (As := [.long 24868169159]) (b := 125) (st := []) (dx9 := 1) (mc := 0) (ms := 0) (host := "") 12 rfl t_X12_isWord ⟨Or.inl q_12_511, i_X12_isWord.1, i_X12_isWord.2⟩ ⟨by decide, rfl⟩ (congrArg Prod.fst (J.1.1 125 (12, 92) rfl)) rfl (by decide) rfl rfl ⟨by decide, by decide⟩ (jC.of rfl k_X12_isWord rfl ?_)
        show jX m_X12_isWord 1 0 0 0 [(0, .ref 125), (1, .long 24868169159)] [] _ 0 0 _
        refine x_aloadn (x := 125) rfl rfl ?_
        refine z_getM (N := 92) (v := v1) 12 11 rfl f_12_235 rfl J rfl qv1 ?_
        refine x_iconst (v := 1) rfl ki_1 ?_
        refine x_icne (tgt := 21) rfl rfl (ti_ne rfl jk_1 (bn_f (by omega) ?_))
        refine x_aloadn (x := 125) rfl rfl ?_
        refine z_getL0 (N := 92) 12 12 rfl f_12_224 rfl J rfl (fun v20 => ?_)
        have ev20 := jfullL v20
        refine x_lloadn (x := 24868169159) rfl rfl ?_
        refine z_lcmp rfl rfl jkl_24868169159 (fun v21 ev21 => ?_)
        refine x_ifne (tgt := 21) rfl rfl (ti_ne rfl jk_0 ⟨fun c22 => ?_, fun c22 => ?_⟩)
        ·
          refine x_iconst (v := 0) rfl ki_0 ?_
          refine x_zret rfl rfl (by decide) ?_
          show jX m_X12_feeAt 2 0 0 35 [(0, .ref 125)] [.int 0] _ 0 0 _
          refine x_ifeq (tgt := 42) rfl rfl (ti_eq jk_0 jk_0 (br_t (by omega) ?_))
          refine x_iconst (v := (-1)) rfl ki_m1 ?_
          exact jX.sub jsb_n (ct_X12_feeAt_r125_100043 hD hQ  h J Sm)
        ·
          refine x_iconst (v := 1) rfl ki_1 ?_
          refine x_goto (tgt := 22) rfl rfl ?_
          refine x_zret rfl rfl (by decide) ?_
          show jX m_X12_feeAt 2 0 0 35 [(0, .ref 125)] [.int 1] _ 0 0 _
          refine x_ifeq (tgt := 42) rfl rfl (ti_eq jk_1 jk_0 (br_f (by omega) ?_))
          refine x_iconst (v := 2) rfl ki_2 ?_
          refine x_goto (tgt := 43) rfl rfl ?_
          exact jX.sub jsb_n (ct_X12_feeAt_r125_400043 hD hQ  h J Sm)
      ·
        refine x_iconst (v := 1) rfl ki_1 ?_
        refine x_goto (tgt := 22) rfl rfl ?_
        refine x_zret rfl rfl (by decide) ?_
        show jX m_X12_feeAt 2 0 0 21 [(0, .ref 125)] [.int 1] _ 0 0 _
        refine x_ifeq (tgt := 28) rfl rfl (ti_eq jk_1 jk_0 (br_f (by omega) ?_))
        refine x_iconst (v := 1) rfl ki_1 ?_
        refine x_goto (tgt := 43) rfl rfl ?_
        exact jX.sub jsb_n (ct_X12_feeAt_r125_300043 hD hQ  h J Sm)
    ·
      refine x_iconst (v := 1) rfl ki_1 ?_
      refine x_goto (tgt := 22) rfl rfl ?_
      refine x_zret rfl rfl (by decide) ?_
      show jX m_X12_feeAt 2 0 0 7 [(0, .ref 125)] [.int 1] _ 0 0 _
      refine x_ifeq (tgt := 14) rfl rfl (ti_eq jk_1 jk_0 (br_f (by omega) ?_))
      refine x_iconst (v := 0) rfl ki_0 ?_
      refine x_goto (tgt := 43) rfl rfl ?_
      exact jX.sub jsb_n (ct_X12_feeAt_r125_200043 hD hQ  h J Sm)
def fp_X12_groundAt_r125 : jFp := []
set_option maxRecDepth 100000 in
set_option maxHeartbeats 4000000 in
theorem ct_X12_groundAt_r125_400059 {Dy : jH → Prop} {h0 : jH} {Q : Option Value → jH → Prop} (hD : jDk Dy) (hQ : ∀ (v : Int32) hx9, (-1) ≤ v.toInt ∧ v.toInt ≤ 5 → jJ jSgM Dy hx9 → jSm fp_X12_groundAt_r125 h0 hx9 → Q (some (.int v)) hx9) : ∀ (h : jH), jJ jSgM Dy h → jSm fp_X12_groundAt_r125 h0 h → jX m_X12_groundAt 2 0 0 59 [] [.int 2] h 0 0 Q := by
  intro  h    J Sm
  refine x_iret rfl rfl ?_
  exact hQ _ _ (jr_of jk_2 (by omega)) J Sm
set_option maxRecDepth 100000 in
set_option maxHeartbeats 4000000 in
theorem ct_X12_groundAt_r125_300059 {Dy : jH → Prop} {h0 : jH} {Q : Option Value → jH → Prop} (hD : jDk Dy) (hQ : ∀ (v : Int32) hx9, (-1) ≤ v.toInt ∧ v.toInt ≤ 5 → jJ jSgM Dy hx9 → jSm fp_X12_groundAt_r125 h0 hx9 → Q (some (.int v)) hx9) : ∀ (h : jH), jJ jSgM Dy h → jSm fp_X12_groundAt_r125 h0 h → jX m_X12_groundAt 2 0 0 59 [] [.int 1] h 0 0 Q := by
  intro  h    J Sm
  refine x_iret rfl rfl ?_
  exact hQ _ _ (jr_of jk_1 (by omega)) J Sm
set_option maxRecDepth 100000 in
set_option maxHeartbeats 4000000 in
theorem ct_X12_groundAt_r125_200059 {Dy : jH → Prop} {h0 : jH} {Q : Option Value → jH → Prop} (hD : jDk Dy) (hQ : ∀ (v : Int32) hx9, (-1) ≤ v.toInt ∧ v.toInt ≤ 5 → jJ jSgM Dy hx9 → jSm fp_X12_groundAt_r125 h0 hx9 → Q (some (.int v)) hx9) : ∀ (h : jH), jJ jSgM Dy h → jSm fp_X12_groundAt_r125 h0 h → jX m_X12_groundAt 2 0 0 59 [] [.int 0] h 0 0 Q := by
  intro  h    J Sm
  refine x_iret rfl rfl ?_
  exact hQ _ _ (jr_of jk_0 (by omega)) J Sm
set_option maxRecDepth 100000 in
set_option maxHeartbeats 4000000 in
theorem ct_X12_groundAt_r125_30 {Dy : jH → Prop} {h0 : jH} {Q : Option Value → jH → Prop} (hD : jDk Dy) (hQ : ∀ (v : Int32) hx9, (-1) ≤ v.toInt ∧ v.toInt ≤ 5 → jJ jSgM Dy hx9 → jSm fp_X12_groundAt_r125 h0 hx9 → Q (some (.int v)) hx9) : ∀ (g0 : Int32) (h : jH), 1 ≤ g0.toInt ∧ g0.toInt ≤ 1 → jiv h 125 11 = g0 → jJ jSgM Dy h → jSm fp_X12_groundAt_r125 h0 h → jX m_X12_groundAt 2 0 0 30 [(0, .ref 125)] [] h 0 0 Q := by
  intro g0 h y0 z0  J Sm
  refine x_aloadn (x := 125) rfl rfl ?_
  refine x_ldc2 (v := 2411144) rfl z_12_585 ?_
  refine x_inv (N := m_X12_isWord) (As := [.long 2411144]) (b := 125) (st := []) (dx9 := 1) (mc := 0) (ms := 0) (host := "") 12 rfl t_X12_isWord ⟨Or.inl q_12_511, i_X12_isWord.1, i_X12_isWord.2⟩ ⟨by decide, rfl⟩ (congrArg Prod.fst (J.1.1 125 (12, 92) rfl)) rfl (by decide) rfl rfl ⟨by decide, by decide⟩ (jC.of rfl k_X12_isWord rfl ?_)
  show jX m_X12_isWord 1 0 0 0 [(0, .ref 125), (1, .long 2411144)] [] _ 0 0 _
  refine x_aloadn (x := 125) rfl rfl ?_
  refine z_getM (N := 92) (v := g0) 12 11 rfl f_12_235 rfl J rfl z0 ?_
  refine x_iconst (v := 1) rfl ki_1 ?_
  refine x_icne (tgt := 21) rfl rfl (ti_ne rfl jk_1 (bn_f (by omega) ?_))
  refine x_aloadn (x := 125) rfl rfl ?_
  refine z_getL0 (N := 92) 12 12 rfl f_12_224 rfl J rfl (fun v1 => ?_)
  have ev1 := jfullL v1
  refine x_lloadn (x := 2411144) rfl rfl ?_
  refine z_lcmp rfl rfl jkl_2411144 (fun v2 ev2 => ?_)
  refine x_ifne (tgt := 21) rfl rfl (ti_ne rfl jk_0 ⟨fun c3 => ?_, fun c3 => ?_⟩)
  ·
    refine x_iconst (v := 0) rfl ki_0 ?_
    refine x_zret rfl rfl (by decide) ?_
    show jX m_X12_groundAt 2 0 0 37 [(0, .ref 125)] [.int 0] _ 0 0 _
    refine x_ifeq (tgt := 44) rfl rfl (ti_eq jk_0 jk_0 (br_t (by omega) ?_))
    refine x_aloadn (x := 125) rfl rfl ?_
    refine x_ldc2 (v := 271941) rfl z_12_587 ?_
    refine x_inv (N := m_X12_isWord) (As := [.long 271941]) (b := 125) (st := []) (dx9 := 1) (mc := 0) (ms := 0) (host := "") 12 rfl t_X12_isWord ⟨Or.inl q_12_511, i_X12_isWord.1, i_X12_isWord.2⟩ ⟨by decide, rfl⟩ (congrArg Prod.fst (J.1.1 125 (12, 92) rfl)) rfl (by decide) rfl rfl ⟨by decide, by decide⟩ (jC.of rfl k_X12_isWord rfl ?_)
    show jX m_X12_isWord 1 0 0 0 [(0, .ref 125), (1, .long 271941)] [] _ 0 0 _
    refine x_aloadn (x := 125) rfl rfl ?_
    refine z_getM (N := 92) (v := g0) 12 11 rfl f_12_235 rfl J rfl z0 ?_
    refine x_iconst (v := 1) rfl ki_1 ?_
    refine x_icne (tgt := 21) rfl rfl (ti_ne rfl jk_1 (bn_f (by omega) ?_))
    refine x_aloadn (x := 125) rfl rfl ?_
    refine z_getL0 (N := 92) 12 12 rfl f_12_224 rfl J rfl (fun v4 => ?_)
    have ev4 := jfullL v4
    refine x_lloadn (x := 271941) rfl rfl ?_
    refine z_lcmp rfl rfl jkl_271941 (fun v5 ev5 => ?_)
    refine x_ifne (tgt := 21) rfl rfl (ti_ne rfl jk_0 ⟨fun c6 => ?_, fun c6 => ?_⟩)
    ·
      refine x_iconst (v := 0) rfl ki_0 ?_
      refine x_zret rfl rfl (by decide) ?_
      show jX m_X12_groundAt 2 0 0 51 [(0, .ref 125)] [.int 0] _ 0 0 _
      refine x_ifeq (tgt := 58) rfl rfl (ti_eq jk_0 jk_0 (br_t (by omega) ?_))
      refine x_iconst (v := 2) rfl ki_2 ?_
      exact jX.sub jsb_n (ct_X12_groundAt_r125_400059 hD hQ  h J Sm)
    ·
      refine x_iconst (v := 1) rfl ki_1 ?_
      refine x_goto (tgt := 22) rfl rfl ?_
      refine x_zret rfl rfl (by decide) ?_
      show jX m_X12_groundAt 2 0 0 51 [(0, .ref 125)] [.int 1] _ 0 0 _
      refine x_ifeq (tgt := 58) rfl rfl (ti_eq jk_1 jk_0 (br_f (by omega) ?_))
      refine x_iconst (v := 1) rfl ki_1 ?_
      refine x_goto (tgt := 59) rfl rfl ?_
      exact jX.sub jsb_n (ct_X12_groundAt_r125_300059 hD hQ  h J Sm)
  ·
    refine x_iconst (v := 1) rfl ki_1 ?_
    refine x_goto (tgt := 22) rfl rfl ?_
    refine x_zret rfl rfl (by decide) ?_
    show jX m_X12_groundAt 2 0 0 37 [(0, .ref 125)] [.int 1] _ 0 0 _
    refine x_ifeq (tgt := 44) rfl rfl (ti_eq jk_1 jk_0 (br_f (by omega) ?_))
    refine x_iconst (v := 0) rfl ki_0 ?_
    refine x_goto (tgt := 59) rfl rfl ?_
    exact jX.sub jsb_n (ct_X12_groundAt_r125_200059 hD hQ  h J Sm)
set_option maxRecDepth 100000 in
set_option maxHeartbeats 4000000 in
theorem ct_X12_groundAt_r125_100103 {Dy : jH → Prop} {h0 : jH} {Q : Option Value → jH → Prop} (hD : jDk Dy) (hQ : ∀ (v : Int32) hx9, (-1) ≤ v.toInt ∧ v.toInt ≤ 5 → jJ jSgM Dy hx9 → jSm fp_X12_groundAt_r125 h0 hx9 → Q (some (.int v)) hx9) : ∀ (h : jH), jJ jSgM Dy h → jSm fp_X12_groundAt_r125 h0 h → jX m_X12_groundAt 2 0 0 103 [] [.int (-1)] h 0 0 Q := by
  intro  h    J Sm
  refine x_iret rfl rfl ?_
  exact hQ _ _ (jr_of jk_m1 (by omega)) J Sm
set_option maxRecDepth 100000 in
set_option maxHeartbeats 4000000 in
theorem ct_X12_groundAt_r125_700103 {Dy : jH → Prop} {h0 : jH} {Q : Option Value → jH → Prop} (hD : jDk Dy) (hQ : ∀ (v : Int32) hx9, (-1) ≤ v.toInt ∧ v.toInt ≤ 5 → jJ jSgM Dy hx9 → jSm fp_X12_groundAt_r125 h0 hx9 → Q (some (.int v)) hx9) : ∀ (h : jH), jJ jSgM Dy h → jSm fp_X12_groundAt_r125 h0 h → jX m_X12_groundAt 2 0 0 103 [] [.int 5] h 0 0 Q := by
  intro  h    J Sm
  refine x_iret rfl rfl ?_
  exact hQ _ _ (jr_of jk_5 (by omega)) J Sm
set_option maxRecDepth 100000 in
set_option maxHeartbeats 4000000 in
theorem ct_X12_groundAt_r125_600103 {Dy : jH → Prop} {h0 : jH} {Q : Option Value → jH → Prop} (hD : jDk Dy) (hQ : ∀ (v : Int32) hx9, (-1) ≤ v.toInt ∧ v.toInt ≤ 5 → jJ jSgM Dy hx9 → jSm fp_X12_groundAt_r125 h0 hx9 → Q (some (.int v)) hx9) : ∀ (h : jH), jJ jSgM Dy h → jSm fp_X12_groundAt_r125 h0 h → jX m_X12_groundAt 2 0 0 103 [] [.int 4] h 0 0 Q := by
  intro  h    J Sm
  refine x_iret rfl rfl ?_
  exact hQ _ _ (jr_of jk_4 (by omega)) J Sm
set_option maxRecDepth 100000 in
set_option maxHeartbeats 4000000 in
theorem ct_X12_groundAt_r125_500103 {Dy : jH → Prop} {h0 : jH} {Q : Option Value → jH → Prop} (hD : jDk Dy) (hQ : ∀ (v : Int32) hx9, (-1) ≤ v.toInt ∧ v.toInt ≤ 5 → jJ jSgM Dy hx9 → jSm fp_X12_groundAt_r125 h0 hx9 → Q (some (.int v)) hx9) : ∀ (h : jH), jJ jSgM Dy h → jSm fp_X12_groundAt_r125 h0 h → jX m_X12_groundAt 2 0 0 103 [] [.int 3] h 0 0 Q := by
  intro  h    J Sm
  refine x_iret rfl rfl ?_
  exact hQ _ _ (jr_of jk_3 (by omega)) J Sm
set_option maxRecDepth 100000 in
set_option maxHeartbeats 4000000 in
theorem sf_X12_groundAt_r125 {Dy : jH → Prop} {h : jH} {Q : Option Value → jH → Prop} (hD : jDk Dy) (J : jJ jSgM Dy h) (hQ : ∀ (v : Int32) hx9, (-1) ≤ v.toInt ∧ v.toInt ≤ 5 → jJ jSgM Dy hx9 → jSm fp_X12_groundAt_r125 h hx9 → Q (some (.int v)) hx9) : jC m_X12_groundAt 2 0 0 [.ref 125] h Q := by
  refine jC.of rfl k_X12_groundAt rfl ?_
  have Sm := jSm_rf fp_X12_groundAt_r125 h
  show jX m_X12_groundAt 2 0 0 0 [(0, .ref 125)] [] _ 0 0 _
  refine x_aloadn (x := 125) rfl rfl ?_
  refine x_ldc2 (v := 2411144) rfl z_12_585 ?_
  refine x_inv (N := m_X12_isWord) (As := [.long 2411144]) (b := 125) (st := []) (dx9 := 1) (mc := 0) (ms := 0) (host := "") 12 rfl t_X12_isWord ⟨Or.inl q_12_511, i_X12_isWord.1, i_X12_isWord.2⟩ ⟨by decide, rfl⟩ (congrArg Prod.fst (J.1.1 125 (12, 92) rfl)) rfl (by decide) rfl rfl ⟨by decide, by decide⟩ (jC.of rfl k_X12_isWord rfl ?_)
  show jX m_X12_isWord 1 0 0 0 [(0, .ref 125), (1, .long 2411144)] [] _ 0 0 _
  refine x_aloadn (x := 125) rfl rfl ?_
  refine z_getI (N := 92) 12 11 rfl f_12_235 rfl J rfl sg_125_11_12_1_0_1 (fun v1 qv1 ev1 => ?_)
  refine x_iconst (v := 1) rfl ki_1 ?_
  refine x_icne (tgt := 21) rfl rfl (ti_ne rfl jk_1 ⟨fun c2 => ?_, fun c2 => ?_⟩)
  ·
    refine x_iconst (v := 0) rfl ki_0 ?_
    refine x_zret rfl rfl (by decide) ?_
    show jX m_X12_groundAt 2 0 0 7 [(0, .ref 125)] [.int 0] _ 0 0 _
    refine x_ifne (tgt := 30) rfl rfl (ti_ne jk_0 jk_0 (bn_f (by omega) ?_))
    refine x_aloadn (x := 125) rfl rfl ?_
    refine x_ldc2 (v := 271941) rfl z_12_587 ?_
    refine x_inv (N := m_X12_isWord) (As := [.long 271941]) (b := 125) (st := []) (dx9 := 1) (mc := 0) (ms := 0) (host := "") 12 rfl t_X12_isWord ⟨Or.inl q_12_511, i_X12_isWord.1, i_X12_isWord.2⟩ ⟨by decide, rfl⟩ (congrArg Prod.fst (J.1.1 125 (12, 92) rfl)) rfl (by decide) rfl rfl ⟨by decide, by decide⟩ (jC.of rfl k_X12_isWord rfl ?_)
    show jX m_X12_isWord 1 0 0 0 [(0, .ref 125), (1, .long 271941)] [] _ 0 0 _
    refine x_aloadn (x := 125) rfl rfl ?_
    refine z_getM (N := 92) (v := v1) 12 11 rfl f_12_235 rfl J rfl qv1 ?_
    refine x_iconst (v := 1) rfl ki_1 ?_
    refine x_icne (tgt := 21) rfl rfl (ti_ne rfl jk_1 ⟨fun c3 => ?_, fun c3 => ?_⟩)
    ·
      refine x_iconst (v := 0) rfl ki_0 ?_
      refine x_zret rfl rfl (by decide) ?_
      show jX m_X12_groundAt 2 0 0 17 [(0, .ref 125)] [.int 0] _ 0 0 _
      refine x_ifne (tgt := 30) rfl rfl (ti_ne jk_0 jk_0 (bn_f (by omega) ?_))
      refine x_aloadn (x := 125) rfl rfl ?_
      refine x_ldc2 (v := 595412) rfl z_12_589 ?_
      refine x_inv (N := m_X12_isWord) (As := [.long 595412]) (b := 125) (st := []) (dx9 := 1) (mc := 0) (ms := 0) (host := "") 12 rfl t_X12_isWord ⟨Or.inl q_12_511, i_X12_isWord.1, i_X12_isWord.2⟩ ⟨by decide, rfl⟩ (congrArg Prod.fst (J.1.1 125 (12, 92) rfl)) rfl (by decide) rfl rfl ⟨by decide, by decide⟩ (jC.of rfl k_X12_isWord rfl ?_)
      show jX m_X12_isWord 1 0 0 0 [(0, .ref 125), (1, .long 595412)] [] _ 0 0 _
      refine x_aloadn (x := 125) rfl rfl ?_
      refine z_getM (N := 92) (v := v1) 12 11 rfl f_12_235 rfl J rfl qv1 ?_
      refine x_iconst (v := 1) rfl ki_1 ?_
      refine x_icne (tgt := 21) rfl rfl (ti_ne rfl jk_1 ⟨fun c4 => ?_, fun c4 => ?_⟩)
      ·
        refine x_iconst (v := 0) rfl ki_0 ?_
        refine x_zret rfl rfl (by decide) ?_
        show jX m_X12_groundAt 2 0 0 27 [(0, .ref 125)] [.int 0] _ 0 0 _
        refine x_ifeq (tgt := 60) rfl rfl (ti_eq jk_0 jk_0 (br_t (by omega) ?_))
        refine x_aloadn (x := 125) rfl rfl ?_
        refine x_ldc2 (v := 509813861) rfl z_12_591 ?_
        refine x_inv (N := m_X12_isWord) (As := [.long 509813861]) (b := 125) (st := []) (dx9 := 1) (mc := 0) (ms := 0) (host := "") 12 rfl t_X12_isWord ⟨Or.inl q_12_511, i_X12_isWord.1, i_X12_isWord.2⟩ ⟨by decide, rfl⟩ (congrArg Prod.fst (J.1.1 125 (12, 92) rfl)) rfl (by decide) rfl rfl ⟨by decide, by decide⟩ (jC.of rfl k_X12_isWord rfl ?_)
        show jX m_X12_isWord 1 0 0 0 [(0, .ref 125), (1, .long 509813861)] [] _ 0 0 _
        refine x_aloadn (x := 125) rfl rfl ?_
        refine z_getM (N := 92) (v := v1) 12 11 rfl f_12_235 rfl J rfl qv1 ?_
        refine x_iconst (v := 1) rfl ki_1 ?_
        refine x_icne (tgt := 21) rfl rfl (ti_ne rfl jk_1 ⟨fun c5 => ?_, fun c5 => ?_⟩)
        ·
          refine x_iconst (v := 0) rfl ki_0 ?_
          refine x_zret rfl rfl (by decide) ?_
          show jX m_X12_groundAt 2 0 0 67 [(0, .ref 125)] [.int 0] _ 0 0 _
          refine x_ifeq (tgt := 74) rfl rfl (ti_eq jk_0 jk_0 (br_t (by omega) ?_))
          refine x_aloadn (x := 125) rfl rfl ?_
          refine x_ldc2 (v := 23716) rfl z_12_593 ?_
          refine x_inv (N := m_X12_isWord) (As := [.long 23716]) (b := 125) (st := []) (dx9 := 1) (mc := 0) (ms := 0) (host := "") 12 rfl t_X12_isWord ⟨Or.inl q_12_511, i_X12_isWord.1, i_X12_isWord.2⟩ ⟨by decide, rfl⟩ (congrArg Prod.fst (J.1.1 125 (12, 92) rfl)) rfl (by decide) rfl rfl ⟨by decide, by decide⟩ (jC.of rfl k_X12_isWord rfl ?_)
          show jX m_X12_isWord 1 0 0 0 [(0, .ref 125), (1, .long 23716)] [] _ 0 0 _
          refine x_aloadn (x := 125) rfl rfl ?_
          refine z_getM (N := 92) (v := v1) 12 11 rfl f_12_235 rfl J rfl qv1 ?_
          refine x_iconst (v := 1) rfl ki_1 ?_
          refine x_icne (tgt := 21) rfl rfl (ti_ne rfl jk_1 ⟨fun c6 => ?_, fun c6 => ?_⟩)
          ·
            refine x_iconst (v := 0) rfl ki_0 ?_
            refine x_zret rfl rfl (by decide) ?_
            show jX m_X12_groundAt 2 0 0 81 [(0, .ref 125)] [.int 0] _ 0 0 _
            refine x_ifeq (tgt := 88) rfl rfl (ti_eq jk_0 jk_0 (br_t (by omega) ?_))
            refine x_aloadn (x := 125) rfl rfl ?_
            refine x_ldc2 (v := 17232476819) rfl z_12_595 ?_
            refine x_inv (N := m_X12_isWord) (As := [.long 17232476819]) (b := 125) (st := []) (dx9 := 1) (mc := 0) (ms := 0) (host := "") 12 rfl t_X12_isWord ⟨Or.inl q_12_511, i_X12_isWord.1, i_X12_isWord.2⟩ ⟨by decide, rfl⟩ (congrArg Prod.fst (J.1.1 125 (12, 92) rfl)) rfl (by decide) rfl rfl ⟨by decide, by decide⟩ (jC.of rfl k_X12_isWord rfl ?_)
            show jX m_X12_isWord 1 0 0 0 [(0, .ref 125), (1, .long 17232476819)] [] _ 0 0 _
            refine x_aloadn (x := 125) rfl rfl ?_
            refine z_getM (N := 92) (v := v1) 12 11 rfl f_12_235 rfl J rfl qv1 ?_
            refine x_iconst (v := 1) rfl ki_1 ?_
            refine x_icne (tgt := 21) rfl rfl (ti_ne rfl jk_1 ⟨fun c7 => ?_, fun c7 => ?_⟩)
            ·
              refine x_iconst (v := 0) rfl ki_0 ?_
              refine x_zret rfl rfl (by decide) ?_
              show jX m_X12_groundAt 2 0 0 95 [(0, .ref 125)] [.int 0] _ 0 0 _
              refine x_ifeq (tgt := 102) rfl rfl (ti_eq jk_0 jk_0 (br_t (by omega) ?_))
              refine x_iconst (v := (-1)) rfl ki_m1 ?_
              exact jX.sub jsb_n (ct_X12_groundAt_r125_100103 hD hQ  h J Sm)
            ·
              refine x_aloadn (x := 125) rfl rfl ?_
              refine z_getL0 (N := 92) 12 12 rfl f_12_224 rfl J rfl (fun v8 => ?_)
              have ev8 := jfullL v8
              refine x_lloadn (x := 17232476819) rfl rfl ?_
              refine z_lcmp rfl rfl jkl_17232476819 (fun v9 ev9 => ?_)
              refine x_ifne (tgt := 21) rfl rfl (ti_ne rfl jk_0 ⟨fun c10 => ?_, fun c10 => ?_⟩)
              ·
                refine x_iconst (v := 0) rfl ki_0 ?_
                refine x_zret rfl rfl (by decide) ?_
                show jX m_X12_groundAt 2 0 0 95 [(0, .ref 125)] [.int 0] _ 0 0 _
                refine x_ifeq (tgt := 102) rfl rfl (ti_eq jk_0 jk_0 (br_t (by omega) ?_))
                refine x_iconst (v := (-1)) rfl ki_m1 ?_
                exact jX.sub jsb_n (ct_X12_groundAt_r125_100103 hD hQ  h J Sm)
              ·
                refine x_iconst (v := 1) rfl ki_1 ?_
                refine x_goto (tgt := 22) rfl rfl ?_
                refine x_zret rfl rfl (by decide) ?_
                show jX m_X12_groundAt 2 0 0 95 [(0, .ref 125)] [.int 1] _ 0 0 _
                refine x_ifeq (tgt := 102) rfl rfl (ti_eq jk_1 jk_0 (br_f (by omega) ?_))
                refine x_iconst (v := 5) rfl ki_5 ?_
                refine x_goto (tgt := 103) rfl rfl ?_
                exact jX.sub jsb_n (ct_X12_groundAt_r125_700103 hD hQ  h J Sm)
          ·
            refine x_aloadn (x := 125) rfl rfl ?_
            refine z_getL0 (N := 92) 12 12 rfl f_12_224 rfl J rfl (fun v11 => ?_)
            have ev11 := jfullL v11
            refine x_lloadn (x := 23716) rfl rfl ?_
            refine z_lcmp rfl rfl jkl_23716 (fun v12 ev12 => ?_)
            refine x_ifne (tgt := 21) rfl rfl (ti_ne rfl jk_0 ⟨fun c13 => ?_, fun c13 => ?_⟩)
            ·
              refine x_iconst (v := 0) rfl ki_0 ?_
              refine x_zret rfl rfl (by decide) ?_
              show jX m_X12_groundAt 2 0 0 81 [(0, .ref 125)] [.int 0] _ 0 0 _
              refine x_ifeq (tgt := 88) rfl rfl (ti_eq jk_0 jk_0 (br_t (by omega) ?_))
              refine x_aloadn (x := 125) rfl rfl ?_
              refine x_ldc2 (v := 17232476819) rfl z_12_595 ?_
              refine x_inv (N := m_X12_isWord) (As := [.long 17232476819]) (b := 125) (st := []) (dx9 := 1) (mc := 0) (ms := 0) (host := "") 12 rfl t_X12_isWord ⟨Or.inl q_12_511, i_X12_isWord.1, i_X12_isWord.2⟩ ⟨by decide, rfl⟩ (congrArg Prod.fst (J.1.1 125 (12, 92) rfl)) rfl (by decide) rfl rfl ⟨by decide, by decide⟩ (jC.of rfl k_X12_isWord rfl ?_)
              show jX m_X12_isWord 1 0 0 0 [(0, .ref 125), (1, .long 17232476819)] [] _ 0 0 _
              refine x_aloadn (x := 125) rfl rfl ?_
              refine z_getM (N := 92) (v := v1) 12 11 rfl f_12_235 rfl J rfl qv1 ?_
              refine x_iconst (v := 1) rfl ki_1 ?_
              refine x_icne (tgt := 21) rfl rfl (ti_ne rfl jk_1 (bn_f (by omega) ?_))
              refine x_aloadn (x := 125) rfl rfl ?_
              refine z_getL0 (N := 92) 12 12 rfl f_12_224 rfl J rfl (fun v14 => ?_)
              have ev14 := jfullL v14
              refine x_lloadn (x := 17232476819) rfl rfl ?_
              refine z_lcmp rfl rfl jkl_17232476819 (fun v15 ev15 => ?_)
              refine x_ifne (tgt := 21) rfl rfl (ti_ne rfl jk_0 ⟨fun c16 => ?_, fun c16 => ?_⟩)
              ·
                refine x_iconst (v := 0) rfl ki_0 ?_
                refine x_zret rfl rfl (by decide) ?_
                show jX m_X12_groundAt 2 0 0 95 [(0, .ref 125)] [.int 0] _ 0 0 _
                refine x_ifeq (tgt := 102) rfl rfl (ti_eq jk_0 jk_0 (br_t (by omega) ?_))
                refine x_iconst (v := (-1)) rfl ki_m1 ?_
                exact jX.sub jsb_n (ct_X12_groundAt_r125_100103 hD hQ  h J Sm)
              ·
                refine x_iconst (v := 1) rfl ki_1 ?_
                refine x_goto (tgt := 22) rfl rfl ?_
                refine x_zret rfl rfl (by decide) ?_
                show jX m_X12_groundAt 2 0 0 95 [(0, .ref 125)] [.int 1] _ 0 0 _
                refine x_ifeq (tgt := 102) rfl rfl (ti_eq jk_1 jk_0 (br_f (by omega) ?_))
                refine x_iconst (v := 5) rfl ki_5 ?_
                refine x_goto (tgt := 103) rfl rfl ?_
                exact jX.sub jsb_n (ct_X12_groundAt_r125_700103 hD hQ  h J Sm)
            ·
              refine x_iconst (v := 1) rfl ki_1 ?_
              refine x_goto (tgt := 22) rfl rfl ?_
              refine x_zret rfl rfl (by decide) ?_
              show jX m_X12_groundAt 2 0 0 81 [(0, .ref 125)] [.int 1] _ 0 0 _
              refine x_ifeq (tgt := 88) rfl rfl (ti_eq jk_1 jk_0 (br_f (by omega) ?_))
              refine x_iconst (v := 4) rfl ki_4 ?_
              refine x_goto (tgt := 103) rfl rfl ?_
              exact jX.sub jsb_n (ct_X12_groundAt_r125_600103 hD hQ  h J Sm)
        ·
          refine x_aloadn (x := 125) rfl rfl ?_
          refine z_getL0 (N := 92) 12 12 rfl f_12_224 rfl J rfl (fun v17 => ?_)
          have ev17 := jfullL v17
          refine x_lloadn (x := 509813861) rfl rfl ?_
          refine z_lcmp rfl rfl jkl_509813861 (fun v18 ev18 => ?_)
          refine x_ifne (tgt := 21) rfl rfl (ti_ne rfl jk_0 ⟨fun c19 => ?_, fun c19 => ?_⟩)
          ·
            refine x_iconst (v := 0) rfl ki_0 ?_
            refine x_zret rfl rfl (by decide) ?_
            show jX m_X12_groundAt 2 0 0 67 [(0, .ref 125)] [.int 0] _ 0 0 _
            refine x_ifeq (tgt := 74) rfl rfl (ti_eq jk_0 jk_0 (br_t (by omega) ?_))
            refine x_aloadn (x := 125) rfl rfl ?_
            refine x_ldc2 (v := 23716) rfl z_12_593 ?_
            refine x_inv (N := m_X12_isWord) (As := [.long 23716]) (b := 125) (st := []) (dx9 := 1) (mc := 0) (ms := 0) (host := "") 12 rfl t_X12_isWord ⟨Or.inl q_12_511, i_X12_isWord.1, i_X12_isWord.2⟩ ⟨by decide, rfl⟩ (congrArg Prod.fst (J.1.1 125 (12, 92) rfl)) rfl (by decide) rfl rfl ⟨by decide, by decide⟩ (jC.of rfl k_X12_isWord rfl ?_)
            show jX m_X12_isWord 1 0 0 0 [(0, .ref 125), (1, .long 23716)] [] _ 0 0 _
            refine x_aloadn (x := 125) rfl rfl ?_
            refine z_getM (N := 92) (v := v1) 12 11 rfl f_12_235 rfl J rfl qv1 ?_
            refine x_iconst (v := 1) rfl ki_1 ?_
            refine x_icne (tgt := 21) rfl rfl (ti_ne rfl jk_1 (bn_f (by omega) ?_))
            refine x_aloadn (x := 125) rfl rfl ?_
            refine z_getL0 (N := 92) 12 12 rfl f_12_224 rfl J rfl (fun v20 => ?_)
            have ev20 := jfullL v20
            refine x_lloadn (x := 23716) rfl rfl ?_
            refine z_lcmp rfl rfl jkl_23716 (fun v21 ev21 => ?_)
            refine x_ifne (tgt := 21) rfl rfl (ti_ne rfl jk_0 ⟨fun c22 => ?_, fun c22 => ?_⟩)
            ·
              refine x_iconst (v := 0) rfl ki_0 ?_
              refine x_zret rfl rfl (by decide) ?_
              show jX m_X12_groundAt 2 0 0 81 [(0, .ref 125)] [.int 0] _ 0 0 _
              refine x_ifeq (tgt := 88) rfl rfl (ti_eq jk_0 jk_0 (br_t (by omega) ?_))
              refine x_aloadn (x := 125) rfl rfl ?_
              refine x_ldc2 (v := 17232476819) rfl z_12_595 ?_
              refine x_inv (N := m_X12_isWord) (As := [.long 17232476819]) (b := 125) (st := []) (dx9 := 1) (mc := 0) (ms := 0) (host := "") 12 rfl t_X12_isWord ⟨Or.inl q_12_511, i_X12_isWord.1, i_X12_isWord.2⟩ ⟨by decide, rfl⟩ (congrArg Prod.fst (J.1.1 125 (12, 92) rfl)) rfl (by decide) rfl rfl ⟨by decide, by decide⟩ (jC.of rfl k_X12_isWord rfl ?_)
              show jX m_X12_isWord 1 0 0 0 [(0, .ref 125), (1, .long 17232476819)] [] _ 0 0 _
              refine x_aloadn (x := 125) rfl rfl ?_
              refine z_getM (N := 92) (v := v1) 12 11 rfl f_12_235 rfl J rfl qv1 ?_
              refine x_iconst (v := 1) rfl ki_1 ?_
              refine x_icne (tgt := 21) rfl rfl (ti_ne rfl jk_1 (bn_f (by omega) ?_))
              refine x_aloadn (x := 125) rfl rfl ?_
              refine z_getL0 (N := 92) 12 12 rfl f_12_224 rfl J rfl (fun v23 => ?_)
              have ev23 := jfullL v23
              refine x_lloadn (x := 17232476819) rfl rfl ?_
              refine z_lcmp rfl rfl jkl_17232476819 (fun v24 ev24 => ?_)
              refine x_ifne (tgt := 21) rfl rfl (ti_ne rfl jk_0 ⟨fun c25 => ?_, fun c25 => ?_⟩)
              ·
                refine x_iconst (v := 0) rfl ki_0 ?_
                refine x_zret rfl rfl (by decide) ?_
                show jX m_X12_groundAt 2 0 0 95 [(0, .ref 125)] [.int 0] _ 0 0 _
                refine x_ifeq (tgt := 102) rfl rfl (ti_eq jk_0 jk_0 (br_t (by omega) ?_))
                refine x_iconst (v := (-1)) rfl ki_m1 ?_
                exact jX.sub jsb_n (ct_X12_groundAt_r125_100103 hD hQ  h J Sm)
              ·
                refine x_iconst (v := 1) rfl ki_1 ?_
                refine x_goto (tgt := 22) rfl rfl ?_
                refine x_zret rfl rfl (by decide) ?_
                show jX m_X12_groundAt 2 0 0 95 [(0, .ref 125)] [.int 1] _ 0 0 _
                refine x_ifeq (tgt := 102) rfl rfl (ti_eq jk_1 jk_0 (br_f (by omega) ?_))
                refine x_iconst (v := 5) rfl ki_5 ?_
                refine x_goto (tgt := 103) rfl rfl ?_
                exact jX.sub jsb_n (ct_X12_groundAt_r125_700103 hD hQ  h J Sm)
            ·
              refine x_iconst (v := 1) rfl ki_1 ?_
              refine x_goto (tgt := 22) rfl rfl ?_
              refine x_zret rfl rfl (by decide) ?_
              show jX m_X12_groundAt 2 0 0 81 [(0, .ref 125)] [.int 1] _ 0 0 _
              refine x_ifeq (tgt := 88) rfl rfl (ti_eq jk_1 jk_0 (br_f (by omega) ?_))
              refine x_iconst (v := 4) rfl ki_4 ?_
              refine x_goto (tgt := 103) rfl rfl ?_
              exact jX.sub jsb_n (ct_X12_groundAt_r125_600103 hD hQ  h J Sm)
          ·
            refine x_iconst (v := 1) rfl ki_1 ?_
            refine x_goto (tgt := 22) rfl rfl ?_
            refine x_zret rfl rfl (by decide) ?_
            show jX m_X12_groundAt 2 0 0 67 [(0, .ref 125)] [.int 1] _ 0 0 _
            refine x_ifeq (tgt := 74) rfl rfl (ti_eq jk_1 jk_0 (br_f (by omega) ?_))
            refine x_iconst (v := 3) rfl ki_3 ?_
            refine x_goto (tgt := 103) rfl rfl ?_
            exact jX.sub jsb_n (ct_X12_groundAt_r125_500103 hD hQ  h J Sm)
      ·
        refine x_aloadn (x := 125) rfl rfl ?_
        refine z_getL0 (N := 92) 12 12 rfl f_12_224 rfl J rfl (fun v26 => ?_)
        have ev26 := jfullL v26
        refine x_lloadn (x := 595412) rfl rfl ?_
        refine z_lcmp rfl rfl jkl_595412 (fun v27 ev27 => ?_)
        refine x_ifne (tgt := 21) rfl rfl (ti_ne rfl jk_0 ⟨fun c28 => ?_, fun c28 => ?_⟩)
        ·
          refine x_iconst (v := 0) rfl ki_0 ?_
          refine x_zret rfl rfl (by decide) ?_
          show jX m_X12_groundAt 2 0 0 27 [(0, .ref 125)] [.int 0] _ 0 0 _
          refine x_ifeq (tgt := 60) rfl rfl (ti_eq jk_0 jk_0 (br_t (by omega) ?_))
          refine x_aloadn (x := 125) rfl rfl ?_
          refine x_ldc2 (v := 509813861) rfl z_12_591 ?_
          refine x_inv (N := m_X12_isWord) (As := [.long 509813861]) (b := 125) (st := []) (dx9 := 1) (mc := 0) (ms := 0) (host := "") 12 rfl t_X12_isWord ⟨Or.inl q_12_511, i_X12_isWord.1, i_X12_isWord.2⟩ ⟨by decide, rfl⟩ (congrArg Prod.fst (J.1.1 125 (12, 92) rfl)) rfl (by decide) rfl rfl ⟨by decide, by decide⟩ (jC.of rfl k_X12_isWord rfl ?_)
          show jX m_X12_isWord 1 0 0 0 [(0, .ref 125), (1, .long 509813861)] [] _ 0 0 _
          refine x_aloadn (x := 125) rfl rfl ?_
          refine z_getM (N := 92) (v := v1) 12 11 rfl f_12_235 rfl J rfl qv1 ?_
          refine x_iconst (v := 1) rfl ki_1 ?_
          refine x_icne (tgt := 21) rfl rfl (ti_ne rfl jk_1 (bn_f (by omega) ?_))
          refine x_aloadn (x := 125) rfl rfl ?_
          refine z_getL0 (N := 92) 12 12 rfl f_12_224 rfl J rfl (fun v29 => ?_)
          have ev29 := jfullL v29
          refine x_lloadn (x := 509813861) rfl rfl ?_
          refine z_lcmp rfl rfl jkl_509813861 (fun v30 ev30 => ?_)
          refine x_ifne (tgt := 21) rfl rfl (ti_ne rfl jk_0 ⟨fun c31 => ?_, fun c31 => ?_⟩)
          ·
            refine x_iconst (v := 0) rfl ki_0 ?_
            refine x_zret rfl rfl (by decide) ?_
            show jX m_X12_groundAt 2 0 0 67 [(0, .ref 125)] [.int 0] _ 0 0 _
            refine x_ifeq (tgt := 74) rfl rfl (ti_eq jk_0 jk_0 (br_t (by omega) ?_))
            refine x_aloadn (x := 125) rfl rfl ?_
            refine x_ldc2 (v := 23716) rfl z_12_593 ?_
            refine x_inv (N := m_X12_isWord) (As := [.long 23716]) (b := 125) (st := []) (dx9 := 1) (mc := 0) (ms := 0) (host := "") 12 rfl t_X12_isWord ⟨Or.inl q_12_511, i_X12_isWord.1, i_X12_isWord.2⟩ ⟨by decide, rfl⟩ (congrArg Prod.fst (J.1.1 125 (12, 92) rfl)) rfl (by decide) rfl rfl ⟨by decide, by decide⟩ (jC.of rfl k_X12_isWord rfl ?_)
            show jX m_X12_isWord 1 0 0 0 [(0, .ref 125), (1, .long 23716)] [] _ 0 0 _
            refine x_aloadn (x := 125) rfl rfl ?_
            refine z_getM (N := 92) (v := v1) 12 11 rfl f_12_235 rfl J rfl qv1 ?_
            refine x_iconst (v := 1) rfl ki_1 ?_
            refine x_icne (tgt := 21) rfl rfl (ti_ne rfl jk_1 (bn_f (by omega) ?_))
            refine x_aloadn (x := 125) rfl rfl ?_
            refine z_getL0 (N := 92) 12 12 rfl f_12_224 rfl J rfl (fun v32 => ?_)
            have ev32 := jfullL v32
            refine x_lloadn (x := 23716) rfl rfl ?_
            refine z_lcmp rfl rfl jkl_23716 (fun v33 ev33 => ?_)
            refine x_ifne (tgt := 21) rfl rfl (ti_ne rfl jk_0 ⟨fun c34 => ?_, fun c34 => ?_⟩)
            ·
              refine x_iconst (v := 0) rfl ki_0 ?_
              refine x_zret rfl rfl (by decide) ?_
              show jX m_X12_groundAt 2 0 0 81 [(0, .ref 125)] [.int 0] _ 0 0 _
              refine x_ifeq (tgt := 88) rfl rfl (ti_eq jk_0 jk_0 (br_t (by omega) ?_))
              refine x_aloadn (x := 125) rfl rfl ?_
              refine x_ldc2 (v := 17232476819) rfl z_12_595 ?_
              refine x_inv (N := m_X12_isWord) (As := [.long 17232476819]) (b := 125) (st := []) (dx9 := 1) (mc := 0) (ms := 0) (host := "") 12 rfl t_X12_isWord ⟨Or.inl q_12_511, i_X12_isWord.1, i_X12_isWord.2⟩ ⟨by decide, rfl⟩ (congrArg Prod.fst (J.1.1 125 (12, 92) rfl)) rfl (by decide) rfl rfl ⟨by decide, by decide⟩ (jC.of rfl k_X12_isWord rfl ?_)
              show jX m_X12_isWord 1 0 0 0 [(0, .ref 125), (1, .long 17232476819)] [] _ 0 0 _
              refine x_aloadn (x := 125) rfl rfl ?_
              refine z_getM (N := 92) (v := v1) 12 11 rfl f_12_235 rfl J rfl qv1 ?_
              refine x_iconst (v := 1) rfl ki_1 ?_
              refine x_icne (tgt := 21) rfl rfl (ti_ne rfl jk_1 (bn_f (by omega) ?_))
              refine x_aloadn (x := 125) rfl rfl ?_
              refine z_getL0 (N := 92) 12 12 rfl f_12_224 rfl J rfl (fun v35 => ?_)
              have ev35 := jfullL v35
              refine x_lloadn (x := 17232476819) rfl rfl ?_
              refine z_lcmp rfl rfl jkl_17232476819 (fun v36 ev36 => ?_)
              refine x_ifne (tgt := 21) rfl rfl (ti_ne rfl jk_0 ⟨fun c37 => ?_, fun c37 => ?_⟩)
              ·
                refine x_iconst (v := 0) rfl ki_0 ?_
                refine x_zret rfl rfl (by decide) ?_
                show jX m_X12_groundAt 2 0 0 95 [(0, .ref 125)] [.int 0] _ 0 0 _
                refine x_ifeq (tgt := 102) rfl rfl (ti_eq jk_0 jk_0 (br_t (by omega) ?_))
                refine x_iconst (v := (-1)) rfl ki_m1 ?_
                exact jX.sub jsb_n (ct_X12_groundAt_r125_100103 hD hQ  h J Sm)
              ·
                refine x_iconst (v := 1) rfl ki_1 ?_
                refine x_goto (tgt := 22) rfl rfl ?_
                refine x_zret rfl rfl (by decide) ?_
                show jX m_X12_groundAt 2 0 0 95 [(0, .ref 125)] [.int 1] _ 0 0 _
                refine x_ifeq (tgt := 102) rfl rfl (ti_eq jk_1 jk_0 (br_f (by omega) ?_))
                refine x_iconst (v := 5) rfl ki_5 ?_
                refine x_goto (tgt := 103) rfl rfl ?_
                exact jX.sub jsb_n (ct_X12_groundAt_r125_700103 hD hQ  h J Sm)
            ·
              refine x_iconst (v := 1) rfl ki_1 ?_
              refine x_goto (tgt := 22) rfl rfl ?_
              refine x_zret rfl rfl (by decide) ?_
              show jX m_X12_groundAt 2 0 0 81 [(0, .ref 125)] [.int 1] _ 0 0 _
              refine x_ifeq (tgt := 88) rfl rfl (ti_eq jk_1 jk_0 (br_f (by omega) ?_))
              refine x_iconst (v := 4) rfl ki_4 ?_
              refine x_goto (tgt := 103) rfl rfl ?_
              exact jX.sub jsb_n (ct_X12_groundAt_r125_600103 hD hQ  h J Sm)
          ·
            refine x_iconst (v := 1) rfl ki_1 ?_
            refine x_goto (tgt := 22) rfl rfl ?_
            refine x_zret rfl rfl (by decide) ?_
            show jX m_X12_groundAt 2 0 0 67 [(0, .ref 125)] [.int 1] _ 0 0 _
            refine x_ifeq (tgt := 74) rfl rfl (ti_eq jk_1 jk_0 (br_f (by omega) ?_))
            refine x_iconst (v := 3) rfl ki_3 ?_
            refine x_goto (tgt := 103) rfl rfl ?_
            exact jX.sub jsb_n (ct_X12_groundAt_r125_500103 hD hQ  h J Sm)
        ·
          refine x_iconst (v := 1) rfl ki_1 ?_
          refine x_goto (tgt := 22) rfl rfl ?_
          refine x_zret rfl rfl (by decide) ?_
          show jX m_X12_groundAt 2 0 0 27 [(0, .ref 125)] [.int 1] _ 0 0 _
          refine x_ifeq (tgt := 60) rfl rfl (ti_eq jk_1 jk_0 (br_f (by omega) ?_))
          exact jX.sub (jsb_c rfl jsb_n) (ct_X12_groundAt_r125_30 hD hQ  v1 h (jr_of rfl (by omega)) qv1 J Sm)
    ·
      refine x_aloadn (x := 125) rfl rfl ?_
      refine z_getL0 (N := 92) 12 12 rfl f_12_224 rfl J rfl (fun v38 => ?_)
      have ev38 := jfullL v38
      refine x_lloadn (x := 271941) rfl rfl ?_
      refine z_lcmp rfl rfl jkl_271941 (fun v39 ev39 => ?_)
      refine x_ifne (tgt := 21) rfl rfl (ti_ne rfl jk_0 ⟨fun c40 => ?_, fun c40 => ?_⟩)
      ·
        refine x_iconst (v := 0) rfl ki_0 ?_
        refine x_zret rfl rfl (by decide) ?_
        show jX m_X12_groundAt 2 0 0 17 [(0, .ref 125)] [.int 0] _ 0 0 _
        refine x_ifne (tgt := 30) rfl rfl (ti_ne jk_0 jk_0 (bn_f (by omega) ?_))
        refine x_aloadn (x := 125) rfl rfl ?_
        refine x_ldc2 (v := 595412) rfl z_12_589 ?_
        refine x_inv (N := m_X12_isWord) (As := [.long 595412]) (b := 125) (st := []) (dx9 := 1) (mc := 0) (ms := 0) (host := "") 12 rfl t_X12_isWord ⟨Or.inl q_12_511, i_X12_isWord.1, i_X12_isWord.2⟩ ⟨by decide, rfl⟩ (congrArg Prod.fst (J.1.1 125 (12, 92) rfl)) rfl (by decide) rfl rfl ⟨by decide, by decide⟩ (jC.of rfl k_X12_isWord rfl ?_)
        show jX m_X12_isWord 1 0 0 0 [(0, .ref 125), (1, .long 595412)] [] _ 0 0 _
        refine x_aloadn (x := 125) rfl rfl ?_
        refine z_getM (N := 92) (v := v1) 12 11 rfl f_12_235 rfl J rfl qv1 ?_
        refine x_iconst (v := 1) rfl ki_1 ?_
        refine x_icne (tgt := 21) rfl rfl (ti_ne rfl jk_1 (bn_f (by omega) ?_))
        refine x_aloadn (x := 125) rfl rfl ?_
        refine z_getL0 (N := 92) 12 12 rfl f_12_224 rfl J rfl (fun v41 => ?_)
        have ev41 := jfullL v41
        refine x_lloadn (x := 595412) rfl rfl ?_
        refine z_lcmp rfl rfl jkl_595412 (fun v42 ev42 => ?_)
        refine x_ifne (tgt := 21) rfl rfl (ti_ne rfl jk_0 ⟨fun c43 => ?_, fun c43 => ?_⟩)
        ·
          refine x_iconst (v := 0) rfl ki_0 ?_
          refine x_zret rfl rfl (by decide) ?_
          show jX m_X12_groundAt 2 0 0 27 [(0, .ref 125)] [.int 0] _ 0 0 _
          refine x_ifeq (tgt := 60) rfl rfl (ti_eq jk_0 jk_0 (br_t (by omega) ?_))
          refine x_aloadn (x := 125) rfl rfl ?_
          refine x_ldc2 (v := 509813861) rfl z_12_591 ?_
          refine x_inv (N := m_X12_isWord) (As := [.long 509813861]) (b := 125) (st := []) (dx9 := 1) (mc := 0) (ms := 0) (host := "") 12 rfl t_X12_isWord ⟨Or.inl q_12_511, i_X12_isWord.1, i_X12_isWord.2⟩ ⟨by decide, rfl⟩ (congrArg Prod.fst (J.1.1 125 (12, 92) rfl)) rfl (by decide) rfl rfl ⟨by decide, by decide⟩ (jC.of rfl k_X12_isWord rfl ?_)
          show jX m_X12_isWord 1 0 0 0 [(0, .ref 125), (1, .long 509813861)] [] _ 0 0 _
          refine x_aloadn (x := 125) rfl rfl ?_
          refine z_getM (N := 92) (v := v1) 12 11 rfl f_12_235 rfl J rfl qv1 ?_
          refine x_iconst (v := 1) rfl ki_1 ?_
          refine x_icne (tgt := 21) rfl rfl (ti_ne rfl jk_1 (bn_f (by omega) ?_))
          refine x_aloadn (x := 125) rfl rfl ?_
          refine z_getL0 (N := 92) 12 12 rfl f_12_224 rfl J rfl (fun v44 => ?_)
          have ev44 := jfullL v44
          refine x_lloadn (x := 509813861) rfl rfl ?_
          refine z_lcmp rfl rfl jkl_509813861 (fun v45 ev45 => ?_)
          refine x_ifne (tgt := 21) rfl rfl (ti_ne rfl jk_0 ⟨fun c46 => ?_, fun c46 => ?_⟩)
          ·
            refine x_iconst (v := 0) rfl ki_0 ?_
            refine x_zret rfl rfl (by decide) ?_
            show jX m_X12_groundAt 2 0 0 67 [(0, .ref 125)] [.int 0] _ 0 0 _
            refine x_ifeq (tgt := 74) rfl rfl (ti_eq jk_0 jk_0 (br_t (by omega) ?_))
            refine x_aloadn (x := 125) rfl rfl ?_
            refine x_ldc2 (v := 23716) rfl z_12_593 ?_
            refine x_inv (N := m_X12_isWord) (As := [.long 23716]) (b := 125) (st := []) (dx9 := 1) (mc := 0) (ms := 0) (host := "") 12 rfl t_X12_isWord ⟨Or.inl q_12_511, i_X12_isWord.1, i_X12_isWord.2⟩ ⟨by decide, rfl⟩ (congrArg Prod.fst (J.1.1 125 (12, 92) rfl)) rfl (by decide) rfl rfl ⟨by decide, by decide⟩ (jC.of rfl k_X12_isWord rfl ?_)
            show jX m_X12_isWord 1 0 0 0 [(0, .ref 125), (1, .long 23716)] [] _ 0 0 _
            refine x_aloadn (x := 125) rfl rfl ?_
            refine z_getM (N := 92) (v := v1) 12 11 rfl f_12_235 rfl J rfl qv1 ?_
            refine x_iconst (v := 1) rfl ki_1 ?_
            refine x_icne (tgt := 21) rfl rfl (ti_ne rfl jk_1 (bn_f (by omega) ?_))
            refine x_aloadn (x := 125) rfl rfl ?_
            refine z_getL0 (N := 92) 12 12 rfl f_12_224 rfl J rfl (fun v47 => ?_)
            have ev47 := jfullL v47
            refine x_lloadn (x := 23716) rfl rfl ?_
            refine z_lcmp rfl rfl jkl_23716 (fun v48 ev48 => ?_)
            refine x_ifne (tgt := 21) rfl rfl (ti_ne rfl jk_0 ⟨fun c49 => ?_, fun c49 => ?_⟩)
            ·
              refine x_iconst (v := 0) rfl ki_0 ?_
              refine x_zret rfl rfl (by decide) ?_
              show jX m_X12_groundAt 2 0 0 81 [(0, .ref 125)] [.int 0] _ 0 0 _
              refine x_ifeq (tgt := 88) rfl rfl (ti_eq jk_0 jk_0 (br_t (by omega) ?_))
              refine x_aloadn (x := 125) rfl rfl ?_
              refine x_ldc2 (v := 17232476819) rfl z_12_595 ?_
              refine x_inv (N := m_X12_isWord) (As := [.long 17232476819]) (b := 125) (st := []) (dx9 := 1) (mc := 0) (ms := 0) (host := "") 12 rfl t_X12_isWord ⟨Or.inl q_12_511, i_X12_isWord.1, i_X12_isWord.2⟩ ⟨by decide, rfl⟩ (congrArg Prod.fst (J.1.1 125 (12, 92) rfl)) rfl (by decide) rfl rfl ⟨by decide, by decide⟩ (jC.of rfl k_X12_isWord rfl ?_)
              show jX m_X12_isWord 1 0 0 0 [(0, .ref 125), (1, .long 17232476819)] [] _ 0 0 _
              refine x_aloadn (x := 125) rfl rfl ?_
              refine z_getM (N := 92) (v := v1) 12 11 rfl f_12_235 rfl J rfl qv1 ?_
              refine x_iconst (v := 1) rfl ki_1 ?_
              refine x_icne (tgt := 21) rfl rfl (ti_ne rfl jk_1 (bn_f (by omega) ?_))
              refine x_aloadn (x := 125) rfl rfl ?_
              refine z_getL0 (N := 92) 12 12 rfl f_12_224 rfl J rfl (fun v50 => ?_)
              have ev50 := jfullL v50
              refine x_lloadn (x := 17232476819) rfl rfl ?_
              refine z_lcmp rfl rfl jkl_17232476819 (fun v51 ev51 => ?_)
              refine x_ifne (tgt := 21) rfl rfl (ti_ne rfl jk_0 ⟨fun c52 => ?_, fun c52 => ?_⟩)
              ·
                refine x_iconst (v := 0) rfl ki_0 ?_
                refine x_zret rfl rfl (by decide) ?_
                show jX m_X12_groundAt 2 0 0 95 [(0, .ref 125)] [.int 0] _ 0 0 _
                refine x_ifeq (tgt := 102) rfl rfl (ti_eq jk_0 jk_0 (br_t (by omega) ?_))
                refine x_iconst (v := (-1)) rfl ki_m1 ?_
                exact jX.sub jsb_n (ct_X12_groundAt_r125_100103 hD hQ  h J Sm)
              ·
                refine x_iconst (v := 1) rfl ki_1 ?_
                refine x_goto (tgt := 22) rfl rfl ?_
                refine x_zret rfl rfl (by decide) ?_
                show jX m_X12_groundAt 2 0 0 95 [(0, .ref 125)] [.int 1] _ 0 0 _
                refine x_ifeq (tgt := 102) rfl rfl (ti_eq jk_1 jk_0 (br_f (by omega) ?_))
                refine x_iconst (v := 5) rfl ki_5 ?_
                refine x_goto (tgt := 103) rfl rfl ?_
                exact jX.sub jsb_n (ct_X12_groundAt_r125_700103 hD hQ  h J Sm)
            ·
              refine x_iconst (v := 1) rfl ki_1 ?_
              refine x_goto (tgt := 22) rfl rfl ?_
              refine x_zret rfl rfl (by decide) ?_
              show jX m_X12_groundAt 2 0 0 81 [(0, .ref 125)] [.int 1] _ 0 0 _
              refine x_ifeq (tgt := 88) rfl rfl (ti_eq jk_1 jk_0 (br_f (by omega) ?_))
              refine x_iconst (v := 4) rfl ki_4 ?_
              refine x_goto (tgt := 103) rfl rfl ?_
              exact jX.sub jsb_n (ct_X12_groundAt_r125_600103 hD hQ  h J Sm)
          ·
            refine x_iconst (v := 1) rfl ki_1 ?_
            refine x_goto (tgt := 22) rfl rfl ?_
            refine x_zret rfl rfl (by decide) ?_
            show jX m_X12_groundAt 2 0 0 67 [(0, .ref 125)] [.int 1] _ 0 0 _
            refine x_ifeq (tgt := 74) rfl rfl (ti_eq jk_1 jk_0 (br_f (by omega) ?_))
            refine x_iconst (v := 3) rfl ki_3 ?_
            refine x_goto (tgt := 103) rfl rfl ?_
            exact jX.sub jsb_n (ct_X12_groundAt_r125_500103 hD hQ  h J Sm)
        ·
          refine x_iconst (v := 1) rfl ki_1 ?_
          refine x_goto (tgt := 22) rfl rfl ?_
          refine x_zret rfl rfl (by decide) ?_
          show jX m_X12_groundAt 2 0 0 27 [(0, .ref 125)] [.int 1] _ 0 0 _
          refine x_ifeq (tgt := 60) rfl rfl (ti_eq jk_1 jk_0 (br_f (by omega) ?_))
          exact jX.sub (jsb_c rfl jsb_n) (ct_X12_groundAt_r125_30 hD hQ  v1 h (jr_of rfl (by omega)) qv1 J Sm)
      ·
        refine x_iconst (v := 1) rfl ki_1 ?_
        refine x_goto (tgt := 22) rfl rfl ?_
        refine x_zret rfl rfl (by decide) ?_
        show jX m_X12_groundAt 2 0 0 17 [(0, .ref 125)] [.int 1] _ 0 0 _
        refine x_ifne (tgt := 30) rfl rfl (ti_ne jk_1 jk_0 (bn_t (by omega) ?_))
        exact jX.sub (jsb_c rfl jsb_n) (ct_X12_groundAt_r125_30 hD hQ  v1 h (jr_of rfl (by omega)) qv1 J Sm)
  ·
    refine x_aloadn (x := 125) rfl rfl ?_
    refine z_getL0 (N := 92) 12 12 rfl f_12_224 rfl J rfl (fun v53 => ?_)
    have ev53 := jfullL v53
    refine x_lloadn (x := 2411144) rfl rfl ?_
    refine z_lcmp rfl rfl jkl_2411144 (fun v54 ev54 => ?_)
    refine x_ifne (tgt := 21) rfl rfl (ti_ne rfl jk_0 ⟨fun c55 => ?_, fun c55 => ?_⟩)
    ·
      refine x_iconst (v := 0) rfl ki_0 ?_
      refine x_zret rfl rfl (by decide) ?_
      show jX m_X12_groundAt 2 0 0 7 [(0, .ref 125)] [.int 0] _ 0 0 _
      refine x_ifne (tgt := 30) rfl rfl (ti_ne jk_0 jk_0 (bn_f (by omega) ?_))
      refine x_aloadn (x := 125) rfl rfl ?_
      refine x_ldc2 (v := 271941) rfl z_12_587 ?_
      refine x_inv (N := m_X12_isWord) (As := [.long 271941]) (b := 125) (st := []) (dx9 := 1) (mc := 0) (ms := 0) (host := "") 12 rfl t_X12_isWord ⟨Or.inl q_12_511, i_X12_isWord.1, i_X12_isWord.2⟩ ⟨by decide, rfl⟩ (congrArg Prod.fst (J.1.1 125 (12, 92) rfl)) rfl (by decide) rfl rfl ⟨by decide, by decide⟩ (jC.of rfl k_X12_isWord rfl ?_)
      show jX m_X12_isWord 1 0 0 0 [(0, .ref 125), (1, .long 271941)] [] _ 0 0 _
      refine x_aloadn (x := 125) rfl rfl ?_
      refine z_getM (N := 92) (v := v1) 12 11 rfl f_12_235 rfl J rfl qv1 ?_
      refine x_iconst (v := 1) rfl ki_1 ?_
      refine x_icne (tgt := 21) rfl rfl (ti_ne rfl jk_1 (bn_f (by omega) ?_))
      refine x_aloadn (x := 125) rfl rfl ?_
      refine z_getL0 (N := 92) 12 12 rfl f_12_224 rfl J rfl (fun v56 => ?_)
      have ev56 := jfullL v56
      refine x_lloadn (x := 271941) rfl rfl ?_
      refine z_lcmp rfl rfl jkl_271941 (fun v57 ev57 => ?_)
      refine x_ifne (tgt := 21) rfl rfl (ti_ne rfl jk_0 ⟨fun c58 => ?_, fun c58 => ?_⟩)
      ·
        refine x_iconst (v := 0) rfl ki_0 ?_
        refine x_zret rfl rfl (by decide) ?_
        show jX m_X12_groundAt 2 0 0 17 [(0, .ref 125)] [.int 0] _ 0 0 _
        refine x_ifne (tgt := 30) rfl rfl (ti_ne jk_0 jk_0 (bn_f (by omega) ?_))
        refine x_aloadn (x := 125) rfl rfl ?_
        refine x_ldc2 (v := 595412) rfl z_12_589 ?_
        refine x_inv (N := m_X12_isWord) (As := [.long 595412]) (b := 125) (st := []) (dx9 := 1) (mc := 0) (ms := 0) (host := "") 12 rfl t_X12_isWord ⟨Or.inl q_12_511, i_X12_isWord.1, i_X12_isWord.2⟩ ⟨by decide, rfl⟩ (congrArg Prod.fst (J.1.1 125 (12, 92) rfl)) rfl (by decide) rfl rfl ⟨by decide, by decide⟩ (jC.of rfl k_X12_isWord rfl ?_)
        show jX m_X12_isWord 1 0 0 0 [(0, .ref 125), (1, .long 595412)] [] _ 0 0 _
        refine x_aloadn (x := 125) rfl rfl ?_
        refine z_getM (N := 92) (v := v1) 12 11 rfl f_12_235 rfl J rfl qv1 ?_
        refine x_iconst (v := 1) rfl ki_1 ?_
        refine x_icne (tgt := 21) rfl rfl (ti_ne rfl jk_1 (bn_f (by omega) ?_))
        refine x_aloadn (x := 125) rfl rfl ?_
        refine z_getL0 (N := 92) 12 12 rfl f_12_224 rfl J rfl (fun v59 => ?_)
        have ev59 := jfullL v59
        refine x_lloadn (x := 595412) rfl rfl ?_
        refine z_lcmp rfl rfl jkl_595412 (fun v60 ev60 => ?_)
        refine x_ifne (tgt := 21) rfl rfl (ti_ne rfl jk_0 ⟨fun c61 => ?_, fun c61 => ?_⟩)
        ·
          refine x_iconst (v := 0) rfl ki_0 ?_
          refine x_zret rfl rfl (by decide) ?_
          show jX m_X12_groundAt 2 0 0 27 [(0, .ref 125)] [.int 0] _ 0 0 _
          refine x_ifeq (tgt := 60) rfl rfl (ti_eq jk_0 jk_0 (br_t (by omega) ?_))
          refine x_aloadn (x := 125) rfl rfl ?_
          refine x_ldc2 (v := 509813861) rfl z_12_591 ?_
          refine x_inv (N := m_X12_isWord) (As := [.long 509813861]) (b := 125) (st := []) (dx9 := 1) (mc := 0) (ms := 0) (host := "") 12 rfl t_X12_isWord ⟨Or.inl q_12_511, i_X12_isWord.1, i_X12_isWord.2⟩ ⟨by decide, rfl⟩ (congrArg Prod.fst (J.1.1 125 (12, 92) rfl)) rfl (by decide) rfl rfl ⟨by decide, by decide⟩ (jC.of rfl k_X12_isWord rfl ?_)
          show jX m_X12_isWord 1 0 0 0 [(0, .ref 125), (1, .long 509813861)] [] _ 0 0 _
          refine x_aloadn (x := 125) rfl rfl ?_
          refine z_getM (N := 92) (v := v1) 12 11 rfl f_12_235 rfl J rfl qv1 ?_
          refine x_iconst (v := 1) rfl ki_1 ?_
          refine x_icne (tgt := 21) rfl rfl (ti_ne rfl jk_1 (bn_f (by omega) ?_))
          refine x_aloadn (x := 125) rfl rfl ?_
          refine z_getL0 (N := 92) 12 12 rfl f_12_224 rfl J rfl (fun v62 => ?_)
          have ev62 := jfullL v62
          refine x_lloadn (x := 509813861) rfl rfl ?_
          refine z_lcmp rfl rfl jkl_509813861 (fun v63 ev63 => ?_)
          refine x_ifne (tgt := 21) rfl rfl (ti_ne rfl jk_0 ⟨fun c64 => ?_, fun c64 => ?_⟩)
          ·
            refine x_iconst (v := 0) rfl ki_0 ?_
            refine x_zret rfl rfl (by decide) ?_
            show jX m_X12_groundAt 2 0 0 67 [(0, .ref 125)] [.int 0] _ 0 0 _
            refine x_ifeq (tgt := 74) rfl rfl (ti_eq jk_0 jk_0 (br_t (by omega) ?_))
            refine x_aloadn (x := 125) rfl rfl ?_
            refine x_ldc2 (v := 23716) rfl z_12_593 ?_
            refine x_inv (N := m_X12_isWord) (As := [.long 23716]) (b := 125) (st := []) (dx9 := 1) (mc := 0) (ms := 0) (host := "") 12 rfl t_X12_isWord ⟨Or.inl q_12_511, i_X12_isWord.1, i_X12_isWord.2⟩ ⟨by decide, rfl⟩ (congrArg Prod.fst (J.1.1 125 (12, 92) rfl)) rfl (by decide) rfl rfl ⟨by decide, by decide⟩ (jC.of rfl k_X12_isWord rfl ?_)
            show jX m_X12_isWord 1 0 0 0 [(0, .ref 125), (1, .long 23716)] [] _ 0 0 _
            refine x_aloadn (x := 125) rfl rfl ?_
            refine z_getM (N := 92) (v := v1) 12 11 rfl f_12_235 rfl J rfl qv1 ?_
            refine x_iconst (v := 1) rfl ki_1 ?_
            refine x_icne (tgt := 21) rfl rfl (ti_ne rfl jk_1 (bn_f (by omega) ?_))
            refine x_aloadn (x := 125) rfl rfl ?_
            refine z_getL0 (N := 92) 12 12 rfl f_12_224 rfl J rfl (fun v65 => ?_)
            have ev65 := jfullL v65
            refine x_lloadn (x := 23716) rfl rfl ?_
            refine z_lcmp rfl rfl jkl_23716 (fun v66 ev66 => ?_)
            refine x_ifne (tgt := 21) rfl rfl (ti_ne rfl jk_0 ⟨fun c67 => ?_, fun c67 => ?_⟩)
            ·
              refine x_iconst (v := 0) rfl ki_0 ?_
              refine x_zret rfl rfl (by decide) ?_
              show jX m_X12_groundAt 2 0 0 81 [(0, .ref 125)] [.int 0] _ 0 0 _
              refine x_ifeq (tgt := 88) rfl rfl (ti_eq jk_0 jk_0 (br_t (by omega) ?_))
              refine x_aloadn (x := 125) rfl rfl ?_
              refine x_ldc2 (v := 17232476819) rfl z_12_595 ?_
              refine x_inv (N := m_X12_isWord) (As := [.long 17232476819]) (b := 125) (st := []) (dx9 := 1) (mc := 0) (ms := 0) (host := "") 12 rfl t_X12_isWord ⟨Or.inl q_12_511, i_X12_isWord.1, i_X12_isWord.2⟩ ⟨by decide, rfl⟩ (congrArg Prod.fst (J.1.1 125 (12, 92) rfl)) rfl (by decide) rfl rfl ⟨by decide, by decide⟩ (jC.of rfl k_X12_isWord rfl ?_)
              show jX m_X12_isWord 1 0 0 0 [(0, .ref 125), (1, .long 17232476819)] [] _ 0 0 _
              refine x_aloadn (x := 125) rfl rfl ?_
              refine z_getM (N := 92) (v := v1) 12 11 rfl f_12_235 rfl J rfl qv1 ?_
              refine x_iconst (v := 1) rfl ki_1 ?_
              refine x_icne (tgt := 21) rfl rfl (ti_ne rfl jk_1 (bn_f (by omega) ?_))
              refine x_aloadn (x := 125) rfl rfl ?_
              refine z_getL0 (N := 92) 12 12 rfl f_12_224 rfl J rfl (fun v68 => ?_)
              have ev68 := jfullL v68
              refine x_lloadn (x := 17232476819) rfl rfl ?_
              refine z_lcmp rfl rfl jkl_17232476819 (fun v69 ev69 => ?_)
              refine x_ifne (tgt := 21) rfl rfl (ti_ne rfl jk_0 ⟨fun c70 => ?_, fun c70 => ?_⟩)
              ·
                refine x_iconst (v := 0) rfl ki_0 ?_
                refine x_zret rfl rfl (by decide) ?_
                show jX m_X12_groundAt 2 0 0 95 [(0, .ref 125)] [.int 0] _ 0 0 _
                refine x_ifeq (tgt := 102) rfl rfl (ti_eq jk_0 jk_0 (br_t (by omega) ?_))
                refine x_iconst (v := (-1)) rfl ki_m1 ?_
                exact jX.sub jsb_n (ct_X12_groundAt_r125_100103 hD hQ  h J Sm)
              ·
                refine x_iconst (v := 1) rfl ki_1 ?_
                refine x_goto (tgt := 22) rfl rfl ?_
                refine x_zret rfl rfl (by decide) ?_
                show jX m_X12_groundAt 2 0 0 95 [(0, .ref 125)] [.int 1] _ 0 0 _
                refine x_ifeq (tgt := 102) rfl rfl (ti_eq jk_1 jk_0 (br_f (by omega) ?_))
                refine x_iconst (v := 5) rfl ki_5 ?_
                refine x_goto (tgt := 103) rfl rfl ?_
                exact jX.sub jsb_n (ct_X12_groundAt_r125_700103 hD hQ  h J Sm)
            ·
              refine x_iconst (v := 1) rfl ki_1 ?_
              refine x_goto (tgt := 22) rfl rfl ?_
              refine x_zret rfl rfl (by decide) ?_
              show jX m_X12_groundAt 2 0 0 81 [(0, .ref 125)] [.int 1] _ 0 0 _
              refine x_ifeq (tgt := 88) rfl rfl (ti_eq jk_1 jk_0 (br_f (by omega) ?_))
              refine x_iconst (v := 4) rfl ki_4 ?_
              refine x_goto (tgt := 103) rfl rfl ?_
              exact jX.sub jsb_n (ct_X12_groundAt_r125_600103 hD hQ  h J Sm)
          ·
            refine x_iconst (v := 1) rfl ki_1 ?_
            refine x_goto (tgt := 22) rfl rfl ?_
            refine x_zret rfl rfl (by decide) ?_
            show jX m_X12_groundAt 2 0 0 67 [(0, .ref 125)] [.int 1] _ 0 0 _
            refine x_ifeq (tgt := 74) rfl rfl (ti_eq jk_1 jk_0 (br_f (by omega) ?_))
            refine x_iconst (v := 3) rfl ki_3 ?_
            refine x_goto (tgt := 103) rfl rfl ?_
            exact jX.sub jsb_n (ct_X12_groundAt_r125_500103 hD hQ  h J Sm)
        ·
          refine x_iconst (v := 1) rfl ki_1 ?_
          refine x_goto (tgt := 22) rfl rfl ?_
          refine x_zret rfl rfl (by decide) ?_
          show jX m_X12_groundAt 2 0 0 27 [(0, .ref 125)] [.int 1] _ 0 0 _
          refine x_ifeq (tgt := 60) rfl rfl (ti_eq jk_1 jk_0 (br_f (by omega) ?_))
          exact jX.sub (jsb_c rfl jsb_n) (ct_X12_groundAt_r125_30 hD hQ  v1 h (jr_of rfl (by omega)) qv1 J Sm)
      ·
        refine x_iconst (v := 1) rfl ki_1 ?_
        refine x_goto (tgt := 22) rfl rfl ?_
        refine x_zret rfl rfl (by decide) ?_
        show jX m_X12_groundAt 2 0 0 17 [(0, .ref 125)] [.int 1] _ 0 0 _
        refine x_ifne (tgt := 30) rfl rfl (ti_ne jk_1 jk_0 (bn_t (by omega) ?_))
        exact jX.sub (jsb_c rfl jsb_n) (ct_X12_groundAt_r125_30 hD hQ  v1 h (jr_of rfl (by omega)) qv1 J Sm)
    ·
      refine x_iconst (v := 1) rfl ki_1 ?_
      refine x_goto (tgt := 22) rfl rfl ?_
      refine x_zret rfl rfl (by decide) ?_
      show jX m_X12_groundAt 2 0 0 7 [(0, .ref 125)] [.int 1] _ 0 0 _
      refine x_ifne (tgt := 30) rfl rfl (ti_ne jk_1 jk_0 (bn_t (by omega) ?_))
      exact jX.sub (jsb_c rfl jsb_n) (ct_X12_groundAt_r125_30 hD hQ  v1 h (jr_of rfl (by omega)) qv1 J Sm)
