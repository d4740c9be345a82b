def fp_X12_readPlain_r125d : jFp := [(125, 9, 10), (125, 10, 11), (125, 11, 12), (125, 12, 13), (125, 13, 14), (125, 14, 15), (125, 49, 50), (125, 52, 53), (125, 55, 56), (125, 56, 57), (148, 0, 400), (149, 0, 400), (150, 0, 400), (151, 0, 400)]
set_option maxRecDepth 100000 in
set_option maxHeartbeats 4000000 in
theorem ct_X12_readPlain_r125d_91 {Dy : jH → Prop} {h0 : jH} {Q : Option Value → jH → Prop} {dr : (Int × jW)} {A : Nat} (hA : jTu 0 h0 A 0) (hN : (jiv h0 125 14).toInt ≠ 0 ∨ jNsq h0) (hD : jDk Dy) (hQ : ∀ (v : Int32) hx9, 0 ≤ v.toInt ∧ v.toInt ≤ 3 → jJ jSgM Dy hx9 → jSm fp_X12_readPlain_r125d h0 hx9 → ∀ u0 u1 u2 : Int32, jiv hx9 125 10 = u0 → jiv hx9 125 8 = u1 → jiv hx9 125 9 = u2 → (u0.toInt ≤ u1.toInt ∧ u2.toInt ≤ u0.toInt) → ∀ u3 u4 u5 : Int32, jiv hx9 125 11 = u3 → jiv hx9 125 9 = u4 → jiv hx9 125 10 = u5 → (u3.toInt = 0 ∨ u4.toInt + 1 ≤ u5.toInt) → (jTn A v.toInt hx9 ∧ jFm 1 A h0 hx9) → dr.1 = v.toInt → dr.2 = vw hx9 → Q (some (.int v)) hx9) : ∀ (g0 : Int32) (g1 : Int32) (g2 : Int32) (g3 : Int32) (h : jH), 0 ≤ g0.toInt ∧ g0.toInt ≤ 400 → 0 ≤ g1.toInt ∧ g1.toInt ≤ 3 → 0 ≤ g2.toInt ∧ g2.toInt ≤ 400 → 0 ≤ g3.toInt ∧ g3.toInt ≤ 400 → (jTn A 2 h ∧ jFm 1 A h0 h) → (g0.toInt ≤ g2.toInt ∧ g3.toInt ≤ g0.toInt) → (g1.toInt = 0 ∨ g3.toInt + 1 ≤ g0.toInt) → jiv h 125 10 = g0 → jiv h 125 11 = g1 → jiv h 125 8 = g2 → jiv h 125 9 = g3 → jJ jSgM Dy h → jSm fp_X12_readPlain_r125d h0 h → d_X12_readPlain_r125d_91  (vw h) = dr → jX m_X12_readPlain 6 0 0 91 [] [] h 0 0 Q := by
  intro g0 g1 g2 g3 h y0 y1 y2 y3 C0 y5 y6 z0 z1 z2 z3  J Sm D
  unfold d_X12_readPlain_r125d_91 at D
  try rw [vrf z0] at D
  try rw [vrf z1] at D
  try rw [vrf z2] at D
  try rw [vrf z3] at D
  refine x_iconst (v := 2) rfl ki_2 ?_
  refine x_iret rfl rfl ?_
  exact hQ _ _ (jr_of jk_2 (by omega)) J Sm _ _ _ z0 z2 z3 (by omega) _ _ _ z1 z3 z0 (by omega) (by rw [jk_2]; exact C0) ((congrArg Prod.fst D).symm.trans (show 2 = (2 : Int32).toInt from by have := jk_2; omega)) (congrArg Prod.snd D).symm
set_option maxRecDepth 100000 in
set_option maxHeartbeats 4000000 in
theorem ct_X12_readPlain_r125d_200065 {Dy : jH → Prop} {h0 : jH} {Q : Option Value → jH → Prop} {dr : (Int × jW)} {A : Nat} (hA : jTu 0 h0 A 0) (hN : (jiv h0 125 14).toInt ≠ 0 ∨ jNsq h0) (hD : jDk Dy) (hQ : ∀ (v : Int32) hx9, 0 ≤ v.toInt ∧ v.toInt ≤ 3 → jJ jSgM Dy hx9 → jSm fp_X12_readPlain_r125d h0 hx9 → ∀ u0 u1 u2 : Int32, jiv hx9 125 10 = u0 → jiv hx9 125 8 = u1 → jiv hx9 125 9 = u2 → (u0.toInt ≤ u1.toInt ∧ u2.toInt ≤ u0.toInt) → ∀ u3 u4 u5 : Int32, jiv hx9 125 11 = u3 → jiv hx9 125 9 = u4 → jiv hx9 125 10 = u5 → (u3.toInt = 0 ∨ u4.toInt + 1 ≤ u5.toInt) → (jTn A v.toInt hx9 ∧ jFm 1 A h0 hx9) → dr.1 = v.toInt → dr.2 = vw hx9 → Q (some (.int v)) hx9) : ∀ (l1 : Int32) (g0 : Int32) (g1 : Int32) (g2 : Int32) (g3 : Int32) (h : jH), 13 ≤ l1.toInt ∧ l1.toInt ≤ 17 → 0 ≤ g0.toInt ∧ g0.toInt ≤ 400 → 1 ≤ g1.toInt ∧ g1.toInt ≤ 1 → 0 ≤ g2.toInt ∧ g2.toInt ≤ 400 → 0 ≤ g3.toInt ∧ g3.toInt ≤ 400 → jSa h0 h → (g0.toInt ≤ g2.toInt ∧ g3.toInt ≤ g0.toInt) → (g1.toInt = 0 ∨ g3.toInt + 1 ≤ g0.toInt) → jiv h 125 10 = g0 → jiv h 125 11 = g1 → jiv h 125 8 = g2 → jiv h 125 9 = g3 → jJ jSgM Dy h → jSm fp_X12_readPlain_r125d h0 h → d_X12_readPlain_r125d_200065  l1.toInt (vw h) = dr → jX m_X12_readPlain 6 0 0 65 [(0, .ref 125), (1, .int l1)] [.int 0, .ref 125] h 0 0 Q := by
  intro l1 g0 g1 g2 g3 h y0 y1 y2 y3 y4 C0 y6 y7 z0 z1 z2 z3  J Sm D
  unfold d_X12_readPlain_r125d_200065 at D
  try rw [vrf z0] at D
  try rw [vrf z1] at D
  try rw [vrf z2] at D
  try rw [vrf z3] at D
  refine x_inv (N := m_X12_must) (As := [.int 0]) (b := 125) (st := []) (dx9 := 5) (mc := 0) (ms := 0) (host := "") 12 rfl t_X12_must ⟨Or.inl q_12_250, i_X12_must.1, i_X12_must.2⟩ ⟨by decide, rfl⟩ (congrArg Prod.fst (J.1.1 125 (12, 92) rfl)) rfl (by decide) rfl rfl ⟨by decide, by decide⟩ (jC.of rfl k_X12_must rfl ?_)
  show jX m_X12_must 5 0 0 0 [(0, .ref 125), (1, .int 0)] [] _ 0 0 _
  refine x_aloadn (x := 125) rfl rfl ?_
  refine z_getI (N := 92) 12 14 rfl f_12_214 rfl J rfl sg_125_14_15_1_0_1 (fun v1 qv1 ev1 => ?_)
  try rw [vrf qv1] at D
  refine x_ifne (tgt := 24) rfl rfl (ti_ne rfl jk_0 ⟨fun c2 => ?_, fun c2 => ?_⟩)
  ·
    rw [if_neg (by omega)] at D
    refine x_aloadn (x := 125) rfl rfl ?_
    refine z_getM (N := 92) (v := v1) 12 14 rfl f_12_214 rfl J rfl qv1 ?_
    refine x_ifne (tgt := 35) rfl rfl (ti_ne rfl jk_0 (bn_t (by omega) ?_))
    refine x_vret rfl rfl ?_
    show jX m_X12_readPlain 6 0 0 68 [(0, .ref 125), (1, .int l1)] [] _ 0 0 _
    refine x_aloadn (x := 125) rfl rfl ?_
    refine z_getM (N := 92) (v := v1) 12 14 rfl f_12_214 rfl J rfl qv1 ?_
    refine x_ifne (tgt := 91) rfl rfl (ti_ne rfl jk_0 (bn_t (by omega) ?_))
    exact jX.sub jsb_n (ct_X12_readPlain_r125d_91 hA hN hD hQ  g0 g1 g2 g3 h (jr_of rfl (by omega)) (jr_of rfl (by omega)) (jr_of rfl (by omega)) (jr_of rfl (by omega)) (jmu_tb (jmu_bad hA C0.1 C0.2.1 C0.2.2.1 C0.2.2.2.1 C0.2.2.2.2.1 C0.2.2.2.2.2.1 C0.2.2.2.2.2.2.1 qv1 (by omega)) qv1 (by omega)) (by omega) (by omega) z0 z1 z2 z3 J Sm D)
  ·
    rw [if_pos (by omega)] at D
    refine x_iloadn (x := 0) rfl rfl ?_
    refine x_ifne (tgt := 24) rfl rfl (ti_ne jk_0 jk_0 (bn_f (by omega) ?_))
    refine x_aloadn (x := 125) rfl rfl ?_
    refine x_iconst (v := 1) rfl ki_1 ?_
    refine z_putZ (N := 92) (w := 1) 12 14 rfl f_12_214 rfl (jfin_no TX12 RX12 92 rfl rfl) hD J Sm rfl rfl jk_1 (by omega) (pw_125_14 (by omega)) rfl (fun h w3 J Sm => ?_)
    rw [vwf w3 (show 1 = (1 : Int32).toInt from by have := jk_1; omega)] at D
    refine x_aloadn (x := 125) rfl rfl ?_
    refine x_aloadn (x := 125) rfl rfl ?_
    refine z_getM (N := 92) (v := g3) 12 9 rfl f_12_221 rfl J rfl (jmo w3 rfl z3) ?_
    refine z_putI (N := 92) (w := g3.toInt) 12 13 rfl f_12_32 rfl (jfin_no TX12 RX12 92 rfl rfl) hD J Sm rfl rfl rfl (pw_125_13 (by omega)) rfl (fun h w4 J Sm => ?_)
    rw [vwf w4 (show g3.toInt = g3.toInt from by omega)] at D
    refine x_aloadn (x := 125) rfl rfl ?_
    refine z_getM (N := 92) (v := 1) 12 14 rfl f_12_214 rfl J rfl (jmo w4 rfl (jmw w3)) ?_
    refine x_ifne (tgt := 35) rfl rfl (ti_ne jk_1 jk_0 (bn_t (by omega) ?_))
    refine x_vret rfl rfl ?_
    show jX m_X12_readPlain 6 0 0 68 [(0, .ref 125), (1, .int l1)] [] _ 0 0 _
    refine x_aloadn (x := 125) rfl rfl ?_
    refine z_getM (N := 92) (v := 1) 12 14 rfl f_12_214 rfl J rfl (jmo w4 rfl (jmw w3)) ?_
    refine x_ifne (tgt := 91) rfl rfl (ti_ne jk_1 jk_0 (bn_t (by omega) ?_))
    exact jX.sub jsb_n (ct_X12_readPlain_r125d_91 hA hN hD hQ  g0 g1 g2 g3 h (jr_of rfl (by omega)) (jr_of rfl (by omega)) (jr_of rfl (by omega)) (jr_of rfl (by omega)) (jmu_tb (jmu_bad hA (jeq_o w4 rfl (jeq_o w3 rfl C0.1)) (jeq_o w4 rfl (jeq_o w3 rfl C0.2.1)) (jeq_o w4 rfl (jeq_o w3 rfl C0.2.2.1)) (jeq_o w4 rfl (jeq_o w3 rfl C0.2.2.2.1)) (jmo w4 rfl (jmo w3 rfl C0.2.2.2.2.1)) (jmo w4 rfl (jmo w3 rfl C0.2.2.2.2.2.1)) (jmo w4 rfl (jmo w3 rfl C0.2.2.2.2.2.2.1)) (jmo w4 rfl (jmw w3)) (by decide)) (jmo w4 rfl (jmw w3)) (by decide)) (by omega) (by omega) (jmo w4 rfl (jmo w3 rfl z0)) (jmo w4 rfl (jmo w3 rfl z1)) (jmo w4 rfl (jmo w3 rfl z2)) (jmo w4 rfl (jmo w3 rfl z3)) J Sm D)
set_option maxRecDepth 100000 in
set_option maxHeartbeats 4000000 in
theorem ct_X12_readPlain_r125d_300065 {Dy : jH → Prop} {h0 : jH} {Q : Option Value → jH → Prop} {dr : (Int × jW)} {A : Nat} (hA : jTu 0 h0 A 0) (hN : (jiv h0 125 14).toInt ≠ 0 ∨ jNsq h0) (hD : jDk Dy) (hQ : ∀ (v : Int32) hx9, 0 ≤ v.toInt ∧ v.toInt ≤ 3 → jJ jSgM Dy hx9 → jSm fp_X12_readPlain_r125d h0 hx9 → ∀ u0 u1 u2 : Int32, jiv hx9 125 10 = u0 → jiv hx9 125 8 = u1 → jiv hx9 125 9 = u2 → (u0.toInt ≤ u1.toInt ∧ u2.toInt ≤ u0.toInt) → ∀ u3 u4 u5 : Int32, jiv hx9 125 11 = u3 → jiv hx9 125 9 = u4 → jiv hx9 125 10 = u5 → (u3.toInt = 0 ∨ u4.toInt + 1 ≤ u5.toInt) → (jTn A v.toInt hx9 ∧ jFm 1 A h0 hx9) → dr.1 = v.toInt → dr.2 = vw hx9 → Q (some (.int v)) hx9) : ∀ (l1 : Int32) (g0 : Int32) (g1 : Int32) (g2 : Int32) (g3 : Int32) (g4 : Int32) (h : jH), 13 ≤ l1.toInt ∧ l1.toInt ≤ 17 → 0 ≤ g0.toInt ∧ g0.toInt ≤ 400 → 1 ≤ g1.toInt ∧ g1.toInt ≤ 1 → 0 ≤ g2.toInt ∧ g2.toInt ≤ 59 → 0 ≤ g3.toInt ∧ g3.toInt ≤ 400 → 0 ≤ g4.toInt ∧ g4.toInt ≤ 400 → jSa h0 h → g1.toInt ≠ 0 → (g0.toInt ≤ g3.toInt ∧ g4.toInt ≤ g0.toInt) → (g1.toInt = 0 ∨ g4.toInt + 1 ≤ g0.toInt) → jiv h 125 10 = g0 → jiv h 125 11 = g1 → jiv h 125 52 = g2 → jiv h 125 8 = g3 → jiv h 125 9 = g4 → jJ jSgM Dy h → jSm fp_X12_readPlain_r125d h0 h → d_X12_readPlain_r125d_300065  l1.toInt (vw h) = dr → jX m_X12_readPlain 6 0 0 65 [(0, .ref 125), (1, .int l1)] [.int 1, .ref 125] h 0 0 Q := by
  intro l1 g0 g1 g2 g3 g4 h y0 y1 y2 y3 y4 y5 C0 y7 y8 y9 z0 z1 z2 z3 z4  J Sm D
  unfold d_X12_readPlain_r125d_300065 at D
  try rw [vrf z0] at D
  try rw [vrf z1] at D
  try rw [vrf z2] at D
  try rw [vrf z3] at D
  try rw [vrf z4] at D
  refine x_inv (N := m_X12_must) (As := [.int 1]) (b := 125) (st := []) (dx9 := 5) (mc := 0) (ms := 0) (host := "") 12 rfl t_X12_must ⟨Or.inl q_12_250, i_X12_must.1, i_X12_must.2⟩ ⟨by decide, rfl⟩ (congrArg Prod.fst (J.1.1 125 (12, 92) rfl)) rfl (by decide) rfl rfl ⟨by decide, by decide⟩ (jC.of rfl k_X12_must rfl ?_)
  show jX m_X12_must 5 0 0 0 [(0, .ref 125), (1, .int 1)] [] _ 0 0 _
  refine x_aloadn (x := 125) rfl rfl ?_
  refine z_getI (N := 92) 12 14 rfl f_12_214 rfl J rfl sg_125_14_15_1_0_1 (fun v1 qv1 ev1 => ?_)
  try rw [vrf qv1] at D
  refine x_ifne (tgt := 24) rfl rfl (ti_ne rfl jk_0 ⟨fun c2 => ?_, fun c2 => ?_⟩)
  ·
    rw [if_neg (by omega)] at D
    refine x_aloadn (x := 125) rfl rfl ?_
    refine z_getM (N := 92) (v := v1) 12 14 rfl f_12_214 rfl J rfl qv1 ?_
    refine x_ifne (tgt := 35) rfl rfl (ti_ne rfl jk_0 (bn_t (by omega) ?_))
    refine x_vret rfl rfl ?_
    show jX m_X12_readPlain 6 0 0 68 [(0, .ref 125), (1, .int l1)] [] _ 0 0 _
    refine x_aloadn (x := 125) rfl rfl ?_
    refine z_getM (N := 92) (v := v1) 12 14 rfl f_12_214 rfl J rfl qv1 ?_
    refine x_ifne (tgt := 91) rfl rfl (ti_ne rfl jk_0 (bn_t (by omega) ?_))
    exact jX.sub jsb_n (ct_X12_readPlain_r125d_91 hA hN hD hQ  g0 g1 g3 g4 h (jr_of rfl (by omega)) (jr_of rfl (by omega)) (jr_of rfl (by omega)) (jr_of rfl (by omega)) (jmu_tb (jmu_bad hA C0.1 C0.2.1 C0.2.2.1 C0.2.2.2.1 C0.2.2.2.2.1 C0.2.2.2.2.2.1 C0.2.2.2.2.2.2.1 qv1 (by omega)) qv1 (by omega)) (by omega) (by omega) z0 z1 z3 z4 J Sm D)
  ·
    rw [if_pos (by omega)] at D
    refine x_iloadn (x := 1) rfl rfl ?_
    refine x_ifne (tgt := 24) rfl rfl (ti_ne jk_1 jk_0 (bn_t (by omega) ?_))
    refine x_aloadn (x := 125) rfl rfl ?_
    refine z_getM (N := 92) (v := v1) 12 14 rfl f_12_214 rfl J rfl qv1 ?_
    refine x_ifne (tgt := 35) rfl rfl (ti_ne rfl jk_0 (bn_f (by omega) ?_))
    refine x_aloadn (x := 125) rfl rfl ?_
    refine x_inv (N := m_X12_next) (As := []) (b := 125) (st := []) (dx9 := 2) (mc := 0) (ms := 0) (host := "") 12 rfl t_X12_next ⟨Or.inl q_12_218, i_X12_next.1, i_X12_next.2⟩ ⟨by decide, rfl⟩ (congrArg Prod.fst (J.1.1 125 (12, 92) rfl)) rfl (by decide) rfl rfl ⟨by decide, by decide⟩ (sf_X12_next_r125d  hD J z0 z3 (by omega) rfl  (fun h J S3 u4 u5 u6 qu4 qu5 qu6 ru4 u7 u8 u9 qu7 qu8 qu9 ru7 P10 X11 => ?_))
    have Sm := jSm_tr rfl Sm S3
    rw [X11] at D
    have eu4 := (show 0 ≤ u4.toInt ∧ u4.toInt ≤ 400 from qu4 ▸ jrg_f J sg_125_10_11_1_0_1)
    try rw [vrf qu4] at D
    have eu5 := (show 0 ≤ u5.toInt ∧ u5.toInt ≤ 400 from qu5 ▸ jrg_f J sg_125_8_9_1_0_1)
    try rw [vrf (jmb_c S3 qu5 rfl)] at D
    have eu6 := (show 0 ≤ u6.toInt ∧ u6.toInt ≤ 400 from qu6 ▸ jrg_f J sg_125_9_10_1_0_1)
    try rw [vrf qu6] at D
    have eu7 := (show 0 ≤ u7.toInt ∧ u7.toInt ≤ 3 from qu7 ▸ jrg_f J sg_125_11_12_1_0_1)
    try rw [vrf qu7] at D
    obtain rfl : u6 = u8 := qu6.symm.trans qu8
    obtain rfl : u4 = u9 := qu4.symm.trans qu9
    have nfP10 := jnf P10.1 z0 qu6
    show jX m_X12_must 5 0 0 35 [(0, .ref 125), (1, .int 1)] [] _ 0 0 _
    refine x_vret rfl rfl ?_
    show jX m_X12_readPlain 6 0 0 68 [(0, .ref 125), (1, .int l1)] [] _ 0 0 _
    refine x_aloadn (x := 125) rfl rfl ?_
    refine z_getM (N := 92) (v := v1) 12 14 rfl f_12_214 rfl J rfl (jmc S3 rfl qv1) ?_
    refine x_ifne (tgt := 91) rfl rfl (ti_ne rfl jk_0 (bn_f (by omega) ?_))
    obtain ⟨u12, qu12⟩ : ∃ v : Int32, jiv h 125 49 = v := ⟨_, rfl⟩
    have eu12 := (show 0 ≤ u12.toInt ∧ u12.toInt ≤ 400 from qu12 ▸ jrg_f J sg_125_49_50_1_0_1)
    try rw [vrf (jmb_c S3 qu12 rfl)] at D
    have cx := jmu_c (jmu_on hA (jeq_c S3 rfl C0.1) (jeq_c S3 rfl C0.2.1) (jeq_c S3 rfl C0.2.2.1) (jeq_c S3 rfl C0.2.2.2.1) (jmc S3 rfl C0.2.2.2.2.1) (jmc S3 rfl C0.2.2.2.2.2.1) (jmc S3 rfl C0.2.2.2.2.2.2.2) (C0.2.2.2.2.2.2.1.symm.trans z4) qu6 (by omega)) (jmc S3 rfl qv1) (by omega) qu12 (by have := jrg_f J sg_125_9_10_1_0_1; omega)
    refine x_aloadn (x := 125) rfl rfl ?_
    refine x_iloadn (x := l1) rfl rfl ?_
    refine x_iconst (v := 0) rfl ki_0 ?_
    refine x_inv (N := m_X12_emit) (As := [.int l1, .int 0]) (b := 125) (st := []) (dx9 := 5) (mc := 0) (ms := 0) (host := "") 12 rfl t_X12_emit ⟨Or.inl q_12_502, i_X12_emit.1, i_X12_emit.2⟩ ⟨by decide, rfl⟩ (congrArg Prod.fst (J.1.1 125 (12, 92) rfl)) rfl (by decide) rfl rfl ⟨by decide, by decide⟩ (jC.of rfl k_X12_emit rfl ?_)
    show jX m_X12_emit 5 0 0 0 [(0, .ref 125), (1, .int l1), (2, .int 0)] [] _ 0 0 _
    refine x_aloadn (x := 125) rfl rfl ?_
    refine z_getR (N := 92) (b := 148) 12 50 rfl f_12_99 rfl J rfl 16050 ⟨rfl, rfl⟩ rfl ?_
    refine x_aloadn (x := 125) rfl rfl ?_
    refine z_getM (N := 92) (v := u12) 12 49 rfl f_12_493 rfl J rfl qu12 ?_
    refine x_iloadn (x := l1) rfl rfl ?_
    refine z_iast (N := 400) (l := 0) (u := 400) (w := l1.toInt) rfl hD J Sm rfl rfl rfl (by omega) rfl (wr_148) rfl (fun h w13 J Sm => ?_)
    rw [vww w13 (show u12.toInt = u12.toInt from by omega) (show l1.toInt = l1.toInt from by omega)] at D
    refine x_aloadn (x := 125) rfl rfl ?_
    refine z_getR (N := 92) (b := 149) 12 51 rfl f_12_102 rfl J rfl 16051 ⟨rfl, rfl⟩ rfl ?_
    refine x_aloadn (x := 125) rfl rfl ?_
    refine z_getM (N := 92) (v := u12) 12 49 rfl f_12_493 rfl J rfl (jmo w13 rfl qu12) ?_
    refine x_iloadn (x := 0) rfl rfl ?_
    refine z_iast (N := 400) (l := 0) (u := 400) (w := 0) rfl hD J Sm rfl rfl rfl (by omega) jk_0 (wr_149) rfl (fun h w14 J Sm => ?_)
    rw [vww w14 (show u12.toInt = u12.toInt from by omega) (show 0 = (0 : Int32).toInt from by have := jk_0; omega)] at D
    refine x_aloadn (x := 125) rfl rfl ?_
    refine x_dup rfl rfl ?_
    refine z_getM (N := 92) (v := u12) 12 49 rfl f_12_493 rfl J rfl (jmo w14 rfl (jmo w13 rfl qu12)) ?_
    refine x_iconst (v := 1) rfl ki_1 ?_
    refine z_iadd rfl rfl jk_1 (by omega) (fun v15 ev15 => ?_)
    refine z_putI (N := 92) (w := v15.toInt) 12 49 rfl f_12_493 rfl (jfin_no TX12 RX12 92 rfl rfl) hD J Sm rfl rfl rfl (pw_125_49 (by omega)) rfl (fun h w16 J Sm => ?_)
    rw [vwf w16 (show (u12.toInt + 1) = v15.toInt from by omega)] at D
    refine x_vret rfl rfl ?_
    show jX m_X12_readPlain 6 0 0 81 [(0, .ref 125), (1, .int l1)] [] _ 0 0 _
    refine x_aloadn (x := 125) rfl rfl ?_
    refine x_dup rfl rfl ?_
    refine z_getM (N := 92) (v := g2) 12 52 rfl f_12_542 rfl J rfl (jmo w16 rfl (jmo w14 rfl (jmo w13 rfl (jmc S3 rfl z2)))) ?_
    refine x_iconst (v := 1) rfl ki_1 ?_
    refine z_iadd rfl rfl jk_1 (by omega) (fun v17 ev17 => ?_)
    refine z_putI (N := 92) (w := v17.toInt) 12 52 rfl f_12_542 rfl (jfin_no TX12 RX12 92 rfl rfl) hD J Sm rfl rfl rfl (pw_125_52 (by omega)) rfl (fun h w18 J Sm => ?_)
    rw [vwf w18 (show (g2.toInt + 1) = v17.toInt from by omega)] at D
    exact jX.sub jsb_n (ct_X12_readPlain_r125d_91 hA hN hD hQ  u4 u7 u5 u6 h (jr_of rfl (by omega)) (jr_of rfl (by omega)) (jr_of rfl (by omega)) (jr_of rfl (by omega)) (rp_plain (jmu_on hA (jeq_c S3 rfl C0.1) (jeq_c S3 rfl C0.2.1) (jeq_c S3 rfl C0.2.2.1) (jeq_c S3 rfl C0.2.2.2.1) (jmc S3 rfl C0.2.2.2.2.1) (jmc S3 rfl C0.2.2.2.2.2.1) (jmc S3 rfl C0.2.2.2.2.2.2.2) (C0.2.2.2.2.2.2.1.symm.trans z4) qu6 (by omega)) hN (jmc S3 rfl qv1) (by omega) qu12 w13 w14 w16 (by omega) (by omega) w18) (by omega) (by omega) (jmo w18 rfl (jmo w16 rfl (jmo w14 rfl (jmo w13 rfl qu4)))) (jmo w18 rfl (jmo w16 rfl (jmo w14 rfl (jmo w13 rfl qu7)))) (jmo w18 rfl (jmo w16 rfl (jmo w14 rfl (jmo w13 rfl qu5)))) (jmo w18 rfl (jmo w16 rfl (jmo w14 rfl (jmo w13 rfl qu6)))) J Sm D)
set_option maxRecDepth 100000 in
set_option maxHeartbeats 4000000 in
theorem sf_X12_readPlain_r125d {Dy : jH → Prop} {h : jH} {Q : Option Value → jH → Prop} {dr : (Int × jW)} {A : Nat} (hA : jTu 0 h A 0) (hN : (jiv h 125 14).toInt ≠ 0 ∨ jNsq h) (hD : jDk Dy) (J : jJ jSgM Dy h) {p0 p1 p2 : Int32} {p3 p4 p5 : Int32} (zp0 : jiv h 125 10 = p0) (zp1 : jiv h 125 8 = p1) (zp2 : jiv h 125 9 = p2) (rl_p0 : (p0.toInt ≤ p1.toInt ∧ p2.toInt ≤ p0.toInt)) (zp3 : jiv h 125 11 = p3) (zp4 : jiv h 125 9 = p4) (zp5 : jiv h 125 10 = p5) (rl_p3 : (p3.toInt = 0 ∨ p4.toInt + 1 ≤ p5.toInt)) (D : d_X12_readPlain_r125d (vw h) = dr) (hQ : ∀ (v : Int32) hx9, 0 ≤ v.toInt ∧ v.toInt ≤ 3 → jJ jSgM Dy hx9 → jSm fp_X12_readPlain_r125d h hx9 → ∀ u0 u1 u2 : Int32, jiv hx9 125 10 = u0 → jiv hx9 125 8 = u1 → jiv hx9 125 9 = u2 → (u0.toInt ≤ u1.toInt ∧ u2.toInt ≤ u0.toInt) → ∀ u3 u4 u5 : Int32, jiv hx9 125 11 = u3 → jiv hx9 125 9 = u4 → jiv hx9 125 10 = u5 → (u3.toInt = 0 ∨ u4.toInt + 1 ≤ u5.toInt) → (jTn A v.toInt hx9 ∧ jFm 1 A h hx9) → dr.1 = v.toInt → dr.2 = vw hx9 → Q (some (.int v)) hx9) : jC m_X12_readPlain 6 0 0 [.ref 125] h Q := by
  refine jC.of rfl k_X12_readPlain rfl ?_
  have Sm := jSm_rf fp_X12_readPlain_r125d h
  have ep0 := (show 0 ≤ p0.toInt ∧ p0.toInt ≤ 400 from zp0 ▸ jrg_f J sg_125_10_11_1_0_1)
  have ep1 := (show 0 ≤ p1.toInt ∧ p1.toInt ≤ 400 from zp1 ▸ jrg_f J sg_125_8_9_1_0_1)
  have ep2 := (show 0 ≤ p2.toInt ∧ p2.toInt ≤ 400 from zp2 ▸ jrg_f J sg_125_9_10_1_0_1)
  have ep3 := (show 0 ≤ p3.toInt ∧ p3.toInt ≤ 3 from zp3 ▸ jrg_f J sg_125_11_12_1_0_1)
  have ep4 := (show 0 ≤ p4.toInt ∧ p4.toInt ≤ 400 from zp4 ▸ jrg_f J sg_125_9_10_1_0_1)
  have ep5 := (show 0 ≤ p5.toInt ∧ p5.toInt ≤ 400 from zp5 ▸ jrg_f J sg_125_10_11_1_0_1)
  obtain rfl : p2 = p4 := zp2.symm.trans zp4
  obtain rfl : p0 = p5 := zp0.symm.trans zp5
  skip
  show jX m_X12_readPlain 6 0 0 0 [(0, .ref 125)] [] _ 0 0 _
  unfold d_X12_readPlain_r125d at D
  try rw [vrf zp0] at D
  try rw [vrf zp1] at D
  try rw [vrf zp2] at D
  try rw [vrf zp3] at D
  try rw [vrf zp4] at D
  try rw [vrf zp5] at D
  refine x_aloadn (x := 125) rfl rfl ?_
  refine x_ldc2 (v := 14836) rfl z_12_561 ?_
  refine x_inv (N := m_X12_isWord) (As := [.long 14836]) (b := 125) (st := []) (dx9 := 5) (mc := 0) (ms := 0) (host := "") 12 rfl t_X12_isWord ⟨Or.inl q_12_511, i_X12_isWord.1, i_X12_isWord.2⟩ ⟨by decide, rfl⟩ (congrArg Prod.fst (J.1.1 125 (12, 92) rfl)) rfl (by decide) rfl rfl ⟨by decide, by decide⟩ (jC.of rfl k_X12_isWord rfl ?_)
  show jX m_X12_isWord 5 0 0 0 [(0, .ref 125), (1, .long 14836)] [] _ 0 0 _
  refine x_aloadn (x := 125) rfl rfl ?_
  refine z_getM (N := 92) (v := p3) 12 11 rfl f_12_235 rfl J rfl zp3 ?_
  refine x_iconst (v := 1) rfl ki_1 ?_
  refine x_icne (tgt := 21) rfl rfl (ti_ne rfl jk_1 ⟨fun c1 => ?_, fun c1 => ?_⟩)
  ·
    rw [if_neg (by omega)] at D
    refine x_iconst (v := 0) rfl ki_0 ?_
    refine x_zret rfl rfl (by decide) ?_
    show jX m_X12_readPlain 6 0 0 7 [(0, .ref 125)] [.int 0] _ 0 0 _
    refine x_ifeq (tgt := 23) rfl rfl (ti_eq jk_0 jk_0 (br_t (by omega) ?_))
    refine x_aloadn (x := 125) rfl rfl ?_
    refine x_bipush (v := 40) rfl kb_40 ?_
    refine x_inv (N := m_X12_isSign) (As := [.int 40]) (b := 125) (st := []) (dx9 := 5) (mc := 0) (ms := 0) (host := "") 12 rfl t_X12_isSign ⟨Or.inl q_12_257, i_X12_isSign.1, i_X12_isSign.2⟩ ⟨by decide, rfl⟩ (congrArg Prod.fst (J.1.1 125 (12, 92) rfl)) rfl (by decide) rfl rfl ⟨by decide, by decide⟩ (jC.of rfl k_X12_isSign rfl ?_)
    show jX m_X12_isSign 5 0 0 0 [(0, .ref 125), (1, .int 40)] [] _ 0 0 _
    refine x_aloadn (x := 125) rfl rfl ?_
    refine z_getM (N := 92) (v := p3) 12 11 rfl f_12_235 rfl J rfl zp3 ?_
    refine x_iconst (v := 3) rfl ki_3 ?_
    refine x_icne (tgt := 22) rfl rfl (ti_ne rfl jk_3 ⟨fun c2 => ?_, fun c2 => ?_⟩)
    ·
      rw [if_neg (by omega)] at D
      refine x_iconst (v := 0) rfl ki_0 ?_
      refine x_zret rfl rfl (by decide) ?_
      show jX m_X12_readPlain 6 0 0 29 [(0, .ref 125)] [.int 0] _ 0 0 _
      refine x_ifeq (tgt := 40) rfl rfl (ti_eq jk_0 jk_0 (br_t (by omega) ?_))
      refine x_aloadn (x := 125) rfl rfl ?_
      refine x_inv (N := m_X12_plainAt) (As := []) (b := 125) (st := []) (dx9 := 5) (mc := 0) (ms := 0) (host := "") 12 rfl t_X12_plainAt ⟨Or.inl q_12_566, i_X12_plainAt.1, i_X12_plainAt.2⟩ ⟨by decide, rfl⟩ (congrArg Prod.fst (J.1.1 125 (12, 92) rfl)) rfl (by decide) rfl rfl ⟨by decide, by decide⟩ (jC.of rfl k_X12_plainAt rfl ?_)
      show jX m_X12_plainAt 5 0 0 0 [(0, .ref 125)] [] _ 0 0 _
      refine x_aloadn (x := 125) rfl rfl ?_
      refine x_ldc2 (v := 14011671716) rfl z_12_523 ?_
      refine x_inv (N := m_X12_isWord) (As := [.long 14011671716]) (b := 125) (st := []) (dx9 := 4) (mc := 0) (ms := 0) (host := "") 12 rfl t_X12_isWord ⟨Or.inl q_12_511, i_X12_isWord.1, i_X12_isWord.2⟩ ⟨by decide, rfl⟩ (congrArg Prod.fst (J.1.1 125 (12, 92) rfl)) rfl (by decide) rfl rfl ⟨by decide, by decide⟩ (jC.of rfl k_X12_isWord rfl ?_)
      show jX m_X12_isWord 4 0 0 0 [(0, .ref 125), (1, .long 14011671716)] [] _ 0 0 _
      refine x_aloadn (x := 125) rfl rfl ?_
      refine z_getM (N := 92) (v := p3) 12 11 rfl f_12_235 rfl J rfl zp3 ?_
      refine x_iconst (v := 1) rfl ki_1 ?_
      refine x_icne (tgt := 21) rfl rfl (ti_ne rfl jk_1 ⟨fun c3 => ?_, fun c3 => ?_⟩)
      ·
        rw [if_neg (by omega)] at D
        refine x_iconst (v := 0) rfl ki_0 ?_
        refine x_zret rfl rfl (by decide) ?_
        show jX m_X12_plainAt 5 0 0 7 [(0, .ref 125)] [.int 0] _ 0 0 _
        refine x_ifeq (tgt := 15) rfl rfl (ti_eq jk_0 jk_0 (br_t (by omega) ?_))
        refine x_aloadn (x := 125) rfl rfl ?_
        refine x_ldc2 (v := 136228) rfl z_12_525 ?_
        refine x_inv (N := m_X12_isWord) (As := [.long 136228]) (b := 125) (st := []) (dx9 := 4) (mc := 0) (ms := 0) (host := "") 12 rfl t_X12_isWord ⟨Or.inl q_12_511, i_X12_isWord.1, i_X12_isWord.2⟩ ⟨by decide, rfl⟩ (congrArg Prod.fst (J.1.1 125 (12, 92) rfl)) rfl (by decide) rfl rfl ⟨by decide, by decide⟩ (jC.of rfl k_X12_isWord rfl ?_)
        show jX m_X12_isWord 4 0 0 0 [(0, .ref 125), (1, .long 136228)] [] _ 0 0 _
        refine x_aloadn (x := 125) rfl rfl ?_
        refine z_getM (N := 92) (v := p3) 12 11 rfl f_12_235 rfl J rfl zp3 ?_
        refine x_iconst (v := 1) rfl ki_1 ?_
        refine x_icne (tgt := 21) rfl rfl (ti_ne rfl jk_1 ⟨fun c4 => ?_, fun c4 => ?_⟩)
        ·
          rw [if_neg (by omega)] at D
          refine x_iconst (v := 0) rfl ki_0 ?_
          refine x_zret rfl rfl (by decide) ?_
          show jX m_X12_plainAt 5 0 0 22 [(0, .ref 125)] [.int 0] _ 0 0 _
          refine x_ifeq (tgt := 30) rfl rfl (ti_eq jk_0 jk_0 (br_t (by omega) ?_))
          refine x_aloadn (x := 125) rfl rfl ?_
          refine x_ldc2 (v := 540146) rfl z_12_527 ?_
          refine x_inv (N := m_X12_isWord) (As := [.long 540146]) (b := 125) (st := []) (dx9 := 4) (mc := 0) (ms := 0) (host := "") 12 rfl t_X12_isWord ⟨Or.inl q_12_511, i_X12_isWord.1, i_X12_isWord.2⟩ ⟨by decide, rfl⟩ (congrArg Prod.fst (J.1.1 125 (12, 92) rfl)) rfl (by decide) rfl rfl ⟨by decide, by decide⟩ (jC.of rfl k_X12_isWord rfl ?_)
          show jX m_X12_isWord 4 0 0 0 [(0, .ref 125), (1, .long 540146)] [] _ 0 0 _
          refine x_aloadn (x := 125) rfl rfl ?_
          refine z_getM (N := 92) (v := p3) 12 11 rfl f_12_235 rfl J rfl zp3 ?_
          refine x_iconst (v := 1) rfl ki_1 ?_
          refine x_icne (tgt := 21) rfl rfl (ti_ne rfl jk_1 ⟨fun c5 => ?_, fun c5 => ?_⟩)
          ·
            rw [if_neg (by omega)] at D
            refine x_iconst (v := 0) rfl ki_0 ?_
            refine x_zret rfl rfl (by decide) ?_
            show jX m_X12_plainAt 5 0 0 37 [(0, .ref 125)] [.int 0] _ 0 0 _
            refine x_ifeq (tgt := 45) rfl rfl (ti_eq jk_0 jk_0 (br_t (by omega) ?_))
            refine x_aloadn (x := 125) rfl rfl ?_
            refine x_ldc2 (v := 8892563) rfl z_12_529 ?_
            refine x_inv (N := m_X12_isWord) (As := [.long 8892563]) (b := 125) (st := []) (dx9 := 4) (mc := 0) (ms := 0) (host := "") 12 rfl t_X12_isWord ⟨Or.inl q_12_511, i_X12_isWord.1, i_X12_isWord.2⟩ ⟨by decide, rfl⟩ (congrArg Prod.fst (J.1.1 125 (12, 92) rfl)) rfl (by decide) rfl rfl ⟨by decide, by decide⟩ (jC.of rfl k_X12_isWord rfl ?_)
            show jX m_X12_isWord 4 0 0 0 [(0, .ref 125), (1, .long 8892563)] [] _ 0 0 _
            refine x_aloadn (x := 125) rfl rfl ?_
            refine z_getM (N := 92) (v := p3) 12 11 rfl f_12_235 rfl J rfl zp3 ?_
            refine x_iconst (v := 1) rfl ki_1 ?_
            refine x_icne (tgt := 21) rfl rfl (ti_ne rfl jk_1 ⟨fun c6 => ?_, fun c6 => ?_⟩)
            ·
              rw [if_neg (by omega)] at D
              refine x_iconst (v := 0) rfl ki_0 ?_
              refine x_zret rfl rfl (by decide) ?_
              show jX m_X12_plainAt 5 0 0 52 [(0, .ref 125)] [.int 0] _ 0 0 _
              refine x_ifeq (tgt := 60) rfl rfl (ti_eq jk_0 jk_0 (br_t (by omega) ?_))
              refine x_aloadn (x := 125) rfl rfl ?_
              refine x_ldc2 (v := 3490341659812) rfl z_12_531 ?_
              refine x_inv (N := m_X12_isWord) (As := [.long 3490341659812]) (b := 125) (st := []) (dx9 := 4) (mc := 0) (ms := 0) (host := "") 12 rfl t_X12_isWord ⟨Or.inl q_12_511, i_X12_isWord.1, i_X12_isWord.2⟩ ⟨by decide, rfl⟩ (congrArg Prod.fst (J.1.1 125 (12, 92) rfl)) rfl (by decide) rfl rfl ⟨by decide, by decide⟩ (jC.of rfl k_X12_isWord rfl ?_)
              show jX m_X12_isWord 4 0 0 0 [(0, .ref 125), (1, .long 3490341659812)] [] _ 0 0 _
              refine x_aloadn (x := 125) rfl rfl ?_
              refine z_getM (N := 92) (v := p3) 12 11 rfl f_12_235 rfl J rfl zp3 ?_
              refine x_iconst (v := 1) rfl ki_1 ?_
              refine x_icne (tgt := 21) rfl rfl (ti_ne rfl jk_1 ⟨fun c7 => ?_, fun c7 => ?_⟩)
              ·
                rw [if_neg (by omega)] at D
                refine x_iconst (v := 0) rfl ki_0 ?_
                refine x_zret rfl rfl (by decide) ?_
                show jX m_X12_plainAt 5 0 0 67 [(0, .ref 125)] [.int 0] _ 0 0 _
                refine x_ifeq (tgt := 75) rfl rfl (ti_eq jk_0 jk_0 (br_t (by omega) ?_))
                refine x_iconst (v := (-1)) rfl ki_m1 ?_
                refine x_iret rfl rfl ?_
                show jX m_X12_readPlain 6 0 0 44 [(0, .ref 125)] [.int (-1)] _ 0 0 _
                refine x_istoren (lsx9 := [(1, .int (-1)), (0, .ref 125)]) rfl rfl rfl ?_
                refine x_iloadn (x := (-1)) rfl rfl ?_
                refine x_iconst (v := (-1)) rfl ki_m1 ?_
                refine x_iceq (tgt := 93) rfl rfl (ti_eq jk_m1 jk_m1 (br_t (by omega) ?_))
                refine x_aloadn (x := 125) rfl rfl ?_
                refine x_inv (N := m_X12_readSum) (As := []) (b := 125) (st := []) (dx9 := 5) (mc := 0) (ms := 0) (host := "") 12 rfl t_X12_readSum ⟨Or.inl q_12_569, i_X12_readSum.1, i_X12_readSum.2⟩ ⟨by decide, rfl⟩ (congrArg Prod.fst (J.1.1 125 (12, 92) rfl)) rfl (by decide) rfl rfl ⟨by decide, by decide⟩ (sf_X12_readSum_r125d  hA hD J zp0 zp1 zp2 (by omega) zp3 zp2 zp0 (by omega) rfl  (fun v18 h ev18 J S8 u9 u10 u11 qu9 qu10 qu11 ru9 u12 u13 u14 qu12 qu13 qu14 ru12 P15 X16 X17 => ?_))
                have Sm := jSm_tr rfl Sm S8
                try rw [X16] at D
                try rw [X17] at D
                have eu9 := (show 0 ≤ u9.toInt ∧ u9.toInt ≤ 400 from qu9 ▸ jrg_f J sg_125_10_11_1_0_1)
                try rw [vrf qu9] at D
                have eu10 := (show 0 ≤ u10.toInt ∧ u10.toInt ≤ 400 from qu10 ▸ jrg_f J sg_125_8_9_1_0_1)
                try rw [vrf (jmb_c S8 qu10 rfl)] at D
                have eu11 := (show 0 ≤ u11.toInt ∧ u11.toInt ≤ 400 from qu11 ▸ jrg_f J sg_125_9_10_1_0_1)
                try rw [vrf qu11] at D
                have eu12 := (show 0 ≤ u12.toInt ∧ u12.toInt ≤ 3 from qu12 ▸ jrg_f J sg_125_11_12_1_0_1)
                try rw [vrf qu12] at D
                obtain rfl : u11 = u13 := qu11.symm.trans qu13
                obtain rfl : u9 = u14 := qu9.symm.trans qu14
                show jX m_X12_readPlain 6 0 0 97 [(1, .int (-1)), (0, .ref 125)] [.int v18] _ 0 0 _
                refine x_iret rfl rfl ?_
                exact hQ _ _ (jr_of rfl (by omega)) J Sm _ _ _ qu9 qu10 qu11 (by omega) _ _ _ qu12 qu11 qu9 (by omega) P15 ((congrArg Prod.fst D).symm.trans X16) ((congrArg Prod.snd D).symm.trans X17)
              ·
                rw [if_pos (by omega)] at D
                refine x_aloadn (x := 125) rfl rfl ?_
                refine z_getLQ (N := 92) 12 12 rfl f_12_224 rfl J rfl (fun v19 qv19 => ?_)
                have ev19 := jfullL v19
                try rw [vrfL qv19] at D
                refine x_lloadn (x := 3490341659812) rfl rfl ?_
                refine z_lcmp rfl rfl jkl_3490341659812 (fun v20 ev20 => ?_)
                refine x_ifne (tgt := 21) rfl rfl (ti_ne rfl jk_0 ⟨fun c21 => ?_, fun c21 => ?_⟩)
                ·
                  rw [if_neg (by omega)] at D
                  refine x_iconst (v := 0) rfl ki_0 ?_
                  refine x_zret rfl rfl (by decide) ?_
                  show jX m_X12_plainAt 5 0 0 67 [(0, .ref 125)] [.int 0] _ 0 0 _
                  refine x_ifeq (tgt := 75) rfl rfl (ti_eq jk_0 jk_0 (br_t (by omega) ?_))
                  refine x_iconst (v := (-1)) rfl ki_m1 ?_
                  refine x_iret rfl rfl ?_
                  show jX m_X12_readPlain 6 0 0 44 [(0, .ref 125)] [.int (-1)] _ 0 0 _
                  refine x_istoren (lsx9 := [(1, .int (-1)), (0, .ref 125)]) rfl rfl rfl ?_
                  refine x_iloadn (x := (-1)) rfl rfl ?_
                  refine x_iconst (v := (-1)) rfl ki_m1 ?_
                  refine x_iceq (tgt := 93) rfl rfl (ti_eq jk_m1 jk_m1 (br_t (by omega) ?_))
                  refine x_aloadn (x := 125) rfl rfl ?_
                  refine x_inv (N := m_X12_readSum) (As := []) (b := 125) (st := []) (dx9 := 5) (mc := 0) (ms := 0) (host := "") 12 rfl t_X12_readSum ⟨Or.inl q_12_569, i_X12_readSum.1, i_X12_readSum.2⟩ ⟨by decide, rfl⟩ (congrArg Prod.fst (J.1.1 125 (12, 92) rfl)) rfl (by decide) rfl rfl ⟨by decide, by decide⟩ (sf_X12_readSum_r125d  hA hD J zp0 zp1 zp2 (by omega) zp3 zp2 zp0 (by omega) rfl  (fun v32 h ev32 J S22 u23 u24 u25 qu23 qu24 qu25 ru23 u26 u27 u28 qu26 qu27 qu28 ru26 P29 X30 X31 => ?_))
                  have Sm := jSm_tr rfl Sm S22
                  try rw [X30] at D
                  try rw [X31] at D
                  have eu23 := (show 0 ≤ u23.toInt ∧ u23.toInt ≤ 400 from qu23 ▸ jrg_f J sg_125_10_11_1_0_1)
                  try rw [vrf qu23] at D
                  have eu24 := (show 0 ≤ u24.toInt ∧ u24.toInt ≤ 400 from qu24 ▸ jrg_f J sg_125_8_9_1_0_1)
                  try rw [vrf (jmb_c S22 qu24 rfl)] at D
                  have eu25 := (show 0 ≤ u25.toInt ∧ u25.toInt ≤ 400 from qu25 ▸ jrg_f J sg_125_9_10_1_0_1)
                  try rw [vrf qu25] at D
                  have eu26 := (show 0 ≤ u26.toInt ∧ u26.toInt ≤ 3 from qu26 ▸ jrg_f J sg_125_11_12_1_0_1)
                  try rw [vrf qu26] at D
                  obtain rfl : u25 = u27 := qu25.symm.trans qu27
                  obtain rfl : u23 = u28 := qu23.symm.trans qu28
                  show jX m_X12_readPlain 6 0 0 97 [(1, .int (-1)), (0, .ref 125)] [.int v32] _ 0 0 _
                  refine x_iret rfl rfl ?_
                  exact hQ _ _ (jr_of rfl (by omega)) J Sm _ _ _ qu23 qu24 qu25 (by omega) _ _ _ qu26 qu25 qu23 (by omega) P29 ((congrArg Prod.fst D).symm.trans X30) ((congrArg Prod.snd D).symm.trans X31)
                ·
                  rw [if_pos (by omega)] at D
                  refine x_iconst (v := 1) rfl ki_1 ?_
                  refine x_goto (tgt := 22) rfl rfl ?_
                  refine x_zret rfl rfl (by decide) ?_
                  show jX m_X12_plainAt 5 0 0 67 [(0, .ref 125)] [.int 1] _ 0 0 _
                  refine x_ifeq (tgt := 75) rfl rfl (ti_eq jk_1 jk_0 (br_f (by omega) ?_))
                  refine x_bipush (v := 17) rfl kb_17 ?_
                  refine x_goto (tgt := 76) rfl rfl ?_
                  refine x_iret rfl rfl ?_
                  show jX m_X12_readPlain 6 0 0 44 [(0, .ref 125)] [.int 17] _ 0 0 _
                  refine x_istoren (lsx9 := [(1, .int 17), (0, .ref 125)]) rfl rfl rfl ?_
                  refine x_iloadn (x := 17) rfl rfl ?_
                  refine x_iconst (v := (-1)) rfl ki_m1 ?_
                  refine x_iceq (tgt := 93) rfl rfl (ti_eq jk_17 jk_m1 (br_f (by omega) ?_))
                  refine x_aloadn (x := 125) rfl rfl ?_
                  refine x_aloadn (x := 125) rfl rfl ?_
                  refine z_getI (N := 92) 12 52 rfl f_12_542 rfl J rfl sg_125_52_53_1_0_1 (fun v33 qv33 ev33 => ?_)
                  try rw [vrf qv33] at D
                  refine x_bipush (v := 60) rfl kb_60 ?_
                  refine x_icge (tgt := 64) rfl rfl (ti_ge rfl jk_60 ⟨fun c34 => ?_, fun c34 => ?_⟩)
                  ·
                    rw [if_pos (by omega)] at D
                    refine x_iconst (v := 0) rfl ki_0 ?_
                    exact jX.sub (jsb_c rfl (jsb_c rfl jsb_n)) (ct_X12_readPlain_r125d_200065 hA hN hD hQ  17 p0 p3 p1 p2 h (jr_of jk_17 (by omega)) (jr_of rfl (by omega)) (jr_of rfl (by omega)) (jr_of rfl (by omega)) (jr_of rfl (by omega)) jsa_0 (by omega) (by omega) zp0 zp3 zp1 zp2 J Sm (by rw [jk_17]; exact D))
                  ·
                    rw [if_neg (by omega)] at D
                    refine x_iconst (v := 1) rfl ki_1 ?_
                    refine x_goto (tgt := 65) rfl rfl ?_
                    exact jX.sub (jsb_c rfl (jsb_c rfl jsb_n)) (ct_X12_readPlain_r125d_300065 hA hN hD hQ  17 p0 p3 v33 p1 p2 h (jr_of jk_17 (by omega)) (jr_of rfl (by omega)) (jr_of rfl (by omega)) (jr_of rfl (by omega)) (jr_of rfl (by omega)) (jr_of rfl (by omega)) jsa_0 (by omega) (by omega) (by omega) zp0 zp3 qv33 zp1 zp2 J Sm (by rw [jk_17]; exact D))
            ·
              rw [if_pos (by omega)] at D
              refine x_aloadn (x := 125) rfl rfl ?_
              refine z_getLQ (N := 92) 12 12 rfl f_12_224 rfl J rfl (fun v35 qv35 => ?_)
              have ev35 := jfullL v35
              try rw [vrfL qv35] at D
              refine x_lloadn (x := 8892563) rfl rfl ?_
              refine z_lcmp rfl rfl jkl_8892563 (fun v36 ev36 => ?_)
              refine x_ifne (tgt := 21) rfl rfl (ti_ne rfl jk_0 ⟨fun c37 => ?_, fun c37 => ?_⟩)
              ·
                rw [if_neg (by omega)] at D
                refine x_iconst (v := 0) rfl ki_0 ?_
                refine x_zret rfl rfl (by decide) ?_
                show jX m_X12_plainAt 5 0 0 52 [(0, .ref 125)] [.int 0] _ 0 0 _
                refine x_ifeq (tgt := 60) rfl rfl (ti_eq jk_0 jk_0 (br_t (by omega) ?_))
                refine x_aloadn (x := 125) rfl rfl ?_
                refine x_ldc2 (v := 3490341659812) rfl z_12_531 ?_
                refine x_inv (N := m_X12_isWord) (As := [.long 3490341659812]) (b := 125) (st := []) (dx9 := 4) (mc := 0) (ms := 0) (host := "") 12 rfl t_X12_isWord ⟨Or.inl q_12_511, i_X12_isWord.1, i_X12_isWord.2⟩ ⟨by decide, rfl⟩ (congrArg Prod.fst (J.1.1 125 (12, 92) rfl)) rfl (by decide) rfl rfl ⟨by decide, by decide⟩ (jC.of rfl k_X12_isWord rfl ?_)
                show jX m_X12_isWord 4 0 0 0 [(0, .ref 125), (1, .long 3490341659812)] [] _ 0 0 _
                refine x_aloadn (x := 125) rfl rfl ?_
                refine z_getM (N := 92) (v := p3) 12 11 rfl f_12_235 rfl J rfl zp3 ?_
                refine x_iconst (v := 1) rfl ki_1 ?_
                refine x_icne (tgt := 21) rfl rfl (ti_ne rfl jk_1 (bn_f (by omega) ?_))
                refine x_aloadn (x := 125) rfl rfl ?_
                refine z_getLQ (N := 92) 12 12 rfl f_12_224 rfl J rfl (fun v38 qv38 => ?_)
                have ev38 := jfullL v38
                try have kqv38 : v35.toInt = v38.toInt := ((vrfL qv35).symm.trans (vrfL qv38))
                try rw [kqv38] at D
                try rw [vrfL qv38] at D
                refine x_lloadn (x := 3490341659812) rfl rfl ?_
                refine z_lcmp rfl rfl jkl_3490341659812 (fun v39 ev39 => ?_)
                refine x_ifne (tgt := 21) rfl rfl (ti_ne rfl jk_0 ⟨fun c40 => ?_, fun c40 => ?_⟩)
                ·
                  rw [if_neg (by omega)] at D
                  refine x_iconst (v := 0) rfl ki_0 ?_
                  refine x_zret rfl rfl (by decide) ?_
                  show jX m_X12_plainAt 5 0 0 67 [(0, .ref 125)] [.int 0] _ 0 0 _
                  refine x_ifeq (tgt := 75) rfl rfl (ti_eq jk_0 jk_0 (br_t (by omega) ?_))
                  refine x_iconst (v := (-1)) rfl ki_m1 ?_
                  refine x_iret rfl rfl ?_
                  show jX m_X12_readPlain 6 0 0 44 [(0, .ref 125)] [.int (-1)] _ 0 0 _
                  refine x_istoren (lsx9 := [(1, .int (-1)), (0, .ref 125)]) rfl rfl rfl ?_
                  refine x_iloadn (x := (-1)) rfl rfl ?_
                  refine x_iconst (v := (-1)) rfl ki_m1 ?_
                  refine x_iceq (tgt := 93) rfl rfl (ti_eq jk_m1 jk_m1 (br_t (by omega) ?_))
                  refine x_aloadn (x := 125) rfl rfl ?_
                  refine x_inv (N := m_X12_readSum) (As := []) (b := 125) (st := []) (dx9 := 5) (mc := 0) (ms := 0) (host := "") 12 rfl t_X12_readSum ⟨Or.inl q_12_569, i_X12_readSum.1, i_X12_readSum.2⟩ ⟨by decide, rfl⟩ (congrArg Prod.fst (J.1.1 125 (12, 92) rfl)) rfl (by decide) rfl rfl ⟨by decide, by decide⟩ (sf_X12_readSum_r125d  hA hD J zp0 zp1 zp2 (by omega) zp3 zp2 zp0 (by omega) rfl  (fun v51 h ev51 J S41 u42 u43 u44 qu42 qu43 qu44 ru42 u45 u46 u47 qu45 qu46 qu47 ru45 P48 X49 X50 => ?_))
                  have Sm := jSm_tr rfl Sm S41
                  try rw [X49] at D
                  try rw [X50] at D
                  have eu42 := (show 0 ≤ u42.toInt ∧ u42.toInt ≤ 400 from qu42 ▸ jrg_f J sg_125_10_11_1_0_1)
                  try rw [vrf qu42] at D
                  have eu43 := (show 0 ≤ u43.toInt ∧ u43.toInt ≤ 400 from qu43 ▸ jrg_f J sg_125_8_9_1_0_1)
                  try rw [vrf (jmb_c S41 qu43 rfl)] at D
                  have eu44 := (show 0 ≤ u44.toInt ∧ u44.toInt ≤ 400 from qu44 ▸ jrg_f J sg_125_9_10_1_0_1)
                  try rw [vrf qu44] at D
                  have eu45 := (show 0 ≤ u45.toInt ∧ u45.toInt ≤ 3 from qu45 ▸ jrg_f J sg_125_11_12_1_0_1)
                  try rw [vrf qu45] at D
                  obtain rfl : u44 = u46 := qu44.symm.trans qu46
                  obtain rfl : u42 = u47 := qu42.symm.trans qu47
                  show jX m_X12_readPlain 6 0 0 97 [(1, .int (-1)), (0, .ref 125)] [.int v51] _ 0 0 _
                  refine x_iret rfl rfl ?_
                  exact hQ _ _ (jr_of rfl (by omega)) J Sm _ _ _ qu42 qu43 qu44 (by omega) _ _ _ qu45 qu44 qu42 (by omega) P48 ((congrArg Prod.fst D).symm.trans X49) ((congrArg Prod.snd D).symm.trans X50)
                ·
                  rw [if_pos (by omega)] at D
                  refine x_iconst (v := 1) rfl ki_1 ?_
                  refine x_goto (tgt := 22) rfl rfl ?_
                  refine x_zret rfl rfl (by decide) ?_
                  show jX m_X12_plainAt 5 0 0 67 [(0, .ref 125)] [.int 1] _ 0 0 _
                  refine x_ifeq (tgt := 75) rfl rfl (ti_eq jk_1 jk_0 (br_f (by omega) ?_))
                  refine x_bipush (v := 17) rfl kb_17 ?_
                  refine x_goto (tgt := 76) rfl rfl ?_
                  refine x_iret rfl rfl ?_
                  show jX m_X12_readPlain 6 0 0 44 [(0, .ref 125)] [.int 17] _ 0 0 _
                  refine x_istoren (lsx9 := [(1, .int 17), (0, .ref 125)]) rfl rfl rfl ?_
                  refine x_iloadn (x := 17) rfl rfl ?_
                  refine x_iconst (v := (-1)) rfl ki_m1 ?_
                  refine x_iceq (tgt := 93) rfl rfl (ti_eq jk_17 jk_m1 (br_f (by omega) ?_))
                  refine x_aloadn (x := 125) rfl rfl ?_
                  refine x_aloadn (x := 125) rfl rfl ?_
                  refine z_getI (N := 92) 12 52 rfl f_12_542 rfl J rfl sg_125_52_53_1_0_1 (fun v52 qv52 ev52 => ?_)
                  try rw [vrf qv52] at D
                  refine x_bipush (v := 60) rfl kb_60 ?_
                  refine x_icge (tgt := 64) rfl rfl (ti_ge rfl jk_60 ⟨fun c53 => ?_, fun c53 => ?_⟩)
                  ·
                    rw [if_pos (by omega)] at D
                    refine x_iconst (v := 0) rfl ki_0 ?_
                    exact jX.sub (jsb_c rfl (jsb_c rfl jsb_n)) (ct_X12_readPlain_r125d_200065 hA hN hD hQ  17 p0 p3 p1 p2 h (jr_of jk_17 (by omega)) (jr_of rfl (by omega)) (jr_of rfl (by omega)) (jr_of rfl (by omega)) (jr_of rfl (by omega)) jsa_0 (by omega) (by omega) zp0 zp3 zp1 zp2 J Sm (by rw [jk_17]; exact D))
                  ·
                    rw [if_neg (by omega)] at D
                    refine x_iconst (v := 1) rfl ki_1 ?_
                    refine x_goto (tgt := 65) rfl rfl ?_
                    exact jX.sub (jsb_c rfl (jsb_c rfl jsb_n)) (ct_X12_readPlain_r125d_300065 hA hN hD hQ  17 p0 p3 v52 p1 p2 h (jr_of jk_17 (by omega)) (jr_of rfl (by omega)) (jr_of rfl (by omega)) (jr_of rfl (by omega)) (jr_of rfl (by omega)) (jr_of rfl (by omega)) jsa_0 (by omega) (by omega) (by omega) zp0 zp3 qv52 zp1 zp2 J Sm (by rw [jk_17]; exact D))
              ·
                rw [if_pos (by omega)] at D
                refine x_iconst (v := 1) rfl ki_1 ?_
                refine x_goto (tgt := 22) rfl rfl ?_
                refine x_zret rfl rfl (by decide) ?_
                show jX m_X12_plainAt 5 0 0 52 [(0, .ref 125)] [.int 1] _ 0 0 _
                refine x_ifeq (tgt := 60) rfl rfl (ti_eq jk_1 jk_0 (br_f (by omega) ?_))
                refine x_bipush (v := 16) rfl kb_16 ?_
                refine x_goto (tgt := 76) rfl rfl ?_
                refine x_iret rfl rfl ?_
                show jX m_X12_readPlain 6 0 0 44 [(0, .ref 125)] [.int 16] _ 0 0 _
                refine x_istoren (lsx9 := [(1, .int 16), (0, .ref 125)]) rfl rfl rfl ?_
                refine x_iloadn (x := 16) rfl rfl ?_
                refine x_iconst (v := (-1)) rfl ki_m1 ?_
                refine x_iceq (tgt := 93) rfl rfl (ti_eq jk_16 jk_m1 (br_f (by omega) ?_))
                refine x_aloadn (x := 125) rfl rfl ?_
                refine x_aloadn (x := 125) rfl rfl ?_
                refine z_getI (N := 92) 12 52 rfl f_12_542 rfl J rfl sg_125_52_53_1_0_1 (fun v54 qv54 ev54 => ?_)
                try rw [vrf qv54] at D
                refine x_bipush (v := 60) rfl kb_60 ?_
                refine x_icge (tgt := 64) rfl rfl (ti_ge rfl jk_60 ⟨fun c55 => ?_, fun c55 => ?_⟩)
                ·
                  rw [if_pos (by omega)] at D
                  refine x_iconst (v := 0) rfl ki_0 ?_
                  exact jX.sub (jsb_c rfl (jsb_c rfl jsb_n)) (ct_X12_readPlain_r125d_200065 hA hN hD hQ  16 p0 p3 p1 p2 h (jr_of jk_16 (by omega)) (jr_of rfl (by omega)) (jr_of rfl (by omega)) (jr_of rfl (by omega)) (jr_of rfl (by omega)) jsa_0 (by omega) (by omega) zp0 zp3 zp1 zp2 J Sm (by rw [jk_16]; exact D))
                ·
                  rw [if_neg (by omega)] at D
                  refine x_iconst (v := 1) rfl ki_1 ?_
                  refine x_goto (tgt := 65) rfl rfl ?_
                  exact jX.sub (jsb_c rfl (jsb_c rfl jsb_n)) (ct_X12_readPlain_r125d_300065 hA hN hD hQ  16 p0 p3 v54 p1 p2 h (jr_of jk_16 (by omega)) (jr_of rfl (by omega)) (jr_of rfl (by omega)) (jr_of rfl (by omega)) (jr_of rfl (by omega)) (jr_of rfl (by omega)) jsa_0 (by omega) (by omega) (by omega) zp0 zp3 qv54 zp1 zp2 J Sm (by rw [jk_16]; exact D))
          ·
            rw [if_pos (by omega)] at D
            refine x_aloadn (x := 125) rfl rfl ?_
            refine z_getLQ (N := 92) 12 12 rfl f_12_224 rfl J rfl (fun v56 qv56 => ?_)
            have ev56 := jfullL v56
            try rw [vrfL qv56] at D
            refine x_lloadn (x := 540146) rfl rfl ?_
            refine z_lcmp rfl rfl jkl_540146 (fun v57 ev57 => ?_)
            refine x_ifne (tgt := 21) rfl rfl (ti_ne rfl jk_0 ⟨fun c58 => ?_, fun c58 => ?_⟩)
            ·
              rw [if_neg (by omega)] at D
              refine x_iconst (v := 0) rfl ki_0 ?_
              refine x_zret rfl rfl (by decide) ?_
              show jX m_X12_plainAt 5 0 0 37 [(0, .ref 125)] [.int 0] _ 0 0 _
              refine x_ifeq (tgt := 45) rfl rfl (ti_eq jk_0 jk_0 (br_t (by omega) ?_))
              refine x_aloadn (x := 125) rfl rfl ?_
              refine x_ldc2 (v := 8892563) rfl z_12_529 ?_
              refine x_inv (N := m_X12_isWord) (As := [.long 8892563]) (b := 125) (st := []) (dx9 := 4) (mc := 0) (ms := 0) (host := "") 12 rfl t_X12_isWord ⟨Or.inl q_12_511, i_X12_isWord.1, i_X12_isWord.2⟩ ⟨by decide, rfl⟩ (congrArg Prod.fst (J.1.1 125 (12, 92) rfl)) rfl (by decide) rfl rfl ⟨by decide, by decide⟩ (jC.of rfl k_X12_isWord rfl ?_)
              show jX m_X12_isWord 4 0 0 0 [(0, .ref 125), (1, .long 8892563)] [] _ 0 0 _
              refine x_aloadn (x := 125) rfl rfl ?_
              refine z_getM (N := 92) (v := p3) 12 11 rfl f_12_235 rfl J rfl zp3 ?_
              refine x_iconst (v := 1) rfl ki_1 ?_
              refine x_icne (tgt := 21) rfl rfl (ti_ne rfl jk_1 (bn_f (by omega) ?_))
              refine x_aloadn (x := 125) rfl rfl ?_
              refine z_getLQ (N := 92) 12 12 rfl f_12_224 rfl J rfl (fun v59 qv59 => ?_)
              have ev59 := jfullL v59
              try have kqv59 : v56.toInt = v59.toInt := ((vrfL qv56).symm.trans (vrfL qv59))
              try rw [kqv59] at D
              try rw [vrfL qv59] at D
              refine x_lloadn (x := 8892563) rfl rfl ?_
              refine z_lcmp rfl rfl jkl_8892563 (fun v60 ev60 => ?_)
              refine x_ifne (tgt := 21) rfl rfl (ti_ne rfl jk_0 ⟨fun c61 => ?_, fun c61 => ?_⟩)
              ·
                rw [if_neg (by omega)] at D
                refine x_iconst (v := 0) rfl ki_0 ?_
                refine x_zret rfl rfl (by decide) ?_
                show jX m_X12_plainAt 5 0 0 52 [(0, .ref 125)] [.int 0] _ 0 0 _
                refine x_ifeq (tgt := 60) rfl rfl (ti_eq jk_0 jk_0 (br_t (by omega) ?_))
                refine x_aloadn (x := 125) rfl rfl ?_
                refine x_ldc2 (v := 3490341659812) rfl z_12_531 ?_
                refine x_inv (N := m_X12_isWord) (As := [.long 3490341659812]) (b := 125) (st := []) (dx9 := 4) (mc := 0) (ms := 0) (host := "") 12 rfl t_X12_isWord ⟨Or.inl q_12_511, i_X12_isWord.1, i_X12_isWord.2⟩ ⟨by decide, rfl⟩ (congrArg Prod.fst (J.1.1 125 (12, 92) rfl)) rfl (by decide) rfl rfl ⟨by decide, by decide⟩ (jC.of rfl k_X12_isWord rfl ?_)
                show jX m_X12_isWord 4 0 0 0 [(0, .ref 125), (1, .long 3490341659812)] [] _ 0 0 _
                refine x_aloadn (x := 125) rfl rfl ?_
                refine z_getM (N := 92) (v := p3) 12 11 rfl f_12_235 rfl J rfl zp3 ?_
                refine x_iconst (v := 1) rfl ki_1 ?_
                refine x_icne (tgt := 21) rfl rfl (ti_ne rfl jk_1 (bn_f (by omega) ?_))
                refine x_aloadn (x := 125) rfl rfl ?_
                refine z_getLQ (N := 92) 12 12 rfl f_12_224 rfl J rfl (fun v62 qv62 => ?_)
                have ev62 := jfullL v62
                try have kqv62 : v59.toInt = v62.toInt := ((vrfL qv59).symm.trans (vrfL qv62))
                try rw [kqv62] at D
                try rw [vrfL qv62] at D
                refine x_lloadn (x := 3490341659812) rfl rfl ?_
                refine z_lcmp rfl rfl jkl_3490341659812 (fun v63 ev63 => ?_)
                refine x_ifne (tgt := 21) rfl rfl (ti_ne rfl jk_0 ⟨fun c64 => ?_, fun c64 => ?_⟩)
                ·
                  rw [if_neg (by omega)] at D
                  refine x_iconst (v := 0) rfl ki_0 ?_
                  refine x_zret rfl rfl (by decide) ?_
                  show jX m_X12_plainAt 5 0 0 67 [(0, .ref 125)] [.int 0] _ 0 0 _
                  refine x_ifeq (tgt := 75) rfl rfl (ti_eq jk_0 jk_0 (br_t (by omega) ?_))
                  refine x_iconst (v := (-1)) rfl ki_m1 ?_
                  refine x_iret rfl rfl ?_
                  show jX m_X12_readPlain 6 0 0 44 [(0, .ref 125)] [.int (-1)] _ 0 0 _
                  refine x_istoren (lsx9 := [(1, .int (-1)), (0, .ref 125)]) rfl rfl rfl ?_
                  refine x_iloadn (x := (-1)) rfl rfl ?_
                  refine x_iconst (v := (-1)) rfl ki_m1 ?_
                  refine x_iceq (tgt := 93) rfl rfl (ti_eq jk_m1 jk_m1 (br_t (by omega) ?_))
                  refine x_aloadn (x := 125) rfl rfl ?_
                  refine x_inv (N := m_X12_readSum) (As := []) (b := 125) (st := []) (dx9 := 5) (mc := 0) (ms := 0) (host := "") 12 rfl t_X12_readSum ⟨Or.inl q_12_569, i_X12_readSum.1, i_X12_readSum.2⟩ ⟨by decide, rfl⟩ (congrArg Prod.fst (J.1.1 125 (12, 92) rfl)) rfl (by decide) rfl rfl ⟨by decide, by decide⟩ (sf_X12_readSum_r125d  hA hD J zp0 zp1 zp2 (by omega) zp3 zp2 zp0 (by omega) rfl  (fun v75 h ev75 J S65 u66 u67 u68 qu66 qu67 qu68 ru66 u69 u70 u71 qu69 qu70 qu71 ru69 P72 X73 X74 => ?_))
                  have Sm := jSm_tr rfl Sm S65
                  try rw [X73] at D
                  try rw [X74] at D
                  have eu66 := (show 0 ≤ u66.toInt ∧ u66.toInt ≤ 400 from qu66 ▸ jrg_f J sg_125_10_11_1_0_1)
                  try rw [vrf qu66] at D
                  have eu67 := (show 0 ≤ u67.toInt ∧ u67.toInt ≤ 400 from qu67 ▸ jrg_f J sg_125_8_9_1_0_1)
                  try rw [vrf (jmb_c S65 qu67 rfl)] at D
                  have eu68 := (show 0 ≤ u68.toInt ∧ u68.toInt ≤ 400 from qu68 ▸ jrg_f J sg_125_9_10_1_0_1)
                  try rw [vrf qu68] at D
                  have eu69 := (show 0 ≤ u69.toInt ∧ u69.toInt ≤ 3 from qu69 ▸ jrg_f J sg_125_11_12_1_0_1)
                  try rw [vrf qu69] at D
                  obtain rfl : u68 = u70 := qu68.symm.trans qu70
                  obtain rfl : u66 = u71 := qu66.symm.trans qu71
                  show jX m_X12_readPlain 6 0 0 97 [(1, .int (-1)), (0, .ref 125)] [.int v75] _ 0 0 _
                  refine x_iret rfl rfl ?_
                  exact hQ _ _ (jr_of rfl (by omega)) J Sm _ _ _ qu66 qu67 qu68 (by omega) _ _ _ qu69 qu68 qu66 (by omega) P72 ((congrArg Prod.fst D).symm.trans X73) ((congrArg Prod.snd D).symm.trans X74)
                ·
                  rw [if_pos (by omega)] at D
                  refine x_iconst (v := 1) rfl ki_1 ?_
                  refine x_goto (tgt := 22) rfl rfl ?_
                  refine x_zret rfl rfl (by decide) ?_
                  show jX m_X12_plainAt 5 0 0 67 [(0, .ref 125)] [.int 1] _ 0 0 _
                  refine x_ifeq (tgt := 75) rfl rfl (ti_eq jk_1 jk_0 (br_f (by omega) ?_))
                  refine x_bipush (v := 17) rfl kb_17 ?_
                  refine x_goto (tgt := 76) rfl rfl ?_
                  refine x_iret rfl rfl ?_
                  show jX m_X12_readPlain 6 0 0 44 [(0, .ref 125)] [.int 17] _ 0 0 _
                  refine x_istoren (lsx9 := [(1, .int 17), (0, .ref 125)]) rfl rfl rfl ?_
                  refine x_iloadn (x := 17) rfl rfl ?_
                  refine x_iconst (v := (-1)) rfl ki_m1 ?_
                  refine x_iceq (tgt := 93) rfl rfl (ti_eq jk_17 jk_m1 (br_f (by omega) ?_))
                  refine x_aloadn (x := 125) rfl rfl ?_
                  refine x_aloadn (x := 125) rfl rfl ?_
                  refine z_getI (N := 92) 12 52 rfl f_12_542 rfl J rfl sg_125_52_53_1_0_1 (fun v76 qv76 ev76 => ?_)
                  try rw [vrf qv76] at D
                  refine x_bipush (v := 60) rfl kb_60 ?_
                  refine x_icge (tgt := 64) rfl rfl (ti_ge rfl jk_60 ⟨fun c77 => ?_, fun c77 => ?_⟩)
                  ·
                    rw [if_pos (by omega)] at D
                    refine x_iconst (v := 0) rfl ki_0 ?_
                    exact jX.sub (jsb_c rfl (jsb_c rfl jsb_n)) (ct_X12_readPlain_r125d_200065 hA hN hD hQ  17 p0 p3 p1 p2 h (jr_of jk_17 (by omega)) (jr_of rfl (by omega)) (jr_of rfl (by omega)) (jr_of rfl (by omega)) (jr_of rfl (by omega)) jsa_0 (by omega) (by omega) zp0 zp3 zp1 zp2 J Sm (by rw [jk_17]; exact D))
                  ·
                    rw [if_neg (by omega)] at D
                    refine x_iconst (v := 1) rfl ki_1 ?_
                    refine x_goto (tgt := 65) rfl rfl ?_
                    exact jX.sub (jsb_c rfl (jsb_c rfl jsb_n)) (ct_X12_readPlain_r125d_300065 hA hN hD hQ  17 p0 p3 v76 p1 p2 h (jr_of jk_17 (by omega)) (jr_of rfl (by omega)) (jr_of rfl (by omega)) (jr_of rfl (by omega)) (jr_of rfl (by omega)) (jr_of rfl (by omega)) jsa_0 (by omega) (by omega) (by omega) zp0 zp3 qv76 zp1 zp2 J Sm (by rw [jk_17]; exact D))
              ·
                rw [if_pos (by omega)] at D
                refine x_iconst (v := 1) rfl ki_1 ?_
                refine x_goto (tgt := 22) rfl rfl ?_
                refine x_zret rfl rfl (by decide) ?_
                show jX m_X12_plainAt 5 0 0 52 [(0, .ref 125)] [.int 1] _ 0 0 _
                refine x_ifeq (tgt := 60) rfl rfl (ti_eq jk_1 jk_0 (br_f (by omega) ?_))
                refine x_bipush (v := 16) rfl kb_16 ?_
                refine x_goto (tgt := 76) rfl rfl ?_
                refine x_iret rfl rfl ?_
                show jX m_X12_readPlain 6 0 0 44 [(0, .ref 125)] [.int 16] _ 0 0 _
                refine x_istoren (lsx9 := [(1, .int 16), (0, .ref 125)]) rfl rfl rfl ?_
                refine x_iloadn (x := 16) rfl rfl ?_
                refine x_iconst (v := (-1)) rfl ki_m1 ?_
                refine x_iceq (tgt := 93) rfl rfl (ti_eq jk_16 jk_m1 (br_f (by omega) ?_))
                refine x_aloadn (x := 125) rfl rfl ?_
                refine x_aloadn (x := 125) rfl rfl ?_
                refine z_getI (N := 92) 12 52 rfl f_12_542 rfl J rfl sg_125_52_53_1_0_1 (fun v78 qv78 ev78 => ?_)
                try rw [vrf qv78] at D
                refine x_bipush (v := 60) rfl kb_60 ?_
                refine x_icge (tgt := 64) rfl rfl (ti_ge rfl jk_60 ⟨fun c79 => ?_, fun c79 => ?_⟩)
                ·
                  rw [if_pos (by omega)] at D
                  refine x_iconst (v := 0) rfl ki_0 ?_
                  exact jX.sub (jsb_c rfl (jsb_c rfl jsb_n)) (ct_X12_readPlain_r125d_200065 hA hN hD hQ  16 p0 p3 p1 p2 h (jr_of jk_16 (by omega)) (jr_of rfl (by omega)) (jr_of rfl (by omega)) (jr_of rfl (by omega)) (jr_of rfl (by omega)) jsa_0 (by omega) (by omega) zp0 zp3 zp1 zp2 J Sm (by rw [jk_16]; exact D))
                ·
                  rw [if_neg (by omega)] at D
                  refine x_iconst (v := 1) rfl ki_1 ?_
                  refine x_goto (tgt := 65) rfl rfl ?_
                  exact jX.sub (jsb_c rfl (jsb_c rfl jsb_n)) (ct_X12_readPlain_r125d_300065 hA hN hD hQ  16 p0 p3 v78 p1 p2 h (jr_of jk_16 (by omega)) (jr_of rfl (by omega)) (jr_of rfl (by omega)) (jr_of rfl (by omega)) (jr_of rfl (by omega)) (jr_of rfl (by omega)) jsa_0 (by omega) (by omega) (by omega) zp0 zp3 qv78 zp1 zp2 J Sm (by rw [jk_16]; exact D))
            ·
              rw [if_pos (by omega)] at D
              refine x_iconst (v := 1) rfl ki_1 ?_
              refine x_goto (tgt := 22) rfl rfl ?_
              refine x_zret rfl rfl (by decide) ?_
              show jX m_X12_plainAt 5 0 0 37 [(0, .ref 125)] [.int 1] _ 0 0 _
              refine x_ifeq (tgt := 45) rfl rfl (ti_eq jk_1 jk_0 (br_f (by omega) ?_))
              refine x_bipush (v := 15) rfl kb_15 ?_
              refine x_goto (tgt := 76) rfl rfl ?_
              refine x_iret rfl rfl ?_
              show jX m_X12_readPlain 6 0 0 44 [(0, .ref 125)] [.int 15] _ 0 0 _
              refine x_istoren (lsx9 := [(1, .int 15), (0, .ref 125)]) rfl rfl rfl ?_
              refine x_iloadn (x := 15) rfl rfl ?_
              refine x_iconst (v := (-1)) rfl ki_m1 ?_
              refine x_iceq (tgt := 93) rfl rfl (ti_eq jk_15 jk_m1 (br_f (by omega) ?_))
              refine x_aloadn (x := 125) rfl rfl ?_
              refine x_aloadn (x := 125) rfl rfl ?_
              refine z_getI (N := 92) 12 52 rfl f_12_542 rfl J rfl sg_125_52_53_1_0_1 (fun v80 qv80 ev80 => ?_)
              try rw [vrf qv80] at D
              refine x_bipush (v := 60) rfl kb_60 ?_
              refine x_icge (tgt := 64) rfl rfl (ti_ge rfl jk_60 ⟨fun c81 => ?_, fun c81 => ?_⟩)
              ·
                rw [if_pos (by omega)] at D
                refine x_iconst (v := 0) rfl ki_0 ?_
                exact jX.sub (jsb_c rfl (jsb_c rfl jsb_n)) (ct_X12_readPlain_r125d_200065 hA hN hD hQ  15 p0 p3 p1 p2 h (jr_of jk_15 (by omega)) (jr_of rfl (by omega)) (jr_of rfl (by omega)) (jr_of rfl (by omega)) (jr_of rfl (by omega)) jsa_0 (by omega) (by omega) zp0 zp3 zp1 zp2 J Sm (by rw [jk_15]; exact D))
              ·
                rw [if_neg (by omega)] at D
                refine x_iconst (v := 1) rfl ki_1 ?_
                refine x_goto (tgt := 65) rfl rfl ?_
                exact jX.sub (jsb_c rfl (jsb_c rfl jsb_n)) (ct_X12_readPlain_r125d_300065 hA hN hD hQ  15 p0 p3 v80 p1 p2 h (jr_of jk_15 (by omega)) (jr_of rfl (by omega)) (jr_of rfl (by omega)) (jr_of rfl (by omega)) (jr_of rfl (by omega)) (jr_of rfl (by omega)) jsa_0 (by omega) (by omega) (by omega) zp0 zp3 qv80 zp1 zp2 J Sm (by rw [jk_15]; exact D))
        ·
          rw [if_pos (by omega)] at D
          refine x_aloadn (x := 125) rfl rfl ?_
          refine z_getLQ (N := 92) 12 12 rfl f_12_224 rfl J rfl (fun v82 qv82 => ?_)
          have ev82 := jfullL v82
          try rw [vrfL qv82] at D
          refine x_lloadn (x := 136228) rfl rfl ?_
          refine z_lcmp rfl rfl jkl_136228 (fun v83 ev83 => ?_)
          refine x_ifne (tgt := 21) rfl rfl (ti_ne rfl jk_0 ⟨fun c84 => ?_, fun c84 => ?_⟩)
          ·
            rw [if_neg (by omega)] at D
            refine x_iconst (v := 0) rfl ki_0 ?_
            refine x_zret rfl rfl (by decide) ?_
            show jX m_X12_plainAt 5 0 0 22 [(0, .ref 125)] [.int 0] _ 0 0 _
            refine x_ifeq (tgt := 30) rfl rfl (ti_eq jk_0 jk_0 (br_t (by omega) ?_))
            refine x_aloadn (x := 125) rfl rfl ?_
            refine x_ldc2 (v := 540146) rfl z_12_527 ?_
            refine x_inv (N := m_X12_isWord) (As := [.long 540146]) (b := 125) (st := []) (dx9 := 4) (mc := 0) (ms := 0) (host := "") 12 rfl t_X12_isWord ⟨Or.inl q_12_511, i_X12_isWord.1, i_X12_isWord.2⟩ ⟨by decide, rfl⟩ (congrArg Prod.fst (J.1.1 125 (12, 92) rfl)) rfl (by decide) rfl rfl ⟨by decide, by decide⟩ (jC.of rfl k_X12_isWord rfl ?_)
            show jX m_X12_isWord 4 0 0 0 [(0, .ref 125), (1, .long 540146)] [] _ 0 0 _
            refine x_aloadn (x := 125) rfl rfl ?_
            refine z_getM (N := 92) (v := p3) 12 11 rfl f_12_235 rfl J rfl zp3 ?_
            refine x_iconst (v := 1) rfl ki_1 ?_
            refine x_icne (tgt := 21) rfl rfl (ti_ne rfl jk_1 (bn_f (by omega) ?_))
            refine x_aloadn (x := 125) rfl rfl ?_
            refine z_getLQ (N := 92) 12 12 rfl f_12_224 rfl J rfl (fun v85 qv85 => ?_)
            have ev85 := jfullL v85
            try have kqv85 : v82.toInt = v85.toInt := ((vrfL qv82).symm.trans (vrfL qv85))
            try rw [kqv85] at D
            try rw [vrfL qv85] at D
            refine x_lloadn (x := 540146) rfl rfl ?_
            refine z_lcmp rfl rfl jkl_540146 (fun v86 ev86 => ?_)
            refine x_ifne (tgt := 21) rfl rfl (ti_ne rfl jk_0 ⟨fun c87 => ?_, fun c87 => ?_⟩)
            ·
              rw [if_neg (by omega)] at D
              refine x_iconst (v := 0) rfl ki_0 ?_
              refine x_zret rfl rfl (by decide) ?_
              show jX m_X12_plainAt 5 0 0 37 [(0, .ref 125)] [.int 0] _ 0 0 _
              refine x_ifeq (tgt := 45) rfl rfl (ti_eq jk_0 jk_0 (br_t (by omega) ?_))
              refine x_aloadn (x := 125) rfl rfl ?_
              refine x_ldc2 (v := 8892563) rfl z_12_529 ?_
              refine x_inv (N := m_X12_isWord) (As := [.long 8892563]) (b := 125) (st := []) (dx9 := 4) (mc := 0) (ms := 0) (host := "") 12 rfl t_X12_isWord ⟨Or.inl q_12_511, i_X12_isWord.1, i_X12_isWord.2⟩ ⟨by decide, rfl⟩ (congrArg Prod.fst (J.1.1 125 (12, 92) rfl)) rfl (by decide) rfl rfl ⟨by decide, by decide⟩ (jC.of rfl k_X12_isWord rfl ?_)
              show jX m_X12_isWord 4 0 0 0 [(0, .ref 125), (1, .long 8892563)] [] _ 0 0 _
              refine x_aloadn (x := 125) rfl rfl ?_
              refine z_getM (N := 92) (v := p3) 12 11 rfl f_12_235 rfl J rfl zp3 ?_
              refine x_iconst (v := 1) rfl ki_1 ?_
              refine x_icne (tgt := 21) rfl rfl (ti_ne rfl jk_1 (bn_f (by omega) ?_))
              refine x_aloadn (x := 125) rfl rfl ?_
              refine z_getLQ (N := 92) 12 12 rfl f_12_224 rfl J rfl (fun v88 qv88 => ?_)
              have ev88 := jfullL v88
              try have kqv88 : v85.toInt = v88.toInt := ((vrfL qv85).symm.trans (vrfL qv88))
              try rw [kqv88] at D
              try rw [vrfL qv88] at D
              refine x_lloadn (x := 8892563) rfl rfl ?_
              refine z_lcmp rfl rfl jkl_8892563 (fun v89 ev89 => ?_)
              refine x_ifne (tgt := 21) rfl rfl (ti_ne rfl jk_0 ⟨fun c90 => ?_, fun c90 => ?_⟩)
              ·
                rw [if_neg (by omega)] at D
                refine x_iconst (v := 0) rfl ki_0 ?_
                refine x_zret rfl rfl (by decide) ?_
                show jX m_X12_plainAt 5 0 0 52 [(0, .ref 125)] [.int 0] _ 0 0 _
                refine x_ifeq (tgt := 60) rfl rfl (ti_eq jk_0 jk_0 (br_t (by omega) ?_))
                refine x_aloadn (x := 125) rfl rfl ?_
                refine x_ldc2 (v := 3490341659812) rfl z_12_531 ?_
                refine x_inv (N := m_X12_isWord) (As := [.long 3490341659812]) (b := 125) (st := []) (dx9 := 4) (mc := 0) (ms := 0) (host := "") 12 rfl t_X12_isWord ⟨Or.inl q_12_511, i_X12_isWord.1, i_X12_isWord.2⟩ ⟨by decide, rfl⟩ (congrArg Prod.fst (J.1.1 125 (12, 92) rfl)) rfl (by decide) rfl rfl ⟨by decide, by decide⟩ (jC.of rfl k_X12_isWord rfl ?_)
                show jX m_X12_isWord 4 0 0 0 [(0, .ref 125), (1, .long 3490341659812)] [] _ 0 0 _
                refine x_aloadn (x := 125) rfl rfl ?_
                refine z_getM (N := 92) (v := p3) 12 11 rfl f_12_235 rfl J rfl zp3 ?_
                refine x_iconst (v := 1) rfl ki_1 ?_
                refine x_icne (tgt := 21) rfl rfl (ti_ne rfl jk_1 (bn_f (by omega) ?_))
                refine x_aloadn (x := 125) rfl rfl ?_
                refine z_getLQ (N := 92) 12 12 rfl f_12_224 rfl J rfl (fun v91 qv91 => ?_)
                have ev91 := jfullL v91
                try have kqv91 : v88.toInt = v91.toInt := ((vrfL qv88).symm.trans (vrfL qv91))
                try rw [kqv91] at D
                try rw [vrfL qv91] at D
                refine x_lloadn (x := 3490341659812) rfl rfl ?_
                refine z_lcmp rfl rfl jkl_3490341659812 (fun v92 ev92 => ?_)
                refine x_ifne (tgt := 21) rfl rfl (ti_ne rfl jk_0 ⟨fun c93 => ?_, fun c93 => ?_⟩)
                ·
                  rw [if_neg (by omega)] at D
                  refine x_iconst (v := 0) rfl ki_0 ?_
                  refine x_zret rfl rfl (by decide) ?_
                  show jX m_X12_plainAt 5 0 0 67 [(0, .ref 125)] [.int 0] _ 0 0 _
                  refine x_ifeq (tgt := 75) rfl rfl (ti_eq jk_0 jk_0 (br_t (by omega) ?_))
                  refine x_iconst (v := (-1)) rfl ki_m1 ?_
                  refine x_iret rfl rfl ?_
                  show jX m_X12_readPlain 6 0 0 44 [(0, .ref 125)] [.int (-1)] _ 0 0 _
                  refine x_istoren (lsx9 := [(1, .int (-1)), (0, .ref 125)]) rfl rfl rfl ?_
                  refine x_iloadn (x := (-1)) rfl rfl ?_
                  refine x_iconst (v := (-1)) rfl ki_m1 ?_
                  refine x_iceq (tgt := 93) rfl rfl (ti_eq jk_m1 jk_m1 (br_t (by omega) ?_))
                  refine x_aloadn (x := 125) rfl rfl ?_
                  refine x_inv (N := m_X12_readSum) (As := []) (b := 125) (st := []) (dx9 := 5) (mc := 0) (ms := 0) (host := "") 12 rfl t_X12_readSum ⟨Or.inl q_12_569, i_X12_readSum.1, i_X12_readSum.2⟩ ⟨by decide, rfl⟩ (congrArg Prod.fst (J.1.1 125 (12, 92) rfl)) rfl (by decide) rfl rfl ⟨by decide, by decide⟩ (sf_X12_readSum_r125d  hA hD J zp0 zp1 zp2 (by omega) zp3 zp2 zp0 (by omega) rfl  (fun v104 h ev104 J S94 u95 u96 u97 qu95 qu96 qu97 ru95 u98 u99 u100 qu98 qu99 qu100 ru98 P101 X102 X103 => ?_))
                  have Sm := jSm_tr rfl Sm S94
                  try rw [X102] at D
                  try rw [X103] at D
                  have eu95 := (show 0 ≤ u95.toInt ∧ u95.toInt ≤ 400 from qu95 ▸ jrg_f J sg_125_10_11_1_0_1)
                  try rw [vrf qu95] at D
                  have eu96 := (show 0 ≤ u96.toInt ∧ u96.toInt ≤ 400 from qu96 ▸ jrg_f J sg_125_8_9_1_0_1)
                  try rw [vrf (jmb_c S94 qu96 rfl)] at D
                  have eu97 := (show 0 ≤ u97.toInt ∧ u97.toInt ≤ 400 from qu97 ▸ jrg_f J sg_125_9_10_1_0_1)
                  try rw [vrf qu97] at D
                  have eu98 := (show 0 ≤ u98.toInt ∧ u98.toInt ≤ 3 from qu98 ▸ jrg_f J sg_125_11_12_1_0_1)
                  try rw [vrf qu98] at D
                  obtain rfl : u97 = u99 := qu97.symm.trans qu99
                  obtain rfl : u95 = u100 := qu95.symm.trans qu100
                  show jX m_X12_readPlain 6 0 0 97 [(1, .int (-1)), (0, .ref 125)] [.int v104] _ 0 0 _
                  refine x_iret rfl rfl ?_
                  exact hQ _ _ (jr_of rfl (by omega)) J Sm _ _ _ qu95 qu96 qu97 (by omega) _ _ _ qu98 qu97 qu95 (by omega) P101 ((congrArg Prod.fst D).symm.trans X102) ((congrArg Prod.snd D).symm.trans X103)
                ·
                  rw [if_pos (by omega)] at D
                  refine x_iconst (v := 1) rfl ki_1 ?_
                  refine x_goto (tgt := 22) rfl rfl ?_
                  refine x_zret rfl rfl (by decide) ?_
                  show jX m_X12_plainAt 5 0 0 67 [(0, .ref 125)] [.int 1] _ 0 0 _
                  refine x_ifeq (tgt := 75) rfl rfl (ti_eq jk_1 jk_0 (br_f (by omega) ?_))
                  refine x_bipush (v := 17) rfl kb_17 ?_
                  refine x_goto (tgt := 76) rfl rfl ?_
                  refine x_iret rfl rfl ?_
                  show jX m_X12_readPlain 6 0 0 44 [(0, .ref 125)] [.int 17] _ 0 0 _
                  refine x_istoren (lsx9 := [(1, .int 17), (0, .ref 125)]) rfl rfl rfl ?_
                  refine x_iloadn (x := 17) rfl rfl ?_
                  refine x_iconst (v := (-1)) rfl ki_m1 ?_
                  refine x_iceq (tgt := 93) rfl rfl (ti_eq jk_17 jk_m1 (br_f (by omega) ?_))
                  refine x_aloadn (x := 125) rfl rfl ?_
                  refine x_aloadn (x := 125) rfl rfl ?_
                  refine z_getI (N := 92) 12 52 rfl f_12_542 rfl J rfl sg_125_52_53_1_0_1 (fun v105 qv105 ev105 => ?_)
                  try rw [vrf qv105] at D
                  refine x_bipush (v := 60) rfl kb_60 ?_
                  refine x_icge (tgt := 64) rfl rfl (ti_ge rfl jk_60 ⟨fun c106 => ?_, fun c106 => ?_⟩)
                  ·
                    rw [if_pos (by omega)] at D
                    refine x_iconst (v := 0) rfl ki_0 ?_
                    exact jX.sub (jsb_c rfl (jsb_c rfl jsb_n)) (ct_X12_readPlain_r125d_200065 hA hN hD hQ  17 p0 p3 p1 p2 h (jr_of jk_17 (by omega)) (jr_of rfl (by omega)) (jr_of rfl (by omega)) (jr_of rfl (by omega)) (jr_of rfl (by omega)) jsa_0 (by omega) (by omega) zp0 zp3 zp1 zp2 J Sm (by rw [jk_17]; exact D))
                  ·
                    rw [if_neg (by omega)] at D
                    refine x_iconst (v := 1) rfl ki_1 ?_
                    refine x_goto (tgt := 65) rfl rfl ?_
                    exact jX.sub (jsb_c rfl (jsb_c rfl jsb_n)) (ct_X12_readPlain_r125d_300065 hA hN hD hQ  17 p0 p3 v105 p1 p2 h (jr_of jk_17 (by omega)) (jr_of rfl (by omega)) (jr_of rfl (by omega)) (jr_of rfl (by omega)) (jr_of rfl (by omega)) (jr_of rfl (by omega)) jsa_0 (by omega) (by omega) (by omega) zp0 zp3 qv105 zp1 zp2 J Sm (by rw [jk_17]; exact D))
              ·
                rw [if_pos (by omega)] at D
                refine x_iconst (v := 1) rfl ki_1 ?_
                refine x_goto (tgt := 22) rfl rfl ?_
                refine x_zret rfl rfl (by decide) ?_
                show jX m_X12_plainAt 5 0 0 52 [(0, .ref 125)] [.int 1] _ 0 0 _
                refine x_ifeq (tgt := 60) rfl rfl (ti_eq jk_1 jk_0 (br_f (by omega) ?_))
                refine x_bipush (v := 16) rfl kb_16 ?_
                refine x_goto (tgt := 76) rfl rfl ?_
                refine x_iret rfl rfl ?_
                show jX m_X12_readPlain 6 0 0 44 [(0, .ref 125)] [.int 16] _ 0 0 _
                refine x_istoren (lsx9 := [(1, .int 16), (0, .ref 125)]) rfl rfl rfl ?_
                refine x_iloadn (x := 16) rfl rfl ?_
                refine x_iconst (v := (-1)) rfl ki_m1 ?_
                refine x_iceq (tgt := 93) rfl rfl (ti_eq jk_16 jk_m1 (br_f (by omega) ?_))
                refine x_aloadn (x := 125) rfl rfl ?_
                refine x_aloadn (x := 125) rfl rfl ?_
                refine z_getI (N := 92) 12 52 rfl f_12_542 rfl J rfl sg_125_52_53_1_0_1 (fun v107 qv107 ev107 => ?_)
                try rw [vrf qv107] at D
                refine x_bipush (v := 60) rfl kb_60 ?_
                refine x_icge (tgt := 64) rfl rfl (ti_ge rfl jk_60 ⟨fun c108 => ?_, fun c108 => ?_⟩)
                ·
                  rw [if_pos (by omega)] at D
                  refine x_iconst (v := 0) rfl ki_0 ?_
                  exact jX.sub (jsb_c rfl (jsb_c rfl jsb_n)) (ct_X12_readPlain_r125d_200065 hA hN hD hQ  16 p0 p3 p1 p2 h (jr_of jk_16 (by omega)) (jr_of rfl (by omega)) (jr_of rfl (by omega)) (jr_of rfl (by omega)) (jr_of rfl (by omega)) jsa_0 (by omega) (by omega) zp0 zp3 zp1 zp2 J Sm (by rw [jk_16]; exact D))
                ·
                  rw [if_neg (by omega)] at D
                  refine x_iconst (v := 1) rfl ki_1 ?_
                  refine x_goto (tgt := 65) rfl rfl ?_
                  exact jX.sub (jsb_c rfl (jsb_c rfl jsb_n)) (ct_X12_readPlain_r125d_300065 hA hN hD hQ  16 p0 p3 v107 p1 p2 h (jr_of jk_16 (by omega)) (jr_of rfl (by omega)) (jr_of rfl (by omega)) (jr_of rfl (by omega)) (jr_of rfl (by omega)) (jr_of rfl (by omega)) jsa_0 (by omega) (by omega) (by omega) zp0 zp3 qv107 zp1 zp2 J Sm (by rw [jk_16]; exact D))
            ·
              rw [if_pos (by omega)] at D
              refine x_iconst (v := 1) rfl ki_1 ?_
              refine x_goto (tgt := 22) rfl rfl ?_
              refine x_zret rfl rfl (by decide) ?_
              show jX m_X12_plainAt 5 0 0 37 [(0, .ref 125)] [.int 1] _ 0 0 _
              refine x_ifeq (tgt := 45) rfl rfl (ti_eq jk_1 jk_0 (br_f (by omega) ?_))
              refine x_bipush (v := 15) rfl kb_15 ?_
              refine x_goto (tgt := 76) rfl rfl ?_
              refine x_iret rfl rfl ?_
              show jX m_X12_readPlain 6 0 0 44 [(0, .ref 125)] [.int 15] _ 0 0 _
              refine x_istoren (lsx9 := [(1, .int 15), (0, .ref 125)]) rfl rfl rfl ?_
              refine x_iloadn (x := 15) rfl rfl ?_
              refine x_iconst (v := (-1)) rfl ki_m1 ?_
              refine x_iceq (tgt := 93) rfl rfl (ti_eq jk_15 jk_m1 (br_f (by omega) ?_))
              refine x_aloadn (x := 125) rfl rfl ?_
              refine x_aloadn (x := 125) rfl rfl ?_
              refine z_getI (N := 92) 12 52 rfl f_12_542 rfl J rfl sg_125_52_53_1_0_1 (fun v109 qv109 ev109 => ?_)
              try rw [vrf qv109] at D
              refine x_bipush (v := 60) rfl kb_60 ?_
              refine x_icge (tgt := 64) rfl rfl (ti_ge rfl jk_60 ⟨fun c110 => ?_, fun c110 => ?_⟩)
              ·
                rw [if_pos (by omega)] at D
                refine x_iconst (v := 0) rfl ki_0 ?_
                exact jX.sub (jsb_c rfl (jsb_c rfl jsb_n)) (ct_X12_readPlain_r125d_200065 hA hN hD hQ  15 p0 p3 p1 p2 h (jr_of jk_15 (by omega)) (jr_of rfl (by omega)) (jr_of rfl (by omega)) (jr_of rfl (by omega)) (jr_of rfl (by omega)) jsa_0 (by omega) (by omega) zp0 zp3 zp1 zp2 J Sm (by rw [jk_15]; exact D))
              ·
                rw [if_neg (by omega)] at D
                refine x_iconst (v := 1) rfl ki_1 ?_
                refine x_goto (tgt := 65) rfl rfl ?_
                exact jX.sub (jsb_c rfl (jsb_c rfl jsb_n)) (ct_X12_readPlain_r125d_300065 hA hN hD hQ  15 p0 p3 v109 p1 p2 h (jr_of jk_15 (by omega)) (jr_of rfl (by omega)) (jr_of rfl (by omega)) (jr_of rfl (by omega)) (jr_of rfl (by omega)) (jr_of rfl (by omega)) jsa_0 (by omega) (by omega) (by omega) zp0 zp3 qv109 zp1 zp2 J Sm (by rw [jk_15]; exact D))
          ·
            rw [if_pos (by omega)] at D
            refine x_iconst (v := 1) rfl ki_1 ?_
            refine x_goto (tgt := 22) rfl rfl ?_
            refine x_zret rfl rfl (by decide) ?_
            show jX m_X12_plainAt 5 0 0 22 [(0, .ref 125)] [.int 1] _ 0 0 _
            refine x_ifeq (tgt := 30) rfl rfl (ti_eq jk_1 jk_0 (br_f (by omega) ?_))
            refine x_bipush (v := 14) rfl kb_14 ?_
            refine x_goto (tgt := 76) rfl rfl ?_
            refine x_iret rfl rfl ?_
            show jX m_X12_readPlain 6 0 0 44 [(0, .ref 125)] [.int 14] _ 0 0 _
            refine x_istoren (lsx9 := [(1, .int 14), (0, .ref 125)]) rfl rfl rfl ?_
            refine x_iloadn (x := 14) rfl rfl ?_
            refine x_iconst (v := (-1)) rfl ki_m1 ?_
            refine x_iceq (tgt := 93) rfl rfl (ti_eq jk_14 jk_m1 (br_f (by omega) ?_))
            refine x_aloadn (x := 125) rfl rfl ?_
            refine x_aloadn (x := 125) rfl rfl ?_
            refine z_getI (N := 92) 12 52 rfl f_12_542 rfl J rfl sg_125_52_53_1_0_1 (fun v111 qv111 ev111 => ?_)
            try rw [vrf qv111] at D
            refine x_bipush (v := 60) rfl kb_60 ?_
            refine x_icge (tgt := 64) rfl rfl (ti_ge rfl jk_60 ⟨fun c112 => ?_, fun c112 => ?_⟩)
            ·
              rw [if_pos (by omega)] at D
              refine x_iconst (v := 0) rfl ki_0 ?_
              exact jX.sub (jsb_c rfl (jsb_c rfl jsb_n)) (ct_X12_readPlain_r125d_200065 hA hN hD hQ  14 p0 p3 p1 p2 h (jr_of jk_14 (by omega)) (jr_of rfl (by omega)) (jr_of rfl (by omega)) (jr_of rfl (by omega)) (jr_of rfl (by omega)) jsa_0 (by omega) (by omega) zp0 zp3 zp1 zp2 J Sm (by rw [jk_14]; exact D))
            ·
              rw [if_neg (by omega)] at D
              refine x_iconst (v := 1) rfl ki_1 ?_
              refine x_goto (tgt := 65) rfl rfl ?_
              exact jX.sub (jsb_c rfl (jsb_c rfl jsb_n)) (ct_X12_readPlain_r125d_300065 hA hN hD hQ  14 p0 p3 v111 p1 p2 h (jr_of jk_14 (by omega)) (jr_of rfl (by omega)) (jr_of rfl (by omega)) (jr_of rfl (by omega)) (jr_of rfl (by omega)) (jr_of rfl (by omega)) jsa_0 (by omega) (by omega) (by omega) zp0 zp3 qv111 zp1 zp2 J Sm (by rw [jk_14]; exact D))
      ·
        rw [if_pos (by omega)] at D
        refine x_aloadn (x := 125) rfl rfl ?_
        refine z_getLQ (N := 92) 12 12 rfl f_12_224 rfl J rfl (fun v113 qv113 => ?_)
        have ev113 := jfullL v113
        try rw [vrfL qv113] at D
        refine x_lloadn (x := 14011671716) rfl rfl ?_
        refine z_lcmp rfl rfl jkl_14011671716 (fun v114 ev114 => ?_)
        refine x_ifne (tgt := 21) rfl rfl (ti_ne rfl jk_0 ⟨fun c115 => ?_, fun c115 => ?_⟩)
        ·
          rw [if_neg (by omega)] at D
          refine x_iconst (v := 0) rfl ki_0 ?_
          refine x_zret rfl rfl (by decide) ?_
          show jX m_X12_plainAt 5 0 0 7 [(0, .ref 125)] [.int 0] _ 0 0 _
          refine x_ifeq (tgt := 15) rfl rfl (ti_eq jk_0 jk_0 (br_t (by omega) ?_))
          refine x_aloadn (x := 125) rfl rfl ?_
          refine x_ldc2 (v := 136228) rfl z_12_525 ?_
          refine x_inv (N := m_X12_isWord) (As := [.long 136228]) (b := 125) (st := []) (dx9 := 4) (mc := 0) (ms := 0) (host := "") 12 rfl t_X12_isWord ⟨Or.inl q_12_511, i_X12_isWord.1, i_X12_isWord.2⟩ ⟨by decide, rfl⟩ (congrArg Prod.fst (J.1.1 125 (12, 92) rfl)) rfl (by decide) rfl rfl ⟨by decide, by decide⟩ (jC.of rfl k_X12_isWord rfl ?_)
          show jX m_X12_isWord 4 0 0 0 [(0, .ref 125), (1, .long 136228)] [] _ 0 0 _
          refine x_aloadn (x := 125) rfl rfl ?_
          refine z_getM (N := 92) (v := p3) 12 11 rfl f_12_235 rfl J rfl zp3 ?_
          refine x_iconst (v := 1) rfl ki_1 ?_
          refine x_icne (tgt := 21) rfl rfl (ti_ne rfl jk_1 (bn_f (by omega) ?_))
          refine x_aloadn (x := 125) rfl rfl ?_
          refine z_getLQ (N := 92) 12 12 rfl f_12_224 rfl J rfl (fun v116 qv116 => ?_)
          have ev116 := jfullL v116
          try have kqv116 : v113.toInt = v116.toInt := ((vrfL qv113).symm.trans (vrfL qv116))
          try rw [kqv116] at D
          try rw [vrfL qv116] at D
          refine x_lloadn (x := 136228) rfl rfl ?_
          refine z_lcmp rfl rfl jkl_136228 (fun v117 ev117 => ?_)
          refine x_ifne (tgt := 21) rfl rfl (ti_ne rfl jk_0 ⟨fun c118 => ?_, fun c118 => ?_⟩)
          ·
            rw [if_neg (by omega)] at D
            refine x_iconst (v := 0) rfl ki_0 ?_
            refine x_zret rfl rfl (by decide) ?_
            show jX m_X12_plainAt 5 0 0 22 [(0, .ref 125)] [.int 0] _ 0 0 _
            refine x_ifeq (tgt := 30) rfl rfl (ti_eq jk_0 jk_0 (br_t (by omega) ?_))
            refine x_aloadn (x := 125) rfl rfl ?_
            refine x_ldc2 (v := 540146) rfl z_12_527 ?_
            refine x_inv (N := m_X12_isWord) (As := [.long 540146]) (b := 125) (st := []) (dx9 := 4) (mc := 0) (ms := 0) (host := "") 12 rfl t_X12_isWord ⟨Or.inl q_12_511, i_X12_isWord.1, i_X12_isWord.2⟩ ⟨by decide, rfl⟩ (congrArg Prod.fst (J.1.1 125 (12, 92) rfl)) rfl (by decide) rfl rfl ⟨by decide, by decide⟩ (jC.of rfl k_X12_isWord rfl ?_)
            show jX m_X12_isWord 4 0 0 0 [(0, .ref 125), (1, .long 540146)] [] _ 0 0 _
            refine x_aloadn (x := 125) rfl rfl ?_
            refine z_getM (N := 92) (v := p3) 12 11 rfl f_12_235 rfl J rfl zp3 ?_
            refine x_iconst (v := 1) rfl ki_1 ?_
            refine x_icne (tgt := 21) rfl rfl (ti_ne rfl jk_1 (bn_f (by omega) ?_))
            refine x_aloadn (x := 125) rfl rfl ?_
            refine z_getLQ (N := 92) 12 12 rfl f_12_224 rfl J rfl (fun v119 qv119 => ?_)
            have ev119 := jfullL v119
            try have kqv119 : v116.toInt = v119.toInt := ((vrfL qv116).symm.trans (vrfL qv119))
            try rw [kqv119] at D
            try rw [vrfL qv119] at D
            refine x_lloadn (x := 540146) rfl rfl ?_
            refine z_lcmp rfl rfl jkl_540146 (fun v120 ev120 => ?_)
            refine x_ifne (tgt := 21) rfl rfl (ti_ne rfl jk_0 ⟨fun c121 => ?_, fun c121 => ?_⟩)
            ·
              rw [if_neg (by omega)] at D
              refine x_iconst (v := 0) rfl ki_0 ?_
              refine x_zret rfl rfl (by decide) ?_
              show jX m_X12_plainAt 5 0 0 37 [(0, .ref 125)] [.int 0] _ 0 0 _
              refine x_ifeq (tgt := 45) rfl rfl (ti_eq jk_0 jk_0 (br_t (by omega) ?_))
              refine x_aloadn (x := 125) rfl rfl ?_
              refine x_ldc2 (v := 8892563) rfl z_12_529 ?_
              refine x_inv (N := m_X12_isWord) (As := [.long 8892563]) (b := 125) (st := []) (dx9 := 4) (mc := 0) (ms := 0) (host := "") 12 rfl t_X12_isWord ⟨Or.inl q_12_511, i_X12_isWord.1, i_X12_isWord.2⟩ ⟨by decide, rfl⟩ (congrArg Prod.fst (J.1.1 125 (12, 92) rfl)) rfl (by decide) rfl rfl ⟨by decide, by decide⟩ (jC.of rfl k_X12_isWord rfl ?_)
              show jX m_X12_isWord 4 0 0 0 [(0, .ref 125), (1, .long 8892563)] [] _ 0 0 _
              refine x_aloadn (x := 125) rfl rfl ?_
              refine z_getM (N := 92) (v := p3) 12 11 rfl f_12_235 rfl J rfl zp3 ?_
              refine x_iconst (v := 1) rfl ki_1 ?_
              refine x_icne (tgt := 21) rfl rfl (ti_ne rfl jk_1 (bn_f (by omega) ?_))
              refine x_aloadn (x := 125) rfl rfl ?_
              refine z_getLQ (N := 92) 12 12 rfl f_12_224 rfl J rfl (fun v122 qv122 => ?_)
              have ev122 := jfullL v122
              try have kqv122 : v119.toInt = v122.toInt := ((vrfL qv119).symm.trans (vrfL qv122))
              try rw [kqv122] at D
              try rw [vrfL qv122] at D
              refine x_lloadn (x := 8892563) rfl rfl ?_
              refine z_lcmp rfl rfl jkl_8892563 (fun v123 ev123 => ?_)
              refine x_ifne (tgt := 21) rfl rfl (ti_ne rfl jk_0 ⟨fun c124 => ?_, fun c124 => ?_⟩)
              ·
                rw [if_neg (by omega)] at D
                refine x_iconst (v := 0) rfl ki_0 ?_
                refine x_zret rfl rfl (by decide) ?_
                show jX m_X12_plainAt 5 0 0 52 [(0, .ref 125)] [.int 0] _ 0 0 _
                refine x_ifeq (tgt := 60) rfl rfl (ti_eq jk_0 jk_0 (br_t (by omega) ?_))
                refine x_aloadn (x := 125) rfl rfl ?_
                refine x_ldc2 (v := 3490341659812) rfl z_12_531 ?_
                refine x_inv (N := m_X12_isWord) (As := [.long 3490341659812]) (b := 125) (st := []) (dx9 := 4) (mc := 0) (ms := 0) (host := "") 12 rfl t_X12_isWord ⟨Or.inl q_12_511, i_X12_isWord.1, i_X12_isWord.2⟩ ⟨by decide, rfl⟩ (congrArg Prod.fst (J.1.1 125 (12, 92) rfl)) rfl (by decide) rfl rfl ⟨by decide, by decide⟩ (jC.of rfl k_X12_isWord rfl ?_)
                show jX m_X12_isWord 4 0 0 0 [(0, .ref 125), (1, .long 3490341659812)] [] _ 0 0 _
                refine x_aloadn (x := 125) rfl rfl ?_
                refine z_getM (N := 92) (v := p3) 12 11 rfl f_12_235 rfl J rfl zp3 ?_
                refine x_iconst (v := 1) rfl ki_1 ?_
                refine x_icne (tgt := 21) rfl rfl (ti_ne rfl jk_1 (bn_f (by omega) ?_))
                refine x_aloadn (x := 125) rfl rfl ?_
                refine z_getLQ (N := 92) 12 12 rfl f_12_224 rfl J rfl (fun v125 qv125 => ?_)
                have ev125 := jfullL v125
                try have kqv125 : v122.toInt = v125.toInt := ((vrfL qv122).symm.trans (vrfL qv125))
                try rw [kqv125] at D
                try rw [vrfL qv125] at D
                refine x_lloadn (x := 3490341659812) rfl rfl ?_
                refine z_lcmp rfl rfl jkl_3490341659812 (fun v126 ev126 => ?_)
                refine x_ifne (tgt := 21) rfl rfl (ti_ne rfl jk_0 ⟨fun c127 => ?_, fun c127 => ?_⟩)
                ·
                  rw [if_neg (by omega)] at D
                  refine x_iconst (v := 0) rfl ki_0 ?_
                  refine x_zret rfl rfl (by decide) ?_
                  show jX m_X12_plainAt 5 0 0 67 [(0, .ref 125)] [.int 0] _ 0 0 _
                  refine x_ifeq (tgt := 75) rfl rfl (ti_eq jk_0 jk_0 (br_t (by omega) ?_))
                  refine x_iconst (v := (-1)) rfl ki_m1 ?_
                  refine x_iret rfl rfl ?_
                  show jX m_X12_readPlain 6 0 0 44 [(0, .ref 125)] [.int (-1)] _ 0 0 _
                  refine x_istoren (lsx9 := [(1, .int (-1)), (0, .ref 125)]) rfl rfl rfl ?_
                  refine x_iloadn (x := (-1)) rfl rfl ?_
                  refine x_iconst (v := (-1)) rfl ki_m1 ?_
                  refine x_iceq (tgt := 93) rfl rfl (ti_eq jk_m1 jk_m1 (br_t (by omega) ?_))
                  refine x_aloadn (x := 125) rfl rfl ?_
                  refine x_inv (N := m_X12_readSum) (As := []) (b := 125) (st := []) (dx9 := 5) (mc := 0) (ms := 0) (host := "") 12 rfl t_X12_readSum ⟨Or.inl q_12_569, i_X12_readSum.1, i_X12_readSum.2⟩ ⟨by decide, rfl⟩ (congrArg Prod.fst (J.1.1 125 (12, 92) rfl)) rfl (by decide) rfl rfl ⟨by decide, by decide⟩ (sf_X12_readSum_r125d  hA hD J zp0 zp1 zp2 (by omega) zp3 zp2 zp0 (by omega) rfl  (fun v138 h ev138 J S128 u129 u130 u131 qu129 qu130 qu131 ru129 u132 u133 u134 qu132 qu133 qu134 ru132 P135 X136 X137 => ?_))
                  have Sm := jSm_tr rfl Sm S128
                  try rw [X136] at D
                  try rw [X137] at D
                  have eu129 := (show 0 ≤ u129.toInt ∧ u129.toInt ≤ 400 from qu129 ▸ jrg_f J sg_125_10_11_1_0_1)
                  try rw [vrf qu129] at D
                  have eu130 := (show 0 ≤ u130.toInt ∧ u130.toInt ≤ 400 from qu130 ▸ jrg_f J sg_125_8_9_1_0_1)
                  try rw [vrf (jmb_c S128 qu130 rfl)] at D
                  have eu131 := (show 0 ≤ u131.toInt ∧ u131.toInt ≤ 400 from qu131 ▸ jrg_f J sg_125_9_10_1_0_1)
                  try rw [vrf qu131] at D
                  have eu132 := (show 0 ≤ u132.toInt ∧ u132.toInt ≤ 3 from qu132 ▸ jrg_f J sg_125_11_12_1_0_1)
                  try rw [vrf qu132] at D
                  obtain rfl : u131 = u133 := qu131.symm.trans qu133
                  obtain rfl : u129 = u134 := qu129.symm.trans qu134
                  show jX m_X12_readPlain 6 0 0 97 [(1, .int (-1)), (0, .ref 125)] [.int v138] _ 0 0 _
                  refine x_iret rfl rfl ?_
                  exact hQ _ _ (jr_of rfl (by omega)) J Sm _ _ _ qu129 qu130 qu131 (by omega) _ _ _ qu132 qu131 qu129 (by omega) P135 ((congrArg Prod.fst D).symm.trans X136) ((congrArg Prod.snd D).symm.trans X137)
                ·
                  rw [if_pos (by omega)] at D
                  refine x_iconst (v := 1) rfl ki_1 ?_
                  refine x_goto (tgt := 22) rfl rfl ?_
                  refine x_zret rfl rfl (by decide) ?_
                  show jX m_X12_plainAt 5 0 0 67 [(0, .ref 125)] [.int 1] _ 0 0 _
                  refine x_ifeq (tgt := 75) rfl rfl (ti_eq jk_1 jk_0 (br_f (by omega) ?_))
                  refine x_bipush (v := 17) rfl kb_17 ?_
                  refine x_goto (tgt := 76) rfl rfl ?_
                  refine x_iret rfl rfl ?_
                  show jX m_X12_readPlain 6 0 0 44 [(0, .ref 125)] [.int 17] _ 0 0 _
                  refine x_istoren (lsx9 := [(1, .int 17), (0, .ref 125)]) rfl rfl rfl ?_
                  refine x_iloadn (x := 17) rfl rfl ?_
                  refine x_iconst (v := (-1)) rfl ki_m1 ?_
                  refine x_iceq (tgt := 93) rfl rfl (ti_eq jk_17 jk_m1 (br_f (by omega) ?_))
                  refine x_aloadn (x := 125) rfl rfl ?_
                  refine x_aloadn (x := 125) rfl rfl ?_
                  refine z_getI (N := 92) 12 52 rfl f_12_542 rfl J rfl sg_125_52_53_1_0_1 (fun v139 qv139 ev139 => ?_)
                  try rw [vrf qv139] at D
                  refine x_bipush (v := 60) rfl kb_60 ?_
                  refine x_icge (tgt := 64) rfl rfl (ti_ge rfl jk_60 ⟨fun c140 => ?_, fun c140 => ?_⟩)
                  ·
                    rw [if_pos (by omega)] at D
                    refine x_iconst (v := 0) rfl ki_0 ?_
                    exact jX.sub (jsb_c rfl (jsb_c rfl jsb_n)) (ct_X12_readPlain_r125d_200065 hA hN hD hQ  17 p0 p3 p1 p2 h (jr_of jk_17 (by omega)) (jr_of rfl (by omega)) (jr_of rfl (by omega)) (jr_of rfl (by omega)) (jr_of rfl (by omega)) jsa_0 (by omega) (by omega) zp0 zp3 zp1 zp2 J Sm (by rw [jk_17]; exact D))
                  ·
                    rw [if_neg (by omega)] at D
                    refine x_iconst (v := 1) rfl ki_1 ?_
                    refine x_goto (tgt := 65) rfl rfl ?_
                    exact jX.sub (jsb_c rfl (jsb_c rfl jsb_n)) (ct_X12_readPlain_r125d_300065 hA hN hD hQ  17 p0 p3 v139 p1 p2 h (jr_of jk_17 (by omega)) (jr_of rfl (by omega)) (jr_of rfl (by omega)) (jr_of rfl (by omega)) (jr_of rfl (by omega)) (jr_of rfl (by omega)) jsa_0 (by omega) (by omega) (by omega) zp0 zp3 qv139 zp1 zp2 J Sm (by rw [jk_17]; exact D))
              ·
                rw [if_pos (by omega)] at D
                refine x_iconst (v := 1) rfl ki_1 ?_
                refine x_goto (tgt := 22) rfl rfl ?_
                refine x_zret rfl rfl (by decide) ?_
                show jX m_X12_plainAt 5 0 0 52 [(0, .ref 125)] [.int 1] _ 0 0 _
                refine x_ifeq (tgt := 60) rfl rfl (ti_eq jk_1 jk_0 (br_f (by omega) ?_))
                refine x_bipush (v := 16) rfl kb_16 ?_
                refine x_goto (tgt := 76) rfl rfl ?_
                refine x_iret rfl rfl ?_
                show jX m_X12_readPlain 6 0 0 44 [(0, .ref 125)] [.int 16] _ 0 0 _
                refine x_istoren (lsx9 := [(1, .int 16), (0, .ref 125)]) rfl rfl rfl ?_
                refine x_iloadn (x := 16) rfl rfl ?_
                refine x_iconst (v := (-1)) rfl ki_m1 ?_
                refine x_iceq (tgt := 93) rfl rfl (ti_eq jk_16 jk_m1 (br_f (by omega) ?_))
                refine x_aloadn (x := 125) rfl rfl ?_
                refine x_aloadn (x := 125) rfl rfl ?_
                refine z_getI (N := 92) 12 52 rfl f_12_542 rfl J rfl sg_125_52_53_1_0_1 (fun v141 qv141 ev141 => ?_)
                try rw [vrf qv141] at D
                refine x_bipush (v := 60) rfl kb_60 ?_
                refine x_icge (tgt := 64) rfl rfl (ti_ge rfl jk_60 ⟨fun c142 => ?_, fun c142 => ?_⟩)
                ·
                  rw [if_pos (by omega)] at D
                  refine x_iconst (v := 0) rfl ki_0 ?_
                  exact jX.sub (jsb_c rfl (jsb_c rfl jsb_n)) (ct_X12_readPlain_r125d_200065 hA hN hD hQ  16 p0 p3 p1 p2 h (jr_of jk_16 (by omega)) (jr_of rfl (by omega)) (jr_of rfl (by omega)) (jr_of rfl (by omega)) (jr_of rfl (by omega)) jsa_0 (by omega) (by omega) zp0 zp3 zp1 zp2 J Sm (by rw [jk_16]; exact D))
                ·
                  rw [if_neg (by omega)] at D
                  refine x_iconst (v := 1) rfl ki_1 ?_
                  refine x_goto (tgt := 65) rfl rfl ?_
                  exact jX.sub (jsb_c rfl (jsb_c rfl jsb_n)) (ct_X12_readPlain_r125d_300065 hA hN hD hQ  16 p0 p3 v141 p1 p2 h (jr_of jk_16 (by omega)) (jr_of rfl (by omega)) (jr_of rfl (by omega)) (jr_of rfl (by omega)) (jr_of rfl (by omega)) (jr_of rfl (by omega)) jsa_0 (by omega) (by omega) (by omega) zp0 zp3 qv141 zp1 zp2 J Sm (by rw [jk_16]; exact D))
            ·
              rw [if_pos (by omega)] at D
              refine x_iconst (v := 1) rfl ki_1 ?_
              refine x_goto (tgt := 22) rfl rfl ?_
              refine x_zret rfl rfl (by decide) ?_
              show jX m_X12_plainAt 5 0 0 37 [(0, .ref 125)] [.int 1] _ 0 0 _
              refine x_ifeq (tgt := 45) rfl rfl (ti_eq jk_1 jk_0 (br_f (by omega) ?_))
              refine x_bipush (v := 15) rfl kb_15 ?_
              refine x_goto (tgt := 76) rfl rfl ?_
              refine x_iret rfl rfl ?_
              show jX m_X12_readPlain 6 0 0 44 [(0, .ref 125)] [.int 15] _ 0 0 _
              refine x_istoren (lsx9 := [(1, .int 15), (0, .ref 125)]) rfl rfl rfl ?_
              refine x_iloadn (x := 15) rfl rfl ?_
              refine x_iconst (v := (-1)) rfl ki_m1 ?_
              refine x_iceq (tgt := 93) rfl rfl (ti_eq jk_15 jk_m1 (br_f (by omega) ?_))
              refine x_aloadn (x := 125) rfl rfl ?_
              refine x_aloadn (x := 125) rfl rfl ?_
              refine z_getI (N := 92) 12 52 rfl f_12_542 rfl J rfl sg_125_52_53_1_0_1 (fun v143 qv143 ev143 => ?_)
              try rw [vrf qv143] at D
              refine x_bipush (v := 60) rfl kb_60 ?_
              refine x_icge (tgt := 64) rfl rfl (ti_ge rfl jk_60 ⟨fun c144 => ?_, fun c144 => ?_⟩)
              ·
                rw [if_pos (by omega)] at D
                refine x_iconst (v := 0) rfl ki_0 ?_
                exact jX.sub (jsb_c rfl (jsb_c rfl jsb_n)) (ct_X12_readPlain_r125d_200065 hA hN hD hQ  15 p0 p3 p1 p2 h (jr_of jk_15 (by omega)) (jr_of rfl (by omega)) (jr_of rfl (by omega)) (jr_of rfl (by omega)) (jr_of rfl (by omega)) jsa_0 (by omega) (by omega) zp0 zp3 zp1 zp2 J Sm (by rw [jk_15]; exact D))
              ·
                rw [if_neg (by omega)] at D
                refine x_iconst (v := 1) rfl ki_1 ?_
                refine x_goto (tgt := 65) rfl rfl ?_
                exact jX.sub (jsb_c rfl (jsb_c rfl jsb_n)) (ct_X12_readPlain_r125d_300065 hA hN hD hQ  15 p0 p3 v143 p1 p2 h (jr_of jk_15 (by omega)) (jr_of rfl (by omega)) (jr_of rfl (by omega)) (jr_of rfl (by omega)) (jr_of rfl (by omega)) (jr_of rfl (by omega)) jsa_0 (by omega) (by omega) (by omega) zp0 zp3 qv143 zp1 zp2 J Sm (by rw [jk_15]; exact D))
          ·
            rw [if_pos (by omega)] at D
            refine x_iconst (v := 1) rfl ki_1 ?_
            refine x_goto (tgt := 22) rfl rfl ?_
            refine x_zret rfl rfl (by decide) ?_
            show jX m_X12_plainAt 5 0 0 22 [(0, .ref 125)] [.int 1] _ 0 0 _
            refine x_ifeq (tgt := 30) rfl rfl (ti_eq jk_1 jk_0 (br_f (by omega) ?_))
            refine x_bipush (v := 14) rfl kb_14 ?_
            refine x_goto (tgt := 76) rfl rfl ?_
            refine x_iret rfl rfl ?_
            show jX m_X12_readPlain 6 0 0 44 [(0, .ref 125)] [.int 14] _ 0 0 _
            refine x_istoren (lsx9 := [(1, .int 14), (0, .ref 125)]) rfl rfl rfl ?_
            refine x_iloadn (x := 14) rfl rfl ?_
            refine x_iconst (v := (-1)) rfl ki_m1 ?_
            refine x_iceq (tgt := 93) rfl rfl (ti_eq jk_14 jk_m1 (br_f (by omega) ?_))
            refine x_aloadn (x := 125) rfl rfl ?_
            refine x_aloadn (x := 125) rfl rfl ?_
            refine z_getI (N := 92) 12 52 rfl f_12_542 rfl J rfl sg_125_52_53_1_0_1 (fun v145 qv145 ev145 => ?_)
            try rw [vrf qv145] at D
            refine x_bipush (v := 60) rfl kb_60 ?_
            refine x_icge (tgt := 64) rfl rfl (ti_ge rfl jk_60 ⟨fun c146 => ?_, fun c146 => ?_⟩)
            ·
              rw [if_pos (by omega)] at D
              refine x_iconst (v := 0) rfl ki_0 ?_
              exact jX.sub (jsb_c rfl (jsb_c rfl jsb_n)) (ct_X12_readPlain_r125d_200065 hA hN hD hQ  14 p0 p3 p1 p2 h (jr_of jk_14 (by omega)) (jr_of rfl (by omega)) (jr_of rfl (by omega)) (jr_of rfl (by omega)) (jr_of rfl (by omega)) jsa_0 (by omega) (by omega) zp0 zp3 zp1 zp2 J Sm (by rw [jk_14]; exact D))
            ·
              rw [if_neg (by omega)] at D
              refine x_iconst (v := 1) rfl ki_1 ?_
              refine x_goto (tgt := 65) rfl rfl ?_
              exact jX.sub (jsb_c rfl (jsb_c rfl jsb_n)) (ct_X12_readPlain_r125d_300065 hA hN hD hQ  14 p0 p3 v145 p1 p2 h (jr_of jk_14 (by omega)) (jr_of rfl (by omega)) (jr_of rfl (by omega)) (jr_of rfl (by omega)) (jr_of rfl (by omega)) (jr_of rfl (by omega)) jsa_0 (by omega) (by omega) (by omega) zp0 zp3 qv145 zp1 zp2 J Sm (by rw [jk_14]; exact D))
        ·
          rw [if_pos (by omega)] at D
          refine x_iconst (v := 1) rfl ki_1 ?_
          refine x_goto (tgt := 22) rfl rfl ?_
          refine x_zret rfl rfl (by decide) ?_
          show jX m_X12_plainAt 5 0 0 7 [(0, .ref 125)] [.int 1] _ 0 0 _
          refine x_ifeq (tgt := 15) rfl rfl (ti_eq jk_1 jk_0 (br_f (by omega) ?_))
          refine x_bipush (v := 13) rfl kb_13 ?_
          refine x_goto (tgt := 76) rfl rfl ?_
          refine x_iret rfl rfl ?_
          show jX m_X12_readPlain 6 0 0 44 [(0, .ref 125)] [.int 13] _ 0 0 _
          refine x_istoren (lsx9 := [(1, .int 13), (0, .ref 125)]) rfl rfl rfl ?_
          refine x_iloadn (x := 13) rfl rfl ?_
          refine x_iconst (v := (-1)) rfl ki_m1 ?_
          refine x_iceq (tgt := 93) rfl rfl (ti_eq jk_13 jk_m1 (br_f (by omega) ?_))
          refine x_aloadn (x := 125) rfl rfl ?_
          refine x_aloadn (x := 125) rfl rfl ?_
          refine z_getI (N := 92) 12 52 rfl f_12_542 rfl J rfl sg_125_52_53_1_0_1 (fun v147 qv147 ev147 => ?_)
          try rw [vrf qv147] at D
          refine x_bipush (v := 60) rfl kb_60 ?_
          refine x_icge (tgt := 64) rfl rfl (ti_ge rfl jk_60 ⟨fun c148 => ?_, fun c148 => ?_⟩)
          ·
            rw [if_pos (by omega)] at D
            refine x_iconst (v := 0) rfl ki_0 ?_
            exact jX.sub (jsb_c rfl (jsb_c rfl jsb_n)) (ct_X12_readPlain_r125d_200065 hA hN hD hQ  13 p0 p3 p1 p2 h (jr_of jk_13 (by omega)) (jr_of rfl (by omega)) (jr_of rfl (by omega)) (jr_of rfl (by omega)) (jr_of rfl (by omega)) jsa_0 (by omega) (by omega) zp0 zp3 zp1 zp2 J Sm (by rw [jk_13]; exact D))
          ·
            rw [if_neg (by omega)] at D
            refine x_iconst (v := 1) rfl ki_1 ?_
            refine x_goto (tgt := 65) rfl rfl ?_
            exact jX.sub (jsb_c rfl (jsb_c rfl jsb_n)) (ct_X12_readPlain_r125d_300065 hA hN hD hQ  13 p0 p3 v147 p1 p2 h (jr_of jk_13 (by omega)) (jr_of rfl (by omega)) (jr_of rfl (by omega)) (jr_of rfl (by omega)) (jr_of rfl (by omega)) (jr_of rfl (by omega)) jsa_0 (by omega) (by omega) (by omega) zp0 zp3 qv147 zp1 zp2 J Sm (by rw [jk_13]; exact D))
    ·
      rw [if_pos (by omega)] at D
      refine x_aloadn (x := 125) rfl rfl ?_
      refine z_getLQ (N := 92) 12 12 rfl f_12_224 rfl J rfl (fun v149 qv149 => ?_)
      have ev149 := jfullL v149
      try rw [vrfL qv149] at D
      refine x_iloadn (x := 40) rfl rfl ?_
      refine z_i2l rfl jk_40 (fun v150 ev150 => ?_)
      refine z_lcmp rfl rfl rfl (fun v151 ev151 => ?_)
      refine x_ifne (tgt := 22) rfl rfl (ti_ne rfl jk_0 ⟨fun c152 => ?_, fun c152 => ?_⟩)
      ·
        rw [if_neg (by omega)] at D
        refine x_iconst (v := 0) rfl ki_0 ?_
        refine x_zret rfl rfl (by decide) ?_
        show jX m_X12_readPlain 6 0 0 29 [(0, .ref 125)] [.int 0] _ 0 0 _
        refine x_ifeq (tgt := 40) rfl rfl (ti_eq jk_0 jk_0 (br_t (by omega) ?_))
        refine x_aloadn (x := 125) rfl rfl ?_
        refine x_inv (N := m_X12_plainAt) (As := []) (b := 125) (st := []) (dx9 := 5) (mc := 0) (ms := 0) (host := "") 12 rfl t_X12_plainAt ⟨Or.inl q_12_566, i_X12_plainAt.1, i_X12_plainAt.2⟩ ⟨by decide, rfl⟩ (congrArg Prod.fst (J.1.1 125 (12, 92) rfl)) rfl (by decide) rfl rfl ⟨by decide, by decide⟩ (jC.of rfl k_X12_plainAt rfl ?_)
        show jX m_X12_plainAt 5 0 0 0 [(0, .ref 125)] [] _ 0 0 _
        refine x_aloadn (x := 125) rfl rfl ?_
        refine x_ldc2 (v := 14011671716) rfl z_12_523 ?_
        refine x_inv (N := m_X12_isWord) (As := [.long 14011671716]) (b := 125) (st := []) (dx9 := 4) (mc := 0) (ms := 0) (host := "") 12 rfl t_X12_isWord ⟨Or.inl q_12_511, i_X12_isWord.1, i_X12_isWord.2⟩ ⟨by decide, rfl⟩ (congrArg Prod.fst (J.1.1 125 (12, 92) rfl)) rfl (by decide) rfl rfl ⟨by decide, by decide⟩ (jC.of rfl k_X12_isWord rfl ?_)
        show jX m_X12_isWord 4 0 0 0 [(0, .ref 125), (1, .long 14011671716)] [] _ 0 0 _
        refine x_aloadn (x := 125) rfl rfl ?_
        refine z_getM (N := 92) (v := p3) 12 11 rfl f_12_235 rfl J rfl zp3 ?_
        refine x_iconst (v := 1) rfl ki_1 ?_
        refine x_icne (tgt := 21) rfl rfl (ti_ne rfl jk_1 (bn_t (by omega) ?_))
        refine x_iconst (v := 0) rfl ki_0 ?_
        refine x_zret rfl rfl (by decide) ?_
        show jX m_X12_plainAt 5 0 0 7 [(0, .ref 125)] [.int 0] _ 0 0 _
        refine x_ifeq (tgt := 15) rfl rfl (ti_eq jk_0 jk_0 (br_t (by omega) ?_))
        refine x_aloadn (x := 125) rfl rfl ?_
        refine x_ldc2 (v := 136228) rfl z_12_525 ?_
        refine x_inv (N := m_X12_isWord) (As := [.long 136228]) (b := 125) (st := []) (dx9 := 4) (mc := 0) (ms := 0) (host := "") 12 rfl t_X12_isWord ⟨Or.inl q_12_511, i_X12_isWord.1, i_X12_isWord.2⟩ ⟨by decide, rfl⟩ (congrArg Prod.fst (J.1.1 125 (12, 92) rfl)) rfl (by decide) rfl rfl ⟨by decide, by decide⟩ (jC.of rfl k_X12_isWord rfl ?_)
        show jX m_X12_isWord 4 0 0 0 [(0, .ref 125), (1, .long 136228)] [] _ 0 0 _
        refine x_aloadn (x := 125) rfl rfl ?_
        refine z_getM (N := 92) (v := p3) 12 11 rfl f_12_235 rfl J rfl zp3 ?_
        refine x_iconst (v := 1) rfl ki_1 ?_
        refine x_icne (tgt := 21) rfl rfl (ti_ne rfl jk_1 (bn_t (by omega) ?_))
        refine x_iconst (v := 0) rfl ki_0 ?_
        refine x_zret rfl rfl (by decide) ?_
        show jX m_X12_plainAt 5 0 0 22 [(0, .ref 125)] [.int 0] _ 0 0 _
        refine x_ifeq (tgt := 30) rfl rfl (ti_eq jk_0 jk_0 (br_t (by omega) ?_))
        refine x_aloadn (x := 125) rfl rfl ?_
        refine x_ldc2 (v := 540146) rfl z_12_527 ?_
        refine x_inv (N := m_X12_isWord) (As := [.long 540146]) (b := 125) (st := []) (dx9 := 4) (mc := 0) (ms := 0) (host := "") 12 rfl t_X12_isWord ⟨Or.inl q_12_511, i_X12_isWord.1, i_X12_isWord.2⟩ ⟨by decide, rfl⟩ (congrArg Prod.fst (J.1.1 125 (12, 92) rfl)) rfl (by decide) rfl rfl ⟨by decide, by decide⟩ (jC.of rfl k_X12_isWord rfl ?_)
        show jX m_X12_isWord 4 0 0 0 [(0, .ref 125), (1, .long 540146)] [] _ 0 0 _
        refine x_aloadn (x := 125) rfl rfl ?_
        refine z_getM (N := 92) (v := p3) 12 11 rfl f_12_235 rfl J rfl zp3 ?_
        refine x_iconst (v := 1) rfl ki_1 ?_
        refine x_icne (tgt := 21) rfl rfl (ti_ne rfl jk_1 (bn_t (by omega) ?_))
        refine x_iconst (v := 0) rfl ki_0 ?_
        refine x_zret rfl rfl (by decide) ?_
        show jX m_X12_plainAt 5 0 0 37 [(0, .ref 125)] [.int 0] _ 0 0 _
        refine x_ifeq (tgt := 45) rfl rfl (ti_eq jk_0 jk_0 (br_t (by omega) ?_))
        refine x_aloadn (x := 125) rfl rfl ?_
        refine x_ldc2 (v := 8892563) rfl z_12_529 ?_
        refine x_inv (N := m_X12_isWord) (As := [.long 8892563]) (b := 125) (st := []) (dx9 := 4) (mc := 0) (ms := 0) (host := "") 12 rfl t_X12_isWord ⟨Or.inl q_12_511, i_X12_isWord.1, i_X12_isWord.2⟩ ⟨by decide, rfl⟩ (congrArg Prod.fst (J.1.1 125 (12, 92) rfl)) rfl (by decide) rfl rfl ⟨by decide, by decide⟩ (jC.of rfl k_X12_isWord rfl ?_)
        show jX m_X12_isWord 4 0 0 0 [(0, .ref 125), (1, .long 8892563)] [] _ 0 0 _
        refine x_aloadn (x := 125) rfl rfl ?_
        refine z_getM (N := 92) (v := p3) 12 11 rfl f_12_235 rfl J rfl zp3 ?_
        refine x_iconst (v := 1) rfl ki_1 ?_
        refine x_icne (tgt := 21) rfl rfl (ti_ne rfl jk_1 (bn_t (by omega) ?_))
        refine x_iconst (v := 0) rfl ki_0 ?_
        refine x_zret rfl rfl (by decide) ?_
        show jX m_X12_plainAt 5 0 0 52 [(0, .ref 125)] [.int 0] _ 0 0 _
        refine x_ifeq (tgt := 60) rfl rfl (ti_eq jk_0 jk_0 (br_t (by omega) ?_))
        refine x_aloadn (x := 125) rfl rfl ?_
        refine x_ldc2 (v := 3490341659812) rfl z_12_531 ?_
        refine x_inv (N := m_X12_isWord) (As := [.long 3490341659812]) (b := 125) (st := []) (dx9 := 4) (mc := 0) (ms := 0) (host := "") 12 rfl t_X12_isWord ⟨Or.inl q_12_511, i_X12_isWord.1, i_X12_isWord.2⟩ ⟨by decide, rfl⟩ (congrArg Prod.fst (J.1.1 125 (12, 92) rfl)) rfl (by decide) rfl rfl ⟨by decide, by decide⟩ (jC.of rfl k_X12_isWord rfl ?_)
        show jX m_X12_isWord 4 0 0 0 [(0, .ref 125), (1, .long 3490341659812)] [] _ 0 0 _
        refine x_aloadn (x := 125) rfl rfl ?_
        refine z_getM (N := 92) (v := p3) 12 11 rfl f_12_235 rfl J rfl zp3 ?_
        refine x_iconst (v := 1) rfl ki_1 ?_
        refine x_icne (tgt := 21) rfl rfl (ti_ne rfl jk_1 (bn_t (by omega) ?_))
        refine x_iconst (v := 0) rfl ki_0 ?_
        refine x_zret rfl rfl (by decide) ?_
        show jX m_X12_plainAt 5 0 0 67 [(0, .ref 125)] [.int 0] _ 0 0 _
        refine x_ifeq (tgt := 75) rfl rfl (ti_eq jk_0 jk_0 (br_t (by omega) ?_))
        refine x_iconst (v := (-1)) rfl ki_m1 ?_
        refine x_iret rfl rfl ?_
        show jX m_X12_readPlain 6 0 0 44 [(0, .ref 125)] [.int (-1)] _ 0 0 _
        refine x_istoren (lsx9 := [(1, .int (-1)), (0, .ref 125)]) rfl rfl rfl ?_
        refine x_iloadn (x := (-1)) rfl rfl ?_
        refine x_iconst (v := (-1)) rfl ki_m1 ?_
        refine x_iceq (tgt := 93) rfl rfl (ti_eq jk_m1 jk_m1 (br_t (by omega) ?_))
        refine x_aloadn (x := 125) rfl rfl ?_
        refine x_inv (N := m_X12_readSum) (As := []) (b := 125) (st := []) (dx9 := 5) (mc := 0) (ms := 0) (host := "") 12 rfl t_X12_readSum ⟨Or.inl q_12_569, i_X12_readSum.1, i_X12_readSum.2⟩ ⟨by decide, rfl⟩ (congrArg Prod.fst (J.1.1 125 (12, 92) rfl)) rfl (by decide) rfl rfl ⟨by decide, by decide⟩ (sf_X12_readSum_r125d  hA hD J zp0 zp1 zp2 (by omega) zp3 zp2 zp0 (by omega) rfl  (fun v163 h ev163 J S153 u154 u155 u156 qu154 qu155 qu156 ru154 u157 u158 u159 qu157 qu158 qu159 ru157 P160 X161 X162 => ?_))
        have Sm := jSm_tr rfl Sm S153
        try rw [X161] at D
        try rw [X162] at D
        have eu154 := (show 0 ≤ u154.toInt ∧ u154.toInt ≤ 400 from qu154 ▸ jrg_f J sg_125_10_11_1_0_1)
        try rw [vrf qu154] at D
        have eu155 := (show 0 ≤ u155.toInt ∧ u155.toInt ≤ 400 from qu155 ▸ jrg_f J sg_125_8_9_1_0_1)
        try rw [vrf (jmb_c S153 qu155 rfl)] at D
        have eu156 := (show 0 ≤ u156.toInt ∧ u156.toInt ≤ 400 from qu156 ▸ jrg_f J sg_125_9_10_1_0_1)
        try rw [vrf qu156] at D
        have eu157 := (show 0 ≤ u157.toInt ∧ u157.toInt ≤ 3 from qu157 ▸ jrg_f J sg_125_11_12_1_0_1)
        try rw [vrf qu157] at D
        obtain rfl : u156 = u158 := qu156.symm.trans qu158
        obtain rfl : u154 = u159 := qu154.symm.trans qu159
        show jX m_X12_readPlain 6 0 0 97 [(1, .int (-1)), (0, .ref 125)] [.int v163] _ 0 0 _
        refine x_iret rfl rfl ?_
        exact hQ _ _ (jr_of rfl (by omega)) J Sm _ _ _ qu154 qu155 qu156 (by omega) _ _ _ qu157 qu156 qu154 (by omega) P160 ((congrArg Prod.fst D).symm.trans X161) ((congrArg Prod.snd D).symm.trans X162)
      ·
        rw [if_pos (by omega)] at D
        refine x_iconst (v := 1) rfl ki_1 ?_
        refine x_goto (tgt := 23) rfl rfl ?_
        refine x_zret rfl rfl (by decide) ?_
        show jX m_X12_readPlain 6 0 0 29 [(0, .ref 125)] [.int 1] _ 0 0 _
        refine x_ifeq (tgt := 40) rfl rfl (ti_eq jk_1 jk_0 (br_f (by omega) ?_))
        refine x_aloadn (x := 125) rfl rfl ?_
        refine x_bipush (v := 30) rfl kb_30 ?_
        refine x_inv (N := m_X12_open) (As := [.int 30]) (b := 125) (st := []) (dx9 := 5) (mc := 0) (ms := 0) (host := "") 12 rfl t_X12_open ⟨Or.inl q_12_563, i_X12_open.1, i_X12_open.2⟩ ⟨by decide, rfl⟩ (congrArg Prod.fst (J.1.1 125 (12, 92) rfl)) rfl (by decide) rfl rfl ⟨by decide, by decide⟩ (jC.of rfl k_X12_open rfl ?_)
        show jX m_X12_open 5 0 0 0 [(0, .ref 125), (1, .int 30)] [] _ 0 0 _
        refine x_aloadn (x := 125) rfl rfl ?_
        refine x_aloadn (x := 125) rfl rfl ?_
        refine z_getI0 (N := 92) 12 56 rfl f_12_533 rfl J rfl (fun v164 qv164 => ?_)
        have ev164 := jfull v164
        try rw [vrf qv164] at D
        refine x_bipush (v := 8) rfl kb_8 ?_
        refine x_icge (tgt := 14) rfl rfl (ti_ge rfl jk_8 ⟨fun c165 => ?_, fun c165 => ?_⟩)
        ·
          rw [if_pos (by omega)] at D
          refine x_iconst (v := 0) rfl ki_0 ?_
          refine x_inv (N := m_X12_must) (As := [.int 0]) (b := 125) (st := []) (dx9 := 4) (mc := 0) (ms := 0) (host := "") 12 rfl t_X12_must ⟨Or.inl q_12_250, i_X12_must.1, i_X12_must.2⟩ ⟨by decide, rfl⟩ (congrArg Prod.fst (J.1.1 125 (12, 92) rfl)) rfl (by decide) rfl rfl ⟨by decide, by decide⟩ (jC.of rfl k_X12_must rfl ?_)
          show jX m_X12_must 4 0 0 0 [(0, .ref 125), (1, .int 0)] [] _ 0 0 _
          refine x_aloadn (x := 125) rfl rfl ?_
          refine z_getI (N := 92) 12 14 rfl f_12_214 rfl J rfl sg_125_14_15_1_0_1 (fun v166 qv166 ev166 => ?_)
          try rw [vrf qv166] at D
          refine x_ifne (tgt := 24) rfl rfl (ti_ne rfl jk_0 ⟨fun c167 => ?_, fun c167 => ?_⟩)
          ·
            rw [if_neg (by omega)] at D
            refine x_aloadn (x := 125) rfl rfl ?_
            refine z_getM (N := 92) (v := v166) 12 14 rfl f_12_214 rfl J rfl qv166 ?_
            refine x_ifne (tgt := 35) rfl rfl (ti_ne rfl jk_0 (bn_t (by omega) ?_))
            refine x_vret rfl rfl ?_
            show jX m_X12_open 5 0 0 18 [(0, .ref 125), (1, .int 30)] [] _ 0 0 _
            refine x_aloadn (x := 125) rfl rfl ?_
            refine z_getM (N := 92) (v := v166) 12 14 rfl f_12_214 rfl J rfl qv166 ?_
            refine x_ifne (tgt := 41) rfl rfl (ti_ne rfl jk_0 (bn_t (by omega) ?_))
            refine x_vret rfl rfl ?_
            show jX m_X12_readPlain 6 0 0 38 [(0, .ref 125)] [] _ 0 0 _
            refine x_iconst (v := 0) rfl ki_0 ?_
            refine x_iret rfl rfl ?_
            exact hQ _ _ (jr_of jk_0 (by omega)) J Sm _ _ _ zp0 zp1 zp2 (by omega) _ _ _ zp3 zp2 zp0 (by omega) (by rw [jk_0]; exact jmu_tb (jmu_bad hA jeq_0 jeq_0 jeq_0 jeq_0 rfl rfl rfl qv166 (by omega)) qv166 (by omega)) ((congrArg Prod.fst D).symm.trans (show 0 = (0 : Int32).toInt from by have := jk_0; omega)) (congrArg Prod.snd D).symm
          ·
            rw [if_pos (by omega)] at D
            refine x_iloadn (x := 0) rfl rfl ?_
            refine x_ifne (tgt := 24) rfl rfl (ti_ne jk_0 jk_0 (bn_f (by omega) ?_))
            refine x_aloadn (x := 125) rfl rfl ?_
            refine x_iconst (v := 1) rfl ki_1 ?_
            refine z_putZ (N := 92) (w := 1) 12 14 rfl f_12_214 rfl (jfin_no TX12 RX12 92 rfl rfl) hD J Sm rfl rfl jk_1 (by omega) (pw_125_14 (by omega)) rfl (fun h w168 J Sm => ?_)
            rw [vwf w168 (show 1 = (1 : Int32).toInt from by have := jk_1; omega)] at D
            refine x_aloadn (x := 125) rfl rfl ?_
            refine x_aloadn (x := 125) rfl rfl ?_
            refine z_getM (N := 92) (v := p2) 12 9 rfl f_12_221 rfl J rfl (jmo w168 rfl zp2) ?_
            refine z_putI (N := 92) (w := p2.toInt) 12 13 rfl f_12_32 rfl (jfin_no TX12 RX12 92 rfl rfl) hD J Sm rfl rfl rfl (pw_125_13 (by omega)) rfl (fun h w169 J Sm => ?_)
            rw [vwf w169 (show p2.toInt = p2.toInt from by omega)] at D
            refine x_aloadn (x := 125) rfl rfl ?_
            refine z_getM (N := 92) (v := 1) 12 14 rfl f_12_214 rfl J rfl (jmo w169 rfl (jmw w168)) ?_
            refine x_ifne (tgt := 35) rfl rfl (ti_ne jk_1 jk_0 (bn_t (by omega) ?_))
            refine x_vret rfl rfl ?_
            show jX m_X12_open 5 0 0 18 [(0, .ref 125), (1, .int 30)] [] _ 0 0 _
            refine x_aloadn (x := 125) rfl rfl ?_
            refine z_getM (N := 92) (v := 1) 12 14 rfl f_12_214 rfl J rfl (jmo w169 rfl (jmw w168)) ?_
            refine x_ifne (tgt := 41) rfl rfl (ti_ne jk_1 jk_0 (bn_t (by omega) ?_))
            refine x_vret rfl rfl ?_
            show jX m_X12_readPlain 6 0 0 38 [(0, .ref 125)] [] _ 0 0 _
            refine x_iconst (v := 0) rfl ki_0 ?_
            refine x_iret rfl rfl ?_
            exact hQ _ _ (jr_of jk_0 (by omega)) J Sm _ _ _ (jmo w169 rfl (jmo w168 rfl zp0)) (jmo w169 rfl (jmo w168 rfl zp1)) (jmo w169 rfl (jmo w168 rfl zp2)) (by omega) _ _ _ (jmo w169 rfl (jmo w168 rfl zp3)) (jmo w169 rfl (jmo w168 rfl zp2)) (jmo w169 rfl (jmo w168 rfl zp0)) (by omega) (by rw [jk_0]; exact jmu_tb (jmu_bad hA (jeq_o w169 rfl (jeq_o w168 rfl jeq_0)) (jeq_o w169 rfl (jeq_o w168 rfl jeq_0)) (jeq_o w169 rfl (jeq_o w168 rfl jeq_0)) (jeq_o w169 rfl (jeq_o w168 rfl jeq_0)) (jmo w169 rfl (jmo w168 rfl rfl)) (jmo w169 rfl (jmo w168 rfl rfl)) (jmo w169 rfl (jmo w168 rfl rfl)) (jmo w169 rfl (jmw w168)) (by decide)) (jmo w169 rfl (jmw w168)) (by decide)) ((congrArg Prod.fst D).symm.trans (show 0 = (0 : Int32).toInt from by have := jk_0; omega)) (congrArg Prod.snd D).symm
        ·
          rw [if_neg (by omega)] at D
          refine x_iconst (v := 1) rfl ki_1 ?_
          refine x_goto (tgt := 15) rfl rfl ?_
          refine x_inv (N := m_X12_must) (As := [.int 1]) (b := 125) (st := []) (dx9 := 4) (mc := 0) (ms := 0) (host := "") 12 rfl t_X12_must ⟨Or.inl q_12_250, i_X12_must.1, i_X12_must.2⟩ ⟨by decide, rfl⟩ (congrArg Prod.fst (J.1.1 125 (12, 92) rfl)) rfl (by decide) rfl rfl ⟨by decide, by decide⟩ (jC.of rfl k_X12_must rfl ?_)
          show jX m_X12_must 4 0 0 0 [(0, .ref 125), (1, .int 1)] [] _ 0 0 _
          refine x_aloadn (x := 125) rfl rfl ?_
          refine z_getI (N := 92) 12 14 rfl f_12_214 rfl J rfl sg_125_14_15_1_0_1 (fun v170 qv170 ev170 => ?_)
          try rw [vrf qv170] at D
          refine x_ifne (tgt := 24) rfl rfl (ti_ne rfl jk_0 ⟨fun c171 => ?_, fun c171 => ?_⟩)
          ·
            rw [if_neg (by omega)] at D
            refine x_aloadn (x := 125) rfl rfl ?_
            refine z_getM (N := 92) (v := v170) 12 14 rfl f_12_214 rfl J rfl qv170 ?_
            refine x_ifne (tgt := 35) rfl rfl (ti_ne rfl jk_0 (bn_t (by omega) ?_))
            refine x_vret rfl rfl ?_
            show jX m_X12_open 5 0 0 18 [(0, .ref 125), (1, .int 30)] [] _ 0 0 _
            refine x_aloadn (x := 125) rfl rfl ?_
            refine z_getM (N := 92) (v := v170) 12 14 rfl f_12_214 rfl J rfl qv170 ?_
            refine x_ifne (tgt := 41) rfl rfl (ti_ne rfl jk_0 (bn_t (by omega) ?_))
            refine x_vret rfl rfl ?_
            show jX m_X12_readPlain 6 0 0 38 [(0, .ref 125)] [] _ 0 0 _
            refine x_iconst (v := 0) rfl ki_0 ?_
            refine x_iret rfl rfl ?_
            exact hQ _ _ (jr_of jk_0 (by omega)) J Sm _ _ _ zp0 zp1 zp2 (by omega) _ _ _ zp3 zp2 zp0 (by omega) (by rw [jk_0]; exact jmu_tb (jmu_bad hA jeq_0 jeq_0 jeq_0 jeq_0 rfl rfl rfl qv170 (by omega)) qv170 (by omega)) ((congrArg Prod.fst D).symm.trans (show 0 = (0 : Int32).toInt from by have := jk_0; omega)) (congrArg Prod.snd D).symm
          ·
            rw [if_pos (by omega)] at D
            refine x_iloadn (x := 1) rfl rfl ?_
            refine x_ifne (tgt := 24) rfl rfl (ti_ne jk_1 jk_0 (bn_t (by omega) ?_))
            refine x_aloadn (x := 125) rfl rfl ?_
            refine z_getM (N := 92) (v := v170) 12 14 rfl f_12_214 rfl J rfl qv170 ?_
            refine x_ifne (tgt := 35) rfl rfl (ti_ne rfl jk_0 (bn_f (by omega) ?_))
            refine x_aloadn (x := 125) rfl rfl ?_
            refine x_inv (N := m_X12_next) (As := []) (b := 125) (st := []) (dx9 := 2) (mc := 0) (ms := 0) (host := "") 12 rfl t_X12_next ⟨Or.inl q_12_218, i_X12_next.1, i_X12_next.2⟩ ⟨by decide, rfl⟩ (congrArg Prod.fst (J.1.1 125 (12, 92) rfl)) rfl (by decide) rfl rfl ⟨by decide, by decide⟩ (sf_X12_next_r125d  hD J zp0 zp1 (by omega) rfl  (fun h J S172 u173 u174 u175 qu173 qu174 qu175 ru173 u176 u177 u178 qu176 qu177 qu178 ru176 P179 X180 => ?_))
            have Sm := jSm_tr rfl Sm S172
            rw [X180] at D
            have eu173 := (show 0 ≤ u173.toInt ∧ u173.toInt ≤ 400 from qu173 ▸ jrg_f J sg_125_10_11_1_0_1)
            try rw [vrf qu173] at D
            have eu174 := (show 0 ≤ u174.toInt ∧ u174.toInt ≤ 400 from qu174 ▸ jrg_f J sg_125_8_9_1_0_1)
            try rw [vrf (jmb_c S172 qu174 rfl)] at D
            have eu175 := (show 0 ≤ u175.toInt ∧ u175.toInt ≤ 400 from qu175 ▸ jrg_f J sg_125_9_10_1_0_1)
            try rw [vrf qu175] at D
            have eu176 := (show 0 ≤ u176.toInt ∧ u176.toInt ≤ 3 from qu176 ▸ jrg_f J sg_125_11_12_1_0_1)
            try rw [vrf qu176] at D
            obtain rfl : u175 = u177 := qu175.symm.trans qu177
            obtain rfl : u173 = u178 := qu173.symm.trans qu178
            have nfP179 := jnf P179.1 zp0 qu175
            show jX m_X12_must 4 0 0 35 [(0, .ref 125), (1, .int 1)] [] _ 0 0 _
            refine x_vret rfl rfl ?_
            show jX m_X12_open 5 0 0 18 [(0, .ref 125), (1, .int 30)] [] _ 0 0 _
            refine x_aloadn (x := 125) rfl rfl ?_
            refine z_getM (N := 92) (v := v170) 12 14 rfl f_12_214 rfl J rfl (jmc S172 rfl qv170) ?_
            refine x_ifne (tgt := 41) rfl rfl (ti_ne rfl jk_0 (bn_f (by omega) ?_))
            obtain ⟨u181, qu181⟩ : ∃ v : Int32, jiv h 125 55 = v := ⟨_, rfl⟩
            have eu181 := (show 0 ≤ u181.toInt ∧ u181.toInt ≤ 400 from qu181 ▸ jrg_f J sg_125_55_56_1_0_1)
            try rw [vrf (jmb_c S172 qu181 rfl)] at D
            have lx := jmu_l (jmu_on hA (jeq_c S172 rfl jeq_0) (jeq_c S172 rfl jeq_0) (jeq_c S172 rfl jeq_0) (jeq_c S172 rfl jeq_0) (jmc S172 rfl rfl) (jmc S172 rfl rfl) (jmc S172 rfl rfl) (zp2) qu175 (by omega)) (jmc S172 rfl qv170) (by omega) qu181 (by have := jrg_f J sg_125_9_10_1_0_1; omega)
            refine x_aloadn (x := 125) rfl rfl ?_
            refine x_dup rfl rfl ?_
            refine z_getM (N := 92) (v := v164) 12 56 rfl f_12_533 rfl J rfl (jmc S172 rfl qv164) ?_
            refine x_iconst (v := 1) rfl ki_1 ?_
            refine z_iadd rfl rfl jk_1 (by omega) (fun v182 ev182 => ?_)
            refine z_putI (N := 92) (w := v182.toInt) 12 56 rfl f_12_533 rfl (jfin_no TX12 RX12 92 rfl rfl) hD J Sm rfl rfl rfl (pw_125_56 trivial) rfl (fun h w183 J Sm => ?_)
            rw [vwf w183 (show (v164.toInt + 1) = v182.toInt from by omega)] at D
            refine x_aloadn (x := 125) rfl rfl ?_
            refine x_iloadn (x := 30) rfl rfl ?_
            refine x_iconst (v := 0) rfl ki_0 ?_
            refine x_inv (N := m_X12_push) (As := [.int 30, .int 0]) (b := 125) (st := []) (dx9 := 4) (mc := 0) (ms := 0) (host := "") 12 rfl t_X12_push ⟨Or.inl q_12_536, i_X12_push.1, i_X12_push.2⟩ ⟨by decide, rfl⟩ (congrArg Prod.fst (J.1.1 125 (12, 92) rfl)) rfl (by decide) rfl rfl ⟨by decide, by decide⟩ (jC.of rfl k_X12_push rfl ?_)
            show jX m_X12_push 4 0 0 0 [(0, .ref 125), (1, .int 30), (2, .int 0)] [] _ 0 0 _
            refine x_aloadn (x := 125) rfl rfl ?_
            refine z_getR (N := 92) (b := 150) 12 53 rfl f_12_105 rfl J rfl 16053 ⟨rfl, rfl⟩ rfl ?_
            refine x_aloadn (x := 125) rfl rfl ?_
            refine z_getM (N := 92) (v := u181) 12 55 rfl f_12_496 rfl J rfl (jmo w183 rfl qu181) ?_
            refine x_iloadn (x := 30) rfl rfl ?_
            refine z_iast (N := 400) (l := 0) (u := 400) (w := 30) rfl hD J Sm rfl rfl rfl (by omega) jk_30 (wr_150) rfl (fun h w184 J Sm => ?_)
            rw [vww w184 (show u181.toInt = u181.toInt from by omega) (show 30 = (30 : Int32).toInt from by have := jk_30; omega)] at D
            refine x_aloadn (x := 125) rfl rfl ?_
            refine z_getR (N := 92) (b := 151) 12 54 rfl f_12_108 rfl J rfl 16054 ⟨rfl, rfl⟩ rfl ?_
            refine x_aloadn (x := 125) rfl rfl ?_
            refine z_getM (N := 92) (v := u181) 12 55 rfl f_12_496 rfl J rfl (jmo w184 rfl (jmo w183 rfl qu181)) ?_
            refine x_iloadn (x := 0) rfl rfl ?_
            refine z_iast (N := 400) (l := 0) (u := 400) (w := 0) rfl hD J Sm rfl rfl rfl (by omega) jk_0 (wr_151) rfl (fun h w185 J Sm => ?_)
            rw [vww w185 (show u181.toInt = u181.toInt from by omega) (show 0 = (0 : Int32).toInt from by have := jk_0; omega)] at D
            refine x_aloadn (x := 125) rfl rfl ?_
            refine x_dup rfl rfl ?_
            refine z_getM (N := 92) (v := u181) 12 55 rfl f_12_496 rfl J rfl (jmo w185 rfl (jmo w184 rfl (jmo w183 rfl qu181))) ?_
            refine x_iconst (v := 1) rfl ki_1 ?_
            refine z_iadd rfl rfl jk_1 (by omega) (fun v186 ev186 => ?_)
            refine z_putI (N := 92) (w := v186.toInt) 12 55 rfl f_12_496 rfl (jfin_no TX12 RX12 92 rfl rfl) hD J Sm rfl rfl rfl (pw_125_55 (by omega)) rfl (fun h w187 J Sm => ?_)
            rw [vwf w187 (show (u181.toInt + 1) = v186.toInt from by omega)] at D
            refine x_vret rfl rfl ?_
            show jX m_X12_open 5 0 0 41 [(0, .ref 125), (1, .int 30)] [] _ 0 0 _
            refine x_vret rfl rfl ?_
            show jX m_X12_readPlain 6 0 0 38 [(0, .ref 125)] [] _ 0 0 _
            refine x_iconst (v := 0) rfl ki_0 ?_
            refine x_iret rfl rfl ?_
            exact hQ _ _ (jr_of jk_0 (by omega)) J Sm _ _ _ (jmo w187 rfl (jmo w185 rfl (jmo w184 rfl (jmo w183 rfl qu173)))) (jmo w187 rfl (jmo w185 rfl (jmo w184 rfl (jmo w183 rfl qu174)))) (jmo w187 rfl (jmo w185 rfl (jmo w184 rfl (jmo w183 rfl qu175)))) (by omega) _ _ _ (jmo w187 rfl (jmo w185 rfl (jmo w184 rfl (jmo w183 rfl qu176)))) (jmo w187 rfl (jmo w185 rfl (jmo w184 rfl (jmo w183 rfl qu175)))) (jmo w187 rfl (jmo w185 rfl (jmo w184 rfl (jmo w183 rfl qu173)))) (by omega) (by rw [jk_0]; exact op_mark (jmu_on hA (jeq_c S172 rfl jeq_0) (jeq_c S172 rfl jeq_0) (jeq_c S172 rfl jeq_0) (jeq_c S172 rfl jeq_0) (jmc S172 rfl rfl) (jmc S172 rfl rfl) (jmc S172 rfl rfl) (zp2) qu175 (by omega)) (jmc S172 rfl qv170) (by omega) w183 (jmo w183 rfl qu181) w184 w185 w187 (by omega) (Or.inl ⟨by decide, rfl⟩) (Or.inr hN)) ((congrArg Prod.fst D).symm.trans (show 0 = (0 : Int32).toInt from by have := jk_0; omega)) (congrArg Prod.snd D).symm
  ·
    rw [if_pos (by omega)] at D
    refine x_aloadn (x := 125) rfl rfl ?_
    refine z_getLQ (N := 92) 12 12 rfl f_12_224 rfl J rfl (fun v188 qv188 => ?_)
    have ev188 := jfullL v188
    try rw [vrfL qv188] at D
    refine x_lloadn (x := 14836) rfl rfl ?_
    refine z_lcmp rfl rfl jkl_14836 (fun v189 ev189 => ?_)
    refine x_ifne (tgt := 21) rfl rfl (ti_ne rfl jk_0 ⟨fun c190 => ?_, fun c190 => ?_⟩)
    ·
      rw [if_neg (by omega)] at D
      refine x_iconst (v := 0) rfl ki_0 ?_
      refine x_zret rfl rfl (by decide) ?_
      show jX m_X12_readPlain 6 0 0 7 [(0, .ref 125)] [.int 0] _ 0 0 _
      refine x_ifeq (tgt := 23) rfl rfl (ti_eq jk_0 jk_0 (br_t (by omega) ?_))
      refine x_aloadn (x := 125) rfl rfl ?_
      refine x_bipush (v := 40) rfl kb_40 ?_
      refine x_inv (N := m_X12_isSign) (As := [.int 40]) (b := 125) (st := []) (dx9 := 5) (mc := 0) (ms := 0) (host := "") 12 rfl t_X12_isSign ⟨Or.inl q_12_257, i_X12_isSign.1, i_X12_isSign.2⟩ ⟨by decide, rfl⟩ (congrArg Prod.fst (J.1.1 125 (12, 92) rfl)) rfl (by decide) rfl rfl ⟨by decide, by decide⟩ (jC.of rfl k_X12_isSign rfl ?_)
      show jX m_X12_isSign 5 0 0 0 [(0, .ref 125), (1, .int 40)] [] _ 0 0 _
      refine x_aloadn (x := 125) rfl rfl ?_
      refine z_getM (N := 92) (v := p3) 12 11 rfl f_12_235 rfl J rfl zp3 ?_
      refine x_iconst (v := 3) rfl ki_3 ?_
      refine x_icne (tgt := 22) rfl rfl (ti_ne rfl jk_3 (bn_t (by omega) ?_))
      refine x_iconst (v := 0) rfl ki_0 ?_
      refine x_zret rfl rfl (by decide) ?_
      show jX m_X12_readPlain 6 0 0 29 [(0, .ref 125)] [.int 0] _ 0 0 _
      refine x_ifeq (tgt := 40) rfl rfl (ti_eq jk_0 jk_0 (br_t (by omega) ?_))
      refine x_aloadn (x := 125) rfl rfl ?_
      refine x_inv (N := m_X12_plainAt) (As := []) (b := 125) (st := []) (dx9 := 5) (mc := 0) (ms := 0) (host := "") 12 rfl t_X12_plainAt ⟨Or.inl q_12_566, i_X12_plainAt.1, i_X12_plainAt.2⟩ ⟨by decide, rfl⟩ (congrArg Prod.fst (J.1.1 125 (12, 92) rfl)) rfl (by decide) rfl rfl ⟨by decide, by decide⟩ (jC.of rfl k_X12_plainAt rfl ?_)
      show jX m_X12_plainAt 5 0 0 0 [(0, .ref 125)] [] _ 0 0 _
      refine x_aloadn (x := 125) rfl rfl ?_
      refine x_ldc2 (v := 14011671716) rfl z_12_523 ?_
      refine x_inv (N := m_X12_isWord) (As := [.long 14011671716]) (b := 125) (st := []) (dx9 := 4) (mc := 0) (ms := 0) (host := "") 12 rfl t_X12_isWord ⟨Or.inl q_12_511, i_X12_isWord.1, i_X12_isWord.2⟩ ⟨by decide, rfl⟩ (congrArg Prod.fst (J.1.1 125 (12, 92) rfl)) rfl (by decide) rfl rfl ⟨by decide, by decide⟩ (jC.of rfl k_X12_isWord rfl ?_)
      show jX m_X12_isWord 4 0 0 0 [(0, .ref 125), (1, .long 14011671716)] [] _ 0 0 _
      refine x_aloadn (x := 125) rfl rfl ?_
      refine z_getM (N := 92) (v := p3) 12 11 rfl f_12_235 rfl J rfl zp3 ?_
      refine x_iconst (v := 1) rfl ki_1 ?_
      refine x_icne (tgt := 21) rfl rfl (ti_ne rfl jk_1 (bn_f (by omega) ?_))
      refine x_aloadn (x := 125) rfl rfl ?_
      refine z_getLQ (N := 92) 12 12 rfl f_12_224 rfl J rfl (fun v191 qv191 => ?_)
      have ev191 := jfullL v191
      try have kqv191 : v188.toInt = v191.toInt := ((vrfL qv188).symm.trans (vrfL qv191))
      try rw [kqv191] at D
      try rw [vrfL qv191] at D
      refine x_lloadn (x := 14011671716) rfl rfl ?_
      refine z_lcmp rfl rfl jkl_14011671716 (fun v192 ev192 => ?_)
      refine x_ifne (tgt := 21) rfl rfl (ti_ne rfl jk_0 ⟨fun c193 => ?_, fun c193 => ?_⟩)
      ·
        rw [if_neg (by omega)] at D
        refine x_iconst (v := 0) rfl ki_0 ?_
        refine x_zret rfl rfl (by decide) ?_
        show jX m_X12_plainAt 5 0 0 7 [(0, .ref 125)] [.int 0] _ 0 0 _
        refine x_ifeq (tgt := 15) rfl rfl (ti_eq jk_0 jk_0 (br_t (by omega) ?_))
        refine x_aloadn (x := 125) rfl rfl ?_
        refine x_ldc2 (v := 136228) rfl z_12_525 ?_
        refine x_inv (N := m_X12_isWord) (As := [.long 136228]) (b := 125) (st := []) (dx9 := 4) (mc := 0) (ms := 0) (host := "") 12 rfl t_X12_isWord ⟨Or.inl q_12_511, i_X12_isWord.1, i_X12_isWord.2⟩ ⟨by decide, rfl⟩ (congrArg Prod.fst (J.1.1 125 (12, 92) rfl)) rfl (by decide) rfl rfl ⟨by decide, by decide⟩ (jC.of rfl k_X12_isWord rfl ?_)
        show jX m_X12_isWord 4 0 0 0 [(0, .ref 125), (1, .long 136228)] [] _ 0 0 _
        refine x_aloadn (x := 125) rfl rfl ?_
        refine z_getM (N := 92) (v := p3) 12 11 rfl f_12_235 rfl J rfl zp3 ?_
        refine x_iconst (v := 1) rfl ki_1 ?_
        refine x_icne (tgt := 21) rfl rfl (ti_ne rfl jk_1 (bn_f (by omega) ?_))
        refine x_aloadn (x := 125) rfl rfl ?_
        refine z_getLQ (N := 92) 12 12 rfl f_12_224 rfl J rfl (fun v194 qv194 => ?_)
        have ev194 := jfullL v194
        try have kqv194 : v191.toInt = v194.toInt := ((vrfL qv191).symm.trans (vrfL qv194))
        try rw [kqv194] at D
        try rw [vrfL qv194] at D
        refine x_lloadn (x := 136228) rfl rfl ?_
        refine z_lcmp rfl rfl jkl_136228 (fun v195 ev195 => ?_)
        refine x_ifne (tgt := 21) rfl rfl (ti_ne rfl jk_0 ⟨fun c196 => ?_, fun c196 => ?_⟩)
        ·
          rw [if_neg (by omega)] at D
          refine x_iconst (v := 0) rfl ki_0 ?_
          refine x_zret rfl rfl (by decide) ?_
          show jX m_X12_plainAt 5 0 0 22 [(0, .ref 125)] [.int 0] _ 0 0 _
          refine x_ifeq (tgt := 30) rfl rfl (ti_eq jk_0 jk_0 (br_t (by omega) ?_))
          refine x_aloadn (x := 125) rfl rfl ?_
          refine x_ldc2 (v := 540146) rfl z_12_527 ?_
          refine x_inv (N := m_X12_isWord) (As := [.long 540146]) (b := 125) (st := []) (dx9 := 4) (mc := 0) (ms := 0) (host := "") 12 rfl t_X12_isWord ⟨Or.inl q_12_511, i_X12_isWord.1, i_X12_isWord.2⟩ ⟨by decide, rfl⟩ (congrArg Prod.fst (J.1.1 125 (12, 92) rfl)) rfl (by decide) rfl rfl ⟨by decide, by decide⟩ (jC.of rfl k_X12_isWord rfl ?_)
          show jX m_X12_isWord 4 0 0 0 [(0, .ref 125), (1, .long 540146)] [] _ 0 0 _
          refine x_aloadn (x := 125) rfl rfl ?_
          refine z_getM (N := 92) (v := p3) 12 11 rfl f_12_235 rfl J rfl zp3 ?_
          refine x_iconst (v := 1) rfl ki_1 ?_
          refine x_icne (tgt := 21) rfl rfl (ti_ne rfl jk_1 (bn_f (by omega) ?_))
          refine x_aloadn (x := 125) rfl rfl ?_
          refine z_getLQ (N := 92) 12 12 rfl f_12_224 rfl J rfl (fun v197 qv197 => ?_)
          have ev197 := jfullL v197
          try have kqv197 : v194.toInt = v197.toInt := ((vrfL qv194).symm.trans (vrfL qv197))
          try rw [kqv197] at D
          try rw [vrfL qv197] at D
          refine x_lloadn (x := 540146) rfl rfl ?_
          refine z_lcmp rfl rfl jkl_540146 (fun v198 ev198 => ?_)
          refine x_ifne (tgt := 21) rfl rfl (ti_ne rfl jk_0 ⟨fun c199 => ?_, fun c199 => ?_⟩)
          ·
            rw [if_neg (by omega)] at D
            refine x_iconst (v := 0) rfl ki_0 ?_
            refine x_zret rfl rfl (by decide) ?_
            show jX m_X12_plainAt 5 0 0 37 [(0, .ref 125)] [.int 0] _ 0 0 _
            refine x_ifeq (tgt := 45) rfl rfl (ti_eq jk_0 jk_0 (br_t (by omega) ?_))
            refine x_aloadn (x := 125) rfl rfl ?_
            refine x_ldc2 (v := 8892563) rfl z_12_529 ?_
            refine x_inv (N := m_X12_isWord) (As := [.long 8892563]) (b := 125) (st := []) (dx9 := 4) (mc := 0) (ms := 0) (host := "") 12 rfl t_X12_isWord ⟨Or.inl q_12_511, i_X12_isWord.1, i_X12_isWord.2⟩ ⟨by decide, rfl⟩ (congrArg Prod.fst (J.1.1 125 (12, 92) rfl)) rfl (by decide) rfl rfl ⟨by decide, by decide⟩ (jC.of rfl k_X12_isWord rfl ?_)
            show jX m_X12_isWord 4 0 0 0 [(0, .ref 125), (1, .long 8892563)] [] _ 0 0 _
            refine x_aloadn (x := 125) rfl rfl ?_
            refine z_getM (N := 92) (v := p3) 12 11 rfl f_12_235 rfl J rfl zp3 ?_
            refine x_iconst (v := 1) rfl ki_1 ?_
            refine x_icne (tgt := 21) rfl rfl (ti_ne rfl jk_1 (bn_f (by omega) ?_))
            refine x_aloadn (x := 125) rfl rfl ?_
            refine z_getLQ (N := 92) 12 12 rfl f_12_224 rfl J rfl (fun v200 qv200 => ?_)
            have ev200 := jfullL v200
            try have kqv200 : v197.toInt = v200.toInt := ((vrfL qv197).symm.trans (vrfL qv200))
            try rw [kqv200] at D
            try rw [vrfL qv200] at D
            refine x_lloadn (x := 8892563) rfl rfl ?_
            refine z_lcmp rfl rfl jkl_8892563 (fun v201 ev201 => ?_)
            refine x_ifne (tgt := 21) rfl rfl (ti_ne rfl jk_0 ⟨fun c202 => ?_, fun c202 => ?_⟩)
            ·
              rw [if_neg (by omega)] at D
              refine x_iconst (v := 0) rfl ki_0 ?_
              refine x_zret rfl rfl (by decide) ?_
              show jX m_X12_plainAt 5 0 0 52 [(0, .ref 125)] [.int 0] _ 0 0 _
              refine x_ifeq (tgt := 60) rfl rfl (ti_eq jk_0 jk_0 (br_t (by omega) ?_))
              refine x_aloadn (x := 125) rfl rfl ?_
              refine x_ldc2 (v := 3490341659812) rfl z_12_531 ?_
              refine x_inv (N := m_X12_isWord) (As := [.long 3490341659812]) (b := 125) (st := []) (dx9 := 4) (mc := 0) (ms := 0) (host := "") 12 rfl t_X12_isWord ⟨Or.inl q_12_511, i_X12_isWord.1, i_X12_isWord.2⟩ ⟨by decide, rfl⟩ (congrArg Prod.fst (J.1.1 125 (12, 92) rfl)) rfl (by decide) rfl rfl ⟨by decide, by decide⟩ (jC.of rfl k_X12_isWord rfl ?_)
              show jX m_X12_isWord 4 0 0 0 [(0, .ref 125), (1, .long 3490341659812)] [] _ 0 0 _
              refine x_aloadn (x := 125) rfl rfl ?_
              refine z_getM (N := 92) (v := p3) 12 11 rfl f_12_235 rfl J rfl zp3 ?_
              refine x_iconst (v := 1) rfl ki_1 ?_
              refine x_icne (tgt := 21) rfl rfl (ti_ne rfl jk_1 (bn_f (by omega) ?_))
              refine x_aloadn (x := 125) rfl rfl ?_
              refine z_getLQ (N := 92) 12 12 rfl f_12_224 rfl J rfl (fun v203 qv203 => ?_)
              have ev203 := jfullL v203
              try have kqv203 : v200.toInt = v203.toInt := ((vrfL qv200).symm.trans (vrfL qv203))
              try rw [kqv203] at D
              try rw [vrfL qv203] at D
              refine x_lloadn (x := 3490341659812) rfl rfl ?_
              refine z_lcmp rfl rfl jkl_3490341659812 (fun v204 ev204 => ?_)
              refine x_ifne (tgt := 21) rfl rfl (ti_ne rfl jk_0 ⟨fun c205 => ?_, fun c205 => ?_⟩)
              ·
                rw [if_neg (by omega)] at D
                refine x_iconst (v := 0) rfl ki_0 ?_
                refine x_zret rfl rfl (by decide) ?_
                show jX m_X12_plainAt 5 0 0 67 [(0, .ref 125)] [.int 0] _ 0 0 _
                refine x_ifeq (tgt := 75) rfl rfl (ti_eq jk_0 jk_0 (br_t (by omega) ?_))
                refine x_iconst (v := (-1)) rfl ki_m1 ?_
                refine x_iret rfl rfl ?_
                show jX m_X12_readPlain 6 0 0 44 [(0, .ref 125)] [.int (-1)] _ 0 0 _
                refine x_istoren (lsx9 := [(1, .int (-1)), (0, .ref 125)]) rfl rfl rfl ?_
                refine x_iloadn (x := (-1)) rfl rfl ?_
                refine x_iconst (v := (-1)) rfl ki_m1 ?_
                refine x_iceq (tgt := 93) rfl rfl (ti_eq jk_m1 jk_m1 (br_t (by omega) ?_))
                refine x_aloadn (x := 125) rfl rfl ?_
                refine x_inv (N := m_X12_readSum) (As := []) (b := 125) (st := []) (dx9 := 5) (mc := 0) (ms := 0) (host := "") 12 rfl t_X12_readSum ⟨Or.inl q_12_569, i_X12_readSum.1, i_X12_readSum.2⟩ ⟨by decide, rfl⟩ (congrArg Prod.fst (J.1.1 125 (12, 92) rfl)) rfl (by decide) rfl rfl ⟨by decide, by decide⟩ (sf_X12_readSum_r125d  hA hD J zp0 zp1 zp2 (by omega) zp3 zp2 zp0 (by omega) rfl  (fun v216 h ev216 J S206 u207 u208 u209 qu207 qu208 qu209 ru207 u210 u211 u212 qu210 qu211 qu212 ru210 P213 X214 X215 => ?_))
                have Sm := jSm_tr rfl Sm S206
                try rw [X214] at D
                try rw [X215] at D
                have eu207 := (show 0 ≤ u207.toInt ∧ u207.toInt ≤ 400 from qu207 ▸ jrg_f J sg_125_10_11_1_0_1)
                try rw [vrf qu207] at D
                have eu208 := (show 0 ≤ u208.toInt ∧ u208.toInt ≤ 400 from qu208 ▸ jrg_f J sg_125_8_9_1_0_1)
                try rw [vrf (jmb_c S206 qu208 rfl)] at D
                have eu209 := (show 0 ≤ u209.toInt ∧ u209.toInt ≤ 400 from qu209 ▸ jrg_f J sg_125_9_10_1_0_1)
                try rw [vrf qu209] at D
                have eu210 := (show 0 ≤ u210.toInt ∧ u210.toInt ≤ 3 from qu210 ▸ jrg_f J sg_125_11_12_1_0_1)
                try rw [vrf qu210] at D
                obtain rfl : u209 = u211 := qu209.symm.trans qu211
                obtain rfl : u207 = u212 := qu207.symm.trans qu212
                show jX m_X12_readPlain 6 0 0 97 [(1, .int (-1)), (0, .ref 125)] [.int v216] _ 0 0 _
                refine x_iret rfl rfl ?_
                exact hQ _ _ (jr_of rfl (by omega)) J Sm _ _ _ qu207 qu208 qu209 (by omega) _ _ _ qu210 qu209 qu207 (by omega) P213 ((congrArg Prod.fst D).symm.trans X214) ((congrArg Prod.snd D).symm.trans X215)
              ·
                rw [if_pos (by omega)] at D
                refine x_iconst (v := 1) rfl ki_1 ?_
                refine x_goto (tgt := 22) rfl rfl ?_
                refine x_zret rfl rfl (by decide) ?_
                show jX m_X12_plainAt 5 0 0 67 [(0, .ref 125)] [.int 1] _ 0 0 _
                refine x_ifeq (tgt := 75) rfl rfl (ti_eq jk_1 jk_0 (br_f (by omega) ?_))
                refine x_bipush (v := 17) rfl kb_17 ?_
                refine x_goto (tgt := 76) rfl rfl ?_
                refine x_iret rfl rfl ?_
                show jX m_X12_readPlain 6 0 0 44 [(0, .ref 125)] [.int 17] _ 0 0 _
                refine x_istoren (lsx9 := [(1, .int 17), (0, .ref 125)]) rfl rfl rfl ?_
                refine x_iloadn (x := 17) rfl rfl ?_
                refine x_iconst (v := (-1)) rfl ki_m1 ?_
                refine x_iceq (tgt := 93) rfl rfl (ti_eq jk_17 jk_m1 (br_f (by omega) ?_))
                refine x_aloadn (x := 125) rfl rfl ?_
                refine x_aloadn (x := 125) rfl rfl ?_
                refine z_getI (N := 92) 12 52 rfl f_12_542 rfl J rfl sg_125_52_53_1_0_1 (fun v217 qv217 ev217 => ?_)
                try rw [vrf qv217] at D
                refine x_bipush (v := 60) rfl kb_60 ?_
                refine x_icge (tgt := 64) rfl rfl (ti_ge rfl jk_60 ⟨fun c218 => ?_, fun c218 => ?_⟩)
                ·
                  rw [if_pos (by omega)] at D
                  refine x_iconst (v := 0) rfl ki_0 ?_
                  exact jX.sub (jsb_c rfl (jsb_c rfl jsb_n)) (ct_X12_readPlain_r125d_200065 hA hN hD hQ  17 p0 p3 p1 p2 h (jr_of jk_17 (by omega)) (jr_of rfl (by omega)) (jr_of rfl (by omega)) (jr_of rfl (by omega)) (jr_of rfl (by omega)) jsa_0 (by omega) (by omega) zp0 zp3 zp1 zp2 J Sm (by rw [jk_17]; exact D))
                ·
                  rw [if_neg (by omega)] at D
                  refine x_iconst (v := 1) rfl ki_1 ?_
                  refine x_goto (tgt := 65) rfl rfl ?_
                  exact jX.sub (jsb_c rfl (jsb_c rfl jsb_n)) (ct_X12_readPlain_r125d_300065 hA hN hD hQ  17 p0 p3 v217 p1 p2 h (jr_of jk_17 (by omega)) (jr_of rfl (by omega)) (jr_of rfl (by omega)) (jr_of rfl (by omega)) (jr_of rfl (by omega)) (jr_of rfl (by omega)) jsa_0 (by omega) (by omega) (by omega) zp0 zp3 qv217 zp1 zp2 J Sm (by rw [jk_17]; exact D))
            ·
              rw [if_pos (by omega)] at D
              refine x_iconst (v := 1) rfl ki_1 ?_
              refine x_goto (tgt := 22) rfl rfl ?_
              refine x_zret rfl rfl (by decide) ?_
              show jX m_X12_plainAt 5 0 0 52 [(0, .ref 125)] [.int 1] _ 0 0 _
              refine x_ifeq (tgt := 60) rfl rfl (ti_eq jk_1 jk_0 (br_f (by omega) ?_))
              refine x_bipush (v := 16) rfl kb_16 ?_
              refine x_goto (tgt := 76) rfl rfl ?_
              refine x_iret rfl rfl ?_
              show jX m_X12_readPlain 6 0 0 44 [(0, .ref 125)] [.int 16] _ 0 0 _
              refine x_istoren (lsx9 := [(1, .int 16), (0, .ref 125)]) rfl rfl rfl ?_
              refine x_iloadn (x := 16) rfl rfl ?_
              refine x_iconst (v := (-1)) rfl ki_m1 ?_
              refine x_iceq (tgt := 93) rfl rfl (ti_eq jk_16 jk_m1 (br_f (by omega) ?_))
              refine x_aloadn (x := 125) rfl rfl ?_
              refine x_aloadn (x := 125) rfl rfl ?_
              refine z_getI (N := 92) 12 52 rfl f_12_542 rfl J rfl sg_125_52_53_1_0_1 (fun v219 qv219 ev219 => ?_)
              try rw [vrf qv219] at D
              refine x_bipush (v := 60) rfl kb_60 ?_
              refine x_icge (tgt := 64) rfl rfl (ti_ge rfl jk_60 ⟨fun c220 => ?_, fun c220 => ?_⟩)
              ·
                rw [if_pos (by omega)] at D
                refine x_iconst (v := 0) rfl ki_0 ?_
                exact jX.sub (jsb_c rfl (jsb_c rfl jsb_n)) (ct_X12_readPlain_r125d_200065 hA hN hD hQ  16 p0 p3 p1 p2 h (jr_of jk_16 (by omega)) (jr_of rfl (by omega)) (jr_of rfl (by omega)) (jr_of rfl (by omega)) (jr_of rfl (by omega)) jsa_0 (by omega) (by omega) zp0 zp3 zp1 zp2 J Sm (by rw [jk_16]; exact D))
              ·
                rw [if_neg (by omega)] at D
                refine x_iconst (v := 1) rfl ki_1 ?_
                refine x_goto (tgt := 65) rfl rfl ?_
                exact jX.sub (jsb_c rfl (jsb_c rfl jsb_n)) (ct_X12_readPlain_r125d_300065 hA hN hD hQ  16 p0 p3 v219 p1 p2 h (jr_of jk_16 (by omega)) (jr_of rfl (by omega)) (jr_of rfl (by omega)) (jr_of rfl (by omega)) (jr_of rfl (by omega)) (jr_of rfl (by omega)) jsa_0 (by omega) (by omega) (by omega) zp0 zp3 qv219 zp1 zp2 J Sm (by rw [jk_16]; exact D))
          ·
            rw [if_pos (by omega)] at D
            refine x_iconst (v := 1) rfl ki_1 ?_
            refine x_goto (tgt := 22) rfl rfl ?_
            refine x_zret rfl rfl (by decide) ?_
            show jX m_X12_plainAt 5 0 0 37 [(0, .ref 125)] [.int 1] _ 0 0 _
            refine x_ifeq (tgt := 45) rfl rfl (ti_eq jk_1 jk_0 (br_f (by omega) ?_))
            refine x_bipush (v := 15) rfl kb_15 ?_
            refine x_goto (tgt := 76) rfl rfl ?_
            refine x_iret rfl rfl ?_
            show jX m_X12_readPlain 6 0 0 44 [(0, .ref 125)] [.int 15] _ 0 0 _
            refine x_istoren (lsx9 := [(1, .int 15), (0, .ref 125)]) rfl rfl rfl ?_
            refine x_iloadn (x := 15) rfl rfl ?_
            refine x_iconst (v := (-1)) rfl ki_m1 ?_
            refine x_iceq (tgt := 93) rfl rfl (ti_eq jk_15 jk_m1 (br_f (by omega) ?_))
            refine x_aloadn (x := 125) rfl rfl ?_
            refine x_aloadn (x := 125) rfl rfl ?_
            refine z_getI (N := 92) 12 52 rfl f_12_542 rfl J rfl sg_125_52_53_1_0_1 (fun v221 qv221 ev221 => ?_)
            try rw [vrf qv221] at D
            refine x_bipush (v := 60) rfl kb_60 ?_
            refine x_icge (tgt := 64) rfl rfl (ti_ge rfl jk_60 ⟨fun c222 => ?_, fun c222 => ?_⟩)
            ·
              rw [if_pos (by omega)] at D
              refine x_iconst (v := 0) rfl ki_0 ?_
              exact jX.sub (jsb_c rfl (jsb_c rfl jsb_n)) (ct_X12_readPlain_r125d_200065 hA hN hD hQ  15 p0 p3 p1 p2 h (jr_of jk_15 (by omega)) (jr_of rfl (by omega)) (jr_of rfl (by omega)) (jr_of rfl (by omega)) (jr_of rfl (by omega)) jsa_0 (by omega) (by omega) zp0 zp3 zp1 zp2 J Sm (by rw [jk_15]; exact D))
            ·
              rw [if_neg (by omega)] at D
              refine x_iconst (v := 1) rfl ki_1 ?_
              refine x_goto (tgt := 65) rfl rfl ?_
              exact jX.sub (jsb_c rfl (jsb_c rfl jsb_n)) (ct_X12_readPlain_r125d_300065 hA hN hD hQ  15 p0 p3 v221 p1 p2 h (jr_of jk_15 (by omega)) (jr_of rfl (by omega)) (jr_of rfl (by omega)) (jr_of rfl (by omega)) (jr_of rfl (by omega)) (jr_of rfl (by omega)) jsa_0 (by omega) (by omega) (by omega) zp0 zp3 qv221 zp1 zp2 J Sm (by rw [jk_15]; exact D))
        ·
          rw [if_pos (by omega)] at D
          refine x_iconst (v := 1) rfl ki_1 ?_
          refine x_goto (tgt := 22) rfl rfl ?_
          refine x_zret rfl rfl (by decide) ?_
          show jX m_X12_plainAt 5 0 0 22 [(0, .ref 125)] [.int 1] _ 0 0 _
          refine x_ifeq (tgt := 30) rfl rfl (ti_eq jk_1 jk_0 (br_f (by omega) ?_))
          refine x_bipush (v := 14) rfl kb_14 ?_
          refine x_goto (tgt := 76) rfl rfl ?_
          refine x_iret rfl rfl ?_
          show jX m_X12_readPlain 6 0 0 44 [(0, .ref 125)] [.int 14] _ 0 0 _
          refine x_istoren (lsx9 := [(1, .int 14), (0, .ref 125)]) rfl rfl rfl ?_
          refine x_iloadn (x := 14) rfl rfl ?_
          refine x_iconst (v := (-1)) rfl ki_m1 ?_
          refine x_iceq (tgt := 93) rfl rfl (ti_eq jk_14 jk_m1 (br_f (by omega) ?_))
          refine x_aloadn (x := 125) rfl rfl ?_
          refine x_aloadn (x := 125) rfl rfl ?_
          refine z_getI (N := 92) 12 52 rfl f_12_542 rfl J rfl sg_125_52_53_1_0_1 (fun v223 qv223 ev223 => ?_)
          try rw [vrf qv223] at D
          refine x_bipush (v := 60) rfl kb_60 ?_
          refine x_icge (tgt := 64) rfl rfl (ti_ge rfl jk_60 ⟨fun c224 => ?_, fun c224 => ?_⟩)
          ·
            rw [if_pos (by omega)] at D
            refine x_iconst (v := 0) rfl ki_0 ?_
            exact jX.sub (jsb_c rfl (jsb_c rfl jsb_n)) (ct_X12_readPlain_r125d_200065 hA hN hD hQ  14 p0 p3 p1 p2 h (jr_of jk_14 (by omega)) (jr_of rfl (by omega)) (jr_of rfl (by omega)) (jr_of rfl (by omega)) (jr_of rfl (by omega)) jsa_0 (by omega) (by omega) zp0 zp3 zp1 zp2 J Sm (by rw [jk_14]; exact D))
          ·
            rw [if_neg (by omega)] at D
            refine x_iconst (v := 1) rfl ki_1 ?_
            refine x_goto (tgt := 65) rfl rfl ?_
            exact jX.sub (jsb_c rfl (jsb_c rfl jsb_n)) (ct_X12_readPlain_r125d_300065 hA hN hD hQ  14 p0 p3 v223 p1 p2 h (jr_of jk_14 (by omega)) (jr_of rfl (by omega)) (jr_of rfl (by omega)) (jr_of rfl (by omega)) (jr_of rfl (by omega)) (jr_of rfl (by omega)) jsa_0 (by omega) (by omega) (by omega) zp0 zp3 qv223 zp1 zp2 J Sm (by rw [jk_14]; exact D))
      ·
        rw [if_pos (by omega)] at D
        refine x_iconst (v := 1) rfl ki_1 ?_
        refine x_goto (tgt := 22) rfl rfl ?_
        refine x_zret rfl rfl (by decide) ?_
        show jX m_X12_plainAt 5 0 0 7 [(0, .ref 125)] [.int 1] _ 0 0 _
        refine x_ifeq (tgt := 15) rfl rfl (ti_eq jk_1 jk_0 (br_f (by omega) ?_))
        refine x_bipush (v := 13) rfl kb_13 ?_
        refine x_goto (tgt := 76) rfl rfl ?_
        refine x_iret rfl rfl ?_
        show jX m_X12_readPlain 6 0 0 44 [(0, .ref 125)] [.int 13] _ 0 0 _
        refine x_istoren (lsx9 := [(1, .int 13), (0, .ref 125)]) rfl rfl rfl ?_
        refine x_iloadn (x := 13) rfl rfl ?_
        refine x_iconst (v := (-1)) rfl ki_m1 ?_
        refine x_iceq (tgt := 93) rfl rfl (ti_eq jk_13 jk_m1 (br_f (by omega) ?_))
        refine x_aloadn (x := 125) rfl rfl ?_
        refine x_aloadn (x := 125) rfl rfl ?_
        refine z_getI (N := 92) 12 52 rfl f_12_542 rfl J rfl sg_125_52_53_1_0_1 (fun v225 qv225 ev225 => ?_)
        try rw [vrf qv225] at D
        refine x_bipush (v := 60) rfl kb_60 ?_
        refine x_icge (tgt := 64) rfl rfl (ti_ge rfl jk_60 ⟨fun c226 => ?_, fun c226 => ?_⟩)
        ·
          rw [if_pos (by omega)] at D
          refine x_iconst (v := 0) rfl ki_0 ?_
          exact jX.sub (jsb_c rfl (jsb_c rfl jsb_n)) (ct_X12_readPlain_r125d_200065 hA hN hD hQ  13 p0 p3 p1 p2 h (jr_of jk_13 (by omega)) (jr_of rfl (by omega)) (jr_of rfl (by omega)) (jr_of rfl (by omega)) (jr_of rfl (by omega)) jsa_0 (by omega) (by omega) zp0 zp3 zp1 zp2 J Sm (by rw [jk_13]; exact D))
        ·
          rw [if_neg (by omega)] at D
          refine x_iconst (v := 1) rfl ki_1 ?_
          refine x_goto (tgt := 65) rfl rfl ?_
          exact jX.sub (jsb_c rfl (jsb_c rfl jsb_n)) (ct_X12_readPlain_r125d_300065 hA hN hD hQ  13 p0 p3 v225 p1 p2 h (jr_of jk_13 (by omega)) (jr_of rfl (by omega)) (jr_of rfl (by omega)) (jr_of rfl (by omega)) (jr_of rfl (by omega)) (jr_of rfl (by omega)) jsa_0 (by omega) (by omega) (by omega) zp0 zp3 qv225 zp1 zp2 J Sm (by rw [jk_13]; exact D))
    ·
      rw [if_pos (by omega)] at D
      refine x_iconst (v := 1) rfl ki_1 ?_
      refine x_goto (tgt := 22) rfl rfl ?_
      refine x_zret rfl rfl (by decide) ?_
      show jX m_X12_readPlain 6 0 0 7 [(0, .ref 125)] [.int 1] _ 0 0 _
      refine x_ifeq (tgt := 23) rfl rfl (ti_eq jk_1 jk_0 (br_f (by omega) ?_))
      refine x_aloadn (x := 125) rfl rfl ?_
      refine x_bipush (v := 18) rfl kb_18 ?_
      refine x_iconst (v := 0) rfl ki_0 ?_
      refine x_inv (N := m_X12_push) (As := [.int 18, .int 0]) (b := 125) (st := []) (dx9 := 5) (mc := 0) (ms := 0) (host := "") 12 rfl t_X12_push ⟨Or.inl q_12_536, i_X12_push.1, i_X12_push.2⟩ ⟨by decide, rfl⟩ (congrArg Prod.fst (J.1.1 125 (12, 92) rfl)) rfl (by decide) rfl rfl ⟨by decide, by decide⟩ (jC.of rfl k_X12_push rfl ?_)
      show jX m_X12_push 5 0 0 0 [(0, .ref 125), (1, .int 18), (2, .int 0)] [] _ 0 0 _
      obtain ⟨u227, qu227⟩ : ∃ v : Int32, jiv h 125 55 = v := ⟨_, rfl⟩
      have eu227 := (show 0 ≤ u227.toInt ∧ u227.toInt ≤ 400 from qu227 ▸ jrg_f J sg_125_55_56_1_0_1)
      try rw [vrf qu227] at D
      have lx := jtw_l hA.1 qu227 zp2
      refine x_aloadn (x := 125) rfl rfl ?_
      refine z_getR (N := 92) (b := 150) 12 53 rfl f_12_105 rfl J rfl 16053 ⟨rfl, rfl⟩ rfl ?_
      refine x_aloadn (x := 125) rfl rfl ?_
      refine z_getM (N := 92) (v := u227) 12 55 rfl f_12_496 rfl J rfl qu227 ?_
      refine x_iloadn (x := 18) rfl rfl ?_
      refine z_iast (N := 400) (l := 0) (u := 400) (w := 18) rfl hD J Sm rfl rfl rfl (by omega) jk_18 (wr_150) rfl (fun h w228 J Sm => ?_)
      rw [vww w228 (show u227.toInt = u227.toInt from by omega) (show 18 = (18 : Int32).toInt from by have := jk_18; omega)] at D
      refine x_aloadn (x := 125) rfl rfl ?_
      refine z_getR (N := 92) (b := 151) 12 54 rfl f_12_108 rfl J rfl 16054 ⟨rfl, rfl⟩ rfl ?_
      refine x_aloadn (x := 125) rfl rfl ?_
      refine z_getM (N := 92) (v := u227) 12 55 rfl f_12_496 rfl J rfl (jmo w228 rfl qu227) ?_
      refine x_iloadn (x := 0) rfl rfl ?_
      refine z_iast (N := 400) (l := 0) (u := 400) (w := 0) rfl hD J Sm rfl rfl rfl (by omega) jk_0 (wr_151) rfl (fun h w229 J Sm => ?_)
      rw [vww w229 (show u227.toInt = u227.toInt from by omega) (show 0 = (0 : Int32).toInt from by have := jk_0; omega)] at D
      refine x_aloadn (x := 125) rfl rfl ?_
      refine x_dup rfl rfl ?_
      refine z_getM (N := 92) (v := u227) 12 55 rfl f_12_496 rfl J rfl (jmo w229 rfl (jmo w228 rfl qu227)) ?_
      refine x_iconst (v := 1) rfl ki_1 ?_
      refine z_iadd rfl rfl jk_1 (by omega) (fun v230 ev230 => ?_)
      refine z_putI (N := 92) (w := v230.toInt) 12 55 rfl f_12_496 rfl (jfin_no TX12 RX12 92 rfl rfl) hD J Sm rfl rfl rfl (pw_125_55 (by omega)) rfl (fun h w231 J Sm => ?_)
      rw [vwf w231 (show (u227.toInt + 1) = v230.toInt from by omega)] at D
      refine x_vret rfl rfl ?_
      show jX m_X12_readPlain 6 0 0 17 [(0, .ref 125)] [] _ 0 0 _
      refine x_aloadn (x := 125) rfl rfl ?_
      refine x_inv (N := m_X12_next) (As := []) (b := 125) (st := []) (dx9 := 2) (mc := 0) (ms := 0) (host := "") 12 rfl t_X12_next ⟨Or.inl q_12_218, i_X12_next.1, i_X12_next.2⟩ ⟨by decide, rfl⟩ (congrArg Prod.fst (J.1.1 125 (12, 92) rfl)) rfl (by decide) rfl rfl ⟨by decide, by decide⟩ (sf_X12_next_r125d  hD J (jmo w231 rfl (jmo w229 rfl (jmo w228 rfl zp0))) (jmo w231 rfl (jmo w229 rfl (jmo w228 rfl zp1))) (by omega) rfl  (fun h J S232 u233 u234 u235 qu233 qu234 qu235 ru233 u236 u237 u238 qu236 qu237 qu238 ru236 P239 X240 => ?_))
      have Sm := jSm_tr rfl Sm S232
      rw [X240] at D
      have eu233 := (show 0 ≤ u233.toInt ∧ u233.toInt ≤ 400 from qu233 ▸ jrg_f J sg_125_10_11_1_0_1)
      try rw [vrf qu233] at D
      have eu234 := (show 0 ≤ u234.toInt ∧ u234.toInt ≤ 400 from qu234 ▸ jrg_f J sg_125_8_9_1_0_1)
      try rw [vrf (jmb_w w228 (jmb_w w229 (jmb_w w231 (jmb_c S232 qu234 rfl) rfl) rfl) rfl)] at D
      have eu235 := (show 0 ≤ u235.toInt ∧ u235.toInt ≤ 400 from qu235 ▸ jrg_f J sg_125_9_10_1_0_1)
      try rw [vrf qu235] at D
      have eu236 := (show 0 ≤ u236.toInt ∧ u236.toInt ≤ 3 from qu236 ▸ jrg_f J sg_125_11_12_1_0_1)
      try rw [vrf qu236] at D
      obtain rfl : u235 = u237 := qu235.symm.trans qu237
      obtain rfl : u233 = u238 := qu233.symm.trans qu238
      have nfP239 := jnf P239.1 (jmo w231 rfl (jmo w229 rfl (jmo w228 rfl zp0))) qu235
      show jX m_X12_readPlain 6 0 0 21 [(0, .ref 125)] [] _ 0 0 _
      refine x_iconst (v := 0) rfl ki_0 ?_
      refine x_iret rfl rfl ?_
      exact hQ _ _ (jr_of jk_0 (by omega)) J Sm _ _ _ qu233 qu234 qu235 (by omega) _ _ _ qu236 qu235 qu233 (by omega) (by rw [jk_0]; exact rp_not hA hN qu227 w228 w229 w231 (by omega) (jeq_c S232 rfl jeq_0) (jeq_c S232 rfl jeq_0) (jeq_c S232 rfl jeq_0) (jeq_c S232 rfl jeq_0) (jmc S232 rfl rfl) (jmc S232 rfl rfl) (jmc S232 rfl rfl) zp2 qu235  (by omega)) ((congrArg Prod.fst D).symm.trans (show 0 = (0 : Int32).toInt from by have := jk_0; omega)) (congrArg Prod.snd D).symm
def fp_X12_readSide_r125d : jFp := [(125, 9, 10), (125, 10, 11), (125, 11, 12), (125, 12, 13), (125, 13, 14), (125, 14, 15), (135, 0, 16), (136, 0, 48)]
set_option maxRecDepth 100000 in
set_option maxHeartbeats 4000000 in
theorem ct_X12_readSide_r125d_55 {Dy : jH → Prop} {h0 : jH} {Q : Option Value → jH → Prop} {dr : jW} {a1 : Int32} (yy_a1 : 0 ≤ a1.toInt ∧ a1.toInt ≤ 15) (hD : jDk Dy) (hQ : ∀ hx9, jJ jSgM Dy hx9 → jSm fp_X12_readSide_r125d h0 hx9 → ∀ u0 u1 u2 : Int32, jiv hx9 125 10 = u0 → jiv hx9 125 8 = u1 → jiv hx9 125 9 = u2 → (u0.toInt ≤ u1.toInt ∧ u2.toInt ≤ u0.toInt) → ∀ u3 u4 u5 : Int32, jiv hx9 125 11 = u3 → jiv hx9 125 9 = u4 → jiv hx9 125 10 = u5 → (u3.toInt = 0 ∨ u4.toInt + 1 ≤ u5.toInt) → jRs a1 h0 hx9 → dr = vw hx9 → Q none hx9) : ∀ r : Nat, ∀ (l2 : Int32) (l3 : Int32) (l4 : Int32) (g0 : Int32) (g1 : Int32) (g2 : Int32) (g3 : Int32) (h : jH), 3 - l4.toInt < (r : Int) → 1 ≤ l2.toInt ∧ l2.toInt ≤ 3 → 0 ≤ l3.toInt ∧ l3.toInt ≤ 400 → 0 ≤ l4.toInt ∧ l4.toInt ≤ 3 → 0 ≤ g0.toInt ∧ g0.toInt ≤ 400 → 0 ≤ g1.toInt ∧ g1.toInt ≤ 3 → 0 ≤ g2.toInt ∧ g2.toInt ≤ 400 → 0 ≤ g3.toInt ∧ g3.toInt ≤ 400 → l3.toInt + l2.toInt ≤ 400 → jRs a1 h0 h → l3.toInt + l2.toInt ≤ 400 → (g0.toInt ≤ g2.toInt ∧ g3.toInt ≤ g0.toInt) → (g1.toInt = 0 ∨ g3.toInt + 1 ≤ g0.toInt) → jiv h 125 10 = g0 → jiv h 125 11 = g1 → jiv h 125 8 = g2 → jiv h 125 9 = g3 → jJ jSgM Dy h → jSm fp_X12_readSide_r125d h0 h → d_X12_readSide_r125d_55 r a1.toInt l2.toInt l3.toInt l4.toInt (vw h) = dr → jX m_X12_readSide 4 0 0 55 [(0, .ref 125), (1, .int a1), (2, .int l2), (3, .int l3), (4, .int l4)] [] h 0 0 Q := by
  intro r
  induction r with
  | zero =>
    intro l2 l3 l4 g0 g1 g2 g3 h hm y0 y1 y2 y3 y4 y5 y6 y7 C0 y9 y10 y11 z0 z1 z2 z3  J Sm D
    exfalso
    omega
  | succ r ih =>
    intro l2 l3 l4 g0 g1 g2 g3 h hm y0 y1 y2 y3 y4 y5 y6 y7 C0 y9 y10 y11 z0 z1 z2 z3  J Sm D
    rw [d_X12_readSide_r125d_55.eq_2] at D
    try rw [vrf z0] at D
    try rw [vrf z1] at D
    try rw [vrf z2] at D
    try rw [vrf z3] at D
    refine x_iload (x := l4) rfl rfl ?_
    refine x_iloadn (x := l2) rfl rfl ?_
    refine x_icge (tgt := 87) rfl rfl (ti_ge rfl rfl ⟨fun c1 => ?_, fun c1 => ?_⟩)
    ·
      rw [if_pos (by omega)] at D
      refine x_vret rfl rfl ?_
      exact hQ _ J Sm _ _ _ z0 z2 z3 (by omega) _ _ _ z1 z3 z0 (by omega) C0 D.symm
    ·
      rw [if_neg (by omega)] at D
      refine x_aloadn (x := 125) rfl rfl ?_
      refine z_getR (N := 92) (b := 136) 12 20 rfl f_12_48 rfl J rfl 16020 ⟨rfl, rfl⟩ rfl ?_
      refine x_iconst (v := 3) rfl ki_3 ?_
      refine x_iloadn (x := a1) rfl rfl ?_
      refine z_imul rfl jk_3 rfl (by omega) (fun v2 ev2 => ?_)
      refine x_iload (x := l4) rfl rfl ?_
      refine z_iadd rfl rfl rfl (by omega) (fun v3 ev3 => ?_)
      refine x_aloadn (x := 125) rfl rfl ?_
      refine z_getR (N := 92) (b := 131) 12 7 rfl f_12_29 rfl J rfl 16007 ⟨rfl, rfl⟩ rfl ?_
      refine x_iloadn (x := l3) rfl rfl ?_
      refine x_iload (x := l4) rfl rfl ?_
      refine z_iadd rfl rfl rfl (by omega) (fun v4 ev4 => ?_)
      refine z_iald (N := 400) rfl J rfl sg_131_0_400_1_0_1 rfl (by omega) (fun v5 qv5 ev5 => ?_)
      try rw [vrd qv5 (show (l3.toInt + l4.toInt) = v4.toInt from by omega)] at D
      refine z_iast (N := 48) (l := 0) (u := 48) (w := v5.toInt) rfl hD J Sm rfl rfl rfl (by omega) rfl (wr_136 (fun q1 q2 q3 q4 => by omega)) rfl (fun h w6 J Sm => ?_)
      rw [vww w6 (show ((3 * a1.toInt) + l4.toInt) = v3.toInt from by omega) (show v5.toInt = v5.toInt from by omega)] at D
      refine z_iinc (x := l4) (lsx9 := fun v7 => [(4, .int v7), (0, .ref 125), (1, .int a1), (2, .int l2), (3, .int l3)]) rfl rfl rfl jko_1 (by omega) rfl (fun _ => rfl) (fun v7 ev7 => ?_)
      refine x_goto (tgt := 55) rfl rfl ?_
      try rw [show (l4.toInt + 1) = v7.toInt from by omega] at D
      exact jX.sub (jsb_c rfl (jsb_c rfl (jsb_c rfl (jsb_c rfl (jsb_c rfl jsb_n))))) (ih l2 l3 v7 g0 g1 g2 g3 h (by omega) (jr_of rfl (by omega)) (jr_of rfl (by omega)) (jr_of rfl (by omega)) (jr_of rfl (by omega)) (jr_of rfl (by omega)) (jr_of rfl (by omega)) (jr_of rfl (by omega)) (by omega) (jrs_mv (jeq_o w6 rfl jeq_0) (jmo w6 rfl rfl) C0) (by omega) (by omega) (by omega) (jmo w6 rfl z0) (jmo w6 rfl z1) (jmo w6 rfl z2) (jmo w6 rfl z3) J Sm D)
set_option maxRecDepth 100000 in
set_option maxHeartbeats 4000000 in
theorem ct_X12_readSide_r125d_300034 {Dy : jH → Prop} {h0 : jH} {Q : Option Value → jH → Prop} {dr : jW} {a1 : Int32} (yy_a1 : 0 ≤ a1.toInt ∧ a1.toInt ≤ 15) (hD : jDk Dy) (hQ : ∀ hx9, jJ jSgM Dy hx9 → jSm fp_X12_readSide_r125d h0 hx9 → ∀ u0 u1 u2 : Int32, jiv hx9 125 10 = u0 → jiv hx9 125 8 = u1 → jiv hx9 125 9 = u2 → (u0.toInt ≤ u1.toInt ∧ u2.toInt ≤ u0.toInt) → ∀ u3 u4 u5 : Int32, jiv hx9 125 11 = u3 → jiv hx9 125 9 = u4 → jiv hx9 125 10 = u5 → (u3.toInt = 0 ∨ u4.toInt + 1 ≤ u5.toInt) → jRs a1 h0 hx9 → dr = vw hx9 → Q none hx9) : ∀ (l2 : Int32) (l3 : Int32) (g0 : Int32) (g1 : Int32) (g2 : Int32) (g3 : Int32) (h : jH), 0 ≤ l2.toInt ∧ l2.toInt ≤ 3 → 0 ≤ l3.toInt ∧ l3.toInt ≤ 400 → 0 ≤ g0.toInt ∧ g0.toInt ≤ 400 → 1 ≤ g1.toInt ∧ g1.toInt ≤ 1 → 0 ≤ g2.toInt ∧ g2.toInt ≤ 400 → 0 ≤ g3.toInt ∧ g3.toInt ≤ 400 → 1 ≤ l2.toInt → (jEq 135 (fun _ => True) h h0 ∧ jiv h 125 14 = jiv h0 125 14) → l3.toInt + l2.toInt ≤ 400 → (g0.toInt ≤ g2.toInt ∧ g3.toInt ≤ g0.toInt) → (g1.toInt = 0 ∨ g3.toInt + 1 ≤ g0.toInt) → jiv h 125 10 = g0 → jiv h 125 11 = g1 → jiv h 125 8 = g2 → jiv h 125 9 = g3 → jJ jSgM Dy h → jSm fp_X12_readSide_r125d h0 h → d_X12_readSide_r125d_300034  a1.toInt l2.toInt l3.toInt (vw h) = dr → jX m_X12_readSide 4 0 0 34 [(0, .ref 125), (1, .int a1), (2, .int l2), (3, .int l3)] [.int 1, .ref 125] h 0 0 Q := by
  intro l2 l3 g0 g1 g2 g3 h y0 y1 y2 y3 y4 y5 y6 C0 y8 y9 y10 z0 z1 z2 z3  J Sm D
  unfold d_X12_readSide_r125d_300034 at D
  try rw [vrf z0] at D
  try rw [vrf z1] at D
  try rw [vrf z2] at D
  try rw [vrf z3] at D
  obtain ⟨u1, qu1⟩ : ∃ v : Int32, jiv h 125 14 = v := ⟨_, rfl⟩
  have eu1 := (show 0 ≤ u1.toInt ∧ u1.toInt ≤ 1 from qu1 ▸ jrg_f J sg_125_14_15_1_0_1)
  try rw [vrf qu1] at D
  have bq := congrArg Int32.toInt qu1
  have b0 := congrArg Int32.toInt C0.2
  refine x_inv (N := m_X12_must) (As := [.int 1]) (b := 125) (st := []) (dx9 := 3) (mc := 0) (ms := 0) (host := "") 12 rfl t_X12_must ⟨Or.inl q_12_250, i_X12_must.1, i_X12_must.2⟩ ⟨by decide, rfl⟩ (congrArg Prod.fst (J.1.1 125 (12, 92) rfl)) rfl (by decide) rfl rfl ⟨by decide, by decide⟩ (jC.of rfl k_X12_must rfl ?_)
  show jX m_X12_must 3 0 0 0 [(0, .ref 125), (1, .int 1)] [] _ 0 0 _
  refine x_aloadn (x := 125) rfl rfl ?_
  refine z_getM (N := 92) (v := u1) 12 14 rfl f_12_214 rfl J rfl qu1 ?_
  refine x_ifne (tgt := 24) rfl rfl (ti_ne rfl jk_0 ⟨fun c2 => ?_, fun c2 => ?_⟩)
  ·
    rw [if_neg (by omega)] at D
    refine x_aloadn (x := 125) rfl rfl ?_
    refine z_getM (N := 92) (v := u1) 12 14 rfl f_12_214 rfl J rfl qu1 ?_
    refine x_ifne (tgt := 35) rfl rfl (ti_ne rfl jk_0 (bn_t (by omega) ?_))
    refine x_vret rfl rfl ?_
    show jX m_X12_readSide 4 0 0 37 [(0, .ref 125), (1, .int a1), (2, .int l2), (3, .int l3)] [] _ 0 0 _
    refine x_aloadn (x := 125) rfl rfl ?_
    refine z_getM (N := 92) (v := u1) 12 14 rfl f_12_214 rfl J rfl qu1 ?_
    refine x_ifeq (tgt := 45) rfl rfl (ti_eq rfl jk_0 (br_f (by omega) ?_))
    refine x_vret rfl rfl ?_
    exact hQ _ J Sm _ _ _ z0 z2 z3 (by omega) _ _ _ z1 z3 z0 (by omega) (jrs_bad C0.1 qu1 (by omega)) D.symm
  ·
    rw [if_pos (by omega)] at D
    refine x_iloadn (x := 1) rfl rfl ?_
    refine x_ifne (tgt := 24) rfl rfl (ti_ne jk_1 jk_0 (bn_t (by omega) ?_))
    refine x_aloadn (x := 125) rfl rfl ?_
    refine z_getM (N := 92) (v := u1) 12 14 rfl f_12_214 rfl J rfl qu1 ?_
    refine x_ifne (tgt := 35) rfl rfl (ti_ne rfl jk_0 (bn_f (by omega) ?_))
    refine x_aloadn (x := 125) rfl rfl ?_
    refine x_inv (N := m_X12_next) (As := []) (b := 125) (st := []) (dx9 := 2) (mc := 0) (ms := 0) (host := "") 12 rfl t_X12_next ⟨Or.inl q_12_218, i_X12_next.1, i_X12_next.2⟩ ⟨by decide, rfl⟩ (congrArg Prod.fst (J.1.1 125 (12, 92) rfl)) rfl (by decide) rfl rfl ⟨by decide, by decide⟩ (sf_X12_next_r125d  hD J z0 z2 (by omega) rfl  (fun h J S3 u4 u5 u6 qu4 qu5 qu6 ru4 u7 u8 u9 qu7 qu8 qu9 ru7 P10 X11 => ?_))
    have Sm := jSm_tr rfl Sm S3
    rw [X11] at D
    have eu4 := (show 0 ≤ u4.toInt ∧ u4.toInt ≤ 400 from qu4 ▸ jrg_f J sg_125_10_11_1_0_1)
    try rw [vrf qu4] at D
    have eu5 := (show 0 ≤ u5.toInt ∧ u5.toInt ≤ 400 from qu5 ▸ jrg_f J sg_125_8_9_1_0_1)
    try rw [vrf (jmb_c S3 qu5 rfl)] at D
    have eu6 := (show 0 ≤ u6.toInt ∧ u6.toInt ≤ 400 from qu6 ▸ jrg_f J sg_125_9_10_1_0_1)
    try rw [vrf qu6] at D
    have eu7 := (show 0 ≤ u7.toInt ∧ u7.toInt ≤ 3 from qu7 ▸ jrg_f J sg_125_11_12_1_0_1)
    try rw [vrf qu7] at D
    obtain rfl : u6 = u8 := qu6.symm.trans qu8
    obtain rfl : u4 = u9 := qu4.symm.trans qu9
    have nfP10 := jnf P10.1 z0 qu6
    show jX m_X12_must 3 0 0 35 [(0, .ref 125), (1, .int 1)] [] _ 0 0 _
    refine x_vret rfl rfl ?_
    show jX m_X12_readSide 4 0 0 37 [(0, .ref 125), (1, .int a1), (2, .int l2), (3, .int l3)] [] _ 0 0 _
    refine x_aloadn (x := 125) rfl rfl ?_
    refine z_getM (N := 92) (v := u1) 12 14 rfl f_12_214 rfl J rfl (jmc S3 rfl qu1) ?_
    refine x_ifeq (tgt := 45) rfl rfl (ti_eq rfl jk_0 (br_t (by omega) ?_))
    refine x_aloadn (x := 125) rfl rfl ?_
    refine z_getR (N := 92) (b := 135) 12 19 rfl f_12_45 rfl J rfl 16019 ⟨rfl, rfl⟩ rfl ?_
    refine x_iloadn (x := a1) rfl rfl ?_
    refine x_iloadn (x := l2) rfl rfl ?_
    refine z_iast (N := 16) (l := 0) (u := 16) (w := l2.toInt) rfl hD J Sm rfl rfl rfl (by omega) rfl (wr_135 (fun q1 q2 q3 q4 => by omega)) rfl (fun h w12 J Sm => ?_)
    rw [vww w12 (show a1.toInt = a1.toInt from by omega) (show l2.toInt = l2.toInt from by omega)] at D
    refine x_iconst (v := 0) rfl ki_0 ?_
    refine x_istore (lsx9 := [(4, .int 0), (0, .ref 125), (1, .int a1), (2, .int l2), (3, .int l3)]) rfl rfl rfl ?_
    exact jX.sub (jsb_c rfl (jsb_c rfl (jsb_c rfl (jsb_c rfl (jsb_c rfl jsb_n))))) (ct_X12_readSide_r125d_55 yy_a1 hD hQ  4 l2 l3 0 u4 u7 u5 u6 h (by have := jk_0; omega) (jr_of rfl (by omega)) (jr_of rfl (by omega)) (jr_of jk_0 (by omega)) (jr_of rfl (by omega)) (jr_of rfl (by omega)) (jr_of rfl (by omega)) (jr_of rfl (by omega)) (by omega) (jrs_w (v := 0) (jeq_c S3 rfl C0.1) w12 (by omega) (by omega)) (by omega) (by omega) (by omega) (jmo w12 rfl qu4) (jmo w12 rfl qu7) (jmo w12 rfl qu5) (jmo w12 rfl qu6) J Sm (by rw [jk_0]; exact D))
set_option maxRecDepth 100000 in
set_option maxHeartbeats 4000000 in
theorem ct_X12_readSide_r125d_200034 {Dy : jH → Prop} {h0 : jH} {Q : Option Value → jH → Prop} {dr : jW} {a1 : Int32} (yy_a1 : 0 ≤ a1.toInt ∧ a1.toInt ≤ 15) (hD : jDk Dy) (hQ : ∀ hx9, jJ jSgM Dy hx9 → jSm fp_X12_readSide_r125d h0 hx9 → ∀ u0 u1 u2 : Int32, jiv hx9 125 10 = u0 → jiv hx9 125 8 = u1 → jiv hx9 125 9 = u2 → (u0.toInt ≤ u1.toInt ∧ u2.toInt ≤ u0.toInt) → ∀ u3 u4 u5 : Int32, jiv hx9 125 11 = u3 → jiv hx9 125 9 = u4 → jiv hx9 125 10 = u5 → (u3.toInt = 0 ∨ u4.toInt + 1 ≤ u5.toInt) → jRs a1 h0 hx9 → dr = vw hx9 → Q none hx9) : ∀ (l2 : Int32) (l3 : Int32) (g0 : Int32) (g1 : Int32) (g2 : Int32) (g3 : Int32) (h : jH), 0 ≤ l2.toInt ∧ l2.toInt ≤ 400 → 0 ≤ l3.toInt ∧ l3.toInt ≤ 400 → 0 ≤ g0.toInt ∧ g0.toInt ≤ 400 → 0 ≤ g1.toInt ∧ g1.toInt ≤ 3 → 0 ≤ g2.toInt ∧ g2.toInt ≤ 400 → 0 ≤ g3.toInt ∧ g3.toInt ≤ 400 → (jEq 135 (fun _ => True) h h0 ∧ jiv h 125 14 = jiv h0 125 14) → l3.toInt + l2.toInt ≤ 400 → (g0.toInt ≤ g2.toInt ∧ g3.toInt ≤ g0.toInt) → (g1.toInt = 0 ∨ g3.toInt + 1 ≤ g0.toInt) → jiv h 125 10 = g0 → jiv h 125 11 = g1 → jiv h 125 8 = g2 → jiv h 125 9 = g3 → jJ jSgM Dy h → jSm fp_X12_readSide_r125d h0 h → d_X12_readSide_r125d_200034  a1.toInt l2.toInt l3.toInt (vw h) = dr → jX m_X12_readSide 4 0 0 34 [(0, .ref 125), (1, .int a1), (2, .int l2), (3, .int l3)] [.int 0, .ref 125] h 0 0 Q := by
  intro l2 l3 g0 g1 g2 g3 h y0 y1 y2 y3 y4 y5 C0 y7 y8 y9 z0 z1 z2 z3  J Sm D
  unfold d_X12_readSide_r125d_200034 at D
  try rw [vrf z0] at D
  try rw [vrf z1] at D
  try rw [vrf z2] at D
  try rw [vrf z3] at D
  obtain ⟨u1, qu1⟩ : ∃ v : Int32, jiv h 125 14 = v := ⟨_, rfl⟩
  have eu1 := (show 0 ≤ u1.toInt ∧ u1.toInt ≤ 1 from qu1 ▸ jrg_f J sg_125_14_15_1_0_1)
  try rw [vrf qu1] at D
  have bq := congrArg Int32.toInt qu1
  have b0 := congrArg Int32.toInt C0.2
  refine x_inv (N := m_X12_must) (As := [.int 0]) (b := 125) (st := []) (dx9 := 3) (mc := 0) (ms := 0) (host := "") 12 rfl t_X12_must ⟨Or.inl q_12_250, i_X12_must.1, i_X12_must.2⟩ ⟨by decide, rfl⟩ (congrArg Prod.fst (J.1.1 125 (12, 92) rfl)) rfl (by decide) rfl rfl ⟨by decide, by decide⟩ (jC.of rfl k_X12_must rfl ?_)
  show jX m_X12_must 3 0 0 0 [(0, .ref 125), (1, .int 0)] [] _ 0 0 _
  refine x_aloadn (x := 125) rfl rfl ?_
  refine z_getM (N := 92) (v := u1) 12 14 rfl f_12_214 rfl J rfl qu1 ?_
  refine x_ifne (tgt := 24) rfl rfl (ti_ne rfl jk_0 ⟨fun c2 => ?_, fun c2 => ?_⟩)
  ·
    rw [if_neg (by omega)] at D
    refine x_aloadn (x := 125) rfl rfl ?_
    refine z_getM (N := 92) (v := u1) 12 14 rfl f_12_214 rfl J rfl qu1 ?_
    refine x_ifne (tgt := 35) rfl rfl (ti_ne rfl jk_0 (bn_t (by omega) ?_))
    refine x_vret rfl rfl ?_
    show jX m_X12_readSide 4 0 0 37 [(0, .ref 125), (1, .int a1), (2, .int l2), (3, .int l3)] [] _ 0 0 _
    refine x_aloadn (x := 125) rfl rfl ?_
    refine z_getM (N := 92) (v := u1) 12 14 rfl f_12_214 rfl J rfl qu1 ?_
    refine x_ifeq (tgt := 45) rfl rfl (ti_eq rfl jk_0 (br_f (by omega) ?_))
    refine x_vret rfl rfl ?_
    exact hQ _ J Sm _ _ _ z0 z2 z3 (by omega) _ _ _ z1 z3 z0 (by omega) (jrs_bad C0.1 qu1 (by omega)) D.symm
  ·
    rw [if_pos (by omega)] at D
    refine x_iloadn (x := 0) rfl rfl ?_
    refine x_ifne (tgt := 24) rfl rfl (ti_ne jk_0 jk_0 (bn_f (by omega) ?_))
    refine x_aloadn (x := 125) rfl rfl ?_
    refine x_iconst (v := 1) rfl ki_1 ?_
    refine z_putZ (N := 92) (w := 1) 12 14 rfl f_12_214 rfl (jfin_no TX12 RX12 92 rfl rfl) hD J Sm rfl rfl jk_1 (by omega) (pw_125_14 (by omega)) rfl (fun h w3 J Sm => ?_)
    rw [vwf w3 (show 1 = (1 : Int32).toInt from by have := jk_1; omega)] at D
    refine x_aloadn (x := 125) rfl rfl ?_
    refine x_aloadn (x := 125) rfl rfl ?_
    refine z_getM (N := 92) (v := g3) 12 9 rfl f_12_221 rfl J rfl (jmo w3 rfl z3) ?_
    refine z_putI (N := 92) (w := g3.toInt) 12 13 rfl f_12_32 rfl (jfin_no TX12 RX12 92 rfl rfl) hD J Sm rfl rfl rfl (pw_125_13 (by omega)) rfl (fun h w4 J Sm => ?_)
    rw [vwf w4 (show g3.toInt = g3.toInt from by omega)] at D
    refine x_aloadn (x := 125) rfl rfl ?_
    refine z_getM (N := 92) (v := 1) 12 14 rfl f_12_214 rfl J rfl (jmo w4 rfl (jmw w3)) ?_
    refine x_ifne (tgt := 35) rfl rfl (ti_ne jk_1 jk_0 (bn_t (by omega) ?_))
    refine x_vret rfl rfl ?_
    show jX m_X12_readSide 4 0 0 37 [(0, .ref 125), (1, .int a1), (2, .int l2), (3, .int l3)] [] _ 0 0 _
    refine x_aloadn (x := 125) rfl rfl ?_
    refine z_getM (N := 92) (v := 1) 12 14 rfl f_12_214 rfl J rfl (jmo w4 rfl (jmw w3)) ?_
    refine x_ifeq (tgt := 45) rfl rfl (ti_eq jk_1 jk_0 (br_f (by omega) ?_))
    refine x_vret rfl rfl ?_
    exact hQ _ J Sm _ _ _ (jmo w4 rfl (jmo w3 rfl z0)) (jmo w4 rfl (jmo w3 rfl z2)) (jmo w4 rfl (jmo w3 rfl z3)) (by omega) _ _ _ (jmo w4 rfl (jmo w3 rfl z1)) (jmo w4 rfl (jmo w3 rfl z3)) (jmo w4 rfl (jmo w3 rfl z0)) (by omega) (jrs_bad (jeq_o w4 rfl (jeq_o w3 rfl C0.1)) (jmo w4 rfl (jmw w3)) (by decide)) D.symm
set_option maxRecDepth 100000 in
set_option maxHeartbeats 4000000 in
theorem ct_X12_readSide_r125d_33 {Dy : jH → Prop} {h0 : jH} {Q : Option Value → jH → Prop} {dr : jW} {a1 : Int32} (yy_a1 : 0 ≤ a1.toInt ∧ a1.toInt ≤ 15) (hD : jDk Dy) (hQ : ∀ hx9, jJ jSgM Dy hx9 → jSm fp_X12_readSide_r125d h0 hx9 → ∀ u0 u1 u2 : Int32, jiv hx9 125 10 = u0 → jiv hx9 125 8 = u1 → jiv hx9 125 9 = u2 → (u0.toInt ≤ u1.toInt ∧ u2.toInt ≤ u0.toInt) → ∀ u3 u4 u5 : Int32, jiv hx9 125 11 = u3 → jiv hx9 125 9 = u4 → jiv hx9 125 10 = u5 → (u3.toInt = 0 ∨ u4.toInt + 1 ≤ u5.toInt) → jRs a1 h0 hx9 → dr = vw hx9 → Q none hx9) : ∀ (l2 : Int32) (l3 : Int32) (g0 : Int32) (g1 : Int32) (g2 : Int32) (g3 : Int32) (h : jH), 0 ≤ l2.toInt ∧ l2.toInt ≤ 400 → 0 ≤ l3.toInt ∧ l3.toInt ≤ 400 → 0 ≤ g0.toInt ∧ g0.toInt ≤ 400 → 0 ≤ g1.toInt ∧ g1.toInt ≤ 3 → 0 ≤ g2.toInt ∧ g2.toInt ≤ 400 → 0 ≤ g3.toInt ∧ g3.toInt ≤ 400 → (jEq 135 (fun _ => True) h h0 ∧ jiv h 125 14 = jiv h0 125 14) → l3.toInt + l2.toInt ≤ 400 → (g0.toInt ≤ g2.toInt ∧ g3.toInt ≤ g0.toInt) → (g1.toInt = 0 ∨ g3.toInt + 1 ≤ g0.toInt) → jiv h 125 10 = g0 → jiv h 125 11 = g1 → jiv h 125 8 = g2 → jiv h 125 9 = g3 → jJ jSgM Dy h → jSm fp_X12_readSide_r125d h0 h → d_X12_readSide_r125d_33  a1.toInt l2.toInt l3.toInt (vw h) = dr → jX m_X12_readSide 4 0 0 33 [(0, .ref 125), (1, .int a1), (2, .int l2), (3, .int l3)] [.ref 125] h 0 0 Q := by
  intro l2 l3 g0 g1 g2 g3 h y0 y1 y2 y3 y4 y5 C0 y7 y8 y9 z0 z1 z2 z3  J Sm D
  unfold d_X12_readSide_r125d_33 at D
  try rw [vrf z0] at D
  try rw [vrf z1] at D
  try rw [vrf z2] at D
  try rw [vrf z3] at D
  refine x_iconst (v := 0) rfl ki_0 ?_
  exact jX.sub (jsb_c rfl (jsb_c rfl (jsb_c rfl (jsb_c rfl jsb_n)))) (ct_X12_readSide_r125d_200034 yy_a1 hD hQ  l2 l3 g0 g1 g2 g3 h (jr_of rfl (by omega)) (jr_of rfl (by omega)) (jr_of rfl (by omega)) (jr_of rfl (by omega)) (jr_of rfl (by omega)) (jr_of rfl (by omega)) C0 (by omega) (by omega) (by omega) z0 z1 z2 z3 J Sm D)
set_option maxRecDepth 100000 in
set_option maxHeartbeats 4000000 in
theorem sf_X12_readSide_r125d {Dy : jH → Prop} {h : jH} {Q : Option Value → jH → Prop} {dr : jW} {a1 : Int32} (y1 : 0 ≤ a1.toInt ∧ a1.toInt ≤ 15) (hD : jDk Dy) (J : jJ jSgM Dy h) {p0 p1 p2 : Int32} {p3 p4 p5 : Int32} (zp0 : jiv h 125 10 = p0) (zp1 : jiv h 125 8 = p1) (zp2 : jiv h 125 9 = p2) (rl_p0 : (p0.toInt ≤ p1.toInt ∧ p2.toInt ≤ p0.toInt)) (zp3 : jiv h 125 11 = p3) (zp4 : jiv h 125 9 = p4) (zp5 : jiv h 125 10 = p5) (rl_p3 : (p3.toInt = 0 ∨ p4.toInt + 1 ≤ p5.toInt)) (D : d_X12_readSide_r125d a1.toInt (vw h) = dr) (hQ : ∀ hx9, jJ jSgM Dy hx9 → jSm fp_X12_readSide_r125d h hx9 → ∀ u0 u1 u2 : Int32, jiv hx9 125 10 = u0 → jiv hx9 125 8 = u1 → jiv hx9 125 9 = u2 → (u0.toInt ≤ u1.toInt ∧ u2.toInt ≤ u0.toInt) → ∀ u3 u4 u5 : Int32, jiv hx9 125 11 = u3 → jiv hx9 125 9 = u4 → jiv hx9 125 10 = u5 → (u3.toInt = 0 ∨ u4.toInt + 1 ≤ u5.toInt) → jRs a1 h hx9 → dr = vw hx9 → Q none hx9) : jC m_X12_readSide 4 0 0 [.ref 125, .int a1] h Q := by
  refine jC.of rfl k_X12_readSide rfl ?_
  have Sm := jSm_rf fp_X12_readSide_r125d h
  have ep0 := (show 0 ≤ p0.toInt ∧ p0.toInt ≤ 400 from zp0 ▸ jrg_f J sg_125_10_11_1_0_1)
  have ep1 := (show 0 ≤ p1.toInt ∧ p1.toInt ≤ 400 from zp1 ▸ jrg_f J sg_125_8_9_1_0_1)
  have ep2 := (show 0 ≤ p2.toInt ∧ p2.toInt ≤ 400 from zp2 ▸ jrg_f J sg_125_9_10_1_0_1)
  have ep3 := (show 0 ≤ p3.toInt ∧ p3.toInt ≤ 3 from zp3 ▸ jrg_f J sg_125_11_12_1_0_1)
  have ep4 := (show 0 ≤ p4.toInt ∧ p4.toInt ≤ 400 from zp4 ▸ jrg_f J sg_125_9_10_1_0_1)
  have ep5 := (show 0 ≤ p5.toInt ∧ p5.toInt ≤ 400 from zp5 ▸ jrg_f J sg_125_10_11_1_0_1)
  obtain rfl : p2 = p4 := zp2.symm.trans zp4
  obtain rfl : p0 = p5 := zp0.symm.trans zp5
  have yy_a1 := y1
  show jX m_X12_readSide 4 0 0 0 [(0, .ref 125), (1, .int a1)] [] _ 0 0 _
  unfold d_X12_readSide_r125d at D
  try rw [vrf zp0] at D
  try rw [vrf zp1] at D
  try rw [vrf zp2] at D
  try rw [vrf zp3] at D
  try rw [vrf zp4] at D
  try rw [vrf zp5] at D
  refine x_aloadn (x := 125) rfl rfl ?_
  refine z_getM (N := 92) (v := p0) 12 10 rfl f_12_211 rfl J rfl zp0 ?_
  refine x_aloadn (x := 125) rfl rfl ?_
  refine z_getM (N := 92) (v := p2) 12 9 rfl f_12_221 rfl J rfl zp2 ?_
  refine z_isub rfl rfl rfl (by omega) (fun v1 ev1 => ?_)
  refine x_istoren (lsx9 := [(2, .int v1), (0, .ref 125), (1, .int a1)]) rfl rfl rfl ?_
  refine x_aloadn (x := 125) rfl rfl ?_
  refine z_getM (N := 92) (v := p2) 12 9 rfl f_12_221 rfl J rfl zp2 ?_
  refine x_istoren (lsx9 := [(3, .int p2), (2, .int v1), (0, .ref 125), (1, .int a1)]) rfl rfl rfl ?_
  refine x_aloadn (x := 125) rfl rfl ?_
  refine x_aloadn (x := 125) rfl rfl ?_
  refine z_getM (N := 92) (v := p3) 12 11 rfl f_12_235 rfl J rfl zp3 ?_
  refine x_iconst (v := 1) rfl ki_1 ?_
  refine x_icne (tgt := 33) rfl rfl (ti_ne rfl jk_1 ⟨fun c2 => ?_, fun c2 => ?_⟩)
  ·
    rw [if_neg (by omega)] at D
    try rw [show (p0.toInt - p2.toInt) = v1.toInt from by omega] at D
    try rw [show p2.toInt = p2.toInt from by omega] at D
    exact jX.sub (jsb_c rfl (jsb_c rfl (jsb_c rfl (jsb_c rfl jsb_n)))) (ct_X12_readSide_r125d_33 yy_a1 hD hQ  v1 p2 p0 p3 p1 p2 h (jr_of rfl (by omega)) (jr_of rfl (by omega)) (jr_of rfl (by omega)) (jr_of rfl (by omega)) (jr_of rfl (by omega)) (jr_of rfl (by omega)) ⟨jeq_0, rfl⟩ (by omega) (by omega) (by omega) zp0 zp3 zp1 zp2 J Sm D)
  ·
    rw [if_pos (by omega)] at D
    refine x_iloadn (x := v1) rfl rfl ?_
    refine x_iconst (v := 3) rfl ki_3 ?_
    refine x_icgt (tgt := 33) rfl rfl (ti_gt rfl jk_3 ⟨fun c3 => ?_, fun c3 => ?_⟩)
    ·
      rw [if_pos (by omega)] at D
      try rw [show (p0.toInt - p2.toInt) = v1.toInt from by omega] at D
      try rw [show p2.toInt = p2.toInt from by omega] at D
      exact jX.sub (jsb_c rfl (jsb_c rfl (jsb_c rfl (jsb_c rfl jsb_n)))) (ct_X12_readSide_r125d_33 yy_a1 hD hQ  v1 p2 p0 p3 p1 p2 h (jr_of rfl (by omega)) (jr_of rfl (by omega)) (jr_of rfl (by omega)) (jr_of rfl (by omega)) (jr_of rfl (by omega)) (jr_of rfl (by omega)) ⟨jeq_0, rfl⟩ (by omega) (by omega) (by omega) zp0 zp3 zp1 zp2 J Sm D)
    ·
      rw [if_neg (by omega)] at D
      refine x_iconst (v := 1) rfl ki_1 ?_
      refine x_goto (tgt := 34) rfl rfl ?_
      try rw [show (p0.toInt - p2.toInt) = v1.toInt from by omega] at D
      try rw [show p2.toInt = p2.toInt from by omega] at D
      exact jX.sub (jsb_c rfl (jsb_c rfl (jsb_c rfl (jsb_c rfl jsb_n)))) (ct_X12_readSide_r125d_300034 yy_a1 hD hQ  v1 p2 p0 p3 p1 p2 h (jr_of rfl (by omega)) (jr_of rfl (by omega)) (jr_of rfl (by omega)) (jr_of rfl (by omega)) (jr_of rfl (by omega)) (jr_of rfl (by omega)) (by omega) ⟨jeq_0, rfl⟩ (by omega) (by omega) (by omega) zp0 zp3 zp1 zp2 J Sm D)
def fp_X12_readPair_r125d : jFp := [(125, 9, 10), (125, 10, 11), (125, 11, 12), (125, 12, 13), (125, 13, 14), (125, 14, 15), (125, 18, 19), (135, 0, 16), (136, 0, 48)]
set_option maxRecDepth 100000 in
set_option maxHeartbeats 4000000 in
theorem ct_X12_readPair_r125d_76 {Dy : jH → Prop} {h0 : jH} {Q : Option Value → jH → Prop} {dr : jW} (hD : jDk Dy) (hQ : ∀ hx9, jJ jSgM Dy hx9 → jSm fp_X12_readPair_r125d h0 hx9 → ∀ u0 u1 u2 : Int32, jiv hx9 125 10 = u0 → jiv hx9 125 8 = u1 → jiv hx9 125 9 = u2 → (u0.toInt ≤ u1.toInt ∧ u2.toInt ≤ u0.toInt) → ∀ u3 u4 u5 : Int32, jiv hx9 125 11 = u3 → jiv hx9 125 9 = u4 → jiv hx9 125 10 = u5 → (u3.toInt = 0 ∨ u4.toInt + 1 ≤ u5.toInt) → jRp h0 hx9 → dr = vw hx9 → Q none hx9) : ∀ (g0 : Int32) (g1 : Int32) (g2 : Int32) (g3 : Int32) (g4 : Int32) (h : jH), 0 ≤ g0.toInt ∧ g0.toInt ≤ 400 → 0 ≤ g1.toInt ∧ g1.toInt ≤ 3 → 0 ≤ g2.toInt ∧ g2.toInt ≤ 7 → 0 ≤ g3.toInt ∧ g3.toInt ≤ 400 → 0 ≤ g4.toInt ∧ g4.toInt ≤ 400 → (jiv h 125 18 = jiv h0 125 18 ∧ jRq h0 h) → (g0.toInt ≤ g3.toInt ∧ g4.toInt ≤ g0.toInt) → (g1.toInt = 0 ∨ g4.toInt + 1 ≤ g0.toInt) → jiv h 125 10 = g0 → jiv h 125 11 = g1 → jiv h 125 18 = g2 → jiv h 125 8 = g3 → jiv h 125 9 = g4 → jJ jSgM Dy h → jSm fp_X12_readPair_r125d h0 h → d_X12_readPair_r125d_76  (vw h) = dr → jX m_X12_readPair 5 0 0 76 [(0, .ref 125)] [] h 0 0 Q := by
  intro g0 g1 g2 g3 g4 h y0 y1 y2 y3 y4 C0 y6 y7 z0 z1 z2 z3 z4  J Sm D
  unfold d_X12_readPair_r125d_76 at D
  try rw [vrf z0] at D
  try rw [vrf z1] at D
  try rw [vrf z2] at D
  try rw [vrf z3] at D
  try rw [vrf z4] at D
  refine x_aloadn (x := 125) rfl rfl ?_
  refine x_dup rfl rfl ?_
  refine z_getM (N := 92) (v := g2) 12 18 rfl f_12_302 rfl J rfl z2 ?_
  refine x_iconst (v := 1) rfl ki_1 ?_
  refine z_iadd rfl rfl jk_1 (by omega) (fun v1 ev1 => ?_)
  refine z_putI (N := 92) (w := v1.toInt) 12 18 rfl f_12_302 rfl (jfin_no TX12 RX12 92 rfl rfl) hD J Sm rfl rfl rfl (pw_125_18 (by omega)) rfl (fun h w2 J Sm => ?_)
  rw [vwf w2 (show (g2.toInt + 1) = v1.toInt from by omega)] at D
  refine x_vret rfl rfl ?_
  exact hQ _ J Sm _ _ _ (jmo w2 rfl z0) (jmo w2 rfl z3) (jmo w2 rfl z4) (by omega) _ _ _ (jmo w2 rfl z1) (jmo w2 rfl z4) (jmo w2 rfl z0) (by omega) (jrp_of C0.2 z2 C0.1 w2 (by omega)) D.symm
set_option maxRecDepth 100000 in
set_option maxHeartbeats 4000000 in
theorem sf_X12_readPair_r125d {Dy : jH → Prop} {h : jH} {Q : Option Value → jH → Prop} {dr : jW} (hD : jDk Dy) (J : jJ jSgM Dy h) {p0 p1 p2 : Int32} {p3 p4 p5 : Int32} (zp0 : jiv h 125 10 = p0) (zp1 : jiv h 125 8 = p1) (zp2 : jiv h 125 9 = p2) (rl_p0 : (p0.toInt ≤ p1.toInt ∧ p2.toInt ≤ p0.toInt)) (zp3 : jiv h 125 11 = p3) (zp4 : jiv h 125 9 = p4) (zp5 : jiv h 125 10 = p5) (rl_p3 : (p3.toInt = 0 ∨ p4.toInt + 1 ≤ p5.toInt)) (D : d_X12_readPair_r125d (vw h) = dr) (hQ : ∀ hx9, jJ jSgM Dy hx9 → jSm fp_X12_readPair_r125d h hx9 → ∀ u0 u1 u2 : Int32, jiv hx9 125 10 = u0 → jiv hx9 125 8 = u1 → jiv hx9 125 9 = u2 → (u0.toInt ≤ u1.toInt ∧ u2.toInt ≤ u0.toInt) → ∀ u3 u4 u5 : Int32, jiv hx9 125 11 = u3 → jiv hx9 125 9 = u4 → jiv hx9 125 10 = u5 → (u3.toInt = 0 ∨ u4.toInt + 1 ≤ u5.toInt) → jRp h hx9 → dr = vw hx9 → Q none hx9) : jC m_X12_readPair 5 0 0 [.ref 125] h Q := by
  refine jC.of rfl k_X12_readPair rfl ?_
  have Sm := jSm_rf fp_X12_readPair_r125d h
  have ep0 := (show 0 ≤ p0.toInt ∧ p0.toInt ≤ 400 from zp0 ▸ jrg_f J sg_125_10_11_1_0_1)
  have ep1 := (show 0 ≤ p1.toInt ∧ p1.toInt ≤ 400 from zp1 ▸ jrg_f J sg_125_8_9_1_0_1)
  have ep2 := (show 0 ≤ p2.toInt ∧ p2.toInt ≤ 400 from zp2 ▸ jrg_f J sg_125_9_10_1_0_1)
  have ep3 := (show 0 ≤ p3.toInt ∧ p3.toInt ≤ 3 from zp3 ▸ jrg_f J sg_125_11_12_1_0_1)
  have ep4 := (show 0 ≤ p4.toInt ∧ p4.toInt ≤ 400 from zp4 ▸ jrg_f J sg_125_9_10_1_0_1)
  have ep5 := (show 0 ≤ p5.toInt ∧ p5.toInt ≤ 400 from zp5 ▸ jrg_f J sg_125_10_11_1_0_1)
  obtain rfl : p2 = p4 := zp2.symm.trans zp4
  obtain rfl : p0 = p5 := zp0.symm.trans zp5
  show jX m_X12_readPair 5 0 0 0 [(0, .ref 125)] [] _ 0 0 _
  unfold d_X12_readPair_r125d at D
  try rw [vrf zp0] at D
  try rw [vrf zp1] at D
  try rw [vrf zp2] at D
  try rw [vrf zp3] at D
  try rw [vrf zp4] at D
  try rw [vrf zp5] at D
  refine x_aloadn (x := 125) rfl rfl ?_
  refine z_getI (N := 92) 12 18 rfl f_12_302 rfl J rfl sg_125_18_19_1_0_1 (fun v1 qv1 ev1 => ?_)
  try rw [vrf qv1] at D
  refine x_bipush (v := 8) rfl kb_8 ?_
  refine x_icne (tgt := 15) rfl rfl (ti_ne rfl jk_8 ⟨fun c2 => ?_, fun c2 => ?_⟩)
  ·
    rw [if_neg (by omega)] at D
    refine x_aloadn (x := 125) rfl rfl ?_
    refine x_iconst (v := 2) rfl ki_2 ?_
    refine x_aloadn (x := 125) rfl rfl ?_
    refine z_getM (N := 92) (v := v1) 12 18 rfl f_12_302 rfl J rfl qv1 ?_
    refine z_imul rfl jk_2 rfl (by omega) (fun v3 ev3 => ?_)
    try rw [show (2 * v1.toInt) = v3.toInt from by omega] at D
    refine x_inv (N := m_X12_readSide) (As := [.int v3]) (b := 125) (st := []) (dx9 := 4) (mc := 0) (ms := 0) (host := "") 12 rfl t_X12_readSide ⟨Or.inl q_12_305, i_X12_readSide.1, i_X12_readSide.2⟩ ⟨by decide, rfl⟩ (congrArg Prod.fst (J.1.1 125 (12, 92) rfl)) rfl (by decide) rfl rfl ⟨by decide, by decide⟩ (sf_X12_readSide_r125d (jr_of rfl (by omega)) hD J zp0 zp1 zp2 (by omega) zp3 zp2 zp0 (by omega) rfl  (fun h J S4 u5 u6 u7 qu5 qu6 qu7 ru5 u8 u9 u10 qu8 qu9 qu10 ru8 P11 X12 => ?_))
    have Sm := jSm_tr rfl Sm S4
    rw [X12] at D
    have eu5 := (show 0 ≤ u5.toInt ∧ u5.toInt ≤ 400 from qu5 ▸ jrg_f J sg_125_10_11_1_0_1)
    try rw [vrf qu5] at D
    have eu6 := (show 0 ≤ u6.toInt ∧ u6.toInt ≤ 400 from qu6 ▸ jrg_f J sg_125_8_9_1_0_1)
    try rw [vrf (jmb_c S4 qu6 rfl)] at D
    have eu7 := (show 0 ≤ u7.toInt ∧ u7.toInt ≤ 400 from qu7 ▸ jrg_f J sg_125_9_10_1_0_1)
    try rw [vrf qu7] at D
    have eu8 := (show 0 ≤ u8.toInt ∧ u8.toInt ≤ 3 from qu8 ▸ jrg_f J sg_125_11_12_1_0_1)
    try rw [vrf qu8] at D
    obtain rfl : u7 = u9 := qu7.symm.trans qu9
    obtain rfl : u5 = u10 := qu5.symm.trans qu10
    show jX m_X12_readPair 5 0 0 25 [(0, .ref 125)] [] _ 0 0 _
    obtain ⟨u13, qu13⟩ : ∃ v : Int32, jiv h 125 14 = v := ⟨_, rfl⟩
    have eu13 := (show 0 ≤ u13.toInt ∧ u13.toInt ≤ 1 from qu13 ▸ jrg_f J sg_125_14_15_1_0_1)
    try rw [vrf qu13] at D
    refine x_aloadn (x := 125) rfl rfl ?_
    refine x_aloadn (x := 125) rfl rfl ?_
    refine x_bipush (v := 62) rfl kb_62 ?_
    refine x_inv (N := m_X12_isSign) (As := [.int 62]) (b := 125) (st := [.ref 125]) (dx9 := 4) (mc := 0) (ms := 0) (host := "") 12 rfl t_X12_isSign ⟨Or.inl q_12_257, i_X12_isSign.1, i_X12_isSign.2⟩ ⟨by decide, rfl⟩ (congrArg Prod.fst (J.1.1 125 (12, 92) rfl)) rfl (by decide) rfl rfl ⟨by decide, by decide⟩ (jC.of rfl k_X12_isSign rfl ?_)
    show jX m_X12_isSign 4 0 0 0 [(0, .ref 125), (1, .int 62)] [] _ 0 0 _
    refine x_aloadn (x := 125) rfl rfl ?_
    refine z_getM (N := 92) (v := u8) 12 11 rfl f_12_235 rfl J rfl qu8 ?_
    refine x_iconst (v := 3) rfl ki_3 ?_
    refine x_icne (tgt := 22) rfl rfl (ti_ne rfl jk_3 ⟨fun c14 => ?_, fun c14 => ?_⟩)
    ·
      rw [if_neg (by omega)] at D
      refine x_iconst (v := 0) rfl ki_0 ?_
      refine x_zret rfl rfl (by decide) ?_
      show jX m_X12_readPair 5 0 0 32 [(0, .ref 125)] [.int 0, .ref 125] _ 0 0 _
      refine x_inv (N := m_X12_must) (As := [.int 0]) (b := 125) (st := []) (dx9 := 4) (mc := 0) (ms := 0) (host := "") 12 rfl t_X12_must ⟨Or.inl q_12_250, i_X12_must.1, i_X12_must.2⟩ ⟨by decide, rfl⟩ (congrArg Prod.fst (J.1.1 125 (12, 92) rfl)) rfl (by decide) rfl rfl ⟨by decide, by decide⟩ (jC.of rfl k_X12_must rfl ?_)
      show jX m_X12_must 4 0 0 0 [(0, .ref 125), (1, .int 0)] [] _ 0 0 _
      refine x_aloadn (x := 125) rfl rfl ?_
      refine z_getM (N := 92) (v := u13) 12 14 rfl f_12_214 rfl J rfl qu13 ?_
      refine x_ifne (tgt := 24) rfl rfl (ti_ne rfl jk_0 ⟨fun c15 => ?_, fun c15 => ?_⟩)
      ·
        rw [if_neg (by omega)] at D
        refine x_aloadn (x := 125) rfl rfl ?_
        refine z_getM (N := 92) (v := u13) 12 14 rfl f_12_214 rfl J rfl qu13 ?_
        refine x_ifne (tgt := 35) rfl rfl (ti_ne rfl jk_0 (bn_t (by omega) ?_))
        refine x_vret rfl rfl ?_
        show jX m_X12_readPair 5 0 0 35 [(0, .ref 125)] [] _ 0 0 _
        refine x_aloadn (x := 125) rfl rfl ?_
        refine z_getR (N := 92) (b := 135) 12 19 rfl f_12_45 rfl J rfl 16019 ⟨rfl, rfl⟩ rfl ?_
        refine x_iconst (v := 2) rfl ki_2 ?_
        refine x_aloadn (x := 125) rfl rfl ?_
        refine z_getM (N := 92) (v := v1) 12 18 rfl f_12_302 rfl J rfl (jmc S4 rfl qv1) ?_
        refine z_imul rfl jk_2 rfl (by omega) (fun v16 ev16 => ?_)
        refine x_iconst (v := 1) rfl ki_1 ?_
        refine z_iadd rfl rfl jk_1 (by omega) (fun v17 ev17 => ?_)
        refine x_iconst (v := 0) rfl ki_0 ?_
        refine z_iast (N := 16) (l := 0) (u := 16) (w := 0) rfl hD J Sm rfl rfl rfl (by omega) jk_0 (wr_135 (fun q1 q2 q3 q4 => by omega)) rfl (fun h w18 J Sm => ?_)
        rw [vww w18 (show (v3.toInt + 1) = v17.toInt from by omega) (show 0 = (0 : Int32).toInt from by have := jk_0; omega)] at D
        refine x_aloadn (x := 125) rfl rfl ?_
        refine z_getM (N := 92) (v := u13) 12 14 rfl f_12_214 rfl J rfl (jmo w18 rfl qu13) ?_
        refine x_ifne (tgt := 76) rfl rfl (ti_ne rfl jk_0 (bn_t (by omega) ?_))
        exact jX.sub (jsb_c rfl jsb_n) (ct_X12_readPair_r125d_76 hD hQ  u5 u8 v1 u6 u7 h (jr_of rfl (by omega)) (jr_of rfl (by omega)) (jr_of rfl (by omega)) (jr_of rfl (by omega)) (jr_of rfl (by omega)) ⟨(jmo w18 rfl (jmc S4 rfl rfl)), (if z : u13.toInt = 0 then jrq_1 P11 qv1 (by omega) (by omega) qu13 z (jeq_s w18 (by have := jcl_of (d := v17) (by omega); have := jcl_of (d := v1) (by omega); omega) jeq_0) else Or.inl (by rw [(jmo w18 rfl qu13)]; exact z))⟩ (by omega) (by omega) (jmo w18 rfl qu5) (jmo w18 rfl qu8) (jmo w18 rfl (jmc S4 rfl qv1)) (jmo w18 rfl qu6) (jmo w18 rfl qu7) J Sm D)
      ·
        rw [if_pos (by omega)] at D
        refine x_iloadn (x := 0) rfl rfl ?_
        refine x_ifne (tgt := 24) rfl rfl (ti_ne jk_0 jk_0 (bn_f (by omega) ?_))
        refine x_aloadn (x := 125) rfl rfl ?_
        refine x_iconst (v := 1) rfl ki_1 ?_
        refine z_putZ (N := 92) (w := 1) 12 14 rfl f_12_214 rfl (jfin_no TX12 RX12 92 rfl rfl) hD J Sm rfl rfl jk_1 (by omega) (pw_125_14 (by omega)) rfl (fun h w19 J Sm => ?_)
        rw [vwf w19 (show 1 = (1 : Int32).toInt from by have := jk_1; omega)] at D
        refine x_aloadn (x := 125) rfl rfl ?_
        refine x_aloadn (x := 125) rfl rfl ?_
        refine z_getM (N := 92) (v := u7) 12 9 rfl f_12_221 rfl J rfl (jmo w19 rfl qu7) ?_
        refine z_putI (N := 92) (w := u7.toInt) 12 13 rfl f_12_32 rfl (jfin_no TX12 RX12 92 rfl rfl) hD J Sm rfl rfl rfl (pw_125_13 (by omega)) rfl (fun h w20 J Sm => ?_)
        rw [vwf w20 (show u7.toInt = u7.toInt from by omega)] at D
        refine x_aloadn (x := 125) rfl rfl ?_
        refine z_getM (N := 92) (v := 1) 12 14 rfl f_12_214 rfl J rfl (jmo w20 rfl (jmw w19)) ?_
        refine x_ifne (tgt := 35) rfl rfl (ti_ne jk_1 jk_0 (bn_t (by omega) ?_))
        refine x_vret rfl rfl ?_
        show jX m_X12_readPair 5 0 0 35 [(0, .ref 125)] [] _ 0 0 _
        refine x_aloadn (x := 125) rfl rfl ?_
        refine z_getR (N := 92) (b := 135) 12 19 rfl f_12_45 rfl J rfl 16019 ⟨rfl, rfl⟩ rfl ?_
        refine x_iconst (v := 2) rfl ki_2 ?_
        refine x_aloadn (x := 125) rfl rfl ?_
        refine z_getM (N := 92) (v := v1) 12 18 rfl f_12_302 rfl J rfl (jmo w20 rfl (jmo w19 rfl (jmc S4 rfl qv1))) ?_
        refine z_imul rfl jk_2 rfl (by omega) (fun v21 ev21 => ?_)
        refine x_iconst (v := 1) rfl ki_1 ?_
        refine z_iadd rfl rfl jk_1 (by omega) (fun v22 ev22 => ?_)
        refine x_iconst (v := 0) rfl ki_0 ?_
        refine z_iast (N := 16) (l := 0) (u := 16) (w := 0) rfl hD J Sm rfl rfl rfl (by omega) jk_0 (wr_135 (fun q1 q2 q3 q4 => by omega)) rfl (fun h w23 J Sm => ?_)
        rw [vww w23 (show (v3.toInt + 1) = v22.toInt from by omega) (show 0 = (0 : Int32).toInt from by have := jk_0; omega)] at D
        refine x_aloadn (x := 125) rfl rfl ?_
        refine z_getM (N := 92) (v := 1) 12 14 rfl f_12_214 rfl J rfl (jmo w23 rfl (jmo w20 rfl (jmw w19))) ?_
        refine x_ifne (tgt := 76) rfl rfl (ti_ne jk_1 jk_0 (bn_t (by omega) ?_))
        exact jX.sub (jsb_c rfl jsb_n) (ct_X12_readPair_r125d_76 hD hQ  u5 u8 v1 u6 u7 h (jr_of rfl (by omega)) (jr_of rfl (by omega)) (jr_of rfl (by omega)) (jr_of rfl (by omega)) (jr_of rfl (by omega)) ⟨(jmo w23 rfl (jmo w20 rfl (jmo w19 rfl (jmc S4 rfl rfl)))), (Or.inl (by rw [(jmo w23 rfl (jmo w20 rfl (jmw w19)))]; decide))⟩ (by omega) (by omega) (jmo w23 rfl (jmo w20 rfl (jmo w19 rfl qu5))) (jmo w23 rfl (jmo w20 rfl (jmo w19 rfl qu8))) (jmo w23 rfl (jmo w20 rfl (jmo w19 rfl (jmc S4 rfl qv1)))) (jmo w23 rfl (jmo w20 rfl (jmo w19 rfl qu6))) (jmo w23 rfl (jmo w20 rfl (jmo w19 rfl qu7))) J Sm D)
    ·
      rw [if_pos (by omega)] at D
      refine x_aloadn (x := 125) rfl rfl ?_
      refine z_getLQ (N := 92) 12 12 rfl f_12_224 rfl J rfl (fun v24 qv24 => ?_)
      have ev24 := jfullL v24
      try rw [vrfL qv24] at D
      refine x_iloadn (x := 62) rfl rfl ?_
      refine z_i2l rfl jk_62 (fun v25 ev25 => ?_)
      refine z_lcmp rfl rfl rfl (fun v26 ev26 => ?_)
      refine x_ifne (tgt := 22) rfl rfl (ti_ne rfl jk_0 ⟨fun c27 => ?_, fun c27 => ?_⟩)
      ·
        rw [if_neg (by omega)] at D
        refine x_iconst (v := 0) rfl ki_0 ?_
        refine x_zret rfl rfl (by decide) ?_
        show jX m_X12_readPair 5 0 0 32 [(0, .ref 125)] [.int 0, .ref 125] _ 0 0 _
        refine x_inv (N := m_X12_must) (As := [.int 0]) (b := 125) (st := []) (dx9 := 4) (mc := 0) (ms := 0) (host := "") 12 rfl t_X12_must ⟨Or.inl q_12_250, i_X12_must.1, i_X12_must.2⟩ ⟨by decide, rfl⟩ (congrArg Prod.fst (J.1.1 125 (12, 92) rfl)) rfl (by decide) rfl rfl ⟨by decide, by decide⟩ (jC.of rfl k_X12_must rfl ?_)
        show jX m_X12_must 4 0 0 0 [(0, .ref 125), (1, .int 0)] [] _ 0 0 _
        refine x_aloadn (x := 125) rfl rfl ?_
        refine z_getM (N := 92) (v := u13) 12 14 rfl f_12_214 rfl J rfl qu13 ?_
        refine x_ifne (tgt := 24) rfl rfl (ti_ne rfl jk_0 ⟨fun c28 => ?_, fun c28 => ?_⟩)
        ·
          rw [if_neg (by omega)] at D
          refine x_aloadn (x := 125) rfl rfl ?_
          refine z_getM (N := 92) (v := u13) 12 14 rfl f_12_214 rfl J rfl qu13 ?_
          refine x_ifne (tgt := 35) rfl rfl (ti_ne rfl jk_0 (bn_t (by omega) ?_))
          refine x_vret rfl rfl ?_
          show jX m_X12_readPair 5 0 0 35 [(0, .ref 125)] [] _ 0 0 _
          refine x_aloadn (x := 125) rfl rfl ?_
          refine z_getR (N := 92) (b := 135) 12 19 rfl f_12_45 rfl J rfl 16019 ⟨rfl, rfl⟩ rfl ?_
          refine x_iconst (v := 2) rfl ki_2 ?_
          refine x_aloadn (x := 125) rfl rfl ?_
          refine z_getM (N := 92) (v := v1) 12 18 rfl f_12_302 rfl J rfl (jmc S4 rfl qv1) ?_
          refine z_imul rfl jk_2 rfl (by omega) (fun v29 ev29 => ?_)
          refine x_iconst (v := 1) rfl ki_1 ?_
          refine z_iadd rfl rfl jk_1 (by omega) (fun v30 ev30 => ?_)
          refine x_iconst (v := 0) rfl ki_0 ?_
          refine z_iast (N := 16) (l := 0) (u := 16) (w := 0) rfl hD J Sm rfl rfl rfl (by omega) jk_0 (wr_135 (fun q1 q2 q3 q4 => by omega)) rfl (fun h w31 J Sm => ?_)
          rw [vww w31 (show (v3.toInt + 1) = v30.toInt from by omega) (show 0 = (0 : Int32).toInt from by have := jk_0; omega)] at D
          refine x_aloadn (x := 125) rfl rfl ?_
          refine z_getM (N := 92) (v := u13) 12 14 rfl f_12_214 rfl J rfl (jmo w31 rfl qu13) ?_
          refine x_ifne (tgt := 76) rfl rfl (ti_ne rfl jk_0 (bn_t (by omega) ?_))
          exact jX.sub (jsb_c rfl jsb_n) (ct_X12_readPair_r125d_76 hD hQ  u5 u8 v1 u6 u7 h (jr_of rfl (by omega)) (jr_of rfl (by omega)) (jr_of rfl (by omega)) (jr_of rfl (by omega)) (jr_of rfl (by omega)) ⟨(jmo w31 rfl (jmc S4 rfl rfl)), (if z : u13.toInt = 0 then jrq_1 P11 qv1 (by omega) (by omega) qu13 z (jeq_s w31 (by have := jcl_of (d := v30) (by omega); have := jcl_of (d := v1) (by omega); omega) jeq_0) else Or.inl (by rw [(jmo w31 rfl qu13)]; exact z))⟩ (by omega) (by omega) (jmo w31 rfl qu5) (jmo w31 rfl qu8) (jmo w31 rfl (jmc S4 rfl qv1)) (jmo w31 rfl qu6) (jmo w31 rfl qu7) J Sm D)
        ·
          rw [if_pos (by omega)] at D
          refine x_iloadn (x := 0) rfl rfl ?_
          refine x_ifne (tgt := 24) rfl rfl (ti_ne jk_0 jk_0 (bn_f (by omega) ?_))
          refine x_aloadn (x := 125) rfl rfl ?_
          refine x_iconst (v := 1) rfl ki_1 ?_
          refine z_putZ (N := 92) (w := 1) 12 14 rfl f_12_214 rfl (jfin_no TX12 RX12 92 rfl rfl) hD J Sm rfl rfl jk_1 (by omega) (pw_125_14 (by omega)) rfl (fun h w32 J Sm => ?_)
          rw [vwf w32 (show 1 = (1 : Int32).toInt from by have := jk_1; omega)] at D
          refine x_aloadn (x := 125) rfl rfl ?_
          refine x_aloadn (x := 125) rfl rfl ?_
          refine z_getM (N := 92) (v := u7) 12 9 rfl f_12_221 rfl J rfl (jmo w32 rfl qu7) ?_
          refine z_putI (N := 92) (w := u7.toInt) 12 13 rfl f_12_32 rfl (jfin_no TX12 RX12 92 rfl rfl) hD J Sm rfl rfl rfl (pw_125_13 (by omega)) rfl (fun h w33 J Sm => ?_)
          rw [vwf w33 (show u7.toInt = u7.toInt from by omega)] at D
          refine x_aloadn (x := 125) rfl rfl ?_
          refine z_getM (N := 92) (v := 1) 12 14 rfl f_12_214 rfl J rfl (jmo w33 rfl (jmw w32)) ?_
          refine x_ifne (tgt := 35) rfl rfl (ti_ne jk_1 jk_0 (bn_t (by omega) ?_))
          refine x_vret rfl rfl ?_
          show jX m_X12_readPair 5 0 0 35 [(0, .ref 125)] [] _ 0 0 _
          refine x_aloadn (x := 125) rfl rfl ?_
          refine z_getR (N := 92) (b := 135) 12 19 rfl f_12_45 rfl J rfl 16019 ⟨rfl, rfl⟩ rfl ?_
          refine x_iconst (v := 2) rfl ki_2 ?_
          refine x_aloadn (x := 125) rfl rfl ?_
          refine z_getM (N := 92) (v := v1) 12 18 rfl f_12_302 rfl J rfl (jmo w33 rfl (jmo w32 rfl (jmc S4 rfl qv1))) ?_
          refine z_imul rfl jk_2 rfl (by omega) (fun v34 ev34 => ?_)
          refine x_iconst (v := 1) rfl ki_1 ?_
          refine z_iadd rfl rfl jk_1 (by omega) (fun v35 ev35 => ?_)
          refine x_iconst (v := 0) rfl ki_0 ?_
          refine z_iast (N := 16) (l := 0) (u := 16) (w := 0) rfl hD J Sm rfl rfl rfl (by omega) jk_0 (wr_135 (fun q1 q2 q3 q4 => by omega)) rfl (fun h w36 J Sm => ?_)
          rw [vww w36 (show (v3.toInt + 1) = v35.toInt from by omega) (show 0 = (0 : Int32).toInt from by have := jk_0; omega)] at D
          refine x_aloadn (x := 125) rfl rfl ?_
          refine z_getM (N := 92) (v := 1) 12 14 rfl f_12_214 rfl J rfl (jmo w36 rfl (jmo w33 rfl (jmw w32))) ?_
          refine x_ifne (tgt := 76) rfl rfl (ti_ne jk_1 jk_0 (bn_t (by omega) ?_))
          exact jX.sub (jsb_c rfl jsb_n) (ct_X12_readPair_r125d_76 hD hQ  u5 u8 v1 u6 u7 h (jr_of rfl (by omega)) (jr_of rfl (by omega)) (jr_of rfl (by omega)) (jr_of rfl (by omega)) (jr_of rfl (by omega)) ⟨(jmo w36 rfl (jmo w33 rfl (jmo w32 rfl (jmc S4 rfl rfl)))), (Or.inl (by rw [(jmo w36 rfl (jmo w33 rfl (jmw w32)))]; decide))⟩ (by omega) (by omega) (jmo w36 rfl (jmo w33 rfl (jmo w32 rfl qu5))) (jmo w36 rfl (jmo w33 rfl (jmo w32 rfl qu8))) (jmo w36 rfl (jmo w33 rfl (jmo w32 rfl (jmc S4 rfl qv1)))) (jmo w36 rfl (jmo w33 rfl (jmo w32 rfl qu6))) (jmo w36 rfl (jmo w33 rfl (jmo w32 rfl qu7))) J Sm D)
      ·
        rw [if_pos (by omega)] at D
        refine x_iconst (v := 1) rfl ki_1 ?_
        refine x_goto (tgt := 23) rfl rfl ?_
        refine x_zret rfl rfl (by decide) ?_
        show jX m_X12_readPair 5 0 0 32 [(0, .ref 125)] [.int 1, .ref 125] _ 0 0 _
        refine x_inv (N := m_X12_must) (As := [.int 1]) (b := 125) (st := []) (dx9 := 4) (mc := 0) (ms := 0) (host := "") 12 rfl t_X12_must ⟨Or.inl q_12_250, i_X12_must.1, i_X12_must.2⟩ ⟨by decide, rfl⟩ (congrArg Prod.fst (J.1.1 125 (12, 92) rfl)) rfl (by decide) rfl rfl ⟨by decide, by decide⟩ (jC.of rfl k_X12_must rfl ?_)
        show jX m_X12_must 4 0 0 0 [(0, .ref 125), (1, .int 1)] [] _ 0 0 _
        refine x_aloadn (x := 125) rfl rfl ?_
        refine z_getM (N := 92) (v := u13) 12 14 rfl f_12_214 rfl J rfl qu13 ?_
        refine x_ifne (tgt := 24) rfl rfl (ti_ne rfl jk_0 ⟨fun c37 => ?_, fun c37 => ?_⟩)
        ·
          rw [if_neg (by omega)] at D
          refine x_aloadn (x := 125) rfl rfl ?_
          refine z_getM (N := 92) (v := u13) 12 14 rfl f_12_214 rfl J rfl qu13 ?_
          refine x_ifne (tgt := 35) rfl rfl (ti_ne rfl jk_0 (bn_t (by omega) ?_))
          refine x_vret rfl rfl ?_
          show jX m_X12_readPair 5 0 0 35 [(0, .ref 125)] [] _ 0 0 _
          refine x_aloadn (x := 125) rfl rfl ?_
          refine z_getR (N := 92) (b := 135) 12 19 rfl f_12_45 rfl J rfl 16019 ⟨rfl, rfl⟩ rfl ?_
          refine x_iconst (v := 2) rfl ki_2 ?_
          refine x_aloadn (x := 125) rfl rfl ?_
          refine z_getM (N := 92) (v := v1) 12 18 rfl f_12_302 rfl J rfl (jmc S4 rfl qv1) ?_
          refine z_imul rfl jk_2 rfl (by omega) (fun v38 ev38 => ?_)
          refine x_iconst (v := 1) rfl ki_1 ?_
          refine z_iadd rfl rfl jk_1 (by omega) (fun v39 ev39 => ?_)
          refine x_iconst (v := 0) rfl ki_0 ?_
          refine z_iast (N := 16) (l := 0) (u := 16) (w := 0) rfl hD J Sm rfl rfl rfl (by omega) jk_0 (wr_135 (fun q1 q2 q3 q4 => by omega)) rfl (fun h w40 J Sm => ?_)
          rw [vww w40 (show (v3.toInt + 1) = v39.toInt from by omega) (show 0 = (0 : Int32).toInt from by have := jk_0; omega)] at D
          refine x_aloadn (x := 125) rfl rfl ?_
          refine z_getM (N := 92) (v := u13) 12 14 rfl f_12_214 rfl J rfl (jmo w40 rfl qu13) ?_
          refine x_ifne (tgt := 76) rfl rfl (ti_ne rfl jk_0 (bn_t (by omega) ?_))
          exact jX.sub (jsb_c rfl jsb_n) (ct_X12_readPair_r125d_76 hD hQ  u5 u8 v1 u6 u7 h (jr_of rfl (by omega)) (jr_of rfl (by omega)) (jr_of rfl (by omega)) (jr_of rfl (by omega)) (jr_of rfl (by omega)) ⟨(jmo w40 rfl (jmc S4 rfl rfl)), (if z : u13.toInt = 0 then jrq_1 P11 qv1 (by omega) (by omega) qu13 z (jeq_s w40 (by have := jcl_of (d := v39) (by omega); have := jcl_of (d := v1) (by omega); omega) jeq_0) else Or.inl (by rw [(jmo w40 rfl qu13)]; exact z))⟩ (by omega) (by omega) (jmo w40 rfl qu5) (jmo w40 rfl qu8) (jmo w40 rfl (jmc S4 rfl qv1)) (jmo w40 rfl qu6) (jmo w40 rfl qu7) J Sm D)
        ·
          rw [if_pos (by omega)] at D
          refine x_iloadn (x := 1) rfl rfl ?_
          refine x_ifne (tgt := 24) rfl rfl (ti_ne jk_1 jk_0 (bn_t (by omega) ?_))
          refine x_aloadn (x := 125) rfl rfl ?_
          refine z_getM (N := 92) (v := u13) 12 14 rfl f_12_214 rfl J rfl qu13 ?_
          refine x_ifne (tgt := 35) rfl rfl (ti_ne rfl jk_0 (bn_f (by omega) ?_))
          refine x_aloadn (x := 125) rfl rfl ?_
          refine x_inv (N := m_X12_next) (As := []) (b := 125) (st := []) (dx9 := 2) (mc := 0) (ms := 0) (host := "") 12 rfl t_X12_next ⟨Or.inl q_12_218, i_X12_next.1, i_X12_next.2⟩ ⟨by decide, rfl⟩ (congrArg Prod.fst (J.1.1 125 (12, 92) rfl)) rfl (by decide) rfl rfl ⟨by decide, by decide⟩ (sf_X12_next_r125d  hD J qu5 qu6 (by omega) rfl  (fun h J S41 u42 u43 u44 qu42 qu43 qu44 ru42 u45 u46 u47 qu45 qu46 qu47 ru45 P48 X49 => ?_))
          have Sm := jSm_tr rfl Sm S41
          rw [X49] at D
          have eu42 := (show 0 ≤ u42.toInt ∧ u42.toInt ≤ 400 from qu42 ▸ jrg_f J sg_125_10_11_1_0_1)
          try rw [vrf qu42] at D
          have eu43 := (show 0 ≤ u43.toInt ∧ u43.toInt ≤ 400 from qu43 ▸ jrg_f J sg_125_8_9_1_0_1)
          try have kqu43 : u6.toInt = u43.toInt := ((vrf (jmb_c S4 qu6 rfl)).symm.trans (vrf (jmb_c S4 (jmb_c S41 qu43 rfl) rfl)))
          try rw [kqu43] at D
          try rw [vrf (jmb_c S4 (jmb_c S41 qu43 rfl) rfl)] at D
          have eu44 := (show 0 ≤ u44.toInt ∧ u44.toInt ≤ 400 from qu44 ▸ jrg_f J sg_125_9_10_1_0_1)
          try rw [vrf qu44] at D
          have eu45 := (show 0 ≤ u45.toInt ∧ u45.toInt ≤ 3 from qu45 ▸ jrg_f J sg_125_11_12_1_0_1)
          try rw [vrf qu45] at D
          obtain rfl : u44 = u46 := qu44.symm.trans qu46
          obtain rfl : u42 = u47 := qu42.symm.trans qu47
          have nfP48 := jnf P48.1 qu5 qu44
          show jX m_X12_must 4 0 0 35 [(0, .ref 125), (1, .int 1)] [] _ 0 0 _
          refine x_vret rfl rfl ?_
          show jX m_X12_readPair 5 0 0 35 [(0, .ref 125)] [] _ 0 0 _
          refine x_aloadn (x := 125) rfl rfl ?_
          refine z_getR (N := 92) (b := 135) 12 19 rfl f_12_45 rfl J rfl 16019 ⟨rfl, rfl⟩ rfl ?_
          refine x_iconst (v := 2) rfl ki_2 ?_
          refine x_aloadn (x := 125) rfl rfl ?_
          refine z_getM (N := 92) (v := v1) 12 18 rfl f_12_302 rfl J rfl (jmc S41 rfl (jmc S4 rfl qv1)) ?_
          refine z_imul rfl jk_2 rfl (by omega) (fun v50 ev50 => ?_)
          refine x_iconst (v := 1) rfl ki_1 ?_
          refine z_iadd rfl rfl jk_1 (by omega) (fun v51 ev51 => ?_)
          refine x_iconst (v := 0) rfl ki_0 ?_
          refine z_iast (N := 16) (l := 0) (u := 16) (w := 0) rfl hD J Sm rfl rfl rfl (by omega) jk_0 (wr_135 (fun q1 q2 q3 q4 => by omega)) rfl (fun h w52 J Sm => ?_)
          rw [vww w52 (show (v3.toInt + 1) = v51.toInt from by omega) (show 0 = (0 : Int32).toInt from by have := jk_0; omega)] at D
          refine x_aloadn (x := 125) rfl rfl ?_
          refine z_getM (N := 92) (v := u13) 12 14 rfl f_12_214 rfl J rfl (jmo w52 rfl (jmc S41 rfl qu13)) ?_
          refine x_ifne (tgt := 76) rfl rfl (ti_ne rfl jk_0 (bn_f (by omega) ?_))
          refine x_aloadn (x := 125) rfl rfl ?_
          refine z_getM (N := 92) (v := u45) 12 11 rfl f_12_235 rfl J rfl (jmo w52 rfl qu45) ?_
          refine x_iconst (v := 1) rfl ki_1 ?_
          refine x_icne (tgt := 76) rfl rfl (ti_ne rfl jk_1 ⟨fun c53 => ?_, fun c53 => ?_⟩)
          ·
            rw [if_neg (by omega)] at D
            exact jX.sub (jsb_c rfl jsb_n) (ct_X12_readPair_r125d_76 hD hQ  u42 u45 v1 u43 u44 h (jr_of rfl (by omega)) (jr_of rfl (by omega)) (jr_of rfl (by omega)) (jr_of rfl (by omega)) (jr_of rfl (by omega)) ⟨(jmo w52 rfl (jmc S41 rfl (jmc S4 rfl rfl))), (if z : u13.toInt = 0 then jrq_1 P11 qv1 (by omega) (by omega) qu13 z (jeq_s w52 (by have := jcl_of (d := v51) (by omega); have := jcl_of (d := v1) (by omega); omega) (jeq_c S41 rfl jeq_0)) else Or.inl (by rw [(jmo w52 rfl (jmc S41 rfl qu13))]; exact z))⟩ (by omega) (by omega) (jmo w52 rfl qu42) (jmo w52 rfl qu45) (jmo w52 rfl (jmc S41 rfl (jmc S4 rfl qv1))) (jmo w52 rfl qu43) (jmo w52 rfl qu44) J Sm D)
          ·
            rw [if_pos (by omega)] at D
            have rq := jrq_1 P11 qv1 (by omega) (by omega) qu13 (by omega) (jeq_s w52 (by have := jcl_of (d := v51) (by omega); have := jcl_of (d := v1) (by omega); omega) (jeq_c S41 rfl jeq_0))
            have rb : (jiv h 125 14).toInt = 0 := by rw [(jmo w52 rfl (jmc S41 rfl qu13))]; omega
            refine x_aloadn (x := 125) rfl rfl ?_
            refine x_iconst (v := 2) rfl ki_2 ?_
            refine x_aloadn (x := 125) rfl rfl ?_
            refine z_getM (N := 92) (v := v1) 12 18 rfl f_12_302 rfl J rfl (jmo w52 rfl (jmc S41 rfl (jmc S4 rfl qv1))) ?_
            refine z_imul rfl jk_2 rfl (by omega) (fun v54 ev54 => ?_)
            refine x_iconst (v := 1) rfl ki_1 ?_
            refine z_iadd rfl rfl jk_1 (by omega) (fun v55 ev55 => ?_)
            try rw [show (v3.toInt + 1) = v55.toInt from by omega] at D
            refine x_inv (N := m_X12_readSide) (As := [.int v55]) (b := 125) (st := []) (dx9 := 4) (mc := 0) (ms := 0) (host := "") 12 rfl t_X12_readSide ⟨Or.inl q_12_305, i_X12_readSide.1, i_X12_readSide.2⟩ ⟨by decide, rfl⟩ (congrArg Prod.fst (J.1.1 125 (12, 92) rfl)) rfl (by decide) rfl rfl ⟨by decide, by decide⟩ (sf_X12_readSide_r125d (jr_of rfl (by omega)) hD J (jmo w52 rfl qu42) (jmo w52 rfl qu43) (jmo w52 rfl qu44) (by omega) (jmo w52 rfl qu45) (jmo w52 rfl qu44) (jmo w52 rfl qu42) (by omega) rfl  (fun h J S56 u57 u58 u59 qu57 qu58 qu59 ru57 u60 u61 u62 qu60 qu61 qu62 ru60 P63 X64 => ?_))
            have Sm := jSm_tr rfl Sm S56
            rw [X64] at D
            have eu57 := (show 0 ≤ u57.toInt ∧ u57.toInt ≤ 400 from qu57 ▸ jrg_f J sg_125_10_11_1_0_1)
            try rw [vrf qu57] at D
            have eu58 := (show 0 ≤ u58.toInt ∧ u58.toInt ≤ 400 from qu58 ▸ jrg_f J sg_125_8_9_1_0_1)
            try have kqu58 : u43.toInt = u58.toInt := ((vrf (jmb_c S4 (jmb_c S41 qu43 rfl) rfl)).symm.trans (vrf (jmb_c S4 (jmb_c S41 (jmb_w w52 (jmb_c S56 qu58 rfl) rfl) rfl) rfl)))
            try rw [kqu58] at D
            try rw [vrf (jmb_c S4 (jmb_c S41 (jmb_w w52 (jmb_c S56 qu58 rfl) rfl) rfl) rfl)] at D
            have eu59 := (show 0 ≤ u59.toInt ∧ u59.toInt ≤ 400 from qu59 ▸ jrg_f J sg_125_9_10_1_0_1)
            try rw [vrf qu59] at D
            have eu60 := (show 0 ≤ u60.toInt ∧ u60.toInt ≤ 3 from qu60 ▸ jrg_f J sg_125_11_12_1_0_1)
            try rw [vrf qu60] at D
            obtain rfl : u59 = u61 := qu59.symm.trans qu61
            obtain rfl : u57 = u62 := qu57.symm.trans qu62
            show jX m_X12_readPair 5 0 0 76 [(0, .ref 125)] [] _ 0 0 _
            exact jX.sub (jsb_c rfl jsb_n) (ct_X12_readPair_r125d_76 hD hQ  u57 u60 v1 u58 u59 h (jr_of rfl (by omega)) (jr_of rfl (by omega)) (jr_of rfl (by omega)) (jr_of rfl (by omega)) (jr_of rfl (by omega)) ⟨(jmc S56 rfl (jmo w52 rfl (jmc S41 rfl (jmc S4 rfl rfl)))), (jrq_2 P63 qv1 (by omega) (by omega) rq rb)⟩ (by omega) (by omega) qu57 qu60 (jmc S56 rfl (jmo w52 rfl (jmc S41 rfl (jmc S4 rfl qv1)))) qu58 qu59 J Sm D)
  ·
    rw [if_pos (by omega)] at D
    refine x_aloadn (x := 125) rfl rfl ?_
    refine x_iconst (v := 0) rfl ki_0 ?_
    refine x_inv (N := m_X12_must) (As := [.int 0]) (b := 125) (st := []) (dx9 := 4) (mc := 0) (ms := 0) (host := "") 12 rfl t_X12_must ⟨Or.inl q_12_250, i_X12_must.1, i_X12_must.2⟩ ⟨by decide, rfl⟩ (congrArg Prod.fst (J.1.1 125 (12, 92) rfl)) rfl (by decide) rfl rfl ⟨by decide, by decide⟩ (jC.of rfl k_X12_must rfl ?_)
    show jX m_X12_must 4 0 0 0 [(0, .ref 125), (1, .int 0)] [] _ 0 0 _
    refine x_aloadn (x := 125) rfl rfl ?_
    refine z_getI (N := 92) 12 14 rfl f_12_214 rfl J rfl sg_125_14_15_1_0_1 (fun v65 qv65 ev65 => ?_)
    try rw [vrf qv65] at D
    refine x_ifne (tgt := 24) rfl rfl (ti_ne rfl jk_0 ⟨fun c66 => ?_, fun c66 => ?_⟩)
    ·
      rw [if_neg (by omega)] at D
      refine x_aloadn (x := 125) rfl rfl ?_
      refine z_getM (N := 92) (v := v65) 12 14 rfl f_12_214 rfl J rfl qv65 ?_
      refine x_ifne (tgt := 35) rfl rfl (ti_ne rfl jk_0 (bn_t (by omega) ?_))
      refine x_vret rfl rfl ?_
      show jX m_X12_readPair 5 0 0 14 [(0, .ref 125)] [] _ 0 0 _
      refine x_vret rfl rfl ?_
      exact hQ _ J Sm _ _ _ zp0 zp1 zp2 (by omega) _ _ _ zp3 zp2 zp0 (by omega) (Or.inl (by rw [qv65]; omega)) D.symm
    ·
      rw [if_pos (by omega)] at D
      refine x_iloadn (x := 0) rfl rfl ?_
      refine x_ifne (tgt := 24) rfl rfl (ti_ne jk_0 jk_0 (bn_f (by omega) ?_))
      refine x_aloadn (x := 125) rfl rfl ?_
      refine x_iconst (v := 1) rfl ki_1 ?_
      refine z_putZ (N := 92) (w := 1) 12 14 rfl f_12_214 rfl (jfin_no TX12 RX12 92 rfl rfl) hD J Sm rfl rfl jk_1 (by omega) (pw_125_14 (by omega)) rfl (fun h w67 J Sm => ?_)
      rw [vwf w67 (show 1 = (1 : Int32).toInt from by have := jk_1; omega)] at D
      refine x_aloadn (x := 125) rfl rfl ?_
      refine x_aloadn (x := 125) rfl rfl ?_
      refine z_getM (N := 92) (v := p2) 12 9 rfl f_12_221 rfl J rfl (jmo w67 rfl zp2) ?_
      refine z_putI (N := 92) (w := p2.toInt) 12 13 rfl f_12_32 rfl (jfin_no TX12 RX12 92 rfl rfl) hD J Sm rfl rfl rfl (pw_125_13 (by omega)) rfl (fun h w68 J Sm => ?_)
      rw [vwf w68 (show p2.toInt = p2.toInt from by omega)] at D
      refine x_aloadn (x := 125) rfl rfl ?_
      refine z_getM (N := 92) (v := 1) 12 14 rfl f_12_214 rfl J rfl (jmo w68 rfl (jmw w67)) ?_
      refine x_ifne (tgt := 35) rfl rfl (ti_ne jk_1 jk_0 (bn_t (by omega) ?_))
      refine x_vret rfl rfl ?_
      show jX m_X12_readPair 5 0 0 14 [(0, .ref 125)] [] _ 0 0 _
      refine x_vret rfl rfl ?_
      exact hQ _ J Sm _ _ _ (jmo w68 rfl (jmo w67 rfl zp0)) (jmo w68 rfl (jmo w67 rfl zp1)) (jmo w68 rfl (jmo w67 rfl zp2)) (by omega) _ _ _ (jmo w68 rfl (jmo w67 rfl zp3)) (jmo w68 rfl (jmo w67 rfl zp2)) (jmo w68 rfl (jmo w67 rfl zp0)) (by omega) (Or.inl (by rw [(jmo w68 rfl (jmw w67))]; decide)) D.symm
def fp_X12_reason_r125d : jFp := [(125, 0, 1), (137, 0, 80), (138, 0, 2)]
set_option maxRecDepth 100000 in
set_option maxHeartbeats 4000000 in
theorem ct_X12_reason_r125d_31 {Dy : jH → Prop} {h0 : jH} {Q : Option Value → jH → Prop} {dr : (Int × jW)} (hD : jDk Dy) (hQ : ∀ (v : Int32) hx9, (-1) ≤ v.toInt ∧ v.toInt ≤ 7 → jJ jSgM Dy hx9 → jSm fp_X12_reason_r125d h0 hx9 → dr.1 = v.toInt → dr.2 = vw hx9 → Q (some (.int v)) hx9) : ∀ (s0 : Int32) (h : jH), 0 ≤ s0.toInt ∧ s0.toInt ≤ 7 → jJ jSgM Dy h → jSm fp_X12_reason_r125d h0 h → d_X12_reason_r125d_31  s0.toInt (vw h) = dr → jX m_X12_reason 7 0 0 31 [] [.int s0] h 0 0 Q := by
  intro s0 h y0   J Sm D
  unfold d_X12_reason_r125d_31 at D
  refine x_iret rfl rfl ?_
  exact hQ _ _ (jr_of rfl (by omega)) J Sm ((congrArg Prod.fst D).symm.trans (show s0.toInt = s0.toInt from by omega)) (congrArg Prod.snd D).symm
set_option maxRecDepth 100000 in
set_option maxHeartbeats 4000000 in
theorem ct_X12_reason_r125d_100031 {Dy : jH → Prop} {h0 : jH} {Q : Option Value → jH → Prop} {dr : (Int × jW)} (hD : jDk Dy) (hQ : ∀ (v : Int32) hx9, (-1) ≤ v.toInt ∧ v.toInt ≤ 7 → jJ jSgM Dy hx9 → jSm fp_X12_reason_r125d h0 hx9 → dr.1 = v.toInt → dr.2 = vw hx9 → Q (some (.int v)) hx9) : ∀ (h : jH), jJ jSgM Dy h → jSm fp_X12_reason_r125d h0 h → d_X12_reason_r125d_100031  (vw h) = dr → jX m_X12_reason 7 0 0 31 [] [.int (-1)] h 0 0 Q := by
  intro  h    J Sm D
  unfold d_X12_reason_r125d_100031 at D
  refine x_iret rfl rfl ?_
  exact hQ _ _ (jr_of jk_m1 (by omega)) J Sm ((congrArg Prod.fst D).symm.trans (show (-1) = ((-1) : Int32).toInt from by have := jk_m1; omega)) (congrArg Prod.snd D).symm
set_option maxRecDepth 100000 in
set_option maxHeartbeats 4000000 in
theorem ct_X12_reason_r125d_30 {Dy : jH → Prop} {h0 : jH} {Q : Option Value → jH → Prop} {dr : (Int × jW)} (hD : jDk Dy) (hQ : ∀ (v : Int32) hx9, (-1) ≤ v.toInt ∧ v.toInt ≤ 7 → jJ jSgM Dy hx9 → jSm fp_X12_reason_r125d h0 hx9 → dr.1 = v.toInt → dr.2 = vw hx9 → Q (some (.int v)) hx9) : ∀ (h : jH), jJ jSgM Dy h → jSm fp_X12_reason_r125d h0 h → d_X12_reason_r125d_30  (vw h) = dr → jX m_X12_reason 7 0 0 30 [] [] h 0 0 Q := by
  intro  h    J Sm D
  unfold d_X12_reason_r125d_30 at D
  refine x_iconst (v := (-1)) rfl ki_m1 ?_
  exact jX.sub jsb_n (ct_X12_reason_r125d_100031 hD hQ  h J Sm D)
set_option maxRecDepth 100000 in
set_option maxHeartbeats 4000000 in
theorem sf_X12_reason_r125d {Dy : jH → Prop} {h : jH} {Q : Option Value → jH → Prop} {dr : (Int × jW)} {a1 : Int32} {a2 : Int32} (hD : jDk Dy) (J : jJ jSgM Dy h) (D : d_X12_reason_r125d a1.toInt a2.toInt (vw h) = dr) (hQ : ∀ (v : Int32) hx9, (-1) ≤ v.toInt ∧ v.toInt ≤ 7 → jJ jSgM Dy hx9 → jSm fp_X12_reason_r125d h hx9 → dr.1 = v.toInt → dr.2 = vw hx9 → Q (some (.int v)) hx9) : jC m_X12_reason 7 0 0 [.ref 125, .int a1, .int a2] h Q := by
  refine jC.of rfl k_X12_reason rfl ?_
  have Sm := jSm_rf fp_X12_reason_r125d h
  have ea1 := jfull a1
  have ea2 := jfull a2
  show jX m_X12_reason 7 0 0 0 [(0, .ref 125), (1, .int a1), (2, .int a2)] [] _ 0 0 _
  unfold d_X12_reason_r125d at D
  refine x_aloadn (x := 125) rfl rfl ?_
  refine x_iconst (v := 0) rfl ki_0 ?_
  refine z_putI (N := 92) (w := 0) 12 0 rfl f_12_180 rfl (jfin_no TX12 RX12 92 rfl rfl) hD J Sm rfl rfl jk_0 (pw_125_0 (by omega)) rfl (fun h w1 J Sm => ?_)
  rw [vwf w1 (show 0 = (0 : Int32).toInt from by have := jk_0; omega)] at D
  refine x_aloadn (x := 125) rfl rfl ?_
  refine x_iloadn (x := a1) rfl rfl ?_
  refine x_inv (N := m_X12_isMention) (As := [.int a1]) (b := 125) (st := []) (dx9 := 6) (mc := 0) (ms := 0) (host := "") 12 rfl t_X12_isMention ⟨Or.inl q_12_322, i_X12_isMention.1, i_X12_isMention.2⟩ ⟨by decide, rfl⟩ (congrArg Prod.fst (J.1.1 125 (12, 92) rfl)) rfl (by decide) rfl rfl ⟨by decide, by decide⟩ (jC.of rfl k_X12_isMention rfl ?_)
  show jX m_X12_isMention 6 0 0 0 [(0, .ref 125), (1, .int a1)] [] _ 0 0 _
  refine x_iloadn (x := a1) rfl rfl ?_
  refine x_iflt (tgt := 34) rfl rfl (ti_lt rfl jk_0 ⟨fun c2 => ?_, fun c2 => ?_⟩)
  ·
    rw [if_pos (by omega)] at D
    refine x_iconst (v := 0) rfl ki_0 ?_
    refine x_zret rfl rfl (by decide) ?_
    show jX m_X12_reason 7 0 0 10 [(0, .ref 125), (1, .int a1), (2, .int a2)] [.int 0] _ 0 0 _
    refine x_ifeq (tgt := 30) rfl rfl (ti_eq jk_0 jk_0 (br_t (by omega) ?_))
    exact jX.sub jsb_n (ct_X12_reason_r125d_30 hD hQ  h J Sm D)
  ·
    rw [if_neg (by omega)] at D
    refine x_aloadn (x := 125) rfl rfl ?_
    refine x_iloadn (x := a1) rfl rfl ?_
    refine x_iconst (v := 3) rfl ki_3 ?_
    refine z_idiv rfl rfl jk_3 (by omega) (by omega) (fun v3 ev3 => ?_)
    refine x_inv (N := m_X12_isLine) (As := [.int v3]) (b := 125) (st := []) (dx9 := 5) (mc := 0) (ms := 0) (host := "") 12 rfl t_X12_isLine ⟨Or.inl q_12_293, i_X12_isLine.1, i_X12_isLine.2⟩ ⟨by decide, rfl⟩ (congrArg Prod.fst (J.1.1 125 (12, 92) rfl)) rfl (by decide) rfl rfl ⟨by decide, by decide⟩ (jC.of rfl k_X12_isLine rfl ?_)
    show jX m_X12_isLine 5 0 0 0 [(0, .ref 125), (1, .int v3)] [] _ 0 0 _
    refine x_iloadn (x := v3) rfl rfl ?_
    refine z_i2l rfl rfl (fun v4 ev4 => ?_)
    refine x_lconst (v := 0) rfl kl_0 ?_
    refine x_aloadn (x := 125) rfl rfl ?_
    refine z_getR (N := 92) (b := 126) 12 2 rfl f_12_8 rfl J rfl 16002 ⟨rfl, rfl⟩ rfl ?_
    refine x_iconst (v := 0) rfl ki_0 ?_
    refine z_iald (N := 50660) rfl J rfl sg_126_0_1_1_0_1 jk_0 (by omega) (fun v5 qv5 ev5 => ?_)
    try rw [vrn (n := 0) (by decide) (jmb_w w1 qv5 rfl)] at D
    refine z_i2l rfl rfl (fun v6 ev6 => ?_)
    refine x_lconst (v := 1) rfl kl_1 ?_
    refine z_lsub rfl rfl jkl_1 (by omega) (fun v7 ev7 => ?_)
    refine x_inst (N := m_X12_in) (As := [.long v4, .long 0, .long v7]) (st := []) (dx9 := 1) (mc := 0) (ms := 0) (host := "") rfl t_X12_in ⟨Or.inl q_12_188, s_X12_in⟩ rfl (by decide) rfl rfl ⟨by decide, by decide⟩ (zc_X12_in rfl jkl_0 rfl (fun v8 ev8 => ?_))
    show jX m_X12_isLine 5 0 0 15 [(0, .ref 125), (1, .int v3)] [.int v8] _ 0 0 _
    refine x_zret rfl rfl (jz01 (by omega)) ?_
    show jX m_X12_isMention 6 0 0 11 [(0, .ref 125), (1, .int a1)] [.int v8] _ 0 0 _
    refine x_ifeq (tgt := 34) rfl rfl (ti_eq rfl jk_0 ⟨fun c9 => ?_, fun c9 => ?_⟩)
    ·
      rw [if_neg (by omega)] at D
      refine x_iconst (v := 0) rfl ki_0 ?_
      refine x_zret rfl rfl (by decide) ?_
      show jX m_X12_reason 7 0 0 10 [(0, .ref 125), (1, .int a1), (2, .int a2)] [.int 0] _ 0 0 _
      refine x_ifeq (tgt := 30) rfl rfl (ti_eq jk_0 jk_0 (br_t (by omega) ?_))
      exact jX.sub jsb_n (ct_X12_reason_r125d_30 hD hQ  h J Sm D)
    ·
      rw [if_pos (by omega)] at D
      refine x_iloadn (x := a1) rfl rfl ?_
      refine x_iconst (v := 3) rfl ki_3 ?_
      refine z_irem rfl rfl jk_3 (by omega) (by omega) (fun v10 ev10 => ?_)
      refine x_aloadn (x := 125) rfl rfl ?_
      refine x_iloadn (x := a1) rfl rfl ?_
      refine x_iconst (v := 3) rfl ki_3 ?_
      refine z_idiv rfl rfl jk_3 (by omega) (by omega) (fun v11 ev11 => ?_)
      refine x_inv (N := m_X12_bookOf) (As := [.int v11]) (b := 125) (st := [.int v10]) (dx9 := 5) (mc := 0) (ms := 0) (host := "") 12 rfl t_X12_bookOf ⟨Or.inl q_12_299, i_X12_bookOf.1, i_X12_bookOf.2⟩ ⟨by decide, rfl⟩ (congrArg Prod.fst (J.1.1 125 (12, 92) rfl)) rfl (by decide) rfl rfl ⟨by decide, by decide⟩ (jC.of rfl k_X12_bookOf rfl ?_)
      show jX m_X12_bookOf 5 0 0 0 [(0, .ref 125), (1, .int v11)] [] _ 0 0 _
      refine x_aloadn (x := 125) rfl rfl ?_
      refine z_getR (N := 92) (b := 126) 12 2 rfl f_12_8 rfl J rfl 16002 ⟨rfl, rfl⟩ rfl ?_
      refine x_aloadn (x := 125) rfl rfl ?_
      refine x_iloadn (x := v11) rfl rfl ?_
      refine x_inv (N := m_X12_at) (As := [.int v11]) (b := 125) (st := [.ref 126]) (dx9 := 4) (mc := 0) (ms := 0) (host := "") 12 rfl t_X12_at ⟨Or.inl q_12_254, i_X12_at.1, i_X12_at.2⟩ ⟨by decide, rfl⟩ (congrArg Prod.fst (J.1.1 125 (12, 92) rfl)) rfl (by decide) rfl rfl ⟨by decide, by decide⟩ (jC.of rfl k_X12_at rfl ?_)
      show jX m_X12_at 4 0 0 0 [(0, .ref 125), (1, .int v11)] [] _ 0 0 _
      refine x_bipush (v := 20) rfl kb_20 ?_
      refine x_bipush (v := 90) rfl kb_90 ?_
      refine x_iloadn (x := v11) rfl rfl ?_
      refine z_imul rfl jk_90 rfl (by omega) (fun v12 ev12 => ?_)
      refine z_iadd rfl jk_20 rfl (by omega) (fun v13 ev13 => ?_)
      refine x_iret rfl rfl ?_
      show jX m_X12_bookOf 5 0 0 9 [(0, .ref 125), (1, .int v11)] [.int v13, .ref 126] _ 0 0 _
      refine z_iald (N := 50660) rfl J rfl sg_126_20_18020_90_0_1 rfl (by omega) (fun v14 qv14 ev14 => ?_)
      try rw [vrd (jmb_w w1 qv14 rfl) (show (20 + (90 * (a1.toInt / 3))) = v13.toInt from by omega)] at D
      refine x_iret rfl rfl ?_
      show jX m_X12_isMention 6 0 0 24 [(0, .ref 125), (1, .int a1)] [.int v14, .int v10] _ 0 0 _
      refine x_inst (N := m_X12_rolesOf) (As := [.int v14]) (st := [.int v10]) (dx9 := 5) (mc := 0) (ms := 0) (host := "") rfl t_X12_rolesOf ⟨Or.inl q_12_286, s_X12_rolesOf⟩ rfl (by decide) rfl rfl ⟨by decide, by decide⟩ (jC.of rfl k_X12_rolesOf rfl ?_)
      show jX m_X12_rolesOf 5 0 0 0 [(0, .int v14)] [] _ 0 0 _
      refine x_iloadn (x := v14) rfl rfl ?_
      refine x_ifne (tgt := 8) rfl rfl (ti_ne rfl jk_0 ⟨fun c15 => ?_, fun c15 => ?_⟩)
      ·
        rw [if_neg (by omega)] at D
        refine x_iloadn (x := v14) rfl rfl ?_
        refine x_iconst (v := 1) rfl ki_1 ?_
        refine x_icne (tgt := 17) rfl rfl (ti_ne rfl jk_1 ⟨fun c16 => ?_, fun c16 => ?_⟩)
        ·
          rw [if_neg (by omega)] at D
          refine x_iconst (v := 1) rfl ki_1 ?_
          refine x_iret rfl rfl ?_
          show jX m_X12_isMention 6 0 0 27 [(0, .ref 125), (1, .int a1)] [.int 1, .int v10] _ 0 0 _
          refine x_icge (tgt := 34) rfl rfl (ti_ge rfl jk_1 ⟨fun c17 => ?_, fun c17 => ?_⟩)
          ·
            rw [if_pos (by omega)] at D
            refine x_iconst (v := 0) rfl ki_0 ?_
            refine x_zret rfl rfl (by decide) ?_
            show jX m_X12_reason 7 0 0 10 [(0, .ref 125), (1, .int a1), (2, .int a2)] [.int 0] _ 0 0 _
            refine x_ifeq (tgt := 30) rfl rfl (ti_eq jk_0 jk_0 (br_t (by omega) ?_))
            exact jX.sub jsb_n (ct_X12_reason_r125d_30 hD hQ  h J Sm D)
          ·
            rw [if_neg (by omega)] at D
            refine x_iconst (v := 1) rfl ki_1 ?_
            refine x_goto (tgt := 35) rfl rfl ?_
            refine x_zret rfl rfl (by decide) ?_
            show jX m_X12_reason 7 0 0 10 [(0, .ref 125), (1, .int a1), (2, .int a2)] [.int 1] _ 0 0 _
            refine x_ifeq (tgt := 30) rfl rfl (ti_eq jk_1 jk_0 (br_f (by omega) ?_))
            refine x_aloadn (x := 125) rfl rfl ?_
            refine x_iloadn (x := a2) rfl rfl ?_
            refine x_inv (N := m_X12_isMention) (As := [.int a2]) (b := 125) (st := []) (dx9 := 6) (mc := 0) (ms := 0) (host := "") 12 rfl t_X12_isMention ⟨Or.inl q_12_322, i_X12_isMention.1, i_X12_isMention.2⟩ ⟨by decide, rfl⟩ (congrArg Prod.fst (J.1.1 125 (12, 92) rfl)) rfl (by decide) rfl rfl ⟨by decide, by decide⟩ (jC.of rfl k_X12_isMention rfl ?_)
            show jX m_X12_isMention 6 0 0 0 [(0, .ref 125), (1, .int a2)] [] _ 0 0 _
            refine x_iloadn (x := a2) rfl rfl ?_
            refine x_iflt (tgt := 34) rfl rfl (ti_lt rfl jk_0 ⟨fun c18 => ?_, fun c18 => ?_⟩)
            ·
              rw [if_pos (by omega)] at D
              refine x_iconst (v := 0) rfl ki_0 ?_
              refine x_zret rfl rfl (by decide) ?_
              show jX m_X12_reason 7 0 0 18 [(0, .ref 125), (1, .int a1), (2, .int a2)] [.int 0] _ 0 0 _
              refine x_ifeq (tgt := 30) rfl rfl (ti_eq jk_0 jk_0 (br_t (by omega) ?_))
              exact jX.sub jsb_n (ct_X12_reason_r125d_30 hD hQ  h J Sm D)
            ·
              rw [if_neg (by omega)] at D
              refine x_aloadn (x := 125) rfl rfl ?_
              refine x_iloadn (x := a2) rfl rfl ?_
              refine x_iconst (v := 3) rfl ki_3 ?_
              refine z_idiv rfl rfl jk_3 (by omega) (by omega) (fun v19 ev19 => ?_)
              refine x_inv (N := m_X12_isLine) (As := [.int v19]) (b := 125) (st := []) (dx9 := 5) (mc := 0) (ms := 0) (host := "") 12 rfl t_X12_isLine ⟨Or.inl q_12_293, i_X12_isLine.1, i_X12_isLine.2⟩ ⟨by decide, rfl⟩ (congrArg Prod.fst (J.1.1 125 (12, 92) rfl)) rfl (by decide) rfl rfl ⟨by decide, by decide⟩ (jC.of rfl k_X12_isLine rfl ?_)
              show jX m_X12_isLine 5 0 0 0 [(0, .ref 125), (1, .int v19)] [] _ 0 0 _
              refine x_iloadn (x := v19) rfl rfl ?_
              refine z_i2l rfl rfl (fun v20 ev20 => ?_)
              refine x_lconst (v := 0) rfl kl_0 ?_
              refine x_aloadn (x := 125) rfl rfl ?_
              refine z_getR (N := 92) (b := 126) 12 2 rfl f_12_8 rfl J rfl 16002 ⟨rfl, rfl⟩ rfl ?_
              refine x_iconst (v := 0) rfl ki_0 ?_
              refine z_ialdM (N := 50660) (v := v5) rfl J rfl jk_0 (by omega) qv5 ?_
              refine z_i2l rfl rfl (fun v21 ev21 => ?_)
              refine x_lconst (v := 1) rfl kl_1 ?_
              refine z_lsub rfl rfl jkl_1 (by omega) (fun v22 ev22 => ?_)
              refine x_inst (N := m_X12_in) (As := [.long v20, .long 0, .long v22]) (st := []) (dx9 := 1) (mc := 0) (ms := 0) (host := "") rfl t_X12_in ⟨Or.inl q_12_188, s_X12_in⟩ rfl (by decide) rfl rfl ⟨by decide, by decide⟩ (zc_X12_in rfl jkl_0 rfl (fun v23 ev23 => ?_))
              show jX m_X12_isLine 5 0 0 15 [(0, .ref 125), (1, .int v19)] [.int v23] _ 0 0 _
              refine x_zret rfl rfl (jz01 (by omega)) ?_
              show jX m_X12_isMention 6 0 0 11 [(0, .ref 125), (1, .int a2)] [.int v23] _ 0 0 _
              refine x_ifeq (tgt := 34) rfl rfl (ti_eq rfl jk_0 ⟨fun c24 => ?_, fun c24 => ?_⟩)
              ·
                rw [if_neg (by omega)] at D
                refine x_iconst (v := 0) rfl ki_0 ?_
                refine x_zret rfl rfl (by decide) ?_
                show jX m_X12_reason 7 0 0 18 [(0, .ref 125), (1, .int a1), (2, .int a2)] [.int 0] _ 0 0 _
                refine x_ifeq (tgt := 30) rfl rfl (ti_eq jk_0 jk_0 (br_t (by omega) ?_))
                exact jX.sub jsb_n (ct_X12_reason_r125d_30 hD hQ  h J Sm D)
              ·
                rw [if_pos (by omega)] at D
                refine x_iloadn (x := a2) rfl rfl ?_
                refine x_iconst (v := 3) rfl ki_3 ?_
                refine z_irem rfl rfl jk_3 (by omega) (by omega) (fun v25 ev25 => ?_)
                refine x_aloadn (x := 125) rfl rfl ?_
                refine x_iloadn (x := a2) rfl rfl ?_
                refine x_iconst (v := 3) rfl ki_3 ?_
                refine z_idiv rfl rfl jk_3 (by omega) (by omega) (fun v26 ev26 => ?_)
                refine x_inv (N := m_X12_bookOf) (As := [.int v26]) (b := 125) (st := [.int v25]) (dx9 := 5) (mc := 0) (ms := 0) (host := "") 12 rfl t_X12_bookOf ⟨Or.inl q_12_299, i_X12_bookOf.1, i_X12_bookOf.2⟩ ⟨by decide, rfl⟩ (congrArg Prod.fst (J.1.1 125 (12, 92) rfl)) rfl (by decide) rfl rfl ⟨by decide, by decide⟩ (jC.of rfl k_X12_bookOf rfl ?_)
                show jX m_X12_bookOf 5 0 0 0 [(0, .ref 125), (1, .int v26)] [] _ 0 0 _
                refine x_aloadn (x := 125) rfl rfl ?_
                refine z_getR (N := 92) (b := 126) 12 2 rfl f_12_8 rfl J rfl 16002 ⟨rfl, rfl⟩ rfl ?_
                refine x_aloadn (x := 125) rfl rfl ?_
                refine x_iloadn (x := v26) rfl rfl ?_
                refine x_inv (N := m_X12_at) (As := [.int v26]) (b := 125) (st := [.ref 126]) (dx9 := 4) (mc := 0) (ms := 0) (host := "") 12 rfl t_X12_at ⟨Or.inl q_12_254, i_X12_at.1, i_X12_at.2⟩ ⟨by decide, rfl⟩ (congrArg Prod.fst (J.1.1 125 (12, 92) rfl)) rfl (by decide) rfl rfl ⟨by decide, by decide⟩ (jC.of rfl k_X12_at rfl ?_)
                show jX m_X12_at 4 0 0 0 [(0, .ref 125), (1, .int v26)] [] _ 0 0 _
                refine x_bipush (v := 20) rfl kb_20 ?_
                refine x_bipush (v := 90) rfl kb_90 ?_
                refine x_iloadn (x := v26) rfl rfl ?_
                refine z_imul rfl jk_90 rfl (by omega) (fun v27 ev27 => ?_)
                refine z_iadd rfl jk_20 rfl (by omega) (fun v28 ev28 => ?_)
                refine x_iret rfl rfl ?_
                show jX m_X12_bookOf 5 0 0 9 [(0, .ref 125), (1, .int v26)] [.int v28, .ref 126] _ 0 0 _
                refine z_iald (N := 50660) rfl J rfl sg_126_20_18020_90_0_1 rfl (by omega) (fun v29 qv29 ev29 => ?_)
                try rw [vrd (jmb_w w1 qv29 rfl) (show (20 + (90 * (a2.toInt / 3))) = v28.toInt from by omega)] at D
                refine x_iret rfl rfl ?_
                show jX m_X12_isMention 6 0 0 24 [(0, .ref 125), (1, .int a2)] [.int v29, .int v25] _ 0 0 _
                refine x_inst (N := m_X12_rolesOf) (As := [.int v29]) (st := [.int v25]) (dx9 := 5) (mc := 0) (ms := 0) (host := "") rfl t_X12_rolesOf ⟨Or.inl q_12_286, s_X12_rolesOf⟩ rfl (by decide) rfl rfl ⟨by decide, by decide⟩ (jC.of rfl k_X12_rolesOf rfl ?_)
                show jX m_X12_rolesOf 5 0 0 0 [(0, .int v29)] [] _ 0 0 _
                refine x_iloadn (x := v29) rfl rfl ?_
                refine x_ifne (tgt := 8) rfl rfl (ti_ne rfl jk_0 ⟨fun c30 => ?_, fun c30 => ?_⟩)
                ·
                  rw [if_neg (by omega)] at D
                  refine x_iloadn (x := v29) rfl rfl ?_
                  refine x_iconst (v := 1) rfl ki_1 ?_
                  refine x_icne (tgt := 17) rfl rfl (ti_ne rfl jk_1 ⟨fun c31 => ?_, fun c31 => ?_⟩)
                  ·
                    rw [if_neg (by omega)] at D
                    refine x_iconst (v := 1) rfl ki_1 ?_
                    refine x_iret rfl rfl ?_
                    show jX m_X12_isMention 6 0 0 27 [(0, .ref 125), (1, .int a2)] [.int 1, .int v25] _ 0 0 _
                    refine x_icge (tgt := 34) rfl rfl (ti_ge rfl jk_1 ⟨fun c32 => ?_, fun c32 => ?_⟩)
                    ·
                      rw [if_pos (by omega)] at D
                      refine x_iconst (v := 0) rfl ki_0 ?_
                      refine x_zret rfl rfl (by decide) ?_
                      show jX m_X12_reason 7 0 0 18 [(0, .ref 125), (1, .int a1), (2, .int a2)] [.int 0] _ 0 0 _
                      refine x_ifeq (tgt := 30) rfl rfl (ti_eq jk_0 jk_0 (br_t (by omega) ?_))
                      exact jX.sub jsb_n (ct_X12_reason_r125d_30 hD hQ  h J Sm D)
                    ·
                      rw [if_neg (by omega)] at D
                      refine x_iconst (v := 1) rfl ki_1 ?_
                      refine x_goto (tgt := 35) rfl rfl ?_
                      refine x_zret rfl rfl (by decide) ?_
                      show jX m_X12_reason 7 0 0 18 [(0, .ref 125), (1, .int a1), (2, .int a2)] [.int 1] _ 0 0 _
                      refine x_ifeq (tgt := 30) rfl rfl (ti_eq jk_1 jk_0 (br_f (by omega) ?_))
                      refine x_aloadn (x := 125) rfl rfl ?_
                      refine x_iloadn (x := a1) rfl rfl ?_
                      refine x_iloadn (x := a2) rfl rfl ?_
                      refine x_inv (N := m_X12_why) (As := [.int a1, .int a2]) (b := 125) (st := []) (dx9 := 6) (mc := 0) (ms := 0) (host := "") 12 rfl t_X12_why ⟨Or.inl q_12_368, i_X12_why.1, i_X12_why.2⟩ ⟨by decide, rfl⟩ (congrArg Prod.fst (J.1.1 125 (12, 92) rfl)) rfl (by decide) rfl rfl ⟨by decide, by decide⟩ (sf_X12_why_r125d (jr_of rfl (by omega)) (jr_of rfl (by omega)) hD J rfl  (fun v36 h ev36 J S33 X34 X35 => ?_))
                      have Sm := jSm_tr rfl Sm S33
                      try rw [X34] at D
                      try rw [X35] at D
                      show jX m_X12_reason 7 0 0 27 [(0, .ref 125), (1, .int a1), (2, .int a2)] [.int v36] _ 0 0 _
                      refine x_goto (tgt := 31) rfl rfl ?_
                      exact jX.sub jsb_n (ct_X12_reason_r125d_31 hD hQ  v36 h (jr_of rfl (by omega)) J Sm D)
                  ·
                    rw [if_pos (by omega)] at D
                    refine x_iconst (v := 2) rfl ki_2 ?_
                    refine x_goto (tgt := 18) rfl rfl ?_
                    refine x_iret rfl rfl ?_
                    show jX m_X12_isMention 6 0 0 27 [(0, .ref 125), (1, .int a2)] [.int 2, .int v25] _ 0 0 _
                    refine x_icge (tgt := 34) rfl rfl (ti_ge rfl jk_2 ⟨fun c37 => ?_, fun c37 => ?_⟩)
                    ·
                      rw [if_pos (by omega)] at D
                      refine x_iconst (v := 0) rfl ki_0 ?_
                      refine x_zret rfl rfl (by decide) ?_
                      show jX m_X12_reason 7 0 0 18 [(0, .ref 125), (1, .int a1), (2, .int a2)] [.int 0] _ 0 0 _
                      refine x_ifeq (tgt := 30) rfl rfl (ti_eq jk_0 jk_0 (br_t (by omega) ?_))
                      exact jX.sub jsb_n (ct_X12_reason_r125d_30 hD hQ  h J Sm D)
                    ·
                      rw [if_neg (by omega)] at D
                      refine x_iconst (v := 1) rfl ki_1 ?_
                      refine x_goto (tgt := 35) rfl rfl ?_
                      refine x_zret rfl rfl (by decide) ?_
                      show jX m_X12_reason 7 0 0 18 [(0, .ref 125), (1, .int a1), (2, .int a2)] [.int 1] _ 0 0 _
                      refine x_ifeq (tgt := 30) rfl rfl (ti_eq jk_1 jk_0 (br_f (by omega) ?_))
                      refine x_aloadn (x := 125) rfl rfl ?_
                      refine x_iloadn (x := a1) rfl rfl ?_
                      refine x_iloadn (x := a2) rfl rfl ?_
                      refine x_inv (N := m_X12_why) (As := [.int a1, .int a2]) (b := 125) (st := []) (dx9 := 6) (mc := 0) (ms := 0) (host := "") 12 rfl t_X12_why ⟨Or.inl q_12_368, i_X12_why.1, i_X12_why.2⟩ ⟨by decide, rfl⟩ (congrArg Prod.fst (J.1.1 125 (12, 92) rfl)) rfl (by decide) rfl rfl ⟨by decide, by decide⟩ (sf_X12_why_r125d (jr_of rfl (by omega)) (jr_of rfl (by omega)) hD J rfl  (fun v41 h ev41 J S38 X39 X40 => ?_))
                      have Sm := jSm_tr rfl Sm S38
                      try rw [X39] at D
                      try rw [X40] at D
                      show jX m_X12_reason 7 0 0 27 [(0, .ref 125), (1, .int a1), (2, .int a2)] [.int v41] _ 0 0 _
                      refine x_goto (tgt := 31) rfl rfl ?_
                      exact jX.sub jsb_n (ct_X12_reason_r125d_31 hD hQ  v41 h (jr_of rfl (by omega)) J Sm D)
                ·
                  rw [if_pos (by omega)] at D
                  refine x_iconst (v := 3) rfl ki_3 ?_
                  refine x_goto (tgt := 18) rfl rfl ?_
                  refine x_iret rfl rfl ?_
                  show jX m_X12_isMention 6 0 0 27 [(0, .ref 125), (1, .int a2)] [.int 3, .int v25] _ 0 0 _
                  refine x_icge (tgt := 34) rfl rfl (ti_ge rfl jk_3 (br_f (by omega) ?_))
                  refine x_iconst (v := 1) rfl ki_1 ?_
                  refine x_goto (tgt := 35) rfl rfl ?_
                  refine x_zret rfl rfl (by decide) ?_
                  show jX m_X12_reason 7 0 0 18 [(0, .ref 125), (1, .int a1), (2, .int a2)] [.int 1] _ 0 0 _
                  refine x_ifeq (tgt := 30) rfl rfl (ti_eq jk_1 jk_0 (br_f (by omega) ?_))
                  refine x_aloadn (x := 125) rfl rfl ?_
                  refine x_iloadn (x := a1) rfl rfl ?_
                  refine x_iloadn (x := a2) rfl rfl ?_
                  refine x_inv (N := m_X12_why) (As := [.int a1, .int a2]) (b := 125) (st := []) (dx9 := 6) (mc := 0) (ms := 0) (host := "") 12 rfl t_X12_why ⟨Or.inl q_12_368, i_X12_why.1, i_X12_why.2⟩ ⟨by decide, rfl⟩ (congrArg Prod.fst (J.1.1 125 (12, 92) rfl)) rfl (by decide) rfl rfl ⟨by decide, by decide⟩ (sf_X12_why_r125d (jr_of rfl (by omega)) (jr_of rfl (by omega)) hD J rfl  (fun v45 h ev45 J S42 X43 X44 => ?_))
                  have Sm := jSm_tr rfl Sm S42
                  try rw [X43] at D
                  try rw [X44] at D
                  show jX m_X12_reason 7 0 0 27 [(0, .ref 125), (1, .int a1), (2, .int a2)] [.int v45] _ 0 0 _
                  refine x_goto (tgt := 31) rfl rfl ?_
                  exact jX.sub jsb_n (ct_X12_reason_r125d_31 hD hQ  v45 h (jr_of rfl (by omega)) J Sm D)
        ·
          rw [if_pos (by omega)] at D
          refine x_iconst (v := 2) rfl ki_2 ?_
          refine x_goto (tgt := 18) rfl rfl ?_
          refine x_iret rfl rfl ?_
          show jX m_X12_isMention 6 0 0 27 [(0, .ref 125), (1, .int a1)] [.int 2, .int v10] _ 0 0 _
          refine x_icge (tgt := 34) rfl rfl (ti_ge rfl jk_2 ⟨fun c46 => ?_, fun c46 => ?_⟩)
          ·
            rw [if_pos (by omega)] at D
            refine x_iconst (v := 0) rfl ki_0 ?_
            refine x_zret rfl rfl (by decide) ?_
            show jX m_X12_reason 7 0 0 10 [(0, .ref 125), (1, .int a1), (2, .int a2)] [.int 0] _ 0 0 _
            refine x_ifeq (tgt := 30) rfl rfl (ti_eq jk_0 jk_0 (br_t (by omega) ?_))
            exact jX.sub jsb_n (ct_X12_reason_r125d_30 hD hQ  h J Sm D)
          ·
            rw [if_neg (by omega)] at D
            refine x_iconst (v := 1) rfl ki_1 ?_
            refine x_goto (tgt := 35) rfl rfl ?_
            refine x_zret rfl rfl (by decide) ?_
            show jX m_X12_reason 7 0 0 10 [(0, .ref 125), (1, .int a1), (2, .int a2)] [.int 1] _ 0 0 _
            refine x_ifeq (tgt := 30) rfl rfl (ti_eq jk_1 jk_0 (br_f (by omega) ?_))
            refine x_aloadn (x := 125) rfl rfl ?_
            refine x_iloadn (x := a2) rfl rfl ?_
            refine x_inv (N := m_X12_isMention) (As := [.int a2]) (b := 125) (st := []) (dx9 := 6) (mc := 0) (ms := 0) (host := "") 12 rfl t_X12_isMention ⟨Or.inl q_12_322, i_X12_isMention.1, i_X12_isMention.2⟩ ⟨by decide, rfl⟩ (congrArg Prod.fst (J.1.1 125 (12, 92) rfl)) rfl (by decide) rfl rfl ⟨by decide, by decide⟩ (jC.of rfl k_X12_isMention rfl ?_)
            show jX m_X12_isMention 6 0 0 0 [(0, .ref 125), (1, .int a2)] [] _ 0 0 _
            refine x_iloadn (x := a2) rfl rfl ?_
            refine x_iflt (tgt := 34) rfl rfl (ti_lt rfl jk_0 ⟨fun c47 => ?_, fun c47 => ?_⟩)
            ·
              rw [if_pos (by omega)] at D
              refine x_iconst (v := 0) rfl ki_0 ?_
              refine x_zret rfl rfl (by decide) ?_
              show jX m_X12_reason 7 0 0 18 [(0, .ref 125), (1, .int a1), (2, .int a2)] [.int 0] _ 0 0 _
              refine x_ifeq (tgt := 30) rfl rfl (ti_eq jk_0 jk_0 (br_t (by omega) ?_))
              exact jX.sub jsb_n (ct_X12_reason_r125d_30 hD hQ  h J Sm D)
            ·
              rw [if_neg (by omega)] at D
              refine x_aloadn (x := 125) rfl rfl ?_
              refine x_iloadn (x := a2) rfl rfl ?_
              refine x_iconst (v := 3) rfl ki_3 ?_
              refine z_idiv rfl rfl jk_3 (by omega) (by omega) (fun v48 ev48 => ?_)
              refine x_inv (N := m_X12_isLine) (As := [.int v48]) (b := 125) (st := []) (dx9 := 5) (mc := 0) (ms := 0) (host := "") 12 rfl t_X12_isLine ⟨Or.inl q_12_293, i_X12_isLine.1, i_X12_isLine.2⟩ ⟨by decide, rfl⟩ (congrArg Prod.fst (J.1.1 125 (12, 92) rfl)) rfl (by decide) rfl rfl ⟨by decide, by decide⟩ (jC.of rfl k_X12_isLine rfl ?_)
              show jX m_X12_isLine 5 0 0 0 [(0, .ref 125), (1, .int v48)] [] _ 0 0 _
              refine x_iloadn (x := v48) rfl rfl ?_
              refine z_i2l rfl rfl (fun v49 ev49 => ?_)
              refine x_lconst (v := 0) rfl kl_0 ?_
              refine x_aloadn (x := 125) rfl rfl ?_
              refine z_getR (N := 92) (b := 126) 12 2 rfl f_12_8 rfl J rfl 16002 ⟨rfl, rfl⟩ rfl ?_
              refine x_iconst (v := 0) rfl ki_0 ?_
              refine z_ialdM (N := 50660) (v := v5) rfl J rfl jk_0 (by omega) qv5 ?_
              refine z_i2l rfl rfl (fun v50 ev50 => ?_)
              refine x_lconst (v := 1) rfl kl_1 ?_
              refine z_lsub rfl rfl jkl_1 (by omega) (fun v51 ev51 => ?_)
              refine x_inst (N := m_X12_in) (As := [.long v49, .long 0, .long v51]) (st := []) (dx9 := 1) (mc := 0) (ms := 0) (host := "") rfl t_X12_in ⟨Or.inl q_12_188, s_X12_in⟩ rfl (by decide) rfl rfl ⟨by decide, by decide⟩ (zc_X12_in rfl jkl_0 rfl (fun v52 ev52 => ?_))
              show jX m_X12_isLine 5 0 0 15 [(0, .ref 125), (1, .int v48)] [.int v52] _ 0 0 _
              refine x_zret rfl rfl (jz01 (by omega)) ?_
              show jX m_X12_isMention 6 0 0 11 [(0, .ref 125), (1, .int a2)] [.int v52] _ 0 0 _
              refine x_ifeq (tgt := 34) rfl rfl (ti_eq rfl jk_0 ⟨fun c53 => ?_, fun c53 => ?_⟩)
              ·
                rw [if_neg (by omega)] at D
                refine x_iconst (v := 0) rfl ki_0 ?_
                refine x_zret rfl rfl (by decide) ?_
                show jX m_X12_reason 7 0 0 18 [(0, .ref 125), (1, .int a1), (2, .int a2)] [.int 0] _ 0 0 _
                refine x_ifeq (tgt := 30) rfl rfl (ti_eq jk_0 jk_0 (br_t (by omega) ?_))
                exact jX.sub jsb_n (ct_X12_reason_r125d_30 hD hQ  h J Sm D)
              ·
                rw [if_pos (by omega)] at D
                refine x_iloadn (x := a2) rfl rfl ?_
                refine x_iconst (v := 3) rfl ki_3 ?_
                refine z_irem rfl rfl jk_3 (by omega) (by omega) (fun v54 ev54 => ?_)
                refine x_aloadn (x := 125) rfl rfl ?_
                refine x_iloadn (x := a2) rfl rfl ?_
                refine x_iconst (v := 3) rfl ki_3 ?_
                refine z_idiv rfl rfl jk_3 (by omega) (by omega) (fun v55 ev55 => ?_)
                refine x_inv (N := m_X12_bookOf) (As := [.int v55]) (b := 125) (st := [.int v54]) (dx9 := 5) (mc := 0) (ms := 0) (host := "") 12 rfl t_X12_bookOf ⟨Or.inl q_12_299, i_X12_bookOf.1, i_X12_bookOf.2⟩ ⟨by decide, rfl⟩ (congrArg Prod.fst (J.1.1 125 (12, 92) rfl)) rfl (by decide) rfl rfl ⟨by decide, by decide⟩ (jC.of rfl k_X12_bookOf rfl ?_)
                show jX m_X12_bookOf 5 0 0 0 [(0, .ref 125), (1, .int v55)] [] _ 0 0 _
                refine x_aloadn (x := 125) rfl rfl ?_
                refine z_getR (N := 92) (b := 126) 12 2 rfl f_12_8 rfl J rfl 16002 ⟨rfl, rfl⟩ rfl ?_
                refine x_aloadn (x := 125) rfl rfl ?_
                refine x_iloadn (x := v55) rfl rfl ?_
                refine x_inv (N := m_X12_at) (As := [.int v55]) (b := 125) (st := [.ref 126]) (dx9 := 4) (mc := 0) (ms := 0) (host := "") 12 rfl t_X12_at ⟨Or.inl q_12_254, i_X12_at.1, i_X12_at.2⟩ ⟨by decide, rfl⟩ (congrArg Prod.fst (J.1.1 125 (12, 92) rfl)) rfl (by decide) rfl rfl ⟨by decide, by decide⟩ (jC.of rfl k_X12_at rfl ?_)
                show jX m_X12_at 4 0 0 0 [(0, .ref 125), (1, .int v55)] [] _ 0 0 _
                refine x_bipush (v := 20) rfl kb_20 ?_
                refine x_bipush (v := 90) rfl kb_90 ?_
                refine x_iloadn (x := v55) rfl rfl ?_
                refine z_imul rfl jk_90 rfl (by omega) (fun v56 ev56 => ?_)
                refine z_iadd rfl jk_20 rfl (by omega) (fun v57 ev57 => ?_)
                refine x_iret rfl rfl ?_
                show jX m_X12_bookOf 5 0 0 9 [(0, .ref 125), (1, .int v55)] [.int v57, .ref 126] _ 0 0 _
                refine z_iald (N := 50660) rfl J rfl sg_126_20_18020_90_0_1 rfl (by omega) (fun v58 qv58 ev58 => ?_)
                try rw [vrd (jmb_w w1 qv58 rfl) (show (20 + (90 * (a2.toInt / 3))) = v57.toInt from by omega)] at D
                refine x_iret rfl rfl ?_
                show jX m_X12_isMention 6 0 0 24 [(0, .ref 125), (1, .int a2)] [.int v58, .int v54] _ 0 0 _
                refine x_inst (N := m_X12_rolesOf) (As := [.int v58]) (st := [.int v54]) (dx9 := 5) (mc := 0) (ms := 0) (host := "") rfl t_X12_rolesOf ⟨Or.inl q_12_286, s_X12_rolesOf⟩ rfl (by decide) rfl rfl ⟨by decide, by decide⟩ (jC.of rfl k_X12_rolesOf rfl ?_)
                show jX m_X12_rolesOf 5 0 0 0 [(0, .int v58)] [] _ 0 0 _
                refine x_iloadn (x := v58) rfl rfl ?_
                refine x_ifne (tgt := 8) rfl rfl (ti_ne rfl jk_0 ⟨fun c59 => ?_, fun c59 => ?_⟩)
                ·
                  rw [if_neg (by omega)] at D
                  refine x_iloadn (x := v58) rfl rfl ?_
                  refine x_iconst (v := 1) rfl ki_1 ?_
                  refine x_icne (tgt := 17) rfl rfl (ti_ne rfl jk_1 ⟨fun c60 => ?_, fun c60 => ?_⟩)
                  ·
                    rw [if_neg (by omega)] at D
                    refine x_iconst (v := 1) rfl ki_1 ?_
                    refine x_iret rfl rfl ?_
                    show jX m_X12_isMention 6 0 0 27 [(0, .ref 125), (1, .int a2)] [.int 1, .int v54] _ 0 0 _
                    refine x_icge (tgt := 34) rfl rfl (ti_ge rfl jk_1 ⟨fun c61 => ?_, fun c61 => ?_⟩)
                    ·
                      rw [if_pos (by omega)] at D
                      refine x_iconst (v := 0) rfl ki_0 ?_
                      refine x_zret rfl rfl (by decide) ?_
                      show jX m_X12_reason 7 0 0 18 [(0, .ref 125), (1, .int a1), (2, .int a2)] [.int 0] _ 0 0 _
                      refine x_ifeq (tgt := 30) rfl rfl (ti_eq jk_0 jk_0 (br_t (by omega) ?_))
                      exact jX.sub jsb_n (ct_X12_reason_r125d_30 hD hQ  h J Sm D)
                    ·
                      rw [if_neg (by omega)] at D
                      refine x_iconst (v := 1) rfl ki_1 ?_
                      refine x_goto (tgt := 35) rfl rfl ?_
                      refine x_zret rfl rfl (by decide) ?_
                      show jX m_X12_reason 7 0 0 18 [(0, .ref 125), (1, .int a1), (2, .int a2)] [.int 1] _ 0 0 _
                      refine x_ifeq (tgt := 30) rfl rfl (ti_eq jk_1 jk_0 (br_f (by omega) ?_))
                      refine x_aloadn (x := 125) rfl rfl ?_
                      refine x_iloadn (x := a1) rfl rfl ?_
                      refine x_iloadn (x := a2) rfl rfl ?_
                      refine x_inv (N := m_X12_why) (As := [.int a1, .int a2]) (b := 125) (st := []) (dx9 := 6) (mc := 0) (ms := 0) (host := "") 12 rfl t_X12_why ⟨Or.inl q_12_368, i_X12_why.1, i_X12_why.2⟩ ⟨by decide, rfl⟩ (congrArg Prod.fst (J.1.1 125 (12, 92) rfl)) rfl (by decide) rfl rfl ⟨by decide, by decide⟩ (sf_X12_why_r125d (jr_of rfl (by omega)) (jr_of rfl (by omega)) hD J rfl  (fun v65 h ev65 J S62 X63 X64 => ?_))
                      have Sm := jSm_tr rfl Sm S62
                      try rw [X63] at D
                      try rw [X64] at D
                      show jX m_X12_reason 7 0 0 27 [(0, .ref 125), (1, .int a1), (2, .int a2)] [.int v65] _ 0 0 _
                      refine x_goto (tgt := 31) rfl rfl ?_
                      exact jX.sub jsb_n (ct_X12_reason_r125d_31 hD hQ  v65 h (jr_of rfl (by omega)) J Sm D)
                  ·
                    rw [if_pos (by omega)] at D
                    refine x_iconst (v := 2) rfl ki_2 ?_
                    refine x_goto (tgt := 18) rfl rfl ?_
                    refine x_iret rfl rfl ?_
                    show jX m_X12_isMention 6 0 0 27 [(0, .ref 125), (1, .int a2)] [.int 2, .int v54] _ 0 0 _
                    refine x_icge (tgt := 34) rfl rfl (ti_ge rfl jk_2 ⟨fun c66 => ?_, fun c66 => ?_⟩)
                    ·
                      rw [if_pos (by omega)] at D
                      refine x_iconst (v := 0) rfl ki_0 ?_
                      refine x_zret rfl rfl (by decide) ?_
                      show jX m_X12_reason 7 0 0 18 [(0, .ref 125), (1, .int a1), (2, .int a2)] [.int 0] _ 0 0 _
                      refine x_ifeq (tgt := 30) rfl rfl (ti_eq jk_0 jk_0 (br_t (by omega) ?_))
                      exact jX.sub jsb_n (ct_X12_reason_r125d_30 hD hQ  h J Sm D)
                    ·
                      rw [if_neg (by omega)] at D
                      refine x_iconst (v := 1) rfl ki_1 ?_
                      refine x_goto (tgt := 35) rfl rfl ?_
                      refine x_zret rfl rfl (by decide) ?_
                      show jX m_X12_reason 7 0 0 18 [(0, .ref 125), (1, .int a1), (2, .int a2)] [.int 1] _ 0 0 _
                      refine x_ifeq (tgt := 30) rfl rfl (ti_eq jk_1 jk_0 (br_f (by omega) ?_))
                      refine x_aloadn (x := 125) rfl rfl ?_
                      refine x_iloadn (x := a1) rfl rfl ?_
                      refine x_iloadn (x := a2) rfl rfl ?_
                      refine x_inv (N := m_X12_why) (As := [.int a1, .int a2]) (b := 125) (st := []) (dx9 := 6) (mc := 0) (ms := 0) (host := "") 12 rfl t_X12_why ⟨Or.inl q_12_368, i_X12_why.1, i_X12_why.2⟩ ⟨by decide, rfl⟩ (congrArg Prod.fst (J.1.1 125 (12, 92) rfl)) rfl (by decide) rfl rfl ⟨by decide, by decide⟩ (sf_X12_why_r125d (jr_of rfl (by omega)) (jr_of rfl (by omega)) hD J rfl  (fun v70 h ev70 J S67 X68 X69 => ?_))
                      have Sm := jSm_tr rfl Sm S67
                      try rw [X68] at D
                      try rw [X69] at D
                      show jX m_X12_reason 7 0 0 27 [(0, .ref 125), (1, .int a1), (2, .int a2)] [.int v70] _ 0 0 _
                      refine x_goto (tgt := 31) rfl rfl ?_
                      exact jX.sub jsb_n (ct_X12_reason_r125d_31 hD hQ  v70 h (jr_of rfl (by omega)) J Sm D)
                ·
                  rw [if_pos (by omega)] at D
                  refine x_iconst (v := 3) rfl ki_3 ?_
                  refine x_goto (tgt := 18) rfl rfl ?_
                  refine x_iret rfl rfl ?_
                  show jX m_X12_isMention 6 0 0 27 [(0, .ref 125), (1, .int a2)] [.int 3, .int v54] _ 0 0 _
                  refine x_icge (tgt := 34) rfl rfl (ti_ge rfl jk_3 (br_f (by omega) ?_))
                  refine x_iconst (v := 1) rfl ki_1 ?_
                  refine x_goto (tgt := 35) rfl rfl ?_
                  refine x_zret rfl rfl (by decide) ?_
                  show jX m_X12_reason 7 0 0 18 [(0, .ref 125), (1, .int a1), (2, .int a2)] [.int 1] _ 0 0 _
                  refine x_ifeq (tgt := 30) rfl rfl (ti_eq jk_1 jk_0 (br_f (by omega) ?_))
                  refine x_aloadn (x := 125) rfl rfl ?_
                  refine x_iloadn (x := a1) rfl rfl ?_
                  refine x_iloadn (x := a2) rfl rfl ?_
                  refine x_inv (N := m_X12_why) (As := [.int a1, .int a2]) (b := 125) (st := []) (dx9 := 6) (mc := 0) (ms := 0) (host := "") 12 rfl t_X12_why ⟨Or.inl q_12_368, i_X12_why.1, i_X12_why.2⟩ ⟨by decide, rfl⟩ (congrArg Prod.fst (J.1.1 125 (12, 92) rfl)) rfl (by decide) rfl rfl ⟨by decide, by decide⟩ (sf_X12_why_r125d (jr_of rfl (by omega)) (jr_of rfl (by omega)) hD J rfl  (fun v74 h ev74 J S71 X72 X73 => ?_))
                  have Sm := jSm_tr rfl Sm S71
                  try rw [X72] at D
                  try rw [X73] at D
                  show jX m_X12_reason 7 0 0 27 [(0, .ref 125), (1, .int a1), (2, .int a2)] [.int v74] _ 0 0 _
                  refine x_goto (tgt := 31) rfl rfl ?_
                  exact jX.sub jsb_n (ct_X12_reason_r125d_31 hD hQ  v74 h (jr_of rfl (by omega)) J Sm D)
      ·
        rw [if_pos (by omega)] at D
        refine x_iconst (v := 3) rfl ki_3 ?_
        refine x_goto (tgt := 18) rfl rfl ?_
        refine x_iret rfl rfl ?_
        show jX m_X12_isMention 6 0 0 27 [(0, .ref 125), (1, .int a1)] [.int 3, .int v10] _ 0 0 _
        refine x_icge (tgt := 34) rfl rfl (ti_ge rfl jk_3 (br_f (by omega) ?_))
        refine x_iconst (v := 1) rfl ki_1 ?_
        refine x_goto (tgt := 35) rfl rfl ?_
        refine x_zret rfl rfl (by decide) ?_
        show jX m_X12_reason 7 0 0 10 [(0, .ref 125), (1, .int a1), (2, .int a2)] [.int 1] _ 0 0 _
        refine x_ifeq (tgt := 30) rfl rfl (ti_eq jk_1 jk_0 (br_f (by omega) ?_))
        refine x_aloadn (x := 125) rfl rfl ?_
        refine x_iloadn (x := a2) rfl rfl ?_
        refine x_inv (N := m_X12_isMention) (As := [.int a2]) (b := 125) (st := []) (dx9 := 6) (mc := 0) (ms := 0) (host := "") 12 rfl t_X12_isMention ⟨Or.inl q_12_322, i_X12_isMention.1, i_X12_isMention.2⟩ ⟨by decide, rfl⟩ (congrArg Prod.fst (J.1.1 125 (12, 92) rfl)) rfl (by decide) rfl rfl ⟨by decide, by decide⟩ (jC.of rfl k_X12_isMention rfl ?_)
        show jX m_X12_isMention 6 0 0 0 [(0, .ref 125), (1, .int a2)] [] _ 0 0 _
        refine x_iloadn (x := a2) rfl rfl ?_
        refine x_iflt (tgt := 34) rfl rfl (ti_lt rfl jk_0 ⟨fun c75 => ?_, fun c75 => ?_⟩)
        ·
          rw [if_pos (by omega)] at D
          refine x_iconst (v := 0) rfl ki_0 ?_
          refine x_zret rfl rfl (by decide) ?_
          show jX m_X12_reason 7 0 0 18 [(0, .ref 125), (1, .int a1), (2, .int a2)] [.int 0] _ 0 0 _
          refine x_ifeq (tgt := 30) rfl rfl (ti_eq jk_0 jk_0 (br_t (by omega) ?_))
          exact jX.sub jsb_n (ct_X12_reason_r125d_30 hD hQ  h J Sm D)
        ·
          rw [if_neg (by omega)] at D
          refine x_aloadn (x := 125) rfl rfl ?_
          refine x_iloadn (x := a2) rfl rfl ?_
          refine x_iconst (v := 3) rfl ki_3 ?_
          refine z_idiv rfl rfl jk_3 (by omega) (by omega) (fun v76 ev76 => ?_)
          refine x_inv (N := m_X12_isLine) (As := [.int v76]) (b := 125) (st := []) (dx9 := 5) (mc := 0) (ms := 0) (host := "") 12 rfl t_X12_isLine ⟨Or.inl q_12_293, i_X12_isLine.1, i_X12_isLine.2⟩ ⟨by decide, rfl⟩ (congrArg Prod.fst (J.1.1 125 (12, 92) rfl)) rfl (by decide) rfl rfl ⟨by decide, by decide⟩ (jC.of rfl k_X12_isLine rfl ?_)
          show jX m_X12_isLine 5 0 0 0 [(0, .ref 125), (1, .int v76)] [] _ 0 0 _
          refine x_iloadn (x := v76) rfl rfl ?_
          refine z_i2l rfl rfl (fun v77 ev77 => ?_)
          refine x_lconst (v := 0) rfl kl_0 ?_
          refine x_aloadn (x := 125) rfl rfl ?_
          refine z_getR (N := 92) (b := 126) 12 2 rfl f_12_8 rfl J rfl 16002 ⟨rfl, rfl⟩ rfl ?_
          refine x_iconst (v := 0) rfl ki_0 ?_
          refine z_ialdM (N := 50660) (v := v5) rfl J rfl jk_0 (by omega) qv5 ?_
          refine z_i2l rfl rfl (fun v78 ev78 => ?_)
          refine x_lconst (v := 1) rfl kl_1 ?_
          refine z_lsub rfl rfl jkl_1 (by omega) (fun v79 ev79 => ?_)
          refine x_inst (N := m_X12_in) (As := [.long v77, .long 0, .long v79]) (st := []) (dx9 := 1) (mc := 0) (ms := 0) (host := "") rfl t_X12_in ⟨Or.inl q_12_188, s_X12_in⟩ rfl (by decide) rfl rfl ⟨by decide, by decide⟩ (zc_X12_in rfl jkl_0 rfl (fun v80 ev80 => ?_))
          show jX m_X12_isLine 5 0 0 15 [(0, .ref 125), (1, .int v76)] [.int v80] _ 0 0 _
          refine x_zret rfl rfl (jz01 (by omega)) ?_
          show jX m_X12_isMention 6 0 0 11 [(0, .ref 125), (1, .int a2)] [.int v80] _ 0 0 _
          refine x_ifeq (tgt := 34) rfl rfl (ti_eq rfl jk_0 ⟨fun c81 => ?_, fun c81 => ?_⟩)
          ·
            rw [if_neg (by omega)] at D
            refine x_iconst (v := 0) rfl ki_0 ?_
            refine x_zret rfl rfl (by decide) ?_
            show jX m_X12_reason 7 0 0 18 [(0, .ref 125), (1, .int a1), (2, .int a2)] [.int 0] _ 0 0 _
            refine x_ifeq (tgt := 30) rfl rfl (ti_eq jk_0 jk_0 (br_t (by omega) ?_))
            exact jX.sub jsb_n (ct_X12_reason_r125d_30 hD hQ  h J Sm D)
          ·
            rw [if_pos (by omega)] at D
            refine x_iloadn (x := a2) rfl rfl ?_
            refine x_iconst (v := 3) rfl ki_3 ?_
            refine z_irem rfl rfl jk_3 (by omega) (by omega) (fun v82 ev82 => ?_)
            refine x_aloadn (x := 125) rfl rfl ?_
            refine x_iloadn (x := a2) rfl rfl ?_
            refine x_iconst (v := 3) rfl ki_3 ?_
            refine z_idiv rfl rfl jk_3 (by omega) (by omega) (fun v83 ev83 => ?_)
            refine x_inv (N := m_X12_bookOf) (As := [.int v83]) (b := 125) (st := [.int v82]) (dx9 := 5) (mc := 0) (ms := 0) (host := "") 12 rfl t_X12_bookOf ⟨Or.inl q_12_299, i_X12_bookOf.1, i_X12_bookOf.2⟩ ⟨by decide, rfl⟩ (congrArg Prod.fst (J.1.1 125 (12, 92) rfl)) rfl (by decide) rfl rfl ⟨by decide, by decide⟩ (jC.of rfl k_X12_bookOf rfl ?_)
            show jX m_X12_bookOf 5 0 0 0 [(0, .ref 125), (1, .int v83)] [] _ 0 0 _
            refine x_aloadn (x := 125) rfl rfl ?_
            refine z_getR (N := 92) (b := 126) 12 2 rfl f_12_8 rfl J rfl 16002 ⟨rfl, rfl⟩ rfl ?_
            refine x_aloadn (x := 125) rfl rfl ?_
            refine x_iloadn (x := v83) rfl rfl ?_
            refine x_inv (N := m_X12_at) (As := [.int v83]) (b := 125) (st := [.ref 126]) (dx9 := 4) (mc := 0) (ms := 0) (host := "") 12 rfl t_X12_at ⟨Or.inl q_12_254, i_X12_at.1, i_X12_at.2⟩ ⟨by decide, rfl⟩ (congrArg Prod.fst (J.1.1 125 (12, 92) rfl)) rfl (by decide) rfl rfl ⟨by decide, by decide⟩ (jC.of rfl k_X12_at rfl ?_)
            show jX m_X12_at 4 0 0 0 [(0, .ref 125), (1, .int v83)] [] _ 0 0 _
            refine x_bipush (v := 20) rfl kb_20 ?_
            refine x_bipush (v := 90) rfl kb_90 ?_
            refine x_iloadn (x := v83) rfl rfl ?_
            refine z_imul rfl jk_90 rfl (by omega) (fun v84 ev84 => ?_)
            refine z_iadd rfl jk_20 rfl (by omega) (fun v85 ev85 => ?_)
            refine x_iret rfl rfl ?_
            show jX m_X12_bookOf 5 0 0 9 [(0, .ref 125), (1, .int v83)] [.int v85, .ref 126] _ 0 0 _
            refine z_iald (N := 50660) rfl J rfl sg_126_20_18020_90_0_1 rfl (by omega) (fun v86 qv86 ev86 => ?_)
            try rw [vrd (jmb_w w1 qv86 rfl) (show (20 + (90 * (a2.toInt / 3))) = v85.toInt from by omega)] at D
            refine x_iret rfl rfl ?_
            show jX m_X12_isMention 6 0 0 24 [(0, .ref 125), (1, .int a2)] [.int v86, .int v82] _ 0 0 _
            refine x_inst (N := m_X12_rolesOf) (As := [.int v86]) (st := [.int v82]) (dx9 := 5) (mc := 0) (ms := 0) (host := "") rfl t_X12_rolesOf ⟨Or.inl q_12_286, s_X12_rolesOf⟩ rfl (by decide) rfl rfl ⟨by decide, by decide⟩ (jC.of rfl k_X12_rolesOf rfl ?_)
            show jX m_X12_rolesOf 5 0 0 0 [(0, .int v86)] [] _ 0 0 _
            refine x_iloadn (x := v86) rfl rfl ?_
            refine x_ifne (tgt := 8) rfl rfl (ti_ne rfl jk_0 ⟨fun c87 => ?_, fun c87 => ?_⟩)
            ·
              rw [if_neg (by omega)] at D
              refine x_iloadn (x := v86) rfl rfl ?_
              refine x_iconst (v := 1) rfl ki_1 ?_
              refine x_icne (tgt := 17) rfl rfl (ti_ne rfl jk_1 ⟨fun c88 => ?_, fun c88 => ?_⟩)
              ·
                rw [if_neg (by omega)] at D
                refine x_iconst (v := 1) rfl ki_1 ?_
                refine x_iret rfl rfl ?_
                show jX m_X12_isMention 6 0 0 27 [(0, .ref 125), (1, .int a2)] [.int 1, .int v82] _ 0 0 _
                refine x_icge (tgt := 34) rfl rfl (ti_ge rfl jk_1 ⟨fun c89 => ?_, fun c89 => ?_⟩)
                ·
                  rw [if_pos (by omega)] at D
                  refine x_iconst (v := 0) rfl ki_0 ?_
                  refine x_zret rfl rfl (by decide) ?_
                  show jX m_X12_reason 7 0 0 18 [(0, .ref 125), (1, .int a1), (2, .int a2)] [.int 0] _ 0 0 _
                  refine x_ifeq (tgt := 30) rfl rfl (ti_eq jk_0 jk_0 (br_t (by omega) ?_))
                  exact jX.sub jsb_n (ct_X12_reason_r125d_30 hD hQ  h J Sm D)
                ·
                  rw [if_neg (by omega)] at D
                  refine x_iconst (v := 1) rfl ki_1 ?_
                  refine x_goto (tgt := 35) rfl rfl ?_
                  refine x_zret rfl rfl (by decide) ?_
                  show jX m_X12_reason 7 0 0 18 [(0, .ref 125), (1, .int a1), (2, .int a2)] [.int 1] _ 0 0 _
                  refine x_ifeq (tgt := 30) rfl rfl (ti_eq jk_1 jk_0 (br_f (by omega) ?_))
                  refine x_aloadn (x := 125) rfl rfl ?_
                  refine x_iloadn (x := a1) rfl rfl ?_
                  refine x_iloadn (x := a2) rfl rfl ?_
                  refine x_inv (N := m_X12_why) (As := [.int a1, .int a2]) (b := 125) (st := []) (dx9 := 6) (mc := 0) (ms := 0) (host := "") 12 rfl t_X12_why ⟨Or.inl q_12_368, i_X12_why.1, i_X12_why.2⟩ ⟨by decide, rfl⟩ (congrArg Prod.fst (J.1.1 125 (12, 92) rfl)) rfl (by decide) rfl rfl ⟨by decide, by decide⟩ (sf_X12_why_r125d (jr_of rfl (by omega)) (jr_of rfl (by omega)) hD J rfl  (fun v93 h ev93 J S90 X91 X92 => ?_))
                  have Sm := jSm_tr rfl Sm S90
                  try rw [X91] at D
                  try rw [X92] at D
                  show jX m_X12_reason 7 0 0 27 [(0, .ref 125), (1, .int a1), (2, .int a2)] [.int v93] _ 0 0 _
                  refine x_goto (tgt := 31) rfl rfl ?_
                  exact jX.sub jsb_n (ct_X12_reason_r125d_31 hD hQ  v93 h (jr_of rfl (by omega)) J Sm D)
              ·
                rw [if_pos (by omega)] at D
                refine x_iconst (v := 2) rfl ki_2 ?_
                refine x_goto (tgt := 18) rfl rfl ?_
                refine x_iret rfl rfl ?_
                show jX m_X12_isMention 6 0 0 27 [(0, .ref 125), (1, .int a2)] [.int 2, .int v82] _ 0 0 _
                refine x_icge (tgt := 34) rfl rfl (ti_ge rfl jk_2 ⟨fun c94 => ?_, fun c94 => ?_⟩)
                ·
                  rw [if_pos (by omega)] at D
                  refine x_iconst (v := 0) rfl ki_0 ?_
                  refine x_zret rfl rfl (by decide) ?_
                  show jX m_X12_reason 7 0 0 18 [(0, .ref 125), (1, .int a1), (2, .int a2)] [.int 0] _ 0 0 _
                  refine x_ifeq (tgt := 30) rfl rfl (ti_eq jk_0 jk_0 (br_t (by omega) ?_))
                  exact jX.sub jsb_n (ct_X12_reason_r125d_30 hD hQ  h J Sm D)
                ·
                  rw [if_neg (by omega)] at D
                  refine x_iconst (v := 1) rfl ki_1 ?_
                  refine x_goto (tgt := 35) rfl rfl ?_
                  refine x_zret rfl rfl (by decide) ?_
                  show jX m_X12_reason 7 0 0 18 [(0, .ref 125), (1, .int a1), (2, .int a2)] [.int 1] _ 0 0 _
                  refine x_ifeq (tgt := 30) rfl rfl (ti_eq jk_1 jk_0 (br_f (by omega) ?_))
                  refine x_aloadn (x := 125) rfl rfl ?_
                  refine x_iloadn (x := a1) rfl rfl ?_
                  refine x_iloadn (x := a2) rfl rfl ?_
                  refine x_inv (N := m_X12_why) (As := [.int a1, .int a2]) (b := 125) (st := []) (dx9 := 6) (mc := 0) (ms := 0) (host := "") 12 rfl t_X12_why ⟨Or.inl q_12_368, i_X12_why.1, i_X12_why.2⟩ ⟨by decide, rfl⟩ (congrArg Prod.fst (J.1.1 125 (12, 92) rfl)) rfl (by decide) rfl rfl ⟨by decide, by decide⟩ (sf_X12_why_r125d (jr_of rfl (by omega)) (jr_of rfl (by omega)) hD J rfl  (fun v98 h ev98 J S95 X96 X97 => ?_))
                  have Sm := jSm_tr rfl Sm S95
                  try rw [X96] at D
                  try rw [X97] at D
                  show jX m_X12_reason 7 0 0 27 [(0, .ref 125), (1, .int a1), (2, .int a2)] [.int v98] _ 0 0 _
                  refine x_goto (tgt := 31) rfl rfl ?_
                  exact jX.sub jsb_n (ct_X12_reason_r125d_31 hD hQ  v98 h (jr_of rfl (by omega)) J Sm D)
            ·
              rw [if_pos (by omega)] at D
              refine x_iconst (v := 3) rfl ki_3 ?_
              refine x_goto (tgt := 18) rfl rfl ?_
              refine x_iret rfl rfl ?_
              show jX m_X12_isMention 6 0 0 27 [(0, .ref 125), (1, .int a2)] [.int 3, .int v82] _ 0 0 _
              refine x_icge (tgt := 34) rfl rfl (ti_ge rfl jk_3 (br_f (by omega) ?_))
              refine x_iconst (v := 1) rfl ki_1 ?_
              refine x_goto (tgt := 35) rfl rfl ?_
              refine x_zret rfl rfl (by decide) ?_
              show jX m_X12_reason 7 0 0 18 [(0, .ref 125), (1, .int a1), (2, .int a2)] [.int 1] _ 0 0 _
              refine x_ifeq (tgt := 30) rfl rfl (ti_eq jk_1 jk_0 (br_f (by omega) ?_))
              refine x_aloadn (x := 125) rfl rfl ?_
              refine x_iloadn (x := a1) rfl rfl ?_
              refine x_iloadn (x := a2) rfl rfl ?_
              refine x_inv (N := m_X12_why) (As := [.int a1, .int a2]) (b := 125) (st := []) (dx9 := 6) (mc := 0) (ms := 0) (host := "") 12 rfl t_X12_why ⟨Or.inl q_12_368, i_X12_why.1, i_X12_why.2⟩ ⟨by decide, rfl⟩ (congrArg Prod.fst (J.1.1 125 (12, 92) rfl)) rfl (by decide) rfl rfl ⟨by decide, by decide⟩ (sf_X12_why_r125d (jr_of rfl (by omega)) (jr_of rfl (by omega)) hD J rfl  (fun v102 h ev102 J S99 X100 X101 => ?_))
              have Sm := jSm_tr rfl Sm S99
              try rw [X100] at D
              try rw [X101] at D
              show jX m_X12_reason 7 0 0 27 [(0, .ref 125), (1, .int a1), (2, .int a2)] [.int v102] _ 0 0 _
              refine x_goto (tgt := 31) rfl rfl ?_
              exact jX.sub jsb_n (ct_X12_reason_r125d_31 hD hQ  v102 h (jr_of rfl (by omega)) J Sm D)
def fp_X12_seal_r125d : jFp := [(125, 0, 1), (125, 1, 2), (125, 89, 90), (125, 90, 91), (125, 91, 92), (129, 0, 1600)]
set_option maxRecDepth 100000 in
set_option maxHeartbeats 4000000 in
theorem sf_X12_seal_r125d {Dy : jH → Prop} {h : jH} {Q : Option Value → jH → Prop} {dr : (Int × jW)} {a1 : Int32} (hD : jDk Dy) (J : jJ jSgM Dy h) (D : d_X12_seal_r125d a1.toInt (vw h) = dr) (hQ : ∀ (v : Int32) hx9, jJ jSgM Dy hx9 → jSm fp_X12_seal_r125d h hx9 → dr.1 = v.toInt → dr.2 = vw hx9 → Q (some (.int v)) hx9) : jC m_X12_seal 4 0 0 [.ref 125, .int a1] h Q := by
  refine jC.of rfl k_X12_seal rfl ?_
  have Sm := jSm_rf fp_X12_seal_r125d h
  have ea1 := jfull a1
  show jX m_X12_seal 4 0 0 0 [(0, .ref 125), (1, .int a1)] [] _ 0 0 _
  unfold d_X12_seal_r125d at D
  refine x_aloadn (x := 125) rfl rfl ?_
  refine x_iconst (v := 0) rfl ki_0 ?_
  refine z_putI (N := 92) (w := 0) 12 0 rfl f_12_180 rfl (jfin_no TX12 RX12 92 rfl rfl) hD J Sm rfl rfl jk_0 (pw_125_0 (by omega)) rfl (fun h w1 J Sm => ?_)
  rw [vwf w1 (show 0 = (0 : Int32).toInt from by have := jk_0; omega)] at D
  refine x_iloadn (x := a1) rfl rfl ?_
  refine x_inst (N := m_X12_isYear) (As := [.int a1]) (st := []) (dx9 := 2) (mc := 0) (ms := 0) (host := "") rfl t_X12_isYear ⟨Or.inl q_12_817, s_X12_isYear⟩ rfl (by decide) rfl rfl ⟨by decide, by decide⟩ (zc_X12_isYear (d := 1) rfl (fun v2 ev2 => ?_))
  show jX m_X12_seal 4 0 0 9 [(0, .ref 125), (1, .int a1)] [.int v2] _ 0 0 _
  refine x_ifne (tgt := 18) rfl rfl (ti_ne rfl jk_0 ⟨fun c3 => ?_, fun c3 => ?_⟩)
  ·
    rw [if_pos (by omega)] at D
    refine x_aloadn (x := 125) rfl rfl ?_
    refine x_iloadn (x := a1) rfl rfl ?_
    refine x_inv (N := m_X12_addYear) (As := [.int a1]) (b := 125) (st := []) (dx9 := 3) (mc := 0) (ms := 0) (host := "") 12 rfl t_X12_addYear ⟨Or.inl q_12_872, i_X12_addYear.1, i_X12_addYear.2⟩ ⟨by decide, rfl⟩ (congrArg Prod.fst (J.1.1 125 (12, 92) rfl)) rfl (by decide) rfl rfl ⟨by decide, by decide⟩ (sf_X12_addYear_r125d (jr_of rfl (by omega)) hD J rfl  (fun h J S4 X5 => ?_))
    have Sm := jSm_tr rfl Sm S4
    rw [X5] at D
    show jX m_X12_seal 4 0 0 23 [(0, .ref 125), (1, .int a1)] [] _ 0 0 _
    refine x_aloadn (x := 125) rfl rfl ?_
    refine z_getR (N := 92) (b := 129) 12 5 rfl f_12_22 rfl J rfl 16005 ⟨rfl, rfl⟩ rfl ?_
    refine x_iconst (v := 4) rfl ki_4 ?_
    refine x_iloadn (x := a1) rfl rfl ?_
    refine z_imul rfl jk_4 rfl (by omega) (fun v6 ev6 => ?_)
    refine x_lconst (v := 1) rfl kl_1 ?_
    refine z_last (N := 1600) (l := 0) (u := 1600) rfl hD J Sm rfl rfl rfl (by omega) rfl (fun h w7 J Sm => ?_)
    rw [vwwL w7 (show (4 * a1.toInt) = v6.toInt from by omega) (show 1 = (1 : Int64).toInt from by have := jkl_1; omega)] at D
    refine x_aloadn (x := 125) rfl rfl ?_
    refine z_getR (N := 92) (b := 129) 12 5 rfl f_12_22 rfl J rfl 16005 ⟨rfl, rfl⟩ rfl ?_
    refine x_iconst (v := 4) rfl ki_4 ?_
    refine x_iloadn (x := a1) rfl rfl ?_
    refine z_imul rfl jk_4 rfl (by omega) (fun v8 ev8 => ?_)
    refine x_iconst (v := 1) rfl ki_1 ?_
    refine z_iadd rfl rfl jk_1 (by omega) (fun v9 ev9 => ?_)
    refine x_aloadn (x := 125) rfl rfl ?_
    refine z_getI0 (N := 92) 12 89 rfl f_12_863 rfl J rfl (fun v10 qv10 => ?_)
    have ev10 := jfull v10
    try rw [vrf (jmb_l w7 qv10)] at D
    refine z_i2l rfl rfl (fun v11 ev11 => ?_)
    refine z_last (N := 1600) (l := 0) (u := 1600) rfl hD J Sm rfl rfl rfl (by omega) rfl (fun h w12 J Sm => ?_)
    rw [vwwL w12 (show ((4 * a1.toInt) + 1) = v9.toInt from by omega) (show v10.toInt = v11.toInt from by omega)] at D
    refine x_aloadn (x := 125) rfl rfl ?_
    refine z_getR (N := 92) (b := 129) 12 5 rfl f_12_22 rfl J rfl 16005 ⟨rfl, rfl⟩ rfl ?_
    refine x_iconst (v := 4) rfl ki_4 ?_
    refine x_iloadn (x := a1) rfl rfl ?_
    refine z_imul rfl jk_4 rfl (by omega) (fun v13 ev13 => ?_)
    refine x_iconst (v := 2) rfl ki_2 ?_
    refine z_iadd rfl rfl jk_2 (by omega) (fun v14 ev14 => ?_)
    refine x_aloadn (x := 125) rfl rfl ?_
    refine z_getLQ (N := 92) 12 90 rfl f_12_866 rfl J rfl (fun v15 qv15 => ?_)
    have ev15 := jfullL v15
    try rw [vrfL qv15] at D
    refine z_last (N := 1600) (l := 0) (u := 1600) rfl hD J Sm rfl rfl rfl (by omega) rfl (fun h w16 J Sm => ?_)
    rw [vwwL w16 (show ((4 * a1.toInt) + 2) = v14.toInt from by omega) (show v15.toInt = v15.toInt from by omega)] at D
    refine x_aloadn (x := 125) rfl rfl ?_
    refine z_getR (N := 92) (b := 129) 12 5 rfl f_12_22 rfl J rfl 16005 ⟨rfl, rfl⟩ rfl ?_
    refine x_iconst (v := 4) rfl ki_4 ?_
    refine x_iloadn (x := a1) rfl rfl ?_
    refine z_imul rfl jk_4 rfl (by omega) (fun v17 ev17 => ?_)
    refine x_iconst (v := 3) rfl ki_3 ?_
    refine z_iadd rfl rfl jk_3 (by omega) (fun v18 ev18 => ?_)
    refine x_aloadn (x := 125) rfl rfl ?_
    refine z_getLQ (N := 92) 12 91 rfl f_12_869 rfl J rfl (fun v19 qv19 => ?_)
    have ev19 := jfullL v19
    try rw [vrfL qv19] at D
    refine z_last (N := 1600) (l := 0) (u := 1600) rfl hD J Sm rfl rfl rfl (by omega) rfl (fun h w20 J Sm => ?_)
    rw [vwwL w20 (show ((4 * a1.toInt) + 3) = v18.toInt from by omega) (show v19.toInt = v19.toInt from by omega)] at D
    refine x_aloadn (x := 125) rfl rfl ?_
    refine x_aloadn (x := 125) rfl rfl ?_
    refine z_getM (N := 92) (v := v10) 12 89 rfl f_12_863 rfl J rfl (jml w20 (jml w16 (jml w12 qv10))) ?_
    refine x_inv (N := m_X12_told) (As := [.int v10]) (b := 125) (st := []) (dx9 := 1) (mc := 0) (ms := 0) (host := "") 12 rfl t_X12_told ⟨Or.inl q_12_197, i_X12_told.1, i_X12_told.2⟩ ⟨by decide, rfl⟩ (congrArg Prod.fst (J.1.1 125 (12, 92) rfl)) rfl (by decide) rfl rfl ⟨by decide, by decide⟩ (sf_X12_told_r125d  hD J rfl  (fun v24 h J S21 X22 X23 => ?_))
    have ev24 := jfull v24
    have Sm := jSm_tr rfl Sm S21
    try rw [X22] at D
    try rw [X23] at D
    show jX m_X12_seal 4 0 0 83 [(0, .ref 125), (1, .int a1)] [.int v24] _ 0 0 _
    refine x_iret rfl rfl ?_
    exact hQ _ _ J Sm ((congrArg Prod.fst D).symm.trans X22) ((congrArg Prod.snd D).symm.trans X23)
  ·
    rw [if_neg (by omega)] at D
    refine x_aloadn (x := 125) rfl rfl ?_
    refine x_iconst (v := (-1)) rfl ki_m1 ?_
    refine x_inv (N := m_X12_told) (As := [.int (-1)]) (b := 125) (st := []) (dx9 := 1) (mc := 0) (ms := 0) (host := "") 12 rfl t_X12_told ⟨Or.inl q_12_197, i_X12_told.1, i_X12_told.2⟩ ⟨by decide, rfl⟩ (congrArg Prod.fst (J.1.1 125 (12, 92) rfl)) rfl (by decide) rfl rfl ⟨by decide, by decide⟩ (sf_X12_told_r125d  hD J rfl  (fun v28 h J S25 X26 X27 => ?_))
    have ev28 := jfull v28
    have Sm := jSm_tr rfl Sm S25
    try rw [jk_m1] at X26
    try rw [jk_m1] at X27
    try rw [X26] at D
    try rw [X27] at D
    show jX m_X12_seal 4 0 0 17 [(0, .ref 125), (1, .int a1)] [.int v28] _ 0 0 _
    refine x_iret rfl rfl ?_
    exact hQ _ _ J Sm ((congrArg Prod.fst D).symm.trans X26) ((congrArg Prod.snd D).symm.trans X27)
def fp_X12_sitsAhead_r125d : jFp := []
set_option maxRecDepth 100000 in
set_option maxHeartbeats 4000000 in
theorem ct_X12_sitsAhead_r125d_200083 {Dy : jH → Prop} {h0 : jH} {Q : Option Value → jH → Prop} {dr : Int} (hD : jDk Dy) (hQ : ∀ (v : Int32) hx9, 0 ≤ v.toInt ∧ v.toInt ≤ 1 → jJ jSgM Dy hx9 → jSm fp_X12_sitsAhead_r125d h0 hx9 → dr = v.toInt → vw hx9 = vw h0 → Q (some (.int v)) hx9) : ∀ (h : jH), jJ jSgM Dy h → jSm fp_X12_sitsAhead_r125d h0 h → d_X12_sitsAhead_r125d_200083  (vw h) = dr → vw h = vw h0 → jX m_X12_sitsAhead 1 0 0 83 [] [.int 0] h 0 0 Q := by
  intro  h    J Sm D EV
  unfold d_X12_sitsAhead_r125d_200083 at D
  refine x_zret rfl rfl (by decide) ?_
  exact hQ _ _ (jr_of jk_0 (by omega)) J Sm (D.symm.trans (show 0 = (0 : Int32).toInt from by have := jk_0; omega)) EV
set_option maxRecDepth 100000 in
set_option maxHeartbeats 4000000 in
theorem ct_X12_sitsAhead_r125d_300083 {Dy : jH → Prop} {h0 : jH} {Q : Option Value → jH → Prop} {dr : Int} (hD : jDk Dy) (hQ : ∀ (v : Int32) hx9, 0 ≤ v.toInt ∧ v.toInt ≤ 1 → jJ jSgM Dy hx9 → jSm fp_X12_sitsAhead_r125d h0 hx9 → dr = v.toInt → vw hx9 = vw h0 → Q (some (.int v)) hx9) : ∀ (h : jH), jJ jSgM Dy h → jSm fp_X12_sitsAhead_r125d h0 h → d_X12_sitsAhead_r125d_300083  (vw h) = dr → vw h = vw h0 → jX m_X12_sitsAhead 1 0 0 83 [] [.int 1] h 0 0 Q := by
  intro  h    J Sm D EV
  unfold d_X12_sitsAhead_r125d_300083 at D
  refine x_zret rfl rfl (by decide) ?_
  exact hQ _ _ (jr_of jk_1 (by omega)) J Sm (D.symm.trans (show 1 = (1 : Int32).toInt from by have := jk_1; omega)) EV
set_option maxRecDepth 100000 in
set_option maxHeartbeats 4000000 in
theorem ct_X12_sitsAhead_r125d_83 {Dy : jH → Prop} {h0 : jH} {Q : Option Value → jH → Prop} {dr : Int} (hD : jDk Dy) (hQ : ∀ (v : Int32) hx9, 0 ≤ v.toInt ∧ v.toInt ≤ 1 → jJ jSgM Dy hx9 → jSm fp_X12_sitsAhead_r125d h0 hx9 → dr = v.toInt → vw hx9 = vw h0 → Q (some (.int v)) hx9) : ∀ (s0 : Int32) (h : jH), 0 ≤ s0.toInt ∧ s0.toInt ≤ 1 → jJ jSgM Dy h → jSm fp_X12_sitsAhead_r125d h0 h → d_X12_sitsAhead_r125d_83  s0.toInt (vw h) = dr → vw h = vw h0 → jX m_X12_sitsAhead 1 0 0 83 [] [.int s0] h 0 0 Q := by
  intro s0 h y0   J Sm D EV
  unfold d_X12_sitsAhead_r125d_83 at D
  refine x_zret rfl rfl (jz01 (by omega)) ?_
  exact hQ _ _ (jr_of rfl (by omega)) J Sm (D.symm.trans (show s0.toInt = s0.toInt from by omega)) EV
set_option maxRecDepth 100000 in
set_option maxHeartbeats 4000000 in
theorem ct_X12_sitsAhead_r125d_73 {Dy : jH → Prop} {h0 : jH} {Q : Option Value → jH → Prop} {dr : Int} (hD : jDk Dy) (hQ : ∀ (v : Int32) hx9, 0 ≤ v.toInt ∧ v.toInt ≤ 1 → jJ jSgM Dy hx9 → jSm fp_X12_sitsAhead_r125d h0 hx9 → dr = v.toInt → vw hx9 = vw h0 → Q (some (.int v)) hx9) : ∀ (l1 : Int32) (l2 : Int32) (h : jH), 0 ≤ l1.toInt ∧ l1.toInt ≤ 39 → 0 ≤ l2.toInt ∧ l2.toInt ≤ 39 → jJ jSgM Dy h → jSm fp_X12_sitsAhead_r125d h0 h → d_X12_sitsAhead_r125d_73  l1.toInt l2.toInt (vw h) = dr → vw h = vw h0 → jX m_X12_sitsAhead 1 0 0 73 [(1, .int l1), (2, .int l2)] [] h 0 0 Q := by
  intro l1 l2 h y0 y1   J Sm D EV
  unfold d_X12_sitsAhead_r125d_73 at D
  refine x_iloadn (x := l1) rfl rfl ?_
  refine x_iloadn (x := l2) rfl rfl ?_
  refine x_icge (tgt := 82) rfl rfl (ti_ge rfl rfl ⟨fun c1 => ?_, fun c1 => ?_⟩)
  ·
    rw [if_pos (by omega)] at D
    refine x_iconst (v := 0) rfl ki_0 ?_
    exact jX.sub jsb_n (ct_X12_sitsAhead_r125d_200083 hD hQ  h J Sm D EV)
  ·
    rw [if_neg (by omega)] at D
    refine x_iconst (v := 1) rfl ki_1 ?_
    refine x_goto (tgt := 83) rfl rfl ?_
    exact jX.sub jsb_n (ct_X12_sitsAhead_r125d_300083 hD hQ  h J Sm D EV)
set_option maxRecDepth 100000 in
set_option maxHeartbeats 4000000 in
theorem sf_X12_sitsAhead_r125d {Dy : jH → Prop} {h : jH} {Q : Option Value → jH → Prop} {dr : Int} {a1 : Int32} {a2 : Int32} (y1 : 0 ≤ a1.toInt ∧ a1.toInt ≤ 39) (y2 : 0 ≤ a2.toInt ∧ a2.toInt ≤ 39) (hD : jDk Dy) (J : jJ jSgM Dy h) (D : d_X12_sitsAhead_r125d a1.toInt a2.toInt (vw h) = dr) (hQ : ∀ (v : Int32) hx9, 0 ≤ v.toInt ∧ v.toInt ≤ 1 → jJ jSgM Dy hx9 → jSm fp_X12_sitsAhead_r125d h hx9 → dr = v.toInt → vw hx9 = vw h → Q (some (.int v)) hx9) : jC m_X12_sitsAhead 1 0 0 [.ref 125, .int a1, .int a2] h Q := by
  refine jC.of rfl k_X12_sitsAhead rfl ?_
  have Sm := jSm_rf fp_X12_sitsAhead_r125d h
  show jX m_X12_sitsAhead 1 0 0 0 [(0, .ref 125), (1, .int a1), (2, .int a2)] [] _ 0 0 _
  unfold d_X12_sitsAhead_r125d at D
  have EV : vw h = vw h := rfl
  refine x_aloadn (x := 125) rfl rfl ?_
  refine z_getR (N := 92) (b := 171) 12 86 rfl f_12_171 rfl J rfl 16086 ⟨rfl, rfl⟩ rfl ?_
  refine x_iloadn (x := a1) rfl rfl ?_
  refine z_zald (N := 40) rfl J rfl sg_171_0_40_1_0_1 rfl (by omega) (fun v1 qv1 ev1 => ?_)
  try rw [vrd qv1 (show a1.toInt = a1.toInt from by omega)] at D
  refine x_aloadn (x := 125) rfl rfl ?_
  refine z_getR (N := 92) (b := 171) 12 86 rfl f_12_171 rfl J rfl 16086 ⟨rfl, rfl⟩ rfl ?_
  refine x_iloadn (x := a2) rfl rfl ?_
  refine z_zald (N := 40) rfl J rfl sg_171_0_40_1_0_1 rfl (by omega) (fun v2 qv2 ev2 => ?_)
  try rw [vrd qv2 (show a2.toInt = a2.toInt from by omega)] at D
  refine x_iceq (tgt := 24) rfl rfl (ti_eq rfl rfl ⟨fun c3 => ?_, fun c3 => ?_⟩)
  ·
    rw [if_pos (by omega)] at D
    refine x_aloadn (x := 125) rfl rfl ?_
    refine z_getR (N := 92) (b := 171) 12 86 rfl f_12_171 rfl J rfl 16086 ⟨rfl, rfl⟩ rfl ?_
    refine x_iloadn (x := a1) rfl rfl ?_
    refine z_zaldM (N := 40) (v := v1) rfl J rfl rfl (by omega) qv1 ?_
    refine x_ifeq (tgt := 73) rfl rfl (ti_eq rfl jk_0 ⟨fun c4 => ?_, fun c4 => ?_⟩)
    ·
      rw [if_pos (by omega)] at D
      exact jX.sub (jsb_c rfl (jsb_c rfl jsb_n)) (ct_X12_sitsAhead_r125d_73 hD hQ  a1 a2 h (jr_of rfl (by omega)) (jr_of rfl (by omega)) J Sm D EV)
    ·
      rw [if_neg (by omega)] at D
      refine x_aloadn (x := 125) rfl rfl ?_
      refine z_getR (N := 92) (b := 170) 12 85 rfl f_12_168 rfl J rfl 16085 ⟨rfl, rfl⟩ rfl ?_
      refine x_iloadn (x := a1) rfl rfl ?_
      refine z_laldQ (N := 40) rfl J rfl rfl (by omega) (fun v5 qv5 => ?_)
      have ev5 := jfullL v5
      try rw [vrdL qv5 (show a1.toInt = a1.toInt from by omega)] at D
      refine x_aloadn (x := 125) rfl rfl ?_
      refine z_getR (N := 92) (b := 170) 12 85 rfl f_12_168 rfl J rfl 16085 ⟨rfl, rfl⟩ rfl ?_
      refine x_iloadn (x := a2) rfl rfl ?_
      refine z_laldQ (N := 40) rfl J rfl rfl (by omega) (fun v6 qv6 => ?_)
      have ev6 := jfullL v6
      try rw [vrdL qv6 (show a2.toInt = a2.toInt from by omega)] at D
      refine z_lcmp rfl rfl rfl (fun v7 ev7 => ?_)
      refine x_ifeq (tgt := 73) rfl rfl (ti_eq rfl jk_0 ⟨fun c8 => ?_, fun c8 => ?_⟩)
      ·
        rw [if_pos (by omega)] at D
        exact jX.sub (jsb_c rfl (jsb_c rfl jsb_n)) (ct_X12_sitsAhead_r125d_73 hD hQ  a1 a2 h (jr_of rfl (by omega)) (jr_of rfl (by omega)) J Sm D EV)
      ·
        rw [if_neg (by omega)] at D
        refine x_aloadn (x := 125) rfl rfl ?_
        refine z_getR (N := 92) (b := 170) 12 85 rfl f_12_168 rfl J rfl 16085 ⟨rfl, rfl⟩ rfl ?_
        refine x_iloadn (x := a1) rfl rfl ?_
        refine z_laldQ (N := 40) rfl J rfl rfl (by omega) (fun v9 qv9 => ?_)
        have ev9 := jfullL v9
        try have kqv9 : v5.toInt = v9.toInt := ((vrdL qv5 (show a1.toInt = a1.toInt from by omega)).symm.trans (vrdL qv9 (show a1.toInt = a1.toInt from by omega)))
        try rw [kqv9] at D
        try rw [vrdL qv9 (show a1.toInt = a1.toInt from by omega)] at D
        refine x_aloadn (x := 125) rfl rfl ?_
        refine z_getR (N := 92) (b := 170) 12 85 rfl f_12_168 rfl J rfl 16085 ⟨rfl, rfl⟩ rfl ?_
        refine x_iloadn (x := a2) rfl rfl ?_
        refine z_laldQ (N := 40) rfl J rfl rfl (by omega) (fun v10 qv10 => ?_)
        have ev10 := jfullL v10
        try have kqv10 : v6.toInt = v10.toInt := ((vrdL qv6 (show a2.toInt = a2.toInt from by omega)).symm.trans (vrdL qv10 (show a2.toInt = a2.toInt from by omega)))
        try rw [kqv10] at D
        try rw [vrdL qv10 (show a2.toInt = a2.toInt from by omega)] at D
        refine z_lcmp rfl rfl rfl (fun v11 ev11 => ?_)
        refine x_ifle (tgt := 69) rfl rfl (ti_le rfl jk_0 ⟨fun c12 => ?_, fun c12 => ?_⟩)
        ·
          rw [if_pos (by omega)] at D
          refine x_iconst (v := 0) rfl ki_0 ?_
          refine x_goto (tgt := 83) rfl rfl ?_
          exact jX.sub jsb_n (ct_X12_sitsAhead_r125d_200083 hD hQ  h J Sm D EV)
        ·
          rw [if_neg (by omega)] at D
          refine x_iconst (v := 1) rfl ki_1 ?_
          refine x_goto (tgt := 83) rfl rfl ?_
          exact jX.sub jsb_n (ct_X12_sitsAhead_r125d_300083 hD hQ  h J Sm D EV)
  ·
    rw [if_neg (by omega)] at D
    refine x_aloadn (x := 125) rfl rfl ?_
    refine z_getR (N := 92) (b := 171) 12 86 rfl f_12_171 rfl J rfl 16086 ⟨rfl, rfl⟩ rfl ?_
    refine x_iloadn (x := a1) rfl rfl ?_
    refine z_zaldM (N := 40) (v := v1) rfl J rfl rfl (by omega) qv1 ?_
    refine x_goto (tgt := 83) rfl rfl ?_
    exact jX.sub jsb_n (ct_X12_sitsAhead_r125d_83 hD hQ  v1 h (jr_of rfl (by omega)) J Sm D EV)
def fp_X12_seat_r125d : jFp := [(125, 0, 1), (125, 28, 29), (125, 31, 32), (125, 32, 33), (125, 33, 34), (125, 34, 35), (125, 35, 36), (125, 57, 58), (125, 61, 62), (125, 62, 63), (125, 63, 64), (125, 64, 65), (125, 65, 66), (125, 66, 67), (137, 0, 80), (138, 0, 2), (139, 0, 600), (140, 0, 200), (152, 0, 360), (153, 0, 30), (154, 0, 400), (155, 0, 360), (162, 0, 40), (162, 40, 80), (163, 0, 40), (163, 40, 80), (164, 0, 40), (170, 0, 40), (171, 0, 40), (172, 0, 40)]
set_option maxRecDepth 100000 in
set_option maxHeartbeats 4000000 in
theorem ct_X12_seat_r125d_19 {Dy : jH → Prop} {h0 : jH} {Q : Option Value → jH → Prop} {dr : (Int × jW)} (hD : jDk Dy) (hQ : ∀ (v : Int32) hx9, (-1) ≤ v.toInt ∧ v.toInt ≤ 40 → jJ jSgM Dy hx9 → jSm fp_X12_seat_r125d h0 hx9 → dr.1 = v.toInt → dr.2 = vw hx9 → Q (some (.int v)) hx9) : ∀ (h : jH), jJ jSgM Dy h → jSm fp_X12_seat_r125d h0 h → d_X12_seat_r125d_19  (vw h) = dr → jX m_X12_seat 12 0 0 19 [] [] h 0 0 Q := by
  intro  h    J Sm D
  unfold d_X12_seat_r125d_19 at D
  refine x_iconst (v := (-1)) rfl ki_m1 ?_
  refine x_iret rfl rfl ?_
  exact hQ _ _ (jr_of jk_m1 (by omega)) J Sm ((congrArg Prod.fst D).symm.trans (show (-1) = ((-1) : Int32).toInt from by have := jk_m1; omega)) (congrArg Prod.snd D).symm
set_option maxRecDepth 100000 in
set_option maxHeartbeats 4000000 in
theorem ct_X12_seat_r125d_100214 {Dy : jH → Prop} {h0 : jH} {Q : Option Value → jH → Prop} {dr : (Int × jW)} (hD : jDk Dy) (hQ : ∀ (v : Int32) hx9, (-1) ≤ v.toInt ∧ v.toInt ≤ 40 → jJ jSgM Dy hx9 → jSm fp_X12_seat_r125d h0 hx9 → dr.1 = v.toInt → dr.2 = vw hx9 → Q (some (.int v)) hx9) : ∀ (h : jH), jJ jSgM Dy h → jSm fp_X12_seat_r125d h0 h → d_X12_seat_r125d_100214  (vw h) = dr → jX m_X12_seat 12 0 0 214 [] [.int (-1)] h 0 0 Q := by
  intro  h    J Sm D
  unfold d_X12_seat_r125d_100214 at D
  refine x_iret rfl rfl ?_
  exact hQ _ _ (jr_of jk_m1 (by omega)) J Sm ((congrArg Prod.fst D).symm.trans (show (-1) = ((-1) : Int32).toInt from by have := jk_m1; omega)) (congrArg Prod.snd D).symm
set_option maxRecDepth 100000 in
set_option maxHeartbeats 4000000 in
theorem ct_X12_seat_r125d_214 {Dy : jH → Prop} {h0 : jH} {Q : Option Value → jH → Prop} {dr : (Int × jW)} (hD : jDk Dy) (hQ : ∀ (v : Int32) hx9, (-1) ≤ v.toInt ∧ v.toInt ≤ 40 → jJ jSgM Dy hx9 → jSm fp_X12_seat_r125d h0 hx9 → dr.1 = v.toInt → dr.2 = vw hx9 → Q (some (.int v)) hx9) : ∀ (s0 : Int32) (h : jH), 0 ≤ s0.toInt ∧ s0.toInt ≤ 40 → jJ jSgM Dy h → jSm fp_X12_seat_r125d h0 h → d_X12_seat_r125d_214  s0.toInt (vw h) = dr → jX m_X12_seat 12 0 0 214 [] [.int s0] h 0 0 Q := by
  intro s0 h y0   J Sm D
  unfold d_X12_seat_r125d_214 at D
  refine x_iret rfl rfl ?_
  exact hQ _ _ (jr_of rfl (by omega)) J Sm ((congrArg Prod.fst D).symm.trans (show s0.toInt = s0.toInt from by omega)) (congrArg Prod.snd D).symm
set_option maxRecDepth 100000 in
set_option maxHeartbeats 4000000 in
theorem ct_X12_seat_r125d_174 {Dy : jH → Prop} {h0 : jH} {Q : Option Value → jH → Prop} {dr : (Int × jW)} {K38 : Int → Int → Int → Int → jW → (Int × jW)} {R38 : Int} (hD : jDk Dy) (hQ : ∀ (v : Int32) hx9, (-1) ≤ v.toInt ∧ v.toInt ≤ 40 → jJ jSgM Dy hx9 → jSm fp_X12_seat_r125d h0 hx9 → dr.1 = v.toInt → dr.2 = vw hx9 → Q (some (.int v)) hx9) (k38 : ∀ (l1 : Int32) (l3 : Int32) (l4 : Int32) (l5 : Int32) (h : jH), 40 - l5.toInt < R38 → 0 ≤ l1.toInt ∧ l1.toInt ≤ 146399 → 0 ≤ l4.toInt ∧ l4.toInt ≤ 40 → 0 ≤ l5.toInt ∧ l5.toInt ≤ 40 → l4.toInt - l5.toInt ≤ 0 → jJ jSgM Dy h → jSm fp_X12_seat_r125d h0 h → K38 l1.toInt l3.toInt l4.toInt l5.toInt (vw h) = dr → jX m_X12_seat 12 0 0 38 [(0, .ref 125), (1, .int l1), (3, .int l3), (4, .int l4), (5, .int l5)] [] h 0 0 Q) : ∀ (l1 : Int32) (l3 : Int32) (l4 : Int32) (l5 : Int32) (h : jH), 0 ≤ l1.toInt ∧ l1.toInt ≤ 146399 → 0 ≤ l4.toInt ∧ l4.toInt ≤ 40 → 0 ≤ l5.toInt ∧ l5.toInt ≤ 39 → l4.toInt - l5.toInt ≤ 1 → 40 - l5.toInt ≤ R38 → jJ jSgM Dy h → jSm fp_X12_seat_r125d h0 h → d_X12_seat_r125d_174 K38  l1.toInt l3.toInt l4.toInt l5.toInt (vw h) = dr → jX m_X12_seat 12 0 0 174 [(0, .ref 125), (1, .int l1), (3, .int l3), (4, .int l4), (5, .int l5)] [] h 0 0 Q := by
  intro l1 l3 l4 l5 h y0 y1 y2 y3  m38 J Sm D
  have el3 := jfull l3
  unfold d_X12_seat_r125d_174 at D
  refine z_iinc (x := l5) (lsx9 := fun v1 => [(5, .int v1), (0, .ref 125), (1, .int l1), (3, .int l3), (4, .int l4)]) rfl rfl rfl jko_1 (by omega) rfl (fun _ => rfl) (fun v1 ev1 => ?_)
  refine x_goto (tgt := 38) rfl rfl ?_
  try rw [show (l5.toInt + 1) = v1.toInt from by omega] at D
  exact jX.sub (jsb_c rfl (jsb_c rfl (jsb_c rfl (jsb_c rfl (jsb_c rfl jsb_n))))) (k38 l1 l3 l4 v1 h (by omega) (jr_of rfl (by omega)) (jr_of rfl (by omega)) (jr_of rfl (by omega)) (by omega) J Sm D)
set_option maxRecDepth 100000 in
set_option maxHeartbeats 4000000 in
theorem ct_X12_seat_r125d_162 {Dy : jH → Prop} {h0 : jH} {Q : Option Value → jH → Prop} {dr : (Int × jW)} {K38 : Int → Int → Int → Int → jW → (Int × jW)} {R38 : Int} (hD : jDk Dy) (hQ : ∀ (v : Int32) hx9, (-1) ≤ v.toInt ∧ v.toInt ≤ 40 → jJ jSgM Dy hx9 → jSm fp_X12_seat_r125d h0 hx9 → dr.1 = v.toInt → dr.2 = vw hx9 → Q (some (.int v)) hx9) (k38 : ∀ (l1 : Int32) (l3 : Int32) (l4 : Int32) (l5 : Int32) (h : jH), 40 - l5.toInt < R38 → 0 ≤ l1.toInt ∧ l1.toInt ≤ 146399 → 0 ≤ l4.toInt ∧ l4.toInt ≤ 40 → 0 ≤ l5.toInt ∧ l5.toInt ≤ 40 → l4.toInt - l5.toInt ≤ 0 → jJ jSgM Dy h → jSm fp_X12_seat_r125d h0 h → K38 l1.toInt l3.toInt l4.toInt l5.toInt (vw h) = dr → jX m_X12_seat 12 0 0 38 [(0, .ref 125), (1, .int l1), (3, .int l3), (4, .int l4), (5, .int l5)] [] h 0 0 Q) : ∀ (l1 : Int32) (l3 : Int32) (l4 : Int32) (l5 : Int32) (l6 : Int32) (h : jH), 0 ≤ l1.toInt ∧ l1.toInt ≤ 146399 → 0 ≤ l4.toInt ∧ l4.toInt ≤ 39 → 0 ≤ l5.toInt ∧ l5.toInt ≤ 39 → 0 ≤ l6.toInt ∧ l6.toInt ≤ 39 → l4.toInt - l5.toInt ≤ 0 → l6.toInt - l4.toInt ≤ 0 → 40 - l5.toInt ≤ R38 → jJ jSgM Dy h → jSm fp_X12_seat_r125d h0 h → d_X12_seat_r125d_162 K38  l1.toInt l3.toInt l4.toInt l5.toInt l6.toInt (vw h) = dr → jX m_X12_seat 12 0 0 162 [(0, .ref 125), (1, .int l1), (3, .int l3), (4, .int l4), (5, .int l5), (6, .int l6)] [] h 0 0 Q := by
  intro l1 l3 l4 l5 l6 h y0 y1 y2 y3 y4 y5  m38 J Sm D
  have el3 := jfull l3
  unfold d_X12_seat_r125d_162 at D
  refine x_aloadn (x := 125) rfl rfl ?_
  refine z_getR (N := 92) (b := 172) 12 87 rfl f_12_174 rfl J rfl 16087 ⟨rfl, rfl⟩ rfl ?_
  refine x_iload (x := l6) rfl rfl ?_
  refine x_iload (x := l5) rfl rfl ?_
  refine z_iast (N := 40) (l := 0) (u := 40) (w := l5.toInt) rfl hD J Sm rfl rfl rfl (by omega) rfl (wr_172 (fun q1 q2 q3 q4 => by omega)) rfl (fun h w1 J Sm => ?_)
  rw [vww w1 (show l6.toInt = l6.toInt from by omega) (show l5.toInt = l5.toInt from by omega)] at D
  refine z_iinc (x := l4) (lsx9 := fun v2 => [(4, .int v2), (0, .ref 125), (1, .int l1), (3, .int l3), (5, .int l5), (6, .int l6)]) rfl rfl rfl jko_1 (by omega) rfl (fun _ => rfl) (fun v2 ev2 => ?_)
  try rw [show (l4.toInt + 1) = v2.toInt from by omega] at D
  exact jX.sub (jsb_c rfl (jsb_c rfl (jsb_c rfl (jsb_c rfl (jsb_c rfl jsb_n))))) (ct_X12_seat_r125d_174 hD hQ k38 l1 l3 v2 l5 h (jr_of rfl (by omega)) (jr_of rfl (by omega)) (jr_of rfl (by omega)) (by omega) (by omega) J Sm D)
set_option maxRecDepth 100000 in
set_option maxHeartbeats 4000000 in
theorem ct_X12_seat_r125d_117 {Dy : jH → Prop} {h0 : jH} {Q : Option Value → jH → Prop} {dr : (Int × jW)} {K38 : Int → Int → Int → Int → jW → (Int × jW)} {R38 : Int} (hD : jDk Dy) (hQ : ∀ (v : Int32) hx9, (-1) ≤ v.toInt ∧ v.toInt ≤ 40 → jJ jSgM Dy hx9 → jSm fp_X12_seat_r125d h0 hx9 → dr.1 = v.toInt → dr.2 = vw hx9 → Q (some (.int v)) hx9) (k38 : ∀ (l1 : Int32) (l3 : Int32) (l4 : Int32) (l5 : Int32) (h : jH), 40 - l5.toInt < R38 → 0 ≤ l1.toInt ∧ l1.toInt ≤ 146399 → 0 ≤ l4.toInt ∧ l4.toInt ≤ 40 → 0 ≤ l5.toInt ∧ l5.toInt ≤ 40 → l4.toInt - l5.toInt ≤ 0 → jJ jSgM Dy h → jSm fp_X12_seat_r125d h0 h → K38 l1.toInt l3.toInt l4.toInt l5.toInt (vw h) = dr → jX m_X12_seat 12 0 0 38 [(0, .ref 125), (1, .int l1), (3, .int l3), (4, .int l4), (5, .int l5)] [] h 0 0 Q) : ∀ r : Nat, ∀ (l1 : Int32) (l3 : Int32) (l4 : Int32) (l5 : Int32) (l6 : Int32) (h : jH), l6.toInt - 0 < (r : Int) → 0 ≤ l1.toInt ∧ l1.toInt ≤ 146399 → 0 ≤ l4.toInt ∧ l4.toInt ≤ 39 → 0 ≤ l5.toInt ∧ l5.toInt ≤ 39 → 0 ≤ l6.toInt ∧ l6.toInt ≤ 39 → l4.toInt - l5.toInt ≤ 0 → l6.toInt - l4.toInt ≤ 0 → 40 - l5.toInt ≤ R38 → jJ jSgM Dy h → jSm fp_X12_seat_r125d h0 h → d_X12_seat_r125d_117 K38 r l1.toInt l3.toInt l4.toInt l5.toInt l6.toInt (vw h) = dr → jX m_X12_seat 12 0 0 117 [(0, .ref 125), (1, .int l1), (3, .int l3), (4, .int l4), (5, .int l5), (6, .int l6)] [] h 0 0 Q := by
  intro r
  induction r with
  | zero =>
    intro l1 l3 l4 l5 l6 h hm y0 y1 y2 y3 y4 y5  m38 J Sm D
    exfalso
    have el3 := jfull l3
    omega
  | succ r ih =>
    intro l1 l3 l4 l5 l6 h hm y0 y1 y2 y3 y4 y5  m38 J Sm D
    have el3 := jfull l3
    rw [d_X12_seat_r125d_117.eq_2] at D
    refine x_iload (x := l6) rfl rfl ?_
    refine x_ifle (tgt := 162) rfl rfl (ti_le rfl jk_0 ⟨fun c1 => ?_, fun c1 => ?_⟩)
    ·
      rw [if_pos (by omega)] at D
      exact jX.sub (jsb_c rfl (jsb_c rfl (jsb_c rfl (jsb_c rfl (jsb_c rfl (jsb_c rfl jsb_n)))))) (ct_X12_seat_r125d_162 hD hQ k38 l1 l3 l4 l5 l6 h (jr_of rfl (by omega)) (jr_of rfl (by omega)) (jr_of rfl (by omega)) (jr_of rfl (by omega)) (by omega) (by omega) (by omega) J Sm D)
    ·
      rw [if_neg (by omega)] at D
      refine x_aloadn (x := 125) rfl rfl ?_
      refine x_iload (x := l5) rfl rfl ?_
      refine x_aloadn (x := 125) rfl rfl ?_
      refine z_getR (N := 92) (b := 172) 12 87 rfl f_12_174 rfl J rfl 16087 ⟨rfl, rfl⟩ rfl ?_
      refine x_iload (x := l6) rfl rfl ?_
      refine x_iconst (v := 1) rfl ki_1 ?_
      refine z_isub rfl rfl jk_1 (by omega) (fun v2 ev2 => ?_)
      refine z_iald (N := 40) rfl J rfl sg_172_0_40_1_0_1 rfl (by omega) (fun v3 qv3 ev3 => ?_)
      try rw [vrd qv3 (show (l6.toInt - 1) = v2.toInt from by omega)] at D
      refine x_inv (N := m_X12_sitsAhead) (As := [.int l5, .int v3]) (b := 125) (st := []) (dx9 := 1) (mc := 0) (ms := 0) (host := "") 12 rfl t_X12_sitsAhead ⟨Or.inl q_12_851, i_X12_sitsAhead.1, i_X12_sitsAhead.2⟩ ⟨by decide, rfl⟩ (congrArg Prod.fst (J.1.1 125 (12, 92) rfl)) rfl (by decide) rfl rfl ⟨by decide, by decide⟩ (sf_X12_sitsAhead_r125d (jr_of rfl (by omega)) (jr_of rfl (by omega)) hD J rfl  (fun v7 h ev7 J S4 X5 X6 => ?_))
      have Sm := jSm_tr rfl Sm S4
      try rw [X5] at D
      try rw [← X6] at D
      show jX m_X12_seat 12 0 0 137 [(0, .ref 125), (1, .int l1), (3, .int l3), (4, .int l4), (5, .int l5), (6, .int l6)] [.int v7] _ 0 0 _
      refine x_ifeq (tgt := 162) rfl rfl (ti_eq rfl jk_0 ⟨fun c8 => ?_, fun c8 => ?_⟩)
      ·
        rw [if_pos (by omega)] at D
        exact jX.sub (jsb_c rfl (jsb_c rfl (jsb_c rfl (jsb_c rfl (jsb_c rfl (jsb_c rfl jsb_n)))))) (ct_X12_seat_r125d_162 hD hQ k38 l1 l3 l4 l5 l6 h (jr_of rfl (by omega)) (jr_of rfl (by omega)) (jr_of rfl (by omega)) (jr_of rfl (by omega)) (by omega) (by omega) (by omega) J Sm D)
      ·
        rw [if_neg (by omega)] at D
        refine x_aloadn (x := 125) rfl rfl ?_
        refine z_getR (N := 92) (b := 172) 12 87 rfl f_12_174 rfl J rfl 16087 ⟨rfl, rfl⟩ rfl ?_
        refine x_iload (x := l6) rfl rfl ?_
        refine x_aloadn (x := 125) rfl rfl ?_
        refine z_getR (N := 92) (b := 172) 12 87 rfl f_12_174 rfl J rfl 16087 ⟨rfl, rfl⟩ rfl ?_
        refine x_iload (x := l6) rfl rfl ?_
        refine x_iconst (v := 1) rfl ki_1 ?_
        refine z_isub rfl rfl jk_1 (by omega) (fun v9 ev9 => ?_)
        refine z_iald (N := 40) rfl J rfl sg_172_0_40_1_0_1 rfl (by omega) (fun v10 qv10 ev10 => ?_)
        try first | have kqv10 : v3.toInt = v10.toInt := ((vrd qv3 (show (l6.toInt - 1) = v2.toInt from by omega)).symm.trans (vrd qv10 (show (l6.toInt - 1) = v9.toInt from by omega))) | have kqv10 : v3.toInt = v10.toInt := ((vrd (jmc S4 rfl qv3) (show (l6.toInt - 1) = v2.toInt from by omega)).symm.trans (vrd qv10 (show (l6.toInt - 1) = v9.toInt from by omega)))
        try rw [kqv10] at D
        try rw [vrd qv10 (show (l6.toInt - 1) = v9.toInt from by omega)] at D
        refine z_iast (N := 40) (l := 0) (u := 40) (w := v10.toInt) rfl hD J Sm rfl rfl rfl (by omega) rfl (wr_172 (fun q1 q2 q3 q4 => by omega)) rfl (fun h w11 J Sm => ?_)
        rw [vww w11 (show l6.toInt = l6.toInt from by omega) (show v10.toInt = v10.toInt from by omega)] at D
        refine z_iinc (x := l6) (lsx9 := fun v12 => [(6, .int v12), (0, .ref 125), (1, .int l1), (3, .int l3), (4, .int l4), (5, .int l5)]) rfl rfl rfl jko_m1 (by omega) rfl (fun _ => rfl) (fun v12 ev12 => ?_)
        refine x_goto (tgt := 117) rfl rfl ?_
        try rw [show (l6.toInt + (-1)) = v12.toInt from by omega] at D
        exact jX.sub (jsb_c rfl (jsb_c rfl (jsb_c rfl (jsb_c rfl (jsb_c rfl (jsb_c rfl jsb_n)))))) (ih l1 l3 l4 l5 v12 h (by omega) (jr_of rfl (by omega)) (jr_of rfl (by omega)) (jr_of rfl (by omega)) (jr_of rfl (by omega)) (by omega) (by omega) (by omega) J Sm D)
set_option maxRecDepth 100000 in
set_option maxHeartbeats 4000000 in
theorem ct_X12_seat_r125d_200101 {Dy : jH → Prop} {h0 : jH} {Q : Option Value → jH → Prop} {dr : (Int × jW)} {K38 : Int → Int → Int → Int → jW → (Int × jW)} {R38 : Int} (hD : jDk Dy) (hQ : ∀ (v : Int32) hx9, (-1) ≤ v.toInt ∧ v.toInt ≤ 40 → jJ jSgM Dy hx9 → jSm fp_X12_seat_r125d h0 hx9 → dr.1 = v.toInt → dr.2 = vw hx9 → Q (some (.int v)) hx9) (k38 : ∀ (l1 : Int32) (l3 : Int32) (l4 : Int32) (l5 : Int32) (h : jH), 40 - l5.toInt < R38 → 0 ≤ l1.toInt ∧ l1.toInt ≤ 146399 → 0 ≤ l4.toInt ∧ l4.toInt ≤ 40 → 0 ≤ l5.toInt ∧ l5.toInt ≤ 40 → l4.toInt - l5.toInt ≤ 0 → jJ jSgM Dy h → jSm fp_X12_seat_r125d h0 h → K38 l1.toInt l3.toInt l4.toInt l5.toInt (vw h) = dr → jX m_X12_seat 12 0 0 38 [(0, .ref 125), (1, .int l1), (3, .int l3), (4, .int l4), (5, .int l5)] [] h 0 0 Q) : ∀ (l1 : Int32) (l3 : Int32) (l4 : Int32) (l5 : Int32) (s1 : Int32) (h : jH), 0 ≤ l1.toInt ∧ l1.toInt ≤ 146399 → 0 ≤ l4.toInt ∧ l4.toInt ≤ 39 → 0 ≤ l5.toInt ∧ l5.toInt ≤ 39 → 0 ≤ s1.toInt ∧ s1.toInt ≤ 39 → l4.toInt - l5.toInt ≤ 0 → 40 - l5.toInt ≤ R38 → jJ jSgM Dy h → jSm fp_X12_seat_r125d h0 h → d_X12_seat_r125d_200101 K38  l1.toInt l3.toInt l4.toInt l5.toInt s1.toInt (vw h) = dr → jX m_X12_seat 12 0 0 101 [(0, .ref 125), (1, .int l1), (3, .int l3), (4, .int l4), (5, .int l5)] [.int 0, .int s1, .ref 171] h 0 0 Q := by
  intro l1 l3 l4 l5 s1 h y0 y1 y2 y3 y4  m38 J Sm D
  have el3 := jfull l3
  unfold d_X12_seat_r125d_200101 at D
  refine z_zast (N := 40) (l := 0) (u := 40) (w := 0) rfl hD J Sm rfl rfl rfl (by omega) jk_0 (by omega) (wr_171 (fun q1 q2 q3 q4 => by omega)) rfl (fun h w1 J Sm => ?_)
  rw [vww w1 (show s1.toInt = s1.toInt from by omega) (show 0 = (0 : Int32).toInt from by have := jk_0; omega)] at D
  refine x_aloadn (x := 125) rfl rfl ?_
  refine z_getR (N := 92) (b := 170) 12 85 rfl f_12_168 rfl J rfl 16085 ⟨rfl, rfl⟩ rfl ?_
  refine x_iload (x := l5) rfl rfl ?_
  refine x_aloadn (x := 125) rfl rfl ?_
  refine z_getLQ (N := 92) 12 64 rfl f_12_755 rfl J rfl (fun v2 qv2 => ?_)
  have ev2 := jfullL v2
  try rw [vrfL qv2] at D
  refine z_last (N := 40) (l := 0) (u := 40) rfl hD J Sm rfl rfl rfl (by omega) rfl (fun h w3 J Sm => ?_)
  rw [vwwL w3 (show l5.toInt = l5.toInt from by omega) (show v2.toInt = v2.toInt from by omega)] at D
  refine x_iload (x := l4) rfl rfl ?_
  refine x_istore (lsx9 := [(6, .int l4), (0, .ref 125), (1, .int l1), (3, .int l3), (4, .int l4), (5, .int l5)]) rfl rfl rfl ?_
  exact jX.sub (jsb_c rfl (jsb_c rfl (jsb_c rfl (jsb_c rfl (jsb_c rfl (jsb_c rfl jsb_n)))))) (ct_X12_seat_r125d_117 hD hQ k38 40 l1 l3 l4 l5 l4 h (by omega) (jr_of rfl (by omega)) (jr_of rfl (by omega)) (jr_of rfl (by omega)) (jr_of rfl (by omega)) (by omega) (by omega) (by omega) J Sm D)
set_option maxRecDepth 100000 in
set_option maxHeartbeats 4000000 in
theorem ct_X12_seat_r125d_300101 {Dy : jH → Prop} {h0 : jH} {Q : Option Value → jH → Prop} {dr : (Int × jW)} {K38 : Int → Int → Int → Int → jW → (Int × jW)} {R38 : Int} (hD : jDk Dy) (hQ : ∀ (v : Int32) hx9, (-1) ≤ v.toInt ∧ v.toInt ≤ 40 → jJ jSgM Dy hx9 → jSm fp_X12_seat_r125d h0 hx9 → dr.1 = v.toInt → dr.2 = vw hx9 → Q (some (.int v)) hx9) (k38 : ∀ (l1 : Int32) (l3 : Int32) (l4 : Int32) (l5 : Int32) (h : jH), 40 - l5.toInt < R38 → 0 ≤ l1.toInt ∧ l1.toInt ≤ 146399 → 0 ≤ l4.toInt ∧ l4.toInt ≤ 40 → 0 ≤ l5.toInt ∧ l5.toInt ≤ 40 → l4.toInt - l5.toInt ≤ 0 → jJ jSgM Dy h → jSm fp_X12_seat_r125d h0 h → K38 l1.toInt l3.toInt l4.toInt l5.toInt (vw h) = dr → jX m_X12_seat 12 0 0 38 [(0, .ref 125), (1, .int l1), (3, .int l3), (4, .int l4), (5, .int l5)] [] h 0 0 Q) : ∀ (l1 : Int32) (l3 : Int32) (l4 : Int32) (l5 : Int32) (s1 : Int32) (h : jH), 0 ≤ l1.toInt ∧ l1.toInt ≤ 146399 → 0 ≤ l4.toInt ∧ l4.toInt ≤ 39 → 0 ≤ l5.toInt ∧ l5.toInt ≤ 39 → 0 ≤ s1.toInt ∧ s1.toInt ≤ 39 → l4.toInt - l5.toInt ≤ 0 → 40 - l5.toInt ≤ R38 → jJ jSgM Dy h → jSm fp_X12_seat_r125d h0 h → d_X12_seat_r125d_300101 K38  l1.toInt l3.toInt l4.toInt l5.toInt s1.toInt (vw h) = dr → jX m_X12_seat 12 0 0 101 [(0, .ref 125), (1, .int l1), (3, .int l3), (4, .int l4), (5, .int l5)] [.int 1, .int s1, .ref 171] h 0 0 Q := by
  intro l1 l3 l4 l5 s1 h y0 y1 y2 y3 y4  m38 J Sm D
  have el3 := jfull l3
  unfold d_X12_seat_r125d_300101 at D
  refine z_zast (N := 40) (l := 0) (u := 40) (w := 1) rfl hD J Sm rfl rfl rfl (by omega) jk_1 (by omega) (wr_171 (fun q1 q2 q3 q4 => by omega)) rfl (fun h w1 J Sm => ?_)
  rw [vww w1 (show s1.toInt = s1.toInt from by omega) (show 1 = (1 : Int32).toInt from by have := jk_1; omega)] at D
  refine x_aloadn (x := 125) rfl rfl ?_
  refine z_getR (N := 92) (b := 170) 12 85 rfl f_12_168 rfl J rfl 16085 ⟨rfl, rfl⟩ rfl ?_
  refine x_iload (x := l5) rfl rfl ?_
  refine x_aloadn (x := 125) rfl rfl ?_
  refine z_getLQ (N := 92) 12 64 rfl f_12_755 rfl J rfl (fun v2 qv2 => ?_)
  have ev2 := jfullL v2
  try rw [vrfL qv2] at D
  refine z_last (N := 40) (l := 0) (u := 40) rfl hD J Sm rfl rfl rfl (by omega) rfl (fun h w3 J Sm => ?_)
  rw [vwwL w3 (show l5.toInt = l5.toInt from by omega) (show v2.toInt = v2.toInt from by omega)] at D
  refine x_iload (x := l4) rfl rfl ?_
  refine x_istore (lsx9 := [(6, .int l4), (0, .ref 125), (1, .int l1), (3, .int l3), (4, .int l4), (5, .int l5)]) rfl rfl rfl ?_
  exact jX.sub (jsb_c rfl (jsb_c rfl (jsb_c rfl (jsb_c rfl (jsb_c rfl (jsb_c rfl jsb_n)))))) (ct_X12_seat_r125d_117 hD hQ k38 40 l1 l3 l4 l5 l4 h (by omega) (jr_of rfl (by omega)) (jr_of rfl (by omega)) (jr_of rfl (by omega)) (jr_of rfl (by omega)) (by omega) (by omega) (by omega) J Sm D)
set_option maxRecDepth 100000 in
set_option maxHeartbeats 4000000 in
theorem ct_X12_seat_r125d_38 {Dy : jH → Prop} {h0 : jH} {Q : Option Value → jH → Prop} {dr : (Int × jW)} (hD : jDk Dy) (hQ : ∀ (v : Int32) hx9, (-1) ≤ v.toInt ∧ v.toInt ≤ 40 → jJ jSgM Dy hx9 → jSm fp_X12_seat_r125d h0 hx9 → dr.1 = v.toInt → dr.2 = vw hx9 → Q (some (.int v)) hx9) : ∀ r : Nat, ∀ (l1 : Int32) (l3 : Int32) (l4 : Int32) (l5 : Int32) (h : jH), 40 - l5.toInt < (r : Int) → 0 ≤ l1.toInt ∧ l1.toInt ≤ 146399 → 0 ≤ l4.toInt ∧ l4.toInt ≤ 40 → 0 ≤ l5.toInt ∧ l5.toInt ≤ 40 → l4.toInt - l5.toInt ≤ 0 → jJ jSgM Dy h → jSm fp_X12_seat_r125d h0 h → d_X12_seat_r125d_38 r l1.toInt l3.toInt l4.toInt l5.toInt (vw h) = dr → jX m_X12_seat 12 0 0 38 [(0, .ref 125), (1, .int l1), (3, .int l3), (4, .int l4), (5, .int l5)] [] h 0 0 Q := by
  intro r
  induction r with
  | zero =>
    intro l1 l3 l4 l5 h hm y0 y1 y2 y3   J Sm D
    exfalso
    have el3 := jfull l3
    omega
  | succ r ih =>
    intro l1 l3 l4 l5 h hm y0 y1 y2 y3   J Sm D
    have el3 := jfull l3
    rw [d_X12_seat_r125d_38.eq_2] at D
    refine x_iload (x := l5) rfl rfl ?_
    refine x_aloadn (x := 125) rfl rfl ?_
    refine z_getR (N := 92) (b := 126) 12 2 rfl f_12_8 rfl J rfl 16002 ⟨rfl, rfl⟩ rfl ?_
    refine x_bipush (v := 7) rfl kb_7 ?_
    refine z_iald (N := 50660) rfl J rfl sg_126_7_8_1_0_1 jk_7 (by omega) (fun v1 qv1 ev1 => ?_)
    try rw [vrn (n := 7) (by decide) qv1] at D
    refine x_icge (tgt := 180) rfl rfl (ti_ge rfl rfl ⟨fun c2 => ?_, fun c2 => ?_⟩)
    ·
      rw [if_pos (by omega)] at D
      refine x_iloadn (x := l3) rfl rfl ?_
      refine x_iconst (v := (-1)) rfl ki_m1 ?_
      refine x_icne (tgt := 190) rfl rfl (ti_ne rfl jk_m1 ⟨fun c3 => ?_, fun c3 => ?_⟩)
      ·
        rw [if_neg (by omega)] at D
        refine x_iloadn (x := l3) rfl rfl ?_
        refine z_i2l rfl rfl (fun v4 ev4 => ?_)
        refine x_lconst (v := 0) rfl kl_0 ?_
        refine x_iload (x := l4) rfl rfl ?_
        refine z_i2l rfl rfl (fun v5 ev5 => ?_)
        refine x_lconst (v := 1) rfl kl_1 ?_
        refine z_lsub rfl rfl jkl_1 (by omega) (fun v6 ev6 => ?_)
        refine x_inst (N := m_X12_in) (As := [.long v4, .long 0, .long v6]) (st := []) (dx9 := 1) (mc := 0) (ms := 0) (host := "") rfl t_X12_in ⟨Or.inl q_12_188, s_X12_in⟩ rfl (by decide) rfl rfl ⟨by decide, by decide⟩ (zc_X12_in rfl jkl_0 rfl (fun v7 ev7 => ?_))
        show jX m_X12_seat 12 0 0 201 [(0, .ref 125), (1, .int l1), (3, .int l3), (4, .int l4), (5, .int l5)] [.int v7] _ 0 0 _
        refine x_ifeq (tgt := 213) rfl rfl (ti_eq rfl jk_0 ⟨fun c8 => ?_, fun c8 => ?_⟩)
        ·
          rw [if_neg (by omega)] at D
          refine x_iconst (v := (-1)) rfl ki_m1 ?_
          exact jX.sub jsb_n (ct_X12_seat_r125d_100214 hD hQ  h J Sm D)
        ·
          rw [if_pos (by omega)] at D
          refine x_aloadn (x := 125) rfl rfl ?_
          refine z_getR (N := 92) (b := 172) 12 87 rfl f_12_174 rfl J rfl 16087 ⟨rfl, rfl⟩ rfl ?_
          refine x_iloadn (x := l3) rfl rfl ?_
          refine z_iald (N := 40) rfl J rfl sg_172_0_40_1_0_1 rfl (by omega) (fun v9 qv9 ev9 => ?_)
          try rw [vrd qv9 (show l3.toInt = l3.toInt from by omega)] at D
          refine x_goto (tgt := 214) rfl rfl ?_
          exact jX.sub jsb_n (ct_X12_seat_r125d_214 hD hQ  v9 h (jr_of rfl (by omega)) J Sm D)
      ·
        rw [if_pos (by omega)] at D
        refine x_iload (x := l4) rfl rfl ?_
        refine x_goto (tgt := 214) rfl rfl ?_
        exact jX.sub jsb_n (ct_X12_seat_r125d_214 hD hQ  l4 h (jr_of rfl (by omega)) J Sm D)
    ·
      rw [if_neg (by omega)] at D
      refine x_aloadn (x := 125) rfl rfl ?_
      refine z_getR (N := 92) (b := 163) 12 78 rfl f_12_147 rfl J rfl 16078 ⟨rfl, rfl⟩ rfl ?_
      refine x_bipush (v := 40) rfl kb_40 ?_
      refine x_iload (x := l5) rfl rfl ?_
      refine z_iadd rfl jk_40 rfl (by omega) (fun v10 ev10 => ?_)
      refine z_iald (N := 80) rfl J rfl sg_163_0_80_1_0_1 rfl (by omega) (fun v11 qv11 ev11 => ?_)
      try rw [vrd qv11 (show (40 + l5.toInt) = v10.toInt from by omega)] at D
      refine x_iconst (v := (-1)) rfl ki_m1 ?_
      refine x_iceq (tgt := 174) rfl rfl (ti_eq rfl jk_m1 ⟨fun c12 => ?_, fun c12 => ?_⟩)
      ·
        rw [if_pos (by omega)] at D
        exact jX.sub (jsb_c rfl (jsb_c rfl (jsb_c rfl (jsb_c rfl (jsb_c rfl jsb_n))))) (ct_X12_seat_r125d_174 hD hQ ih l1 l3 l4 l5 h (jr_of rfl (by omega)) (jr_of rfl (by omega)) (jr_of rfl (by omega)) (by omega) (by omega) J Sm D)
      ·
        rw [if_neg (by omega)] at D
        refine x_aloadn (x := 125) rfl rfl ?_
        refine x_bipush (v := 8) rfl kb_8 ?_
        refine x_iconst (v := 0) rfl ki_0 ?_
        refine x_aloadn (x := 125) rfl rfl ?_
        refine z_getR (N := 92) (b := 163) 12 78 rfl f_12_147 rfl J rfl 16078 ⟨rfl, rfl⟩ rfl ?_
        refine x_bipush (v := 40) rfl kb_40 ?_
        refine x_iload (x := l5) rfl rfl ?_
        refine z_iadd rfl jk_40 rfl (by omega) (fun v13 ev13 => ?_)
        refine z_iald (N := 80) rfl J rfl sg_163_0_80_1_0_1 rfl (by omega) (fun v14 qv14 ev14 => ?_)
        try have kqv14 : v11.toInt = v14.toInt := ((vrd qv11 (show (40 + l5.toInt) = v10.toInt from by omega)).symm.trans (vrd qv14 (show (40 + l5.toInt) = v13.toInt from by omega)))
        try rw [kqv14] at D
        try rw [vrd qv14 (show (40 + l5.toInt) = v13.toInt from by omega)] at D
        refine x_iloadn (x := l1) rfl rfl ?_
        refine x_inv (N := m_X12_findCount) (As := [.int 8, .int 0, .int v14, .int l1]) (b := 125) (st := []) (dx9 := 11) (mc := 0) (ms := 0) (host := "") 12 rfl t_X12_findCount ⟨Or.inl q_12_765, i_X12_findCount.1, i_X12_findCount.2⟩ ⟨by decide, rfl⟩ (congrArg Prod.fst (J.1.1 125 (12, 92) rfl)) rfl (by decide) rfl rfl ⟨by decide, by decide⟩ (sf_X12_findCount_r125d (jr_of jk_8 (by omega)) (jr_of jk_0 (by omega)) (jr_of rfl (by omega)) (jr_of rfl (by omega)) hD J rfl  (fun h J S15 X16 => ?_))
        have Sm := jSm_tr rfl Sm S15
        try rw [jk_8] at X16
        try rw [jk_0] at X16
        rw [X16] at D
        show jX m_X12_seat 12 0 0 82 [(0, .ref 125), (1, .int l1), (3, .int l3), (4, .int l4), (5, .int l5)] [] _ 0 0 _
        refine x_aloadn (x := 125) rfl rfl ?_
        refine z_getR (N := 92) (b := 171) 12 86 rfl f_12_171 rfl J rfl 16086 ⟨rfl, rfl⟩ rfl ?_
        refine x_iload (x := l5) rfl rfl ?_
        refine x_aloadn (x := 125) rfl rfl ?_
        refine z_getI (N := 92) 12 65 rfl f_12_752 rfl J rfl sg_125_65_66_1_0_1 (fun v17 qv17 ev17 => ?_)
        try rw [vrf qv17] at D
        refine x_iconst (v := (-1)) rfl ki_m1 ?_
        refine x_iceq (tgt := 100) rfl rfl (ti_eq rfl jk_m1 ⟨fun c18 => ?_, fun c18 => ?_⟩)
        ·
          rw [if_pos (by omega)] at D
          refine x_iconst (v := 0) rfl ki_0 ?_
          exact jX.sub (jsb_c rfl (jsb_c rfl (jsb_c rfl (jsb_c rfl (jsb_c rfl jsb_n))))) (ct_X12_seat_r125d_200101 hD hQ ih l1 l3 l4 l5 l5 h (jr_of rfl (by omega)) (jr_of rfl (by omega)) (jr_of rfl (by omega)) (jr_of rfl (by omega)) (by omega) (by omega) J Sm D)
        ·
          rw [if_neg (by omega)] at D
          refine x_iconst (v := 1) rfl ki_1 ?_
          refine x_goto (tgt := 101) rfl rfl ?_
          exact jX.sub (jsb_c rfl (jsb_c rfl (jsb_c rfl (jsb_c rfl (jsb_c rfl jsb_n))))) (ct_X12_seat_r125d_300101 hD hQ ih l1 l3 l4 l5 l5 h (jr_of rfl (by omega)) (jr_of rfl (by omega)) (jr_of rfl (by omega)) (jr_of rfl (by omega)) (by omega) (by omega) J Sm D)
set_option maxRecDepth 100000 in
set_option maxHeartbeats 4000000 in
theorem sf_X12_seat_r125d {Dy : jH → Prop} {h : jH} {Q : Option Value → jH → Prop} {dr : (Int × jW)} {a1 : Int32} {a2 : Int32} {a3 : Int32} (hD : jDk Dy) (J : jJ jSgM Dy h) (D : d_X12_seat_r125d a1.toInt a2.toInt a3.toInt (vw h) = dr) (hQ : ∀ (v : Int32) hx9, (-1) ≤ v.toInt ∧ v.toInt ≤ 40 → jJ jSgM Dy hx9 → jSm fp_X12_seat_r125d h hx9 → dr.1 = v.toInt → dr.2 = vw hx9 → Q (some (.int v)) hx9) : jC m_X12_seat 12 0 0 [.ref 125, .int a1, .int a2, .int a3] h Q := by
  refine jC.of rfl k_X12_seat rfl ?_
  have Sm := jSm_rf fp_X12_seat_r125d h
  have ea1 := jfull a1
  have ea2 := jfull a2
  have ea3 := jfull a3
  show jX m_X12_seat 12 0 0 0 [(0, .ref 125), (1, .int a1), (2, .int a2), (3, .int a3)] [] _ 0 0 _
  unfold d_X12_seat_r125d at D
  refine x_aloadn (x := 125) rfl rfl ?_
  refine x_iconst (v := 0) rfl ki_0 ?_
  refine z_putI (N := 92) (w := 0) 12 0 rfl f_12_180 rfl (jfin_no TX12 RX12 92 rfl rfl) hD J Sm rfl rfl jk_0 (pw_125_0 (by omega)) rfl (fun h w1 J Sm => ?_)
  rw [vwf w1 (show 0 = (0 : Int32).toInt from by have := jk_0; omega)] at D
  refine x_iloadn (x := a1) rfl rfl ?_
  refine x_inst (N := m_X12_isDay) (As := [.int a1]) (st := []) (dx9 := 2) (mc := 0) (ms := 0) (host := "") rfl t_X12_isDay ⟨Or.inl q_12_273, s_X12_isDay⟩ rfl (by decide) rfl rfl ⟨by decide, by decide⟩ (zc_X12_isDay (d := 1) rfl (fun v2 ev2 => ?_))
  show jX m_X12_seat 12 0 0 9 [(0, .ref 125), (1, .int a1), (2, .int a2), (3, .int a3)] [.int v2] _ 0 0 _
  refine x_ifeq (tgt := 19) rfl rfl (ti_eq rfl jk_0 ⟨fun c3 => ?_, fun c3 => ?_⟩)
  ·
    rw [if_neg (by omega)] at D
    exact jX.sub jsb_n (ct_X12_seat_r125d_19 hD hQ  h J Sm D)
  ·
    rw [if_pos (by omega)] at D
    refine x_iloadn (x := a2) rfl rfl ?_
    refine x_inst (N := m_X12_isDay) (As := [.int a2]) (st := []) (dx9 := 2) (mc := 0) (ms := 0) (host := "") rfl t_X12_isDay ⟨Or.inl q_12_273, s_X12_isDay⟩ rfl (by decide) rfl rfl ⟨by decide, by decide⟩ (zc_X12_isDay (d := 1) rfl (fun v4 ev4 => ?_))
    show jX m_X12_seat 12 0 0 16 [(0, .ref 125), (1, .int a1), (2, .int a2), (3, .int a3)] [.int v4] _ 0 0 _
    refine x_ifne (tgt := 21) rfl rfl (ti_ne rfl jk_0 ⟨fun c5 => ?_, fun c5 => ?_⟩)
    ·
      rw [if_pos (by omega)] at D
      refine x_aloadn (x := 125) rfl rfl ?_
      refine x_iloadn (x := a2) rfl rfl ?_
      refine x_inv (N := m_X12_find) (As := [.int a2]) (b := 125) (st := []) (dx9 := 8) (mc := 0) (ms := 0) (host := "") 12 rfl t_X12_find ⟨Or.inl q_12_393, i_X12_find.1, i_X12_find.2⟩ ⟨by decide, rfl⟩ (congrArg Prod.fst (J.1.1 125 (12, 92) rfl)) rfl (by decide) rfl rfl ⟨by decide, by decide⟩ (sf_X12_find_r125d (jr_of rfl (by omega)) hD J rfl  (fun h J S6 X7 => ?_))
      have Sm := jSm_tr rfl Sm S6
      rw [X7] at D
      show jX m_X12_seat 12 0 0 26 [(0, .ref 125), (1, .int a1), (2, .int a2), (3, .int a3)] [] _ 0 0 _
      refine x_aloadn (x := 125) rfl rfl ?_
      refine x_iloadn (x := a1) rfl rfl ?_
      refine x_iconst (v := 1) rfl ki_1 ?_
      refine x_inv (N := m_X12_findHouses) (As := [.int a1, .int 1]) (b := 125) (st := []) (dx9 := 2) (mc := 0) (ms := 0) (host := "") 12 rfl t_X12_findHouses ⟨Or.inl q_12_694, i_X12_findHouses.1, i_X12_findHouses.2⟩ ⟨by decide, rfl⟩ (congrArg Prod.fst (J.1.1 125 (12, 92) rfl)) rfl (by decide) rfl rfl ⟨by decide, by decide⟩ (sf_X12_findHouses_r125_c1d (jr_of rfl (by omega)) hD J rfl  (fun h J S8 X9 => ?_))
      have Sm := jSm_tr rfl Sm S8
      rw [X9] at D
      show jX m_X12_seat 12 0 0 32 [(0, .ref 125), (1, .int a1), (2, .int a2), (3, .int a3)] [] _ 0 0 _
      refine x_iconst (v := 0) rfl ki_0 ?_
      refine x_istore (lsx9 := [(4, .int 0), (0, .ref 125), (1, .int a1), (2, .int a2), (3, .int a3)]) rfl rfl rfl ?_
      refine x_iconst (v := 0) rfl ki_0 ?_
      refine x_istore (lsx9 := [(5, .int 0), (4, .int 0), (0, .ref 125), (1, .int a1), (2, .int a2), (3, .int a3)]) rfl rfl rfl ?_
      exact jX.sub (jsb_c rfl (jsb_c rfl (jsb_c rfl (jsb_c rfl (jsb_c rfl jsb_n))))) (ct_X12_seat_r125d_38 hD hQ  41 a1 a3 0 0 h (by have := jk_0; omega) (jr_of rfl (by omega)) (jr_of jk_0 (by omega)) (jr_of jk_0 (by omega)) (by have := jk_0; have := jk_0; omega) J Sm (by rw [jk_0]; exact D))
    ·
      rw [if_neg (by omega)] at D
      exact jX.sub jsb_n (ct_X12_seat_r125d_19 hD hQ  h J Sm D)
def fp_X12_soul_r125d : jFp := [(125, 0, 1), (125, 28, 29), (125, 31, 32), (125, 57, 58), (137, 0, 80), (138, 0, 2), (139, 0, 600), (140, 0, 200)]
set_option maxRecDepth 100000 in
set_option maxHeartbeats 4000000 in
theorem ct_X12_soul_r125d_20 {Dy : jH → Prop} {h0 : jH} {Q : Option Value → jH → Prop} {dr : (Int × jW)} (hD : jDk Dy) (hQ : ∀ (v : Int32) hx9, (-1) ≤ v.toInt ∧ v.toInt ≤ 599 → jJ jSgM Dy hx9 → jSm fp_X12_soul_r125d h0 hx9 → dr.1 = v.toInt → dr.2 = vw hx9 → Q (some (.int v)) hx9) : ∀ (h : jH), jJ jSgM Dy h → jSm fp_X12_soul_r125d h0 h → d_X12_soul_r125d_20  (vw h) = dr → jX m_X12_soul 9 0 0 20 [] [] h 0 0 Q := by
  intro  h    J Sm D
  unfold d_X12_soul_r125d_20 at D
  refine x_iconst (v := (-1)) rfl ki_m1 ?_
  refine x_iret rfl rfl ?_
  exact hQ _ _ (jr_of jk_m1 (by omega)) J Sm ((congrArg Prod.fst D).symm.trans (show (-1) = ((-1) : Int32).toInt from by have := jk_m1; omega)) (congrArg Prod.snd D).symm
set_option maxRecDepth 100000 in
set_option maxHeartbeats 4000000 in
theorem sf_X12_soul_r125d {Dy : jH → Prop} {h : jH} {Q : Option Value → jH → Prop} {dr : (Int × jW)} {a1 : Int32} {a2 : Int32} (hD : jDk Dy) (J : jJ jSgM Dy h) (D : d_X12_soul_r125d a1.toInt a2.toInt (vw h) = dr) (hQ : ∀ (v : Int32) hx9, (-1) ≤ v.toInt ∧ v.toInt ≤ 599 → jJ jSgM Dy hx9 → jSm fp_X12_soul_r125d h hx9 → dr.1 = v.toInt → dr.2 = vw hx9 → Q (some (.int v)) hx9) : jC m_X12_soul 9 0 0 [.ref 125, .int a1, .int a2] h Q := by
  refine jC.of rfl k_X12_soul rfl ?_
  have Sm := jSm_rf fp_X12_soul_r125d h
  have ea1 := jfull a1
  have ea2 := jfull a2
  show jX m_X12_soul 9 0 0 0 [(0, .ref 125), (1, .int a1), (2, .int a2)] [] _ 0 0 _
  unfold d_X12_soul_r125d at D
  refine x_aloadn (x := 125) rfl rfl ?_
  refine x_iconst (v := 0) rfl ki_0 ?_
  refine z_putI (N := 92) (w := 0) 12 0 rfl f_12_180 rfl (jfin_no TX12 RX12 92 rfl rfl) hD J Sm rfl rfl jk_0 (pw_125_0 (by omega)) rfl (fun h w1 J Sm => ?_)
  rw [vwf w1 (show 0 = (0 : Int32).toInt from by have := jk_0; omega)] at D
  refine x_aloadn (x := 125) rfl rfl ?_
  refine x_iloadn (x := a1) rfl rfl ?_
  refine x_inv (N := m_X12_isMention) (As := [.int a1]) (b := 125) (st := []) (dx9 := 8) (mc := 0) (ms := 0) (host := "") 12 rfl t_X12_isMention ⟨Or.inl q_12_322, i_X12_isMention.1, i_X12_isMention.2⟩ ⟨by decide, rfl⟩ (congrArg Prod.fst (J.1.1 125 (12, 92) rfl)) rfl (by decide) rfl rfl ⟨by decide, by decide⟩ (jC.of rfl k_X12_isMention rfl ?_)
  show jX m_X12_isMention 8 0 0 0 [(0, .ref 125), (1, .int a1)] [] _ 0 0 _
  refine x_iloadn (x := a1) rfl rfl ?_
  refine x_iflt (tgt := 34) rfl rfl (ti_lt rfl jk_0 ⟨fun c2 => ?_, fun c2 => ?_⟩)
  ·
    rw [if_pos (by omega)] at D
    refine x_iconst (v := 0) rfl ki_0 ?_
    refine x_zret rfl rfl (by decide) ?_
    show jX m_X12_soul 9 0 0 10 [(0, .ref 125), (1, .int a1), (2, .int a2)] [.int 0] _ 0 0 _
    refine x_ifeq (tgt := 20) rfl rfl (ti_eq jk_0 jk_0 (br_t (by omega) ?_))
    exact jX.sub jsb_n (ct_X12_soul_r125d_20 hD hQ  h J Sm D)
  ·
    rw [if_neg (by omega)] at D
    refine x_aloadn (x := 125) rfl rfl ?_
    refine x_iloadn (x := a1) rfl rfl ?_
    refine x_iconst (v := 3) rfl ki_3 ?_
    refine z_idiv rfl rfl jk_3 (by omega) (by omega) (fun v3 ev3 => ?_)
    refine x_inv (N := m_X12_isLine) (As := [.int v3]) (b := 125) (st := []) (dx9 := 7) (mc := 0) (ms := 0) (host := "") 12 rfl t_X12_isLine ⟨Or.inl q_12_293, i_X12_isLine.1, i_X12_isLine.2⟩ ⟨by decide, rfl⟩ (congrArg Prod.fst (J.1.1 125 (12, 92) rfl)) rfl (by decide) rfl rfl ⟨by decide, by decide⟩ (jC.of rfl k_X12_isLine rfl ?_)
    show jX m_X12_isLine 7 0 0 0 [(0, .ref 125), (1, .int v3)] [] _ 0 0 _
    refine x_iloadn (x := v3) rfl rfl ?_
    refine z_i2l rfl rfl (fun v4 ev4 => ?_)
    refine x_lconst (v := 0) rfl kl_0 ?_
    refine x_aloadn (x := 125) rfl rfl ?_
    refine z_getR (N := 92) (b := 126) 12 2 rfl f_12_8 rfl J rfl 16002 ⟨rfl, rfl⟩ rfl ?_
    refine x_iconst (v := 0) rfl ki_0 ?_
    refine z_iald (N := 50660) rfl J rfl sg_126_0_1_1_0_1 jk_0 (by omega) (fun v5 qv5 ev5 => ?_)
    try rw [vrn (n := 0) (by decide) (jmb_w w1 qv5 rfl)] at D
    refine z_i2l rfl rfl (fun v6 ev6 => ?_)
    refine x_lconst (v := 1) rfl kl_1 ?_
    refine z_lsub rfl rfl jkl_1 (by omega) (fun v7 ev7 => ?_)
    refine x_inst (N := m_X12_in) (As := [.long v4, .long 0, .long v7]) (st := []) (dx9 := 1) (mc := 0) (ms := 0) (host := "") rfl t_X12_in ⟨Or.inl q_12_188, s_X12_in⟩ rfl (by decide) rfl rfl ⟨by decide, by decide⟩ (zc_X12_in rfl jkl_0 rfl (fun v8 ev8 => ?_))
    show jX m_X12_isLine 7 0 0 15 [(0, .ref 125), (1, .int v3)] [.int v8] _ 0 0 _
    refine x_zret rfl rfl (jz01 (by omega)) ?_
    show jX m_X12_isMention 8 0 0 11 [(0, .ref 125), (1, .int a1)] [.int v8] _ 0 0 _
    refine x_ifeq (tgt := 34) rfl rfl (ti_eq rfl jk_0 ⟨fun c9 => ?_, fun c9 => ?_⟩)
    ·
      rw [if_neg (by omega)] at D
      refine x_iconst (v := 0) rfl ki_0 ?_
      refine x_zret rfl rfl (by decide) ?_
      show jX m_X12_soul 9 0 0 10 [(0, .ref 125), (1, .int a1), (2, .int a2)] [.int 0] _ 0 0 _
      refine x_ifeq (tgt := 20) rfl rfl (ti_eq jk_0 jk_0 (br_t (by omega) ?_))
      exact jX.sub jsb_n (ct_X12_soul_r125d_20 hD hQ  h J Sm D)
    ·
      rw [if_pos (by omega)] at D
      refine x_iloadn (x := a1) rfl rfl ?_
      refine x_iconst (v := 3) rfl ki_3 ?_
      refine z_irem rfl rfl jk_3 (by omega) (by omega) (fun v10 ev10 => ?_)
      refine x_aloadn (x := 125) rfl rfl ?_
      refine x_iloadn (x := a1) rfl rfl ?_
      refine x_iconst (v := 3) rfl ki_3 ?_
      refine z_idiv rfl rfl jk_3 (by omega) (by omega) (fun v11 ev11 => ?_)
      refine x_inv (N := m_X12_bookOf) (As := [.int v11]) (b := 125) (st := [.int v10]) (dx9 := 7) (mc := 0) (ms := 0) (host := "") 12 rfl t_X12_bookOf ⟨Or.inl q_12_299, i_X12_bookOf.1, i_X12_bookOf.2⟩ ⟨by decide, rfl⟩ (congrArg Prod.fst (J.1.1 125 (12, 92) rfl)) rfl (by decide) rfl rfl ⟨by decide, by decide⟩ (jC.of rfl k_X12_bookOf rfl ?_)
      show jX m_X12_bookOf 7 0 0 0 [(0, .ref 125), (1, .int v11)] [] _ 0 0 _
      refine x_aloadn (x := 125) rfl rfl ?_
      refine z_getR (N := 92) (b := 126) 12 2 rfl f_12_8 rfl J rfl 16002 ⟨rfl, rfl⟩ rfl ?_
      refine x_aloadn (x := 125) rfl rfl ?_
      refine x_iloadn (x := v11) rfl rfl ?_
      refine x_inv (N := m_X12_at) (As := [.int v11]) (b := 125) (st := [.ref 126]) (dx9 := 6) (mc := 0) (ms := 0) (host := "") 12 rfl t_X12_at ⟨Or.inl q_12_254, i_X12_at.1, i_X12_at.2⟩ ⟨by decide, rfl⟩ (congrArg Prod.fst (J.1.1 125 (12, 92) rfl)) rfl (by decide) rfl rfl ⟨by decide, by decide⟩ (jC.of rfl k_X12_at rfl ?_)
      show jX m_X12_at 6 0 0 0 [(0, .ref 125), (1, .int v11)] [] _ 0 0 _
      refine x_bipush (v := 20) rfl kb_20 ?_
      refine x_bipush (v := 90) rfl kb_90 ?_
      refine x_iloadn (x := v11) rfl rfl ?_
      refine z_imul rfl jk_90 rfl (by omega) (fun v12 ev12 => ?_)
      refine z_iadd rfl jk_20 rfl (by omega) (fun v13 ev13 => ?_)
      refine x_iret rfl rfl ?_
      show jX m_X12_bookOf 7 0 0 9 [(0, .ref 125), (1, .int v11)] [.int v13, .ref 126] _ 0 0 _
      refine z_iald (N := 50660) rfl J rfl sg_126_20_18020_90_0_1 rfl (by omega) (fun v14 qv14 ev14 => ?_)
      try rw [vrd (jmb_w w1 qv14 rfl) (show (20 + (90 * (a1.toInt / 3))) = v13.toInt from by omega)] at D
      refine x_iret rfl rfl ?_
      show jX m_X12_isMention 8 0 0 24 [(0, .ref 125), (1, .int a1)] [.int v14, .int v10] _ 0 0 _
      refine x_inst (N := m_X12_rolesOf) (As := [.int v14]) (st := [.int v10]) (dx9 := 7) (mc := 0) (ms := 0) (host := "") rfl t_X12_rolesOf ⟨Or.inl q_12_286, s_X12_rolesOf⟩ rfl (by decide) rfl rfl ⟨by decide, by decide⟩ (jC.of rfl k_X12_rolesOf rfl ?_)
      show jX m_X12_rolesOf 7 0 0 0 [(0, .int v14)] [] _ 0 0 _
      refine x_iloadn (x := v14) rfl rfl ?_
      refine x_ifne (tgt := 8) rfl rfl (ti_ne rfl jk_0 ⟨fun c15 => ?_, fun c15 => ?_⟩)
      ·
        rw [if_neg (by omega)] at D
        refine x_iloadn (x := v14) rfl rfl ?_
        refine x_iconst (v := 1) rfl ki_1 ?_
        refine x_icne (tgt := 17) rfl rfl (ti_ne rfl jk_1 ⟨fun c16 => ?_, fun c16 => ?_⟩)
        ·
          rw [if_neg (by omega)] at D
          refine x_iconst (v := 1) rfl ki_1 ?_
          refine x_iret rfl rfl ?_
          show jX m_X12_isMention 8 0 0 27 [(0, .ref 125), (1, .int a1)] [.int 1, .int v10] _ 0 0 _
          refine x_icge (tgt := 34) rfl rfl (ti_ge rfl jk_1 ⟨fun c17 => ?_, fun c17 => ?_⟩)
          ·
            rw [if_pos (by omega)] at D
            refine x_iconst (v := 0) rfl ki_0 ?_
            refine x_zret rfl rfl (by decide) ?_
            show jX m_X12_soul 9 0 0 10 [(0, .ref 125), (1, .int a1), (2, .int a2)] [.int 0] _ 0 0 _
            refine x_ifeq (tgt := 20) rfl rfl (ti_eq jk_0 jk_0 (br_t (by omega) ?_))
            exact jX.sub jsb_n (ct_X12_soul_r125d_20 hD hQ  h J Sm D)
          ·
            rw [if_neg (by omega)] at D
            refine x_iconst (v := 1) rfl ki_1 ?_
            refine x_goto (tgt := 35) rfl rfl ?_
            refine x_zret rfl rfl (by decide) ?_
            show jX m_X12_soul 9 0 0 10 [(0, .ref 125), (1, .int a1), (2, .int a2)] [.int 1] _ 0 0 _
            refine x_ifeq (tgt := 20) rfl rfl (ti_eq jk_1 jk_0 (br_f (by omega) ?_))
            refine x_iloadn (x := a2) rfl rfl ?_
            refine x_inst (N := m_X12_isDay) (As := [.int a2]) (st := []) (dx9 := 2) (mc := 0) (ms := 0) (host := "") rfl t_X12_isDay ⟨Or.inl q_12_273, s_X12_isDay⟩ rfl (by decide) rfl rfl ⟨by decide, by decide⟩ (zc_X12_isDay (d := 1) rfl (fun v18 ev18 => ?_))
            show jX m_X12_soul 9 0 0 17 [(0, .ref 125), (1, .int a1), (2, .int a2)] [.int v18] _ 0 0 _
            refine x_ifne (tgt := 22) rfl rfl (ti_ne rfl jk_0 ⟨fun c19 => ?_, fun c19 => ?_⟩)
            ·
              rw [if_pos (by omega)] at D
              refine x_aloadn (x := 125) rfl rfl ?_
              refine x_iloadn (x := a2) rfl rfl ?_
              refine x_inv (N := m_X12_find) (As := [.int a2]) (b := 125) (st := []) (dx9 := 8) (mc := 0) (ms := 0) (host := "") 12 rfl t_X12_find ⟨Or.inl q_12_393, i_X12_find.1, i_X12_find.2⟩ ⟨by decide, rfl⟩ (congrArg Prod.fst (J.1.1 125 (12, 92) rfl)) rfl (by decide) rfl rfl ⟨by decide, by decide⟩ (sf_X12_find_r125d (jr_of rfl (by omega)) hD J rfl  (fun h J S20 X21 => ?_))
              have Sm := jSm_tr rfl Sm S20
              rw [X21] at D
              show jX m_X12_soul 9 0 0 27 [(0, .ref 125), (1, .int a1), (2, .int a2)] [] _ 0 0 _
              refine x_aloadn (x := 125) rfl rfl ?_
              refine z_getR (N := 92) (b := 139) 12 29 rfl f_12_72 rfl J rfl 16029 ⟨rfl, rfl⟩ rfl ?_
              refine x_iloadn (x := a1) rfl rfl ?_
              refine z_iald (N := 600) rfl J rfl sg_139_0_600_1_0_1 rfl (by omega) (fun v22 qv22 ev22 => ?_)
              try rw [vrd qv22 (show a1.toInt = a1.toInt from by omega)] at D
              refine x_iret rfl rfl ?_
              exact hQ _ _ (jr_of rfl (by omega)) J Sm ((congrArg Prod.fst D).symm.trans (show v22.toInt = v22.toInt from by omega)) (congrArg Prod.snd D).symm
            ·
              rw [if_neg (by omega)] at D
              exact jX.sub jsb_n (ct_X12_soul_r125d_20 hD hQ  h J Sm D)
        ·
          rw [if_pos (by omega)] at D
          refine x_iconst (v := 2) rfl ki_2 ?_
          refine x_goto (tgt := 18) rfl rfl ?_
          refine x_iret rfl rfl ?_
          show jX m_X12_isMention 8 0 0 27 [(0, .ref 125), (1, .int a1)] [.int 2, .int v10] _ 0 0 _
          refine x_icge (tgt := 34) rfl rfl (ti_ge rfl jk_2 ⟨fun c23 => ?_, fun c23 => ?_⟩)
          ·
            rw [if_pos (by omega)] at D
            refine x_iconst (v := 0) rfl ki_0 ?_
            refine x_zret rfl rfl (by decide) ?_
            show jX m_X12_soul 9 0 0 10 [(0, .ref 125), (1, .int a1), (2, .int a2)] [.int 0] _ 0 0 _
            refine x_ifeq (tgt := 20) rfl rfl (ti_eq jk_0 jk_0 (br_t (by omega) ?_))
            exact jX.sub jsb_n (ct_X12_soul_r125d_20 hD hQ  h J Sm D)
          ·
            rw [if_neg (by omega)] at D
            refine x_iconst (v := 1) rfl ki_1 ?_
            refine x_goto (tgt := 35) rfl rfl ?_
            refine x_zret rfl rfl (by decide) ?_
            show jX m_X12_soul 9 0 0 10 [(0, .ref 125), (1, .int a1), (2, .int a2)] [.int 1] _ 0 0 _
            refine x_ifeq (tgt := 20) rfl rfl (ti_eq jk_1 jk_0 (br_f (by omega) ?_))
            refine x_iloadn (x := a2) rfl rfl ?_
            refine x_inst (N := m_X12_isDay) (As := [.int a2]) (st := []) (dx9 := 2) (mc := 0) (ms := 0) (host := "") rfl t_X12_isDay ⟨Or.inl q_12_273, s_X12_isDay⟩ rfl (by decide) rfl rfl ⟨by decide, by decide⟩ (zc_X12_isDay (d := 1) rfl (fun v24 ev24 => ?_))
            show jX m_X12_soul 9 0 0 17 [(0, .ref 125), (1, .int a1), (2, .int a2)] [.int v24] _ 0 0 _
            refine x_ifne (tgt := 22) rfl rfl (ti_ne rfl jk_0 ⟨fun c25 => ?_, fun c25 => ?_⟩)
            ·
              rw [if_pos (by omega)] at D
              refine x_aloadn (x := 125) rfl rfl ?_
              refine x_iloadn (x := a2) rfl rfl ?_
              refine x_inv (N := m_X12_find) (As := [.int a2]) (b := 125) (st := []) (dx9 := 8) (mc := 0) (ms := 0) (host := "") 12 rfl t_X12_find ⟨Or.inl q_12_393, i_X12_find.1, i_X12_find.2⟩ ⟨by decide, rfl⟩ (congrArg Prod.fst (J.1.1 125 (12, 92) rfl)) rfl (by decide) rfl rfl ⟨by decide, by decide⟩ (sf_X12_find_r125d (jr_of rfl (by omega)) hD J rfl  (fun h J S26 X27 => ?_))
              have Sm := jSm_tr rfl Sm S26
              rw [X27] at D
              show jX m_X12_soul 9 0 0 27 [(0, .ref 125), (1, .int a1), (2, .int a2)] [] _ 0 0 _
              refine x_aloadn (x := 125) rfl rfl ?_
              refine z_getR (N := 92) (b := 139) 12 29 rfl f_12_72 rfl J rfl 16029 ⟨rfl, rfl⟩ rfl ?_
              refine x_iloadn (x := a1) rfl rfl ?_
              refine z_iald (N := 600) rfl J rfl sg_139_0_600_1_0_1 rfl (by omega) (fun v28 qv28 ev28 => ?_)
              try rw [vrd qv28 (show a1.toInt = a1.toInt from by omega)] at D
              refine x_iret rfl rfl ?_
              exact hQ _ _ (jr_of rfl (by omega)) J Sm ((congrArg Prod.fst D).symm.trans (show v28.toInt = v28.toInt from by omega)) (congrArg Prod.snd D).symm
            ·
              rw [if_neg (by omega)] at D
              exact jX.sub jsb_n (ct_X12_soul_r125d_20 hD hQ  h J Sm D)
      ·
        rw [if_pos (by omega)] at D
        refine x_iconst (v := 3) rfl ki_3 ?_
        refine x_goto (tgt := 18) rfl rfl ?_
        refine x_iret rfl rfl ?_
        show jX m_X12_isMention 8 0 0 27 [(0, .ref 125), (1, .int a1)] [.int 3, .int v10] _ 0 0 _
        refine x_icge (tgt := 34) rfl rfl (ti_ge rfl jk_3 (br_f (by omega) ?_))
        refine x_iconst (v := 1) rfl ki_1 ?_
        refine x_goto (tgt := 35) rfl rfl ?_
        refine x_zret rfl rfl (by decide) ?_
        show jX m_X12_soul 9 0 0 10 [(0, .ref 125), (1, .int a1), (2, .int a2)] [.int 1] _ 0 0 _
        refine x_ifeq (tgt := 20) rfl rfl (ti_eq jk_1 jk_0 (br_f (by omega) ?_))
        refine x_iloadn (x := a2) rfl rfl ?_
        refine x_inst (N := m_X12_isDay) (As := [.int a2]) (st := []) (dx9 := 2) (mc := 0) (ms := 0) (host := "") rfl t_X12_isDay ⟨Or.inl q_12_273, s_X12_isDay⟩ rfl (by decide) rfl rfl ⟨by decide, by decide⟩ (zc_X12_isDay (d := 1) rfl (fun v29 ev29 => ?_))
        show jX m_X12_soul 9 0 0 17 [(0, .ref 125), (1, .int a1), (2, .int a2)] [.int v29] _ 0 0 _
        refine x_ifne (tgt := 22) rfl rfl (ti_ne rfl jk_0 ⟨fun c30 => ?_, fun c30 => ?_⟩)
        ·
          rw [if_pos (by omega)] at D
          refine x_aloadn (x := 125) rfl rfl ?_
          refine x_iloadn (x := a2) rfl rfl ?_
          refine x_inv (N := m_X12_find) (As := [.int a2]) (b := 125) (st := []) (dx9 := 8) (mc := 0) (ms := 0) (host := "") 12 rfl t_X12_find ⟨Or.inl q_12_393, i_X12_find.1, i_X12_find.2⟩ ⟨by decide, rfl⟩ (congrArg Prod.fst (J.1.1 125 (12, 92) rfl)) rfl (by decide) rfl rfl ⟨by decide, by decide⟩ (sf_X12_find_r125d (jr_of rfl (by omega)) hD J rfl  (fun h J S31 X32 => ?_))
          have Sm := jSm_tr rfl Sm S31
          rw [X32] at D
          show jX m_X12_soul 9 0 0 27 [(0, .ref 125), (1, .int a1), (2, .int a2)] [] _ 0 0 _
          refine x_aloadn (x := 125) rfl rfl ?_
          refine z_getR (N := 92) (b := 139) 12 29 rfl f_12_72 rfl J rfl 16029 ⟨rfl, rfl⟩ rfl ?_
          refine x_iloadn (x := a1) rfl rfl ?_
          refine z_iald (N := 600) rfl J rfl sg_139_0_600_1_0_1 rfl (by omega) (fun v33 qv33 ev33 => ?_)
          try rw [vrd qv33 (show a1.toInt = a1.toInt from by omega)] at D
          refine x_iret rfl rfl ?_
          exact hQ _ _ (jr_of rfl (by omega)) J Sm ((congrArg Prod.fst D).symm.trans (show v33.toInt = v33.toInt from by omega)) (congrArg Prod.snd D).symm
        ·
          rw [if_neg (by omega)] at D
          exact jX.sub jsb_n (ct_X12_soul_r125d_20 hD hQ  h J Sm D)
def fp_X12_span_r125d : jFp := [(125, 0, 1), (125, 28, 29), (125, 31, 32), (125, 32, 33), (125, 33, 34), (125, 34, 35), (125, 35, 36), (125, 57, 58), (137, 0, 80), (138, 0, 2), (139, 0, 600), (140, 0, 200)]
set_option maxRecDepth 100000 in
set_option maxHeartbeats 4000000 in
theorem ct_X12_span_r125d_31 {Dy : jH → Prop} {h0 : jH} {Q : Option Value → jH → Prop} {dr : (Int × jW)} (hD : jDk Dy) (hQ : ∀ (v : Int32) hx9, jJ jSgM Dy hx9 → jSm fp_X12_span_r125d h0 hx9 → dr.1 = v.toInt → dr.2 = vw hx9 → Q (some (.int v)) hx9) : ∀ (h : jH), jJ jSgM Dy h → jSm fp_X12_span_r125d h0 h → d_X12_span_r125d_31  (vw h) = dr → jX m_X12_span 10 0 0 31 [] [] h 0 0 Q := by
  intro  h    J Sm D
  unfold d_X12_span_r125d_31 at D
  refine x_iconst (v := (-1)) rfl ki_m1 ?_
  refine x_iret rfl rfl ?_
  exact hQ _ _ J Sm ((congrArg Prod.fst D).symm.trans (show (-1) = ((-1) : Int32).toInt from by have := jk_m1; omega)) (congrArg Prod.snd D).symm
set_option maxRecDepth 100000 in
set_option maxHeartbeats 4000000 in
theorem ct_X12_span_r125d_78 {Dy : jH → Prop} {h0 : jH} {Q : Option Value → jH → Prop} {dr : (Int × jW)} (hD : jDk Dy) (hQ : ∀ (v : Int32) hx9, jJ jSgM Dy hx9 → jSm fp_X12_span_r125d h0 hx9 → dr.1 = v.toInt → dr.2 = vw hx9 → Q (some (.int v)) hx9) : ∀ (s0 : Int32) (h : jH), jJ jSgM Dy h → jSm fp_X12_span_r125d h0 h → d_X12_span_r125d_78  s0.toInt (vw h) = dr → jX m_X12_span 10 0 0 78 [] [.int s0] h 0 0 Q := by
  intro s0 h    J Sm D
  have es0 := jfull s0
  unfold d_X12_span_r125d_78 at D
  refine x_iret rfl rfl ?_
  exact hQ _ _ J Sm ((congrArg Prod.fst D).symm.trans (show s0.toInt = s0.toInt from by omega)) (congrArg Prod.snd D).symm
set_option maxRecDepth 100000 in
set_option maxHeartbeats 4000000 in
theorem sf_X12_span_r125d {Dy : jH → Prop} {h : jH} {Q : Option Value → jH → Prop} {dr : (Int × jW)} {a1 : Int32} {a2 : Int32} {a3 : Int32} (hD : jDk Dy) (J : jJ jSgM Dy h) (D : d_X12_span_r125d a1.toInt a2.toInt a3.toInt (vw h) = dr) (hQ : ∀ (v : Int32) hx9, jJ jSgM Dy hx9 → jSm fp_X12_span_r125d h hx9 → dr.1 = v.toInt → dr.2 = vw hx9 → Q (some (.int v)) hx9) : jC m_X12_span 10 0 0 [.ref 125, .int a1, .int a2, .int a3] h Q := by
  refine jC.of rfl k_X12_span rfl ?_
  have Sm := jSm_rf fp_X12_span_r125d h
  have ea1 := jfull a1
  have ea2 := jfull a2
  have ea3 := jfull a3
  show jX m_X12_span 10 0 0 0 [(0, .ref 125), (1, .int a1), (2, .int a2), (3, .int a3)] [] _ 0 0 _
  unfold d_X12_span_r125d at D
  refine x_aloadn (x := 125) rfl rfl ?_
  refine x_iconst (v := 0) rfl ki_0 ?_
  refine z_putI (N := 92) (w := 0) 12 0 rfl f_12_180 rfl (jfin_no TX12 RX12 92 rfl rfl) hD J Sm rfl rfl jk_0 (pw_125_0 (by omega)) rfl (fun h w1 J Sm => ?_)
  rw [vwf w1 (show 0 = (0 : Int32).toInt from by have := jk_0; omega)] at D
  refine x_aloadn (x := 125) rfl rfl ?_
  refine x_iloadn (x := a1) rfl rfl ?_
  refine x_iloadn (x := a2) rfl rfl ?_
  refine x_inv (N := m_X12_soulAt) (As := [.int a1, .int a2]) (b := 125) (st := []) (dx9 := 9) (mc := 0) (ms := 0) (host := "") 12 rfl t_X12_soulAt ⟨Or.inl q_12_399, i_X12_soulAt.1, i_X12_soulAt.2⟩ ⟨by decide, rfl⟩ (congrArg Prod.fst (J.1.1 125 (12, 92) rfl)) rfl (by decide) rfl rfl ⟨by decide, by decide⟩ (jC.of rfl k_X12_soulAt rfl ?_)
  show jX m_X12_soulAt 9 0 0 0 [(0, .ref 125), (1, .int a1), (2, .int a2)] [] _ 0 0 _
  refine x_aloadn (x := 125) rfl rfl ?_
  refine x_iloadn (x := a1) rfl rfl ?_
  refine x_inv (N := m_X12_isMention) (As := [.int a1]) (b := 125) (st := []) (dx9 := 8) (mc := 0) (ms := 0) (host := "") 12 rfl t_X12_isMention ⟨Or.inl q_12_322, i_X12_isMention.1, i_X12_isMention.2⟩ ⟨by decide, rfl⟩ (congrArg Prod.fst (J.1.1 125 (12, 92) rfl)) rfl (by decide) rfl rfl ⟨by decide, by decide⟩ (jC.of rfl k_X12_isMention rfl ?_)
  show jX m_X12_isMention 8 0 0 0 [(0, .ref 125), (1, .int a1)] [] _ 0 0 _
  refine x_iloadn (x := a1) rfl rfl ?_
  refine x_iflt (tgt := 34) rfl rfl (ti_lt rfl jk_0 ⟨fun c2 => ?_, fun c2 => ?_⟩)
  ·
    rw [if_pos (by omega)] at D
    refine x_iconst (v := 0) rfl ki_0 ?_
    refine x_zret rfl rfl (by decide) ?_
    show jX m_X12_soulAt 9 0 0 5 [(0, .ref 125), (1, .int a1), (2, .int a2)] [.int 0] _ 0 0 _
    refine x_ifeq (tgt := 15) rfl rfl (ti_eq jk_0 jk_0 (br_t (by omega) ?_))
    refine x_iconst (v := (-1)) rfl ki_m1 ?_
    refine x_iret rfl rfl ?_
    show jX m_X12_span 10 0 0 11 [(0, .ref 125), (1, .int a1), (2, .int a2), (3, .int a3)] [.int (-1)] _ 0 0 _
    refine x_istore (lsx9 := [(4, .int (-1)), (0, .ref 125), (1, .int a1), (2, .int a2), (3, .int a3)]) rfl rfl rfl ?_
    refine x_iload (x := (-1)) rfl rfl ?_
    refine x_iconst (v := (-1)) rfl ki_m1 ?_
    refine x_iceq (tgt := 31) rfl rfl (ti_eq jk_m1 jk_m1 (br_t (by omega) ?_))
    exact jX.sub jsb_n (ct_X12_span_r125d_31 hD hQ  h J Sm D)
  ·
    rw [if_neg (by omega)] at D
    refine x_aloadn (x := 125) rfl rfl ?_
    refine x_iloadn (x := a1) rfl rfl ?_
    refine x_iconst (v := 3) rfl ki_3 ?_
    refine z_idiv rfl rfl jk_3 (by omega) (by omega) (fun v3 ev3 => ?_)
    refine x_inv (N := m_X12_isLine) (As := [.int v3]) (b := 125) (st := []) (dx9 := 7) (mc := 0) (ms := 0) (host := "") 12 rfl t_X12_isLine ⟨Or.inl q_12_293, i_X12_isLine.1, i_X12_isLine.2⟩ ⟨by decide, rfl⟩ (congrArg Prod.fst (J.1.1 125 (12, 92) rfl)) rfl (by decide) rfl rfl ⟨by decide, by decide⟩ (jC.of rfl k_X12_isLine rfl ?_)
    show jX m_X12_isLine 7 0 0 0 [(0, .ref 125), (1, .int v3)] [] _ 0 0 _
    refine x_iloadn (x := v3) rfl rfl ?_
    refine z_i2l rfl rfl (fun v4 ev4 => ?_)
    refine x_lconst (v := 0) rfl kl_0 ?_
    refine x_aloadn (x := 125) rfl rfl ?_
    refine z_getR (N := 92) (b := 126) 12 2 rfl f_12_8 rfl J rfl 16002 ⟨rfl, rfl⟩ rfl ?_
    refine x_iconst (v := 0) rfl ki_0 ?_
    refine z_iald (N := 50660) rfl J rfl sg_126_0_1_1_0_1 jk_0 (by omega) (fun v5 qv5 ev5 => ?_)
    try rw [vrn (n := 0) (by decide) (jmb_w w1 qv5 rfl)] at D
    refine z_i2l rfl rfl (fun v6 ev6 => ?_)
    refine x_lconst (v := 1) rfl kl_1 ?_
    refine z_lsub rfl rfl jkl_1 (by omega) (fun v7 ev7 => ?_)
    refine x_inst (N := m_X12_in) (As := [.long v4, .long 0, .long v7]) (st := []) (dx9 := 1) (mc := 0) (ms := 0) (host := "") rfl t_X12_in ⟨Or.inl q_12_188, s_X12_in⟩ rfl (by decide) rfl rfl ⟨by decide, by decide⟩ (zc_X12_in rfl jkl_0 rfl (fun v8 ev8 => ?_))
    show jX m_X12_isLine 7 0 0 15 [(0, .ref 125), (1, .int v3)] [.int v8] _ 0 0 _
    refine x_zret rfl rfl (jz01 (by omega)) ?_
    show jX m_X12_isMention 8 0 0 11 [(0, .ref 125), (1, .int a1)] [.int v8] _ 0 0 _
    refine x_ifeq (tgt := 34) rfl rfl (ti_eq rfl jk_0 ⟨fun c9 => ?_, fun c9 => ?_⟩)
    ·
      rw [if_neg (by omega)] at D
      refine x_iconst (v := 0) rfl ki_0 ?_
      refine x_zret rfl rfl (by decide) ?_
      show jX m_X12_soulAt 9 0 0 5 [(0, .ref 125), (1, .int a1), (2, .int a2)] [.int 0] _ 0 0 _
      refine x_ifeq (tgt := 15) rfl rfl (ti_eq jk_0 jk_0 (br_t (by omega) ?_))
      refine x_iconst (v := (-1)) rfl ki_m1 ?_
      refine x_iret rfl rfl ?_
      show jX m_X12_span 10 0 0 11 [(0, .ref 125), (1, .int a1), (2, .int a2), (3, .int a3)] [.int (-1)] _ 0 0 _
      refine x_istore (lsx9 := [(4, .int (-1)), (0, .ref 125), (1, .int a1), (2, .int a2), (3, .int a3)]) rfl rfl rfl ?_
      refine x_iload (x := (-1)) rfl rfl ?_
      refine x_iconst (v := (-1)) rfl ki_m1 ?_
      refine x_iceq (tgt := 31) rfl rfl (ti_eq jk_m1 jk_m1 (br_t (by omega) ?_))
      exact jX.sub jsb_n (ct_X12_span_r125d_31 hD hQ  h J Sm D)
    ·
      rw [if_pos (by omega)] at D
      refine x_iloadn (x := a1) rfl rfl ?_
      refine x_iconst (v := 3) rfl ki_3 ?_
      refine z_irem rfl rfl jk_3 (by omega) (by omega) (fun v10 ev10 => ?_)
      refine x_aloadn (x := 125) rfl rfl ?_
      refine x_iloadn (x := a1) rfl rfl ?_
      refine x_iconst (v := 3) rfl ki_3 ?_
      refine z_idiv rfl rfl jk_3 (by omega) (by omega) (fun v11 ev11 => ?_)
      refine x_inv (N := m_X12_bookOf) (As := [.int v11]) (b := 125) (st := [.int v10]) (dx9 := 7) (mc := 0) (ms := 0) (host := "") 12 rfl t_X12_bookOf ⟨Or.inl q_12_299, i_X12_bookOf.1, i_X12_bookOf.2⟩ ⟨by decide, rfl⟩ (congrArg Prod.fst (J.1.1 125 (12, 92) rfl)) rfl (by decide) rfl rfl ⟨by decide, by decide⟩ (jC.of rfl k_X12_bookOf rfl ?_)
      show jX m_X12_bookOf 7 0 0 0 [(0, .ref 125), (1, .int v11)] [] _ 0 0 _
      refine x_aloadn (x := 125) rfl rfl ?_
      refine z_getR (N := 92) (b := 126) 12 2 rfl f_12_8 rfl J rfl 16002 ⟨rfl, rfl⟩ rfl ?_
      refine x_aloadn (x := 125) rfl rfl ?_
      refine x_iloadn (x := v11) rfl rfl ?_
      refine x_inv (N := m_X12_at) (As := [.int v11]) (b := 125) (st := [.ref 126]) (dx9 := 6) (mc := 0) (ms := 0) (host := "") 12 rfl t_X12_at ⟨Or.inl q_12_254, i_X12_at.1, i_X12_at.2⟩ ⟨by decide, rfl⟩ (congrArg Prod.fst (J.1.1 125 (12, 92) rfl)) rfl (by decide) rfl rfl ⟨by decide, by decide⟩ (jC.of rfl k_X12_at rfl ?_)
      show jX m_X12_at 6 0 0 0 [(0, .ref 125), (1, .int v11)] [] _ 0 0 _
      refine x_bipush (v := 20) rfl kb_20 ?_
      refine x_bipush (v := 90) rfl kb_90 ?_
      refine x_iloadn (x := v11) rfl rfl ?_
      refine z_imul rfl jk_90 rfl (by omega) (fun v12 ev12 => ?_)
      refine z_iadd rfl jk_20 rfl (by omega) (fun v13 ev13 => ?_)
      refine x_iret rfl rfl ?_
      show jX m_X12_bookOf 7 0 0 9 [(0, .ref 125), (1, .int v11)] [.int v13, .ref 126] _ 0 0 _
      refine z_iald (N := 50660) rfl J rfl sg_126_20_18020_90_0_1 rfl (by omega) (fun v14 qv14 ev14 => ?_)
      try rw [vrd (jmb_w w1 qv14 rfl) (show (20 + (90 * (a1.toInt / 3))) = v13.toInt from by omega)] at D
      refine x_iret rfl rfl ?_
      show jX m_X12_isMention 8 0 0 24 [(0, .ref 125), (1, .int a1)] [.int v14, .int v10] _ 0 0 _
      refine x_inst (N := m_X12_rolesOf) (As := [.int v14]) (st := [.int v10]) (dx9 := 7) (mc := 0) (ms := 0) (host := "") rfl t_X12_rolesOf ⟨Or.inl q_12_286, s_X12_rolesOf⟩ rfl (by decide) rfl rfl ⟨by decide, by decide⟩ (jC.of rfl k_X12_rolesOf rfl ?_)
      show jX m_X12_rolesOf 7 0 0 0 [(0, .int v14)] [] _ 0 0 _
      refine x_iloadn (x := v14) rfl rfl ?_
      refine x_ifne (tgt := 8) rfl rfl (ti_ne rfl jk_0 ⟨fun c15 => ?_, fun c15 => ?_⟩)
      ·
        rw [if_neg (by omega)] at D
        refine x_iloadn (x := v14) rfl rfl ?_
        refine x_iconst (v := 1) rfl ki_1 ?_
        refine x_icne (tgt := 17) rfl rfl (ti_ne rfl jk_1 ⟨fun c16 => ?_, fun c16 => ?_⟩)
        ·
          rw [if_neg (by omega)] at D
          refine x_iconst (v := 1) rfl ki_1 ?_
          refine x_iret rfl rfl ?_
          show jX m_X12_isMention 8 0 0 27 [(0, .ref 125), (1, .int a1)] [.int 1, .int v10] _ 0 0 _
          refine x_icge (tgt := 34) rfl rfl (ti_ge rfl jk_1 ⟨fun c17 => ?_, fun c17 => ?_⟩)
          ·
            rw [if_pos (by omega)] at D
            refine x_iconst (v := 0) rfl ki_0 ?_
            refine x_zret rfl rfl (by decide) ?_
            show jX m_X12_soulAt 9 0 0 5 [(0, .ref 125), (1, .int a1), (2, .int a2)] [.int 0] _ 0 0 _
            refine x_ifeq (tgt := 15) rfl rfl (ti_eq jk_0 jk_0 (br_t (by omega) ?_))
            refine x_iconst (v := (-1)) rfl ki_m1 ?_
            refine x_iret rfl rfl ?_
            show jX m_X12_span 10 0 0 11 [(0, .ref 125), (1, .int a1), (2, .int a2), (3, .int a3)] [.int (-1)] _ 0 0 _
            refine x_istore (lsx9 := [(4, .int (-1)), (0, .ref 125), (1, .int a1), (2, .int a2), (3, .int a3)]) rfl rfl rfl ?_
            refine x_iload (x := (-1)) rfl rfl ?_
            refine x_iconst (v := (-1)) rfl ki_m1 ?_
            refine x_iceq (tgt := 31) rfl rfl (ti_eq jk_m1 jk_m1 (br_t (by omega) ?_))
            exact jX.sub jsb_n (ct_X12_span_r125d_31 hD hQ  h J Sm D)
          ·
            rw [if_neg (by omega)] at D
            refine x_iconst (v := 1) rfl ki_1 ?_
            refine x_goto (tgt := 35) rfl rfl ?_
            refine x_zret rfl rfl (by decide) ?_
            show jX m_X12_soulAt 9 0 0 5 [(0, .ref 125), (1, .int a1), (2, .int a2)] [.int 1] _ 0 0 _
            refine x_ifeq (tgt := 15) rfl rfl (ti_eq jk_1 jk_0 (br_f (by omega) ?_))
            refine x_iloadn (x := a2) rfl rfl ?_
            refine x_inst (N := m_X12_isDay) (As := [.int a2]) (st := []) (dx9 := 2) (mc := 0) (ms := 0) (host := "") rfl t_X12_isDay ⟨Or.inl q_12_273, s_X12_isDay⟩ rfl (by decide) rfl rfl ⟨by decide, by decide⟩ (zc_X12_isDay (d := 1) rfl (fun v18 ev18 => ?_))
            show jX m_X12_soulAt 9 0 0 12 [(0, .ref 125), (1, .int a1), (2, .int a2)] [.int v18] _ 0 0 _
            refine x_ifne (tgt := 17) rfl rfl (ti_ne rfl jk_0 ⟨fun c19 => ?_, fun c19 => ?_⟩)
            ·
              rw [if_pos (by omega)] at D
              refine x_aloadn (x := 125) rfl rfl ?_
              refine x_iloadn (x := a2) rfl rfl ?_
              refine x_inv (N := m_X12_find) (As := [.int a2]) (b := 125) (st := []) (dx9 := 8) (mc := 0) (ms := 0) (host := "") 12 rfl t_X12_find ⟨Or.inl q_12_393, i_X12_find.1, i_X12_find.2⟩ ⟨by decide, rfl⟩ (congrArg Prod.fst (J.1.1 125 (12, 92) rfl)) rfl (by decide) rfl rfl ⟨by decide, by decide⟩ (sf_X12_find_r125d (jr_of rfl (by omega)) hD J rfl  (fun h J S20 X21 => ?_))
              have Sm := jSm_tr rfl Sm S20
              rw [X21] at D
              show jX m_X12_soulAt 9 0 0 22 [(0, .ref 125), (1, .int a1), (2, .int a2)] [] _ 0 0 _
              refine x_aloadn (x := 125) rfl rfl ?_
              refine z_getR (N := 92) (b := 139) 12 29 rfl f_12_72 rfl J rfl 16029 ⟨rfl, rfl⟩ rfl ?_
              refine x_iloadn (x := a1) rfl rfl ?_
              refine z_iald (N := 600) rfl J rfl sg_139_0_600_1_0_1 rfl (by omega) (fun v22 qv22 ev22 => ?_)
              try rw [vrd qv22 (show a1.toInt = a1.toInt from by omega)] at D
              refine x_iret rfl rfl ?_
              show jX m_X12_span 10 0 0 11 [(0, .ref 125), (1, .int a1), (2, .int a2), (3, .int a3)] [.int v22] _ 0 0 _
              refine x_istore (lsx9 := [(4, .int v22), (0, .ref 125), (1, .int a1), (2, .int a2), (3, .int a3)]) rfl rfl rfl ?_
              refine x_iload (x := v22) rfl rfl ?_
              refine x_iconst (v := (-1)) rfl ki_m1 ?_
              refine x_iceq (tgt := 31) rfl rfl (ti_eq rfl jk_m1 ⟨fun c23 => ?_, fun c23 => ?_⟩)
              ·
                rw [if_pos (by omega)] at D
                exact jX.sub jsb_n (ct_X12_span_r125d_31 hD hQ  h J Sm D)
              ·
                rw [if_neg (by omega)] at D
                refine x_iloadn (x := a3) rfl rfl ?_
                refine z_i2l rfl rfl (fun v24 ev24 => ?_)
                refine x_lconst (v := 0) rfl kl_0 ?_
                refine x_ldc2 (v := 3) rfl z_12_195 ?_
                refine x_inst (N := m_X12_in) (As := [.long v24, .long 0, .long 3]) (st := []) (dx9 := 1) (mc := 0) (ms := 0) (host := "") rfl t_X12_in ⟨Or.inl q_12_188, s_X12_in⟩ rfl (by decide) rfl rfl ⟨by decide, by decide⟩ (zc_X12_in rfl jkl_0 jkl_3 (fun v25 ev25 => ?_))
                show jX m_X12_span 10 0 0 28 [(4, .int v22), (0, .ref 125), (1, .int a1), (2, .int a2), (3, .int a3)] [.int v25] _ 0 0 _
                refine x_ifne (tgt := 33) rfl rfl (ti_ne rfl jk_0 ⟨fun c26 => ?_, fun c26 => ?_⟩)
                ·
                  rw [if_pos (by omega)] at D
                  refine x_aloadn (x := 125) rfl rfl ?_
                  refine x_iload (x := v22) rfl rfl ?_
                  refine x_inv (N := m_X12_findSpan) (As := [.int v22]) (b := 125) (st := []) (dx9 := 6) (mc := 0) (ms := 0) (host := "") 12 rfl t_X12_findSpan ⟨Or.inl q_12_437, i_X12_findSpan.1, i_X12_findSpan.2⟩ ⟨by decide, rfl⟩ (congrArg Prod.fst (J.1.1 125 (12, 92) rfl)) rfl (by decide) rfl rfl ⟨by decide, by decide⟩ (sf_X12_findSpan_r125d (jr_of rfl (by omega)) hD J rfl  (fun h J S27 X28 => ?_))
                  have Sm := jSm_tr rfl Sm S27
                  rw [X28] at D
                  show jX m_X12_span 10 0 0 39 [(4, .int v22), (0, .ref 125), (1, .int a1), (2, .int a2), (3, .int a3)] [] _ 0 0 _
                  refine x_iloadn (x := a3) rfl rfl ?_
                  refine x_ifne (tgt := 50) rfl rfl (ti_ne rfl jk_0 ⟨fun c29 => ?_, fun c29 => ?_⟩)
                  ·
                    rw [if_neg (by omega)] at D
                    refine x_iloadn (x := a3) rfl rfl ?_
                    refine x_iconst (v := 1) rfl ki_1 ?_
                    refine x_icne (tgt := 62) rfl rfl (ti_ne rfl jk_1 ⟨fun c30 => ?_, fun c30 => ?_⟩)
                    ·
                      rw [if_neg (by omega)] at D
                      refine x_iloadn (x := a3) rfl rfl ?_
                      refine x_iconst (v := 2) rfl ki_2 ?_
                      refine x_icne (tgt := 74) rfl rfl (ti_ne rfl jk_2 ⟨fun c31 => ?_, fun c31 => ?_⟩)
                      ·
                        rw [if_neg (by omega)] at D
                        refine x_aloadn (x := 125) rfl rfl ?_
                        refine z_getI (N := 92) 12 35 rfl f_12_421 rfl J rfl sg_125_35_36_1_0_1 (fun v32 qv32 ev32 => ?_)
                        try rw [vrf qv32] at D
                        exact jX.sub jsb_n (ct_X12_span_r125d_78 hD hQ  v32 h J Sm D)
                      ·
                        rw [if_pos (by omega)] at D
                        refine x_aloadn (x := 125) rfl rfl ?_
                        refine z_getI (N := 92) 12 34 rfl f_12_418 rfl J rfl sg_125_34_35_1_0_1 (fun v33 qv33 ev33 => ?_)
                        try rw [vrf qv33] at D
                        refine x_goto (tgt := 78) rfl rfl ?_
                        exact jX.sub jsb_n (ct_X12_span_r125d_78 hD hQ  v33 h J Sm D)
                    ·
                      rw [if_pos (by omega)] at D
                      refine x_aloadn (x := 125) rfl rfl ?_
                      refine z_getI (N := 92) 12 33 rfl f_12_415 rfl J rfl sg_125_33_34_1_0_1 (fun v34 qv34 ev34 => ?_)
                      try rw [vrf qv34] at D
                      refine x_goto (tgt := 78) rfl rfl ?_
                      exact jX.sub jsb_n (ct_X12_span_r125d_78 hD hQ  v34 h J Sm D)
                  ·
                    rw [if_pos (by omega)] at D
                    refine x_aloadn (x := 125) rfl rfl ?_
                    refine z_getI (N := 92) 12 32 rfl f_12_412 rfl J rfl sg_125_32_33_1_0_1 (fun v35 qv35 ev35 => ?_)
                    try rw [vrf qv35] at D
                    refine x_goto (tgt := 78) rfl rfl ?_
                    exact jX.sub jsb_n (ct_X12_span_r125d_78 hD hQ  v35 h J Sm D)
                ·
                  rw [if_neg (by omega)] at D
                  exact jX.sub jsb_n (ct_X12_span_r125d_31 hD hQ  h J Sm D)
            ·
              rw [if_neg (by omega)] at D
              refine x_iconst (v := (-1)) rfl ki_m1 ?_
              refine x_iret rfl rfl ?_
              show jX m_X12_span 10 0 0 11 [(0, .ref 125), (1, .int a1), (2, .int a2), (3, .int a3)] [.int (-1)] _ 0 0 _
              refine x_istore (lsx9 := [(4, .int (-1)), (0, .ref 125), (1, .int a1), (2, .int a2), (3, .int a3)]) rfl rfl rfl ?_
              refine x_iload (x := (-1)) rfl rfl ?_
              refine x_iconst (v := (-1)) rfl ki_m1 ?_
              refine x_iceq (tgt := 31) rfl rfl (ti_eq jk_m1 jk_m1 (br_t (by omega) ?_))
              exact jX.sub jsb_n (ct_X12_span_r125d_31 hD hQ  h J Sm D)
        ·
          rw [if_pos (by omega)] at D
          refine x_iconst (v := 2) rfl ki_2 ?_
          refine x_goto (tgt := 18) rfl rfl ?_
          refine x_iret rfl rfl ?_
          show jX m_X12_isMention 8 0 0 27 [(0, .ref 125), (1, .int a1)] [.int 2, .int v10] _ 0 0 _
          refine x_icge (tgt := 34) rfl rfl (ti_ge rfl jk_2 ⟨fun c36 => ?_, fun c36 => ?_⟩)
          ·
            rw [if_pos (by omega)] at D
            refine x_iconst (v := 0) rfl ki_0 ?_
            refine x_zret rfl rfl (by decide) ?_
            show jX m_X12_soulAt 9 0 0 5 [(0, .ref 125), (1, .int a1), (2, .int a2)] [.int 0] _ 0 0 _
            refine x_ifeq (tgt := 15) rfl rfl (ti_eq jk_0 jk_0 (br_t (by omega) ?_))
            refine x_iconst (v := (-1)) rfl ki_m1 ?_
            refine x_iret rfl rfl ?_
            show jX m_X12_span 10 0 0 11 [(0, .ref 125), (1, .int a1), (2, .int a2), (3, .int a3)] [.int (-1)] _ 0 0 _
            refine x_istore (lsx9 := [(4, .int (-1)), (0, .ref 125), (1, .int a1), (2, .int a2), (3, .int a3)]) rfl rfl rfl ?_
            refine x_iload (x := (-1)) rfl rfl ?_
            refine x_iconst (v := (-1)) rfl ki_m1 ?_
            refine x_iceq (tgt := 31) rfl rfl (ti_eq jk_m1 jk_m1 (br_t (by omega) ?_))
            exact jX.sub jsb_n (ct_X12_span_r125d_31 hD hQ  h J Sm D)
          ·
            rw [if_neg (by omega)] at D
            refine x_iconst (v := 1) rfl ki_1 ?_
            refine x_goto (tgt := 35) rfl rfl ?_
            refine x_zret rfl rfl (by decide) ?_
            show jX m_X12_soulAt 9 0 0 5 [(0, .ref 125), (1, .int a1), (2, .int a2)] [.int 1] _ 0 0 _
            refine x_ifeq (tgt := 15) rfl rfl (ti_eq jk_1 jk_0 (br_f (by omega) ?_))
            refine x_iloadn (x := a2) rfl rfl ?_
            refine x_inst (N := m_X12_isDay) (As := [.int a2]) (st := []) (dx9 := 2) (mc := 0) (ms := 0) (host := "") rfl t_X12_isDay ⟨Or.inl q_12_273, s_X12_isDay⟩ rfl (by decide) rfl rfl ⟨by decide, by decide⟩ (zc_X12_isDay (d := 1) rfl (fun v37 ev37 => ?_))
            show jX m_X12_soulAt 9 0 0 12 [(0, .ref 125), (1, .int a1), (2, .int a2)] [.int v37] _ 0 0 _
            refine x_ifne (tgt := 17) rfl rfl (ti_ne rfl jk_0 ⟨fun c38 => ?_, fun c38 => ?_⟩)
            ·
              rw [if_pos (by omega)] at D
              refine x_aloadn (x := 125) rfl rfl ?_
              refine x_iloadn (x := a2) rfl rfl ?_
              refine x_inv (N := m_X12_find) (As := [.int a2]) (b := 125) (st := []) (dx9 := 8) (mc := 0) (ms := 0) (host := "") 12 rfl t_X12_find ⟨Or.inl q_12_393, i_X12_find.1, i_X12_find.2⟩ ⟨by decide, rfl⟩ (congrArg Prod.fst (J.1.1 125 (12, 92) rfl)) rfl (by decide) rfl rfl ⟨by decide, by decide⟩ (sf_X12_find_r125d (jr_of rfl (by omega)) hD J rfl  (fun h J S39 X40 => ?_))
              have Sm := jSm_tr rfl Sm S39
              rw [X40] at D
              show jX m_X12_soulAt 9 0 0 22 [(0, .ref 125), (1, .int a1), (2, .int a2)] [] _ 0 0 _
              refine x_aloadn (x := 125) rfl rfl ?_
              refine z_getR (N := 92) (b := 139) 12 29 rfl f_12_72 rfl J rfl 16029 ⟨rfl, rfl⟩ rfl ?_
              refine x_iloadn (x := a1) rfl rfl ?_
              refine z_iald (N := 600) rfl J rfl sg_139_0_600_1_0_1 rfl (by omega) (fun v41 qv41 ev41 => ?_)
              try rw [vrd qv41 (show a1.toInt = a1.toInt from by omega)] at D
              refine x_iret rfl rfl ?_
              show jX m_X12_span 10 0 0 11 [(0, .ref 125), (1, .int a1), (2, .int a2), (3, .int a3)] [.int v41] _ 0 0 _
              refine x_istore (lsx9 := [(4, .int v41), (0, .ref 125), (1, .int a1), (2, .int a2), (3, .int a3)]) rfl rfl rfl ?_
              refine x_iload (x := v41) rfl rfl ?_
              refine x_iconst (v := (-1)) rfl ki_m1 ?_
              refine x_iceq (tgt := 31) rfl rfl (ti_eq rfl jk_m1 ⟨fun c42 => ?_, fun c42 => ?_⟩)
              ·
                rw [if_pos (by omega)] at D
                exact jX.sub jsb_n (ct_X12_span_r125d_31 hD hQ  h J Sm D)
              ·
                rw [if_neg (by omega)] at D
                refine x_iloadn (x := a3) rfl rfl ?_
                refine z_i2l rfl rfl (fun v43 ev43 => ?_)
                refine x_lconst (v := 0) rfl kl_0 ?_
                refine x_ldc2 (v := 3) rfl z_12_195 ?_
                refine x_inst (N := m_X12_in) (As := [.long v43, .long 0, .long 3]) (st := []) (dx9 := 1) (mc := 0) (ms := 0) (host := "") rfl t_X12_in ⟨Or.inl q_12_188, s_X12_in⟩ rfl (by decide) rfl rfl ⟨by decide, by decide⟩ (zc_X12_in rfl jkl_0 jkl_3 (fun v44 ev44 => ?_))
                show jX m_X12_span 10 0 0 28 [(4, .int v41), (0, .ref 125), (1, .int a1), (2, .int a2), (3, .int a3)] [.int v44] _ 0 0 _
                refine x_ifne (tgt := 33) rfl rfl (ti_ne rfl jk_0 ⟨fun c45 => ?_, fun c45 => ?_⟩)
                ·
                  rw [if_pos (by omega)] at D
                  refine x_aloadn (x := 125) rfl rfl ?_
                  refine x_iload (x := v41) rfl rfl ?_
                  refine x_inv (N := m_X12_findSpan) (As := [.int v41]) (b := 125) (st := []) (dx9 := 6) (mc := 0) (ms := 0) (host := "") 12 rfl t_X12_findSpan ⟨Or.inl q_12_437, i_X12_findSpan.1, i_X12_findSpan.2⟩ ⟨by decide, rfl⟩ (congrArg Prod.fst (J.1.1 125 (12, 92) rfl)) rfl (by decide) rfl rfl ⟨by decide, by decide⟩ (sf_X12_findSpan_r125d (jr_of rfl (by omega)) hD J rfl  (fun h J S46 X47 => ?_))
                  have Sm := jSm_tr rfl Sm S46
                  rw [X47] at D
                  show jX m_X12_span 10 0 0 39 [(4, .int v41), (0, .ref 125), (1, .int a1), (2, .int a2), (3, .int a3)] [] _ 0 0 _
                  refine x_iloadn (x := a3) rfl rfl ?_
                  refine x_ifne (tgt := 50) rfl rfl (ti_ne rfl jk_0 ⟨fun c48 => ?_, fun c48 => ?_⟩)
                  ·
                    rw [if_neg (by omega)] at D
                    refine x_iloadn (x := a3) rfl rfl ?_
                    refine x_iconst (v := 1) rfl ki_1 ?_
                    refine x_icne (tgt := 62) rfl rfl (ti_ne rfl jk_1 ⟨fun c49 => ?_, fun c49 => ?_⟩)
                    ·
                      rw [if_neg (by omega)] at D
                      refine x_iloadn (x := a3) rfl rfl ?_
                      refine x_iconst (v := 2) rfl ki_2 ?_
                      refine x_icne (tgt := 74) rfl rfl (ti_ne rfl jk_2 ⟨fun c50 => ?_, fun c50 => ?_⟩)
                      ·
                        rw [if_neg (by omega)] at D
                        refine x_aloadn (x := 125) rfl rfl ?_
                        refine z_getI (N := 92) 12 35 rfl f_12_421 rfl J rfl sg_125_35_36_1_0_1 (fun v51 qv51 ev51 => ?_)
                        try rw [vrf qv51] at D
                        exact jX.sub jsb_n (ct_X12_span_r125d_78 hD hQ  v51 h J Sm D)
                      ·
                        rw [if_pos (by omega)] at D
                        refine x_aloadn (x := 125) rfl rfl ?_
                        refine z_getI (N := 92) 12 34 rfl f_12_418 rfl J rfl sg_125_34_35_1_0_1 (fun v52 qv52 ev52 => ?_)
                        try rw [vrf qv52] at D
                        refine x_goto (tgt := 78) rfl rfl ?_
                        exact jX.sub jsb_n (ct_X12_span_r125d_78 hD hQ  v52 h J Sm D)
                    ·
                      rw [if_pos (by omega)] at D
                      refine x_aloadn (x := 125) rfl rfl ?_
                      refine z_getI (N := 92) 12 33 rfl f_12_415 rfl J rfl sg_125_33_34_1_0_1 (fun v53 qv53 ev53 => ?_)
                      try rw [vrf qv53] at D
                      refine x_goto (tgt := 78) rfl rfl ?_
                      exact jX.sub jsb_n (ct_X12_span_r125d_78 hD hQ  v53 h J Sm D)
                  ·
                    rw [if_pos (by omega)] at D
                    refine x_aloadn (x := 125) rfl rfl ?_
                    refine z_getI (N := 92) 12 32 rfl f_12_412 rfl J rfl sg_125_32_33_1_0_1 (fun v54 qv54 ev54 => ?_)
                    try rw [vrf qv54] at D
                    refine x_goto (tgt := 78) rfl rfl ?_
                    exact jX.sub jsb_n (ct_X12_span_r125d_78 hD hQ  v54 h J Sm D)
                ·
                  rw [if_neg (by omega)] at D
                  exact jX.sub jsb_n (ct_X12_span_r125d_31 hD hQ  h J Sm D)
            ·
              rw [if_neg (by omega)] at D
              refine x_iconst (v := (-1)) rfl ki_m1 ?_
              refine x_iret rfl rfl ?_
              show jX m_X12_span 10 0 0 11 [(0, .ref 125), (1, .int a1), (2, .int a2), (3, .int a3)] [.int (-1)] _ 0 0 _
              refine x_istore (lsx9 := [(4, .int (-1)), (0, .ref 125), (1, .int a1), (2, .int a2), (3, .int a3)]) rfl rfl rfl ?_
              refine x_iload (x := (-1)) rfl rfl ?_
              refine x_iconst (v := (-1)) rfl ki_m1 ?_
              refine x_iceq (tgt := 31) rfl rfl (ti_eq jk_m1 jk_m1 (br_t (by omega) ?_))
              exact jX.sub jsb_n (ct_X12_span_r125d_31 hD hQ  h J Sm D)
      ·
        rw [if_pos (by omega)] at D
        refine x_iconst (v := 3) rfl ki_3 ?_
        refine x_goto (tgt := 18) rfl rfl ?_
        refine x_iret rfl rfl ?_
        show jX m_X12_isMention 8 0 0 27 [(0, .ref 125), (1, .int a1)] [.int 3, .int v10] _ 0 0 _
        refine x_icge (tgt := 34) rfl rfl (ti_ge rfl jk_3 (br_f (by omega) ?_))
        refine x_iconst (v := 1) rfl ki_1 ?_
        refine x_goto (tgt := 35) rfl rfl ?_
        refine x_zret rfl rfl (by decide) ?_
        show jX m_X12_soulAt 9 0 0 5 [(0, .ref 125), (1, .int a1), (2, .int a2)] [.int 1] _ 0 0 _
        refine x_ifeq (tgt := 15) rfl rfl (ti_eq jk_1 jk_0 (br_f (by omega) ?_))
        refine x_iloadn (x := a2) rfl rfl ?_
        refine x_inst (N := m_X12_isDay) (As := [.int a2]) (st := []) (dx9 := 2) (mc := 0) (ms := 0) (host := "") rfl t_X12_isDay ⟨Or.inl q_12_273, s_X12_isDay⟩ rfl (by decide) rfl rfl ⟨by decide, by decide⟩ (zc_X12_isDay (d := 1) rfl (fun v55 ev55 => ?_))
        show jX m_X12_soulAt 9 0 0 12 [(0, .ref 125), (1, .int a1), (2, .int a2)] [.int v55] _ 0 0 _
        refine x_ifne (tgt := 17) rfl rfl (ti_ne rfl jk_0 ⟨fun c56 => ?_, fun c56 => ?_⟩)
        ·
          rw [if_pos (by omega)] at D
          refine x_aloadn (x := 125) rfl rfl ?_
          refine x_iloadn (x := a2) rfl rfl ?_
          refine x_inv (N := m_X12_find) (As := [.int a2]) (b := 125) (st := []) (dx9 := 8) (mc := 0) (ms := 0) (host := "") 12 rfl t_X12_find ⟨Or.inl q_12_393, i_X12_find.1, i_X12_find.2⟩ ⟨by decide, rfl⟩ (congrArg Prod.fst (J.1.1 125 (12, 92) rfl)) rfl (by decide) rfl rfl ⟨by decide, by decide⟩ (sf_X12_find_r125d (jr_of rfl (by omega)) hD J rfl  (fun h J S57 X58 => ?_))
          have Sm := jSm_tr rfl Sm S57
          rw [X58] at D
          show jX m_X12_soulAt 9 0 0 22 [(0, .ref 125), (1, .int a1), (2, .int a2)] [] _ 0 0 _
          refine x_aloadn (x := 125) rfl rfl ?_
          refine z_getR (N := 92) (b := 139) 12 29 rfl f_12_72 rfl J rfl 16029 ⟨rfl, rfl⟩ rfl ?_
          refine x_iloadn (x := a1) rfl rfl ?_
          refine z_iald (N := 600) rfl J rfl sg_139_0_600_1_0_1 rfl (by omega) (fun v59 qv59 ev59 => ?_)
          try rw [vrd qv59 (show a1.toInt = a1.toInt from by omega)] at D
          refine x_iret rfl rfl ?_
          show jX m_X12_span 10 0 0 11 [(0, .ref 125), (1, .int a1), (2, .int a2), (3, .int a3)] [.int v59] _ 0 0 _
          refine x_istore (lsx9 := [(4, .int v59), (0, .ref 125), (1, .int a1), (2, .int a2), (3, .int a3)]) rfl rfl rfl ?_
          refine x_iload (x := v59) rfl rfl ?_
          refine x_iconst (v := (-1)) rfl ki_m1 ?_
          refine x_iceq (tgt := 31) rfl rfl (ti_eq rfl jk_m1 ⟨fun c60 => ?_, fun c60 => ?_⟩)
          ·
            rw [if_pos (by omega)] at D
            exact jX.sub jsb_n (ct_X12_span_r125d_31 hD hQ  h J Sm D)
          ·
            rw [if_neg (by omega)] at D
            refine x_iloadn (x := a3) rfl rfl ?_
            refine z_i2l rfl rfl (fun v61 ev61 => ?_)
            refine x_lconst (v := 0) rfl kl_0 ?_
            refine x_ldc2 (v := 3) rfl z_12_195 ?_
            refine x_inst (N := m_X12_in) (As := [.long v61, .long 0, .long 3]) (st := []) (dx9 := 1) (mc := 0) (ms := 0) (host := "") rfl t_X12_in ⟨Or.inl q_12_188, s_X12_in⟩ rfl (by decide) rfl rfl ⟨by decide, by decide⟩ (zc_X12_in rfl jkl_0 jkl_3 (fun v62 ev62 => ?_))
            show jX m_X12_span 10 0 0 28 [(4, .int v59), (0, .ref 125), (1, .int a1), (2, .int a2), (3, .int a3)] [.int v62] _ 0 0 _
            refine x_ifne (tgt := 33) rfl rfl (ti_ne rfl jk_0 ⟨fun c63 => ?_, fun c63 => ?_⟩)
            ·
              rw [if_pos (by omega)] at D
              refine x_aloadn (x := 125) rfl rfl ?_
              refine x_iload (x := v59) rfl rfl ?_
              refine x_inv (N := m_X12_findSpan) (As := [.int v59]) (b := 125) (st := []) (dx9 := 6) (mc := 0) (ms := 0) (host := "") 12 rfl t_X12_findSpan ⟨Or.inl q_12_437, i_X12_findSpan.1, i_X12_findSpan.2⟩ ⟨by decide, rfl⟩ (congrArg Prod.fst (J.1.1 125 (12, 92) rfl)) rfl (by decide) rfl rfl ⟨by decide, by decide⟩ (sf_X12_findSpan_r125d (jr_of rfl (by omega)) hD J rfl  (fun h J S64 X65 => ?_))
              have Sm := jSm_tr rfl Sm S64
              rw [X65] at D
              show jX m_X12_span 10 0 0 39 [(4, .int v59), (0, .ref 125), (1, .int a1), (2, .int a2), (3, .int a3)] [] _ 0 0 _
              refine x_iloadn (x := a3) rfl rfl ?_
              refine x_ifne (tgt := 50) rfl rfl (ti_ne rfl jk_0 ⟨fun c66 => ?_, fun c66 => ?_⟩)
              ·
                rw [if_neg (by omega)] at D
                refine x_iloadn (x := a3) rfl rfl ?_
                refine x_iconst (v := 1) rfl ki_1 ?_
                refine x_icne (tgt := 62) rfl rfl (ti_ne rfl jk_1 ⟨fun c67 => ?_, fun c67 => ?_⟩)
                ·
                  rw [if_neg (by omega)] at D
                  refine x_iloadn (x := a3) rfl rfl ?_
                  refine x_iconst (v := 2) rfl ki_2 ?_
                  refine x_icne (tgt := 74) rfl rfl (ti_ne rfl jk_2 ⟨fun c68 => ?_, fun c68 => ?_⟩)
                  ·
                    rw [if_neg (by omega)] at D
                    refine x_aloadn (x := 125) rfl rfl ?_
                    refine z_getI (N := 92) 12 35 rfl f_12_421 rfl J rfl sg_125_35_36_1_0_1 (fun v69 qv69 ev69 => ?_)
                    try rw [vrf qv69] at D
                    exact jX.sub jsb_n (ct_X12_span_r125d_78 hD hQ  v69 h J Sm D)
                  ·
                    rw [if_pos (by omega)] at D
                    refine x_aloadn (x := 125) rfl rfl ?_
                    refine z_getI (N := 92) 12 34 rfl f_12_418 rfl J rfl sg_125_34_35_1_0_1 (fun v70 qv70 ev70 => ?_)
                    try rw [vrf qv70] at D
                    refine x_goto (tgt := 78) rfl rfl ?_
                    exact jX.sub jsb_n (ct_X12_span_r125d_78 hD hQ  v70 h J Sm D)
                ·
                  rw [if_pos (by omega)] at D
                  refine x_aloadn (x := 125) rfl rfl ?_
                  refine z_getI (N := 92) 12 33 rfl f_12_415 rfl J rfl sg_125_33_34_1_0_1 (fun v71 qv71 ev71 => ?_)
                  try rw [vrf qv71] at D
                  refine x_goto (tgt := 78) rfl rfl ?_
                  exact jX.sub jsb_n (ct_X12_span_r125d_78 hD hQ  v71 h J Sm D)
              ·
                rw [if_pos (by omega)] at D
                refine x_aloadn (x := 125) rfl rfl ?_
                refine z_getI (N := 92) 12 32 rfl f_12_412 rfl J rfl sg_125_32_33_1_0_1 (fun v72 qv72 ev72 => ?_)
                try rw [vrf qv72] at D
                refine x_goto (tgt := 78) rfl rfl ?_
                exact jX.sub jsb_n (ct_X12_span_r125d_78 hD hQ  v72 h J Sm D)
            ·
              rw [if_neg (by omega)] at D
              exact jX.sub jsb_n (ct_X12_span_r125d_31 hD hQ  h J Sm D)
        ·
          rw [if_neg (by omega)] at D
          refine x_iconst (v := (-1)) rfl ki_m1 ?_
          refine x_iret rfl rfl ?_
          show jX m_X12_span 10 0 0 11 [(0, .ref 125), (1, .int a1), (2, .int a2), (3, .int a3)] [.int (-1)] _ 0 0 _
          refine x_istore (lsx9 := [(4, .int (-1)), (0, .ref 125), (1, .int a1), (2, .int a2), (3, .int a3)]) rfl rfl rfl ?_
          refine x_iload (x := (-1)) rfl rfl ?_
          refine x_iconst (v := (-1)) rfl ki_m1 ?_
          refine x_iceq (tgt := 31) rfl rfl (ti_eq jk_m1 jk_m1 (br_t (by omega) ?_))
          exact jX.sub jsb_n (ct_X12_span_r125d_31 hD hQ  h J Sm D)
