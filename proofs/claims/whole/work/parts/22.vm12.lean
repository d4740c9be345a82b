def fp_X12_behindSum_r125d : jFp := [(125, 9, 10), (125, 10, 11), (125, 11, 12), (125, 12, 13), (125, 13, 14), (125, 14, 15), (125, 49, 50), (125, 55, 56), (125, 56, 57), (148, 0, 400), (149, 0, 400), (150, 0, 400), (151, 0, 400)]
set_option maxRecDepth 100000 in
set_option maxHeartbeats 4000000 in
theorem ct_X12_behindSum_r125d_211 {Dy : jH → Prop} {h0 : jH} {Q : Option Value → jH → Prop} {dr : (Int × jW)} {A : Nat} (hA : jTu 0 h0 A 1) (hD : jDk Dy) (hQ : ∀ (v : Int32) hx9, 1 ≤ v.toInt ∧ v.toInt ≤ 4 → jJ jSgM Dy hx9 → jSm fp_X12_behindSum_r125d h0 hx9 → ∀ u0 u1 u2 : Int32, jiv hx9 125 10 = u0 → jiv hx9 125 8 = u1 → jiv hx9 125 9 = u2 → (u0.toInt ≤ u1.toInt ∧ u2.toInt ≤ u0.toInt) → ∀ u3 u4 u5 : Int32, jiv hx9 125 11 = u3 → jiv hx9 125 9 = u4 → jiv hx9 125 10 = u5 → (u3.toInt = 0 ∨ u4.toInt + 1 ≤ u5.toInt) → jBp 2 4 A h0 v.toInt hx9 → dr.1 = v.toInt → dr.2 = vw hx9 → Q (some (.int v)) hx9) : ∀ (g0 : Int32) (g1 : Int32) (g2 : Int32) (g3 : Int32) (h : jH), 0 ≤ g0.toInt ∧ g0.toInt ≤ 400 → 0 ≤ g1.toInt ∧ g1.toInt ≤ 3 → 0 ≤ g2.toInt ∧ g2.toInt ≤ 400 → 0 ≤ g3.toInt ∧ g3.toInt ≤ 400 → (jTn A 1 h ∧ jFm 1 A h0 h) → (g0.toInt ≤ g2.toInt ∧ g3.toInt ≤ g0.toInt) → (g1.toInt = 0 ∨ g3.toInt + 1 ≤ g0.toInt) → jiv h 125 10 = g0 → jiv h 125 11 = g1 → jiv h 125 8 = g2 → jiv h 125 9 = g3 → jJ jSgM Dy h → jSm fp_X12_behindSum_r125d h0 h → d_X12_behindSum_r125d_211  (vw h) = dr → jX m_X12_behindSum 4 0 0 211 [] [] h 0 0 Q := by
  intro g0 g1 g2 g3 h y0 y1 y2 y3 C0 y5 y6 z0 z1 z2 z3  J Sm D
  unfold d_X12_behindSum_r125d_211 at D
  try rw [vrf z0] at D
  try rw [vrf z1] at D
  try rw [vrf z2] at D
  try rw [vrf z3] at D
  refine x_iconst (v := 1) rfl ki_1 ?_
  refine x_iret rfl rfl ?_
  exact hQ _ _ (jr_of jk_1 (by omega)) J Sm _ _ _ z0 z2 z3 (by omega) _ _ _ z1 z3 z0 (by omega) (by rw [jk_1]; exact jbp_1 C0) ((congrArg Prod.fst D).symm.trans (show 1 = (1 : Int32).toInt from by have := jk_1; omega)) (congrArg Prod.snd D).symm
set_option maxRecDepth 100000 in
set_option maxHeartbeats 4000000 in
theorem ct_X12_behindSum_r125d_200190 {Dy : jH → Prop} {h0 : jH} {Q : Option Value → jH → Prop} {dr : (Int × jW)} {A : Nat} (hA : jTu 0 h0 A 1) (hD : jDk Dy) (hQ : ∀ (v : Int32) hx9, 1 ≤ v.toInt ∧ v.toInt ≤ 4 → jJ jSgM Dy hx9 → jSm fp_X12_behindSum_r125d h0 hx9 → ∀ u0 u1 u2 : Int32, jiv hx9 125 10 = u0 → jiv hx9 125 8 = u1 → jiv hx9 125 9 = u2 → (u0.toInt ≤ u1.toInt ∧ u2.toInt ≤ u0.toInt) → ∀ u3 u4 u5 : Int32, jiv hx9 125 11 = u3 → jiv hx9 125 9 = u4 → jiv hx9 125 10 = u5 → (u3.toInt = 0 ∨ u4.toInt + 1 ≤ u5.toInt) → jBp 2 4 A h0 v.toInt hx9 → dr.1 = v.toInt → dr.2 = vw hx9 → Q (some (.int v)) hx9) : ∀ (l3 : Int32) (g0 : Int32) (g1 : Int32) (g2 : Int32) (g3 : Int32) (h : jH), 12 ≤ l3.toInt ∧ l3.toInt ≤ 12 → 0 ≤ g0.toInt ∧ g0.toInt ≤ 400 → 0 ≤ g1.toInt ∧ g1.toInt ≤ 3 → 0 ≤ g2.toInt ∧ g2.toInt ≤ 400 → 0 ≤ g3.toInt ∧ g3.toInt ≤ 400 → jSa h0 h → ((jiv h0 125 14).toInt ≠ 0 ∨ jNsq h0) → (g0.toInt ≤ g2.toInt ∧ g3.toInt ≤ g0.toInt) → (g1.toInt = 0 ∨ g3.toInt + 1 ≤ g0.toInt) → jiv h 125 10 = g0 → jiv h 125 11 = g1 → jiv h 125 8 = g2 → jiv h 125 9 = g3 → jJ jSgM Dy h → jSm fp_X12_behindSum_r125d h0 h → d_X12_behindSum_r125d_200190  l3.toInt (vw h) = dr → jX m_X12_behindSum 4 0 0 190 [(0, .ref 125), (3, .int l3)] [.int 0, .ref 125] h 0 0 Q := by
  intro l3 g0 g1 g2 g3 h y0 y1 y2 y3 y4 C0 C1 y7 y8 z0 z1 z2 z3  J Sm D
  unfold d_X12_behindSum_r125d_200190 at D
  try rw [vrf z0] at D
  try rw [vrf z1] at D
  try rw [vrf z2] at D
  try rw [vrf z3] at D
  refine x_inv (N := m_X12_must) (As := [.int 0]) (b := 125) (st := []) (dx9 := 3) (mc := 0) (ms := 0) (host := "") 12 rfl t_X12_must ⟨Or.inl q_12_250, i_X12_must.1, i_X12_must.2⟩ ⟨by decide, rfl⟩ (congrArg Prod.fst (J.1.1 125 (12, 92) rfl)) rfl (by decide) rfl rfl ⟨by decide, by decide⟩ (jC.of rfl k_X12_must rfl ?_)
  show jX m_X12_must 3 0 0 0 [(0, .ref 125), (1, .int 0)] [] _ 0 0 _
  refine x_aloadn (x := 125) rfl rfl ?_
  refine z_getI (N := 92) 12 14 rfl f_12_214 rfl J rfl sg_125_14_15_1_0_1 (fun v1 qv1 ev1 => ?_)
  try rw [vrf qv1] at D
  refine x_ifne (tgt := 24) rfl rfl (ti_ne rfl jk_0 ⟨fun c2 => ?_, fun c2 => ?_⟩)
  ·
    rw [if_neg (by omega)] at D
    refine x_aloadn (x := 125) rfl rfl ?_
    refine z_getM (N := 92) (v := v1) 12 14 rfl f_12_214 rfl J rfl qv1 ?_
    refine x_ifne (tgt := 35) rfl rfl (ti_ne rfl jk_0 (bn_t (by omega) ?_))
    refine x_vret rfl rfl ?_
    show jX m_X12_behindSum 4 0 0 193 [(0, .ref 125), (3, .int l3)] [] _ 0 0 _
    refine x_aloadn (x := 125) rfl rfl ?_
    refine z_getM (N := 92) (v := v1) 12 14 rfl f_12_214 rfl J rfl qv1 ?_
    refine x_ifne (tgt := 211) rfl rfl (ti_ne rfl jk_0 (bn_t (by omega) ?_))
    exact jX.sub jsb_n (ct_X12_behindSum_r125d_211 hA hD hQ  g0 g1 g2 g3 h (jr_of rfl (by omega)) (jr_of rfl (by omega)) (jr_of rfl (by omega)) (jr_of rfl (by omega)) (jmu_tb (jmu_bad hA C0.1 C0.2.1 C0.2.2.1 C0.2.2.2.1 C0.2.2.2.2.1 C0.2.2.2.2.2.1 C0.2.2.2.2.2.2.1 qv1 (by omega)) qv1 (by omega)) (by omega) (by omega) z0 z1 z2 z3 J Sm D)
  ·
    rw [if_pos (by omega)] at D
    refine x_iloadn (x := 0) rfl rfl ?_
    refine x_ifne (tgt := 24) rfl rfl (ti_ne jk_0 jk_0 (bn_f (by omega) ?_))
    refine x_aloadn (x := 125) rfl rfl ?_
    refine x_iconst (v := 1) rfl ki_1 ?_
    refine z_putZ (N := 92) (w := 1) 12 14 rfl f_12_214 rfl (jfin_no TX12 RX12 92 rfl rfl) hD J Sm rfl rfl jk_1 (by omega) (pw_125_14 (by omega)) rfl (fun h w3 J Sm => ?_)
    rw [vwf w3 (show 1 = (1 : Int32).toInt from by have := jk_1; omega)] at D
    refine x_aloadn (x := 125) rfl rfl ?_
    refine x_aloadn (x := 125) rfl rfl ?_
    refine z_getM (N := 92) (v := g3) 12 9 rfl f_12_221 rfl J rfl (jmo w3 rfl z3) ?_
    refine z_putI (N := 92) (w := g3.toInt) 12 13 rfl f_12_32 rfl (jfin_no TX12 RX12 92 rfl rfl) hD J Sm rfl rfl rfl (pw_125_13 (by omega)) rfl (fun h w4 J Sm => ?_)
    rw [vwf w4 (show g3.toInt = g3.toInt from by omega)] at D
    refine x_aloadn (x := 125) rfl rfl ?_
    refine z_getM (N := 92) (v := 1) 12 14 rfl f_12_214 rfl J rfl (jmo w4 rfl (jmw w3)) ?_
    refine x_ifne (tgt := 35) rfl rfl (ti_ne jk_1 jk_0 (bn_t (by omega) ?_))
    refine x_vret rfl rfl ?_
    show jX m_X12_behindSum 4 0 0 193 [(0, .ref 125), (3, .int l3)] [] _ 0 0 _
    refine x_aloadn (x := 125) rfl rfl ?_
    refine z_getM (N := 92) (v := 1) 12 14 rfl f_12_214 rfl J rfl (jmo w4 rfl (jmw w3)) ?_
    refine x_ifne (tgt := 211) rfl rfl (ti_ne jk_1 jk_0 (bn_t (by omega) ?_))
    exact jX.sub jsb_n (ct_X12_behindSum_r125d_211 hA hD hQ  g0 g1 g2 g3 h (jr_of rfl (by omega)) (jr_of rfl (by omega)) (jr_of rfl (by omega)) (jr_of rfl (by omega)) (jmu_tb (jmu_bad hA (jeq_o w4 rfl (jeq_o w3 rfl C0.1)) (jeq_o w4 rfl (jeq_o w3 rfl C0.2.1)) (jeq_o w4 rfl (jeq_o w3 rfl C0.2.2.1)) (jeq_o w4 rfl (jeq_o w3 rfl C0.2.2.2.1)) (jmo w4 rfl (jmo w3 rfl C0.2.2.2.2.1)) (jmo w4 rfl (jmo w3 rfl C0.2.2.2.2.2.1)) (jmo w4 rfl (jmo w3 rfl C0.2.2.2.2.2.2.1)) (jmo w4 rfl (jmw w3)) (by decide)) (jmo w4 rfl (jmw w3)) (by decide)) (by omega) (by omega) (jmo w4 rfl (jmo w3 rfl z0)) (jmo w4 rfl (jmo w3 rfl z1)) (jmo w4 rfl (jmo w3 rfl z2)) (jmo w4 rfl (jmo w3 rfl z3)) J Sm D)
set_option maxRecDepth 100000 in
set_option maxHeartbeats 4000000 in
theorem ct_X12_behindSum_r125d_300190 {Dy : jH → Prop} {h0 : jH} {Q : Option Value → jH → Prop} {dr : (Int × jW)} {A : Nat} (hA : jTu 0 h0 A 1) (hD : jDk Dy) (hQ : ∀ (v : Int32) hx9, 1 ≤ v.toInt ∧ v.toInt ≤ 4 → jJ jSgM Dy hx9 → jSm fp_X12_behindSum_r125d h0 hx9 → ∀ u0 u1 u2 : Int32, jiv hx9 125 10 = u0 → jiv hx9 125 8 = u1 → jiv hx9 125 9 = u2 → (u0.toInt ≤ u1.toInt ∧ u2.toInt ≤ u0.toInt) → ∀ u3 u4 u5 : Int32, jiv hx9 125 11 = u3 → jiv hx9 125 9 = u4 → jiv hx9 125 10 = u5 → (u3.toInt = 0 ∨ u4.toInt + 1 ≤ u5.toInt) → jBp 2 4 A h0 v.toInt hx9 → dr.1 = v.toInt → dr.2 = vw hx9 → Q (some (.int v)) hx9) : ∀ (l3 : Int32) (g0 : Int32) (g1 : Int32) (g2 : Int32) (g3 : Int32) (h : jH), 10 ≤ l3.toInt ∧ l3.toInt ≤ 12 → 0 ≤ g0.toInt ∧ g0.toInt ≤ 400 → 0 ≤ g1.toInt ∧ g1.toInt ≤ 3 → 0 ≤ g2.toInt ∧ g2.toInt ≤ 400 → 0 ≤ g3.toInt ∧ g3.toInt ≤ 400 → jSa h0 h → ((jiv h0 125 14).toInt ≠ 0 ∨ jNsq h0) → g1.toInt ≠ 0 → (g0.toInt ≤ g2.toInt ∧ g3.toInt ≤ g0.toInt) → (g1.toInt = 0 ∨ g3.toInt + 1 ≤ g0.toInt) → jiv h 125 10 = g0 → jiv h 125 11 = g1 → jiv h 125 8 = g2 → jiv h 125 9 = g3 → jJ jSgM Dy h → jSm fp_X12_behindSum_r125d h0 h → d_X12_behindSum_r125d_300190  l3.toInt (vw h) = dr → jX m_X12_behindSum 4 0 0 190 [(0, .ref 125), (3, .int l3)] [.int 1, .ref 125] h 0 0 Q := by
  intro l3 g0 g1 g2 g3 h y0 y1 y2 y3 y4 C0 C1 y7 y8 y9 z0 z1 z2 z3  J Sm D
  unfold d_X12_behindSum_r125d_300190 at D
  try rw [vrf z0] at D
  try rw [vrf z1] at D
  try rw [vrf z2] at D
  try rw [vrf z3] at D
  refine x_inv (N := m_X12_must) (As := [.int 1]) (b := 125) (st := []) (dx9 := 3) (mc := 0) (ms := 0) (host := "") 12 rfl t_X12_must ⟨Or.inl q_12_250, i_X12_must.1, i_X12_must.2⟩ ⟨by decide, rfl⟩ (congrArg Prod.fst (J.1.1 125 (12, 92) rfl)) rfl (by decide) rfl rfl ⟨by decide, by decide⟩ (jC.of rfl k_X12_must rfl ?_)
  show jX m_X12_must 3 0 0 0 [(0, .ref 125), (1, .int 1)] [] _ 0 0 _
  refine x_aloadn (x := 125) rfl rfl ?_
  refine z_getI (N := 92) 12 14 rfl f_12_214 rfl J rfl sg_125_14_15_1_0_1 (fun v1 qv1 ev1 => ?_)
  try rw [vrf qv1] at D
  refine x_ifne (tgt := 24) rfl rfl (ti_ne rfl jk_0 ⟨fun c2 => ?_, fun c2 => ?_⟩)
  ·
    rw [if_neg (by omega)] at D
    refine x_aloadn (x := 125) rfl rfl ?_
    refine z_getM (N := 92) (v := v1) 12 14 rfl f_12_214 rfl J rfl qv1 ?_
    refine x_ifne (tgt := 35) rfl rfl (ti_ne rfl jk_0 (bn_t (by omega) ?_))
    refine x_vret rfl rfl ?_
    show jX m_X12_behindSum 4 0 0 193 [(0, .ref 125), (3, .int l3)] [] _ 0 0 _
    refine x_aloadn (x := 125) rfl rfl ?_
    refine z_getM (N := 92) (v := v1) 12 14 rfl f_12_214 rfl J rfl qv1 ?_
    refine x_ifne (tgt := 211) rfl rfl (ti_ne rfl jk_0 (bn_t (by omega) ?_))
    exact jX.sub jsb_n (ct_X12_behindSum_r125d_211 hA hD hQ  g0 g1 g2 g3 h (jr_of rfl (by omega)) (jr_of rfl (by omega)) (jr_of rfl (by omega)) (jr_of rfl (by omega)) (jmu_tb (jmu_bad hA C0.1 C0.2.1 C0.2.2.1 C0.2.2.2.1 C0.2.2.2.2.1 C0.2.2.2.2.2.1 C0.2.2.2.2.2.2.1 qv1 (by omega)) qv1 (by omega)) (by omega) (by omega) z0 z1 z2 z3 J Sm D)
  ·
    rw [if_pos (by omega)] at D
    refine x_iloadn (x := 1) rfl rfl ?_
    refine x_ifne (tgt := 24) rfl rfl (ti_ne jk_1 jk_0 (bn_t (by omega) ?_))
    refine x_aloadn (x := 125) rfl rfl ?_
    refine z_getM (N := 92) (v := v1) 12 14 rfl f_12_214 rfl J rfl qv1 ?_
    refine x_ifne (tgt := 35) rfl rfl (ti_ne rfl jk_0 (bn_f (by omega) ?_))
    refine x_aloadn (x := 125) rfl rfl ?_
    refine x_inv (N := m_X12_next) (As := []) (b := 125) (st := []) (dx9 := 2) (mc := 0) (ms := 0) (host := "") 12 rfl t_X12_next ⟨Or.inl q_12_218, i_X12_next.1, i_X12_next.2⟩ ⟨by decide, rfl⟩ (congrArg Prod.fst (J.1.1 125 (12, 92) rfl)) rfl (by decide) rfl rfl ⟨by decide, by decide⟩ (sf_X12_next_r125d  hD J z0 z2 (by omega) rfl  (fun h J S3 u4 u5 u6 qu4 qu5 qu6 ru4 u7 u8 u9 qu7 qu8 qu9 ru7 P10 X11 => ?_))
    have Sm := jSm_tr rfl Sm S3
    rw [X11] at D
    have eu4 := (show 0 ≤ u4.toInt ∧ u4.toInt ≤ 400 from qu4 ▸ jrg_f J sg_125_10_11_1_0_1)
    try rw [vrf qu4] at D
    have eu5 := (show 0 ≤ u5.toInt ∧ u5.toInt ≤ 400 from qu5 ▸ jrg_f J sg_125_8_9_1_0_1)
    try rw [vrf (jmb_c S3 qu5 rfl)] at D
    have eu6 := (show 0 ≤ u6.toInt ∧ u6.toInt ≤ 400 from qu6 ▸ jrg_f J sg_125_9_10_1_0_1)
    try rw [vrf qu6] at D
    have eu7 := (show 0 ≤ u7.toInt ∧ u7.toInt ≤ 3 from qu7 ▸ jrg_f J sg_125_11_12_1_0_1)
    try rw [vrf qu7] at D
    obtain rfl : u6 = u8 := qu6.symm.trans qu8
    obtain rfl : u4 = u9 := qu4.symm.trans qu9
    have nfP10 := jnf P10.1 z0 qu6
    show jX m_X12_must 3 0 0 35 [(0, .ref 125), (1, .int 1)] [] _ 0 0 _
    refine x_vret rfl rfl ?_
    show jX m_X12_behindSum 4 0 0 193 [(0, .ref 125), (3, .int l3)] [] _ 0 0 _
    refine x_aloadn (x := 125) rfl rfl ?_
    refine z_getM (N := 92) (v := v1) 12 14 rfl f_12_214 rfl J rfl (jmc S3 rfl qv1) ?_
    refine x_ifne (tgt := 211) rfl rfl (ti_ne rfl jk_0 (bn_f (by omega) ?_))
    refine x_aloadn (x := 125) rfl rfl ?_
    refine x_iconst (v := 5) rfl ki_5 ?_
    refine x_inv (N := m_X12_settle) (As := [.int 5]) (b := 125) (st := []) (dx9 := 2) (mc := 0) (ms := 0) (host := "") 12 rfl t_X12_settle ⟨Or.inl q_12_548, i_X12_settle.1, i_X12_settle.2⟩ ⟨by decide, rfl⟩ (congrArg Prod.fst (J.1.1 125 (12, 92) rfl)) rfl (by decide) rfl rfl ⟨by decide, by decide⟩ (sf_X12_settle_r125d (jr_of jk_5 (by omega)) (K9 := 1) (by decide) (jmu_1 (jmu_on hA (jeq_c S3 rfl C0.1) (jeq_c S3 rfl C0.2.1) (jeq_c S3 rfl C0.2.2.1) (jeq_c S3 rfl C0.2.2.2.1) (jmc S3 rfl C0.2.2.2.2.1) (jmc S3 rfl C0.2.2.2.2.2.1) (jmc S3 rfl C0.2.2.2.2.2.2.2) (C0.2.2.2.2.2.2.1.symm.trans z3) qu6 (by omega)) (jmc S3 rfl qv1) (by omega)) hD J rfl  (fun h J S12 P13 X14 => ?_))
    have Sm := jSm_tr rfl Sm S12
    try rw [jk_5] at X14
    rw [X14] at D
    show jX m_X12_behindSum 4 0 0 205 [(0, .ref 125), (3, .int l3)] [] _ 0 0 _
    refine x_aloadn (x := 125) rfl rfl ?_
    refine x_iloadn (x := l3) rfl rfl ?_
    refine x_iconst (v := 0) rfl ki_0 ?_
    refine x_inv (N := m_X12_push) (As := [.int l3, .int 0]) (b := 125) (st := []) (dx9 := 3) (mc := 0) (ms := 0) (host := "") 12 rfl t_X12_push ⟨Or.inl q_12_536, i_X12_push.1, i_X12_push.2⟩ ⟨by decide, rfl⟩ (congrArg Prod.fst (J.1.1 125 (12, 92) rfl)) rfl (by decide) rfl rfl ⟨by decide, by decide⟩ (jC.of rfl k_X12_push rfl ?_)
    show jX m_X12_push 3 0 0 0 [(0, .ref 125), (1, .int l3), (2, .int 0)] [] _ 0 0 _
    obtain ⟨u15, qu15⟩ : ∃ v : Int32, jiv h 125 55 = v := ⟨_, rfl⟩
    have eu15 := (show 0 ≤ u15.toInt ∧ u15.toInt ≤ 400 from qu15 ▸ jrg_f J sg_125_55_56_1_0_1)
    try rw [vrf qu15] at D
    have lx := jtw_l P13.1.1.1 qu15 (jmc S12 rfl qu6)
    refine x_aloadn (x := 125) rfl rfl ?_
    refine z_getR (N := 92) (b := 150) 12 53 rfl f_12_105 rfl J rfl 16053 ⟨rfl, rfl⟩ rfl ?_
    refine x_aloadn (x := 125) rfl rfl ?_
    refine z_getM (N := 92) (v := u15) 12 55 rfl f_12_496 rfl J rfl qu15 ?_
    refine x_iloadn (x := l3) rfl rfl ?_
    refine z_iast (N := 400) (l := 0) (u := 400) (w := l3.toInt) rfl hD J Sm rfl rfl rfl (by omega) rfl (wr_150) rfl (fun h w16 J Sm => ?_)
    rw [vww w16 (show u15.toInt = u15.toInt from by omega) (show l3.toInt = l3.toInt from by omega)] at D
    refine x_aloadn (x := 125) rfl rfl ?_
    refine z_getR (N := 92) (b := 151) 12 54 rfl f_12_108 rfl J rfl 16054 ⟨rfl, rfl⟩ rfl ?_
    refine x_aloadn (x := 125) rfl rfl ?_
    refine z_getM (N := 92) (v := u15) 12 55 rfl f_12_496 rfl J rfl (jmo w16 rfl qu15) ?_
    refine x_iloadn (x := 0) rfl rfl ?_
    refine z_iast (N := 400) (l := 0) (u := 400) (w := 0) rfl hD J Sm rfl rfl rfl (by omega) jk_0 (wr_151) rfl (fun h w17 J Sm => ?_)
    rw [vww w17 (show u15.toInt = u15.toInt from by omega) (show 0 = (0 : Int32).toInt from by have := jk_0; omega)] at D
    refine x_aloadn (x := 125) rfl rfl ?_
    refine x_dup rfl rfl ?_
    refine z_getM (N := 92) (v := u15) 12 55 rfl f_12_496 rfl J rfl (jmo w17 rfl (jmo w16 rfl qu15)) ?_
    refine x_iconst (v := 1) rfl ki_1 ?_
    refine z_iadd rfl rfl jk_1 (by omega) (fun v18 ev18 => ?_)
    refine z_putI (N := 92) (w := v18.toInt) 12 55 rfl f_12_496 rfl (jfin_no TX12 RX12 92 rfl rfl) hD J Sm rfl rfl rfl (pw_125_55 (by omega)) rfl (fun h w19 J Sm => ?_)
    rw [vwf w19 (show (u15.toInt + 1) = v18.toInt from by omega)] at D
    refine x_vret rfl rfl ?_
    show jX m_X12_behindSum 4 0 0 211 [(0, .ref 125), (3, .int l3)] [] _ 0 0 _
    exact jX.sub jsb_n (ct_X12_behindSum_r125d_211 hA hD hQ  u4 u7 u5 u6 h (jr_of rfl (by omega)) (jr_of rfl (by omega)) (jr_of rfl (by omega)) (jr_of rfl (by omega)) (bs_cmp2 (jmu_on hA (jeq_c S3 rfl C0.1) (jeq_c S3 rfl C0.2.1) (jeq_c S3 rfl C0.2.2.1) (jeq_c S3 rfl C0.2.2.2.1) (jmc S3 rfl C0.2.2.2.2.1) (jmc S3 rfl C0.2.2.2.2.2.1) (jmc S3 rfl C0.2.2.2.2.2.2.2) (C0.2.2.2.2.2.2.1.symm.trans z3) qu6 (by omega)) (jmc S3 rfl qv1) (by omega) C1 P13 (jmc S12 rfl rfl) (jmc S12 rfl rfl) qu15 w16 w17 w19 (by omega) (by omega)) (by omega) (by omega) (jmo w19 rfl (jmo w17 rfl (jmo w16 rfl (jmc S12 rfl qu4)))) (jmo w19 rfl (jmo w17 rfl (jmo w16 rfl (jmc S12 rfl qu7)))) (jmo w19 rfl (jmo w17 rfl (jmo w16 rfl (jmc S12 rfl qu5)))) (jmo w19 rfl (jmo w17 rfl (jmo w16 rfl (jmc S12 rfl qu6)))) J Sm D)
set_option maxRecDepth 100000 in
set_option maxHeartbeats 4000000 in
theorem ct_X12_behindSum_r125d_185 {Dy : jH → Prop} {h0 : jH} {Q : Option Value → jH → Prop} {dr : (Int × jW)} {A : Nat} (hA : jTu 0 h0 A 1) (hD : jDk Dy) (hQ : ∀ (v : Int32) hx9, 1 ≤ v.toInt ∧ v.toInt ≤ 4 → jJ jSgM Dy hx9 → jSm fp_X12_behindSum_r125d h0 hx9 → ∀ u0 u1 u2 : Int32, jiv hx9 125 10 = u0 → jiv hx9 125 8 = u1 → jiv hx9 125 9 = u2 → (u0.toInt ≤ u1.toInt ∧ u2.toInt ≤ u0.toInt) → ∀ u3 u4 u5 : Int32, jiv hx9 125 11 = u3 → jiv hx9 125 9 = u4 → jiv hx9 125 10 = u5 → (u3.toInt = 0 ∨ u4.toInt + 1 ≤ u5.toInt) → jBp 2 4 A h0 v.toInt hx9 → dr.1 = v.toInt → dr.2 = vw hx9 → Q (some (.int v)) hx9) : ∀ (l3 : Int32) (g0 : Int32) (g1 : Int32) (g2 : Int32) (g3 : Int32) (h : jH), 10 ≤ l3.toInt ∧ l3.toInt ≤ 12 → 0 ≤ g0.toInt ∧ g0.toInt ≤ 400 → 0 ≤ g1.toInt ∧ g1.toInt ≤ 3 → 0 ≤ g2.toInt ∧ g2.toInt ≤ 400 → 0 ≤ g3.toInt ∧ g3.toInt ≤ 400 → jSa h0 h → ((jiv h0 125 14).toInt ≠ 0 ∨ jNsq h0) → g1.toInt ≠ 0 → (g0.toInt ≤ g2.toInt ∧ g3.toInt ≤ g0.toInt) → (g1.toInt = 0 ∨ g3.toInt + 1 ≤ g0.toInt) → jiv h 125 10 = g0 → jiv h 125 11 = g1 → jiv h 125 8 = g2 → jiv h 125 9 = g3 → jJ jSgM Dy h → jSm fp_X12_behindSum_r125d h0 h → d_X12_behindSum_r125d_185  l3.toInt (vw h) = dr → jX m_X12_behindSum 4 0 0 185 [(0, .ref 125), (3, .int l3)] [.ref 125] h 0 0 Q := by
  intro l3 g0 g1 g2 g3 h y0 y1 y2 y3 y4 C0 C1 y7 y8 y9 z0 z1 z2 z3  J Sm D
  unfold d_X12_behindSum_r125d_185 at D
  try rw [vrf z0] at D
  try rw [vrf z1] at D
  try rw [vrf z2] at D
  try rw [vrf z3] at D
  refine x_iconst (v := 1) rfl ki_1 ?_
  refine x_goto (tgt := 190) rfl rfl ?_
  exact jX.sub (jsb_c rfl (jsb_c rfl jsb_n)) (ct_X12_behindSum_r125d_300190 hA hD hQ  l3 g0 g1 g2 g3 h (jr_of rfl (by omega)) (jr_of rfl (by omega)) (jr_of rfl (by omega)) (jr_of rfl (by omega)) (jr_of rfl (by omega)) C0 C1 (by omega) (by omega) (by omega) z0 z1 z2 z3 J Sm D)
set_option maxRecDepth 100000 in
set_option maxHeartbeats 4000000 in
theorem ct_X12_behindSum_r125d_168 {Dy : jH → Prop} {h0 : jH} {Q : Option Value → jH → Prop} {dr : (Int × jW)} {A : Nat} (hA : jTu 0 h0 A 1) (hD : jDk Dy) (hQ : ∀ (v : Int32) hx9, 1 ≤ v.toInt ∧ v.toInt ≤ 4 → jJ jSgM Dy hx9 → jSm fp_X12_behindSum_r125d h0 hx9 → ∀ u0 u1 u2 : Int32, jiv hx9 125 10 = u0 → jiv hx9 125 8 = u1 → jiv hx9 125 9 = u2 → (u0.toInt ≤ u1.toInt ∧ u2.toInt ≤ u0.toInt) → ∀ u3 u4 u5 : Int32, jiv hx9 125 11 = u3 → jiv hx9 125 9 = u4 → jiv hx9 125 10 = u5 → (u3.toInt = 0 ∨ u4.toInt + 1 ≤ u5.toInt) → jBp 2 4 A h0 v.toInt hx9 → dr.1 = v.toInt → dr.2 = vw hx9 → Q (some (.int v)) hx9) : ∀ (s0 : Int32) (g0 : Int32) (g1 : Int32) (g2 : Int32) (g3 : Int32) (h : jH), 10 ≤ s0.toInt ∧ s0.toInt ≤ 12 → 0 ≤ g0.toInt ∧ g0.toInt ≤ 400 → 0 ≤ g1.toInt ∧ g1.toInt ≤ 3 → 0 ≤ g2.toInt ∧ g2.toInt ≤ 400 → 0 ≤ g3.toInt ∧ g3.toInt ≤ 400 → jSa h0 h → ((jiv h0 125 14).toInt ≠ 0 ∨ jNsq h0) → (s0.toInt = 12 ∨ g1.toInt ≠ 0) → (g0.toInt ≤ g2.toInt ∧ g3.toInt ≤ g0.toInt) → (g1.toInt = 0 ∨ g3.toInt + 1 ≤ g0.toInt) → jiv h 125 10 = g0 → jiv h 125 11 = g1 → jiv h 125 8 = g2 → jiv h 125 9 = g3 → jJ jSgM Dy h → jSm fp_X12_behindSum_r125d h0 h → d_X12_behindSum_r125d_168  s0.toInt (vw h) = dr → jX m_X12_behindSum 4 0 0 168 [(0, .ref 125)] [.int s0] h 0 0 Q := by
  intro s0 g0 g1 g2 g3 h y0 y1 y2 y3 y4 C0 C1 y7 y8 y9 z0 z1 z2 z3  J Sm D
  unfold d_X12_behindSum_r125d_168 at D
  try rw [vrf z0] at D
  try rw [vrf z1] at D
  try rw [vrf z2] at D
  try rw [vrf z3] at D
  refine x_istoren (lsx9 := [(3, .int s0), (0, .ref 125)]) rfl rfl rfl ?_
  refine x_aloadn (x := 125) rfl rfl ?_
  refine x_iloadn (x := s0) rfl rfl ?_
  refine x_bipush (v := 12) rfl kb_12 ?_
  refine x_icne (tgt := 185) rfl rfl (ti_ne rfl jk_12 ⟨fun c1 => ?_, fun c1 => ?_⟩)
  ·
    rw [if_neg (by omega)] at D
    exact jX.sub (jsb_c rfl (jsb_c rfl jsb_n)) (ct_X12_behindSum_r125d_185 hA hD hQ  s0 g0 g1 g2 g3 h (jr_of rfl (by omega)) (jr_of rfl (by omega)) (jr_of rfl (by omega)) (jr_of rfl (by omega)) (jr_of rfl (by omega)) C0 C1 (by omega) (by omega) (by omega) z0 z1 z2 z3 J Sm D)
  ·
    rw [if_pos (by omega)] at D
    refine x_aloadn (x := 125) rfl rfl ?_
    refine x_bipush (v := 61) rfl kb_61 ?_
    refine x_inv (N := m_X12_isSign) (As := [.int 61]) (b := 125) (st := [.ref 125]) (dx9 := 3) (mc := 0) (ms := 0) (host := "") 12 rfl t_X12_isSign ⟨Or.inl q_12_257, i_X12_isSign.1, i_X12_isSign.2⟩ ⟨by decide, rfl⟩ (congrArg Prod.fst (J.1.1 125 (12, 92) rfl)) rfl (by decide) rfl rfl ⟨by decide, by decide⟩ (jC.of rfl k_X12_isSign rfl ?_)
    show jX m_X12_isSign 3 0 0 0 [(0, .ref 125), (1, .int 61)] [] _ 0 0 _
    refine x_aloadn (x := 125) rfl rfl ?_
    refine z_getM (N := 92) (v := g1) 12 11 rfl f_12_235 rfl J rfl z1 ?_
    refine x_iconst (v := 3) rfl ki_3 ?_
    refine x_icne (tgt := 22) rfl rfl (ti_ne rfl jk_3 ⟨fun c2 => ?_, fun c2 => ?_⟩)
    ·
      rw [if_neg (by omega)] at D
      refine x_iconst (v := 0) rfl ki_0 ?_
      refine x_zret rfl rfl (by decide) ?_
      show jX m_X12_behindSum 4 0 0 182 [(3, .int s0), (0, .ref 125)] [.int 0, .ref 125] _ 0 0 _
      refine x_ifeq (tgt := 189) rfl rfl (ti_eq jk_0 jk_0 (br_t (by omega) ?_))
      refine x_iconst (v := 0) rfl ki_0 ?_
      exact jX.sub (jsb_c rfl (jsb_c rfl jsb_n)) (ct_X12_behindSum_r125d_200190 hA hD hQ  s0 g0 g1 g2 g3 h (jr_of rfl (by omega)) (jr_of rfl (by omega)) (jr_of rfl (by omega)) (jr_of rfl (by omega)) (jr_of rfl (by omega)) C0 C1 (by omega) (by omega) z0 z1 z2 z3 J Sm D)
    ·
      rw [if_pos (by omega)] at D
      refine x_aloadn (x := 125) rfl rfl ?_
      refine z_getLQ (N := 92) 12 12 rfl f_12_224 rfl J rfl (fun v3 qv3 => ?_)
      have ev3 := jfullL v3
      try rw [vrfL qv3] at D
      refine x_iloadn (x := 61) rfl rfl ?_
      refine z_i2l rfl jk_61 (fun v4 ev4 => ?_)
      refine z_lcmp rfl rfl rfl (fun v5 ev5 => ?_)
      refine x_ifne (tgt := 22) rfl rfl (ti_ne rfl jk_0 ⟨fun c6 => ?_, fun c6 => ?_⟩)
      ·
        rw [if_neg (by omega)] at D
        refine x_iconst (v := 0) rfl ki_0 ?_
        refine x_zret rfl rfl (by decide) ?_
        show jX m_X12_behindSum 4 0 0 182 [(3, .int s0), (0, .ref 125)] [.int 0, .ref 125] _ 0 0 _
        refine x_ifeq (tgt := 189) rfl rfl (ti_eq jk_0 jk_0 (br_t (by omega) ?_))
        refine x_iconst (v := 0) rfl ki_0 ?_
        exact jX.sub (jsb_c rfl (jsb_c rfl jsb_n)) (ct_X12_behindSum_r125d_200190 hA hD hQ  s0 g0 g1 g2 g3 h (jr_of rfl (by omega)) (jr_of rfl (by omega)) (jr_of rfl (by omega)) (jr_of rfl (by omega)) (jr_of rfl (by omega)) C0 C1 (by omega) (by omega) z0 z1 z2 z3 J Sm D)
      ·
        rw [if_pos (by omega)] at D
        refine x_iconst (v := 1) rfl ki_1 ?_
        refine x_goto (tgt := 23) rfl rfl ?_
        refine x_zret rfl rfl (by decide) ?_
        show jX m_X12_behindSum 4 0 0 182 [(3, .int s0), (0, .ref 125)] [.int 1, .ref 125] _ 0 0 _
        refine x_ifeq (tgt := 189) rfl rfl (ti_eq jk_1 jk_0 (br_f (by omega) ?_))
        exact jX.sub (jsb_c rfl (jsb_c rfl jsb_n)) (ct_X12_behindSum_r125d_185 hA hD hQ  s0 g0 g1 g2 g3 h (jr_of rfl (by omega)) (jr_of rfl (by omega)) (jr_of rfl (by omega)) (jr_of rfl (by omega)) (jr_of rfl (by omega)) C0 C1 (by omega) (by omega) (by omega) z0 z1 z2 z3 J Sm D)
set_option maxRecDepth 100000 in
set_option maxHeartbeats 4000000 in
theorem ct_X12_behindSum_r125d_129 {Dy : jH → Prop} {h0 : jH} {Q : Option Value → jH → Prop} {dr : (Int × jW)} {A : Nat} (hA : jTu 0 h0 A 1) (hD : jDk Dy) (hQ : ∀ (v : Int32) hx9, 1 ≤ v.toInt ∧ v.toInt ≤ 4 → jJ jSgM Dy hx9 → jSm fp_X12_behindSum_r125d h0 hx9 → ∀ u0 u1 u2 : Int32, jiv hx9 125 10 = u0 → jiv hx9 125 8 = u1 → jiv hx9 125 9 = u2 → (u0.toInt ≤ u1.toInt ∧ u2.toInt ≤ u0.toInt) → ∀ u3 u4 u5 : Int32, jiv hx9 125 11 = u3 → jiv hx9 125 9 = u4 → jiv hx9 125 10 = u5 → (u3.toInt = 0 ∨ u4.toInt + 1 ≤ u5.toInt) → jBp 2 4 A h0 v.toInt hx9 → dr.1 = v.toInt → dr.2 = vw hx9 → Q (some (.int v)) hx9) : ∀ (g0 : Int32) (g1 : Int32) (g2 : Int32) (g3 : Int32) (h : jH), 0 ≤ g0.toInt ∧ g0.toInt ≤ 400 → 0 ≤ g1.toInt ∧ g1.toInt ≤ 3 → 0 ≤ g2.toInt ∧ g2.toInt ≤ 400 → 0 ≤ g3.toInt ∧ g3.toInt ≤ 400 → jSa h0 h → ((jiv h0 125 14).toInt ≠ 0 ∨ jNsq h0) → (g0.toInt ≤ g2.toInt ∧ g3.toInt ≤ g0.toInt) → (g1.toInt = 0 ∨ g3.toInt + 1 ≤ g0.toInt) → jiv h 125 10 = g0 → jiv h 125 11 = g1 → jiv h 125 8 = g2 → jiv h 125 9 = g3 → jJ jSgM Dy h → jSm fp_X12_behindSum_r125d h0 h → d_X12_behindSum_r125d_129  (vw h) = dr → jX m_X12_behindSum 4 0 0 129 [(0, .ref 125)] [] h 0 0 Q := by
  intro g0 g1 g2 g3 h y0 y1 y2 y3 C0 C1 y6 y7 z0 z1 z2 z3  J Sm D
  unfold d_X12_behindSum_r125d_129 at D
  try rw [vrf z0] at D
  try rw [vrf z1] at D
  try rw [vrf z2] at D
  try rw [vrf z3] at D
  refine x_aloadn (x := 125) rfl rfl ?_
  refine x_inv (N := m_X12_isCompared) (As := []) (b := 125) (st := []) (dx9 := 2) (mc := 0) (ms := 0) (host := "") 12 rfl t_X12_isCompared ⟨Or.inl q_12_554, i_X12_isCompared.1, i_X12_isCompared.2⟩ ⟨by decide, rfl⟩ (congrArg Prod.fst (J.1.1 125 (12, 92) rfl)) rfl (by decide) rfl rfl ⟨by decide, by decide⟩ (sf_X12_isCompared_r125d  hD J rfl  (fun v4 h ev4 J S1 X2 X3 => ?_))
  have Sm := jSm_tr rfl Sm S1
  try rw [X2] at D
  try rw [← X3] at D
  show jX m_X12_behindSum 4 0 0 133 [(0, .ref 125)] [.int v4] _ 0 0 _
  refine x_ifeq (tgt := 138) rfl rfl (ti_eq rfl jk_0 ⟨fun c5 => ?_, fun c5 => ?_⟩)
  ·
    rw [if_pos (by omega)] at D
    refine x_aloadn (x := 125) rfl rfl ?_
    refine x_bipush (v := 60) rfl kb_60 ?_
    refine x_inv (N := m_X12_isSign) (As := [.int 60]) (b := 125) (st := []) (dx9 := 3) (mc := 0) (ms := 0) (host := "") 12 rfl t_X12_isSign ⟨Or.inl q_12_257, i_X12_isSign.1, i_X12_isSign.2⟩ ⟨by decide, rfl⟩ (congrArg Prod.fst (J.1.1 125 (12, 92) rfl)) rfl (by decide) rfl rfl ⟨by decide, by decide⟩ (jC.of rfl k_X12_isSign rfl ?_)
    show jX m_X12_isSign 3 0 0 0 [(0, .ref 125), (1, .int 60)] [] _ 0 0 _
    refine x_aloadn (x := 125) rfl rfl ?_
    refine z_getM (N := 92) (v := g1) 12 11 rfl f_12_235 rfl J rfl (jmc S1 rfl z1) ?_
    refine x_iconst (v := 3) rfl ki_3 ?_
    refine x_icne (tgt := 22) rfl rfl (ti_ne rfl jk_3 ⟨fun c6 => ?_, fun c6 => ?_⟩)
    ·
      rw [if_neg (by omega)] at D
      refine x_iconst (v := 0) rfl ki_0 ?_
      refine x_zret rfl rfl (by decide) ?_
      show jX m_X12_behindSum 4 0 0 144 [(0, .ref 125)] [.int 0] _ 0 0 _
      refine x_ifeq (tgt := 152) rfl rfl (ti_eq jk_0 jk_0 (br_t (by omega) ?_))
      refine x_aloadn (x := 125) rfl rfl ?_
      refine x_bipush (v := 62) rfl kb_62 ?_
      refine x_inv (N := m_X12_isSign) (As := [.int 62]) (b := 125) (st := []) (dx9 := 3) (mc := 0) (ms := 0) (host := "") 12 rfl t_X12_isSign ⟨Or.inl q_12_257, i_X12_isSign.1, i_X12_isSign.2⟩ ⟨by decide, rfl⟩ (congrArg Prod.fst (J.1.1 125 (12, 92) rfl)) rfl (by decide) rfl rfl ⟨by decide, by decide⟩ (jC.of rfl k_X12_isSign rfl ?_)
      show jX m_X12_isSign 3 0 0 0 [(0, .ref 125), (1, .int 62)] [] _ 0 0 _
      refine x_aloadn (x := 125) rfl rfl ?_
      refine z_getM (N := 92) (v := g1) 12 11 rfl f_12_235 rfl J rfl (jmc S1 rfl z1) ?_
      refine x_iconst (v := 3) rfl ki_3 ?_
      refine x_icne (tgt := 22) rfl rfl (ti_ne rfl jk_3 (bn_t (by omega) ?_))
      refine x_iconst (v := 0) rfl ki_0 ?_
      refine x_zret rfl rfl (by decide) ?_
      show jX m_X12_behindSum 4 0 0 158 [(0, .ref 125)] [.int 0] _ 0 0 _
      refine x_ifeq (tgt := 166) rfl rfl (ti_eq jk_0 jk_0 (br_t (by omega) ?_))
      refine x_bipush (v := 12) rfl kb_12 ?_
      exact jX.sub (jsb_c rfl jsb_n) (ct_X12_behindSum_r125d_168 hA hD hQ  12 g0 g1 g2 g3 h (jr_of jk_12 (by omega)) (jr_of rfl (by omega)) (jr_of rfl (by omega)) (jr_of rfl (by omega)) (jr_of rfl (by omega)) ⟨(jeq_c S1 rfl C0.1), (jeq_c S1 rfl C0.2.1), (jeq_c S1 rfl C0.2.2.1), (jeq_c S1 rfl C0.2.2.2.1), (jmc S1 rfl C0.2.2.2.2.1), (jmc S1 rfl C0.2.2.2.2.2.1), (jmc S1 rfl C0.2.2.2.2.2.2.1), (jmc S1 rfl C0.2.2.2.2.2.2.2)⟩ C1 (by have := jk_12; omega) (by omega) (by omega) (jmc S1 rfl z0) (jmc S1 rfl z1) (jmc S1 rfl z2) (jmc S1 rfl z3) J Sm (by rw [jk_12]; exact D))
    ·
      rw [if_pos (by omega)] at D
      refine x_aloadn (x := 125) rfl rfl ?_
      refine z_getLQ (N := 92) 12 12 rfl f_12_224 rfl J rfl (fun v7 qv7 => ?_)
      have ev7 := jfullL v7
      try rw [vrfL qv7] at D
      refine x_iloadn (x := 60) rfl rfl ?_
      refine z_i2l rfl jk_60 (fun v8 ev8 => ?_)
      refine z_lcmp rfl rfl rfl (fun v9 ev9 => ?_)
      refine x_ifne (tgt := 22) rfl rfl (ti_ne rfl jk_0 ⟨fun c10 => ?_, fun c10 => ?_⟩)
      ·
        rw [if_neg (by omega)] at D
        refine x_iconst (v := 0) rfl ki_0 ?_
        refine x_zret rfl rfl (by decide) ?_
        show jX m_X12_behindSum 4 0 0 144 [(0, .ref 125)] [.int 0] _ 0 0 _
        refine x_ifeq (tgt := 152) rfl rfl (ti_eq jk_0 jk_0 (br_t (by omega) ?_))
        refine x_aloadn (x := 125) rfl rfl ?_
        refine x_bipush (v := 62) rfl kb_62 ?_
        refine x_inv (N := m_X12_isSign) (As := [.int 62]) (b := 125) (st := []) (dx9 := 3) (mc := 0) (ms := 0) (host := "") 12 rfl t_X12_isSign ⟨Or.inl q_12_257, i_X12_isSign.1, i_X12_isSign.2⟩ ⟨by decide, rfl⟩ (congrArg Prod.fst (J.1.1 125 (12, 92) rfl)) rfl (by decide) rfl rfl ⟨by decide, by decide⟩ (jC.of rfl k_X12_isSign rfl ?_)
        show jX m_X12_isSign 3 0 0 0 [(0, .ref 125), (1, .int 62)] [] _ 0 0 _
        refine x_aloadn (x := 125) rfl rfl ?_
        refine z_getM (N := 92) (v := g1) 12 11 rfl f_12_235 rfl J rfl (jmc S1 rfl z1) ?_
        refine x_iconst (v := 3) rfl ki_3 ?_
        refine x_icne (tgt := 22) rfl rfl (ti_ne rfl jk_3 (bn_f (by omega) ?_))
        refine x_aloadn (x := 125) rfl rfl ?_
        refine z_getLQ (N := 92) 12 12 rfl f_12_224 rfl J rfl (fun v11 qv11 => ?_)
        have ev11 := jfullL v11
        try have kqv11 : v7.toInt = v11.toInt := ((vrfL qv7).symm.trans (vrfL qv11))
        try rw [kqv11] at D
        try rw [vrfL qv11] at D
        refine x_iloadn (x := 62) rfl rfl ?_
        refine z_i2l rfl jk_62 (fun v12 ev12 => ?_)
        refine z_lcmp rfl rfl rfl (fun v13 ev13 => ?_)
        refine x_ifne (tgt := 22) rfl rfl (ti_ne rfl jk_0 ⟨fun c14 => ?_, fun c14 => ?_⟩)
        ·
          rw [if_neg (by omega)] at D
          refine x_iconst (v := 0) rfl ki_0 ?_
          refine x_zret rfl rfl (by decide) ?_
          show jX m_X12_behindSum 4 0 0 158 [(0, .ref 125)] [.int 0] _ 0 0 _
          refine x_ifeq (tgt := 166) rfl rfl (ti_eq jk_0 jk_0 (br_t (by omega) ?_))
          refine x_bipush (v := 12) rfl kb_12 ?_
          exact jX.sub (jsb_c rfl jsb_n) (ct_X12_behindSum_r125d_168 hA hD hQ  12 g0 g1 g2 g3 h (jr_of jk_12 (by omega)) (jr_of rfl (by omega)) (jr_of rfl (by omega)) (jr_of rfl (by omega)) (jr_of rfl (by omega)) ⟨(jeq_c S1 rfl C0.1), (jeq_c S1 rfl C0.2.1), (jeq_c S1 rfl C0.2.2.1), (jeq_c S1 rfl C0.2.2.2.1), (jmc S1 rfl C0.2.2.2.2.1), (jmc S1 rfl C0.2.2.2.2.2.1), (jmc S1 rfl C0.2.2.2.2.2.2.1), (jmc S1 rfl C0.2.2.2.2.2.2.2)⟩ C1 (by have := jk_12; omega) (by omega) (by omega) (jmc S1 rfl z0) (jmc S1 rfl z1) (jmc S1 rfl z2) (jmc S1 rfl z3) J Sm (by rw [jk_12]; exact D))
        ·
          rw [if_pos (by omega)] at D
          refine x_iconst (v := 1) rfl ki_1 ?_
          refine x_goto (tgt := 23) rfl rfl ?_
          refine x_zret rfl rfl (by decide) ?_
          show jX m_X12_behindSum 4 0 0 158 [(0, .ref 125)] [.int 1] _ 0 0 _
          refine x_ifeq (tgt := 166) rfl rfl (ti_eq jk_1 jk_0 (br_f (by omega) ?_))
          refine x_bipush (v := 11) rfl kb_11 ?_
          refine x_goto (tgt := 168) rfl rfl ?_
          exact jX.sub (jsb_c rfl jsb_n) (ct_X12_behindSum_r125d_168 hA hD hQ  11 g0 g1 g2 g3 h (jr_of jk_11 (by omega)) (jr_of rfl (by omega)) (jr_of rfl (by omega)) (jr_of rfl (by omega)) (jr_of rfl (by omega)) ⟨(jeq_c S1 rfl C0.1), (jeq_c S1 rfl C0.2.1), (jeq_c S1 rfl C0.2.2.1), (jeq_c S1 rfl C0.2.2.2.1), (jmc S1 rfl C0.2.2.2.2.1), (jmc S1 rfl C0.2.2.2.2.2.1), (jmc S1 rfl C0.2.2.2.2.2.2.1), (jmc S1 rfl C0.2.2.2.2.2.2.2)⟩ C1 (by have := jk_11; omega) (by omega) (by omega) (jmc S1 rfl z0) (jmc S1 rfl z1) (jmc S1 rfl z2) (jmc S1 rfl z3) J Sm (by rw [jk_11]; exact D))
      ·
        rw [if_pos (by omega)] at D
        refine x_iconst (v := 1) rfl ki_1 ?_
        refine x_goto (tgt := 23) rfl rfl ?_
        refine x_zret rfl rfl (by decide) ?_
        show jX m_X12_behindSum 4 0 0 144 [(0, .ref 125)] [.int 1] _ 0 0 _
        refine x_ifeq (tgt := 152) rfl rfl (ti_eq jk_1 jk_0 (br_f (by omega) ?_))
        refine x_bipush (v := 10) rfl kb_10 ?_
        refine x_goto (tgt := 168) rfl rfl ?_
        exact jX.sub (jsb_c rfl jsb_n) (ct_X12_behindSum_r125d_168 hA hD hQ  10 g0 g1 g2 g3 h (jr_of jk_10 (by omega)) (jr_of rfl (by omega)) (jr_of rfl (by omega)) (jr_of rfl (by omega)) (jr_of rfl (by omega)) ⟨(jeq_c S1 rfl C0.1), (jeq_c S1 rfl C0.2.1), (jeq_c S1 rfl C0.2.2.1), (jeq_c S1 rfl C0.2.2.2.1), (jmc S1 rfl C0.2.2.2.2.1), (jmc S1 rfl C0.2.2.2.2.2.1), (jmc S1 rfl C0.2.2.2.2.2.2.1), (jmc S1 rfl C0.2.2.2.2.2.2.2)⟩ C1 (by have := jk_10; omega) (by omega) (by omega) (jmc S1 rfl z0) (jmc S1 rfl z1) (jmc S1 rfl z2) (jmc S1 rfl z3) J Sm (by rw [jk_10]; exact D))
  ·
    rw [if_neg (by omega)] at D
    refine x_iconst (v := 2) rfl ki_2 ?_
    refine x_iret rfl rfl ?_
    exact hQ _ _ (jr_of jk_2 (by omega)) J Sm _ _ _ (jmc S1 rfl z0) (jmc S1 rfl z2) (jmc S1 rfl z3) (by omega) _ _ _ (jmc S1 rfl z1) (jmc S1 rfl z3) (jmc S1 rfl z0) (by omega) (by rw [jk_2]; exact jbp_u (bs_told2 hA ⟨(jeq_c S1 rfl C0.1), (jeq_c S1 rfl C0.2.1), (jeq_c S1 rfl C0.2.2.1), (jeq_c S1 rfl C0.2.2.2.1), (jmc S1 rfl C0.2.2.2.2.1), (jmc S1 rfl C0.2.2.2.2.2.1), (jmc S1 rfl C0.2.2.2.2.2.2.1), (jmc S1 rfl C0.2.2.2.2.2.2.2)⟩ C1) (Or.inl rfl)) ((congrArg Prod.fst D).symm.trans (show 2 = (2 : Int32).toInt from by have := jk_2; omega)) (congrArg Prod.snd D).symm
set_option maxRecDepth 100000 in
set_option maxHeartbeats 4000000 in
theorem ct_X12_behindSum_r125d_116 {Dy : jH → Prop} {h0 : jH} {Q : Option Value → jH → Prop} {dr : (Int × jW)} {A : Nat} (hA : jTu 0 h0 A 1) (hD : jDk Dy) (hQ : ∀ (v : Int32) hx9, 1 ≤ v.toInt ∧ v.toInt ≤ 4 → jJ jSgM Dy hx9 → jSm fp_X12_behindSum_r125d h0 hx9 → ∀ u0 u1 u2 : Int32, jiv hx9 125 10 = u0 → jiv hx9 125 8 = u1 → jiv hx9 125 9 = u2 → (u0.toInt ≤ u1.toInt ∧ u2.toInt ≤ u0.toInt) → ∀ u3 u4 u5 : Int32, jiv hx9 125 11 = u3 → jiv hx9 125 9 = u4 → jiv hx9 125 10 = u5 → (u3.toInt = 0 ∨ u4.toInt + 1 ≤ u5.toInt) → jBp 2 4 A h0 v.toInt hx9 → dr.1 = v.toInt → dr.2 = vw hx9 → Q (some (.int v)) hx9) : ∀ (g0 : Int32) (g1 : Int32) (g2 : Int32) (g3 : Int32) (h : jH), 0 ≤ g0.toInt ∧ g0.toInt ≤ 400 → 0 ≤ g1.toInt ∧ g1.toInt ≤ 3 → 0 ≤ g2.toInt ∧ g2.toInt ≤ 400 → 0 ≤ g3.toInt ∧ g3.toInt ≤ 400 → (jTn A 3 h ∧ jFm 1 A h0 h) → (g0.toInt ≤ g2.toInt ∧ g3.toInt ≤ g0.toInt) → (g1.toInt = 0 ∨ g3.toInt + 1 ≤ g0.toInt) → jiv h 125 10 = g0 → jiv h 125 11 = g1 → jiv h 125 8 = g2 → jiv h 125 9 = g3 → jJ jSgM Dy h → jSm fp_X12_behindSum_r125d h0 h → d_X12_behindSum_r125d_116  (vw h) = dr → jX m_X12_behindSum 4 0 0 116 [] [] h 0 0 Q := by
  intro g0 g1 g2 g3 h y0 y1 y2 y3 C0 y5 y6 z0 z1 z2 z3  J Sm D
  unfold d_X12_behindSum_r125d_116 at D
  try rw [vrf z0] at D
  try rw [vrf z1] at D
  try rw [vrf z2] at D
  try rw [vrf z3] at D
  refine x_iconst (v := 3) rfl ki_3 ?_
  refine x_iret rfl rfl ?_
  exact hQ _ _ (jr_of jk_3 (by omega)) J Sm _ _ _ z0 z2 z3 (by omega) _ _ _ z1 z3 z0 (by omega) (by rw [jk_3]; exact jbp_1 C0) ((congrArg Prod.fst D).symm.trans (show 3 = (3 : Int32).toInt from by have := jk_3; omega)) (congrArg Prod.snd D).symm
set_option maxRecDepth 100000 in
set_option maxHeartbeats 4000000 in
theorem ct_X12_behindSum_r125d_100062 {Dy : jH → Prop} {h0 : jH} {Q : Option Value → jH → Prop} {dr : (Int × jW)} {A : Nat} (hA : jTu 0 h0 A 1) (hD : jDk Dy) (hQ : ∀ (v : Int32) hx9, 1 ≤ v.toInt ∧ v.toInt ≤ 4 → jJ jSgM Dy hx9 → jSm fp_X12_behindSum_r125d h0 hx9 → ∀ u0 u1 u2 : Int32, jiv hx9 125 10 = u0 → jiv hx9 125 8 = u1 → jiv hx9 125 9 = u2 → (u0.toInt ≤ u1.toInt ∧ u2.toInt ≤ u0.toInt) → ∀ u3 u4 u5 : Int32, jiv hx9 125 11 = u3 → jiv hx9 125 9 = u4 → jiv hx9 125 10 = u5 → (u3.toInt = 0 ∨ u4.toInt + 1 ≤ u5.toInt) → jBp 2 4 A h0 v.toInt hx9 → dr.1 = v.toInt → dr.2 = vw hx9 → Q (some (.int v)) hx9) : ∀ (l1 : Int32) (l2 : Int32) (g0 : Int32) (g1 : Int32) (g2 : Int32) (g3 : Int32) (h : jH), 0 ≤ l1.toInt ∧ l1.toInt ≤ 1 → (-1) ≤ l2.toInt ∧ l2.toInt ≤ 2147483647 → 0 ≤ g0.toInt ∧ g0.toInt ≤ 400 → 0 ≤ g1.toInt ∧ g1.toInt ≤ 3 → 0 ≤ g2.toInt ∧ g2.toInt ≤ 400 → 0 ≤ g3.toInt ∧ g3.toInt ≤ 400 → jSa h0 h → jIr (jiv h 150) l2 (jnL h) → (g0.toInt ≤ g2.toInt ∧ g3.toInt ≤ g0.toInt) → (g1.toInt = 0 ∨ g3.toInt + 1 ≤ g0.toInt) → jiv h 125 10 = g0 → jiv h 125 11 = g1 → jiv h 125 8 = g2 → jiv h 125 9 = g3 → jJ jSgM Dy h → jSm fp_X12_behindSum_r125d h0 h → d_X12_behindSum_r125d_100062  l1.toInt l2.toInt (vw h) = dr → jX m_X12_behindSum 4 0 0 62 [(0, .ref 125), (1, .int l1), (2, .int l2)] [.int (-1)] h 0 0 Q := by
  intro l1 l2 g0 g1 g2 g3 h y0 y1 y2 y3 y4 y5 C0 C1 y8 y9 z0 z1 z2 z3  J Sm D
  unfold d_X12_behindSum_r125d_100062 at D
  try rw [vrf z0] at D
  try rw [vrf z1] at D
  try rw [vrf z2] at D
  try rw [vrf z3] at D
  refine x_istoren (lsx9 := [(3, .int (-1)), (0, .ref 125), (1, .int l1), (2, .int l2)]) rfl rfl rfl ?_
  refine x_iloadn (x := (-1)) rfl rfl ?_
  refine x_iconst (v := (-1)) rfl ki_m1 ?_
  refine x_iceq (tgt := 88) rfl rfl (ti_eq jk_m1 jk_m1 (br_t (by omega) ?_))
  refine x_iloadn (x := l2) rfl rfl ?_
  refine x_bipush (v := 31) rfl kb_31 ?_
  refine x_icne (tgt := 118) rfl rfl (ti_ne rfl jk_31 ⟨fun c1 => ?_, fun c1 => ?_⟩)
  ·
    rw [if_neg (by omega)] at D
    refine x_iloadn (x := l2) rfl rfl ?_
    refine x_iconst (v := (-1)) rfl ki_m1 ?_
    refine x_icne (tgt := 129) rfl rfl (ti_ne rfl jk_m1 ⟨fun c2 => ?_, fun c2 => ?_⟩)
    ·
      rw [if_neg (by omega)] at D
      exact jX.sub (jsb_c rfl jsb_n) (ct_X12_behindSum_r125d_129 hA hD hQ  g0 g1 g2 g3 h (jr_of rfl (by omega)) (jr_of rfl (by omega)) (jr_of rfl (by omega)) (jr_of rfl (by omega)) C0 (jns_62 hA C0 C1 (by omega)) (by omega) (by omega) z0 z1 z2 z3 J Sm D)
    ·
      rw [if_pos (by omega)] at D
      refine x_iloadn (x := l1) rfl rfl ?_
      refine x_ifne (tgt := 129) rfl rfl (ti_ne rfl jk_0 ⟨fun c3 => ?_, fun c3 => ?_⟩)
      ·
        rw [if_neg (by omega)] at D
        exact jX.sub (jsb_c rfl jsb_n) (ct_X12_behindSum_r125d_129 hA hD hQ  g0 g1 g2 g3 h (jr_of rfl (by omega)) (jr_of rfl (by omega)) (jr_of rfl (by omega)) (jr_of rfl (by omega)) C0 (jns_62 hA C0 C1 (by omega)) (by omega) (by omega) z0 z1 z2 z3 J Sm D)
      ·
        rw [if_pos (by omega)] at D
        refine x_iconst (v := 4) rfl ki_4 ?_
        refine x_iret rfl rfl ?_
        exact hQ _ _ (jr_of jk_4 (by omega)) J Sm _ _ _ z0 z2 z3 (by omega) _ _ _ z1 z3 z0 (by omega) (by rw [jk_4]; exact jbp_u (bt_over hA C0 C1 (by omega)) (Or.inr rfl)) ((congrArg Prod.fst D).symm.trans (show 4 = (4 : Int32).toInt from by have := jk_4; omega)) (congrArg Prod.snd D).symm
  ·
    rw [if_pos (by omega)] at D
    refine x_aloadn (x := 125) rfl rfl ?_
    refine x_aloadn (x := 125) rfl rfl ?_
    refine x_bipush (v := 93) rfl kb_93 ?_
    refine x_inv (N := m_X12_isSign) (As := [.int 93]) (b := 125) (st := [.ref 125]) (dx9 := 3) (mc := 0) (ms := 0) (host := "") 12 rfl t_X12_isSign ⟨Or.inl q_12_257, i_X12_isSign.1, i_X12_isSign.2⟩ ⟨by decide, rfl⟩ (congrArg Prod.fst (J.1.1 125 (12, 92) rfl)) rfl (by decide) rfl rfl ⟨by decide, by decide⟩ (jC.of rfl k_X12_isSign rfl ?_)
    show jX m_X12_isSign 3 0 0 0 [(0, .ref 125), (1, .int 93)] [] _ 0 0 _
    refine x_aloadn (x := 125) rfl rfl ?_
    refine z_getM (N := 92) (v := g1) 12 11 rfl f_12_235 rfl J rfl z1 ?_
    refine x_iconst (v := 3) rfl ki_3 ?_
    refine x_icne (tgt := 22) rfl rfl (ti_ne rfl jk_3 ⟨fun c4 => ?_, fun c4 => ?_⟩)
    ·
      rw [if_neg (by omega)] at D
      refine x_iconst (v := 0) rfl ki_0 ?_
      refine x_zret rfl rfl (by decide) ?_
      show jX m_X12_behindSum 4 0 0 101 [(3, .int (-1)), (0, .ref 125), (1, .int l1), (2, .int l2)] [.int 0, .ref 125] _ 0 0 _
      refine x_inv (N := m_X12_must) (As := [.int 0]) (b := 125) (st := []) (dx9 := 3) (mc := 0) (ms := 0) (host := "") 12 rfl t_X12_must ⟨Or.inl q_12_250, i_X12_must.1, i_X12_must.2⟩ ⟨by decide, rfl⟩ (congrArg Prod.fst (J.1.1 125 (12, 92) rfl)) rfl (by decide) rfl rfl ⟨by decide, by decide⟩ (jC.of rfl k_X12_must rfl ?_)
      show jX m_X12_must 3 0 0 0 [(0, .ref 125), (1, .int 0)] [] _ 0 0 _
      refine x_aloadn (x := 125) rfl rfl ?_
      refine z_getI (N := 92) 12 14 rfl f_12_214 rfl J rfl sg_125_14_15_1_0_1 (fun v5 qv5 ev5 => ?_)
      try rw [vrf qv5] at D
      refine x_ifne (tgt := 24) rfl rfl (ti_ne rfl jk_0 ⟨fun c6 => ?_, fun c6 => ?_⟩)
      ·
        rw [if_neg (by omega)] at D
        refine x_aloadn (x := 125) rfl rfl ?_
        refine z_getM (N := 92) (v := v5) 12 14 rfl f_12_214 rfl J rfl qv5 ?_
        refine x_ifne (tgt := 35) rfl rfl (ti_ne rfl jk_0 (bn_t (by omega) ?_))
        refine x_vret rfl rfl ?_
        show jX m_X12_behindSum 4 0 0 104 [(3, .int (-1)), (0, .ref 125), (1, .int l1), (2, .int l2)] [] _ 0 0 _
        refine x_aloadn (x := 125) rfl rfl ?_
        refine z_getM (N := 92) (v := v5) 12 14 rfl f_12_214 rfl J rfl qv5 ?_
        refine x_ifne (tgt := 116) rfl rfl (ti_ne rfl jk_0 (bn_t (by omega) ?_))
        exact jX.sub jsb_n (ct_X12_behindSum_r125d_116 hA hD hQ  g0 g1 g2 g3 h (jr_of rfl (by omega)) (jr_of rfl (by omega)) (jr_of rfl (by omega)) (jr_of rfl (by omega)) (jmu_tb (jmu_bad hA C0.1 C0.2.1 C0.2.2.1 C0.2.2.2.1 C0.2.2.2.2.1 C0.2.2.2.2.2.1 C0.2.2.2.2.2.2.1 qv5 (by omega)) qv5 (by omega)) (by omega) (by omega) z0 z1 z2 z3 J Sm D)
      ·
        rw [if_pos (by omega)] at D
        refine x_iloadn (x := 0) rfl rfl ?_
        refine x_ifne (tgt := 24) rfl rfl (ti_ne jk_0 jk_0 (bn_f (by omega) ?_))
        refine x_aloadn (x := 125) rfl rfl ?_
        refine x_iconst (v := 1) rfl ki_1 ?_
        refine z_putZ (N := 92) (w := 1) 12 14 rfl f_12_214 rfl (jfin_no TX12 RX12 92 rfl rfl) hD J Sm rfl rfl jk_1 (by omega) (pw_125_14 (by omega)) rfl (fun h w7 J Sm => ?_)
        rw [vwf w7 (show 1 = (1 : Int32).toInt from by have := jk_1; omega)] at D
        refine x_aloadn (x := 125) rfl rfl ?_
        refine x_aloadn (x := 125) rfl rfl ?_
        refine z_getM (N := 92) (v := g3) 12 9 rfl f_12_221 rfl J rfl (jmo w7 rfl z3) ?_
        refine z_putI (N := 92) (w := g3.toInt) 12 13 rfl f_12_32 rfl (jfin_no TX12 RX12 92 rfl rfl) hD J Sm rfl rfl rfl (pw_125_13 (by omega)) rfl (fun h w8 J Sm => ?_)
        rw [vwf w8 (show g3.toInt = g3.toInt from by omega)] at D
        refine x_aloadn (x := 125) rfl rfl ?_
        refine z_getM (N := 92) (v := 1) 12 14 rfl f_12_214 rfl J rfl (jmo w8 rfl (jmw w7)) ?_
        refine x_ifne (tgt := 35) rfl rfl (ti_ne jk_1 jk_0 (bn_t (by omega) ?_))
        refine x_vret rfl rfl ?_
        show jX m_X12_behindSum 4 0 0 104 [(3, .int (-1)), (0, .ref 125), (1, .int l1), (2, .int l2)] [] _ 0 0 _
        refine x_aloadn (x := 125) rfl rfl ?_
        refine z_getM (N := 92) (v := 1) 12 14 rfl f_12_214 rfl J rfl (jmo w8 rfl (jmw w7)) ?_
        refine x_ifne (tgt := 116) rfl rfl (ti_ne jk_1 jk_0 (bn_t (by omega) ?_))
        exact jX.sub jsb_n (ct_X12_behindSum_r125d_116 hA hD hQ  g0 g1 g2 g3 h (jr_of rfl (by omega)) (jr_of rfl (by omega)) (jr_of rfl (by omega)) (jr_of rfl (by omega)) (jmu_tb (jmu_bad hA (jeq_o w8 rfl (jeq_o w7 rfl C0.1)) (jeq_o w8 rfl (jeq_o w7 rfl C0.2.1)) (jeq_o w8 rfl (jeq_o w7 rfl C0.2.2.1)) (jeq_o w8 rfl (jeq_o w7 rfl C0.2.2.2.1)) (jmo w8 rfl (jmo w7 rfl C0.2.2.2.2.1)) (jmo w8 rfl (jmo w7 rfl C0.2.2.2.2.2.1)) (jmo w8 rfl (jmo w7 rfl C0.2.2.2.2.2.2.1)) (jmo w8 rfl (jmw w7)) (by decide)) (jmo w8 rfl (jmw w7)) (by decide)) (by omega) (by omega) (jmo w8 rfl (jmo w7 rfl z0)) (jmo w8 rfl (jmo w7 rfl z1)) (jmo w8 rfl (jmo w7 rfl z2)) (jmo w8 rfl (jmo w7 rfl z3)) J Sm D)
    ·
      rw [if_pos (by omega)] at D
      refine x_aloadn (x := 125) rfl rfl ?_
      refine z_getLQ (N := 92) 12 12 rfl f_12_224 rfl J rfl (fun v9 qv9 => ?_)
      have ev9 := jfullL v9
      try rw [vrfL qv9] at D
      refine x_iloadn (x := 93) rfl rfl ?_
      refine z_i2l rfl jk_93 (fun v10 ev10 => ?_)
      refine z_lcmp rfl rfl rfl (fun v11 ev11 => ?_)
      refine x_ifne (tgt := 22) rfl rfl (ti_ne rfl jk_0 ⟨fun c12 => ?_, fun c12 => ?_⟩)
      ·
        rw [if_neg (by omega)] at D
        refine x_iconst (v := 0) rfl ki_0 ?_
        refine x_zret rfl rfl (by decide) ?_
        show jX m_X12_behindSum 4 0 0 101 [(3, .int (-1)), (0, .ref 125), (1, .int l1), (2, .int l2)] [.int 0, .ref 125] _ 0 0 _
        refine x_inv (N := m_X12_must) (As := [.int 0]) (b := 125) (st := []) (dx9 := 3) (mc := 0) (ms := 0) (host := "") 12 rfl t_X12_must ⟨Or.inl q_12_250, i_X12_must.1, i_X12_must.2⟩ ⟨by decide, rfl⟩ (congrArg Prod.fst (J.1.1 125 (12, 92) rfl)) rfl (by decide) rfl rfl ⟨by decide, by decide⟩ (jC.of rfl k_X12_must rfl ?_)
        show jX m_X12_must 3 0 0 0 [(0, .ref 125), (1, .int 0)] [] _ 0 0 _
        refine x_aloadn (x := 125) rfl rfl ?_
        refine z_getI (N := 92) 12 14 rfl f_12_214 rfl J rfl sg_125_14_15_1_0_1 (fun v13 qv13 ev13 => ?_)
        try rw [vrf qv13] at D
        refine x_ifne (tgt := 24) rfl rfl (ti_ne rfl jk_0 ⟨fun c14 => ?_, fun c14 => ?_⟩)
        ·
          rw [if_neg (by omega)] at D
          refine x_aloadn (x := 125) rfl rfl ?_
          refine z_getM (N := 92) (v := v13) 12 14 rfl f_12_214 rfl J rfl qv13 ?_
          refine x_ifne (tgt := 35) rfl rfl (ti_ne rfl jk_0 (bn_t (by omega) ?_))
          refine x_vret rfl rfl ?_
          show jX m_X12_behindSum 4 0 0 104 [(3, .int (-1)), (0, .ref 125), (1, .int l1), (2, .int l2)] [] _ 0 0 _
          refine x_aloadn (x := 125) rfl rfl ?_
          refine z_getM (N := 92) (v := v13) 12 14 rfl f_12_214 rfl J rfl qv13 ?_
          refine x_ifne (tgt := 116) rfl rfl (ti_ne rfl jk_0 (bn_t (by omega) ?_))
          exact jX.sub jsb_n (ct_X12_behindSum_r125d_116 hA hD hQ  g0 g1 g2 g3 h (jr_of rfl (by omega)) (jr_of rfl (by omega)) (jr_of rfl (by omega)) (jr_of rfl (by omega)) (jmu_tb (jmu_bad hA C0.1 C0.2.1 C0.2.2.1 C0.2.2.2.1 C0.2.2.2.2.1 C0.2.2.2.2.2.1 C0.2.2.2.2.2.2.1 qv13 (by omega)) qv13 (by omega)) (by omega) (by omega) z0 z1 z2 z3 J Sm D)
        ·
          rw [if_pos (by omega)] at D
          refine x_iloadn (x := 0) rfl rfl ?_
          refine x_ifne (tgt := 24) rfl rfl (ti_ne jk_0 jk_0 (bn_f (by omega) ?_))
          refine x_aloadn (x := 125) rfl rfl ?_
          refine x_iconst (v := 1) rfl ki_1 ?_
          refine z_putZ (N := 92) (w := 1) 12 14 rfl f_12_214 rfl (jfin_no TX12 RX12 92 rfl rfl) hD J Sm rfl rfl jk_1 (by omega) (pw_125_14 (by omega)) rfl (fun h w15 J Sm => ?_)
          rw [vwf w15 (show 1 = (1 : Int32).toInt from by have := jk_1; omega)] at D
          refine x_aloadn (x := 125) rfl rfl ?_
          refine x_aloadn (x := 125) rfl rfl ?_
          refine z_getM (N := 92) (v := g3) 12 9 rfl f_12_221 rfl J rfl (jmo w15 rfl z3) ?_
          refine z_putI (N := 92) (w := g3.toInt) 12 13 rfl f_12_32 rfl (jfin_no TX12 RX12 92 rfl rfl) hD J Sm rfl rfl rfl (pw_125_13 (by omega)) rfl (fun h w16 J Sm => ?_)
          rw [vwf w16 (show g3.toInt = g3.toInt from by omega)] at D
          refine x_aloadn (x := 125) rfl rfl ?_
          refine z_getM (N := 92) (v := 1) 12 14 rfl f_12_214 rfl J rfl (jmo w16 rfl (jmw w15)) ?_
          refine x_ifne (tgt := 35) rfl rfl (ti_ne jk_1 jk_0 (bn_t (by omega) ?_))
          refine x_vret rfl rfl ?_
          show jX m_X12_behindSum 4 0 0 104 [(3, .int (-1)), (0, .ref 125), (1, .int l1), (2, .int l2)] [] _ 0 0 _
          refine x_aloadn (x := 125) rfl rfl ?_
          refine z_getM (N := 92) (v := 1) 12 14 rfl f_12_214 rfl J rfl (jmo w16 rfl (jmw w15)) ?_
          refine x_ifne (tgt := 116) rfl rfl (ti_ne jk_1 jk_0 (bn_t (by omega) ?_))
          exact jX.sub jsb_n (ct_X12_behindSum_r125d_116 hA hD hQ  g0 g1 g2 g3 h (jr_of rfl (by omega)) (jr_of rfl (by omega)) (jr_of rfl (by omega)) (jr_of rfl (by omega)) (jmu_tb (jmu_bad hA (jeq_o w16 rfl (jeq_o w15 rfl C0.1)) (jeq_o w16 rfl (jeq_o w15 rfl C0.2.1)) (jeq_o w16 rfl (jeq_o w15 rfl C0.2.2.1)) (jeq_o w16 rfl (jeq_o w15 rfl C0.2.2.2.1)) (jmo w16 rfl (jmo w15 rfl C0.2.2.2.2.1)) (jmo w16 rfl (jmo w15 rfl C0.2.2.2.2.2.1)) (jmo w16 rfl (jmo w15 rfl C0.2.2.2.2.2.2.1)) (jmo w16 rfl (jmw w15)) (by decide)) (jmo w16 rfl (jmw w15)) (by decide)) (by omega) (by omega) (jmo w16 rfl (jmo w15 rfl z0)) (jmo w16 rfl (jmo w15 rfl z1)) (jmo w16 rfl (jmo w15 rfl z2)) (jmo w16 rfl (jmo w15 rfl z3)) J Sm D)
      ·
        rw [if_pos (by omega)] at D
        refine x_iconst (v := 1) rfl ki_1 ?_
        refine x_goto (tgt := 23) rfl rfl ?_
        refine x_zret rfl rfl (by decide) ?_
        show jX m_X12_behindSum 4 0 0 101 [(3, .int (-1)), (0, .ref 125), (1, .int l1), (2, .int l2)] [.int 1, .ref 125] _ 0 0 _
        refine x_inv (N := m_X12_must) (As := [.int 1]) (b := 125) (st := []) (dx9 := 3) (mc := 0) (ms := 0) (host := "") 12 rfl t_X12_must ⟨Or.inl q_12_250, i_X12_must.1, i_X12_must.2⟩ ⟨by decide, rfl⟩ (congrArg Prod.fst (J.1.1 125 (12, 92) rfl)) rfl (by decide) rfl rfl ⟨by decide, by decide⟩ (jC.of rfl k_X12_must rfl ?_)
        show jX m_X12_must 3 0 0 0 [(0, .ref 125), (1, .int 1)] [] _ 0 0 _
        refine x_aloadn (x := 125) rfl rfl ?_
        refine z_getI (N := 92) 12 14 rfl f_12_214 rfl J rfl sg_125_14_15_1_0_1 (fun v17 qv17 ev17 => ?_)
        try rw [vrf qv17] at D
        refine x_ifne (tgt := 24) rfl rfl (ti_ne rfl jk_0 ⟨fun c18 => ?_, fun c18 => ?_⟩)
        ·
          rw [if_neg (by omega)] at D
          refine x_aloadn (x := 125) rfl rfl ?_
          refine z_getM (N := 92) (v := v17) 12 14 rfl f_12_214 rfl J rfl qv17 ?_
          refine x_ifne (tgt := 35) rfl rfl (ti_ne rfl jk_0 (bn_t (by omega) ?_))
          refine x_vret rfl rfl ?_
          show jX m_X12_behindSum 4 0 0 104 [(3, .int (-1)), (0, .ref 125), (1, .int l1), (2, .int l2)] [] _ 0 0 _
          refine x_aloadn (x := 125) rfl rfl ?_
          refine z_getM (N := 92) (v := v17) 12 14 rfl f_12_214 rfl J rfl qv17 ?_
          refine x_ifne (tgt := 116) rfl rfl (ti_ne rfl jk_0 (bn_t (by omega) ?_))
          exact jX.sub jsb_n (ct_X12_behindSum_r125d_116 hA hD hQ  g0 g1 g2 g3 h (jr_of rfl (by omega)) (jr_of rfl (by omega)) (jr_of rfl (by omega)) (jr_of rfl (by omega)) (jmu_tb (jmu_bad hA C0.1 C0.2.1 C0.2.2.1 C0.2.2.2.1 C0.2.2.2.2.1 C0.2.2.2.2.2.1 C0.2.2.2.2.2.2.1 qv17 (by omega)) qv17 (by omega)) (by omega) (by omega) z0 z1 z2 z3 J Sm D)
        ·
          rw [if_pos (by omega)] at D
          refine x_iloadn (x := 1) rfl rfl ?_
          refine x_ifne (tgt := 24) rfl rfl (ti_ne jk_1 jk_0 (bn_t (by omega) ?_))
          refine x_aloadn (x := 125) rfl rfl ?_
          refine z_getM (N := 92) (v := v17) 12 14 rfl f_12_214 rfl J rfl qv17 ?_
          refine x_ifne (tgt := 35) rfl rfl (ti_ne rfl jk_0 (bn_f (by omega) ?_))
          refine x_aloadn (x := 125) rfl rfl ?_
          refine x_inv (N := m_X12_next) (As := []) (b := 125) (st := []) (dx9 := 2) (mc := 0) (ms := 0) (host := "") 12 rfl t_X12_next ⟨Or.inl q_12_218, i_X12_next.1, i_X12_next.2⟩ ⟨by decide, rfl⟩ (congrArg Prod.fst (J.1.1 125 (12, 92) rfl)) rfl (by decide) rfl rfl ⟨by decide, by decide⟩ (sf_X12_next_r125d  hD J z0 z2 (by omega) rfl  (fun h J S19 u20 u21 u22 qu20 qu21 qu22 ru20 u23 u24 u25 qu23 qu24 qu25 ru23 P26 X27 => ?_))
          have Sm := jSm_tr rfl Sm S19
          rw [X27] at D
          have eu20 := (show 0 ≤ u20.toInt ∧ u20.toInt ≤ 400 from qu20 ▸ jrg_f J sg_125_10_11_1_0_1)
          try rw [vrf qu20] at D
          have eu21 := (show 0 ≤ u21.toInt ∧ u21.toInt ≤ 400 from qu21 ▸ jrg_f J sg_125_8_9_1_0_1)
          try rw [vrf (jmb_c S19 qu21 rfl)] at D
          have eu22 := (show 0 ≤ u22.toInt ∧ u22.toInt ≤ 400 from qu22 ▸ jrg_f J sg_125_9_10_1_0_1)
          try rw [vrf qu22] at D
          have eu23 := (show 0 ≤ u23.toInt ∧ u23.toInt ≤ 3 from qu23 ▸ jrg_f J sg_125_11_12_1_0_1)
          try rw [vrf qu23] at D
          obtain rfl : u22 = u24 := qu22.symm.trans qu24
          obtain rfl : u20 = u25 := qu20.symm.trans qu25
          have nfP26 := jnf P26.1 z0 qu22
          show jX m_X12_must 3 0 0 35 [(0, .ref 125), (1, .int 1)] [] _ 0 0 _
          refine x_vret rfl rfl ?_
          show jX m_X12_behindSum 4 0 0 104 [(3, .int (-1)), (0, .ref 125), (1, .int l1), (2, .int l2)] [] _ 0 0 _
          refine x_aloadn (x := 125) rfl rfl ?_
          refine z_getM (N := 92) (v := v17) 12 14 rfl f_12_214 rfl J rfl (jmc S19 rfl qv17) ?_
          refine x_ifne (tgt := 116) rfl rfl (ti_ne rfl jk_0 (bn_f (by omega) ?_))
          refine x_aloadn (x := 125) rfl rfl ?_
          refine x_iconst (v := 5) rfl ki_5 ?_
          refine x_inv (N := m_X12_close) (As := [.int 5]) (b := 125) (st := []) (dx9 := 3) (mc := 0) (ms := 0) (host := "") 12 rfl t_X12_close ⟨Or.inl q_12_551, i_X12_close.1, i_X12_close.2⟩ ⟨by decide, rfl⟩ (congrArg Prod.fst (J.1.1 125 (12, 92) rfl)) rfl (by decide) rfl rfl ⟨by decide, by decide⟩ (jC.of rfl k_X12_close rfl ?_)
          show jX m_X12_close 3 0 0 0 [(0, .ref 125), (1, .int 5)] [] _ 0 0 _
          refine x_aloadn (x := 125) rfl rfl ?_
          refine x_iloadn (x := 5) rfl rfl ?_
          refine x_inv (N := m_X12_settle) (As := [.int 5]) (b := 125) (st := []) (dx9 := 2) (mc := 0) (ms := 0) (host := "") 12 rfl t_X12_settle ⟨Or.inl q_12_548, i_X12_settle.1, i_X12_settle.2⟩ ⟨by decide, rfl⟩ (congrArg Prod.fst (J.1.1 125 (12, 92) rfl)) rfl (by decide) rfl rfl ⟨by decide, by decide⟩ (sf_X12_settle_r125d (jr_of jk_5 (by omega)) (K9 := 1) (by decide) (jmu_1 (jmu_on hA (jeq_c S19 rfl C0.1) (jeq_c S19 rfl C0.2.1) (jeq_c S19 rfl C0.2.2.1) (jeq_c S19 rfl C0.2.2.2.1) (jmc S19 rfl C0.2.2.2.2.1) (jmc S19 rfl C0.2.2.2.2.2.1) (jmc S19 rfl C0.2.2.2.2.2.2.2) (C0.2.2.2.2.2.2.1.symm.trans z3) qu22 (by omega)) (jmc S19 rfl qv17) (by omega)) hD J rfl  (fun h J S28 P29 X30 => ?_))
          have Sm := jSm_tr rfl Sm S28
          try rw [jk_5] at X30
          rw [X30] at D
          show jX m_X12_close 3 0 0 5 [(0, .ref 125), (1, .int 5)] [] _ 0 0 _
          refine x_aloadn (x := 125) rfl rfl ?_
          refine x_dup rfl rfl ?_
          refine z_getI (N := 92) 12 55 rfl f_12_496 rfl J rfl sg_125_55_56_1_0_1 (fun v31 qv31 ev31 => ?_)
          try rw [vrf qv31] at D
          have px := cl_l (jmu_on hA (jeq_c S19 rfl C0.1) (jeq_c S19 rfl C0.2.1) (jeq_c S19 rfl C0.2.2.1) (jeq_c S19 rfl C0.2.2.2.1) (jmc S19 rfl C0.2.2.2.2.1) (jmc S19 rfl C0.2.2.2.2.2.1) (jmc S19 rfl C0.2.2.2.2.2.2.2) (C0.2.2.2.2.2.2.1.symm.trans z3) qu22 (by omega)) (jmc S19 rfl qv17) (by omega) (jir_bk C0.2.2.1 C0.2.2.2.2.2.1 C1) P29 (Or.inl ⟨rfl, (by omega)⟩) qv31
          refine x_iconst (v := 1) rfl ki_1 ?_
          refine z_isub rfl rfl jk_1 (by omega) (fun v32 ev32 => ?_)
          refine z_putI (N := 92) (w := v32.toInt) 12 55 rfl f_12_496 rfl (jfin_no TX12 RX12 92 rfl rfl) hD J Sm rfl rfl rfl (pw_125_55 (by omega)) rfl (fun h w33 J Sm => ?_)
          rw [vwf w33 (show (v31.toInt - 1) = v32.toInt from by omega)] at D
          refine x_aloadn (x := 125) rfl rfl ?_
          refine x_dup rfl rfl ?_
          refine z_getI0 (N := 92) 12 56 rfl f_12_533 rfl J rfl (fun v34 qv34 => ?_)
          have ev34 := jfull v34
          try rw [vrf (jmb_c S19 (jmb_c S28 (jmb_w w33 qv34 rfl) rfl) rfl)] at D
          refine x_iconst (v := 1) rfl ki_1 ?_
          refine z_isubW rfl rfl jk_1 (fun v35 ev35 => ?_)
          have fv35 := jfull v35
          try rw [← ev35] at D
          refine z_putI (N := 92) (w := v35.toInt) 12 56 rfl f_12_533 rfl (jfin_no TX12 RX12 92 rfl rfl) hD J Sm rfl rfl rfl (pw_125_56 trivial) rfl (fun h w36 J Sm => ?_)
          rw [vwf w36 (show v35.toInt = v35.toInt from by omega)] at D
          refine x_vret rfl rfl ?_
          show jX m_X12_behindSum 4 0 0 116 [(3, .int (-1)), (0, .ref 125), (1, .int l1), (2, .int l2)] [] _ 0 0 _
          exact jX.sub jsb_n (ct_X12_behindSum_r125d_116 hA hD hQ  u20 u23 u21 u22 h (jr_of rfl (by omega)) (jr_of rfl (by omega)) (jr_of rfl (by omega)) (jr_of rfl (by omega)) (cl_mark (jmu_on hA (jeq_c S19 rfl C0.1) (jeq_c S19 rfl C0.2.1) (jeq_c S19 rfl C0.2.2.1) (jeq_c S19 rfl C0.2.2.2.1) (jmc S19 rfl C0.2.2.2.2.1) (jmc S19 rfl C0.2.2.2.2.2.1) (jmc S19 rfl C0.2.2.2.2.2.2.2) (C0.2.2.2.2.2.2.1.symm.trans z3) qu22 (by omega)) (jmc S19 rfl qv17) (by omega) (jir_bk C0.2.2.1 C0.2.2.2.2.2.1 C1) P29 (jmc S28 rfl rfl) (jmc S28 rfl rfl) (Or.inl ⟨rfl, (by omega), rfl⟩) (Or.inl rfl) qv31 w33 (by omega) w36).2 (by omega) (by omega) (jmo w36 rfl (jmo w33 rfl (jmc S28 rfl qu20))) (jmo w36 rfl (jmo w33 rfl (jmc S28 rfl qu23))) (jmo w36 rfl (jmo w33 rfl (jmc S28 rfl qu21))) (jmo w36 rfl (jmo w33 rfl (jmc S28 rfl qu22))) J Sm D)
set_option maxRecDepth 100000 in
set_option maxHeartbeats 4000000 in
theorem ct_X12_behindSum_r125d_62 {Dy : jH → Prop} {h0 : jH} {Q : Option Value → jH → Prop} {dr : (Int × jW)} {A : Nat} (hA : jTu 0 h0 A 1) (hD : jDk Dy) (hQ : ∀ (v : Int32) hx9, 1 ≤ v.toInt ∧ v.toInt ≤ 4 → jJ jSgM Dy hx9 → jSm fp_X12_behindSum_r125d h0 hx9 → ∀ u0 u1 u2 : Int32, jiv hx9 125 10 = u0 → jiv hx9 125 8 = u1 → jiv hx9 125 9 = u2 → (u0.toInt ≤ u1.toInt ∧ u2.toInt ≤ u0.toInt) → ∀ u3 u4 u5 : Int32, jiv hx9 125 11 = u3 → jiv hx9 125 9 = u4 → jiv hx9 125 10 = u5 → (u3.toInt = 0 ∨ u4.toInt + 1 ≤ u5.toInt) → jBp 2 4 A h0 v.toInt hx9 → dr.1 = v.toInt → dr.2 = vw hx9 → Q (some (.int v)) hx9) : ∀ (l1 : Int32) (l2 : Int32) (g0 : Int32) (g1 : Int32) (g2 : Int32) (g3 : Int32) (h : jH), 0 ≤ l1.toInt ∧ l1.toInt ≤ 1 → (-1) ≤ l2.toInt ∧ l2.toInt ≤ 2147483647 → 0 ≤ g0.toInt ∧ g0.toInt ≤ 400 → 3 ≤ g1.toInt ∧ g1.toInt ≤ 3 → 0 ≤ g2.toInt ∧ g2.toInt ≤ 400 → 0 ≤ g3.toInt ∧ g3.toInt ≤ 400 → jSa h0 h → jIr (jiv h 150) l2 (jnL h) → g1.toInt ≠ 0 → (g0.toInt ≤ g2.toInt ∧ g3.toInt ≤ g0.toInt) → (g1.toInt = 0 ∨ g3.toInt + 1 ≤ g0.toInt) → jiv h 125 10 = g0 → jiv h 125 11 = g1 → jiv h 125 8 = g2 → jiv h 125 9 = g3 → jJ jSgM Dy h → jSm fp_X12_behindSum_r125d h0 h → d_X12_behindSum_r125d_62  l1.toInt l2.toInt (vw h) = dr → jX m_X12_behindSum 4 0 0 62 [(0, .ref 125), (1, .int l1), (2, .int l2)] [.int 9] h 0 0 Q := by
  intro l1 l2 g0 g1 g2 g3 h y0 y1 y2 y3 y4 y5 C0 C1 y8 y9 y10 z0 z1 z2 z3  J Sm D
  unfold d_X12_behindSum_r125d_62 at D
  try rw [vrf z0] at D
  try rw [vrf z1] at D
  try rw [vrf z2] at D
  try rw [vrf z3] at D
  refine x_istoren (lsx9 := [(3, .int 9), (0, .ref 125), (1, .int l1), (2, .int l2)]) rfl rfl rfl ?_
  refine x_iloadn (x := 9) rfl rfl ?_
  refine x_iconst (v := (-1)) rfl ki_m1 ?_
  refine x_iceq (tgt := 88) rfl rfl (ti_eq jk_9 jk_m1 (br_f (by omega) ?_))
  refine x_aloadn (x := 125) rfl rfl ?_
  refine x_iloadn (x := 9) rfl rfl ?_
  refine x_inst (N := m_X12_binds) (As := [.int 9]) (st := [.ref 125]) (dx9 := 3) (mc := 0) (ms := 0) (host := "") rfl t_X12_binds ⟨Or.inl q_12_499, s_X12_binds⟩ rfl (by decide) rfl rfl ⟨by decide, by decide⟩ (jC.of rfl k_X12_binds rfl ?_)
  show jX m_X12_binds 3 0 0 0 [(0, .int 9)] [] _ 0 0 _
  refine x_iloadn (x := 9) rfl rfl ?_
  refine x_bipush (v := 30) rfl kb_30 ?_
  refine x_iclt (tgt := 10) rfl rfl (ti_lt jk_9 jk_30 (br_t (by omega) ?_))
  refine x_iloadn (x := 9) rfl rfl ?_
  refine x_bipush (v := 20) rfl kb_20 ?_
  refine x_icne (tgt := 20) rfl rfl (ti_ne jk_9 jk_20 (bn_t (by omega) ?_))
  refine x_iloadn (x := 9) rfl rfl ?_
  refine x_bipush (v := 19) rfl kb_19 ?_
  refine x_icne (tgt := 30) rfl rfl (ti_ne jk_9 jk_19 (bn_t (by omega) ?_))
  refine x_iloadn (x := 9) rfl rfl ?_
  refine x_bipush (v := 18) rfl kb_18 ?_
  refine x_icne (tgt := 40) rfl rfl (ti_ne jk_9 jk_18 (bn_t (by omega) ?_))
  refine x_iloadn (x := 9) rfl rfl ?_
  refine x_bipush (v := 10) rfl kb_10 ?_
  refine x_iclt (tgt := 50) rfl rfl (ti_lt jk_9 jk_10 (br_t (by omega) ?_))
  refine x_iloadn (x := 9) rfl rfl ?_
  refine x_bipush (v := 8) rfl kb_8 ?_
  refine x_iclt (tgt := 61) rfl rfl (ti_lt jk_9 jk_8 (br_f (by omega) ?_))
  refine x_bipush (v := 6) rfl kb_6 ?_
  refine x_goto (tgt := 62) rfl rfl ?_
  refine x_iret rfl rfl ?_
  show jX m_X12_behindSum 4 0 0 73 [(3, .int 9), (0, .ref 125), (1, .int l1), (2, .int l2)] [.int 6, .ref 125] _ 0 0 _
  refine x_inv (N := m_X12_settle) (As := [.int 6]) (b := 125) (st := []) (dx9 := 2) (mc := 0) (ms := 0) (host := "") 12 rfl t_X12_settle ⟨Or.inl q_12_548, i_X12_settle.1, i_X12_settle.2⟩ ⟨by decide, rfl⟩ (congrArg Prod.fst (J.1.1 125 (12, 92) rfl)) rfl (by decide) rfl rfl ⟨by decide, by decide⟩ (sf_X12_settle_r125d (jr_of jk_6 (by omega)) (K9 := 0) (by decide) (jtu_sa hA C0) hD J rfl  (fun h J S1 P2 X3 => ?_))
  have Sm := jSm_tr rfl Sm S1
  try rw [jk_6] at X3
  rw [X3] at D
  show jX m_X12_behindSum 4 0 0 76 [(3, .int 9), (0, .ref 125), (1, .int l1), (2, .int l2)] [] _ 0 0 _
  refine x_aloadn (x := 125) rfl rfl ?_
  refine x_iloadn (x := 9) rfl rfl ?_
  refine x_iconst (v := 0) rfl ki_0 ?_
  refine x_inv (N := m_X12_push) (As := [.int 9, .int 0]) (b := 125) (st := []) (dx9 := 3) (mc := 0) (ms := 0) (host := "") 12 rfl t_X12_push ⟨Or.inl q_12_536, i_X12_push.1, i_X12_push.2⟩ ⟨by decide, rfl⟩ (congrArg Prod.fst (J.1.1 125 (12, 92) rfl)) rfl (by decide) rfl rfl ⟨by decide, by decide⟩ (jC.of rfl k_X12_push rfl ?_)
  show jX m_X12_push 3 0 0 0 [(0, .ref 125), (1, .int 9), (2, .int 0)] [] _ 0 0 _
  obtain ⟨u4, qu4⟩ : ∃ v : Int32, jiv h 125 55 = v := ⟨_, rfl⟩
  have eu4 := (show 0 ≤ u4.toInt ∧ u4.toInt ≤ 400 from qu4 ▸ jrg_f J sg_125_55_56_1_0_1)
  try rw [vrf qu4] at D
  have lx := jtw_l P2.1.1.1 qu4 (jmc S1 rfl z3)
  refine x_aloadn (x := 125) rfl rfl ?_
  refine z_getR (N := 92) (b := 150) 12 53 rfl f_12_105 rfl J rfl 16053 ⟨rfl, rfl⟩ rfl ?_
  refine x_aloadn (x := 125) rfl rfl ?_
  refine z_getM (N := 92) (v := u4) 12 55 rfl f_12_496 rfl J rfl qu4 ?_
  refine x_iloadn (x := 9) rfl rfl ?_
  refine z_iast (N := 400) (l := 0) (u := 400) (w := 9) rfl hD J Sm rfl rfl rfl (by omega) jk_9 (wr_150) rfl (fun h w5 J Sm => ?_)
  rw [vww w5 (show u4.toInt = u4.toInt from by omega) (show 9 = (9 : Int32).toInt from by have := jk_9; omega)] at D
  refine x_aloadn (x := 125) rfl rfl ?_
  refine z_getR (N := 92) (b := 151) 12 54 rfl f_12_108 rfl J rfl 16054 ⟨rfl, rfl⟩ rfl ?_
  refine x_aloadn (x := 125) rfl rfl ?_
  refine z_getM (N := 92) (v := u4) 12 55 rfl f_12_496 rfl J rfl (jmo w5 rfl qu4) ?_
  refine x_iloadn (x := 0) rfl rfl ?_
  refine z_iast (N := 400) (l := 0) (u := 400) (w := 0) rfl hD J Sm rfl rfl rfl (by omega) jk_0 (wr_151) rfl (fun h w6 J Sm => ?_)
  rw [vww w6 (show u4.toInt = u4.toInt from by omega) (show 0 = (0 : Int32).toInt from by have := jk_0; omega)] at D
  refine x_aloadn (x := 125) rfl rfl ?_
  refine x_dup rfl rfl ?_
  refine z_getM (N := 92) (v := u4) 12 55 rfl f_12_496 rfl J rfl (jmo w6 rfl (jmo w5 rfl qu4)) ?_
  refine x_iconst (v := 1) rfl ki_1 ?_
  refine z_iadd rfl rfl jk_1 (by omega) (fun v7 ev7 => ?_)
  refine z_putI (N := 92) (w := v7.toInt) 12 55 rfl f_12_496 rfl (jfin_no TX12 RX12 92 rfl rfl) hD J Sm rfl rfl rfl (pw_125_55 (by omega)) rfl (fun h w8 J Sm => ?_)
  rw [vwf w8 (show (u4.toInt + 1) = v7.toInt from by omega)] at D
  refine x_vret rfl rfl ?_
  show jX m_X12_behindSum 4 0 0 82 [(3, .int 9), (0, .ref 125), (1, .int l1), (2, .int l2)] [] _ 0 0 _
  refine x_aloadn (x := 125) rfl rfl ?_
  refine x_inv (N := m_X12_next) (As := []) (b := 125) (st := []) (dx9 := 2) (mc := 0) (ms := 0) (host := "") 12 rfl t_X12_next ⟨Or.inl q_12_218, i_X12_next.1, i_X12_next.2⟩ ⟨by decide, rfl⟩ (congrArg Prod.fst (J.1.1 125 (12, 92) rfl)) rfl (by decide) rfl rfl ⟨by decide, by decide⟩ (sf_X12_next_r125d  hD J (jmo w8 rfl (jmo w6 rfl (jmo w5 rfl (jmc S1 rfl z0)))) (jmo w8 rfl (jmo w6 rfl (jmo w5 rfl (jmc S1 rfl z2)))) (by omega) rfl  (fun h J S9 u10 u11 u12 qu10 qu11 qu12 ru10 u13 u14 u15 qu13 qu14 qu15 ru13 P16 X17 => ?_))
  have Sm := jSm_tr rfl Sm S9
  rw [X17] at D
  have eu10 := (show 0 ≤ u10.toInt ∧ u10.toInt ≤ 400 from qu10 ▸ jrg_f J sg_125_10_11_1_0_1)
  try rw [vrf qu10] at D
  have eu11 := (show 0 ≤ u11.toInt ∧ u11.toInt ≤ 400 from qu11 ▸ jrg_f J sg_125_8_9_1_0_1)
  try rw [vrf (jmb_c S1 (jmb_w w5 (jmb_w w6 (jmb_w w8 (jmb_c S9 qu11 rfl) rfl) rfl) rfl) rfl)] at D
  have eu12 := (show 0 ≤ u12.toInt ∧ u12.toInt ≤ 400 from qu12 ▸ jrg_f J sg_125_9_10_1_0_1)
  try rw [vrf qu12] at D
  have eu13 := (show 0 ≤ u13.toInt ∧ u13.toInt ≤ 3 from qu13 ▸ jrg_f J sg_125_11_12_1_0_1)
  try rw [vrf qu13] at D
  obtain rfl : u12 = u14 := qu12.symm.trans qu14
  obtain rfl : u10 = u15 := qu10.symm.trans qu15
  have nfP16 := jnf P16.1 (jmo w8 rfl (jmo w6 rfl (jmo w5 rfl (jmc S1 rfl z0)))) qu12
  show jX m_X12_behindSum 4 0 0 86 [(3, .int 9), (0, .ref 125), (1, .int l1), (2, .int l2)] [] _ 0 0 _
  refine x_iconst (v := 1) rfl ki_1 ?_
  refine x_iret rfl rfl ?_
  exact hQ _ _ (jr_of jk_1 (by omega)) J Sm _ _ _ qu10 qu11 qu12 (by omega) _ _ _ qu13 qu12 qu10 (by omega) (by rw [jk_1]; exact jbp_1 (bs_arith hA C0 P2 (jmc S1 rfl rfl) (jmc S1 rfl rfl) qu4 w5 w6 w8 (by omega) (by decide) (jeq_c S9 rfl jeq_0) (jeq_c S9 rfl jeq_0) (jeq_c S9 rfl jeq_0) (jeq_c S9 rfl jeq_0) (jmc S9 rfl rfl) (jmc S9 rfl rfl) (jmc S9 rfl rfl) (jmc S1 rfl z3) qu12 (by omega))) ((congrArg Prod.fst D).symm.trans (show 1 = (1 : Int32).toInt from by have := jk_1; omega)) (congrArg Prod.snd D).symm
set_option maxRecDepth 100000 in
set_option maxHeartbeats 4000000 in
theorem ct_X12_behindSum_r125d_1000062 {Dy : jH → Prop} {h0 : jH} {Q : Option Value → jH → Prop} {dr : (Int × jW)} {A : Nat} (hA : jTu 0 h0 A 1) (hD : jDk Dy) (hQ : ∀ (v : Int32) hx9, 1 ≤ v.toInt ∧ v.toInt ≤ 4 → jJ jSgM Dy hx9 → jSm fp_X12_behindSum_r125d h0 hx9 → ∀ u0 u1 u2 : Int32, jiv hx9 125 10 = u0 → jiv hx9 125 8 = u1 → jiv hx9 125 9 = u2 → (u0.toInt ≤ u1.toInt ∧ u2.toInt ≤ u0.toInt) → ∀ u3 u4 u5 : Int32, jiv hx9 125 11 = u3 → jiv hx9 125 9 = u4 → jiv hx9 125 10 = u5 → (u3.toInt = 0 ∨ u4.toInt + 1 ≤ u5.toInt) → jBp 2 4 A h0 v.toInt hx9 → dr.1 = v.toInt → dr.2 = vw hx9 → Q (some (.int v)) hx9) : ∀ (l1 : Int32) (l2 : Int32) (g0 : Int32) (g1 : Int32) (g2 : Int32) (g3 : Int32) (h : jH), 0 ≤ l1.toInt ∧ l1.toInt ≤ 1 → (-1) ≤ l2.toInt ∧ l2.toInt ≤ 2147483647 → 0 ≤ g0.toInt ∧ g0.toInt ≤ 400 → 3 ≤ g1.toInt ∧ g1.toInt ≤ 3 → 0 ≤ g2.toInt ∧ g2.toInt ≤ 400 → 0 ≤ g3.toInt ∧ g3.toInt ≤ 400 → jSa h0 h → jIr (jiv h 150) l2 (jnL h) → g1.toInt ≠ 0 → (g0.toInt ≤ g2.toInt ∧ g3.toInt ≤ g0.toInt) → (g1.toInt = 0 ∨ g3.toInt + 1 ≤ g0.toInt) → jiv h 125 10 = g0 → jiv h 125 11 = g1 → jiv h 125 8 = g2 → jiv h 125 9 = g3 → jJ jSgM Dy h → jSm fp_X12_behindSum_r125d h0 h → d_X12_behindSum_r125d_1000062  l1.toInt l2.toInt (vw h) = dr → jX m_X12_behindSum 4 0 0 62 [(0, .ref 125), (1, .int l1), (2, .int l2)] [.int 8] h 0 0 Q := by
  intro l1 l2 g0 g1 g2 g3 h y0 y1 y2 y3 y4 y5 C0 C1 y8 y9 y10 z0 z1 z2 z3  J Sm D
  unfold d_X12_behindSum_r125d_1000062 at D
  try rw [vrf z0] at D
  try rw [vrf z1] at D
  try rw [vrf z2] at D
  try rw [vrf z3] at D
  refine x_istoren (lsx9 := [(3, .int 8), (0, .ref 125), (1, .int l1), (2, .int l2)]) rfl rfl rfl ?_
  refine x_iloadn (x := 8) rfl rfl ?_
  refine x_iconst (v := (-1)) rfl ki_m1 ?_
  refine x_iceq (tgt := 88) rfl rfl (ti_eq jk_8 jk_m1 (br_f (by omega) ?_))
  refine x_aloadn (x := 125) rfl rfl ?_
  refine x_iloadn (x := 8) rfl rfl ?_
  refine x_inst (N := m_X12_binds) (As := [.int 8]) (st := [.ref 125]) (dx9 := 3) (mc := 0) (ms := 0) (host := "") rfl t_X12_binds ⟨Or.inl q_12_499, s_X12_binds⟩ rfl (by decide) rfl rfl ⟨by decide, by decide⟩ (jC.of rfl k_X12_binds rfl ?_)
  show jX m_X12_binds 3 0 0 0 [(0, .int 8)] [] _ 0 0 _
  refine x_iloadn (x := 8) rfl rfl ?_
  refine x_bipush (v := 30) rfl kb_30 ?_
  refine x_iclt (tgt := 10) rfl rfl (ti_lt jk_8 jk_30 (br_t (by omega) ?_))
  refine x_iloadn (x := 8) rfl rfl ?_
  refine x_bipush (v := 20) rfl kb_20 ?_
  refine x_icne (tgt := 20) rfl rfl (ti_ne jk_8 jk_20 (bn_t (by omega) ?_))
  refine x_iloadn (x := 8) rfl rfl ?_
  refine x_bipush (v := 19) rfl kb_19 ?_
  refine x_icne (tgt := 30) rfl rfl (ti_ne jk_8 jk_19 (bn_t (by omega) ?_))
  refine x_iloadn (x := 8) rfl rfl ?_
  refine x_bipush (v := 18) rfl kb_18 ?_
  refine x_icne (tgt := 40) rfl rfl (ti_ne jk_8 jk_18 (bn_t (by omega) ?_))
  refine x_iloadn (x := 8) rfl rfl ?_
  refine x_bipush (v := 10) rfl kb_10 ?_
  refine x_iclt (tgt := 50) rfl rfl (ti_lt jk_8 jk_10 (br_t (by omega) ?_))
  refine x_iloadn (x := 8) rfl rfl ?_
  refine x_bipush (v := 8) rfl kb_8 ?_
  refine x_iclt (tgt := 61) rfl rfl (ti_lt jk_8 jk_8 (br_f (by omega) ?_))
  refine x_bipush (v := 6) rfl kb_6 ?_
  refine x_goto (tgt := 62) rfl rfl ?_
  refine x_iret rfl rfl ?_
  show jX m_X12_behindSum 4 0 0 73 [(3, .int 8), (0, .ref 125), (1, .int l1), (2, .int l2)] [.int 6, .ref 125] _ 0 0 _
  refine x_inv (N := m_X12_settle) (As := [.int 6]) (b := 125) (st := []) (dx9 := 2) (mc := 0) (ms := 0) (host := "") 12 rfl t_X12_settle ⟨Or.inl q_12_548, i_X12_settle.1, i_X12_settle.2⟩ ⟨by decide, rfl⟩ (congrArg Prod.fst (J.1.1 125 (12, 92) rfl)) rfl (by decide) rfl rfl ⟨by decide, by decide⟩ (sf_X12_settle_r125d (jr_of jk_6 (by omega)) (K9 := 0) (by decide) (jtu_sa hA C0) hD J rfl  (fun h J S1 P2 X3 => ?_))
  have Sm := jSm_tr rfl Sm S1
  try rw [jk_6] at X3
  rw [X3] at D
  show jX m_X12_behindSum 4 0 0 76 [(3, .int 8), (0, .ref 125), (1, .int l1), (2, .int l2)] [] _ 0 0 _
  refine x_aloadn (x := 125) rfl rfl ?_
  refine x_iloadn (x := 8) rfl rfl ?_
  refine x_iconst (v := 0) rfl ki_0 ?_
  refine x_inv (N := m_X12_push) (As := [.int 8, .int 0]) (b := 125) (st := []) (dx9 := 3) (mc := 0) (ms := 0) (host := "") 12 rfl t_X12_push ⟨Or.inl q_12_536, i_X12_push.1, i_X12_push.2⟩ ⟨by decide, rfl⟩ (congrArg Prod.fst (J.1.1 125 (12, 92) rfl)) rfl (by decide) rfl rfl ⟨by decide, by decide⟩ (jC.of rfl k_X12_push rfl ?_)
  show jX m_X12_push 3 0 0 0 [(0, .ref 125), (1, .int 8), (2, .int 0)] [] _ 0 0 _
  obtain ⟨u4, qu4⟩ : ∃ v : Int32, jiv h 125 55 = v := ⟨_, rfl⟩
  have eu4 := (show 0 ≤ u4.toInt ∧ u4.toInt ≤ 400 from qu4 ▸ jrg_f J sg_125_55_56_1_0_1)
  try rw [vrf qu4] at D
  have lx := jtw_l P2.1.1.1 qu4 (jmc S1 rfl z3)
  refine x_aloadn (x := 125) rfl rfl ?_
  refine z_getR (N := 92) (b := 150) 12 53 rfl f_12_105 rfl J rfl 16053 ⟨rfl, rfl⟩ rfl ?_
  refine x_aloadn (x := 125) rfl rfl ?_
  refine z_getM (N := 92) (v := u4) 12 55 rfl f_12_496 rfl J rfl qu4 ?_
  refine x_iloadn (x := 8) rfl rfl ?_
  refine z_iast (N := 400) (l := 0) (u := 400) (w := 8) rfl hD J Sm rfl rfl rfl (by omega) jk_8 (wr_150) rfl (fun h w5 J Sm => ?_)
  rw [vww w5 (show u4.toInt = u4.toInt from by omega) (show 8 = (8 : Int32).toInt from by have := jk_8; omega)] at D
  refine x_aloadn (x := 125) rfl rfl ?_
  refine z_getR (N := 92) (b := 151) 12 54 rfl f_12_108 rfl J rfl 16054 ⟨rfl, rfl⟩ rfl ?_
  refine x_aloadn (x := 125) rfl rfl ?_
  refine z_getM (N := 92) (v := u4) 12 55 rfl f_12_496 rfl J rfl (jmo w5 rfl qu4) ?_
  refine x_iloadn (x := 0) rfl rfl ?_
  refine z_iast (N := 400) (l := 0) (u := 400) (w := 0) rfl hD J Sm rfl rfl rfl (by omega) jk_0 (wr_151) rfl (fun h w6 J Sm => ?_)
  rw [vww w6 (show u4.toInt = u4.toInt from by omega) (show 0 = (0 : Int32).toInt from by have := jk_0; omega)] at D
  refine x_aloadn (x := 125) rfl rfl ?_
  refine x_dup rfl rfl ?_
  refine z_getM (N := 92) (v := u4) 12 55 rfl f_12_496 rfl J rfl (jmo w6 rfl (jmo w5 rfl qu4)) ?_
  refine x_iconst (v := 1) rfl ki_1 ?_
  refine z_iadd rfl rfl jk_1 (by omega) (fun v7 ev7 => ?_)
  refine z_putI (N := 92) (w := v7.toInt) 12 55 rfl f_12_496 rfl (jfin_no TX12 RX12 92 rfl rfl) hD J Sm rfl rfl rfl (pw_125_55 (by omega)) rfl (fun h w8 J Sm => ?_)
  rw [vwf w8 (show (u4.toInt + 1) = v7.toInt from by omega)] at D
  refine x_vret rfl rfl ?_
  show jX m_X12_behindSum 4 0 0 82 [(3, .int 8), (0, .ref 125), (1, .int l1), (2, .int l2)] [] _ 0 0 _
  refine x_aloadn (x := 125) rfl rfl ?_
  refine x_inv (N := m_X12_next) (As := []) (b := 125) (st := []) (dx9 := 2) (mc := 0) (ms := 0) (host := "") 12 rfl t_X12_next ⟨Or.inl q_12_218, i_X12_next.1, i_X12_next.2⟩ ⟨by decide, rfl⟩ (congrArg Prod.fst (J.1.1 125 (12, 92) rfl)) rfl (by decide) rfl rfl ⟨by decide, by decide⟩ (sf_X12_next_r125d  hD J (jmo w8 rfl (jmo w6 rfl (jmo w5 rfl (jmc S1 rfl z0)))) (jmo w8 rfl (jmo w6 rfl (jmo w5 rfl (jmc S1 rfl z2)))) (by omega) rfl  (fun h J S9 u10 u11 u12 qu10 qu11 qu12 ru10 u13 u14 u15 qu13 qu14 qu15 ru13 P16 X17 => ?_))
  have Sm := jSm_tr rfl Sm S9
  rw [X17] at D
  have eu10 := (show 0 ≤ u10.toInt ∧ u10.toInt ≤ 400 from qu10 ▸ jrg_f J sg_125_10_11_1_0_1)
  try rw [vrf qu10] at D
  have eu11 := (show 0 ≤ u11.toInt ∧ u11.toInt ≤ 400 from qu11 ▸ jrg_f J sg_125_8_9_1_0_1)
  try rw [vrf (jmb_c S1 (jmb_w w5 (jmb_w w6 (jmb_w w8 (jmb_c S9 qu11 rfl) rfl) rfl) rfl) rfl)] at D
  have eu12 := (show 0 ≤ u12.toInt ∧ u12.toInt ≤ 400 from qu12 ▸ jrg_f J sg_125_9_10_1_0_1)
  try rw [vrf qu12] at D
  have eu13 := (show 0 ≤ u13.toInt ∧ u13.toInt ≤ 3 from qu13 ▸ jrg_f J sg_125_11_12_1_0_1)
  try rw [vrf qu13] at D
  obtain rfl : u12 = u14 := qu12.symm.trans qu14
  obtain rfl : u10 = u15 := qu10.symm.trans qu15
  have nfP16 := jnf P16.1 (jmo w8 rfl (jmo w6 rfl (jmo w5 rfl (jmc S1 rfl z0)))) qu12
  show jX m_X12_behindSum 4 0 0 86 [(3, .int 8), (0, .ref 125), (1, .int l1), (2, .int l2)] [] _ 0 0 _
  refine x_iconst (v := 1) rfl ki_1 ?_
  refine x_iret rfl rfl ?_
  exact hQ _ _ (jr_of jk_1 (by omega)) J Sm _ _ _ qu10 qu11 qu12 (by omega) _ _ _ qu13 qu12 qu10 (by omega) (by rw [jk_1]; exact jbp_1 (bs_arith hA C0 P2 (jmc S1 rfl rfl) (jmc S1 rfl rfl) qu4 w5 w6 w8 (by omega) (by decide) (jeq_c S9 rfl jeq_0) (jeq_c S9 rfl jeq_0) (jeq_c S9 rfl jeq_0) (jeq_c S9 rfl jeq_0) (jmc S9 rfl rfl) (jmc S9 rfl rfl) (jmc S9 rfl rfl) (jmc S1 rfl z3) qu12 (by omega))) ((congrArg Prod.fst D).symm.trans (show 1 = (1 : Int32).toInt from by have := jk_1; omega)) (congrArg Prod.snd D).symm
set_option maxRecDepth 100000 in
set_option maxHeartbeats 4000000 in
theorem ct_X12_behindSum_r125d_900062 {Dy : jH → Prop} {h0 : jH} {Q : Option Value → jH → Prop} {dr : (Int × jW)} {A : Nat} (hA : jTu 0 h0 A 1) (hD : jDk Dy) (hQ : ∀ (v : Int32) hx9, 1 ≤ v.toInt ∧ v.toInt ≤ 4 → jJ jSgM Dy hx9 → jSm fp_X12_behindSum_r125d h0 hx9 → ∀ u0 u1 u2 : Int32, jiv hx9 125 10 = u0 → jiv hx9 125 8 = u1 → jiv hx9 125 9 = u2 → (u0.toInt ≤ u1.toInt ∧ u2.toInt ≤ u0.toInt) → ∀ u3 u4 u5 : Int32, jiv hx9 125 11 = u3 → jiv hx9 125 9 = u4 → jiv hx9 125 10 = u5 → (u3.toInt = 0 ∨ u4.toInt + 1 ≤ u5.toInt) → jBp 2 4 A h0 v.toInt hx9 → dr.1 = v.toInt → dr.2 = vw hx9 → Q (some (.int v)) hx9) : ∀ (l1 : Int32) (l2 : Int32) (g0 : Int32) (g1 : Int32) (g2 : Int32) (g3 : Int32) (h : jH), 0 ≤ l1.toInt ∧ l1.toInt ≤ 1 → (-1) ≤ l2.toInt ∧ l2.toInt ≤ 2147483647 → 0 ≤ g0.toInt ∧ g0.toInt ≤ 400 → 3 ≤ g1.toInt ∧ g1.toInt ≤ 3 → 0 ≤ g2.toInt ∧ g2.toInt ≤ 400 → 0 ≤ g3.toInt ∧ g3.toInt ≤ 400 → jSa h0 h → jIr (jiv h 150) l2 (jnL h) → g1.toInt ≠ 0 → (g0.toInt ≤ g2.toInt ∧ g3.toInt ≤ g0.toInt) → (g1.toInt = 0 ∨ g3.toInt + 1 ≤ g0.toInt) → jiv h 125 10 = g0 → jiv h 125 11 = g1 → jiv h 125 8 = g2 → jiv h 125 9 = g3 → jJ jSgM Dy h → jSm fp_X12_behindSum_r125d h0 h → d_X12_behindSum_r125d_900062  l1.toInt l2.toInt (vw h) = dr → jX m_X12_behindSum 4 0 0 62 [(0, .ref 125), (1, .int l1), (2, .int l2)] [.int 7] h 0 0 Q := by
  intro l1 l2 g0 g1 g2 g3 h y0 y1 y2 y3 y4 y5 C0 C1 y8 y9 y10 z0 z1 z2 z3  J Sm D
  unfold d_X12_behindSum_r125d_900062 at D
  try rw [vrf z0] at D
  try rw [vrf z1] at D
  try rw [vrf z2] at D
  try rw [vrf z3] at D
  refine x_istoren (lsx9 := [(3, .int 7), (0, .ref 125), (1, .int l1), (2, .int l2)]) rfl rfl rfl ?_
  refine x_iloadn (x := 7) rfl rfl ?_
  refine x_iconst (v := (-1)) rfl ki_m1 ?_
  refine x_iceq (tgt := 88) rfl rfl (ti_eq jk_7 jk_m1 (br_f (by omega) ?_))
  refine x_aloadn (x := 125) rfl rfl ?_
  refine x_iloadn (x := 7) rfl rfl ?_
  refine x_inst (N := m_X12_binds) (As := [.int 7]) (st := [.ref 125]) (dx9 := 3) (mc := 0) (ms := 0) (host := "") rfl t_X12_binds ⟨Or.inl q_12_499, s_X12_binds⟩ rfl (by decide) rfl rfl ⟨by decide, by decide⟩ (jC.of rfl k_X12_binds rfl ?_)
  show jX m_X12_binds 3 0 0 0 [(0, .int 7)] [] _ 0 0 _
  refine x_iloadn (x := 7) rfl rfl ?_
  refine x_bipush (v := 30) rfl kb_30 ?_
  refine x_iclt (tgt := 10) rfl rfl (ti_lt jk_7 jk_30 (br_t (by omega) ?_))
  refine x_iloadn (x := 7) rfl rfl ?_
  refine x_bipush (v := 20) rfl kb_20 ?_
  refine x_icne (tgt := 20) rfl rfl (ti_ne jk_7 jk_20 (bn_t (by omega) ?_))
  refine x_iloadn (x := 7) rfl rfl ?_
  refine x_bipush (v := 19) rfl kb_19 ?_
  refine x_icne (tgt := 30) rfl rfl (ti_ne jk_7 jk_19 (bn_t (by omega) ?_))
  refine x_iloadn (x := 7) rfl rfl ?_
  refine x_bipush (v := 18) rfl kb_18 ?_
  refine x_icne (tgt := 40) rfl rfl (ti_ne jk_7 jk_18 (bn_t (by omega) ?_))
  refine x_iloadn (x := 7) rfl rfl ?_
  refine x_bipush (v := 10) rfl kb_10 ?_
  refine x_iclt (tgt := 50) rfl rfl (ti_lt jk_7 jk_10 (br_t (by omega) ?_))
  refine x_iloadn (x := 7) rfl rfl ?_
  refine x_bipush (v := 8) rfl kb_8 ?_
  refine x_iclt (tgt := 61) rfl rfl (ti_lt jk_7 jk_8 (br_t (by omega) ?_))
  refine x_iconst (v := 5) rfl ki_5 ?_
  refine x_iret rfl rfl ?_
  show jX m_X12_behindSum 4 0 0 73 [(3, .int 7), (0, .ref 125), (1, .int l1), (2, .int l2)] [.int 5, .ref 125] _ 0 0 _
  refine x_inv (N := m_X12_settle) (As := [.int 5]) (b := 125) (st := []) (dx9 := 2) (mc := 0) (ms := 0) (host := "") 12 rfl t_X12_settle ⟨Or.inl q_12_548, i_X12_settle.1, i_X12_settle.2⟩ ⟨by decide, rfl⟩ (congrArg Prod.fst (J.1.1 125 (12, 92) rfl)) rfl (by decide) rfl rfl ⟨by decide, by decide⟩ (sf_X12_settle_r125d (jr_of jk_5 (by omega)) (K9 := 0) (by decide) (jtu_sa hA C0) hD J rfl  (fun h J S1 P2 X3 => ?_))
  have Sm := jSm_tr rfl Sm S1
  try rw [jk_5] at X3
  rw [X3] at D
  show jX m_X12_behindSum 4 0 0 76 [(3, .int 7), (0, .ref 125), (1, .int l1), (2, .int l2)] [] _ 0 0 _
  refine x_aloadn (x := 125) rfl rfl ?_
  refine x_iloadn (x := 7) rfl rfl ?_
  refine x_iconst (v := 0) rfl ki_0 ?_
  refine x_inv (N := m_X12_push) (As := [.int 7, .int 0]) (b := 125) (st := []) (dx9 := 3) (mc := 0) (ms := 0) (host := "") 12 rfl t_X12_push ⟨Or.inl q_12_536, i_X12_push.1, i_X12_push.2⟩ ⟨by decide, rfl⟩ (congrArg Prod.fst (J.1.1 125 (12, 92) rfl)) rfl (by decide) rfl rfl ⟨by decide, by decide⟩ (jC.of rfl k_X12_push rfl ?_)
  show jX m_X12_push 3 0 0 0 [(0, .ref 125), (1, .int 7), (2, .int 0)] [] _ 0 0 _
  obtain ⟨u4, qu4⟩ : ∃ v : Int32, jiv h 125 55 = v := ⟨_, rfl⟩
  have eu4 := (show 0 ≤ u4.toInt ∧ u4.toInt ≤ 400 from qu4 ▸ jrg_f J sg_125_55_56_1_0_1)
  try rw [vrf qu4] at D
  have lx := jtw_l P2.1.1.1 qu4 (jmc S1 rfl z3)
  refine x_aloadn (x := 125) rfl rfl ?_
  refine z_getR (N := 92) (b := 150) 12 53 rfl f_12_105 rfl J rfl 16053 ⟨rfl, rfl⟩ rfl ?_
  refine x_aloadn (x := 125) rfl rfl ?_
  refine z_getM (N := 92) (v := u4) 12 55 rfl f_12_496 rfl J rfl qu4 ?_
  refine x_iloadn (x := 7) rfl rfl ?_
  refine z_iast (N := 400) (l := 0) (u := 400) (w := 7) rfl hD J Sm rfl rfl rfl (by omega) jk_7 (wr_150) rfl (fun h w5 J Sm => ?_)
  rw [vww w5 (show u4.toInt = u4.toInt from by omega) (show 7 = (7 : Int32).toInt from by have := jk_7; omega)] at D
  refine x_aloadn (x := 125) rfl rfl ?_
  refine z_getR (N := 92) (b := 151) 12 54 rfl f_12_108 rfl J rfl 16054 ⟨rfl, rfl⟩ rfl ?_
  refine x_aloadn (x := 125) rfl rfl ?_
  refine z_getM (N := 92) (v := u4) 12 55 rfl f_12_496 rfl J rfl (jmo w5 rfl qu4) ?_
  refine x_iloadn (x := 0) rfl rfl ?_
  refine z_iast (N := 400) (l := 0) (u := 400) (w := 0) rfl hD J Sm rfl rfl rfl (by omega) jk_0 (wr_151) rfl (fun h w6 J Sm => ?_)
  rw [vww w6 (show u4.toInt = u4.toInt from by omega) (show 0 = (0 : Int32).toInt from by have := jk_0; omega)] at D
  refine x_aloadn (x := 125) rfl rfl ?_
  refine x_dup rfl rfl ?_
  refine z_getM (N := 92) (v := u4) 12 55 rfl f_12_496 rfl J rfl (jmo w6 rfl (jmo w5 rfl qu4)) ?_
  refine x_iconst (v := 1) rfl ki_1 ?_
  refine z_iadd rfl rfl jk_1 (by omega) (fun v7 ev7 => ?_)
  refine z_putI (N := 92) (w := v7.toInt) 12 55 rfl f_12_496 rfl (jfin_no TX12 RX12 92 rfl rfl) hD J Sm rfl rfl rfl (pw_125_55 (by omega)) rfl (fun h w8 J Sm => ?_)
  rw [vwf w8 (show (u4.toInt + 1) = v7.toInt from by omega)] at D
  refine x_vret rfl rfl ?_
  show jX m_X12_behindSum 4 0 0 82 [(3, .int 7), (0, .ref 125), (1, .int l1), (2, .int l2)] [] _ 0 0 _
  refine x_aloadn (x := 125) rfl rfl ?_
  refine x_inv (N := m_X12_next) (As := []) (b := 125) (st := []) (dx9 := 2) (mc := 0) (ms := 0) (host := "") 12 rfl t_X12_next ⟨Or.inl q_12_218, i_X12_next.1, i_X12_next.2⟩ ⟨by decide, rfl⟩ (congrArg Prod.fst (J.1.1 125 (12, 92) rfl)) rfl (by decide) rfl rfl ⟨by decide, by decide⟩ (sf_X12_next_r125d  hD J (jmo w8 rfl (jmo w6 rfl (jmo w5 rfl (jmc S1 rfl z0)))) (jmo w8 rfl (jmo w6 rfl (jmo w5 rfl (jmc S1 rfl z2)))) (by omega) rfl  (fun h J S9 u10 u11 u12 qu10 qu11 qu12 ru10 u13 u14 u15 qu13 qu14 qu15 ru13 P16 X17 => ?_))
  have Sm := jSm_tr rfl Sm S9
  rw [X17] at D
  have eu10 := (show 0 ≤ u10.toInt ∧ u10.toInt ≤ 400 from qu10 ▸ jrg_f J sg_125_10_11_1_0_1)
  try rw [vrf qu10] at D
  have eu11 := (show 0 ≤ u11.toInt ∧ u11.toInt ≤ 400 from qu11 ▸ jrg_f J sg_125_8_9_1_0_1)
  try rw [vrf (jmb_c S1 (jmb_w w5 (jmb_w w6 (jmb_w w8 (jmb_c S9 qu11 rfl) rfl) rfl) rfl) rfl)] at D
  have eu12 := (show 0 ≤ u12.toInt ∧ u12.toInt ≤ 400 from qu12 ▸ jrg_f J sg_125_9_10_1_0_1)
  try rw [vrf qu12] at D
  have eu13 := (show 0 ≤ u13.toInt ∧ u13.toInt ≤ 3 from qu13 ▸ jrg_f J sg_125_11_12_1_0_1)
  try rw [vrf qu13] at D
  obtain rfl : u12 = u14 := qu12.symm.trans qu14
  obtain rfl : u10 = u15 := qu10.symm.trans qu15
  have nfP16 := jnf P16.1 (jmo w8 rfl (jmo w6 rfl (jmo w5 rfl (jmc S1 rfl z0)))) qu12
  show jX m_X12_behindSum 4 0 0 86 [(3, .int 7), (0, .ref 125), (1, .int l1), (2, .int l2)] [] _ 0 0 _
  refine x_iconst (v := 1) rfl ki_1 ?_
  refine x_iret rfl rfl ?_
  exact hQ _ _ (jr_of jk_1 (by omega)) J Sm _ _ _ qu10 qu11 qu12 (by omega) _ _ _ qu13 qu12 qu10 (by omega) (by rw [jk_1]; exact jbp_1 (bs_arith hA C0 P2 (jmc S1 rfl rfl) (jmc S1 rfl rfl) qu4 w5 w6 w8 (by omega) (by decide) (jeq_c S9 rfl jeq_0) (jeq_c S9 rfl jeq_0) (jeq_c S9 rfl jeq_0) (jeq_c S9 rfl jeq_0) (jmc S9 rfl rfl) (jmc S9 rfl rfl) (jmc S9 rfl rfl) (jmc S1 rfl z3) qu12 (by omega))) ((congrArg Prod.fst D).symm.trans (show 1 = (1 : Int32).toInt from by have := jk_1; omega)) (congrArg Prod.snd D).symm
set_option maxRecDepth 100000 in
set_option maxHeartbeats 4000000 in
theorem ct_X12_behindSum_r125d_800062 {Dy : jH → Prop} {h0 : jH} {Q : Option Value → jH → Prop} {dr : (Int × jW)} {A : Nat} (hA : jTu 0 h0 A 1) (hD : jDk Dy) (hQ : ∀ (v : Int32) hx9, 1 ≤ v.toInt ∧ v.toInt ≤ 4 → jJ jSgM Dy hx9 → jSm fp_X12_behindSum_r125d h0 hx9 → ∀ u0 u1 u2 : Int32, jiv hx9 125 10 = u0 → jiv hx9 125 8 = u1 → jiv hx9 125 9 = u2 → (u0.toInt ≤ u1.toInt ∧ u2.toInt ≤ u0.toInt) → ∀ u3 u4 u5 : Int32, jiv hx9 125 11 = u3 → jiv hx9 125 9 = u4 → jiv hx9 125 10 = u5 → (u3.toInt = 0 ∨ u4.toInt + 1 ≤ u5.toInt) → jBp 2 4 A h0 v.toInt hx9 → dr.1 = v.toInt → dr.2 = vw hx9 → Q (some (.int v)) hx9) : ∀ (l1 : Int32) (l2 : Int32) (g0 : Int32) (g1 : Int32) (g2 : Int32) (g3 : Int32) (h : jH), 0 ≤ l1.toInt ∧ l1.toInt ≤ 1 → (-1) ≤ l2.toInt ∧ l2.toInt ≤ 2147483647 → 0 ≤ g0.toInt ∧ g0.toInt ≤ 400 → 3 ≤ g1.toInt ∧ g1.toInt ≤ 3 → 0 ≤ g2.toInt ∧ g2.toInt ≤ 400 → 0 ≤ g3.toInt ∧ g3.toInt ≤ 400 → jSa h0 h → jIr (jiv h 150) l2 (jnL h) → g1.toInt ≠ 0 → (g0.toInt ≤ g2.toInt ∧ g3.toInt ≤ g0.toInt) → (g1.toInt = 0 ∨ g3.toInt + 1 ≤ g0.toInt) → jiv h 125 10 = g0 → jiv h 125 11 = g1 → jiv h 125 8 = g2 → jiv h 125 9 = g3 → jJ jSgM Dy h → jSm fp_X12_behindSum_r125d h0 h → d_X12_behindSum_r125d_800062  l1.toInt l2.toInt (vw h) = dr → jX m_X12_behindSum 4 0 0 62 [(0, .ref 125), (1, .int l1), (2, .int l2)] [.int 6] h 0 0 Q := by
  intro l1 l2 g0 g1 g2 g3 h y0 y1 y2 y3 y4 y5 C0 C1 y8 y9 y10 z0 z1 z2 z3  J Sm D
  unfold d_X12_behindSum_r125d_800062 at D
  try rw [vrf z0] at D
  try rw [vrf z1] at D
  try rw [vrf z2] at D
  try rw [vrf z3] at D
  refine x_istoren (lsx9 := [(3, .int 6), (0, .ref 125), (1, .int l1), (2, .int l2)]) rfl rfl rfl ?_
  refine x_iloadn (x := 6) rfl rfl ?_
  refine x_iconst (v := (-1)) rfl ki_m1 ?_
  refine x_iceq (tgt := 88) rfl rfl (ti_eq jk_6 jk_m1 (br_f (by omega) ?_))
  refine x_aloadn (x := 125) rfl rfl ?_
  refine x_iloadn (x := 6) rfl rfl ?_
  refine x_inst (N := m_X12_binds) (As := [.int 6]) (st := [.ref 125]) (dx9 := 3) (mc := 0) (ms := 0) (host := "") rfl t_X12_binds ⟨Or.inl q_12_499, s_X12_binds⟩ rfl (by decide) rfl rfl ⟨by decide, by decide⟩ (jC.of rfl k_X12_binds rfl ?_)
  show jX m_X12_binds 3 0 0 0 [(0, .int 6)] [] _ 0 0 _
  refine x_iloadn (x := 6) rfl rfl ?_
  refine x_bipush (v := 30) rfl kb_30 ?_
  refine x_iclt (tgt := 10) rfl rfl (ti_lt jk_6 jk_30 (br_t (by omega) ?_))
  refine x_iloadn (x := 6) rfl rfl ?_
  refine x_bipush (v := 20) rfl kb_20 ?_
  refine x_icne (tgt := 20) rfl rfl (ti_ne jk_6 jk_20 (bn_t (by omega) ?_))
  refine x_iloadn (x := 6) rfl rfl ?_
  refine x_bipush (v := 19) rfl kb_19 ?_
  refine x_icne (tgt := 30) rfl rfl (ti_ne jk_6 jk_19 (bn_t (by omega) ?_))
  refine x_iloadn (x := 6) rfl rfl ?_
  refine x_bipush (v := 18) rfl kb_18 ?_
  refine x_icne (tgt := 40) rfl rfl (ti_ne jk_6 jk_18 (bn_t (by omega) ?_))
  refine x_iloadn (x := 6) rfl rfl ?_
  refine x_bipush (v := 10) rfl kb_10 ?_
  refine x_iclt (tgt := 50) rfl rfl (ti_lt jk_6 jk_10 (br_t (by omega) ?_))
  refine x_iloadn (x := 6) rfl rfl ?_
  refine x_bipush (v := 8) rfl kb_8 ?_
  refine x_iclt (tgt := 61) rfl rfl (ti_lt jk_6 jk_8 (br_t (by omega) ?_))
  refine x_iconst (v := 5) rfl ki_5 ?_
  refine x_iret rfl rfl ?_
  show jX m_X12_behindSum 4 0 0 73 [(3, .int 6), (0, .ref 125), (1, .int l1), (2, .int l2)] [.int 5, .ref 125] _ 0 0 _
  refine x_inv (N := m_X12_settle) (As := [.int 5]) (b := 125) (st := []) (dx9 := 2) (mc := 0) (ms := 0) (host := "") 12 rfl t_X12_settle ⟨Or.inl q_12_548, i_X12_settle.1, i_X12_settle.2⟩ ⟨by decide, rfl⟩ (congrArg Prod.fst (J.1.1 125 (12, 92) rfl)) rfl (by decide) rfl rfl ⟨by decide, by decide⟩ (sf_X12_settle_r125d (jr_of jk_5 (by omega)) (K9 := 0) (by decide) (jtu_sa hA C0) hD J rfl  (fun h J S1 P2 X3 => ?_))
  have Sm := jSm_tr rfl Sm S1
  try rw [jk_5] at X3
  rw [X3] at D
  show jX m_X12_behindSum 4 0 0 76 [(3, .int 6), (0, .ref 125), (1, .int l1), (2, .int l2)] [] _ 0 0 _
  refine x_aloadn (x := 125) rfl rfl ?_
  refine x_iloadn (x := 6) rfl rfl ?_
  refine x_iconst (v := 0) rfl ki_0 ?_
  refine x_inv (N := m_X12_push) (As := [.int 6, .int 0]) (b := 125) (st := []) (dx9 := 3) (mc := 0) (ms := 0) (host := "") 12 rfl t_X12_push ⟨Or.inl q_12_536, i_X12_push.1, i_X12_push.2⟩ ⟨by decide, rfl⟩ (congrArg Prod.fst (J.1.1 125 (12, 92) rfl)) rfl (by decide) rfl rfl ⟨by decide, by decide⟩ (jC.of rfl k_X12_push rfl ?_)
  show jX m_X12_push 3 0 0 0 [(0, .ref 125), (1, .int 6), (2, .int 0)] [] _ 0 0 _
  obtain ⟨u4, qu4⟩ : ∃ v : Int32, jiv h 125 55 = v := ⟨_, rfl⟩
  have eu4 := (show 0 ≤ u4.toInt ∧ u4.toInt ≤ 400 from qu4 ▸ jrg_f J sg_125_55_56_1_0_1)
  try rw [vrf qu4] at D
  have lx := jtw_l P2.1.1.1 qu4 (jmc S1 rfl z3)
  refine x_aloadn (x := 125) rfl rfl ?_
  refine z_getR (N := 92) (b := 150) 12 53 rfl f_12_105 rfl J rfl 16053 ⟨rfl, rfl⟩ rfl ?_
  refine x_aloadn (x := 125) rfl rfl ?_
  refine z_getM (N := 92) (v := u4) 12 55 rfl f_12_496 rfl J rfl qu4 ?_
  refine x_iloadn (x := 6) rfl rfl ?_
  refine z_iast (N := 400) (l := 0) (u := 400) (w := 6) rfl hD J Sm rfl rfl rfl (by omega) jk_6 (wr_150) rfl (fun h w5 J Sm => ?_)
  rw [vww w5 (show u4.toInt = u4.toInt from by omega) (show 6 = (6 : Int32).toInt from by have := jk_6; omega)] at D
  refine x_aloadn (x := 125) rfl rfl ?_
  refine z_getR (N := 92) (b := 151) 12 54 rfl f_12_108 rfl J rfl 16054 ⟨rfl, rfl⟩ rfl ?_
  refine x_aloadn (x := 125) rfl rfl ?_
  refine z_getM (N := 92) (v := u4) 12 55 rfl f_12_496 rfl J rfl (jmo w5 rfl qu4) ?_
  refine x_iloadn (x := 0) rfl rfl ?_
  refine z_iast (N := 400) (l := 0) (u := 400) (w := 0) rfl hD J Sm rfl rfl rfl (by omega) jk_0 (wr_151) rfl (fun h w6 J Sm => ?_)
  rw [vww w6 (show u4.toInt = u4.toInt from by omega) (show 0 = (0 : Int32).toInt from by have := jk_0; omega)] at D
  refine x_aloadn (x := 125) rfl rfl ?_
  refine x_dup rfl rfl ?_
  refine z_getM (N := 92) (v := u4) 12 55 rfl f_12_496 rfl J rfl (jmo w6 rfl (jmo w5 rfl qu4)) ?_
  refine x_iconst (v := 1) rfl ki_1 ?_
  refine z_iadd rfl rfl jk_1 (by omega) (fun v7 ev7 => ?_)
  refine z_putI (N := 92) (w := v7.toInt) 12 55 rfl f_12_496 rfl (jfin_no TX12 RX12 92 rfl rfl) hD J Sm rfl rfl rfl (pw_125_55 (by omega)) rfl (fun h w8 J Sm => ?_)
  rw [vwf w8 (show (u4.toInt + 1) = v7.toInt from by omega)] at D
  refine x_vret rfl rfl ?_
  show jX m_X12_behindSum 4 0 0 82 [(3, .int 6), (0, .ref 125), (1, .int l1), (2, .int l2)] [] _ 0 0 _
  refine x_aloadn (x := 125) rfl rfl ?_
  refine x_inv (N := m_X12_next) (As := []) (b := 125) (st := []) (dx9 := 2) (mc := 0) (ms := 0) (host := "") 12 rfl t_X12_next ⟨Or.inl q_12_218, i_X12_next.1, i_X12_next.2⟩ ⟨by decide, rfl⟩ (congrArg Prod.fst (J.1.1 125 (12, 92) rfl)) rfl (by decide) rfl rfl ⟨by decide, by decide⟩ (sf_X12_next_r125d  hD J (jmo w8 rfl (jmo w6 rfl (jmo w5 rfl (jmc S1 rfl z0)))) (jmo w8 rfl (jmo w6 rfl (jmo w5 rfl (jmc S1 rfl z2)))) (by omega) rfl  (fun h J S9 u10 u11 u12 qu10 qu11 qu12 ru10 u13 u14 u15 qu13 qu14 qu15 ru13 P16 X17 => ?_))
  have Sm := jSm_tr rfl Sm S9
  rw [X17] at D
  have eu10 := (show 0 ≤ u10.toInt ∧ u10.toInt ≤ 400 from qu10 ▸ jrg_f J sg_125_10_11_1_0_1)
  try rw [vrf qu10] at D
  have eu11 := (show 0 ≤ u11.toInt ∧ u11.toInt ≤ 400 from qu11 ▸ jrg_f J sg_125_8_9_1_0_1)
  try rw [vrf (jmb_c S1 (jmb_w w5 (jmb_w w6 (jmb_w w8 (jmb_c S9 qu11 rfl) rfl) rfl) rfl) rfl)] at D
  have eu12 := (show 0 ≤ u12.toInt ∧ u12.toInt ≤ 400 from qu12 ▸ jrg_f J sg_125_9_10_1_0_1)
  try rw [vrf qu12] at D
  have eu13 := (show 0 ≤ u13.toInt ∧ u13.toInt ≤ 3 from qu13 ▸ jrg_f J sg_125_11_12_1_0_1)
  try rw [vrf qu13] at D
  obtain rfl : u12 = u14 := qu12.symm.trans qu14
  obtain rfl : u10 = u15 := qu10.symm.trans qu15
  have nfP16 := jnf P16.1 (jmo w8 rfl (jmo w6 rfl (jmo w5 rfl (jmc S1 rfl z0)))) qu12
  show jX m_X12_behindSum 4 0 0 86 [(3, .int 6), (0, .ref 125), (1, .int l1), (2, .int l2)] [] _ 0 0 _
  refine x_iconst (v := 1) rfl ki_1 ?_
  refine x_iret rfl rfl ?_
  exact hQ _ _ (jr_of jk_1 (by omega)) J Sm _ _ _ qu10 qu11 qu12 (by omega) _ _ _ qu13 qu12 qu10 (by omega) (by rw [jk_1]; exact jbp_1 (bs_arith hA C0 P2 (jmc S1 rfl rfl) (jmc S1 rfl rfl) qu4 w5 w6 w8 (by omega) (by decide) (jeq_c S9 rfl jeq_0) (jeq_c S9 rfl jeq_0) (jeq_c S9 rfl jeq_0) (jeq_c S9 rfl jeq_0) (jmc S9 rfl rfl) (jmc S9 rfl rfl) (jmc S9 rfl rfl) (jmc S1 rfl z3) qu12 (by omega))) ((congrArg Prod.fst D).symm.trans (show 1 = (1 : Int32).toInt from by have := jk_1; omega)) (congrArg Prod.snd D).symm
set_option maxRecDepth 100000 in
set_option maxHeartbeats 4000000 in
theorem sf_X12_behindSum_r125d {Dy : jH → Prop} {h : jH} {Q : Option Value → jH → Prop} {dr : (Int × jW)} {a1 : Int32} (y1 : 0 ≤ a1.toInt ∧ a1.toInt ≤ 1) {A : Nat} (hA : jTu 0 h A 1) (hD : jDk Dy) (J : jJ jSgM Dy h) {p0 p1 p2 : Int32} {p3 p4 p5 : Int32} (zp0 : jiv h 125 10 = p0) (zp1 : jiv h 125 8 = p1) (zp2 : jiv h 125 9 = p2) (rl_p0 : (p0.toInt ≤ p1.toInt ∧ p2.toInt ≤ p0.toInt)) (zp3 : jiv h 125 11 = p3) (zp4 : jiv h 125 9 = p4) (zp5 : jiv h 125 10 = p5) (rl_p3 : (p3.toInt = 0 ∨ p4.toInt + 1 ≤ p5.toInt)) (D : d_X12_behindSum_r125d a1.toInt (vw h) = dr) (hQ : ∀ (v : Int32) hx9, 1 ≤ v.toInt ∧ v.toInt ≤ 4 → jJ jSgM Dy hx9 → jSm fp_X12_behindSum_r125d h hx9 → ∀ u0 u1 u2 : Int32, jiv hx9 125 10 = u0 → jiv hx9 125 8 = u1 → jiv hx9 125 9 = u2 → (u0.toInt ≤ u1.toInt ∧ u2.toInt ≤ u0.toInt) → ∀ u3 u4 u5 : Int32, jiv hx9 125 11 = u3 → jiv hx9 125 9 = u4 → jiv hx9 125 10 = u5 → (u3.toInt = 0 ∨ u4.toInt + 1 ≤ u5.toInt) → jBp 2 4 A h v.toInt hx9 → dr.1 = v.toInt → dr.2 = vw hx9 → Q (some (.int v)) hx9) : jC m_X12_behindSum 4 0 0 [.ref 125, .int a1] h Q := by
  refine jC.of rfl k_X12_behindSum rfl ?_
  have Sm := jSm_rf fp_X12_behindSum_r125d h
  have ep0 := (show 0 ≤ p0.toInt ∧ p0.toInt ≤ 400 from zp0 ▸ jrg_f J sg_125_10_11_1_0_1)
  have ep1 := (show 0 ≤ p1.toInt ∧ p1.toInt ≤ 400 from zp1 ▸ jrg_f J sg_125_8_9_1_0_1)
  have ep2 := (show 0 ≤ p2.toInt ∧ p2.toInt ≤ 400 from zp2 ▸ jrg_f J sg_125_9_10_1_0_1)
  have ep3 := (show 0 ≤ p3.toInt ∧ p3.toInt ≤ 3 from zp3 ▸ jrg_f J sg_125_11_12_1_0_1)
  have ep4 := (show 0 ≤ p4.toInt ∧ p4.toInt ≤ 400 from zp4 ▸ jrg_f J sg_125_9_10_1_0_1)
  have ep5 := (show 0 ≤ p5.toInt ∧ p5.toInt ≤ 400 from zp5 ▸ jrg_f J sg_125_10_11_1_0_1)
  obtain rfl : p2 = p4 := zp2.symm.trans zp4
  obtain rfl : p0 = p5 := zp0.symm.trans zp5
  skip
  show jX m_X12_behindSum 4 0 0 0 [(0, .ref 125), (1, .int a1)] [] _ 0 0 _
  unfold d_X12_behindSum_r125d at D
  try rw [vrf zp0] at D
  try rw [vrf zp1] at D
  try rw [vrf zp2] at D
  try rw [vrf zp3] at D
  try rw [vrf zp4] at D
  try rw [vrf zp5] at D
  refine x_aloadn (x := 125) rfl rfl ?_
  refine x_inv (N := m_X12_inner) (As := []) (b := 125) (st := []) (dx9 := 1) (mc := 0) (ms := 0) (host := "") 12 rfl t_X12_inner ⟨Or.inl q_12_545, i_X12_inner.1, i_X12_inner.2⟩ ⟨by decide, rfl⟩ (congrArg Prod.fst (J.1.1 125 (12, 92) rfl)) rfl (by decide) rfl rfl ⟨by decide, by decide⟩ (sf_X12_inner_r125d  hD J rfl  (fun v5 h ev5 J S1 P2 X3 X4 => ?_))
  have Sm := jSm_tr rfl Sm S1
  try rw [X3] at D
  try rw [← X4] at D
  have iv30 := jir_30 P2
  show jX m_X12_behindSum 4 0 0 4 [(0, .ref 125), (1, .int a1)] [.int v5] _ 0 0 _
  refine x_istoren (lsx9 := [(2, .int v5), (0, .ref 125), (1, .int a1)]) rfl rfl rfl ?_
  refine x_aloadn (x := 125) rfl rfl ?_
  refine x_bipush (v := 43) rfl kb_43 ?_
  refine x_inv (N := m_X12_isSign) (As := [.int 43]) (b := 125) (st := []) (dx9 := 3) (mc := 0) (ms := 0) (host := "") 12 rfl t_X12_isSign ⟨Or.inl q_12_257, i_X12_isSign.1, i_X12_isSign.2⟩ ⟨by decide, rfl⟩ (congrArg Prod.fst (J.1.1 125 (12, 92) rfl)) rfl (by decide) rfl rfl ⟨by decide, by decide⟩ (jC.of rfl k_X12_isSign rfl ?_)
  show jX m_X12_isSign 3 0 0 0 [(0, .ref 125), (1, .int 43)] [] _ 0 0 _
  refine x_aloadn (x := 125) rfl rfl ?_
  refine z_getM (N := 92) (v := p3) 12 11 rfl f_12_235 rfl J rfl (jmc S1 rfl zp3) ?_
  refine x_iconst (v := 3) rfl ki_3 ?_
  refine x_icne (tgt := 22) rfl rfl (ti_ne rfl jk_3 ⟨fun c6 => ?_, fun c6 => ?_⟩)
  ·
    rw [if_neg (by omega)] at D
    refine x_iconst (v := 0) rfl ki_0 ?_
    refine x_zret rfl rfl (by decide) ?_
    show jX m_X12_behindSum 4 0 0 11 [(2, .int v5), (0, .ref 125), (1, .int a1)] [.int 0] _ 0 0 _
    refine x_ifeq (tgt := 19) rfl rfl (ti_eq jk_0 jk_0 (br_t (by omega) ?_))
    refine x_aloadn (x := 125) rfl rfl ?_
    refine x_bipush (v := 45) rfl kb_45 ?_
    refine x_inv (N := m_X12_isSign) (As := [.int 45]) (b := 125) (st := []) (dx9 := 3) (mc := 0) (ms := 0) (host := "") 12 rfl t_X12_isSign ⟨Or.inl q_12_257, i_X12_isSign.1, i_X12_isSign.2⟩ ⟨by decide, rfl⟩ (congrArg Prod.fst (J.1.1 125 (12, 92) rfl)) rfl (by decide) rfl rfl ⟨by decide, by decide⟩ (jC.of rfl k_X12_isSign rfl ?_)
    show jX m_X12_isSign 3 0 0 0 [(0, .ref 125), (1, .int 45)] [] _ 0 0 _
    refine x_aloadn (x := 125) rfl rfl ?_
    refine z_getM (N := 92) (v := p3) 12 11 rfl f_12_235 rfl J rfl (jmc S1 rfl zp3) ?_
    refine x_iconst (v := 3) rfl ki_3 ?_
    refine x_icne (tgt := 22) rfl rfl (ti_ne rfl jk_3 (bn_t (by omega) ?_))
    refine x_iconst (v := 0) rfl ki_0 ?_
    refine x_zret rfl rfl (by decide) ?_
    show jX m_X12_behindSum 4 0 0 25 [(2, .int v5), (0, .ref 125), (1, .int a1)] [.int 0] _ 0 0 _
    refine x_ifeq (tgt := 33) rfl rfl (ti_eq jk_0 jk_0 (br_t (by omega) ?_))
    refine x_aloadn (x := 125) rfl rfl ?_
    refine x_bipush (v := 42) rfl kb_42 ?_
    refine x_inv (N := m_X12_isSign) (As := [.int 42]) (b := 125) (st := []) (dx9 := 3) (mc := 0) (ms := 0) (host := "") 12 rfl t_X12_isSign ⟨Or.inl q_12_257, i_X12_isSign.1, i_X12_isSign.2⟩ ⟨by decide, rfl⟩ (congrArg Prod.fst (J.1.1 125 (12, 92) rfl)) rfl (by decide) rfl rfl ⟨by decide, by decide⟩ (jC.of rfl k_X12_isSign rfl ?_)
    show jX m_X12_isSign 3 0 0 0 [(0, .ref 125), (1, .int 42)] [] _ 0 0 _
    refine x_aloadn (x := 125) rfl rfl ?_
    refine z_getM (N := 92) (v := p3) 12 11 rfl f_12_235 rfl J rfl (jmc S1 rfl zp3) ?_
    refine x_iconst (v := 3) rfl ki_3 ?_
    refine x_icne (tgt := 22) rfl rfl (ti_ne rfl jk_3 (bn_t (by omega) ?_))
    refine x_iconst (v := 0) rfl ki_0 ?_
    refine x_zret rfl rfl (by decide) ?_
    show jX m_X12_behindSum 4 0 0 39 [(2, .int v5), (0, .ref 125), (1, .int a1)] [.int 0] _ 0 0 _
    refine x_ifeq (tgt := 47) rfl rfl (ti_eq jk_0 jk_0 (br_t (by omega) ?_))
    refine x_aloadn (x := 125) rfl rfl ?_
    refine x_bipush (v := 47) rfl kb_47 ?_
    refine x_inv (N := m_X12_isSign) (As := [.int 47]) (b := 125) (st := []) (dx9 := 3) (mc := 0) (ms := 0) (host := "") 12 rfl t_X12_isSign ⟨Or.inl q_12_257, i_X12_isSign.1, i_X12_isSign.2⟩ ⟨by decide, rfl⟩ (congrArg Prod.fst (J.1.1 125 (12, 92) rfl)) rfl (by decide) rfl rfl ⟨by decide, by decide⟩ (jC.of rfl k_X12_isSign rfl ?_)
    show jX m_X12_isSign 3 0 0 0 [(0, .ref 125), (1, .int 47)] [] _ 0 0 _
    refine x_aloadn (x := 125) rfl rfl ?_
    refine z_getM (N := 92) (v := p3) 12 11 rfl f_12_235 rfl J rfl (jmc S1 rfl zp3) ?_
    refine x_iconst (v := 3) rfl ki_3 ?_
    refine x_icne (tgt := 22) rfl rfl (ti_ne rfl jk_3 (bn_t (by omega) ?_))
    refine x_iconst (v := 0) rfl ki_0 ?_
    refine x_zret rfl rfl (by decide) ?_
    show jX m_X12_behindSum 4 0 0 53 [(2, .int v5), (0, .ref 125), (1, .int a1)] [.int 0] _ 0 0 _
    refine x_ifeq (tgt := 61) rfl rfl (ti_eq jk_0 jk_0 (br_t (by omega) ?_))
    refine x_iconst (v := (-1)) rfl ki_m1 ?_
    exact jX.sub (jsb_c rfl (jsb_c rfl (jsb_c rfl jsb_n))) (ct_X12_behindSum_r125d_100062 hA hD hQ  a1 v5 p0 p3 p1 p2 h (jr_of rfl (by omega)) (jr_of rfl (by omega)) (jr_of rfl (by omega)) (jr_of rfl (by omega)) (jr_of rfl (by omega)) (jr_of rfl (by omega)) ⟨(jeq_c S1 rfl jeq_0), (jeq_c S1 rfl jeq_0), (jeq_c S1 rfl jeq_0), (jeq_c S1 rfl jeq_0), (jmc S1 rfl rfl), (jmc S1 rfl rfl), (jmc S1 rfl rfl), (jmc S1 rfl rfl)⟩ P2 (by omega) (by omega) (jmc S1 rfl zp0) (jmc S1 rfl zp3) (jmc S1 rfl zp1) (jmc S1 rfl zp2) J Sm D)
  ·
    rw [if_pos (by omega)] at D
    refine x_aloadn (x := 125) rfl rfl ?_
    refine z_getLQ (N := 92) 12 12 rfl f_12_224 rfl J rfl (fun v7 qv7 => ?_)
    have ev7 := jfullL v7
    try rw [vrfL qv7] at D
    refine x_iloadn (x := 43) rfl rfl ?_
    refine z_i2l rfl jk_43 (fun v8 ev8 => ?_)
    refine z_lcmp rfl rfl rfl (fun v9 ev9 => ?_)
    refine x_ifne (tgt := 22) rfl rfl (ti_ne rfl jk_0 ⟨fun c10 => ?_, fun c10 => ?_⟩)
    ·
      rw [if_neg (by omega)] at D
      refine x_iconst (v := 0) rfl ki_0 ?_
      refine x_zret rfl rfl (by decide) ?_
      show jX m_X12_behindSum 4 0 0 11 [(2, .int v5), (0, .ref 125), (1, .int a1)] [.int 0] _ 0 0 _
      refine x_ifeq (tgt := 19) rfl rfl (ti_eq jk_0 jk_0 (br_t (by omega) ?_))
      refine x_aloadn (x := 125) rfl rfl ?_
      refine x_bipush (v := 45) rfl kb_45 ?_
      refine x_inv (N := m_X12_isSign) (As := [.int 45]) (b := 125) (st := []) (dx9 := 3) (mc := 0) (ms := 0) (host := "") 12 rfl t_X12_isSign ⟨Or.inl q_12_257, i_X12_isSign.1, i_X12_isSign.2⟩ ⟨by decide, rfl⟩ (congrArg Prod.fst (J.1.1 125 (12, 92) rfl)) rfl (by decide) rfl rfl ⟨by decide, by decide⟩ (jC.of rfl k_X12_isSign rfl ?_)
      show jX m_X12_isSign 3 0 0 0 [(0, .ref 125), (1, .int 45)] [] _ 0 0 _
      refine x_aloadn (x := 125) rfl rfl ?_
      refine z_getM (N := 92) (v := p3) 12 11 rfl f_12_235 rfl J rfl (jmc S1 rfl zp3) ?_
      refine x_iconst (v := 3) rfl ki_3 ?_
      refine x_icne (tgt := 22) rfl rfl (ti_ne rfl jk_3 (bn_f (by omega) ?_))
      refine x_aloadn (x := 125) rfl rfl ?_
      refine z_getLQ (N := 92) 12 12 rfl f_12_224 rfl J rfl (fun v11 qv11 => ?_)
      have ev11 := jfullL v11
      try have kqv11 : v7.toInt = v11.toInt := ((vrfL qv7).symm.trans (vrfL qv11))
      try rw [kqv11] at D
      try rw [vrfL qv11] at D
      refine x_iloadn (x := 45) rfl rfl ?_
      refine z_i2l rfl jk_45 (fun v12 ev12 => ?_)
      refine z_lcmp rfl rfl rfl (fun v13 ev13 => ?_)
      refine x_ifne (tgt := 22) rfl rfl (ti_ne rfl jk_0 ⟨fun c14 => ?_, fun c14 => ?_⟩)
      ·
        rw [if_neg (by omega)] at D
        refine x_iconst (v := 0) rfl ki_0 ?_
        refine x_zret rfl rfl (by decide) ?_
        show jX m_X12_behindSum 4 0 0 25 [(2, .int v5), (0, .ref 125), (1, .int a1)] [.int 0] _ 0 0 _
        refine x_ifeq (tgt := 33) rfl rfl (ti_eq jk_0 jk_0 (br_t (by omega) ?_))
        refine x_aloadn (x := 125) rfl rfl ?_
        refine x_bipush (v := 42) rfl kb_42 ?_
        refine x_inv (N := m_X12_isSign) (As := [.int 42]) (b := 125) (st := []) (dx9 := 3) (mc := 0) (ms := 0) (host := "") 12 rfl t_X12_isSign ⟨Or.inl q_12_257, i_X12_isSign.1, i_X12_isSign.2⟩ ⟨by decide, rfl⟩ (congrArg Prod.fst (J.1.1 125 (12, 92) rfl)) rfl (by decide) rfl rfl ⟨by decide, by decide⟩ (jC.of rfl k_X12_isSign rfl ?_)
        show jX m_X12_isSign 3 0 0 0 [(0, .ref 125), (1, .int 42)] [] _ 0 0 _
        refine x_aloadn (x := 125) rfl rfl ?_
        refine z_getM (N := 92) (v := p3) 12 11 rfl f_12_235 rfl J rfl (jmc S1 rfl zp3) ?_
        refine x_iconst (v := 3) rfl ki_3 ?_
        refine x_icne (tgt := 22) rfl rfl (ti_ne rfl jk_3 (bn_f (by omega) ?_))
        refine x_aloadn (x := 125) rfl rfl ?_
        refine z_getLQ (N := 92) 12 12 rfl f_12_224 rfl J rfl (fun v15 qv15 => ?_)
        have ev15 := jfullL v15
        try have kqv15 : v11.toInt = v15.toInt := ((vrfL qv11).symm.trans (vrfL qv15))
        try rw [kqv15] at D
        try rw [vrfL qv15] at D
        refine x_iloadn (x := 42) rfl rfl ?_
        refine z_i2l rfl jk_42 (fun v16 ev16 => ?_)
        refine z_lcmp rfl rfl rfl (fun v17 ev17 => ?_)
        refine x_ifne (tgt := 22) rfl rfl (ti_ne rfl jk_0 ⟨fun c18 => ?_, fun c18 => ?_⟩)
        ·
          rw [if_neg (by omega)] at D
          refine x_iconst (v := 0) rfl ki_0 ?_
          refine x_zret rfl rfl (by decide) ?_
          show jX m_X12_behindSum 4 0 0 39 [(2, .int v5), (0, .ref 125), (1, .int a1)] [.int 0] _ 0 0 _
          refine x_ifeq (tgt := 47) rfl rfl (ti_eq jk_0 jk_0 (br_t (by omega) ?_))
          refine x_aloadn (x := 125) rfl rfl ?_
          refine x_bipush (v := 47) rfl kb_47 ?_
          refine x_inv (N := m_X12_isSign) (As := [.int 47]) (b := 125) (st := []) (dx9 := 3) (mc := 0) (ms := 0) (host := "") 12 rfl t_X12_isSign ⟨Or.inl q_12_257, i_X12_isSign.1, i_X12_isSign.2⟩ ⟨by decide, rfl⟩ (congrArg Prod.fst (J.1.1 125 (12, 92) rfl)) rfl (by decide) rfl rfl ⟨by decide, by decide⟩ (jC.of rfl k_X12_isSign rfl ?_)
          show jX m_X12_isSign 3 0 0 0 [(0, .ref 125), (1, .int 47)] [] _ 0 0 _
          refine x_aloadn (x := 125) rfl rfl ?_
          refine z_getM (N := 92) (v := p3) 12 11 rfl f_12_235 rfl J rfl (jmc S1 rfl zp3) ?_
          refine x_iconst (v := 3) rfl ki_3 ?_
          refine x_icne (tgt := 22) rfl rfl (ti_ne rfl jk_3 (bn_f (by omega) ?_))
          refine x_aloadn (x := 125) rfl rfl ?_
          refine z_getLQ (N := 92) 12 12 rfl f_12_224 rfl J rfl (fun v19 qv19 => ?_)
          have ev19 := jfullL v19
          try have kqv19 : v15.toInt = v19.toInt := ((vrfL qv15).symm.trans (vrfL qv19))
          try rw [kqv19] at D
          try rw [vrfL qv19] at D
          refine x_iloadn (x := 47) rfl rfl ?_
          refine z_i2l rfl jk_47 (fun v20 ev20 => ?_)
          refine z_lcmp rfl rfl rfl (fun v21 ev21 => ?_)
          refine x_ifne (tgt := 22) rfl rfl (ti_ne rfl jk_0 ⟨fun c22 => ?_, fun c22 => ?_⟩)
          ·
            rw [if_neg (by omega)] at D
            refine x_iconst (v := 0) rfl ki_0 ?_
            refine x_zret rfl rfl (by decide) ?_
            show jX m_X12_behindSum 4 0 0 53 [(2, .int v5), (0, .ref 125), (1, .int a1)] [.int 0] _ 0 0 _
            refine x_ifeq (tgt := 61) rfl rfl (ti_eq jk_0 jk_0 (br_t (by omega) ?_))
            refine x_iconst (v := (-1)) rfl ki_m1 ?_
            exact jX.sub (jsb_c rfl (jsb_c rfl (jsb_c rfl jsb_n))) (ct_X12_behindSum_r125d_100062 hA hD hQ  a1 v5 p0 p3 p1 p2 h (jr_of rfl (by omega)) (jr_of rfl (by omega)) (jr_of rfl (by omega)) (jr_of rfl (by omega)) (jr_of rfl (by omega)) (jr_of rfl (by omega)) ⟨(jeq_c S1 rfl jeq_0), (jeq_c S1 rfl jeq_0), (jeq_c S1 rfl jeq_0), (jeq_c S1 rfl jeq_0), (jmc S1 rfl rfl), (jmc S1 rfl rfl), (jmc S1 rfl rfl), (jmc S1 rfl rfl)⟩ P2 (by omega) (by omega) (jmc S1 rfl zp0) (jmc S1 rfl zp3) (jmc S1 rfl zp1) (jmc S1 rfl zp2) J Sm D)
          ·
            rw [if_pos (by omega)] at D
            refine x_iconst (v := 1) rfl ki_1 ?_
            refine x_goto (tgt := 23) rfl rfl ?_
            refine x_zret rfl rfl (by decide) ?_
            show jX m_X12_behindSum 4 0 0 53 [(2, .int v5), (0, .ref 125), (1, .int a1)] [.int 1] _ 0 0 _
            refine x_ifeq (tgt := 61) rfl rfl (ti_eq jk_1 jk_0 (br_f (by omega) ?_))
            refine x_bipush (v := 9) rfl kb_9 ?_
            refine x_goto (tgt := 62) rfl rfl ?_
            exact jX.sub (jsb_c rfl (jsb_c rfl (jsb_c rfl jsb_n))) (ct_X12_behindSum_r125d_62 hA hD hQ  a1 v5 p0 p3 p1 p2 h (jr_of rfl (by omega)) (jr_of rfl (by omega)) (jr_of rfl (by omega)) (jr_of rfl (by omega)) (jr_of rfl (by omega)) (jr_of rfl (by omega)) ⟨(jeq_c S1 rfl jeq_0), (jeq_c S1 rfl jeq_0), (jeq_c S1 rfl jeq_0), (jeq_c S1 rfl jeq_0), (jmc S1 rfl rfl), (jmc S1 rfl rfl), (jmc S1 rfl rfl), (jmc S1 rfl rfl)⟩ P2 (by omega) (by omega) (by omega) (jmc S1 rfl zp0) (jmc S1 rfl zp3) (jmc S1 rfl zp1) (jmc S1 rfl zp2) J Sm D)
        ·
          rw [if_pos (by omega)] at D
          refine x_iconst (v := 1) rfl ki_1 ?_
          refine x_goto (tgt := 23) rfl rfl ?_
          refine x_zret rfl rfl (by decide) ?_
          show jX m_X12_behindSum 4 0 0 39 [(2, .int v5), (0, .ref 125), (1, .int a1)] [.int 1] _ 0 0 _
          refine x_ifeq (tgt := 47) rfl rfl (ti_eq jk_1 jk_0 (br_f (by omega) ?_))
          refine x_bipush (v := 8) rfl kb_8 ?_
          refine x_goto (tgt := 62) rfl rfl ?_
          exact jX.sub (jsb_c rfl (jsb_c rfl (jsb_c rfl jsb_n))) (ct_X12_behindSum_r125d_1000062 hA hD hQ  a1 v5 p0 p3 p1 p2 h (jr_of rfl (by omega)) (jr_of rfl (by omega)) (jr_of rfl (by omega)) (jr_of rfl (by omega)) (jr_of rfl (by omega)) (jr_of rfl (by omega)) ⟨(jeq_c S1 rfl jeq_0), (jeq_c S1 rfl jeq_0), (jeq_c S1 rfl jeq_0), (jeq_c S1 rfl jeq_0), (jmc S1 rfl rfl), (jmc S1 rfl rfl), (jmc S1 rfl rfl), (jmc S1 rfl rfl)⟩ P2 (by omega) (by omega) (by omega) (jmc S1 rfl zp0) (jmc S1 rfl zp3) (jmc S1 rfl zp1) (jmc S1 rfl zp2) J Sm D)
      ·
        rw [if_pos (by omega)] at D
        refine x_iconst (v := 1) rfl ki_1 ?_
        refine x_goto (tgt := 23) rfl rfl ?_
        refine x_zret rfl rfl (by decide) ?_
        show jX m_X12_behindSum 4 0 0 25 [(2, .int v5), (0, .ref 125), (1, .int a1)] [.int 1] _ 0 0 _
        refine x_ifeq (tgt := 33) rfl rfl (ti_eq jk_1 jk_0 (br_f (by omega) ?_))
        refine x_bipush (v := 7) rfl kb_7 ?_
        refine x_goto (tgt := 62) rfl rfl ?_
        exact jX.sub (jsb_c rfl (jsb_c rfl (jsb_c rfl jsb_n))) (ct_X12_behindSum_r125d_900062 hA hD hQ  a1 v5 p0 p3 p1 p2 h (jr_of rfl (by omega)) (jr_of rfl (by omega)) (jr_of rfl (by omega)) (jr_of rfl (by omega)) (jr_of rfl (by omega)) (jr_of rfl (by omega)) ⟨(jeq_c S1 rfl jeq_0), (jeq_c S1 rfl jeq_0), (jeq_c S1 rfl jeq_0), (jeq_c S1 rfl jeq_0), (jmc S1 rfl rfl), (jmc S1 rfl rfl), (jmc S1 rfl rfl), (jmc S1 rfl rfl)⟩ P2 (by omega) (by omega) (by omega) (jmc S1 rfl zp0) (jmc S1 rfl zp3) (jmc S1 rfl zp1) (jmc S1 rfl zp2) J Sm D)
    ·
      rw [if_pos (by omega)] at D
      refine x_iconst (v := 1) rfl ki_1 ?_
      refine x_goto (tgt := 23) rfl rfl ?_
      refine x_zret rfl rfl (by decide) ?_
      show jX m_X12_behindSum 4 0 0 11 [(2, .int v5), (0, .ref 125), (1, .int a1)] [.int 1] _ 0 0 _
      refine x_ifeq (tgt := 19) rfl rfl (ti_eq jk_1 jk_0 (br_f (by omega) ?_))
      refine x_bipush (v := 6) rfl kb_6 ?_
      refine x_goto (tgt := 62) rfl rfl ?_
      exact jX.sub (jsb_c rfl (jsb_c rfl (jsb_c rfl jsb_n))) (ct_X12_behindSum_r125d_800062 hA hD hQ  a1 v5 p0 p3 p1 p2 h (jr_of rfl (by omega)) (jr_of rfl (by omega)) (jr_of rfl (by omega)) (jr_of rfl (by omega)) (jr_of rfl (by omega)) (jr_of rfl (by omega)) ⟨(jeq_c S1 rfl jeq_0), (jeq_c S1 rfl jeq_0), (jeq_c S1 rfl jeq_0), (jeq_c S1 rfl jeq_0), (jmc S1 rfl rfl), (jmc S1 rfl rfl), (jmc S1 rfl rfl), (jmc S1 rfl rfl)⟩ P2 (by omega) (by omega) (by omega) (jmc S1 rfl zp0) (jmc S1 rfl zp3) (jmc S1 rfl zp1) (jmc S1 rfl zp2) J Sm D)
def fp_X12_behindTest_r125d : jFp := [(125, 9, 10), (125, 10, 11), (125, 11, 12), (125, 12, 13), (125, 13, 14), (125, 14, 15), (125, 49, 50), (125, 55, 56), (125, 56, 57), (148, 0, 400), (149, 0, 400), (150, 0, 400), (151, 0, 400)]
set_option maxRecDepth 100000 in
set_option maxHeartbeats 4000000 in
theorem ct_X12_behindTest_r125d_66 {Dy : jH → Prop} {h0 : jH} {Q : Option Value → jH → Prop} {dr : (Int × jW)} {A : Nat} (hA : jTu 0 h0 A 1) (hN : (jiv h0 125 14).toInt ≠ 0 ∨ jNsq h0) (hD : jDk Dy) (hQ : ∀ (v : Int32) hx9, 0 ≤ v.toInt ∧ v.toInt ≤ 4 → jJ jSgM Dy hx9 → jSm fp_X12_behindTest_r125d h0 hx9 → ∀ u0 u1 u2 : Int32, jiv hx9 125 10 = u0 → jiv hx9 125 8 = u1 → jiv hx9 125 9 = u2 → (u0.toInt ≤ u1.toInt ∧ u2.toInt ≤ u0.toInt) → ∀ u3 u4 u5 : Int32, jiv hx9 125 11 = u3 → jiv hx9 125 9 = u4 → jiv hx9 125 10 = u5 → (u3.toInt = 0 ∨ u4.toInt + 1 ≤ u5.toInt) → jBp 4 4 A h0 v.toInt hx9 → dr.1 = v.toInt → dr.2 = vw hx9 → Q (some (.int v)) hx9) : ∀ (s0 : Int32) (g0 : Int32) (g1 : Int32) (g2 : Int32) (g3 : Int32) (g4 : Int32) (h : jH), 19 ≤ s0.toInt ∧ s0.toInt ≤ 20 → 0 ≤ g0.toInt ∧ g0.toInt ≤ 400 → 1 ≤ g1.toInt ∧ g1.toInt ≤ 1 → 0 ≤ g2.toInt ∧ g2.toInt ≤ 399 → 0 ≤ g3.toInt ∧ g3.toInt ≤ 400 → 0 ≤ g4.toInt ∧ g4.toInt ≤ 400 → jB66 A h0 h → g1.toInt ≠ 0 → (g0.toInt ≤ g3.toInt ∧ g4.toInt ≤ g0.toInt) → (g1.toInt = 0 ∨ g4.toInt + 1 ≤ g0.toInt) → jiv h 125 10 = g0 → jiv h 125 11 = g1 → jiv h 125 49 = g2 → jiv h 125 8 = g3 → jiv h 125 9 = g4 → jJ jSgM Dy h → jSm fp_X12_behindTest_r125d h0 h → d_X12_behindTest_r125d_66  s0.toInt (vw h) = dr → jX m_X12_behindTest 4 0 0 66 [(0, .ref 125)] [.int s0, .ref 125] h 0 0 Q := by
  intro s0 g0 g1 g2 g3 g4 h y0 y1 y2 y3 y4 y5 C0 y7 y8 y9 z0 z1 z2 z3 z4  J Sm D
  unfold d_X12_behindTest_r125d_66 at D
  try rw [vrf z0] at D
  try rw [vrf z1] at D
  try rw [vrf z2] at D
  try rw [vrf z3] at D
  try rw [vrf z4] at D
  have cx := jb66_c C0 z2
  refine x_iconst (v := 0) rfl ki_0 ?_
  refine x_inv (N := m_X12_emit) (As := [.int s0, .int 0]) (b := 125) (st := []) (dx9 := 3) (mc := 0) (ms := 0) (host := "") 12 rfl t_X12_emit ⟨Or.inl q_12_502, i_X12_emit.1, i_X12_emit.2⟩ ⟨by decide, rfl⟩ (congrArg Prod.fst (J.1.1 125 (12, 92) rfl)) rfl (by decide) rfl rfl ⟨by decide, by decide⟩ (jC.of rfl k_X12_emit rfl ?_)
  show jX m_X12_emit 3 0 0 0 [(0, .ref 125), (1, .int s0), (2, .int 0)] [] _ 0 0 _
  refine x_aloadn (x := 125) rfl rfl ?_
  refine z_getR (N := 92) (b := 148) 12 50 rfl f_12_99 rfl J rfl 16050 ⟨rfl, rfl⟩ rfl ?_
  refine x_aloadn (x := 125) rfl rfl ?_
  refine z_getM (N := 92) (v := g2) 12 49 rfl f_12_493 rfl J rfl z2 ?_
  refine x_iloadn (x := s0) rfl rfl ?_
  refine z_iast (N := 400) (l := 0) (u := 400) (w := s0.toInt) rfl hD J Sm rfl rfl rfl (by omega) rfl (wr_148) rfl (fun h w1 J Sm => ?_)
  rw [vww w1 (show g2.toInt = g2.toInt from by omega) (show s0.toInt = s0.toInt from by omega)] at D
  refine x_aloadn (x := 125) rfl rfl ?_
  refine z_getR (N := 92) (b := 149) 12 51 rfl f_12_102 rfl J rfl 16051 ⟨rfl, rfl⟩ rfl ?_
  refine x_aloadn (x := 125) rfl rfl ?_
  refine z_getM (N := 92) (v := g2) 12 49 rfl f_12_493 rfl J rfl (jmo w1 rfl z2) ?_
  refine x_iloadn (x := 0) rfl rfl ?_
  refine z_iast (N := 400) (l := 0) (u := 400) (w := 0) rfl hD J Sm rfl rfl rfl (by omega) jk_0 (wr_149) rfl (fun h w2 J Sm => ?_)
  rw [vww w2 (show g2.toInt = g2.toInt from by omega) (show 0 = (0 : Int32).toInt from by have := jk_0; omega)] at D
  refine x_aloadn (x := 125) rfl rfl ?_
  refine x_dup rfl rfl ?_
  refine z_getM (N := 92) (v := g2) 12 49 rfl f_12_493 rfl J rfl (jmo w2 rfl (jmo w1 rfl z2)) ?_
  refine x_iconst (v := 1) rfl ki_1 ?_
  refine z_iadd rfl rfl jk_1 (by omega) (fun v3 ev3 => ?_)
  refine z_putI (N := 92) (w := v3.toInt) 12 49 rfl f_12_493 rfl (jfin_no TX12 RX12 92 rfl rfl) hD J Sm rfl rfl rfl (pw_125_49 (by omega)) rfl (fun h w4 J Sm => ?_)
  rw [vwf w4 (show (g2.toInt + 1) = v3.toInt from by omega)] at D
  refine x_vret rfl rfl ?_
  show jX m_X12_behindTest 4 0 0 70 [(0, .ref 125)] [] _ 0 0 _
  refine x_aloadn (x := 125) rfl rfl ?_
  refine x_inv (N := m_X12_next) (As := []) (b := 125) (st := []) (dx9 := 2) (mc := 0) (ms := 0) (host := "") 12 rfl t_X12_next ⟨Or.inl q_12_218, i_X12_next.1, i_X12_next.2⟩ ⟨by decide, rfl⟩ (congrArg Prod.fst (J.1.1 125 (12, 92) rfl)) rfl (by decide) rfl rfl ⟨by decide, by decide⟩ (sf_X12_next_r125d  hD J (jmo w4 rfl (jmo w2 rfl (jmo w1 rfl z0))) (jmo w4 rfl (jmo w2 rfl (jmo w1 rfl z3))) (by omega) rfl  (fun h J S5 u6 u7 u8 qu6 qu7 qu8 ru6 u9 u10 u11 qu9 qu10 qu11 ru9 P12 X13 => ?_))
  have Sm := jSm_tr rfl Sm S5
  rw [X13] at D
  have eu6 := (show 0 ≤ u6.toInt ∧ u6.toInt ≤ 400 from qu6 ▸ jrg_f J sg_125_10_11_1_0_1)
  try rw [vrf qu6] at D
  have eu7 := (show 0 ≤ u7.toInt ∧ u7.toInt ≤ 400 from qu7 ▸ jrg_f J sg_125_8_9_1_0_1)
  try rw [vrf (jmb_w w1 (jmb_w w2 (jmb_w w4 (jmb_c S5 qu7 rfl) rfl) rfl) rfl)] at D
  have eu8 := (show 0 ≤ u8.toInt ∧ u8.toInt ≤ 400 from qu8 ▸ jrg_f J sg_125_9_10_1_0_1)
  try rw [vrf qu8] at D
  have eu9 := (show 0 ≤ u9.toInt ∧ u9.toInt ≤ 3 from qu9 ▸ jrg_f J sg_125_11_12_1_0_1)
  try rw [vrf qu9] at D
  obtain rfl : u8 = u10 := qu8.symm.trans qu10
  obtain rfl : u6 = u11 := qu6.symm.trans qu11
  have nfP12 := jnf P12.1 (jmo w4 rfl (jmo w2 rfl (jmo w1 rfl z0))) qu8
  show jX m_X12_behindTest 4 0 0 74 [(0, .ref 125)] [] _ 0 0 _
  refine x_iconst (v := 0) rfl ki_0 ?_
  refine x_iret rfl rfl ?_
  exact hQ _ _ (jr_of jk_0 (by omega)) J Sm _ _ _ qu6 qu7 qu8 (by omega) _ _ _ qu9 qu8 qu6 (by omega) (by rw [jk_0]; exact jbp_1 (bt_ao C0 z2 w1 w2 w4 (by omega) (by unfold jAo_; omega) (jeq_c S5 rfl jeq_0) (jeq_c S5 rfl jeq_0) (jeq_c S5 rfl jeq_0) (jeq_c S5 rfl jeq_0) (jmc S5 rfl rfl) (jmc S5 rfl rfl) (jmc S5 rfl rfl) z4 qu8 (by omega))) ((congrArg Prod.fst D).symm.trans (show 0 = (0 : Int32).toInt from by have := jk_0; omega)) (congrArg Prod.snd D).symm
set_option maxRecDepth 100000 in
set_option maxHeartbeats 4000000 in
theorem ct_X12_behindTest_r125d_47 {Dy : jH → Prop} {h0 : jH} {Q : Option Value → jH → Prop} {dr : (Int × jW)} {A : Nat} (hA : jTu 0 h0 A 1) (hN : (jiv h0 125 14).toInt ≠ 0 ∨ jNsq h0) (hD : jDk Dy) (hQ : ∀ (v : Int32) hx9, 0 ≤ v.toInt ∧ v.toInt ≤ 4 → jJ jSgM Dy hx9 → jSm fp_X12_behindTest_r125d h0 hx9 → ∀ u0 u1 u2 : Int32, jiv hx9 125 10 = u0 → jiv hx9 125 8 = u1 → jiv hx9 125 9 = u2 → (u0.toInt ≤ u1.toInt ∧ u2.toInt ≤ u0.toInt) → ∀ u3 u4 u5 : Int32, jiv hx9 125 11 = u3 → jiv hx9 125 9 = u4 → jiv hx9 125 10 = u5 → (u3.toInt = 0 ∨ u4.toInt + 1 ≤ u5.toInt) → jBp 4 4 A h0 v.toInt hx9 → dr.1 = v.toInt → dr.2 = vw hx9 → Q (some (.int v)) hx9) : ∀ (l1 : Int32) (s0 : Int32) (g0 : Int32) (g1 : Int32) (g2 : Int32) (g3 : Int32) (g4 : Int32) (g5 : Int32) (h : jH), 0 ≤ l1.toInt ∧ l1.toInt ≤ 1 → 19 ≤ s0.toInt ∧ s0.toInt ≤ 20 → 0 ≤ g0.toInt ∧ g0.toInt ≤ 400 → 1 ≤ g1.toInt ∧ g1.toInt ≤ 1 → 0 ≤ g2.toInt ∧ g2.toInt ≤ 400 → 0 ≤ g3.toInt ∧ g3.toInt ≤ 400 → 0 ≤ g4.toInt ∧ g4.toInt ≤ 400 → 0 ≤ g5.toInt ∧ g5.toInt ≤ 400 → jB47 A h0 h → g1.toInt ≠ 0 → (g0.toInt ≤ g4.toInt ∧ g5.toInt ≤ g0.toInt) → (g1.toInt = 0 ∨ g5.toInt + 1 ≤ g0.toInt) → jiv h 125 10 = g0 → jiv h 125 11 = g1 → jiv h 125 49 = g2 → jiv h 125 55 = g3 → jiv h 125 8 = g4 → jiv h 125 9 = g5 → jJ jSgM Dy h → jSm fp_X12_behindTest_r125d h0 h → d_X12_behindTest_r125d_47  l1.toInt s0.toInt (vw h) = dr → jX m_X12_behindTest 4 0 0 47 [(0, .ref 125), (1, .int l1)] [.int s0, .ref 125] h 0 0 Q := by
  intro l1 s0 g0 g1 g2 g3 g4 g5 h y0 y1 y2 y3 y4 y5 y6 y7 C0 y9 y10 y11 z0 z1 z2 z3 z4 z5  J Sm D
  unfold d_X12_behindTest_r125d_47 at D
  try rw [vrf z0] at D
  try rw [vrf z1] at D
  try rw [vrf z2] at D
  try rw [vrf z3] at D
  try rw [vrf z4] at D
  try rw [vrf z5] at D
  have lx := jtw_l C0.1.1 z3 z5
  have cx := jtw_c C0.1.1 z2 z5
  refine x_aloadn (x := 125) rfl rfl ?_
  refine z_getM (N := 92) (v := g2) 12 49 rfl f_12_493 rfl J rfl z2 ?_
  refine x_inv (N := m_X12_push) (As := [.int s0, .int g2]) (b := 125) (st := []) (dx9 := 3) (mc := 0) (ms := 0) (host := "") 12 rfl t_X12_push ⟨Or.inl q_12_536, i_X12_push.1, i_X12_push.2⟩ ⟨by decide, rfl⟩ (congrArg Prod.fst (J.1.1 125 (12, 92) rfl)) rfl (by decide) rfl rfl ⟨by decide, by decide⟩ (jC.of rfl k_X12_push rfl ?_)
  show jX m_X12_push 3 0 0 0 [(0, .ref 125), (1, .int s0), (2, .int g2)] [] _ 0 0 _
  refine x_aloadn (x := 125) rfl rfl ?_
  refine z_getR (N := 92) (b := 150) 12 53 rfl f_12_105 rfl J rfl 16053 ⟨rfl, rfl⟩ rfl ?_
  refine x_aloadn (x := 125) rfl rfl ?_
  refine z_getM (N := 92) (v := g3) 12 55 rfl f_12_496 rfl J rfl z3 ?_
  refine x_iloadn (x := s0) rfl rfl ?_
  refine z_iast (N := 400) (l := 0) (u := 400) (w := s0.toInt) rfl hD J Sm rfl rfl rfl (by omega) rfl (wr_150) rfl (fun h w1 J Sm => ?_)
  rw [vww w1 (show g3.toInt = g3.toInt from by omega) (show s0.toInt = s0.toInt from by omega)] at D
  refine x_aloadn (x := 125) rfl rfl ?_
  refine z_getR (N := 92) (b := 151) 12 54 rfl f_12_108 rfl J rfl 16054 ⟨rfl, rfl⟩ rfl ?_
  refine x_aloadn (x := 125) rfl rfl ?_
  refine z_getM (N := 92) (v := g3) 12 55 rfl f_12_496 rfl J rfl (jmo w1 rfl z3) ?_
  refine x_iloadn (x := g2) rfl rfl ?_
  refine z_iast (N := 400) (l := 0) (u := 400) (w := g2.toInt) rfl hD J Sm rfl rfl rfl (by omega) rfl (wr_151) rfl (fun h w2 J Sm => ?_)
  rw [vww w2 (show g3.toInt = g3.toInt from by omega) (show g2.toInt = g2.toInt from by omega)] at D
  refine x_aloadn (x := 125) rfl rfl ?_
  refine x_dup rfl rfl ?_
  refine z_getM (N := 92) (v := g3) 12 55 rfl f_12_496 rfl J rfl (jmo w2 rfl (jmo w1 rfl z3)) ?_
  refine x_iconst (v := 1) rfl ki_1 ?_
  refine z_iadd rfl rfl jk_1 (by omega) (fun v3 ev3 => ?_)
  refine z_putI (N := 92) (w := v3.toInt) 12 55 rfl f_12_496 rfl (jfin_no TX12 RX12 92 rfl rfl) hD J Sm rfl rfl rfl (pw_125_55 (by omega)) rfl (fun h w4 J Sm => ?_)
  rw [vwf w4 (show (g3.toInt + 1) = v3.toInt from by omega)] at D
  refine x_vret rfl rfl ?_
  show jX m_X12_behindTest 4 0 0 54 [(0, .ref 125), (1, .int l1)] [] _ 0 0 _
  refine x_aloadn (x := 125) rfl rfl ?_
  refine x_iloadn (x := l1) rfl rfl ?_
  refine x_ifeq (tgt := 64) rfl rfl (ti_eq rfl jk_0 ⟨fun c5 => ?_, fun c5 => ?_⟩)
  ·
    rw [if_pos (by omega)] at D
    refine x_bipush (v := 20) rfl kb_20 ?_
    exact jX.sub (jsb_c rfl jsb_n) (ct_X12_behindTest_r125d_66 hA hN hD hQ  20 g0 g1 g2 g4 g5 h (jr_of jk_20 (by omega)) (jr_of rfl (by omega)) (jr_of rfl (by omega)) (jr_of rfl (by omega)) (jr_of rfl (by omega)) (jr_of rfl (by omega)) ⟨_, _, _, _, _, _, _, C0.1, C0.2.1, C0.2.2.1, C0.2.2.2, z3, z2, w1, w2, w4, (by omega), (by unfold jAo_; omega), (by omega)⟩ (by omega) (by omega) (by omega) (jmo w4 rfl (jmo w2 rfl (jmo w1 rfl z0))) (jmo w4 rfl (jmo w2 rfl (jmo w1 rfl z1))) (jmo w4 rfl (jmo w2 rfl (jmo w1 rfl z2))) (jmo w4 rfl (jmo w2 rfl (jmo w1 rfl z4))) (jmo w4 rfl (jmo w2 rfl (jmo w1 rfl z5))) J Sm (by rw [jk_20]; exact D))
  ·
    rw [if_neg (by omega)] at D
    refine x_bipush (v := 19) rfl kb_19 ?_
    refine x_goto (tgt := 66) rfl rfl ?_
    exact jX.sub (jsb_c rfl jsb_n) (ct_X12_behindTest_r125d_66 hA hN hD hQ  19 g0 g1 g2 g4 g5 h (jr_of jk_19 (by omega)) (jr_of rfl (by omega)) (jr_of rfl (by omega)) (jr_of rfl (by omega)) (jr_of rfl (by omega)) (jr_of rfl (by omega)) ⟨_, _, _, _, _, _, _, C0.1, C0.2.1, C0.2.2.1, C0.2.2.2, z3, z2, w1, w2, w4, (by omega), (by unfold jAo_; omega), (by omega)⟩ (by omega) (by omega) (by omega) (jmo w4 rfl (jmo w2 rfl (jmo w1 rfl z0))) (jmo w4 rfl (jmo w2 rfl (jmo w1 rfl z1))) (jmo w4 rfl (jmo w2 rfl (jmo w1 rfl z2))) (jmo w4 rfl (jmo w2 rfl (jmo w1 rfl z4))) (jmo w4 rfl (jmo w2 rfl (jmo w1 rfl z5))) J Sm (by rw [jk_19]; exact D))
set_option maxRecDepth 100000 in
set_option maxHeartbeats 4000000 in
theorem ct_X12_behindTest_r125d_300032 {Dy : jH → Prop} {h0 : jH} {Q : Option Value → jH → Prop} {dr : (Int × jW)} {A : Nat} (hA : jTu 0 h0 A 1) (hN : (jiv h0 125 14).toInt ≠ 0 ∨ jNsq h0) (hD : jDk Dy) (hQ : ∀ (v : Int32) hx9, 0 ≤ v.toInt ∧ v.toInt ≤ 4 → jJ jSgM Dy hx9 → jSm fp_X12_behindTest_r125d h0 hx9 → ∀ u0 u1 u2 : Int32, jiv hx9 125 10 = u0 → jiv hx9 125 8 = u1 → jiv hx9 125 9 = u2 → (u0.toInt ≤ u1.toInt ∧ u2.toInt ≤ u0.toInt) → ∀ u3 u4 u5 : Int32, jiv hx9 125 11 = u3 → jiv hx9 125 9 = u4 → jiv hx9 125 10 = u5 → (u3.toInt = 0 ∨ u4.toInt + 1 ≤ u5.toInt) → jBp 4 4 A h0 v.toInt hx9 → dr.1 = v.toInt → dr.2 = vw hx9 → Q (some (.int v)) hx9) : ∀ (l1 : Int32) (g0 : Int32) (g1 : Int32) (g2 : Int32) (g3 : Int32) (h : jH), 0 ≤ l1.toInt ∧ l1.toInt ≤ 0 → 0 ≤ g0.toInt ∧ g0.toInt ≤ 400 → 1 ≤ g1.toInt ∧ g1.toInt ≤ 1 → 0 ≤ g2.toInt ∧ g2.toInt ≤ 400 → 0 ≤ g3.toInt ∧ g3.toInt ≤ 400 → jSa h0 h → g1.toInt ≠ 0 → (g0.toInt ≤ g2.toInt ∧ g3.toInt ≤ g0.toInt) → (g1.toInt = 0 ∨ g3.toInt + 1 ≤ g0.toInt) → jiv h 125 10 = g0 → jiv h 125 11 = g1 → jiv h 125 8 = g2 → jiv h 125 9 = g3 → jJ jSgM Dy h → jSm fp_X12_behindTest_r125d h0 h → d_X12_behindTest_r125d_300032  l1.toInt (vw h) = dr → jX m_X12_behindTest 4 0 0 32 [(0, .ref 125), (1, .int l1)] [.int 1, .ref 125] h 0 0 Q := by
  intro l1 g0 g1 g2 g3 h y0 y1 y2 y3 y4 C0 y6 y7 y8 z0 z1 z2 z3  J Sm D
  unfold d_X12_behindTest_r125d_300032 at D
  try rw [vrf z0] at D
  try rw [vrf z1] at D
  try rw [vrf z2] at D
  try rw [vrf z3] at D
  refine x_inv (N := m_X12_settle) (As := [.int 1]) (b := 125) (st := []) (dx9 := 2) (mc := 0) (ms := 0) (host := "") 12 rfl t_X12_settle ⟨Or.inl q_12_548, i_X12_settle.1, i_X12_settle.2⟩ ⟨by decide, rfl⟩ (congrArg Prod.fst (J.1.1 125 (12, 92) rfl)) rfl (by decide) rfl rfl ⟨by decide, by decide⟩ (sf_X12_settle_r125d (jr_of jk_1 (by omega)) (K9 := 0) (by decide) (jtu_sa hA C0) hD J rfl  (fun h J S1 P2 X3 => ?_))
  have Sm := jSm_tr rfl Sm S1
  try rw [jk_1] at X3
  rw [X3] at D
  show jX m_X12_behindTest 4 0 0 35 [(0, .ref 125), (1, .int l1)] [] _ 0 0 _
  refine x_aloadn (x := 125) rfl rfl ?_
  refine x_iloadn (x := l1) rfl rfl ?_
  refine x_ifeq (tgt := 45) rfl rfl (ti_eq rfl jk_0 (br_t (by omega) ?_))
  refine x_bipush (v := 20) rfl kb_20 ?_
  have ex49 := jrg_f J sg_125_49_50_1_0_1
  have ex55 := jrg_f J sg_125_55_56_1_0_1
  exact jX.sub (jsb_c rfl (jsb_c rfl jsb_n)) (ct_X12_behindTest_r125d_47 hA hN hD hQ  l1 20 g0 g1 (jiv h 125 49) (jiv h 125 55) g2 g3 h (jr_of rfl (by omega)) (jr_of jk_20 (by omega)) (jr_of rfl (by omega)) (jr_of rfl (by omega)) (jr_of rfl (by omega)) (jr_of rfl (by omega)) (jr_of rfl (by omega)) (jr_of rfl (by omega)) (bt_47 hN C0 P2 (jmc S1 rfl rfl) (jmc S1 rfl rfl)) (by omega) (by omega) (by omega) (jmc S1 rfl z0) (jmc S1 rfl z1) rfl rfl (jmc S1 rfl z2) (jmc S1 rfl z3) J Sm (by rw [jk_20]; exact D))
set_option maxRecDepth 100000 in
set_option maxHeartbeats 4000000 in
theorem ct_X12_behindTest_r125d_400032 {Dy : jH → Prop} {h0 : jH} {Q : Option Value → jH → Prop} {dr : (Int × jW)} {A : Nat} (hA : jTu 0 h0 A 1) (hN : (jiv h0 125 14).toInt ≠ 0 ∨ jNsq h0) (hD : jDk Dy) (hQ : ∀ (v : Int32) hx9, 0 ≤ v.toInt ∧ v.toInt ≤ 4 → jJ jSgM Dy hx9 → jSm fp_X12_behindTest_r125d h0 hx9 → ∀ u0 u1 u2 : Int32, jiv hx9 125 10 = u0 → jiv hx9 125 8 = u1 → jiv hx9 125 9 = u2 → (u0.toInt ≤ u1.toInt ∧ u2.toInt ≤ u0.toInt) → ∀ u3 u4 u5 : Int32, jiv hx9 125 11 = u3 → jiv hx9 125 9 = u4 → jiv hx9 125 10 = u5 → (u3.toInt = 0 ∨ u4.toInt + 1 ≤ u5.toInt) → jBp 4 4 A h0 v.toInt hx9 → dr.1 = v.toInt → dr.2 = vw hx9 → Q (some (.int v)) hx9) : ∀ (l1 : Int32) (g0 : Int32) (g1 : Int32) (g2 : Int32) (g3 : Int32) (h : jH), 1 ≤ l1.toInt ∧ l1.toInt ≤ 1 → 0 ≤ g0.toInt ∧ g0.toInt ≤ 400 → 1 ≤ g1.toInt ∧ g1.toInt ≤ 1 → 0 ≤ g2.toInt ∧ g2.toInt ≤ 400 → 0 ≤ g3.toInt ∧ g3.toInt ≤ 400 → l1.toInt ≠ 0 → jSa h0 h → g1.toInt ≠ 0 → (g0.toInt ≤ g2.toInt ∧ g3.toInt ≤ g0.toInt) → (g1.toInt = 0 ∨ g3.toInt + 1 ≤ g0.toInt) → jiv h 125 10 = g0 → jiv h 125 11 = g1 → jiv h 125 8 = g2 → jiv h 125 9 = g3 → jJ jSgM Dy h → jSm fp_X12_behindTest_r125d h0 h → d_X12_behindTest_r125d_400032  l1.toInt (vw h) = dr → jX m_X12_behindTest 4 0 0 32 [(0, .ref 125), (1, .int l1)] [.int 2, .ref 125] h 0 0 Q := by
  intro l1 g0 g1 g2 g3 h y0 y1 y2 y3 y4 y5 C0 y7 y8 y9 z0 z1 z2 z3  J Sm D
  unfold d_X12_behindTest_r125d_400032 at D
  try rw [vrf z0] at D
  try rw [vrf z1] at D
  try rw [vrf z2] at D
  try rw [vrf z3] at D
  refine x_inv (N := m_X12_settle) (As := [.int 2]) (b := 125) (st := []) (dx9 := 2) (mc := 0) (ms := 0) (host := "") 12 rfl t_X12_settle ⟨Or.inl q_12_548, i_X12_settle.1, i_X12_settle.2⟩ ⟨by decide, rfl⟩ (congrArg Prod.fst (J.1.1 125 (12, 92) rfl)) rfl (by decide) rfl rfl ⟨by decide, by decide⟩ (sf_X12_settle_r125d (jr_of jk_2 (by omega)) (K9 := 0) (by decide) (jtu_sa hA C0) hD J rfl  (fun h J S1 P2 X3 => ?_))
  have Sm := jSm_tr rfl Sm S1
  try rw [jk_2] at X3
  rw [X3] at D
  show jX m_X12_behindTest 4 0 0 35 [(0, .ref 125), (1, .int l1)] [] _ 0 0 _
  refine x_aloadn (x := 125) rfl rfl ?_
  refine x_iloadn (x := l1) rfl rfl ?_
  refine x_ifeq (tgt := 45) rfl rfl (ti_eq rfl jk_0 (br_f (by omega) ?_))
  refine x_bipush (v := 19) rfl kb_19 ?_
  refine x_goto (tgt := 47) rfl rfl ?_
  have ex49 := jrg_f J sg_125_49_50_1_0_1
  have ex55 := jrg_f J sg_125_55_56_1_0_1
  exact jX.sub (jsb_c rfl (jsb_c rfl jsb_n)) (ct_X12_behindTest_r125d_47 hA hN hD hQ  l1 19 g0 g1 (jiv h 125 49) (jiv h 125 55) g2 g3 h (jr_of rfl (by omega)) (jr_of jk_19 (by omega)) (jr_of rfl (by omega)) (jr_of rfl (by omega)) (jr_of rfl (by omega)) (jr_of rfl (by omega)) (jr_of rfl (by omega)) (jr_of rfl (by omega)) (bt_47 hN C0 P2 (jmc S1 rfl rfl) (jmc S1 rfl rfl)) (by omega) (by omega) (by omega) (jmc S1 rfl z0) (jmc S1 rfl z1) rfl rfl (jmc S1 rfl z2) (jmc S1 rfl z3) J Sm (by rw [jk_19]; exact D))
set_option maxRecDepth 100000 in
set_option maxHeartbeats 4000000 in
theorem ct_X12_behindTest_r125d_22 {Dy : jH → Prop} {h0 : jH} {Q : Option Value → jH → Prop} {dr : (Int × jW)} {A : Nat} (hA : jTu 0 h0 A 1) (hN : (jiv h0 125 14).toInt ≠ 0 ∨ jNsq h0) (hD : jDk Dy) (hQ : ∀ (v : Int32) hx9, 0 ≤ v.toInt ∧ v.toInt ≤ 4 → jJ jSgM Dy hx9 → jSm fp_X12_behindTest_r125d h0 hx9 → ∀ u0 u1 u2 : Int32, jiv hx9 125 10 = u0 → jiv hx9 125 8 = u1 → jiv hx9 125 9 = u2 → (u0.toInt ≤ u1.toInt ∧ u2.toInt ≤ u0.toInt) → ∀ u3 u4 u5 : Int32, jiv hx9 125 11 = u3 → jiv hx9 125 9 = u4 → jiv hx9 125 10 = u5 → (u3.toInt = 0 ∨ u4.toInt + 1 ≤ u5.toInt) → jBp 4 4 A h0 v.toInt hx9 → dr.1 = v.toInt → dr.2 = vw hx9 → Q (some (.int v)) hx9) : ∀ (l1 : Int32) (g0 : Int32) (g1 : Int32) (g2 : Int32) (g3 : Int32) (h : jH), 0 ≤ l1.toInt ∧ l1.toInt ≤ 1 → 0 ≤ g0.toInt ∧ g0.toInt ≤ 400 → 1 ≤ g1.toInt ∧ g1.toInt ≤ 1 → 0 ≤ g2.toInt ∧ g2.toInt ≤ 400 → 0 ≤ g3.toInt ∧ g3.toInt ≤ 400 → jSa h0 h → g1.toInt ≠ 0 → (g0.toInt ≤ g2.toInt ∧ g3.toInt ≤ g0.toInt) → (g1.toInt = 0 ∨ g3.toInt + 1 ≤ g0.toInt) → jiv h 125 10 = g0 → jiv h 125 11 = g1 → jiv h 125 8 = g2 → jiv h 125 9 = g3 → jJ jSgM Dy h → jSm fp_X12_behindTest_r125d h0 h → d_X12_behindTest_r125d_22  l1.toInt (vw h) = dr → jX m_X12_behindTest 4 0 0 22 [(0, .ref 125), (1, .int l1)] [] h 0 0 Q := by
  intro l1 g0 g1 g2 g3 h y0 y1 y2 y3 y4 C0 y6 y7 y8 z0 z1 z2 z3  J Sm D
  unfold d_X12_behindTest_r125d_22 at D
  try rw [vrf z0] at D
  try rw [vrf z1] at D
  try rw [vrf z2] at D
  try rw [vrf z3] at D
  refine x_aloadn (x := 125) rfl rfl ?_
  refine x_iloadn (x := l1) rfl rfl ?_
  refine x_ifeq (tgt := 31) rfl rfl (ti_eq rfl jk_0 ⟨fun c1 => ?_, fun c1 => ?_⟩)
  ·
    rw [if_pos (by omega)] at D
    refine x_iconst (v := 1) rfl ki_1 ?_
    exact jX.sub (jsb_c rfl (jsb_c rfl jsb_n)) (ct_X12_behindTest_r125d_300032 hA hN hD hQ  l1 g0 g1 g2 g3 h (jr_of rfl (by omega)) (jr_of rfl (by omega)) (jr_of rfl (by omega)) (jr_of rfl (by omega)) (jr_of rfl (by omega)) C0 (by omega) (by omega) (by omega) z0 z1 z2 z3 J Sm D)
  ·
    rw [if_neg (by omega)] at D
    refine x_iconst (v := 2) rfl ki_2 ?_
    refine x_goto (tgt := 32) rfl rfl ?_
    exact jX.sub (jsb_c rfl (jsb_c rfl jsb_n)) (ct_X12_behindTest_r125d_400032 hA hN hD hQ  l1 g0 g1 g2 g3 h (jr_of rfl (by omega)) (jr_of rfl (by omega)) (jr_of rfl (by omega)) (jr_of rfl (by omega)) (jr_of rfl (by omega)) (by omega) C0 (by omega) (by omega) (by omega) z0 z1 z2 z3 J Sm D)
set_option maxRecDepth 100000 in
set_option maxHeartbeats 4000000 in
theorem ct_X12_behindTest_r125d_108 {Dy : jH → Prop} {h0 : jH} {Q : Option Value → jH → Prop} {dr : (Int × jW)} {A : Nat} (hA : jTu 0 h0 A 1) (hN : (jiv h0 125 14).toInt ≠ 0 ∨ jNsq h0) (hD : jDk Dy) (hQ : ∀ (v : Int32) hx9, 0 ≤ v.toInt ∧ v.toInt ≤ 4 → jJ jSgM Dy hx9 → jSm fp_X12_behindTest_r125d h0 hx9 → ∀ u0 u1 u2 : Int32, jiv hx9 125 10 = u0 → jiv hx9 125 8 = u1 → jiv hx9 125 9 = u2 → (u0.toInt ≤ u1.toInt ∧ u2.toInt ≤ u0.toInt) → ∀ u3 u4 u5 : Int32, jiv hx9 125 11 = u3 → jiv hx9 125 9 = u4 → jiv hx9 125 10 = u5 → (u3.toInt = 0 ∨ u4.toInt + 1 ≤ u5.toInt) → jBp 4 4 A h0 v.toInt hx9 → dr.1 = v.toInt → dr.2 = vw hx9 → Q (some (.int v)) hx9) : ∀ (g0 : Int32) (g1 : Int32) (g2 : Int32) (g3 : Int32) (h : jH), 0 ≤ g0.toInt ∧ g0.toInt ≤ 400 → 0 ≤ g1.toInt ∧ g1.toInt ≤ 3 → 0 ≤ g2.toInt ∧ g2.toInt ≤ 400 → 0 ≤ g3.toInt ∧ g3.toInt ≤ 400 → (jTn A 2 h ∧ jFm 1 A h0 h) → (g0.toInt ≤ g2.toInt ∧ g3.toInt ≤ g0.toInt) → (g1.toInt = 0 ∨ g3.toInt + 1 ≤ g0.toInt) → jiv h 125 10 = g0 → jiv h 125 11 = g1 → jiv h 125 8 = g2 → jiv h 125 9 = g3 → jJ jSgM Dy h → jSm fp_X12_behindTest_r125d h0 h → d_X12_behindTest_r125d_108  (vw h) = dr → jX m_X12_behindTest 4 0 0 108 [] [] h 0 0 Q := by
  intro g0 g1 g2 g3 h y0 y1 y2 y3 C0 y5 y6 z0 z1 z2 z3  J Sm D
  unfold d_X12_behindTest_r125d_108 at D
  try rw [vrf z0] at D
  try rw [vrf z1] at D
  try rw [vrf z2] at D
  try rw [vrf z3] at D
  refine x_iconst (v := 2) rfl ki_2 ?_
  refine x_iret rfl rfl ?_
  exact hQ _ _ (jr_of jk_2 (by omega)) J Sm _ _ _ z0 z2 z3 (by omega) _ _ _ z1 z3 z0 (by omega) (by rw [jk_2]; exact jbp_1 C0) ((congrArg Prod.fst D).symm.trans (show 2 = (2 : Int32).toInt from by have := jk_2; omega)) (congrArg Prod.snd D).symm
set_option maxRecDepth 100000 in
set_option maxHeartbeats 4000000 in
theorem sf_X12_behindTest_r125d {Dy : jH → Prop} {h : jH} {Q : Option Value → jH → Prop} {dr : (Int × jW)} {A : Nat} (hA : jTu 0 h A 1) (hN : (jiv h 125 14).toInt ≠ 0 ∨ jNsq h) (hD : jDk Dy) (J : jJ jSgM Dy h) {p0 p1 p2 : Int32} {p3 p4 p5 : Int32} (zp0 : jiv h 125 10 = p0) (zp1 : jiv h 125 8 = p1) (zp2 : jiv h 125 9 = p2) (rl_p0 : (p0.toInt ≤ p1.toInt ∧ p2.toInt ≤ p0.toInt)) (zp3 : jiv h 125 11 = p3) (zp4 : jiv h 125 9 = p4) (zp5 : jiv h 125 10 = p5) (rl_p3 : (p3.toInt = 0 ∨ p4.toInt + 1 ≤ p5.toInt)) (D : d_X12_behindTest_r125d (vw h) = dr) (hQ : ∀ (v : Int32) hx9, 0 ≤ v.toInt ∧ v.toInt ≤ 4 → jJ jSgM Dy hx9 → jSm fp_X12_behindTest_r125d h hx9 → ∀ u0 u1 u2 : Int32, jiv hx9 125 10 = u0 → jiv hx9 125 8 = u1 → jiv hx9 125 9 = u2 → (u0.toInt ≤ u1.toInt ∧ u2.toInt ≤ u0.toInt) → ∀ u3 u4 u5 : Int32, jiv hx9 125 11 = u3 → jiv hx9 125 9 = u4 → jiv hx9 125 10 = u5 → (u3.toInt = 0 ∨ u4.toInt + 1 ≤ u5.toInt) → jBp 4 4 A h v.toInt hx9 → dr.1 = v.toInt → dr.2 = vw hx9 → Q (some (.int v)) hx9) : jC m_X12_behindTest 4 0 0 [.ref 125] h Q := by
  refine jC.of rfl k_X12_behindTest rfl ?_
  have Sm := jSm_rf fp_X12_behindTest_r125d h
  have ep0 := (show 0 ≤ p0.toInt ∧ p0.toInt ≤ 400 from zp0 ▸ jrg_f J sg_125_10_11_1_0_1)
  have ep1 := (show 0 ≤ p1.toInt ∧ p1.toInt ≤ 400 from zp1 ▸ jrg_f J sg_125_8_9_1_0_1)
  have ep2 := (show 0 ≤ p2.toInt ∧ p2.toInt ≤ 400 from zp2 ▸ jrg_f J sg_125_9_10_1_0_1)
  have ep3 := (show 0 ≤ p3.toInt ∧ p3.toInt ≤ 3 from zp3 ▸ jrg_f J sg_125_11_12_1_0_1)
  have ep4 := (show 0 ≤ p4.toInt ∧ p4.toInt ≤ 400 from zp4 ▸ jrg_f J sg_125_9_10_1_0_1)
  have ep5 := (show 0 ≤ p5.toInt ∧ p5.toInt ≤ 400 from zp5 ▸ jrg_f J sg_125_10_11_1_0_1)
  obtain rfl : p2 = p4 := zp2.symm.trans zp4
  obtain rfl : p0 = p5 := zp0.symm.trans zp5
  skip
  show jX m_X12_behindTest 4 0 0 0 [(0, .ref 125)] [] _ 0 0 _
  unfold d_X12_behindTest_r125d at D
  try rw [vrf zp0] at D
  try rw [vrf zp1] at D
  try rw [vrf zp2] at D
  try rw [vrf zp3] at D
  try rw [vrf zp4] at D
  try rw [vrf zp5] at D
  refine x_aloadn (x := 125) rfl rfl ?_
  refine x_ldc2 (v := 1476) rfl z_12_557 ?_
  refine x_inv (N := m_X12_isWord) (As := [.long 1476]) (b := 125) (st := []) (dx9 := 3) (mc := 0) (ms := 0) (host := "") 12 rfl t_X12_isWord ⟨Or.inl q_12_511, i_X12_isWord.1, i_X12_isWord.2⟩ ⟨by decide, rfl⟩ (congrArg Prod.fst (J.1.1 125 (12, 92) rfl)) rfl (by decide) rfl rfl ⟨by decide, by decide⟩ (jC.of rfl k_X12_isWord rfl ?_)
  show jX m_X12_isWord 3 0 0 0 [(0, .ref 125), (1, .long 1476)] [] _ 0 0 _
  refine x_aloadn (x := 125) rfl rfl ?_
  refine z_getM (N := 92) (v := p3) 12 11 rfl f_12_235 rfl J rfl zp3 ?_
  refine x_iconst (v := 1) rfl ki_1 ?_
  refine x_icne (tgt := 21) rfl rfl (ti_ne rfl jk_1 ⟨fun c1 => ?_, fun c1 => ?_⟩)
  ·
    rw [if_neg (by omega)] at D
    refine x_iconst (v := 0) rfl ki_0 ?_
    refine x_zret rfl rfl (by decide) ?_
    show jX m_X12_behindTest 4 0 0 7 [(0, .ref 125)] [.int 0] _ 0 0 _
    refine x_istoren (lsx9 := [(1, .int 0), (0, .ref 125)]) rfl rfl rfl ?_
    refine x_iloadn (x := 0) rfl rfl ?_
    refine x_ifne (tgt := 22) rfl rfl (ti_ne jk_0 jk_0 (bn_f (by omega) ?_))
    refine x_aloadn (x := 125) rfl rfl ?_
    refine x_ldc2 (v := 498) rfl z_12_559 ?_
    refine x_inv (N := m_X12_isWord) (As := [.long 498]) (b := 125) (st := []) (dx9 := 3) (mc := 0) (ms := 0) (host := "") 12 rfl t_X12_isWord ⟨Or.inl q_12_511, i_X12_isWord.1, i_X12_isWord.2⟩ ⟨by decide, rfl⟩ (congrArg Prod.fst (J.1.1 125 (12, 92) rfl)) rfl (by decide) rfl rfl ⟨by decide, by decide⟩ (jC.of rfl k_X12_isWord rfl ?_)
    show jX m_X12_isWord 3 0 0 0 [(0, .ref 125), (1, .long 498)] [] _ 0 0 _
    refine x_aloadn (x := 125) rfl rfl ?_
    refine z_getM (N := 92) (v := p3) 12 11 rfl f_12_235 rfl J rfl zp3 ?_
    refine x_iconst (v := 1) rfl ki_1 ?_
    refine x_icne (tgt := 21) rfl rfl (ti_ne rfl jk_1 ⟨fun c2 => ?_, fun c2 => ?_⟩)
    ·
      rw [if_neg (by omega)] at D
      refine x_iconst (v := 0) rfl ki_0 ?_
      refine x_zret rfl rfl (by decide) ?_
      show jX m_X12_behindTest 4 0 0 19 [(1, .int 0), (0, .ref 125)] [.int 0] _ 0 0 _
      refine x_ifeq (tgt := 76) rfl rfl (ti_eq jk_0 jk_0 (br_t (by omega) ?_))
      refine x_aloadn (x := 125) rfl rfl ?_
      refine x_inv (N := m_X12_inner) (As := []) (b := 125) (st := []) (dx9 := 1) (mc := 0) (ms := 0) (host := "") 12 rfl t_X12_inner ⟨Or.inl q_12_545, i_X12_inner.1, i_X12_inner.2⟩ ⟨by decide, rfl⟩ (congrArg Prod.fst (J.1.1 125 (12, 92) rfl)) rfl (by decide) rfl rfl ⟨by decide, by decide⟩ (sf_X12_inner_r125d  hD J rfl  (fun v7 h ev7 J S3 P4 X5 X6 => ?_))
      have Sm := jSm_tr rfl Sm S3
      try rw [X5] at D
      try rw [← X6] at D
      have iv30 := jir_30 P4
      show jX m_X12_behindTest 4 0 0 80 [(1, .int 0), (0, .ref 125)] [.int v7] _ 0 0 _
      refine x_iconst (v := (-1)) rfl ki_m1 ?_
      refine x_icne (tgt := 86) rfl rfl (ti_ne rfl jk_m1 ⟨fun c8 => ?_, fun c8 => ?_⟩)
      ·
        rw [if_neg (by omega)] at D
        refine x_aloadn (x := 125) rfl rfl ?_
        refine x_aloadn (x := 125) rfl rfl ?_
        refine x_bipush (v := 41) rfl kb_41 ?_
        refine x_inv (N := m_X12_isSign) (As := [.int 41]) (b := 125) (st := [.ref 125]) (dx9 := 3) (mc := 0) (ms := 0) (host := "") 12 rfl t_X12_isSign ⟨Or.inl q_12_257, i_X12_isSign.1, i_X12_isSign.2⟩ ⟨by decide, rfl⟩ (congrArg Prod.fst (J.1.1 125 (12, 92) rfl)) rfl (by decide) rfl rfl ⟨by decide, by decide⟩ (jC.of rfl k_X12_isSign rfl ?_)
        show jX m_X12_isSign 3 0 0 0 [(0, .ref 125), (1, .int 41)] [] _ 0 0 _
        refine x_aloadn (x := 125) rfl rfl ?_
        refine z_getM (N := 92) (v := p3) 12 11 rfl f_12_235 rfl J rfl (jmc S3 rfl zp3) ?_
        refine x_iconst (v := 3) rfl ki_3 ?_
        refine x_icne (tgt := 22) rfl rfl (ti_ne rfl jk_3 ⟨fun c9 => ?_, fun c9 => ?_⟩)
        ·
          rw [if_neg (by omega)] at D
          refine x_iconst (v := 0) rfl ki_0 ?_
          refine x_zret rfl rfl (by decide) ?_
          show jX m_X12_behindTest 4 0 0 93 [(1, .int 0), (0, .ref 125)] [.int 0, .ref 125] _ 0 0 _
          refine x_inv (N := m_X12_must) (As := [.int 0]) (b := 125) (st := []) (dx9 := 3) (mc := 0) (ms := 0) (host := "") 12 rfl t_X12_must ⟨Or.inl q_12_250, i_X12_must.1, i_X12_must.2⟩ ⟨by decide, rfl⟩ (congrArg Prod.fst (J.1.1 125 (12, 92) rfl)) rfl (by decide) rfl rfl ⟨by decide, by decide⟩ (jC.of rfl k_X12_must rfl ?_)
          show jX m_X12_must 3 0 0 0 [(0, .ref 125), (1, .int 0)] [] _ 0 0 _
          refine x_aloadn (x := 125) rfl rfl ?_
          refine z_getI (N := 92) 12 14 rfl f_12_214 rfl J rfl sg_125_14_15_1_0_1 (fun v10 qv10 ev10 => ?_)
          try rw [vrf qv10] at D
          refine x_ifne (tgt := 24) rfl rfl (ti_ne rfl jk_0 ⟨fun c11 => ?_, fun c11 => ?_⟩)
          ·
            rw [if_neg (by omega)] at D
            refine x_aloadn (x := 125) rfl rfl ?_
            refine z_getM (N := 92) (v := v10) 12 14 rfl f_12_214 rfl J rfl qv10 ?_
            refine x_ifne (tgt := 35) rfl rfl (ti_ne rfl jk_0 (bn_t (by omega) ?_))
            refine x_vret rfl rfl ?_
            show jX m_X12_behindTest 4 0 0 96 [(1, .int 0), (0, .ref 125)] [] _ 0 0 _
            refine x_aloadn (x := 125) rfl rfl ?_
            refine z_getM (N := 92) (v := v10) 12 14 rfl f_12_214 rfl J rfl qv10 ?_
            refine x_ifne (tgt := 108) rfl rfl (ti_ne rfl jk_0 (bn_t (by omega) ?_))
            exact jX.sub jsb_n (ct_X12_behindTest_r125d_108 hA hN hD hQ  p0 p3 p1 p2 h (jr_of rfl (by omega)) (jr_of rfl (by omega)) (jr_of rfl (by omega)) (jr_of rfl (by omega)) (jmu_tb (jmu_bad hA (jeq_c S3 rfl jeq_0) (jeq_c S3 rfl jeq_0) (jeq_c S3 rfl jeq_0) (jeq_c S3 rfl jeq_0) (jmc S3 rfl rfl) (jmc S3 rfl rfl) (jmc S3 rfl rfl) qv10 (by omega)) qv10 (by omega)) (by omega) (by omega) (jmc S3 rfl zp0) (jmc S3 rfl zp3) (jmc S3 rfl zp1) (jmc S3 rfl zp2) J Sm D)
          ·
            rw [if_pos (by omega)] at D
            refine x_iloadn (x := 0) rfl rfl ?_
            refine x_ifne (tgt := 24) rfl rfl (ti_ne jk_0 jk_0 (bn_f (by omega) ?_))
            refine x_aloadn (x := 125) rfl rfl ?_
            refine x_iconst (v := 1) rfl ki_1 ?_
            refine z_putZ (N := 92) (w := 1) 12 14 rfl f_12_214 rfl (jfin_no TX12 RX12 92 rfl rfl) hD J Sm rfl rfl jk_1 (by omega) (pw_125_14 (by omega)) rfl (fun h w12 J Sm => ?_)
            rw [vwf w12 (show 1 = (1 : Int32).toInt from by have := jk_1; omega)] at D
            refine x_aloadn (x := 125) rfl rfl ?_
            refine x_aloadn (x := 125) rfl rfl ?_
            refine z_getM (N := 92) (v := p2) 12 9 rfl f_12_221 rfl J rfl (jmo w12 rfl (jmc S3 rfl zp2)) ?_
            refine z_putI (N := 92) (w := p2.toInt) 12 13 rfl f_12_32 rfl (jfin_no TX12 RX12 92 rfl rfl) hD J Sm rfl rfl rfl (pw_125_13 (by omega)) rfl (fun h w13 J Sm => ?_)
            rw [vwf w13 (show p2.toInt = p2.toInt from by omega)] at D
            refine x_aloadn (x := 125) rfl rfl ?_
            refine z_getM (N := 92) (v := 1) 12 14 rfl f_12_214 rfl J rfl (jmo w13 rfl (jmw w12)) ?_
            refine x_ifne (tgt := 35) rfl rfl (ti_ne jk_1 jk_0 (bn_t (by omega) ?_))
            refine x_vret rfl rfl ?_
            show jX m_X12_behindTest 4 0 0 96 [(1, .int 0), (0, .ref 125)] [] _ 0 0 _
            refine x_aloadn (x := 125) rfl rfl ?_
            refine z_getM (N := 92) (v := 1) 12 14 rfl f_12_214 rfl J rfl (jmo w13 rfl (jmw w12)) ?_
            refine x_ifne (tgt := 108) rfl rfl (ti_ne jk_1 jk_0 (bn_t (by omega) ?_))
            exact jX.sub jsb_n (ct_X12_behindTest_r125d_108 hA hN hD hQ  p0 p3 p1 p2 h (jr_of rfl (by omega)) (jr_of rfl (by omega)) (jr_of rfl (by omega)) (jr_of rfl (by omega)) (jmu_tb (jmu_bad hA (jeq_o w13 rfl (jeq_o w12 rfl (jeq_c S3 rfl jeq_0))) (jeq_o w13 rfl (jeq_o w12 rfl (jeq_c S3 rfl jeq_0))) (jeq_o w13 rfl (jeq_o w12 rfl (jeq_c S3 rfl jeq_0))) (jeq_o w13 rfl (jeq_o w12 rfl (jeq_c S3 rfl jeq_0))) (jmo w13 rfl (jmo w12 rfl (jmc S3 rfl rfl))) (jmo w13 rfl (jmo w12 rfl (jmc S3 rfl rfl))) (jmo w13 rfl (jmo w12 rfl (jmc S3 rfl rfl))) (jmo w13 rfl (jmw w12)) (by decide)) (jmo w13 rfl (jmw w12)) (by decide)) (by omega) (by omega) (jmo w13 rfl (jmo w12 rfl (jmc S3 rfl zp0))) (jmo w13 rfl (jmo w12 rfl (jmc S3 rfl zp3))) (jmo w13 rfl (jmo w12 rfl (jmc S3 rfl zp1))) (jmo w13 rfl (jmo w12 rfl (jmc S3 rfl zp2))) J Sm D)
        ·
          rw [if_pos (by omega)] at D
          refine x_aloadn (x := 125) rfl rfl ?_
          refine z_getLQ (N := 92) 12 12 rfl f_12_224 rfl J rfl (fun v14 qv14 => ?_)
          have ev14 := jfullL v14
          try rw [vrfL qv14] at D
          refine x_iloadn (x := 41) rfl rfl ?_
          refine z_i2l rfl jk_41 (fun v15 ev15 => ?_)
          refine z_lcmp rfl rfl rfl (fun v16 ev16 => ?_)
          refine x_ifne (tgt := 22) rfl rfl (ti_ne rfl jk_0 ⟨fun c17 => ?_, fun c17 => ?_⟩)
          ·
            rw [if_neg (by omega)] at D
            refine x_iconst (v := 0) rfl ki_0 ?_
            refine x_zret rfl rfl (by decide) ?_
            show jX m_X12_behindTest 4 0 0 93 [(1, .int 0), (0, .ref 125)] [.int 0, .ref 125] _ 0 0 _
            refine x_inv (N := m_X12_must) (As := [.int 0]) (b := 125) (st := []) (dx9 := 3) (mc := 0) (ms := 0) (host := "") 12 rfl t_X12_must ⟨Or.inl q_12_250, i_X12_must.1, i_X12_must.2⟩ ⟨by decide, rfl⟩ (congrArg Prod.fst (J.1.1 125 (12, 92) rfl)) rfl (by decide) rfl rfl ⟨by decide, by decide⟩ (jC.of rfl k_X12_must rfl ?_)
            show jX m_X12_must 3 0 0 0 [(0, .ref 125), (1, .int 0)] [] _ 0 0 _
            refine x_aloadn (x := 125) rfl rfl ?_
            refine z_getI (N := 92) 12 14 rfl f_12_214 rfl J rfl sg_125_14_15_1_0_1 (fun v18 qv18 ev18 => ?_)
            try rw [vrf qv18] at D
            refine x_ifne (tgt := 24) rfl rfl (ti_ne rfl jk_0 ⟨fun c19 => ?_, fun c19 => ?_⟩)
            ·
              rw [if_neg (by omega)] at D
              refine x_aloadn (x := 125) rfl rfl ?_
              refine z_getM (N := 92) (v := v18) 12 14 rfl f_12_214 rfl J rfl qv18 ?_
              refine x_ifne (tgt := 35) rfl rfl (ti_ne rfl jk_0 (bn_t (by omega) ?_))
              refine x_vret rfl rfl ?_
              show jX m_X12_behindTest 4 0 0 96 [(1, .int 0), (0, .ref 125)] [] _ 0 0 _
              refine x_aloadn (x := 125) rfl rfl ?_
              refine z_getM (N := 92) (v := v18) 12 14 rfl f_12_214 rfl J rfl qv18 ?_
              refine x_ifne (tgt := 108) rfl rfl (ti_ne rfl jk_0 (bn_t (by omega) ?_))
              exact jX.sub jsb_n (ct_X12_behindTest_r125d_108 hA hN hD hQ  p0 p3 p1 p2 h (jr_of rfl (by omega)) (jr_of rfl (by omega)) (jr_of rfl (by omega)) (jr_of rfl (by omega)) (jmu_tb (jmu_bad hA (jeq_c S3 rfl jeq_0) (jeq_c S3 rfl jeq_0) (jeq_c S3 rfl jeq_0) (jeq_c S3 rfl jeq_0) (jmc S3 rfl rfl) (jmc S3 rfl rfl) (jmc S3 rfl rfl) qv18 (by omega)) qv18 (by omega)) (by omega) (by omega) (jmc S3 rfl zp0) (jmc S3 rfl zp3) (jmc S3 rfl zp1) (jmc S3 rfl zp2) J Sm D)
            ·
              rw [if_pos (by omega)] at D
              refine x_iloadn (x := 0) rfl rfl ?_
              refine x_ifne (tgt := 24) rfl rfl (ti_ne jk_0 jk_0 (bn_f (by omega) ?_))
              refine x_aloadn (x := 125) rfl rfl ?_
              refine x_iconst (v := 1) rfl ki_1 ?_
              refine z_putZ (N := 92) (w := 1) 12 14 rfl f_12_214 rfl (jfin_no TX12 RX12 92 rfl rfl) hD J Sm rfl rfl jk_1 (by omega) (pw_125_14 (by omega)) rfl (fun h w20 J Sm => ?_)
              rw [vwf w20 (show 1 = (1 : Int32).toInt from by have := jk_1; omega)] at D
              refine x_aloadn (x := 125) rfl rfl ?_
              refine x_aloadn (x := 125) rfl rfl ?_
              refine z_getM (N := 92) (v := p2) 12 9 rfl f_12_221 rfl J rfl (jmo w20 rfl (jmc S3 rfl zp2)) ?_
              refine z_putI (N := 92) (w := p2.toInt) 12 13 rfl f_12_32 rfl (jfin_no TX12 RX12 92 rfl rfl) hD J Sm rfl rfl rfl (pw_125_13 (by omega)) rfl (fun h w21 J Sm => ?_)
              rw [vwf w21 (show p2.toInt = p2.toInt from by omega)] at D
              refine x_aloadn (x := 125) rfl rfl ?_
              refine z_getM (N := 92) (v := 1) 12 14 rfl f_12_214 rfl J rfl (jmo w21 rfl (jmw w20)) ?_
              refine x_ifne (tgt := 35) rfl rfl (ti_ne jk_1 jk_0 (bn_t (by omega) ?_))
              refine x_vret rfl rfl ?_
              show jX m_X12_behindTest 4 0 0 96 [(1, .int 0), (0, .ref 125)] [] _ 0 0 _
              refine x_aloadn (x := 125) rfl rfl ?_
              refine z_getM (N := 92) (v := 1) 12 14 rfl f_12_214 rfl J rfl (jmo w21 rfl (jmw w20)) ?_
              refine x_ifne (tgt := 108) rfl rfl (ti_ne jk_1 jk_0 (bn_t (by omega) ?_))
              exact jX.sub jsb_n (ct_X12_behindTest_r125d_108 hA hN hD hQ  p0 p3 p1 p2 h (jr_of rfl (by omega)) (jr_of rfl (by omega)) (jr_of rfl (by omega)) (jr_of rfl (by omega)) (jmu_tb (jmu_bad hA (jeq_o w21 rfl (jeq_o w20 rfl (jeq_c S3 rfl jeq_0))) (jeq_o w21 rfl (jeq_o w20 rfl (jeq_c S3 rfl jeq_0))) (jeq_o w21 rfl (jeq_o w20 rfl (jeq_c S3 rfl jeq_0))) (jeq_o w21 rfl (jeq_o w20 rfl (jeq_c S3 rfl jeq_0))) (jmo w21 rfl (jmo w20 rfl (jmc S3 rfl rfl))) (jmo w21 rfl (jmo w20 rfl (jmc S3 rfl rfl))) (jmo w21 rfl (jmo w20 rfl (jmc S3 rfl rfl))) (jmo w21 rfl (jmw w20)) (by decide)) (jmo w21 rfl (jmw w20)) (by decide)) (by omega) (by omega) (jmo w21 rfl (jmo w20 rfl (jmc S3 rfl zp0))) (jmo w21 rfl (jmo w20 rfl (jmc S3 rfl zp3))) (jmo w21 rfl (jmo w20 rfl (jmc S3 rfl zp1))) (jmo w21 rfl (jmo w20 rfl (jmc S3 rfl zp2))) J Sm D)
          ·
            rw [if_pos (by omega)] at D
            refine x_iconst (v := 1) rfl ki_1 ?_
            refine x_goto (tgt := 23) rfl rfl ?_
            refine x_zret rfl rfl (by decide) ?_
            show jX m_X12_behindTest 4 0 0 93 [(1, .int 0), (0, .ref 125)] [.int 1, .ref 125] _ 0 0 _
            refine x_inv (N := m_X12_must) (As := [.int 1]) (b := 125) (st := []) (dx9 := 3) (mc := 0) (ms := 0) (host := "") 12 rfl t_X12_must ⟨Or.inl q_12_250, i_X12_must.1, i_X12_must.2⟩ ⟨by decide, rfl⟩ (congrArg Prod.fst (J.1.1 125 (12, 92) rfl)) rfl (by decide) rfl rfl ⟨by decide, by decide⟩ (jC.of rfl k_X12_must rfl ?_)
            show jX m_X12_must 3 0 0 0 [(0, .ref 125), (1, .int 1)] [] _ 0 0 _
            refine x_aloadn (x := 125) rfl rfl ?_
            refine z_getI (N := 92) 12 14 rfl f_12_214 rfl J rfl sg_125_14_15_1_0_1 (fun v22 qv22 ev22 => ?_)
            try rw [vrf qv22] at D
            refine x_ifne (tgt := 24) rfl rfl (ti_ne rfl jk_0 ⟨fun c23 => ?_, fun c23 => ?_⟩)
            ·
              rw [if_neg (by omega)] at D
              refine x_aloadn (x := 125) rfl rfl ?_
              refine z_getM (N := 92) (v := v22) 12 14 rfl f_12_214 rfl J rfl qv22 ?_
              refine x_ifne (tgt := 35) rfl rfl (ti_ne rfl jk_0 (bn_t (by omega) ?_))
              refine x_vret rfl rfl ?_
              show jX m_X12_behindTest 4 0 0 96 [(1, .int 0), (0, .ref 125)] [] _ 0 0 _
              refine x_aloadn (x := 125) rfl rfl ?_
              refine z_getM (N := 92) (v := v22) 12 14 rfl f_12_214 rfl J rfl qv22 ?_
              refine x_ifne (tgt := 108) rfl rfl (ti_ne rfl jk_0 (bn_t (by omega) ?_))
              exact jX.sub jsb_n (ct_X12_behindTest_r125d_108 hA hN hD hQ  p0 p3 p1 p2 h (jr_of rfl (by omega)) (jr_of rfl (by omega)) (jr_of rfl (by omega)) (jr_of rfl (by omega)) (jmu_tb (jmu_bad hA (jeq_c S3 rfl jeq_0) (jeq_c S3 rfl jeq_0) (jeq_c S3 rfl jeq_0) (jeq_c S3 rfl jeq_0) (jmc S3 rfl rfl) (jmc S3 rfl rfl) (jmc S3 rfl rfl) qv22 (by omega)) qv22 (by omega)) (by omega) (by omega) (jmc S3 rfl zp0) (jmc S3 rfl zp3) (jmc S3 rfl zp1) (jmc S3 rfl zp2) J Sm D)
            ·
              rw [if_pos (by omega)] at D
              refine x_iloadn (x := 1) rfl rfl ?_
              refine x_ifne (tgt := 24) rfl rfl (ti_ne jk_1 jk_0 (bn_t (by omega) ?_))
              refine x_aloadn (x := 125) rfl rfl ?_
              refine z_getM (N := 92) (v := v22) 12 14 rfl f_12_214 rfl J rfl qv22 ?_
              refine x_ifne (tgt := 35) rfl rfl (ti_ne rfl jk_0 (bn_f (by omega) ?_))
              refine x_aloadn (x := 125) rfl rfl ?_
              refine x_inv (N := m_X12_next) (As := []) (b := 125) (st := []) (dx9 := 2) (mc := 0) (ms := 0) (host := "") 12 rfl t_X12_next ⟨Or.inl q_12_218, i_X12_next.1, i_X12_next.2⟩ ⟨by decide, rfl⟩ (congrArg Prod.fst (J.1.1 125 (12, 92) rfl)) rfl (by decide) rfl rfl ⟨by decide, by decide⟩ (sf_X12_next_r125d  hD J (jmc S3 rfl zp0) (jmc S3 rfl zp1) (by omega) rfl  (fun h J S24 u25 u26 u27 qu25 qu26 qu27 ru25 u28 u29 u30 qu28 qu29 qu30 ru28 P31 X32 => ?_))
              have Sm := jSm_tr rfl Sm S24
              rw [X32] at D
              have eu25 := (show 0 ≤ u25.toInt ∧ u25.toInt ≤ 400 from qu25 ▸ jrg_f J sg_125_10_11_1_0_1)
              try rw [vrf qu25] at D
              have eu26 := (show 0 ≤ u26.toInt ∧ u26.toInt ≤ 400 from qu26 ▸ jrg_f J sg_125_8_9_1_0_1)
              try rw [vrf (jmb_c S24 qu26 rfl)] at D
              have eu27 := (show 0 ≤ u27.toInt ∧ u27.toInt ≤ 400 from qu27 ▸ jrg_f J sg_125_9_10_1_0_1)
              try rw [vrf qu27] at D
              have eu28 := (show 0 ≤ u28.toInt ∧ u28.toInt ≤ 3 from qu28 ▸ jrg_f J sg_125_11_12_1_0_1)
              try rw [vrf qu28] at D
              obtain rfl : u27 = u29 := qu27.symm.trans qu29
              obtain rfl : u25 = u30 := qu25.symm.trans qu30
              have nfP31 := jnf P31.1 (jmc S3 rfl zp0) qu27
              show jX m_X12_must 3 0 0 35 [(0, .ref 125), (1, .int 1)] [] _ 0 0 _
              refine x_vret rfl rfl ?_
              show jX m_X12_behindTest 4 0 0 96 [(1, .int 0), (0, .ref 125)] [] _ 0 0 _
              refine x_aloadn (x := 125) rfl rfl ?_
              refine z_getM (N := 92) (v := v22) 12 14 rfl f_12_214 rfl J rfl (jmc S24 rfl qv22) ?_
              refine x_ifne (tgt := 108) rfl rfl (ti_ne rfl jk_0 (bn_f (by omega) ?_))
              refine x_aloadn (x := 125) rfl rfl ?_
              refine x_iconst (v := 1) rfl ki_1 ?_
              refine x_inv (N := m_X12_close) (As := [.int 1]) (b := 125) (st := []) (dx9 := 3) (mc := 0) (ms := 0) (host := "") 12 rfl t_X12_close ⟨Or.inl q_12_551, i_X12_close.1, i_X12_close.2⟩ ⟨by decide, rfl⟩ (congrArg Prod.fst (J.1.1 125 (12, 92) rfl)) rfl (by decide) rfl rfl ⟨by decide, by decide⟩ (jC.of rfl k_X12_close rfl ?_)
              show jX m_X12_close 3 0 0 0 [(0, .ref 125), (1, .int 1)] [] _ 0 0 _
              refine x_aloadn (x := 125) rfl rfl ?_
              refine x_iloadn (x := 1) rfl rfl ?_
              refine x_inv (N := m_X12_settle) (As := [.int 1]) (b := 125) (st := []) (dx9 := 2) (mc := 0) (ms := 0) (host := "") 12 rfl t_X12_settle ⟨Or.inl q_12_548, i_X12_settle.1, i_X12_settle.2⟩ ⟨by decide, rfl⟩ (congrArg Prod.fst (J.1.1 125 (12, 92) rfl)) rfl (by decide) rfl rfl ⟨by decide, by decide⟩ (sf_X12_settle_r125d (jr_of jk_1 (by omega)) (K9 := 1) (by decide) (jmu_1 (jmu_on hA (jeq_c S24 rfl (jeq_c S3 rfl jeq_0)) (jeq_c S24 rfl (jeq_c S3 rfl jeq_0)) (jeq_c S24 rfl (jeq_c S3 rfl jeq_0)) (jeq_c S24 rfl (jeq_c S3 rfl jeq_0)) (jmc S24 rfl (jmc S3 rfl rfl)) (jmc S24 rfl (jmc S3 rfl rfl)) (jmc S24 rfl (jmc S3 rfl rfl)) (zp2) qu27 (by omega)) (jmc S24 rfl qv22) (by omega)) hD J rfl  (fun h J S33 P34 X35 => ?_))
              have Sm := jSm_tr rfl Sm S33
              try rw [jk_1] at X35
              rw [X35] at D
              show jX m_X12_close 3 0 0 5 [(0, .ref 125), (1, .int 1)] [] _ 0 0 _
              refine x_aloadn (x := 125) rfl rfl ?_
              refine x_dup rfl rfl ?_
              refine z_getI (N := 92) 12 55 rfl f_12_496 rfl J rfl sg_125_55_56_1_0_1 (fun v36 qv36 ev36 => ?_)
              try rw [vrf qv36] at D
              have px := cl_l (jmu_on hA (jeq_c S24 rfl (jeq_c S3 rfl jeq_0)) (jeq_c S24 rfl (jeq_c S3 rfl jeq_0)) (jeq_c S24 rfl (jeq_c S3 rfl jeq_0)) (jeq_c S24 rfl (jeq_c S3 rfl jeq_0)) (jmc S24 rfl (jmc S3 rfl rfl)) (jmc S24 rfl (jmc S3 rfl rfl)) (jmc S24 rfl (jmc S3 rfl rfl)) (zp2) qu27 (by omega)) (jmc S24 rfl qv22) (by omega) (jir_bk (jeq_c S3 rfl jeq_0) (jmc S3 rfl rfl) P4) P34 (Or.inr ⟨rfl, iv30 (by omega)⟩) qv36
              refine x_iconst (v := 1) rfl ki_1 ?_
              refine z_isub rfl rfl jk_1 (by omega) (fun v37 ev37 => ?_)
              refine z_putI (N := 92) (w := v37.toInt) 12 55 rfl f_12_496 rfl (jfin_no TX12 RX12 92 rfl rfl) hD J Sm rfl rfl rfl (pw_125_55 (by omega)) rfl (fun h w38 J Sm => ?_)
              rw [vwf w38 (show (v36.toInt - 1) = v37.toInt from by omega)] at D
              refine x_aloadn (x := 125) rfl rfl ?_
              refine x_dup rfl rfl ?_
              refine z_getI0 (N := 92) 12 56 rfl f_12_533 rfl J rfl (fun v39 qv39 => ?_)
              have ev39 := jfull v39
              try rw [vrf (jmb_c S24 (jmb_c S33 (jmb_w w38 qv39 rfl) rfl) rfl)] at D
              refine x_iconst (v := 1) rfl ki_1 ?_
              refine z_isubW rfl rfl jk_1 (fun v40 ev40 => ?_)
              have fv40 := jfull v40
              try rw [← ev40] at D
              refine z_putI (N := 92) (w := v40.toInt) 12 56 rfl f_12_533 rfl (jfin_no TX12 RX12 92 rfl rfl) hD J Sm rfl rfl rfl (pw_125_56 trivial) rfl (fun h w41 J Sm => ?_)
              rw [vwf w41 (show v40.toInt = v40.toInt from by omega)] at D
              refine x_vret rfl rfl ?_
              show jX m_X12_behindTest 4 0 0 108 [(1, .int 0), (0, .ref 125)] [] _ 0 0 _
              exact jX.sub jsb_n (ct_X12_behindTest_r125d_108 hA hN hD hQ  u25 u28 u26 u27 h (jr_of rfl (by omega)) (jr_of rfl (by omega)) (jr_of rfl (by omega)) (jr_of rfl (by omega)) (cl_mark (jmu_on hA (jeq_c S24 rfl (jeq_c S3 rfl jeq_0)) (jeq_c S24 rfl (jeq_c S3 rfl jeq_0)) (jeq_c S24 rfl (jeq_c S3 rfl jeq_0)) (jeq_c S24 rfl (jeq_c S3 rfl jeq_0)) (jmc S24 rfl (jmc S3 rfl rfl)) (jmc S24 rfl (jmc S3 rfl rfl)) (jmc S24 rfl (jmc S3 rfl rfl)) (zp2) qu27 (by omega)) (jmc S24 rfl qv22) (by omega) (jir_bk (jeq_c S3 rfl jeq_0) (jmc S3 rfl rfl) P4) P34 (jmc S33 rfl rfl) (jmc S33 rfl rfl) (Or.inr ⟨rfl, iv30 (by omega), rfl⟩) (Or.inr hN) qv36 w38 (by omega) w41).2 (by omega) (by omega) (jmo w41 rfl (jmo w38 rfl (jmc S33 rfl qu25))) (jmo w41 rfl (jmo w38 rfl (jmc S33 rfl qu28))) (jmo w41 rfl (jmo w38 rfl (jmc S33 rfl qu26))) (jmo w41 rfl (jmo w38 rfl (jmc S33 rfl qu27))) J Sm D)
      ·
        rw [if_pos (by omega)] at D
        refine x_iconst (v := 4) rfl ki_4 ?_
        refine x_iret rfl rfl ?_
        exact hQ _ _ (jr_of jk_4 (by omega)) J Sm _ _ _ (jmc S3 rfl zp0) (jmc S3 rfl zp1) (jmc S3 rfl zp2) (by omega) _ _ _ (jmc S3 rfl zp3) (jmc S3 rfl zp2) (jmc S3 rfl zp0) (by omega) (by rw [jk_4]; exact jbp_u (bt_over hA ⟨(jeq_c S3 rfl jeq_0), (jeq_c S3 rfl jeq_0), (jeq_c S3 rfl jeq_0), (jeq_c S3 rfl jeq_0), (jmc S3 rfl rfl), (jmc S3 rfl rfl), (jmc S3 rfl rfl), (jmc S3 rfl rfl)⟩ P4 (by omega)) (Or.inl rfl)) ((congrArg Prod.fst D).symm.trans (show 4 = (4 : Int32).toInt from by have := jk_4; omega)) (congrArg Prod.snd D).symm
    ·
      rw [if_pos (by omega)] at D
      refine x_aloadn (x := 125) rfl rfl ?_
      refine z_getLQ (N := 92) 12 12 rfl f_12_224 rfl J rfl (fun v42 qv42 => ?_)
      have ev42 := jfullL v42
      try rw [vrfL qv42] at D
      refine x_lloadn (x := 498) rfl rfl ?_
      refine z_lcmp rfl rfl jkl_498 (fun v43 ev43 => ?_)
      refine x_ifne (tgt := 21) rfl rfl (ti_ne rfl jk_0 ⟨fun c44 => ?_, fun c44 => ?_⟩)
      ·
        rw [if_neg (by omega)] at D
        refine x_iconst (v := 0) rfl ki_0 ?_
        refine x_zret rfl rfl (by decide) ?_
        show jX m_X12_behindTest 4 0 0 19 [(1, .int 0), (0, .ref 125)] [.int 0] _ 0 0 _
        refine x_ifeq (tgt := 76) rfl rfl (ti_eq jk_0 jk_0 (br_t (by omega) ?_))
        refine x_aloadn (x := 125) rfl rfl ?_
        refine x_inv (N := m_X12_inner) (As := []) (b := 125) (st := []) (dx9 := 1) (mc := 0) (ms := 0) (host := "") 12 rfl t_X12_inner ⟨Or.inl q_12_545, i_X12_inner.1, i_X12_inner.2⟩ ⟨by decide, rfl⟩ (congrArg Prod.fst (J.1.1 125 (12, 92) rfl)) rfl (by decide) rfl rfl ⟨by decide, by decide⟩ (sf_X12_inner_r125d  hD J rfl  (fun v49 h ev49 J S45 P46 X47 X48 => ?_))
        have Sm := jSm_tr rfl Sm S45
        try rw [X47] at D
        try rw [← X48] at D
        have iv30 := jir_30 P46
        show jX m_X12_behindTest 4 0 0 80 [(1, .int 0), (0, .ref 125)] [.int v49] _ 0 0 _
        refine x_iconst (v := (-1)) rfl ki_m1 ?_
        refine x_icne (tgt := 86) rfl rfl (ti_ne rfl jk_m1 ⟨fun c50 => ?_, fun c50 => ?_⟩)
        ·
          rw [if_neg (by omega)] at D
          refine x_aloadn (x := 125) rfl rfl ?_
          refine x_aloadn (x := 125) rfl rfl ?_
          refine x_bipush (v := 41) rfl kb_41 ?_
          refine x_inv (N := m_X12_isSign) (As := [.int 41]) (b := 125) (st := [.ref 125]) (dx9 := 3) (mc := 0) (ms := 0) (host := "") 12 rfl t_X12_isSign ⟨Or.inl q_12_257, i_X12_isSign.1, i_X12_isSign.2⟩ ⟨by decide, rfl⟩ (congrArg Prod.fst (J.1.1 125 (12, 92) rfl)) rfl (by decide) rfl rfl ⟨by decide, by decide⟩ (jC.of rfl k_X12_isSign rfl ?_)
          show jX m_X12_isSign 3 0 0 0 [(0, .ref 125), (1, .int 41)] [] _ 0 0 _
          refine x_aloadn (x := 125) rfl rfl ?_
          refine z_getM (N := 92) (v := p3) 12 11 rfl f_12_235 rfl J rfl (jmc S45 rfl zp3) ?_
          refine x_iconst (v := 3) rfl ki_3 ?_
          refine x_icne (tgt := 22) rfl rfl (ti_ne rfl jk_3 (bn_t (by omega) ?_))
          refine x_iconst (v := 0) rfl ki_0 ?_
          refine x_zret rfl rfl (by decide) ?_
          show jX m_X12_behindTest 4 0 0 93 [(1, .int 0), (0, .ref 125)] [.int 0, .ref 125] _ 0 0 _
          refine x_inv (N := m_X12_must) (As := [.int 0]) (b := 125) (st := []) (dx9 := 3) (mc := 0) (ms := 0) (host := "") 12 rfl t_X12_must ⟨Or.inl q_12_250, i_X12_must.1, i_X12_must.2⟩ ⟨by decide, rfl⟩ (congrArg Prod.fst (J.1.1 125 (12, 92) rfl)) rfl (by decide) rfl rfl ⟨by decide, by decide⟩ (jC.of rfl k_X12_must rfl ?_)
          show jX m_X12_must 3 0 0 0 [(0, .ref 125), (1, .int 0)] [] _ 0 0 _
          refine x_aloadn (x := 125) rfl rfl ?_
          refine z_getI (N := 92) 12 14 rfl f_12_214 rfl J rfl sg_125_14_15_1_0_1 (fun v51 qv51 ev51 => ?_)
          try rw [vrf qv51] at D
          refine x_ifne (tgt := 24) rfl rfl (ti_ne rfl jk_0 ⟨fun c52 => ?_, fun c52 => ?_⟩)
          ·
            rw [if_neg (by omega)] at D
            refine x_aloadn (x := 125) rfl rfl ?_
            refine z_getM (N := 92) (v := v51) 12 14 rfl f_12_214 rfl J rfl qv51 ?_
            refine x_ifne (tgt := 35) rfl rfl (ti_ne rfl jk_0 (bn_t (by omega) ?_))
            refine x_vret rfl rfl ?_
            show jX m_X12_behindTest 4 0 0 96 [(1, .int 0), (0, .ref 125)] [] _ 0 0 _
            refine x_aloadn (x := 125) rfl rfl ?_
            refine z_getM (N := 92) (v := v51) 12 14 rfl f_12_214 rfl J rfl qv51 ?_
            refine x_ifne (tgt := 108) rfl rfl (ti_ne rfl jk_0 (bn_t (by omega) ?_))
            exact jX.sub jsb_n (ct_X12_behindTest_r125d_108 hA hN hD hQ  p0 p3 p1 p2 h (jr_of rfl (by omega)) (jr_of rfl (by omega)) (jr_of rfl (by omega)) (jr_of rfl (by omega)) (jmu_tb (jmu_bad hA (jeq_c S45 rfl jeq_0) (jeq_c S45 rfl jeq_0) (jeq_c S45 rfl jeq_0) (jeq_c S45 rfl jeq_0) (jmc S45 rfl rfl) (jmc S45 rfl rfl) (jmc S45 rfl rfl) qv51 (by omega)) qv51 (by omega)) (by omega) (by omega) (jmc S45 rfl zp0) (jmc S45 rfl zp3) (jmc S45 rfl zp1) (jmc S45 rfl zp2) J Sm D)
          ·
            rw [if_pos (by omega)] at D
            refine x_iloadn (x := 0) rfl rfl ?_
            refine x_ifne (tgt := 24) rfl rfl (ti_ne jk_0 jk_0 (bn_f (by omega) ?_))
            refine x_aloadn (x := 125) rfl rfl ?_
            refine x_iconst (v := 1) rfl ki_1 ?_
            refine z_putZ (N := 92) (w := 1) 12 14 rfl f_12_214 rfl (jfin_no TX12 RX12 92 rfl rfl) hD J Sm rfl rfl jk_1 (by omega) (pw_125_14 (by omega)) rfl (fun h w53 J Sm => ?_)
            rw [vwf w53 (show 1 = (1 : Int32).toInt from by have := jk_1; omega)] at D
            refine x_aloadn (x := 125) rfl rfl ?_
            refine x_aloadn (x := 125) rfl rfl ?_
            refine z_getM (N := 92) (v := p2) 12 9 rfl f_12_221 rfl J rfl (jmo w53 rfl (jmc S45 rfl zp2)) ?_
            refine z_putI (N := 92) (w := p2.toInt) 12 13 rfl f_12_32 rfl (jfin_no TX12 RX12 92 rfl rfl) hD J Sm rfl rfl rfl (pw_125_13 (by omega)) rfl (fun h w54 J Sm => ?_)
            rw [vwf w54 (show p2.toInt = p2.toInt from by omega)] at D
            refine x_aloadn (x := 125) rfl rfl ?_
            refine z_getM (N := 92) (v := 1) 12 14 rfl f_12_214 rfl J rfl (jmo w54 rfl (jmw w53)) ?_
            refine x_ifne (tgt := 35) rfl rfl (ti_ne jk_1 jk_0 (bn_t (by omega) ?_))
            refine x_vret rfl rfl ?_
            show jX m_X12_behindTest 4 0 0 96 [(1, .int 0), (0, .ref 125)] [] _ 0 0 _
            refine x_aloadn (x := 125) rfl rfl ?_
            refine z_getM (N := 92) (v := 1) 12 14 rfl f_12_214 rfl J rfl (jmo w54 rfl (jmw w53)) ?_
            refine x_ifne (tgt := 108) rfl rfl (ti_ne jk_1 jk_0 (bn_t (by omega) ?_))
            exact jX.sub jsb_n (ct_X12_behindTest_r125d_108 hA hN hD hQ  p0 p3 p1 p2 h (jr_of rfl (by omega)) (jr_of rfl (by omega)) (jr_of rfl (by omega)) (jr_of rfl (by omega)) (jmu_tb (jmu_bad hA (jeq_o w54 rfl (jeq_o w53 rfl (jeq_c S45 rfl jeq_0))) (jeq_o w54 rfl (jeq_o w53 rfl (jeq_c S45 rfl jeq_0))) (jeq_o w54 rfl (jeq_o w53 rfl (jeq_c S45 rfl jeq_0))) (jeq_o w54 rfl (jeq_o w53 rfl (jeq_c S45 rfl jeq_0))) (jmo w54 rfl (jmo w53 rfl (jmc S45 rfl rfl))) (jmo w54 rfl (jmo w53 rfl (jmc S45 rfl rfl))) (jmo w54 rfl (jmo w53 rfl (jmc S45 rfl rfl))) (jmo w54 rfl (jmw w53)) (by decide)) (jmo w54 rfl (jmw w53)) (by decide)) (by omega) (by omega) (jmo w54 rfl (jmo w53 rfl (jmc S45 rfl zp0))) (jmo w54 rfl (jmo w53 rfl (jmc S45 rfl zp3))) (jmo w54 rfl (jmo w53 rfl (jmc S45 rfl zp1))) (jmo w54 rfl (jmo w53 rfl (jmc S45 rfl zp2))) J Sm D)
        ·
          rw [if_pos (by omega)] at D
          refine x_iconst (v := 4) rfl ki_4 ?_
          refine x_iret rfl rfl ?_
          exact hQ _ _ (jr_of jk_4 (by omega)) J Sm _ _ _ (jmc S45 rfl zp0) (jmc S45 rfl zp1) (jmc S45 rfl zp2) (by omega) _ _ _ (jmc S45 rfl zp3) (jmc S45 rfl zp2) (jmc S45 rfl zp0) (by omega) (by rw [jk_4]; exact jbp_u (bt_over hA ⟨(jeq_c S45 rfl jeq_0), (jeq_c S45 rfl jeq_0), (jeq_c S45 rfl jeq_0), (jeq_c S45 rfl jeq_0), (jmc S45 rfl rfl), (jmc S45 rfl rfl), (jmc S45 rfl rfl), (jmc S45 rfl rfl)⟩ P46 (by omega)) (Or.inl rfl)) ((congrArg Prod.fst D).symm.trans (show 4 = (4 : Int32).toInt from by have := jk_4; omega)) (congrArg Prod.snd D).symm
      ·
        rw [if_pos (by omega)] at D
        refine x_iconst (v := 1) rfl ki_1 ?_
        refine x_goto (tgt := 22) rfl rfl ?_
        refine x_zret rfl rfl (by decide) ?_
        show jX m_X12_behindTest 4 0 0 19 [(1, .int 0), (0, .ref 125)] [.int 1] _ 0 0 _
        refine x_ifeq (tgt := 76) rfl rfl (ti_eq jk_1 jk_0 (br_f (by omega) ?_))
        exact jX.sub (jsb_c rfl (jsb_c rfl jsb_n)) (ct_X12_behindTest_r125d_22 hA hN hD hQ  0 p0 p3 p1 p2 h (jr_of jk_0 (by omega)) (jr_of rfl (by omega)) (jr_of rfl (by omega)) (jr_of rfl (by omega)) (jr_of rfl (by omega)) jsa_0 (by omega) (by omega) (by omega) zp0 zp3 zp1 zp2 J Sm (by rw [jk_0]; exact D))
  ·
    rw [if_pos (by omega)] at D
    refine x_aloadn (x := 125) rfl rfl ?_
    refine z_getLQ (N := 92) 12 12 rfl f_12_224 rfl J rfl (fun v55 qv55 => ?_)
    have ev55 := jfullL v55
    try rw [vrfL qv55] at D
    refine x_lloadn (x := 1476) rfl rfl ?_
    refine z_lcmp rfl rfl jkl_1476 (fun v56 ev56 => ?_)
    refine x_ifne (tgt := 21) rfl rfl (ti_ne rfl jk_0 ⟨fun c57 => ?_, fun c57 => ?_⟩)
    ·
      rw [if_neg (by omega)] at D
      refine x_iconst (v := 0) rfl ki_0 ?_
      refine x_zret rfl rfl (by decide) ?_
      show jX m_X12_behindTest 4 0 0 7 [(0, .ref 125)] [.int 0] _ 0 0 _
      refine x_istoren (lsx9 := [(1, .int 0), (0, .ref 125)]) rfl rfl rfl ?_
      refine x_iloadn (x := 0) rfl rfl ?_
      refine x_ifne (tgt := 22) rfl rfl (ti_ne jk_0 jk_0 (bn_f (by omega) ?_))
      refine x_aloadn (x := 125) rfl rfl ?_
      refine x_ldc2 (v := 498) rfl z_12_559 ?_
      refine x_inv (N := m_X12_isWord) (As := [.long 498]) (b := 125) (st := []) (dx9 := 3) (mc := 0) (ms := 0) (host := "") 12 rfl t_X12_isWord ⟨Or.inl q_12_511, i_X12_isWord.1, i_X12_isWord.2⟩ ⟨by decide, rfl⟩ (congrArg Prod.fst (J.1.1 125 (12, 92) rfl)) rfl (by decide) rfl rfl ⟨by decide, by decide⟩ (jC.of rfl k_X12_isWord rfl ?_)
      show jX m_X12_isWord 3 0 0 0 [(0, .ref 125), (1, .long 498)] [] _ 0 0 _
      refine x_aloadn (x := 125) rfl rfl ?_
      refine z_getM (N := 92) (v := p3) 12 11 rfl f_12_235 rfl J rfl zp3 ?_
      refine x_iconst (v := 1) rfl ki_1 ?_
      refine x_icne (tgt := 21) rfl rfl (ti_ne rfl jk_1 (bn_f (by omega) ?_))
      refine x_aloadn (x := 125) rfl rfl ?_
      refine z_getLQ (N := 92) 12 12 rfl f_12_224 rfl J rfl (fun v58 qv58 => ?_)
      have ev58 := jfullL v58
      try have kqv58 : v55.toInt = v58.toInt := ((vrfL qv55).symm.trans (vrfL qv58))
      try rw [kqv58] at D
      try rw [vrfL qv58] at D
      refine x_lloadn (x := 498) rfl rfl ?_
      refine z_lcmp rfl rfl jkl_498 (fun v59 ev59 => ?_)
      refine x_ifne (tgt := 21) rfl rfl (ti_ne rfl jk_0 ⟨fun c60 => ?_, fun c60 => ?_⟩)
      ·
        rw [if_neg (by omega)] at D
        refine x_iconst (v := 0) rfl ki_0 ?_
        refine x_zret rfl rfl (by decide) ?_
        show jX m_X12_behindTest 4 0 0 19 [(1, .int 0), (0, .ref 125)] [.int 0] _ 0 0 _
        refine x_ifeq (tgt := 76) rfl rfl (ti_eq jk_0 jk_0 (br_t (by omega) ?_))
        refine x_aloadn (x := 125) rfl rfl ?_
        refine x_inv (N := m_X12_inner) (As := []) (b := 125) (st := []) (dx9 := 1) (mc := 0) (ms := 0) (host := "") 12 rfl t_X12_inner ⟨Or.inl q_12_545, i_X12_inner.1, i_X12_inner.2⟩ ⟨by decide, rfl⟩ (congrArg Prod.fst (J.1.1 125 (12, 92) rfl)) rfl (by decide) rfl rfl ⟨by decide, by decide⟩ (sf_X12_inner_r125d  hD J rfl  (fun v65 h ev65 J S61 P62 X63 X64 => ?_))
        have Sm := jSm_tr rfl Sm S61
        try rw [X63] at D
        try rw [← X64] at D
        have iv30 := jir_30 P62
        show jX m_X12_behindTest 4 0 0 80 [(1, .int 0), (0, .ref 125)] [.int v65] _ 0 0 _
        refine x_iconst (v := (-1)) rfl ki_m1 ?_
        refine x_icne (tgt := 86) rfl rfl (ti_ne rfl jk_m1 ⟨fun c66 => ?_, fun c66 => ?_⟩)
        ·
          rw [if_neg (by omega)] at D
          refine x_aloadn (x := 125) rfl rfl ?_
          refine x_aloadn (x := 125) rfl rfl ?_
          refine x_bipush (v := 41) rfl kb_41 ?_
          refine x_inv (N := m_X12_isSign) (As := [.int 41]) (b := 125) (st := [.ref 125]) (dx9 := 3) (mc := 0) (ms := 0) (host := "") 12 rfl t_X12_isSign ⟨Or.inl q_12_257, i_X12_isSign.1, i_X12_isSign.2⟩ ⟨by decide, rfl⟩ (congrArg Prod.fst (J.1.1 125 (12, 92) rfl)) rfl (by decide) rfl rfl ⟨by decide, by decide⟩ (jC.of rfl k_X12_isSign rfl ?_)
          show jX m_X12_isSign 3 0 0 0 [(0, .ref 125), (1, .int 41)] [] _ 0 0 _
          refine x_aloadn (x := 125) rfl rfl ?_
          refine z_getM (N := 92) (v := p3) 12 11 rfl f_12_235 rfl J rfl (jmc S61 rfl zp3) ?_
          refine x_iconst (v := 3) rfl ki_3 ?_
          refine x_icne (tgt := 22) rfl rfl (ti_ne rfl jk_3 (bn_t (by omega) ?_))
          refine x_iconst (v := 0) rfl ki_0 ?_
          refine x_zret rfl rfl (by decide) ?_
          show jX m_X12_behindTest 4 0 0 93 [(1, .int 0), (0, .ref 125)] [.int 0, .ref 125] _ 0 0 _
          refine x_inv (N := m_X12_must) (As := [.int 0]) (b := 125) (st := []) (dx9 := 3) (mc := 0) (ms := 0) (host := "") 12 rfl t_X12_must ⟨Or.inl q_12_250, i_X12_must.1, i_X12_must.2⟩ ⟨by decide, rfl⟩ (congrArg Prod.fst (J.1.1 125 (12, 92) rfl)) rfl (by decide) rfl rfl ⟨by decide, by decide⟩ (jC.of rfl k_X12_must rfl ?_)
          show jX m_X12_must 3 0 0 0 [(0, .ref 125), (1, .int 0)] [] _ 0 0 _
          refine x_aloadn (x := 125) rfl rfl ?_
          refine z_getI (N := 92) 12 14 rfl f_12_214 rfl J rfl sg_125_14_15_1_0_1 (fun v67 qv67 ev67 => ?_)
          try rw [vrf qv67] at D
          refine x_ifne (tgt := 24) rfl rfl (ti_ne rfl jk_0 ⟨fun c68 => ?_, fun c68 => ?_⟩)
          ·
            rw [if_neg (by omega)] at D
            refine x_aloadn (x := 125) rfl rfl ?_
            refine z_getM (N := 92) (v := v67) 12 14 rfl f_12_214 rfl J rfl qv67 ?_
            refine x_ifne (tgt := 35) rfl rfl (ti_ne rfl jk_0 (bn_t (by omega) ?_))
            refine x_vret rfl rfl ?_
            show jX m_X12_behindTest 4 0 0 96 [(1, .int 0), (0, .ref 125)] [] _ 0 0 _
            refine x_aloadn (x := 125) rfl rfl ?_
            refine z_getM (N := 92) (v := v67) 12 14 rfl f_12_214 rfl J rfl qv67 ?_
            refine x_ifne (tgt := 108) rfl rfl (ti_ne rfl jk_0 (bn_t (by omega) ?_))
            exact jX.sub jsb_n (ct_X12_behindTest_r125d_108 hA hN hD hQ  p0 p3 p1 p2 h (jr_of rfl (by omega)) (jr_of rfl (by omega)) (jr_of rfl (by omega)) (jr_of rfl (by omega)) (jmu_tb (jmu_bad hA (jeq_c S61 rfl jeq_0) (jeq_c S61 rfl jeq_0) (jeq_c S61 rfl jeq_0) (jeq_c S61 rfl jeq_0) (jmc S61 rfl rfl) (jmc S61 rfl rfl) (jmc S61 rfl rfl) qv67 (by omega)) qv67 (by omega)) (by omega) (by omega) (jmc S61 rfl zp0) (jmc S61 rfl zp3) (jmc S61 rfl zp1) (jmc S61 rfl zp2) J Sm D)
          ·
            rw [if_pos (by omega)] at D
            refine x_iloadn (x := 0) rfl rfl ?_
            refine x_ifne (tgt := 24) rfl rfl (ti_ne jk_0 jk_0 (bn_f (by omega) ?_))
            refine x_aloadn (x := 125) rfl rfl ?_
            refine x_iconst (v := 1) rfl ki_1 ?_
            refine z_putZ (N := 92) (w := 1) 12 14 rfl f_12_214 rfl (jfin_no TX12 RX12 92 rfl rfl) hD J Sm rfl rfl jk_1 (by omega) (pw_125_14 (by omega)) rfl (fun h w69 J Sm => ?_)
            rw [vwf w69 (show 1 = (1 : Int32).toInt from by have := jk_1; omega)] at D
            refine x_aloadn (x := 125) rfl rfl ?_
            refine x_aloadn (x := 125) rfl rfl ?_
            refine z_getM (N := 92) (v := p2) 12 9 rfl f_12_221 rfl J rfl (jmo w69 rfl (jmc S61 rfl zp2)) ?_
            refine z_putI (N := 92) (w := p2.toInt) 12 13 rfl f_12_32 rfl (jfin_no TX12 RX12 92 rfl rfl) hD J Sm rfl rfl rfl (pw_125_13 (by omega)) rfl (fun h w70 J Sm => ?_)
            rw [vwf w70 (show p2.toInt = p2.toInt from by omega)] at D
            refine x_aloadn (x := 125) rfl rfl ?_
            refine z_getM (N := 92) (v := 1) 12 14 rfl f_12_214 rfl J rfl (jmo w70 rfl (jmw w69)) ?_
            refine x_ifne (tgt := 35) rfl rfl (ti_ne jk_1 jk_0 (bn_t (by omega) ?_))
            refine x_vret rfl rfl ?_
            show jX m_X12_behindTest 4 0 0 96 [(1, .int 0), (0, .ref 125)] [] _ 0 0 _
            refine x_aloadn (x := 125) rfl rfl ?_
            refine z_getM (N := 92) (v := 1) 12 14 rfl f_12_214 rfl J rfl (jmo w70 rfl (jmw w69)) ?_
            refine x_ifne (tgt := 108) rfl rfl (ti_ne jk_1 jk_0 (bn_t (by omega) ?_))
            exact jX.sub jsb_n (ct_X12_behindTest_r125d_108 hA hN hD hQ  p0 p3 p1 p2 h (jr_of rfl (by omega)) (jr_of rfl (by omega)) (jr_of rfl (by omega)) (jr_of rfl (by omega)) (jmu_tb (jmu_bad hA (jeq_o w70 rfl (jeq_o w69 rfl (jeq_c S61 rfl jeq_0))) (jeq_o w70 rfl (jeq_o w69 rfl (jeq_c S61 rfl jeq_0))) (jeq_o w70 rfl (jeq_o w69 rfl (jeq_c S61 rfl jeq_0))) (jeq_o w70 rfl (jeq_o w69 rfl (jeq_c S61 rfl jeq_0))) (jmo w70 rfl (jmo w69 rfl (jmc S61 rfl rfl))) (jmo w70 rfl (jmo w69 rfl (jmc S61 rfl rfl))) (jmo w70 rfl (jmo w69 rfl (jmc S61 rfl rfl))) (jmo w70 rfl (jmw w69)) (by decide)) (jmo w70 rfl (jmw w69)) (by decide)) (by omega) (by omega) (jmo w70 rfl (jmo w69 rfl (jmc S61 rfl zp0))) (jmo w70 rfl (jmo w69 rfl (jmc S61 rfl zp3))) (jmo w70 rfl (jmo w69 rfl (jmc S61 rfl zp1))) (jmo w70 rfl (jmo w69 rfl (jmc S61 rfl zp2))) J Sm D)
        ·
          rw [if_pos (by omega)] at D
          refine x_iconst (v := 4) rfl ki_4 ?_
          refine x_iret rfl rfl ?_
          exact hQ _ _ (jr_of jk_4 (by omega)) J Sm _ _ _ (jmc S61 rfl zp0) (jmc S61 rfl zp1) (jmc S61 rfl zp2) (by omega) _ _ _ (jmc S61 rfl zp3) (jmc S61 rfl zp2) (jmc S61 rfl zp0) (by omega) (by rw [jk_4]; exact jbp_u (bt_over hA ⟨(jeq_c S61 rfl jeq_0), (jeq_c S61 rfl jeq_0), (jeq_c S61 rfl jeq_0), (jeq_c S61 rfl jeq_0), (jmc S61 rfl rfl), (jmc S61 rfl rfl), (jmc S61 rfl rfl), (jmc S61 rfl rfl)⟩ P62 (by omega)) (Or.inl rfl)) ((congrArg Prod.fst D).symm.trans (show 4 = (4 : Int32).toInt from by have := jk_4; omega)) (congrArg Prod.snd D).symm
      ·
        rw [if_pos (by omega)] at D
        refine x_iconst (v := 1) rfl ki_1 ?_
        refine x_goto (tgt := 22) rfl rfl ?_
        refine x_zret rfl rfl (by decide) ?_
        show jX m_X12_behindTest 4 0 0 19 [(1, .int 0), (0, .ref 125)] [.int 1] _ 0 0 _
        refine x_ifeq (tgt := 76) rfl rfl (ti_eq jk_1 jk_0 (br_f (by omega) ?_))
        exact jX.sub (jsb_c rfl (jsb_c rfl jsb_n)) (ct_X12_behindTest_r125d_22 hA hN hD hQ  0 p0 p3 p1 p2 h (jr_of jk_0 (by omega)) (jr_of rfl (by omega)) (jr_of rfl (by omega)) (jr_of rfl (by omega)) (jr_of rfl (by omega)) jsa_0 (by omega) (by omega) (by omega) zp0 zp3 zp1 zp2 J Sm (by rw [jk_0]; exact D))
    ·
      rw [if_pos (by omega)] at D
      refine x_iconst (v := 1) rfl ki_1 ?_
      refine x_goto (tgt := 22) rfl rfl ?_
      refine x_zret rfl rfl (by decide) ?_
      show jX m_X12_behindTest 4 0 0 7 [(0, .ref 125)] [.int 1] _ 0 0 _
      refine x_istoren (lsx9 := [(1, .int 1), (0, .ref 125)]) rfl rfl rfl ?_
      refine x_iloadn (x := 1) rfl rfl ?_
      refine x_ifne (tgt := 22) rfl rfl (ti_ne jk_1 jk_0 (bn_t (by omega) ?_))
      exact jX.sub (jsb_c rfl (jsb_c rfl jsb_n)) (ct_X12_behindTest_r125d_22 hA hN hD hQ  1 p0 p3 p1 p2 h (jr_of jk_1 (by omega)) (jr_of rfl (by omega)) (jr_of rfl (by omega)) (jr_of rfl (by omega)) (jr_of rfl (by omega)) jsa_0 (by omega) (by omega) (by omega) zp0 zp3 zp1 zp2 J Sm (by rw [jk_1]; exact D))
def fp_X12_must_r125d : jFp := [(125, 9, 10), (125, 10, 11), (125, 11, 12), (125, 12, 13), (125, 13, 14), (125, 14, 15)]
set_option maxRecDepth 100000 in
set_option maxHeartbeats 4000000 in
theorem ct_X12_must_r125d_35 {Dy : jH → Prop} {h0 : jH} {Q : Option Value → jH → Prop} {dr : jW} {a1 : Int32} (yy_a1 : 0 ≤ a1.toInt ∧ a1.toInt ≤ 1) (hD : jDk Dy) (hQ : ∀ hx9, jJ jSgM Dy hx9 → jSm fp_X12_must_r125d h0 hx9 → ∀ u0 u1 u2 : Int32, jiv hx9 125 10 = u0 → jiv hx9 125 8 = u1 → jiv hx9 125 9 = u2 → (u0.toInt ≤ u1.toInt ∧ u2.toInt ≤ u0.toInt) → ∀ u3 u4 u5 : Int32, jiv hx9 125 11 = u3 → jiv hx9 125 9 = u4 → jiv hx9 125 10 = u5 → (u3.toInt = 0 ∨ u4.toInt + 1 ≤ u5.toInt) → jMs a1 h0 hx9 → dr = vw hx9 → Q none hx9) : ∀ (g0 : Int32) (g1 : Int32) (g2 : Int32) (g3 : Int32) (h : jH), 0 ≤ g0.toInt ∧ g0.toInt ≤ 400 → 0 ≤ g1.toInt ∧ g1.toInt ≤ 3 → 0 ≤ g2.toInt ∧ g2.toInt ≤ 400 → 0 ≤ g3.toInt ∧ g3.toInt ≤ 400 → jMs a1 h0 h → (g0.toInt ≤ g2.toInt ∧ g3.toInt ≤ g0.toInt) → (g1.toInt = 0 ∨ g3.toInt + 1 ≤ g0.toInt) → jiv h 125 10 = g0 → jiv h 125 11 = g1 → jiv h 125 8 = g2 → jiv h 125 9 = g3 → jJ jSgM Dy h → jSm fp_X12_must_r125d h0 h → d_X12_must_r125d_35  (vw h) = dr → jX m_X12_must 3 0 0 35 [] [] h 0 0 Q := by
  intro g0 g1 g2 g3 h y0 y1 y2 y3 C0 y5 y6 z0 z1 z2 z3  J Sm D
  unfold d_X12_must_r125d_35 at D
  try rw [vrf z0] at D
  try rw [vrf z1] at D
  try rw [vrf z2] at D
  try rw [vrf z3] at D
  refine x_vret rfl rfl ?_
  exact hQ _ J Sm _ _ _ z0 z2 z3 (by omega) _ _ _ z1 z3 z0 (by omega) C0 D.symm
set_option maxRecDepth 100000 in
set_option maxHeartbeats 4000000 in
theorem ct_X12_must_r125d_24 {Dy : jH → Prop} {h0 : jH} {Q : Option Value → jH → Prop} {dr : jW} {a1 : Int32} (yy_a1 : 0 ≤ a1.toInt ∧ a1.toInt ≤ 1) (hD : jDk Dy) (hQ : ∀ hx9, jJ jSgM Dy hx9 → jSm fp_X12_must_r125d h0 hx9 → ∀ u0 u1 u2 : Int32, jiv hx9 125 10 = u0 → jiv hx9 125 8 = u1 → jiv hx9 125 9 = u2 → (u0.toInt ≤ u1.toInt ∧ u2.toInt ≤ u0.toInt) → ∀ u3 u4 u5 : Int32, jiv hx9 125 11 = u3 → jiv hx9 125 9 = u4 → jiv hx9 125 10 = u5 → (u3.toInt = 0 ∨ u4.toInt + 1 ≤ u5.toInt) → jMs a1 h0 hx9 → dr = vw hx9 → Q none hx9) : ∀ (g0 : Int32) (g1 : Int32) (g2 : Int32) (g3 : Int32) (g4 : Int32) (h : jH), 0 ≤ g0.toInt ∧ g0.toInt ≤ 400 → 0 ≤ g1.toInt ∧ g1.toInt ≤ 3 → 0 ≤ g2.toInt ∧ g2.toInt ≤ 1 → 0 ≤ g3.toInt ∧ g3.toInt ≤ 400 → 0 ≤ g4.toInt ∧ g4.toInt ≤ 400 → jM24 a1 h0 h → (g0.toInt ≤ g3.toInt ∧ g4.toInt ≤ g0.toInt) → (g1.toInt = 0 ∨ g4.toInt + 1 ≤ g0.toInt) → jiv h 125 10 = g0 → jiv h 125 11 = g1 → jiv h 125 14 = g2 → jiv h 125 8 = g3 → jiv h 125 9 = g4 → jJ jSgM Dy h → jSm fp_X12_must_r125d h0 h → d_X12_must_r125d_24  (vw h) = dr → jX m_X12_must 3 0 0 24 [(0, .ref 125)] [] h 0 0 Q := by
  intro g0 g1 g2 g3 g4 h y0 y1 y2 y3 y4 C0 y6 y7 z0 z1 z2 z3 z4  J Sm D
  unfold d_X12_must_r125d_24 at D
  try rw [vrf z0] at D
  try rw [vrf z1] at D
  try rw [vrf z2] at D
  try rw [vrf z3] at D
  try rw [vrf z4] at D
  refine x_aloadn (x := 125) rfl rfl ?_
  refine z_getM (N := 92) (v := g2) 12 14 rfl f_12_214 rfl J rfl z2 ?_
  refine x_ifne (tgt := 35) rfl rfl (ti_ne rfl jk_0 ⟨fun c1 => ?_, fun c1 => ?_⟩)
  ·
    rw [if_neg (by omega)] at D
    exact jX.sub jsb_n (ct_X12_must_r125d_35 yy_a1 hD hQ  g0 g1 g3 g4 h (jr_of rfl (by omega)) (jr_of rfl (by omega)) (jr_of rfl (by omega)) (jr_of rfl (by omega)) (ms_b C0 z2 (by omega)) (by omega) (by omega) z0 z1 z3 z4 J Sm D)
  ·
    rw [if_pos (by omega)] at D
    refine x_aloadn (x := 125) rfl rfl ?_
    refine x_inv (N := m_X12_next) (As := []) (b := 125) (st := []) (dx9 := 2) (mc := 0) (ms := 0) (host := "") 12 rfl t_X12_next ⟨Or.inl q_12_218, i_X12_next.1, i_X12_next.2⟩ ⟨by decide, rfl⟩ (congrArg Prod.fst (J.1.1 125 (12, 92) rfl)) rfl (by decide) rfl rfl ⟨by decide, by decide⟩ (sf_X12_next_r125d  hD J z0 z3 (by omega) rfl  (fun h J S2 u3 u4 u5 qu3 qu4 qu5 ru3 u6 u7 u8 qu6 qu7 qu8 ru6 P9 X10 => ?_))
    have Sm := jSm_tr rfl Sm S2
    rw [X10] at D
    have eu3 := (show 0 ≤ u3.toInt ∧ u3.toInt ≤ 400 from qu3 ▸ jrg_f J sg_125_10_11_1_0_1)
    try rw [vrf qu3] at D
    have eu4 := (show 0 ≤ u4.toInt ∧ u4.toInt ≤ 400 from qu4 ▸ jrg_f J sg_125_8_9_1_0_1)
    try rw [vrf (jmb_c S2 qu4 rfl)] at D
    have eu5 := (show 0 ≤ u5.toInt ∧ u5.toInt ≤ 400 from qu5 ▸ jrg_f J sg_125_9_10_1_0_1)
    try rw [vrf qu5] at D
    have eu6 := (show 0 ≤ u6.toInt ∧ u6.toInt ≤ 3 from qu6 ▸ jrg_f J sg_125_11_12_1_0_1)
    try rw [vrf qu6] at D
    obtain rfl : u5 = u7 := qu5.symm.trans qu7
    obtain rfl : u3 = u8 := qu3.symm.trans qu8
    have nfP9 := jnf P9.1 z0 qu5
    show jX m_X12_must 3 0 0 35 [(0, .ref 125)] [] _ 0 0 _
    exact jX.sub jsb_n (ct_X12_must_r125d_35 yy_a1 hD hQ  u3 u6 u4 u5 h (jr_of rfl (by omega)) (jr_of rfl (by omega)) (jr_of rfl (by omega)) (jr_of rfl (by omega)) (ms_n C0 P9.2 z4 qu5 (by omega) (jmc S2 rfl rfl)) (by omega) (by omega) qu3 qu6 qu4 qu5 J Sm D)
set_option maxRecDepth 100000 in
set_option maxHeartbeats 4000000 in
theorem sf_X12_must_r125d {Dy : jH → Prop} {h : jH} {Q : Option Value → jH → Prop} {dr : jW} {a1 : Int32} (y1 : 0 ≤ a1.toInt ∧ a1.toInt ≤ 1) (hD : jDk Dy) (J : jJ jSgM Dy h) {p0 p1 p2 : Int32} {p3 p4 p5 : Int32} (zp0 : jiv h 125 10 = p0) (zp1 : jiv h 125 8 = p1) (zp2 : jiv h 125 9 = p2) (rl_p0 : (p0.toInt ≤ p1.toInt ∧ p2.toInt ≤ p0.toInt)) (zp3 : jiv h 125 11 = p3) (zp4 : jiv h 125 9 = p4) (zp5 : jiv h 125 10 = p5) (rl_p3 : (p3.toInt = 0 ∨ p4.toInt + 1 ≤ p5.toInt)) (D : d_X12_must_r125d a1.toInt (vw h) = dr) (hQ : ∀ hx9, jJ jSgM Dy hx9 → jSm fp_X12_must_r125d h hx9 → ∀ u0 u1 u2 : Int32, jiv hx9 125 10 = u0 → jiv hx9 125 8 = u1 → jiv hx9 125 9 = u2 → (u0.toInt ≤ u1.toInt ∧ u2.toInt ≤ u0.toInt) → ∀ u3 u4 u5 : Int32, jiv hx9 125 11 = u3 → jiv hx9 125 9 = u4 → jiv hx9 125 10 = u5 → (u3.toInt = 0 ∨ u4.toInt + 1 ≤ u5.toInt) → jMs a1 h hx9 → dr = vw hx9 → Q none hx9) : jC m_X12_must 3 0 0 [.ref 125, .int a1] h Q := by
  refine jC.of rfl k_X12_must rfl ?_
  have Sm := jSm_rf fp_X12_must_r125d h
  have ep0 := (show 0 ≤ p0.toInt ∧ p0.toInt ≤ 400 from zp0 ▸ jrg_f J sg_125_10_11_1_0_1)
  have ep1 := (show 0 ≤ p1.toInt ∧ p1.toInt ≤ 400 from zp1 ▸ jrg_f J sg_125_8_9_1_0_1)
  have ep2 := (show 0 ≤ p2.toInt ∧ p2.toInt ≤ 400 from zp2 ▸ jrg_f J sg_125_9_10_1_0_1)
  have ep3 := (show 0 ≤ p3.toInt ∧ p3.toInt ≤ 3 from zp3 ▸ jrg_f J sg_125_11_12_1_0_1)
  have ep4 := (show 0 ≤ p4.toInt ∧ p4.toInt ≤ 400 from zp4 ▸ jrg_f J sg_125_9_10_1_0_1)
  have ep5 := (show 0 ≤ p5.toInt ∧ p5.toInt ≤ 400 from zp5 ▸ jrg_f J sg_125_10_11_1_0_1)
  obtain rfl : p2 = p4 := zp2.symm.trans zp4
  obtain rfl : p0 = p5 := zp0.symm.trans zp5
  have yy_a1 := y1
  show jX m_X12_must 3 0 0 0 [(0, .ref 125), (1, .int a1)] [] _ 0 0 _
  unfold d_X12_must_r125d at D
  try rw [vrf zp0] at D
  try rw [vrf zp1] at D
  try rw [vrf zp2] at D
  try rw [vrf zp3] at D
  try rw [vrf zp4] at D
  try rw [vrf zp5] at D
  refine x_aloadn (x := 125) rfl rfl ?_
  refine z_getI (N := 92) 12 14 rfl f_12_214 rfl J rfl sg_125_14_15_1_0_1 (fun v1 qv1 ev1 => ?_)
  try rw [vrf qv1] at D
  refine x_ifne (tgt := 24) rfl rfl (ti_ne rfl jk_0 ⟨fun c2 => ?_, fun c2 => ?_⟩)
  ·
    rw [if_neg (by omega)] at D
    exact jX.sub (jsb_c rfl jsb_n) (ct_X12_must_r125d_24 yy_a1 hD hQ  p0 p3 v1 p1 p2 h (jr_of rfl (by omega)) (jr_of rfl (by omega)) (jr_of rfl (by omega)) (jr_of rfl (by omega)) (jr_of rfl (by omega)) ⟨fun z => z, rfl, Or.inl (by rw [qv1]; omega)⟩ (by omega) (by omega) zp0 zp3 qv1 zp1 zp2 J Sm D)
  ·
    rw [if_pos (by omega)] at D
    refine x_iloadn (x := a1) rfl rfl ?_
    refine x_ifne (tgt := 24) rfl rfl (ti_ne rfl jk_0 ⟨fun c3 => ?_, fun c3 => ?_⟩)
    ·
      rw [if_neg (by omega)] at D
      exact jX.sub (jsb_c rfl jsb_n) (ct_X12_must_r125d_24 yy_a1 hD hQ  p0 p3 v1 p1 p2 h (jr_of rfl (by omega)) (jr_of rfl (by omega)) (jr_of rfl (by omega)) (jr_of rfl (by omega)) (jr_of rfl (by omega)) ⟨fun z => z, rfl, Or.inr (by omega)⟩ (by omega) (by omega) zp0 zp3 qv1 zp1 zp2 J Sm D)
    ·
      rw [if_pos (by omega)] at D
      refine x_aloadn (x := 125) rfl rfl ?_
      refine x_iconst (v := 1) rfl ki_1 ?_
      refine z_putZ (N := 92) (w := 1) 12 14 rfl f_12_214 rfl (jfin_no TX12 RX12 92 rfl rfl) hD J Sm rfl rfl jk_1 (by omega) (pw_125_14 (by omega)) rfl (fun h w4 J Sm => ?_)
      rw [vwf w4 (show 1 = (1 : Int32).toInt from by have := jk_1; omega)] at D
      refine x_aloadn (x := 125) rfl rfl ?_
      refine x_aloadn (x := 125) rfl rfl ?_
      refine z_getM (N := 92) (v := p2) 12 9 rfl f_12_221 rfl J rfl (jmo w4 rfl zp2) ?_
      refine z_putI (N := 92) (w := p2.toInt) 12 13 rfl f_12_32 rfl (jfin_no TX12 RX12 92 rfl rfl) hD J Sm rfl rfl rfl (pw_125_13 (by omega)) rfl (fun h w5 J Sm => ?_)
      rw [vwf w5 (show p2.toInt = p2.toInt from by omega)] at D
      exact jX.sub (jsb_c rfl jsb_n) (ct_X12_must_r125d_24 yy_a1 hD hQ  p0 p3 1 p1 p2 h (jr_of rfl (by omega)) (jr_of rfl (by omega)) (jr_of jk_1 (by omega)) (jr_of rfl (by omega)) (jr_of rfl (by omega)) ⟨(fun _ => by rw [(jmo w5 rfl (jmw w4))]; decide), (jmo w5 rfl (jmo w4 rfl rfl)), Or.inl (by rw [(jmo w5 rfl (jmw w4))]; decide)⟩ (by omega) (by omega) (jmo w5 rfl (jmo w4 rfl zp0)) (jmo w5 rfl (jmo w4 rfl zp3)) (jmo w5 rfl (jmw w4)) (jmo w5 rfl (jmo w4 rfl zp1)) (jmo w5 rfl (jmo w4 rfl zp2)) J Sm D)
def fp_X12_choice_r125d : jFp := [(125, 9, 10), (125, 10, 11), (125, 11, 12), (125, 12, 13), (125, 13, 14), (125, 14, 15)]
set_option maxRecDepth 100000 in
set_option maxHeartbeats 4000000 in
theorem ct_X12_choice_r125d_200011 {Dy : jH → Prop} {h0 : jH} {Q : Option Value → jH → Prop} {dr : (Int × jW)} (hD : jDk Dy) (hQ : ∀ (v : Int32) hx9, (-1) ≤ v.toInt ∧ v.toInt ≤ 5 → jJ jSgM Dy hx9 → jSm fp_X12_choice_r125d h0 hx9 → ∀ u0 u1 u2 : Int32, jiv hx9 125 10 = u0 → jiv hx9 125 8 = u1 → jiv hx9 125 9 = u2 → (u0.toInt ≤ u1.toInt ∧ u2.toInt ≤ u0.toInt) → ∀ u3 u4 u5 : Int32, jiv hx9 125 11 = u3 → jiv hx9 125 9 = u4 → jiv hx9 125 10 = u5 → (u3.toInt = 0 ∨ u4.toInt + 1 ≤ u5.toInt) → jMo h0 hx9 → dr.1 = v.toInt → dr.2 = vw hx9 → Q (some (.int v)) hx9) : ∀ (l1 : Int32) (g0 : Int32) (g1 : Int32) (g2 : Int32) (g3 : Int32) (h : jH), (-1) ≤ l1.toInt ∧ l1.toInt ≤ (-1) → 0 ≤ g0.toInt ∧ g0.toInt ≤ 400 → 0 ≤ g1.toInt ∧ g1.toInt ≤ 3 → 0 ≤ g2.toInt ∧ g2.toInt ≤ 400 → 0 ≤ g3.toInt ∧ g3.toInt ≤ 400 → (jiv h 125 9 = jiv h0 125 9 ∧ jiv h 125 14 = jiv h0 125 14) → (g0.toInt ≤ g2.toInt ∧ g3.toInt ≤ g0.toInt) → (g1.toInt = 0 ∨ g3.toInt + 1 ≤ g0.toInt) → jiv h 125 10 = g0 → jiv h 125 11 = g1 → jiv h 125 8 = g2 → jiv h 125 9 = g3 → jJ jSgM Dy h → jSm fp_X12_choice_r125d h0 h → d_X12_choice_r125d_200011  l1.toInt (vw h) = dr → jX m_X12_choice 4 0 0 11 [(1, .int l1)] [.int 0, .ref 125] h 0 0 Q := by
  intro l1 g0 g1 g2 g3 h y0 y1 y2 y3 y4 C0 y6 y7 z0 z1 z2 z3  J Sm D
  unfold d_X12_choice_r125d_200011 at D
  try rw [vrf z0] at D
  try rw [vrf z1] at D
  try rw [vrf z2] at D
  try rw [vrf z3] at D
  refine x_inv (N := m_X12_must) (As := [.int 0]) (b := 125) (st := []) (dx9 := 3) (mc := 0) (ms := 0) (host := "") 12 rfl t_X12_must ⟨Or.inl q_12_250, i_X12_must.1, i_X12_must.2⟩ ⟨by decide, rfl⟩ (congrArg Prod.fst (J.1.1 125 (12, 92) rfl)) rfl (by decide) rfl rfl ⟨by decide, by decide⟩ (sf_X12_must_r125d (jr_of jk_0 (by omega)) hD J z0 z2 z3 (by omega) z1 z3 z0 (by omega) rfl  (fun h J S1 u2 u3 u4 qu2 qu3 qu4 ru2 u5 u6 u7 qu5 qu6 qu7 ru5 P8 X9 => ?_))
  have Sm := jSm_tr rfl Sm S1
  try rw [jk_0] at X9
  rw [X9] at D
  have eu2 := (show 0 ≤ u2.toInt ∧ u2.toInt ≤ 400 from qu2 ▸ jrg_f J sg_125_10_11_1_0_1)
  try rw [vrf qu2] at D
  have eu3 := (show 0 ≤ u3.toInt ∧ u3.toInt ≤ 400 from qu3 ▸ jrg_f J sg_125_8_9_1_0_1)
  try rw [vrf (jmb_c S1 qu3 rfl)] at D
  have eu4 := (show 0 ≤ u4.toInt ∧ u4.toInt ≤ 400 from qu4 ▸ jrg_f J sg_125_9_10_1_0_1)
  try rw [vrf qu4] at D
  have eu5 := (show 0 ≤ u5.toInt ∧ u5.toInt ≤ 3 from qu5 ▸ jrg_f J sg_125_11_12_1_0_1)
  try rw [vrf qu5] at D
  obtain rfl : u4 = u6 := qu4.symm.trans qu6
  obtain rfl : u2 = u7 := qu2.symm.trans qu7
  show jX m_X12_choice 4 0 0 14 [(1, .int l1)] [] _ 0 0 _
  refine x_iloadn (x := l1) rfl rfl ?_
  refine x_iret rfl rfl ?_
  exact hQ _ _ (jr_of rfl (by omega)) J Sm _ _ _ qu2 qu3 qu4 (by omega) _ _ _ qu5 qu4 qu2 (by omega) (mo_k C0 P8.1) ((congrArg Prod.fst D).symm.trans (show l1.toInt = l1.toInt from by omega)) (congrArg Prod.snd D).symm
set_option maxRecDepth 100000 in
set_option maxHeartbeats 4000000 in
theorem ct_X12_choice_r125d_300011 {Dy : jH → Prop} {h0 : jH} {Q : Option Value → jH → Prop} {dr : (Int × jW)} (hD : jDk Dy) (hQ : ∀ (v : Int32) hx9, (-1) ≤ v.toInt ∧ v.toInt ≤ 5 → jJ jSgM Dy hx9 → jSm fp_X12_choice_r125d h0 hx9 → ∀ u0 u1 u2 : Int32, jiv hx9 125 10 = u0 → jiv hx9 125 8 = u1 → jiv hx9 125 9 = u2 → (u0.toInt ≤ u1.toInt ∧ u2.toInt ≤ u0.toInt) → ∀ u3 u4 u5 : Int32, jiv hx9 125 11 = u3 → jiv hx9 125 9 = u4 → jiv hx9 125 10 = u5 → (u3.toInt = 0 ∨ u4.toInt + 1 ≤ u5.toInt) → jMo h0 hx9 → dr.1 = v.toInt → dr.2 = vw hx9 → Q (some (.int v)) hx9) : ∀ (l1 : Int32) (g0 : Int32) (g1 : Int32) (g2 : Int32) (g3 : Int32) (h : jH), 0 ≤ l1.toInt ∧ l1.toInt ≤ 5 → 0 ≤ g0.toInt ∧ g0.toInt ≤ 400 → 0 ≤ g1.toInt ∧ g1.toInt ≤ 3 → 0 ≤ g2.toInt ∧ g2.toInt ≤ 400 → 0 ≤ g3.toInt ∧ g3.toInt ≤ 400 → (jiv h 125 9 = jiv h0 125 9 ∧ jiv h 125 14 = jiv h0 125 14) → (g0.toInt ≤ g2.toInt ∧ g3.toInt ≤ g0.toInt) → (g1.toInt = 0 ∨ g3.toInt + 1 ≤ g0.toInt) → jiv h 125 10 = g0 → jiv h 125 11 = g1 → jiv h 125 8 = g2 → jiv h 125 9 = g3 → jJ jSgM Dy h → jSm fp_X12_choice_r125d h0 h → d_X12_choice_r125d_300011  l1.toInt (vw h) = dr → jX m_X12_choice 4 0 0 11 [(1, .int l1)] [.int 1, .ref 125] h 0 0 Q := by
  intro l1 g0 g1 g2 g3 h y0 y1 y2 y3 y4 C0 y6 y7 z0 z1 z2 z3  J Sm D
  unfold d_X12_choice_r125d_300011 at D
  try rw [vrf z0] at D
  try rw [vrf z1] at D
  try rw [vrf z2] at D
  try rw [vrf z3] at D
  refine x_inv (N := m_X12_must) (As := [.int 1]) (b := 125) (st := []) (dx9 := 3) (mc := 0) (ms := 0) (host := "") 12 rfl t_X12_must ⟨Or.inl q_12_250, i_X12_must.1, i_X12_must.2⟩ ⟨by decide, rfl⟩ (congrArg Prod.fst (J.1.1 125 (12, 92) rfl)) rfl (by decide) rfl rfl ⟨by decide, by decide⟩ (sf_X12_must_r125d (jr_of jk_1 (by omega)) hD J z0 z2 z3 (by omega) z1 z3 z0 (by omega) rfl  (fun h J S1 u2 u3 u4 qu2 qu3 qu4 ru2 u5 u6 u7 qu5 qu6 qu7 ru5 P8 X9 => ?_))
  have Sm := jSm_tr rfl Sm S1
  try rw [jk_1] at X9
  rw [X9] at D
  have eu2 := (show 0 ≤ u2.toInt ∧ u2.toInt ≤ 400 from qu2 ▸ jrg_f J sg_125_10_11_1_0_1)
  try rw [vrf qu2] at D
  have eu3 := (show 0 ≤ u3.toInt ∧ u3.toInt ≤ 400 from qu3 ▸ jrg_f J sg_125_8_9_1_0_1)
  try rw [vrf (jmb_c S1 qu3 rfl)] at D
  have eu4 := (show 0 ≤ u4.toInt ∧ u4.toInt ≤ 400 from qu4 ▸ jrg_f J sg_125_9_10_1_0_1)
  try rw [vrf qu4] at D
  have eu5 := (show 0 ≤ u5.toInt ∧ u5.toInt ≤ 3 from qu5 ▸ jrg_f J sg_125_11_12_1_0_1)
  try rw [vrf qu5] at D
  obtain rfl : u4 = u6 := qu4.symm.trans qu6
  obtain rfl : u2 = u7 := qu2.symm.trans qu7
  show jX m_X12_choice 4 0 0 14 [(1, .int l1)] [] _ 0 0 _
  refine x_iloadn (x := l1) rfl rfl ?_
  refine x_iret rfl rfl ?_
  exact hQ _ _ (jr_of rfl (by omega)) J Sm _ _ _ qu2 qu3 qu4 (by omega) _ _ _ qu5 qu4 qu2 (by omega) (mo_k C0 P8.1) ((congrArg Prod.fst D).symm.trans (show l1.toInt = l1.toInt from by omega)) (congrArg Prod.snd D).symm
set_option maxRecDepth 100000 in
set_option maxHeartbeats 4000000 in
theorem sf_X12_choice_r125d {Dy : jH → Prop} {h : jH} {Q : Option Value → jH → Prop} {dr : (Int × jW)} {a1 : Int32} (y1 : (-1) ≤ a1.toInt ∧ a1.toInt ≤ 5) (hD : jDk Dy) (J : jJ jSgM Dy h) {p0 p1 p2 : Int32} {p3 p4 p5 : Int32} (zp0 : jiv h 125 10 = p0) (zp1 : jiv h 125 8 = p1) (zp2 : jiv h 125 9 = p2) (rl_p0 : (p0.toInt ≤ p1.toInt ∧ p2.toInt ≤ p0.toInt)) (zp3 : jiv h 125 11 = p3) (zp4 : jiv h 125 9 = p4) (zp5 : jiv h 125 10 = p5) (rl_p3 : (p3.toInt = 0 ∨ p4.toInt + 1 ≤ p5.toInt)) (D : d_X12_choice_r125d a1.toInt (vw h) = dr) (hQ : ∀ (v : Int32) hx9, (-1) ≤ v.toInt ∧ v.toInt ≤ 5 → jJ jSgM Dy hx9 → jSm fp_X12_choice_r125d h hx9 → ∀ u0 u1 u2 : Int32, jiv hx9 125 10 = u0 → jiv hx9 125 8 = u1 → jiv hx9 125 9 = u2 → (u0.toInt ≤ u1.toInt ∧ u2.toInt ≤ u0.toInt) → ∀ u3 u4 u5 : Int32, jiv hx9 125 11 = u3 → jiv hx9 125 9 = u4 → jiv hx9 125 10 = u5 → (u3.toInt = 0 ∨ u4.toInt + 1 ≤ u5.toInt) → jMo h hx9 → dr.1 = v.toInt → dr.2 = vw hx9 → Q (some (.int v)) hx9) : jC m_X12_choice 4 0 0 [.ref 125, .int a1] h Q := by
  refine jC.of rfl k_X12_choice rfl ?_
  have Sm := jSm_rf fp_X12_choice_r125d h
  have ep0 := (show 0 ≤ p0.toInt ∧ p0.toInt ≤ 400 from zp0 ▸ jrg_f J sg_125_10_11_1_0_1)
  have ep1 := (show 0 ≤ p1.toInt ∧ p1.toInt ≤ 400 from zp1 ▸ jrg_f J sg_125_8_9_1_0_1)
  have ep2 := (show 0 ≤ p2.toInt ∧ p2.toInt ≤ 400 from zp2 ▸ jrg_f J sg_125_9_10_1_0_1)
  have ep3 := (show 0 ≤ p3.toInt ∧ p3.toInt ≤ 3 from zp3 ▸ jrg_f J sg_125_11_12_1_0_1)
  have ep4 := (show 0 ≤ p4.toInt ∧ p4.toInt ≤ 400 from zp4 ▸ jrg_f J sg_125_9_10_1_0_1)
  have ep5 := (show 0 ≤ p5.toInt ∧ p5.toInt ≤ 400 from zp5 ▸ jrg_f J sg_125_10_11_1_0_1)
  obtain rfl : p2 = p4 := zp2.symm.trans zp4
  obtain rfl : p0 = p5 := zp0.symm.trans zp5
  show jX m_X12_choice 4 0 0 0 [(0, .ref 125), (1, .int a1)] [] _ 0 0 _
  unfold d_X12_choice_r125d at D
  try rw [vrf zp0] at D
  try rw [vrf zp1] at D
  try rw [vrf zp2] at D
  try rw [vrf zp3] at D
  try rw [vrf zp4] at D
  try rw [vrf zp5] at D
  refine x_aloadn (x := 125) rfl rfl ?_
  refine x_iloadn (x := a1) rfl rfl ?_
  refine x_iconst (v := (-1)) rfl ki_m1 ?_
  refine x_iceq (tgt := 10) rfl rfl (ti_eq rfl jk_m1 ⟨fun c1 => ?_, fun c1 => ?_⟩)
  ·
    rw [if_pos (by omega)] at D
    refine x_iconst (v := 0) rfl ki_0 ?_
    exact jX.sub (jsb_c rfl jsb_n) (ct_X12_choice_r125d_200011 hD hQ  a1 p0 p3 p1 p2 h (jr_of rfl (by omega)) (jr_of rfl (by omega)) (jr_of rfl (by omega)) (jr_of rfl (by omega)) (jr_of rfl (by omega)) ⟨rfl, rfl⟩ (by omega) (by omega) zp0 zp3 zp1 zp2 J Sm D)
  ·
    rw [if_neg (by omega)] at D
    refine x_iconst (v := 1) rfl ki_1 ?_
    refine x_goto (tgt := 11) rfl rfl ?_
    exact jX.sub (jsb_c rfl jsb_n) (ct_X12_choice_r125d_300011 hD hQ  a1 p0 p3 p1 p2 h (jr_of rfl (by omega)) (jr_of rfl (by omega)) (jr_of rfl (by omega)) (jr_of rfl (by omega)) (jr_of rfl (by omega)) ⟨rfl, rfl⟩ (by omega) (by omega) zp0 zp3 zp1 zp2 J Sm D)
def fp_X12_feeAt_r125d : jFp := []
set_option maxRecDepth 100000 in
set_option maxHeartbeats 4000000 in
theorem ct_X12_feeAt_r125d_100043 {Dy : jH → Prop} {h0 : jH} {Q : Option Value → jH → Prop} {dr : Int} (hD : jDk Dy) (hQ : ∀ (v : Int32) hx9, (-1) ≤ v.toInt ∧ v.toInt ≤ 2 → jJ jSgM Dy hx9 → jSm fp_X12_feeAt_r125d h0 hx9 → dr = v.toInt → vw hx9 = vw h0 → Q (some (.int v)) hx9) : ∀ (h : jH), jJ jSgM Dy h → jSm fp_X12_feeAt_r125d h0 h → d_X12_feeAt_r125d_100043  (vw h) = dr → vw h = vw h0 → jX m_X12_feeAt 2 0 0 43 [] [.int (-1)] h 0 0 Q := by
  intro  h    J Sm D EV
  unfold d_X12_feeAt_r125d_100043 at D
  refine x_iret rfl rfl ?_
  exact hQ _ _ (jr_of jk_m1 (by omega)) J Sm (D.symm.trans (show (-1) = ((-1) : Int32).toInt from by have := jk_m1; omega)) EV
set_option maxRecDepth 100000 in
set_option maxHeartbeats 4000000 in
theorem ct_X12_feeAt_r125d_400043 {Dy : jH → Prop} {h0 : jH} {Q : Option Value → jH → Prop} {dr : Int} (hD : jDk Dy) (hQ : ∀ (v : Int32) hx9, (-1) ≤ v.toInt ∧ v.toInt ≤ 2 → jJ jSgM Dy hx9 → jSm fp_X12_feeAt_r125d h0 hx9 → dr = v.toInt → vw hx9 = vw h0 → Q (some (.int v)) hx9) : ∀ (h : jH), jJ jSgM Dy h → jSm fp_X12_feeAt_r125d h0 h → d_X12_feeAt_r125d_400043  (vw h) = dr → vw h = vw h0 → jX m_X12_feeAt 2 0 0 43 [] [.int 2] h 0 0 Q := by
  intro  h    J Sm D EV
  unfold d_X12_feeAt_r125d_400043 at D
  refine x_iret rfl rfl ?_
  exact hQ _ _ (jr_of jk_2 (by omega)) J Sm (D.symm.trans (show 2 = (2 : Int32).toInt from by have := jk_2; omega)) EV
set_option maxRecDepth 100000 in
set_option maxHeartbeats 4000000 in
theorem ct_X12_feeAt_r125d_300043 {Dy : jH → Prop} {h0 : jH} {Q : Option Value → jH → Prop} {dr : Int} (hD : jDk Dy) (hQ : ∀ (v : Int32) hx9, (-1) ≤ v.toInt ∧ v.toInt ≤ 2 → jJ jSgM Dy hx9 → jSm fp_X12_feeAt_r125d h0 hx9 → dr = v.toInt → vw hx9 = vw h0 → Q (some (.int v)) hx9) : ∀ (h : jH), jJ jSgM Dy h → jSm fp_X12_feeAt_r125d h0 h → d_X12_feeAt_r125d_300043  (vw h) = dr → vw h = vw h0 → jX m_X12_feeAt 2 0 0 43 [] [.int 1] h 0 0 Q := by
  intro  h    J Sm D EV
  unfold d_X12_feeAt_r125d_300043 at D
  refine x_iret rfl rfl ?_
  exact hQ _ _ (jr_of jk_1 (by omega)) J Sm (D.symm.trans (show 1 = (1 : Int32).toInt from by have := jk_1; omega)) EV
set_option maxRecDepth 100000 in
set_option maxHeartbeats 4000000 in
theorem ct_X12_feeAt_r125d_200043 {Dy : jH → Prop} {h0 : jH} {Q : Option Value → jH → Prop} {dr : Int} (hD : jDk Dy) (hQ : ∀ (v : Int32) hx9, (-1) ≤ v.toInt ∧ v.toInt ≤ 2 → jJ jSgM Dy hx9 → jSm fp_X12_feeAt_r125d h0 hx9 → dr = v.toInt → vw hx9 = vw h0 → Q (some (.int v)) hx9) : ∀ (h : jH), jJ jSgM Dy h → jSm fp_X12_feeAt_r125d h0 h → d_X12_feeAt_r125d_200043  (vw h) = dr → vw h = vw h0 → jX m_X12_feeAt 2 0 0 43 [] [.int 0] h 0 0 Q := by
  intro  h    J Sm D EV
  unfold d_X12_feeAt_r125d_200043 at D
  refine x_iret rfl rfl ?_
  exact hQ _ _ (jr_of jk_0 (by omega)) J Sm (D.symm.trans (show 0 = (0 : Int32).toInt from by have := jk_0; omega)) EV
set_option maxRecDepth 100000 in
set_option maxHeartbeats 4000000 in
theorem sf_X12_feeAt_r125d {Dy : jH → Prop} {h : jH} {Q : Option Value → jH → Prop} {dr : Int} (hD : jDk Dy) (J : jJ jSgM Dy h) (D : d_X12_feeAt_r125d (vw h) = dr) (hQ : ∀ (v : Int32) hx9, (-1) ≤ v.toInt ∧ v.toInt ≤ 2 → jJ jSgM Dy hx9 → jSm fp_X12_feeAt_r125d h hx9 → dr = v.toInt → vw hx9 = vw h → Q (some (.int v)) hx9) : jC m_X12_feeAt 2 0 0 [.ref 125] h Q := by
  refine jC.of rfl k_X12_feeAt rfl ?_
  have Sm := jSm_rf fp_X12_feeAt_r125d h
  show jX m_X12_feeAt 2 0 0 0 [(0, .ref 125)] [] _ 0 0 _
  unfold d_X12_feeAt_r125d at D
  have EV : vw h = vw h := rfl
  refine x_aloadn (x := 125) rfl rfl ?_
  refine x_ldc2 (v := 71052) rfl z_12_609 ?_
  refine x_inv (N := m_X12_isWord) (As := [.long 71052]) (b := 125) (st := []) (dx9 := 1) (mc := 0) (ms := 0) (host := "") 12 rfl t_X12_isWord ⟨Or.inl q_12_511, i_X12_isWord.1, i_X12_isWord.2⟩ ⟨by decide, rfl⟩ (congrArg Prod.fst (J.1.1 125 (12, 92) rfl)) rfl (by decide) rfl rfl ⟨by decide, by decide⟩ (jC.of rfl k_X12_isWord rfl ?_)
  show jX m_X12_isWord 1 0 0 0 [(0, .ref 125), (1, .long 71052)] [] _ 0 0 _
  refine x_aloadn (x := 125) rfl rfl ?_
  refine z_getI (N := 92) 12 11 rfl f_12_235 rfl J rfl sg_125_11_12_1_0_1 (fun v1 qv1 ev1 => ?_)
  try rw [vrf qv1] at D
  refine x_iconst (v := 1) rfl ki_1 ?_
  refine x_icne (tgt := 21) rfl rfl (ti_ne rfl jk_1 ⟨fun c2 => ?_, fun c2 => ?_⟩)
  ·
    rw [if_neg (by omega)] at D
    refine x_iconst (v := 0) rfl ki_0 ?_
    refine x_zret rfl rfl (by decide) ?_
    show jX m_X12_feeAt 2 0 0 7 [(0, .ref 125)] [.int 0] _ 0 0 _
    refine x_ifeq (tgt := 14) rfl rfl (ti_eq jk_0 jk_0 (br_t (by omega) ?_))
    refine x_aloadn (x := 125) rfl rfl ?_
    refine x_ldc2 (v := 7931589) rfl z_12_611 ?_
    refine x_inv (N := m_X12_isWord) (As := [.long 7931589]) (b := 125) (st := []) (dx9 := 1) (mc := 0) (ms := 0) (host := "") 12 rfl t_X12_isWord ⟨Or.inl q_12_511, i_X12_isWord.1, i_X12_isWord.2⟩ ⟨by decide, rfl⟩ (congrArg Prod.fst (J.1.1 125 (12, 92) rfl)) rfl (by decide) rfl rfl ⟨by decide, by decide⟩ (jC.of rfl k_X12_isWord rfl ?_)
    show jX m_X12_isWord 1 0 0 0 [(0, .ref 125), (1, .long 7931589)] [] _ 0 0 _
    refine x_aloadn (x := 125) rfl rfl ?_
    refine z_getM (N := 92) (v := v1) 12 11 rfl f_12_235 rfl J rfl qv1 ?_
    refine x_iconst (v := 1) rfl ki_1 ?_
    refine x_icne (tgt := 21) rfl rfl (ti_ne rfl jk_1 ⟨fun c3 => ?_, fun c3 => ?_⟩)
    ·
      rw [if_neg (by omega)] at D
      refine x_iconst (v := 0) rfl ki_0 ?_
      refine x_zret rfl rfl (by decide) ?_
      show jX m_X12_feeAt 2 0 0 21 [(0, .ref 125)] [.int 0] _ 0 0 _
      refine x_ifeq (tgt := 28) rfl rfl (ti_eq jk_0 jk_0 (br_t (by omega) ?_))
      refine x_aloadn (x := 125) rfl rfl ?_
      refine x_ldc2 (v := 24868169159) rfl z_12_613 ?_
      refine x_inv (N := m_X12_isWord) (As := [.long 24868169159]) (b := 125) (st := []) (dx9 := 1) (mc := 0) (ms := 0) (host := "") 12 rfl t_X12_isWord ⟨Or.inl q_12_511, i_X12_isWord.1, i_X12_isWord.2⟩ ⟨by decide, rfl⟩ (congrArg Prod.fst (J.1.1 125 (12, 92) rfl)) rfl (by decide) rfl rfl ⟨by decide, by decide⟩ (jC.of rfl k_X12_isWord rfl ?_)
      show jX m_X12_isWord 1 0 0 0 [(0, .ref 125), (1, .long 24868169159)] [] _ 0 0 _
      refine x_aloadn (x := 125) rfl rfl ?_
      refine z_getM (N := 92) (v := v1) 12 11 rfl f_12_235 rfl J rfl qv1 ?_
      refine x_iconst (v := 1) rfl ki_1 ?_
      refine x_icne (tgt := 21) rfl rfl (ti_ne rfl jk_1 ⟨fun c4 => ?_, fun c4 => ?_⟩)
      ·
        rw [if_neg (by omega)] at D
        refine x_iconst (v := 0) rfl ki_0 ?_
        refine x_zret rfl rfl (by decide) ?_
        show jX m_X12_feeAt 2 0 0 35 [(0, .ref 125)] [.int 0] _ 0 0 _
        refine x_ifeq (tgt := 42) rfl rfl (ti_eq jk_0 jk_0 (br_t (by omega) ?_))
        refine x_iconst (v := (-1)) rfl ki_m1 ?_
        exact jX.sub jsb_n (ct_X12_feeAt_r125d_100043 hD hQ  h J Sm D EV)
      ·
        rw [if_pos (by omega)] at D
        refine x_aloadn (x := 125) rfl rfl ?_
        refine z_getLQ (N := 92) 12 12 rfl f_12_224 rfl J rfl (fun v5 qv5 => ?_)
        have ev5 := jfullL v5
        try rw [vrfL qv5] at D
        refine x_lloadn (x := 24868169159) rfl rfl ?_
        refine z_lcmp rfl rfl jkl_24868169159 (fun v6 ev6 => ?_)
        refine x_ifne (tgt := 21) rfl rfl (ti_ne rfl jk_0 ⟨fun c7 => ?_, fun c7 => ?_⟩)
        ·
          rw [if_neg (by omega)] at D
          refine x_iconst (v := 0) rfl ki_0 ?_
          refine x_zret rfl rfl (by decide) ?_
          show jX m_X12_feeAt 2 0 0 35 [(0, .ref 125)] [.int 0] _ 0 0 _
          refine x_ifeq (tgt := 42) rfl rfl (ti_eq jk_0 jk_0 (br_t (by omega) ?_))
          refine x_iconst (v := (-1)) rfl ki_m1 ?_
          exact jX.sub jsb_n (ct_X12_feeAt_r125d_100043 hD hQ  h J Sm D EV)
        ·
          rw [if_pos (by omega)] at D
          refine x_iconst (v := 1) rfl ki_1 ?_
          refine x_goto (tgt := 22) rfl rfl ?_
          refine x_zret rfl rfl (by decide) ?_
          show jX m_X12_feeAt 2 0 0 35 [(0, .ref 125)] [.int 1] _ 0 0 _
          refine x_ifeq (tgt := 42) rfl rfl (ti_eq jk_1 jk_0 (br_f (by omega) ?_))
          refine x_iconst (v := 2) rfl ki_2 ?_
          refine x_goto (tgt := 43) rfl rfl ?_
          exact jX.sub jsb_n (ct_X12_feeAt_r125d_400043 hD hQ  h J Sm D EV)
    ·
      rw [if_pos (by omega)] at D
      refine x_aloadn (x := 125) rfl rfl ?_
      refine z_getLQ (N := 92) 12 12 rfl f_12_224 rfl J rfl (fun v8 qv8 => ?_)
      have ev8 := jfullL v8
      try rw [vrfL qv8] at D
      refine x_lloadn (x := 7931589) rfl rfl ?_
      refine z_lcmp rfl rfl jkl_7931589 (fun v9 ev9 => ?_)
      refine x_ifne (tgt := 21) rfl rfl (ti_ne rfl jk_0 ⟨fun c10 => ?_, fun c10 => ?_⟩)
      ·
        rw [if_neg (by omega)] at D
        refine x_iconst (v := 0) rfl ki_0 ?_
        refine x_zret rfl rfl (by decide) ?_
        show jX m_X12_feeAt 2 0 0 21 [(0, .ref 125)] [.int 0] _ 0 0 _
        refine x_ifeq (tgt := 28) rfl rfl (ti_eq jk_0 jk_0 (br_t (by omega) ?_))
        refine x_aloadn (x := 125) rfl rfl ?_
        refine x_ldc2 (v := 24868169159) rfl z_12_613 ?_
        refine x_inv (N := m_X12_isWord) (As := [.long 24868169159]) (b := 125) (st := []) (dx9 := 1) (mc := 0) (ms := 0) (host := "") 12 rfl t_X12_isWord ⟨Or.inl q_12_511, i_X12_isWord.1, i_X12_isWord.2⟩ ⟨by decide, rfl⟩ (congrArg Prod.fst (J.1.1 125 (12, 92) rfl)) rfl (by decide) rfl rfl ⟨by decide, by decide⟩ (jC.of rfl k_X12_isWord rfl ?_)
        show jX m_X12_isWord 1 0 0 0 [(0, .ref 125), (1, .long 24868169159)] [] _ 0 0 _
        refine x_aloadn (x := 125) rfl rfl ?_
        refine z_getM (N := 92) (v := v1) 12 11 rfl f_12_235 rfl J rfl qv1 ?_
        refine x_iconst (v := 1) rfl ki_1 ?_
        refine x_icne (tgt := 21) rfl rfl (ti_ne rfl jk_1 (bn_f (by omega) ?_))
        refine x_aloadn (x := 125) rfl rfl ?_
        refine z_getLQ (N := 92) 12 12 rfl f_12_224 rfl J rfl (fun v11 qv11 => ?_)
        have ev11 := jfullL v11
        try have kqv11 : v8.toInt = v11.toInt := ((vrfL qv8).symm.trans (vrfL qv11))
        try rw [kqv11] at D
        try rw [vrfL qv11] at D
        refine x_lloadn (x := 24868169159) rfl rfl ?_
        refine z_lcmp rfl rfl jkl_24868169159 (fun v12 ev12 => ?_)
        refine x_ifne (tgt := 21) rfl rfl (ti_ne rfl jk_0 ⟨fun c13 => ?_, fun c13 => ?_⟩)
        ·
          rw [if_neg (by omega)] at D
          refine x_iconst (v := 0) rfl ki_0 ?_
          refine x_zret rfl rfl (by decide) ?_
          show jX m_X12_feeAt 2 0 0 35 [(0, .ref 125)] [.int 0] _ 0 0 _
          refine x_ifeq (tgt := 42) rfl rfl (ti_eq jk_0 jk_0 (br_t (by omega) ?_))
          refine x_iconst (v := (-1)) rfl ki_m1 ?_
          exact jX.sub jsb_n (ct_X12_feeAt_r125d_100043 hD hQ  h J Sm D EV)
        ·
          rw [if_pos (by omega)] at D
          refine x_iconst (v := 1) rfl ki_1 ?_
          refine x_goto (tgt := 22) rfl rfl ?_
          refine x_zret rfl rfl (by decide) ?_
          show jX m_X12_feeAt 2 0 0 35 [(0, .ref 125)] [.int 1] _ 0 0 _
          refine x_ifeq (tgt := 42) rfl rfl (ti_eq jk_1 jk_0 (br_f (by omega) ?_))
          refine x_iconst (v := 2) rfl ki_2 ?_
          refine x_goto (tgt := 43) rfl rfl ?_
          exact jX.sub jsb_n (ct_X12_feeAt_r125d_400043 hD hQ  h J Sm D EV)
      ·
        rw [if_pos (by omega)] at D
        refine x_iconst (v := 1) rfl ki_1 ?_
        refine x_goto (tgt := 22) rfl rfl ?_
        refine x_zret rfl rfl (by decide) ?_
        show jX m_X12_feeAt 2 0 0 21 [(0, .ref 125)] [.int 1] _ 0 0 _
        refine x_ifeq (tgt := 28) rfl rfl (ti_eq jk_1 jk_0 (br_f (by omega) ?_))
        refine x_iconst (v := 1) rfl ki_1 ?_
        refine x_goto (tgt := 43) rfl rfl ?_
        exact jX.sub jsb_n (ct_X12_feeAt_r125d_300043 hD hQ  h J Sm D EV)
  ·
    rw [if_pos (by omega)] at D
    refine x_aloadn (x := 125) rfl rfl ?_
    refine z_getLQ (N := 92) 12 12 rfl f_12_224 rfl J rfl (fun v14 qv14 => ?_)
    have ev14 := jfullL v14
    try rw [vrfL qv14] at D
    refine x_lloadn (x := 71052) rfl rfl ?_
    refine z_lcmp rfl rfl jkl_71052 (fun v15 ev15 => ?_)
    refine x_ifne (tgt := 21) rfl rfl (ti_ne rfl jk_0 ⟨fun c16 => ?_, fun c16 => ?_⟩)
    ·
      rw [if_neg (by omega)] at D
      refine x_iconst (v := 0) rfl ki_0 ?_
      refine x_zret rfl rfl (by decide) ?_
      show jX m_X12_feeAt 2 0 0 7 [(0, .ref 125)] [.int 0] _ 0 0 _
      refine x_ifeq (tgt := 14) rfl rfl (ti_eq jk_0 jk_0 (br_t (by omega) ?_))
      refine x_aloadn (x := 125) rfl rfl ?_
      refine x_ldc2 (v := 7931589) rfl z_12_611 ?_
      refine x_inv (N := m_X12_isWord) (As := [.long 7931589]) (b := 125) (st := []) (dx9 := 1) (mc := 0) (ms := 0) (host := "") 12 rfl t_X12_isWord ⟨Or.inl q_12_511, i_X12_isWord.1, i_X12_isWord.2⟩ ⟨by decide, rfl⟩ (congrArg Prod.fst (J.1.1 125 (12, 92) rfl)) rfl (by decide) rfl rfl ⟨by decide, by decide⟩ (jC.of rfl k_X12_isWord rfl ?_)
      show jX m_X12_isWord 1 0 0 0 [(0, .ref 125), (1, .long 7931589)] [] _ 0 0 _
      refine x_aloadn (x := 125) rfl rfl ?_
      refine z_getM (N := 92) (v := v1) 12 11 rfl f_12_235 rfl J rfl qv1 ?_
      refine x_iconst (v := 1) rfl ki_1 ?_
      refine x_icne (tgt := 21) rfl rfl (ti_ne rfl jk_1 (bn_f (by omega) ?_))
      refine x_aloadn (x := 125) rfl rfl ?_
      refine z_getLQ (N := 92) 12 12 rfl f_12_224 rfl J rfl (fun v17 qv17 => ?_)
      have ev17 := jfullL v17
      try have kqv17 : v14.toInt = v17.toInt := ((vrfL qv14).symm.trans (vrfL qv17))
      try rw [kqv17] at D
      try rw [vrfL qv17] at D
      refine x_lloadn (x := 7931589) rfl rfl ?_
      refine z_lcmp rfl rfl jkl_7931589 (fun v18 ev18 => ?_)
      refine x_ifne (tgt := 21) rfl rfl (ti_ne rfl jk_0 ⟨fun c19 => ?_, fun c19 => ?_⟩)
      ·
        rw [if_neg (by omega)] at D
        refine x_iconst (v := 0) rfl ki_0 ?_
        refine x_zret rfl rfl (by decide) ?_
        show jX m_X12_feeAt 2 0 0 21 [(0, .ref 125)] [.int 0] _ 0 0 _
        refine x_ifeq (tgt := 28) rfl rfl (ti_eq jk_0 jk_0 (br_t (by omega) ?_))
        refine x_aloadn (x := 125) rfl rfl ?_
        refine x_ldc2 (v := 24868169159) rfl z_12_613 ?_
        refine x_inv (N := m_X12_isWord) (As := [.long 24868169159]) (b := 125) (st := []) (dx9 := 1) (mc := 0) (ms := 0) (host := "") 12 rfl t_X12_isWord ⟨Or.inl q_12_511, i_X12_isWord.1, i_X12_isWord.2⟩ ⟨by decide, rfl⟩ (congrArg Prod.fst (J.1.1 125 (12, 92) rfl)) rfl (by decide) rfl rfl ⟨by decide, by decide⟩ (jC.of rfl k_X12_isWord rfl ?_)
        show jX m_X12_isWord 1 0 0 0 [(0, .ref 125), (1, .long 24868169159)] [] _ 0 0 _
        refine x_aloadn (x := 125) rfl rfl ?_
        refine z_getM (N := 92) (v := v1) 12 11 rfl f_12_235 rfl J rfl qv1 ?_
        refine x_iconst (v := 1) rfl ki_1 ?_
        refine x_icne (tgt := 21) rfl rfl (ti_ne rfl jk_1 (bn_f (by omega) ?_))
        refine x_aloadn (x := 125) rfl rfl ?_
        refine z_getLQ (N := 92) 12 12 rfl f_12_224 rfl J rfl (fun v20 qv20 => ?_)
        have ev20 := jfullL v20
        try have kqv20 : v17.toInt = v20.toInt := ((vrfL qv17).symm.trans (vrfL qv20))
        try rw [kqv20] at D
        try rw [vrfL qv20] at D
        refine x_lloadn (x := 24868169159) rfl rfl ?_
        refine z_lcmp rfl rfl jkl_24868169159 (fun v21 ev21 => ?_)
        refine x_ifne (tgt := 21) rfl rfl (ti_ne rfl jk_0 ⟨fun c22 => ?_, fun c22 => ?_⟩)
        ·
          rw [if_neg (by omega)] at D
          refine x_iconst (v := 0) rfl ki_0 ?_
          refine x_zret rfl rfl (by decide) ?_
          show jX m_X12_feeAt 2 0 0 35 [(0, .ref 125)] [.int 0] _ 0 0 _
          refine x_ifeq (tgt := 42) rfl rfl (ti_eq jk_0 jk_0 (br_t (by omega) ?_))
          refine x_iconst (v := (-1)) rfl ki_m1 ?_
          exact jX.sub jsb_n (ct_X12_feeAt_r125d_100043 hD hQ  h J Sm D EV)
        ·
          rw [if_pos (by omega)] at D
          refine x_iconst (v := 1) rfl ki_1 ?_
          refine x_goto (tgt := 22) rfl rfl ?_
          refine x_zret rfl rfl (by decide) ?_
          show jX m_X12_feeAt 2 0 0 35 [(0, .ref 125)] [.int 1] _ 0 0 _
          refine x_ifeq (tgt := 42) rfl rfl (ti_eq jk_1 jk_0 (br_f (by omega) ?_))
          refine x_iconst (v := 2) rfl ki_2 ?_
          refine x_goto (tgt := 43) rfl rfl ?_
          exact jX.sub jsb_n (ct_X12_feeAt_r125d_400043 hD hQ  h J Sm D EV)
      ·
        rw [if_pos (by omega)] at D
        refine x_iconst (v := 1) rfl ki_1 ?_
        refine x_goto (tgt := 22) rfl rfl ?_
        refine x_zret rfl rfl (by decide) ?_
        show jX m_X12_feeAt 2 0 0 21 [(0, .ref 125)] [.int 1] _ 0 0 _
        refine x_ifeq (tgt := 28) rfl rfl (ti_eq jk_1 jk_0 (br_f (by omega) ?_))
        refine x_iconst (v := 1) rfl ki_1 ?_
        refine x_goto (tgt := 43) rfl rfl ?_
        exact jX.sub jsb_n (ct_X12_feeAt_r125d_300043 hD hQ  h J Sm D EV)
    ·
      rw [if_pos (by omega)] at D
      refine x_iconst (v := 1) rfl ki_1 ?_
      refine x_goto (tgt := 22) rfl rfl ?_
      refine x_zret rfl rfl (by decide) ?_
      show jX m_X12_feeAt 2 0 0 7 [(0, .ref 125)] [.int 1] _ 0 0 _
      refine x_ifeq (tgt := 14) rfl rfl (ti_eq jk_1 jk_0 (br_f (by omega) ?_))
      refine x_iconst (v := 0) rfl ki_0 ?_
      refine x_goto (tgt := 43) rfl rfl ?_
      exact jX.sub jsb_n (ct_X12_feeAt_r125d_200043 hD hQ  h J Sm D EV)
def fp_X12_groundAt_r125d : jFp := []
set_option maxRecDepth 100000 in
set_option maxHeartbeats 4000000 in
theorem ct_X12_groundAt_r125d_400059 {Dy : jH → Prop} {h0 : jH} {Q : Option Value → jH → Prop} {dr : Int} (hD : jDk Dy) (hQ : ∀ (v : Int32) hx9, (-1) ≤ v.toInt ∧ v.toInt ≤ 5 → jJ jSgM Dy hx9 → jSm fp_X12_groundAt_r125d h0 hx9 → dr = v.toInt → vw hx9 = vw h0 → Q (some (.int v)) hx9) : ∀ (h : jH), jJ jSgM Dy h → jSm fp_X12_groundAt_r125d h0 h → d_X12_groundAt_r125d_400059  (vw h) = dr → vw h = vw h0 → jX m_X12_groundAt 2 0 0 59 [] [.int 2] h 0 0 Q := by
  intro  h    J Sm D EV
  unfold d_X12_groundAt_r125d_400059 at D
  refine x_iret rfl rfl ?_
  exact hQ _ _ (jr_of jk_2 (by omega)) J Sm (D.symm.trans (show 2 = (2 : Int32).toInt from by have := jk_2; omega)) EV
set_option maxRecDepth 100000 in
set_option maxHeartbeats 4000000 in
theorem ct_X12_groundAt_r125d_300059 {Dy : jH → Prop} {h0 : jH} {Q : Option Value → jH → Prop} {dr : Int} (hD : jDk Dy) (hQ : ∀ (v : Int32) hx9, (-1) ≤ v.toInt ∧ v.toInt ≤ 5 → jJ jSgM Dy hx9 → jSm fp_X12_groundAt_r125d h0 hx9 → dr = v.toInt → vw hx9 = vw h0 → Q (some (.int v)) hx9) : ∀ (h : jH), jJ jSgM Dy h → jSm fp_X12_groundAt_r125d h0 h → d_X12_groundAt_r125d_300059  (vw h) = dr → vw h = vw h0 → jX m_X12_groundAt 2 0 0 59 [] [.int 1] h 0 0 Q := by
  intro  h    J Sm D EV
  unfold d_X12_groundAt_r125d_300059 at D
  refine x_iret rfl rfl ?_
  exact hQ _ _ (jr_of jk_1 (by omega)) J Sm (D.symm.trans (show 1 = (1 : Int32).toInt from by have := jk_1; omega)) EV
set_option maxRecDepth 100000 in
set_option maxHeartbeats 4000000 in
theorem ct_X12_groundAt_r125d_200059 {Dy : jH → Prop} {h0 : jH} {Q : Option Value → jH → Prop} {dr : Int} (hD : jDk Dy) (hQ : ∀ (v : Int32) hx9, (-1) ≤ v.toInt ∧ v.toInt ≤ 5 → jJ jSgM Dy hx9 → jSm fp_X12_groundAt_r125d h0 hx9 → dr = v.toInt → vw hx9 = vw h0 → Q (some (.int v)) hx9) : ∀ (h : jH), jJ jSgM Dy h → jSm fp_X12_groundAt_r125d h0 h → d_X12_groundAt_r125d_200059  (vw h) = dr → vw h = vw h0 → jX m_X12_groundAt 2 0 0 59 [] [.int 0] h 0 0 Q := by
  intro  h    J Sm D EV
  unfold d_X12_groundAt_r125d_200059 at D
  refine x_iret rfl rfl ?_
  exact hQ _ _ (jr_of jk_0 (by omega)) J Sm (D.symm.trans (show 0 = (0 : Int32).toInt from by have := jk_0; omega)) EV
set_option maxRecDepth 100000 in
set_option maxHeartbeats 4000000 in
theorem ct_X12_groundAt_r125d_30 {Dy : jH → Prop} {h0 : jH} {Q : Option Value → jH → Prop} {dr : Int} (hD : jDk Dy) (hQ : ∀ (v : Int32) hx9, (-1) ≤ v.toInt ∧ v.toInt ≤ 5 → jJ jSgM Dy hx9 → jSm fp_X12_groundAt_r125d h0 hx9 → dr = v.toInt → vw hx9 = vw h0 → Q (some (.int v)) hx9) : ∀ (g0 : Int32) (h : jH), 1 ≤ g0.toInt ∧ g0.toInt ≤ 1 → jiv h 125 11 = g0 → jJ jSgM Dy h → jSm fp_X12_groundAt_r125d h0 h → d_X12_groundAt_r125d_30  (vw h) = dr → vw h = vw h0 → jX m_X12_groundAt 2 0 0 30 [(0, .ref 125)] [] h 0 0 Q := by
  intro g0 h y0 z0  J Sm D EV
  unfold d_X12_groundAt_r125d_30 at D
  try rw [vrf z0] at D
  refine x_aloadn (x := 125) rfl rfl ?_
  refine x_ldc2 (v := 2411144) rfl z_12_585 ?_
  refine x_inv (N := m_X12_isWord) (As := [.long 2411144]) (b := 125) (st := []) (dx9 := 1) (mc := 0) (ms := 0) (host := "") 12 rfl t_X12_isWord ⟨Or.inl q_12_511, i_X12_isWord.1, i_X12_isWord.2⟩ ⟨by decide, rfl⟩ (congrArg Prod.fst (J.1.1 125 (12, 92) rfl)) rfl (by decide) rfl rfl ⟨by decide, by decide⟩ (jC.of rfl k_X12_isWord rfl ?_)
  show jX m_X12_isWord 1 0 0 0 [(0, .ref 125), (1, .long 2411144)] [] _ 0 0 _
  refine x_aloadn (x := 125) rfl rfl ?_
  refine z_getM (N := 92) (v := g0) 12 11 rfl f_12_235 rfl J rfl z0 ?_
  refine x_iconst (v := 1) rfl ki_1 ?_
  refine x_icne (tgt := 21) rfl rfl (ti_ne rfl jk_1 (bn_f (by omega) ?_))
  refine x_aloadn (x := 125) rfl rfl ?_
  refine z_getLQ (N := 92) 12 12 rfl f_12_224 rfl J rfl (fun v1 qv1 => ?_)
  have ev1 := jfullL v1
  try rw [vrfL qv1] at D
  refine x_lloadn (x := 2411144) rfl rfl ?_
  refine z_lcmp rfl rfl jkl_2411144 (fun v2 ev2 => ?_)
  refine x_ifne (tgt := 21) rfl rfl (ti_ne rfl jk_0 ⟨fun c3 => ?_, fun c3 => ?_⟩)
  ·
    rw [if_neg (by omega)] at D
    refine x_iconst (v := 0) rfl ki_0 ?_
    refine x_zret rfl rfl (by decide) ?_
    show jX m_X12_groundAt 2 0 0 37 [(0, .ref 125)] [.int 0] _ 0 0 _
    refine x_ifeq (tgt := 44) rfl rfl (ti_eq jk_0 jk_0 (br_t (by omega) ?_))
    refine x_aloadn (x := 125) rfl rfl ?_
    refine x_ldc2 (v := 271941) rfl z_12_587 ?_
    refine x_inv (N := m_X12_isWord) (As := [.long 271941]) (b := 125) (st := []) (dx9 := 1) (mc := 0) (ms := 0) (host := "") 12 rfl t_X12_isWord ⟨Or.inl q_12_511, i_X12_isWord.1, i_X12_isWord.2⟩ ⟨by decide, rfl⟩ (congrArg Prod.fst (J.1.1 125 (12, 92) rfl)) rfl (by decide) rfl rfl ⟨by decide, by decide⟩ (jC.of rfl k_X12_isWord rfl ?_)
    show jX m_X12_isWord 1 0 0 0 [(0, .ref 125), (1, .long 271941)] [] _ 0 0 _
    refine x_aloadn (x := 125) rfl rfl ?_
    refine z_getM (N := 92) (v := g0) 12 11 rfl f_12_235 rfl J rfl z0 ?_
    refine x_iconst (v := 1) rfl ki_1 ?_
    refine x_icne (tgt := 21) rfl rfl (ti_ne rfl jk_1 (bn_f (by omega) ?_))
    refine x_aloadn (x := 125) rfl rfl ?_
    refine z_getLQ (N := 92) 12 12 rfl f_12_224 rfl J rfl (fun v4 qv4 => ?_)
    have ev4 := jfullL v4
    try have kqv4 : v1.toInt = v4.toInt := ((vrfL qv1).symm.trans (vrfL qv4))
    try rw [kqv4] at D
    try rw [vrfL qv4] at D
    refine x_lloadn (x := 271941) rfl rfl ?_
    refine z_lcmp rfl rfl jkl_271941 (fun v5 ev5 => ?_)
    refine x_ifne (tgt := 21) rfl rfl (ti_ne rfl jk_0 ⟨fun c6 => ?_, fun c6 => ?_⟩)
    ·
      rw [if_neg (by omega)] at D
      refine x_iconst (v := 0) rfl ki_0 ?_
      refine x_zret rfl rfl (by decide) ?_
      show jX m_X12_groundAt 2 0 0 51 [(0, .ref 125)] [.int 0] _ 0 0 _
      refine x_ifeq (tgt := 58) rfl rfl (ti_eq jk_0 jk_0 (br_t (by omega) ?_))
      refine x_iconst (v := 2) rfl ki_2 ?_
      exact jX.sub jsb_n (ct_X12_groundAt_r125d_400059 hD hQ  h J Sm D EV)
    ·
      rw [if_pos (by omega)] at D
      refine x_iconst (v := 1) rfl ki_1 ?_
      refine x_goto (tgt := 22) rfl rfl ?_
      refine x_zret rfl rfl (by decide) ?_
      show jX m_X12_groundAt 2 0 0 51 [(0, .ref 125)] [.int 1] _ 0 0 _
      refine x_ifeq (tgt := 58) rfl rfl (ti_eq jk_1 jk_0 (br_f (by omega) ?_))
      refine x_iconst (v := 1) rfl ki_1 ?_
      refine x_goto (tgt := 59) rfl rfl ?_
      exact jX.sub jsb_n (ct_X12_groundAt_r125d_300059 hD hQ  h J Sm D EV)
  ·
    rw [if_pos (by omega)] at D
    refine x_iconst (v := 1) rfl ki_1 ?_
    refine x_goto (tgt := 22) rfl rfl ?_
    refine x_zret rfl rfl (by decide) ?_
    show jX m_X12_groundAt 2 0 0 37 [(0, .ref 125)] [.int 1] _ 0 0 _
    refine x_ifeq (tgt := 44) rfl rfl (ti_eq jk_1 jk_0 (br_f (by omega) ?_))
    refine x_iconst (v := 0) rfl ki_0 ?_
    refine x_goto (tgt := 59) rfl rfl ?_
    exact jX.sub jsb_n (ct_X12_groundAt_r125d_200059 hD hQ  h J Sm D EV)
set_option maxRecDepth 100000 in
set_option maxHeartbeats 4000000 in
theorem ct_X12_groundAt_r125d_100103 {Dy : jH → Prop} {h0 : jH} {Q : Option Value → jH → Prop} {dr : Int} (hD : jDk Dy) (hQ : ∀ (v : Int32) hx9, (-1) ≤ v.toInt ∧ v.toInt ≤ 5 → jJ jSgM Dy hx9 → jSm fp_X12_groundAt_r125d h0 hx9 → dr = v.toInt → vw hx9 = vw h0 → Q (some (.int v)) hx9) : ∀ (h : jH), jJ jSgM Dy h → jSm fp_X12_groundAt_r125d h0 h → d_X12_groundAt_r125d_100103  (vw h) = dr → vw h = vw h0 → jX m_X12_groundAt 2 0 0 103 [] [.int (-1)] h 0 0 Q := by
  intro  h    J Sm D EV
  unfold d_X12_groundAt_r125d_100103 at D
  refine x_iret rfl rfl ?_
  exact hQ _ _ (jr_of jk_m1 (by omega)) J Sm (D.symm.trans (show (-1) = ((-1) : Int32).toInt from by have := jk_m1; omega)) EV
set_option maxRecDepth 100000 in
set_option maxHeartbeats 4000000 in
theorem ct_X12_groundAt_r125d_700103 {Dy : jH → Prop} {h0 : jH} {Q : Option Value → jH → Prop} {dr : Int} (hD : jDk Dy) (hQ : ∀ (v : Int32) hx9, (-1) ≤ v.toInt ∧ v.toInt ≤ 5 → jJ jSgM Dy hx9 → jSm fp_X12_groundAt_r125d h0 hx9 → dr = v.toInt → vw hx9 = vw h0 → Q (some (.int v)) hx9) : ∀ (h : jH), jJ jSgM Dy h → jSm fp_X12_groundAt_r125d h0 h → d_X12_groundAt_r125d_700103  (vw h) = dr → vw h = vw h0 → jX m_X12_groundAt 2 0 0 103 [] [.int 5] h 0 0 Q := by
  intro  h    J Sm D EV
  unfold d_X12_groundAt_r125d_700103 at D
  refine x_iret rfl rfl ?_
  exact hQ _ _ (jr_of jk_5 (by omega)) J Sm (D.symm.trans (show 5 = (5 : Int32).toInt from by have := jk_5; omega)) EV
set_option maxRecDepth 100000 in
set_option maxHeartbeats 4000000 in
theorem ct_X12_groundAt_r125d_600103 {Dy : jH → Prop} {h0 : jH} {Q : Option Value → jH → Prop} {dr : Int} (hD : jDk Dy) (hQ : ∀ (v : Int32) hx9, (-1) ≤ v.toInt ∧ v.toInt ≤ 5 → jJ jSgM Dy hx9 → jSm fp_X12_groundAt_r125d h0 hx9 → dr = v.toInt → vw hx9 = vw h0 → Q (some (.int v)) hx9) : ∀ (h : jH), jJ jSgM Dy h → jSm fp_X12_groundAt_r125d h0 h → d_X12_groundAt_r125d_600103  (vw h) = dr → vw h = vw h0 → jX m_X12_groundAt 2 0 0 103 [] [.int 4] h 0 0 Q := by
  intro  h    J Sm D EV
  unfold d_X12_groundAt_r125d_600103 at D
  refine x_iret rfl rfl ?_
  exact hQ _ _ (jr_of jk_4 (by omega)) J Sm (D.symm.trans (show 4 = (4 : Int32).toInt from by have := jk_4; omega)) EV
set_option maxRecDepth 100000 in
set_option maxHeartbeats 4000000 in
theorem ct_X12_groundAt_r125d_500103 {Dy : jH → Prop} {h0 : jH} {Q : Option Value → jH → Prop} {dr : Int} (hD : jDk Dy) (hQ : ∀ (v : Int32) hx9, (-1) ≤ v.toInt ∧ v.toInt ≤ 5 → jJ jSgM Dy hx9 → jSm fp_X12_groundAt_r125d h0 hx9 → dr = v.toInt → vw hx9 = vw h0 → Q (some (.int v)) hx9) : ∀ (h : jH), jJ jSgM Dy h → jSm fp_X12_groundAt_r125d h0 h → d_X12_groundAt_r125d_500103  (vw h) = dr → vw h = vw h0 → jX m_X12_groundAt 2 0 0 103 [] [.int 3] h 0 0 Q := by
  intro  h    J Sm D EV
  unfold d_X12_groundAt_r125d_500103 at D
  refine x_iret rfl rfl ?_
  exact hQ _ _ (jr_of jk_3 (by omega)) J Sm (D.symm.trans (show 3 = (3 : Int32).toInt from by have := jk_3; omega)) EV
set_option maxRecDepth 100000 in
set_option maxHeartbeats 4000000 in
theorem sf_X12_groundAt_r125d {Dy : jH → Prop} {h : jH} {Q : Option Value → jH → Prop} {dr : Int} (hD : jDk Dy) (J : jJ jSgM Dy h) (D : d_X12_groundAt_r125d (vw h) = dr) (hQ : ∀ (v : Int32) hx9, (-1) ≤ v.toInt ∧ v.toInt ≤ 5 → jJ jSgM Dy hx9 → jSm fp_X12_groundAt_r125d h hx9 → dr = v.toInt → vw hx9 = vw h → Q (some (.int v)) hx9) : jC m_X12_groundAt 2 0 0 [.ref 125] h Q := by
  refine jC.of rfl k_X12_groundAt rfl ?_
  have Sm := jSm_rf fp_X12_groundAt_r125d h
  show jX m_X12_groundAt 2 0 0 0 [(0, .ref 125)] [] _ 0 0 _
  unfold d_X12_groundAt_r125d at D
  have EV : vw h = vw h := rfl
  refine x_aloadn (x := 125) rfl rfl ?_
  refine x_ldc2 (v := 2411144) rfl z_12_585 ?_
  refine x_inv (N := m_X12_isWord) (As := [.long 2411144]) (b := 125) (st := []) (dx9 := 1) (mc := 0) (ms := 0) (host := "") 12 rfl t_X12_isWord ⟨Or.inl q_12_511, i_X12_isWord.1, i_X12_isWord.2⟩ ⟨by decide, rfl⟩ (congrArg Prod.fst (J.1.1 125 (12, 92) rfl)) rfl (by decide) rfl rfl ⟨by decide, by decide⟩ (jC.of rfl k_X12_isWord rfl ?_)
  show jX m_X12_isWord 1 0 0 0 [(0, .ref 125), (1, .long 2411144)] [] _ 0 0 _
  refine x_aloadn (x := 125) rfl rfl ?_
  refine z_getI (N := 92) 12 11 rfl f_12_235 rfl J rfl sg_125_11_12_1_0_1 (fun v1 qv1 ev1 => ?_)
  try rw [vrf qv1] at D
  refine x_iconst (v := 1) rfl ki_1 ?_
  refine x_icne (tgt := 21) rfl rfl (ti_ne rfl jk_1 ⟨fun c2 => ?_, fun c2 => ?_⟩)
  ·
    rw [if_neg (by omega)] at D
    refine x_iconst (v := 0) rfl ki_0 ?_
    refine x_zret rfl rfl (by decide) ?_
    show jX m_X12_groundAt 2 0 0 7 [(0, .ref 125)] [.int 0] _ 0 0 _
    refine x_ifne (tgt := 30) rfl rfl (ti_ne jk_0 jk_0 (bn_f (by omega) ?_))
    refine x_aloadn (x := 125) rfl rfl ?_
    refine x_ldc2 (v := 271941) rfl z_12_587 ?_
    refine x_inv (N := m_X12_isWord) (As := [.long 271941]) (b := 125) (st := []) (dx9 := 1) (mc := 0) (ms := 0) (host := "") 12 rfl t_X12_isWord ⟨Or.inl q_12_511, i_X12_isWord.1, i_X12_isWord.2⟩ ⟨by decide, rfl⟩ (congrArg Prod.fst (J.1.1 125 (12, 92) rfl)) rfl (by decide) rfl rfl ⟨by decide, by decide⟩ (jC.of rfl k_X12_isWord rfl ?_)
    show jX m_X12_isWord 1 0 0 0 [(0, .ref 125), (1, .long 271941)] [] _ 0 0 _
    refine x_aloadn (x := 125) rfl rfl ?_
    refine z_getM (N := 92) (v := v1) 12 11 rfl f_12_235 rfl J rfl qv1 ?_
    refine x_iconst (v := 1) rfl ki_1 ?_
    refine x_icne (tgt := 21) rfl rfl (ti_ne rfl jk_1 ⟨fun c3 => ?_, fun c3 => ?_⟩)
    ·
      rw [if_neg (by omega)] at D
      refine x_iconst (v := 0) rfl ki_0 ?_
      refine x_zret rfl rfl (by decide) ?_
      show jX m_X12_groundAt 2 0 0 17 [(0, .ref 125)] [.int 0] _ 0 0 _
      refine x_ifne (tgt := 30) rfl rfl (ti_ne jk_0 jk_0 (bn_f (by omega) ?_))
      refine x_aloadn (x := 125) rfl rfl ?_
      refine x_ldc2 (v := 595412) rfl z_12_589 ?_
      refine x_inv (N := m_X12_isWord) (As := [.long 595412]) (b := 125) (st := []) (dx9 := 1) (mc := 0) (ms := 0) (host := "") 12 rfl t_X12_isWord ⟨Or.inl q_12_511, i_X12_isWord.1, i_X12_isWord.2⟩ ⟨by decide, rfl⟩ (congrArg Prod.fst (J.1.1 125 (12, 92) rfl)) rfl (by decide) rfl rfl ⟨by decide, by decide⟩ (jC.of rfl k_X12_isWord rfl ?_)
      show jX m_X12_isWord 1 0 0 0 [(0, .ref 125), (1, .long 595412)] [] _ 0 0 _
      refine x_aloadn (x := 125) rfl rfl ?_
      refine z_getM (N := 92) (v := v1) 12 11 rfl f_12_235 rfl J rfl qv1 ?_
      refine x_iconst (v := 1) rfl ki_1 ?_
      refine x_icne (tgt := 21) rfl rfl (ti_ne rfl jk_1 ⟨fun c4 => ?_, fun c4 => ?_⟩)
      ·
        rw [if_neg (by omega)] at D
        refine x_iconst (v := 0) rfl ki_0 ?_
        refine x_zret rfl rfl (by decide) ?_
        show jX m_X12_groundAt 2 0 0 27 [(0, .ref 125)] [.int 0] _ 0 0 _
        refine x_ifeq (tgt := 60) rfl rfl (ti_eq jk_0 jk_0 (br_t (by omega) ?_))
        refine x_aloadn (x := 125) rfl rfl ?_
        refine x_ldc2 (v := 509813861) rfl z_12_591 ?_
        refine x_inv (N := m_X12_isWord) (As := [.long 509813861]) (b := 125) (st := []) (dx9 := 1) (mc := 0) (ms := 0) (host := "") 12 rfl t_X12_isWord ⟨Or.inl q_12_511, i_X12_isWord.1, i_X12_isWord.2⟩ ⟨by decide, rfl⟩ (congrArg Prod.fst (J.1.1 125 (12, 92) rfl)) rfl (by decide) rfl rfl ⟨by decide, by decide⟩ (jC.of rfl k_X12_isWord rfl ?_)
        show jX m_X12_isWord 1 0 0 0 [(0, .ref 125), (1, .long 509813861)] [] _ 0 0 _
        refine x_aloadn (x := 125) rfl rfl ?_
        refine z_getM (N := 92) (v := v1) 12 11 rfl f_12_235 rfl J rfl qv1 ?_
        refine x_iconst (v := 1) rfl ki_1 ?_
        refine x_icne (tgt := 21) rfl rfl (ti_ne rfl jk_1 ⟨fun c5 => ?_, fun c5 => ?_⟩)
        ·
          rw [if_neg (by omega)] at D
          refine x_iconst (v := 0) rfl ki_0 ?_
          refine x_zret rfl rfl (by decide) ?_
          show jX m_X12_groundAt 2 0 0 67 [(0, .ref 125)] [.int 0] _ 0 0 _
          refine x_ifeq (tgt := 74) rfl rfl (ti_eq jk_0 jk_0 (br_t (by omega) ?_))
          refine x_aloadn (x := 125) rfl rfl ?_
          refine x_ldc2 (v := 23716) rfl z_12_593 ?_
          refine x_inv (N := m_X12_isWord) (As := [.long 23716]) (b := 125) (st := []) (dx9 := 1) (mc := 0) (ms := 0) (host := "") 12 rfl t_X12_isWord ⟨Or.inl q_12_511, i_X12_isWord.1, i_X12_isWord.2⟩ ⟨by decide, rfl⟩ (congrArg Prod.fst (J.1.1 125 (12, 92) rfl)) rfl (by decide) rfl rfl ⟨by decide, by decide⟩ (jC.of rfl k_X12_isWord rfl ?_)
          show jX m_X12_isWord 1 0 0 0 [(0, .ref 125), (1, .long 23716)] [] _ 0 0 _
          refine x_aloadn (x := 125) rfl rfl ?_
          refine z_getM (N := 92) (v := v1) 12 11 rfl f_12_235 rfl J rfl qv1 ?_
          refine x_iconst (v := 1) rfl ki_1 ?_
          refine x_icne (tgt := 21) rfl rfl (ti_ne rfl jk_1 ⟨fun c6 => ?_, fun c6 => ?_⟩)
          ·
            rw [if_neg (by omega)] at D
            refine x_iconst (v := 0) rfl ki_0 ?_
            refine x_zret rfl rfl (by decide) ?_
            show jX m_X12_groundAt 2 0 0 81 [(0, .ref 125)] [.int 0] _ 0 0 _
            refine x_ifeq (tgt := 88) rfl rfl (ti_eq jk_0 jk_0 (br_t (by omega) ?_))
            refine x_aloadn (x := 125) rfl rfl ?_
            refine x_ldc2 (v := 17232476819) rfl z_12_595 ?_
            refine x_inv (N := m_X12_isWord) (As := [.long 17232476819]) (b := 125) (st := []) (dx9 := 1) (mc := 0) (ms := 0) (host := "") 12 rfl t_X12_isWord ⟨Or.inl q_12_511, i_X12_isWord.1, i_X12_isWord.2⟩ ⟨by decide, rfl⟩ (congrArg Prod.fst (J.1.1 125 (12, 92) rfl)) rfl (by decide) rfl rfl ⟨by decide, by decide⟩ (jC.of rfl k_X12_isWord rfl ?_)
            show jX m_X12_isWord 1 0 0 0 [(0, .ref 125), (1, .long 17232476819)] [] _ 0 0 _
            refine x_aloadn (x := 125) rfl rfl ?_
            refine z_getM (N := 92) (v := v1) 12 11 rfl f_12_235 rfl J rfl qv1 ?_
            refine x_iconst (v := 1) rfl ki_1 ?_
            refine x_icne (tgt := 21) rfl rfl (ti_ne rfl jk_1 ⟨fun c7 => ?_, fun c7 => ?_⟩)
            ·
              rw [if_neg (by omega)] at D
              refine x_iconst (v := 0) rfl ki_0 ?_
              refine x_zret rfl rfl (by decide) ?_
              show jX m_X12_groundAt 2 0 0 95 [(0, .ref 125)] [.int 0] _ 0 0 _
              refine x_ifeq (tgt := 102) rfl rfl (ti_eq jk_0 jk_0 (br_t (by omega) ?_))
              refine x_iconst (v := (-1)) rfl ki_m1 ?_
              exact jX.sub jsb_n (ct_X12_groundAt_r125d_100103 hD hQ  h J Sm D EV)
            ·
              rw [if_pos (by omega)] at D
              refine x_aloadn (x := 125) rfl rfl ?_
              refine z_getLQ (N := 92) 12 12 rfl f_12_224 rfl J rfl (fun v8 qv8 => ?_)
              have ev8 := jfullL v8
              try rw [vrfL qv8] at D
              refine x_lloadn (x := 17232476819) rfl rfl ?_
              refine z_lcmp rfl rfl jkl_17232476819 (fun v9 ev9 => ?_)
              refine x_ifne (tgt := 21) rfl rfl (ti_ne rfl jk_0 ⟨fun c10 => ?_, fun c10 => ?_⟩)
              ·
                rw [if_neg (by omega)] at D
                refine x_iconst (v := 0) rfl ki_0 ?_
                refine x_zret rfl rfl (by decide) ?_
                show jX m_X12_groundAt 2 0 0 95 [(0, .ref 125)] [.int 0] _ 0 0 _
                refine x_ifeq (tgt := 102) rfl rfl (ti_eq jk_0 jk_0 (br_t (by omega) ?_))
                refine x_iconst (v := (-1)) rfl ki_m1 ?_
                exact jX.sub jsb_n (ct_X12_groundAt_r125d_100103 hD hQ  h J Sm D EV)
              ·
                rw [if_pos (by omega)] at D
                refine x_iconst (v := 1) rfl ki_1 ?_
                refine x_goto (tgt := 22) rfl rfl ?_
                refine x_zret rfl rfl (by decide) ?_
                show jX m_X12_groundAt 2 0 0 95 [(0, .ref 125)] [.int 1] _ 0 0 _
                refine x_ifeq (tgt := 102) rfl rfl (ti_eq jk_1 jk_0 (br_f (by omega) ?_))
                refine x_iconst (v := 5) rfl ki_5 ?_
                refine x_goto (tgt := 103) rfl rfl ?_
                exact jX.sub jsb_n (ct_X12_groundAt_r125d_700103 hD hQ  h J Sm D EV)
          ·
            rw [if_pos (by omega)] at D
            refine x_aloadn (x := 125) rfl rfl ?_
            refine z_getLQ (N := 92) 12 12 rfl f_12_224 rfl J rfl (fun v11 qv11 => ?_)
            have ev11 := jfullL v11
            try rw [vrfL qv11] at D
            refine x_lloadn (x := 23716) rfl rfl ?_
            refine z_lcmp rfl rfl jkl_23716 (fun v12 ev12 => ?_)
            refine x_ifne (tgt := 21) rfl rfl (ti_ne rfl jk_0 ⟨fun c13 => ?_, fun c13 => ?_⟩)
            ·
              rw [if_neg (by omega)] at D
              refine x_iconst (v := 0) rfl ki_0 ?_
              refine x_zret rfl rfl (by decide) ?_
              show jX m_X12_groundAt 2 0 0 81 [(0, .ref 125)] [.int 0] _ 0 0 _
              refine x_ifeq (tgt := 88) rfl rfl (ti_eq jk_0 jk_0 (br_t (by omega) ?_))
              refine x_aloadn (x := 125) rfl rfl ?_
              refine x_ldc2 (v := 17232476819) rfl z_12_595 ?_
              refine x_inv (N := m_X12_isWord) (As := [.long 17232476819]) (b := 125) (st := []) (dx9 := 1) (mc := 0) (ms := 0) (host := "") 12 rfl t_X12_isWord ⟨Or.inl q_12_511, i_X12_isWord.1, i_X12_isWord.2⟩ ⟨by decide, rfl⟩ (congrArg Prod.fst (J.1.1 125 (12, 92) rfl)) rfl (by decide) rfl rfl ⟨by decide, by decide⟩ (jC.of rfl k_X12_isWord rfl ?_)
              show jX m_X12_isWord 1 0 0 0 [(0, .ref 125), (1, .long 17232476819)] [] _ 0 0 _
              refine x_aloadn (x := 125) rfl rfl ?_
              refine z_getM (N := 92) (v := v1) 12 11 rfl f_12_235 rfl J rfl qv1 ?_
              refine x_iconst (v := 1) rfl ki_1 ?_
              refine x_icne (tgt := 21) rfl rfl (ti_ne rfl jk_1 (bn_f (by omega) ?_))
              refine x_aloadn (x := 125) rfl rfl ?_
              refine z_getLQ (N := 92) 12 12 rfl f_12_224 rfl J rfl (fun v14 qv14 => ?_)
              have ev14 := jfullL v14
              try have kqv14 : v11.toInt = v14.toInt := ((vrfL qv11).symm.trans (vrfL qv14))
              try rw [kqv14] at D
              try rw [vrfL qv14] at D
              refine x_lloadn (x := 17232476819) rfl rfl ?_
              refine z_lcmp rfl rfl jkl_17232476819 (fun v15 ev15 => ?_)
              refine x_ifne (tgt := 21) rfl rfl (ti_ne rfl jk_0 ⟨fun c16 => ?_, fun c16 => ?_⟩)
              ·
                rw [if_neg (by omega)] at D
                refine x_iconst (v := 0) rfl ki_0 ?_
                refine x_zret rfl rfl (by decide) ?_
                show jX m_X12_groundAt 2 0 0 95 [(0, .ref 125)] [.int 0] _ 0 0 _
                refine x_ifeq (tgt := 102) rfl rfl (ti_eq jk_0 jk_0 (br_t (by omega) ?_))
                refine x_iconst (v := (-1)) rfl ki_m1 ?_
                exact jX.sub jsb_n (ct_X12_groundAt_r125d_100103 hD hQ  h J Sm D EV)
              ·
                rw [if_pos (by omega)] at D
                refine x_iconst (v := 1) rfl ki_1 ?_
                refine x_goto (tgt := 22) rfl rfl ?_
                refine x_zret rfl rfl (by decide) ?_
                show jX m_X12_groundAt 2 0 0 95 [(0, .ref 125)] [.int 1] _ 0 0 _
                refine x_ifeq (tgt := 102) rfl rfl (ti_eq jk_1 jk_0 (br_f (by omega) ?_))
                refine x_iconst (v := 5) rfl ki_5 ?_
                refine x_goto (tgt := 103) rfl rfl ?_
                exact jX.sub jsb_n (ct_X12_groundAt_r125d_700103 hD hQ  h J Sm D EV)
            ·
              rw [if_pos (by omega)] at D
              refine x_iconst (v := 1) rfl ki_1 ?_
              refine x_goto (tgt := 22) rfl rfl ?_
              refine x_zret rfl rfl (by decide) ?_
              show jX m_X12_groundAt 2 0 0 81 [(0, .ref 125)] [.int 1] _ 0 0 _
              refine x_ifeq (tgt := 88) rfl rfl (ti_eq jk_1 jk_0 (br_f (by omega) ?_))
              refine x_iconst (v := 4) rfl ki_4 ?_
              refine x_goto (tgt := 103) rfl rfl ?_
              exact jX.sub jsb_n (ct_X12_groundAt_r125d_600103 hD hQ  h J Sm D EV)
        ·
          rw [if_pos (by omega)] at D
          refine x_aloadn (x := 125) rfl rfl ?_
          refine z_getLQ (N := 92) 12 12 rfl f_12_224 rfl J rfl (fun v17 qv17 => ?_)
          have ev17 := jfullL v17
          try rw [vrfL qv17] at D
          refine x_lloadn (x := 509813861) rfl rfl ?_
          refine z_lcmp rfl rfl jkl_509813861 (fun v18 ev18 => ?_)
          refine x_ifne (tgt := 21) rfl rfl (ti_ne rfl jk_0 ⟨fun c19 => ?_, fun c19 => ?_⟩)
          ·
            rw [if_neg (by omega)] at D
            refine x_iconst (v := 0) rfl ki_0 ?_
            refine x_zret rfl rfl (by decide) ?_
            show jX m_X12_groundAt 2 0 0 67 [(0, .ref 125)] [.int 0] _ 0 0 _
            refine x_ifeq (tgt := 74) rfl rfl (ti_eq jk_0 jk_0 (br_t (by omega) ?_))
            refine x_aloadn (x := 125) rfl rfl ?_
            refine x_ldc2 (v := 23716) rfl z_12_593 ?_
            refine x_inv (N := m_X12_isWord) (As := [.long 23716]) (b := 125) (st := []) (dx9 := 1) (mc := 0) (ms := 0) (host := "") 12 rfl t_X12_isWord ⟨Or.inl q_12_511, i_X12_isWord.1, i_X12_isWord.2⟩ ⟨by decide, rfl⟩ (congrArg Prod.fst (J.1.1 125 (12, 92) rfl)) rfl (by decide) rfl rfl ⟨by decide, by decide⟩ (jC.of rfl k_X12_isWord rfl ?_)
            show jX m_X12_isWord 1 0 0 0 [(0, .ref 125), (1, .long 23716)] [] _ 0 0 _
            refine x_aloadn (x := 125) rfl rfl ?_
            refine z_getM (N := 92) (v := v1) 12 11 rfl f_12_235 rfl J rfl qv1 ?_
            refine x_iconst (v := 1) rfl ki_1 ?_
            refine x_icne (tgt := 21) rfl rfl (ti_ne rfl jk_1 (bn_f (by omega) ?_))
            refine x_aloadn (x := 125) rfl rfl ?_
            refine z_getLQ (N := 92) 12 12 rfl f_12_224 rfl J rfl (fun v20 qv20 => ?_)
            have ev20 := jfullL v20
            try have kqv20 : v17.toInt = v20.toInt := ((vrfL qv17).symm.trans (vrfL qv20))
            try rw [kqv20] at D
            try rw [vrfL qv20] at D
            refine x_lloadn (x := 23716) rfl rfl ?_
            refine z_lcmp rfl rfl jkl_23716 (fun v21 ev21 => ?_)
            refine x_ifne (tgt := 21) rfl rfl (ti_ne rfl jk_0 ⟨fun c22 => ?_, fun c22 => ?_⟩)
            ·
              rw [if_neg (by omega)] at D
              refine x_iconst (v := 0) rfl ki_0 ?_
              refine x_zret rfl rfl (by decide) ?_
              show jX m_X12_groundAt 2 0 0 81 [(0, .ref 125)] [.int 0] _ 0 0 _
              refine x_ifeq (tgt := 88) rfl rfl (ti_eq jk_0 jk_0 (br_t (by omega) ?_))
              refine x_aloadn (x := 125) rfl rfl ?_
              refine x_ldc2 (v := 17232476819) rfl z_12_595 ?_
              refine x_inv (N := m_X12_isWord) (As := [.long 17232476819]) (b := 125) (st := []) (dx9 := 1) (mc := 0) (ms := 0) (host := "") 12 rfl t_X12_isWord ⟨Or.inl q_12_511, i_X12_isWord.1, i_X12_isWord.2⟩ ⟨by decide, rfl⟩ (congrArg Prod.fst (J.1.1 125 (12, 92) rfl)) rfl (by decide) rfl rfl ⟨by decide, by decide⟩ (jC.of rfl k_X12_isWord rfl ?_)
              show jX m_X12_isWord 1 0 0 0 [(0, .ref 125), (1, .long 17232476819)] [] _ 0 0 _
              refine x_aloadn (x := 125) rfl rfl ?_
              refine z_getM (N := 92) (v := v1) 12 11 rfl f_12_235 rfl J rfl qv1 ?_
              refine x_iconst (v := 1) rfl ki_1 ?_
              refine x_icne (tgt := 21) rfl rfl (ti_ne rfl jk_1 (bn_f (by omega) ?_))
              refine x_aloadn (x := 125) rfl rfl ?_
              refine z_getLQ (N := 92) 12 12 rfl f_12_224 rfl J rfl (fun v23 qv23 => ?_)
              have ev23 := jfullL v23
              try have kqv23 : v20.toInt = v23.toInt := ((vrfL qv20).symm.trans (vrfL qv23))
              try rw [kqv23] at D
              try rw [vrfL qv23] at D
              refine x_lloadn (x := 17232476819) rfl rfl ?_
              refine z_lcmp rfl rfl jkl_17232476819 (fun v24 ev24 => ?_)
              refine x_ifne (tgt := 21) rfl rfl (ti_ne rfl jk_0 ⟨fun c25 => ?_, fun c25 => ?_⟩)
              ·
                rw [if_neg (by omega)] at D
                refine x_iconst (v := 0) rfl ki_0 ?_
                refine x_zret rfl rfl (by decide) ?_
                show jX m_X12_groundAt 2 0 0 95 [(0, .ref 125)] [.int 0] _ 0 0 _
                refine x_ifeq (tgt := 102) rfl rfl (ti_eq jk_0 jk_0 (br_t (by omega) ?_))
                refine x_iconst (v := (-1)) rfl ki_m1 ?_
                exact jX.sub jsb_n (ct_X12_groundAt_r125d_100103 hD hQ  h J Sm D EV)
              ·
                rw [if_pos (by omega)] at D
                refine x_iconst (v := 1) rfl ki_1 ?_
                refine x_goto (tgt := 22) rfl rfl ?_
                refine x_zret rfl rfl (by decide) ?_
                show jX m_X12_groundAt 2 0 0 95 [(0, .ref 125)] [.int 1] _ 0 0 _
                refine x_ifeq (tgt := 102) rfl rfl (ti_eq jk_1 jk_0 (br_f (by omega) ?_))
                refine x_iconst (v := 5) rfl ki_5 ?_
                refine x_goto (tgt := 103) rfl rfl ?_
                exact jX.sub jsb_n (ct_X12_groundAt_r125d_700103 hD hQ  h J Sm D EV)
            ·
              rw [if_pos (by omega)] at D
              refine x_iconst (v := 1) rfl ki_1 ?_
              refine x_goto (tgt := 22) rfl rfl ?_
              refine x_zret rfl rfl (by decide) ?_
              show jX m_X12_groundAt 2 0 0 81 [(0, .ref 125)] [.int 1] _ 0 0 _
              refine x_ifeq (tgt := 88) rfl rfl (ti_eq jk_1 jk_0 (br_f (by omega) ?_))
              refine x_iconst (v := 4) rfl ki_4 ?_
              refine x_goto (tgt := 103) rfl rfl ?_
              exact jX.sub jsb_n (ct_X12_groundAt_r125d_600103 hD hQ  h J Sm D EV)
          ·
            rw [if_pos (by omega)] at D
            refine x_iconst (v := 1) rfl ki_1 ?_
            refine x_goto (tgt := 22) rfl rfl ?_
            refine x_zret rfl rfl (by decide) ?_
            show jX m_X12_groundAt 2 0 0 67 [(0, .ref 125)] [.int 1] _ 0 0 _
            refine x_ifeq (tgt := 74) rfl rfl (ti_eq jk_1 jk_0 (br_f (by omega) ?_))
            refine x_iconst (v := 3) rfl ki_3 ?_
            refine x_goto (tgt := 103) rfl rfl ?_
            exact jX.sub jsb_n (ct_X12_groundAt_r125d_500103 hD hQ  h J Sm D EV)
      ·
        rw [if_pos (by omega)] at D
        refine x_aloadn (x := 125) rfl rfl ?_
        refine z_getLQ (N := 92) 12 12 rfl f_12_224 rfl J rfl (fun v26 qv26 => ?_)
        have ev26 := jfullL v26
        try rw [vrfL qv26] at D
        refine x_lloadn (x := 595412) rfl rfl ?_
        refine z_lcmp rfl rfl jkl_595412 (fun v27 ev27 => ?_)
        refine x_ifne (tgt := 21) rfl rfl (ti_ne rfl jk_0 ⟨fun c28 => ?_, fun c28 => ?_⟩)
        ·
          rw [if_neg (by omega)] at D
          refine x_iconst (v := 0) rfl ki_0 ?_
          refine x_zret rfl rfl (by decide) ?_
          show jX m_X12_groundAt 2 0 0 27 [(0, .ref 125)] [.int 0] _ 0 0 _
          refine x_ifeq (tgt := 60) rfl rfl (ti_eq jk_0 jk_0 (br_t (by omega) ?_))
          refine x_aloadn (x := 125) rfl rfl ?_
          refine x_ldc2 (v := 509813861) rfl z_12_591 ?_
          refine x_inv (N := m_X12_isWord) (As := [.long 509813861]) (b := 125) (st := []) (dx9 := 1) (mc := 0) (ms := 0) (host := "") 12 rfl t_X12_isWord ⟨Or.inl q_12_511, i_X12_isWord.1, i_X12_isWord.2⟩ ⟨by decide, rfl⟩ (congrArg Prod.fst (J.1.1 125 (12, 92) rfl)) rfl (by decide) rfl rfl ⟨by decide, by decide⟩ (jC.of rfl k_X12_isWord rfl ?_)
          show jX m_X12_isWord 1 0 0 0 [(0, .ref 125), (1, .long 509813861)] [] _ 0 0 _
          refine x_aloadn (x := 125) rfl rfl ?_
          refine z_getM (N := 92) (v := v1) 12 11 rfl f_12_235 rfl J rfl qv1 ?_
          refine x_iconst (v := 1) rfl ki_1 ?_
          refine x_icne (tgt := 21) rfl rfl (ti_ne rfl jk_1 (bn_f (by omega) ?_))
          refine x_aloadn (x := 125) rfl rfl ?_
          refine z_getLQ (N := 92) 12 12 rfl f_12_224 rfl J rfl (fun v29 qv29 => ?_)
          have ev29 := jfullL v29
          try have kqv29 : v26.toInt = v29.toInt := ((vrfL qv26).symm.trans (vrfL qv29))
          try rw [kqv29] at D
          try rw [vrfL qv29] at D
          refine x_lloadn (x := 509813861) rfl rfl ?_
          refine z_lcmp rfl rfl jkl_509813861 (fun v30 ev30 => ?_)
          refine x_ifne (tgt := 21) rfl rfl (ti_ne rfl jk_0 ⟨fun c31 => ?_, fun c31 => ?_⟩)
          ·
            rw [if_neg (by omega)] at D
            refine x_iconst (v := 0) rfl ki_0 ?_
            refine x_zret rfl rfl (by decide) ?_
            show jX m_X12_groundAt 2 0 0 67 [(0, .ref 125)] [.int 0] _ 0 0 _
            refine x_ifeq (tgt := 74) rfl rfl (ti_eq jk_0 jk_0 (br_t (by omega) ?_))
            refine x_aloadn (x := 125) rfl rfl ?_
            refine x_ldc2 (v := 23716) rfl z_12_593 ?_
            refine x_inv (N := m_X12_isWord) (As := [.long 23716]) (b := 125) (st := []) (dx9 := 1) (mc := 0) (ms := 0) (host := "") 12 rfl t_X12_isWord ⟨Or.inl q_12_511, i_X12_isWord.1, i_X12_isWord.2⟩ ⟨by decide, rfl⟩ (congrArg Prod.fst (J.1.1 125 (12, 92) rfl)) rfl (by decide) rfl rfl ⟨by decide, by decide⟩ (jC.of rfl k_X12_isWord rfl ?_)
            show jX m_X12_isWord 1 0 0 0 [(0, .ref 125), (1, .long 23716)] [] _ 0 0 _
            refine x_aloadn (x := 125) rfl rfl ?_
            refine z_getM (N := 92) (v := v1) 12 11 rfl f_12_235 rfl J rfl qv1 ?_
            refine x_iconst (v := 1) rfl ki_1 ?_
            refine x_icne (tgt := 21) rfl rfl (ti_ne rfl jk_1 (bn_f (by omega) ?_))
            refine x_aloadn (x := 125) rfl rfl ?_
            refine z_getLQ (N := 92) 12 12 rfl f_12_224 rfl J rfl (fun v32 qv32 => ?_)
            have ev32 := jfullL v32
            try have kqv32 : v29.toInt = v32.toInt := ((vrfL qv29).symm.trans (vrfL qv32))
            try rw [kqv32] at D
            try rw [vrfL qv32] at D
            refine x_lloadn (x := 23716) rfl rfl ?_
            refine z_lcmp rfl rfl jkl_23716 (fun v33 ev33 => ?_)
            refine x_ifne (tgt := 21) rfl rfl (ti_ne rfl jk_0 ⟨fun c34 => ?_, fun c34 => ?_⟩)
            ·
              rw [if_neg (by omega)] at D
              refine x_iconst (v := 0) rfl ki_0 ?_
              refine x_zret rfl rfl (by decide) ?_
              show jX m_X12_groundAt 2 0 0 81 [(0, .ref 125)] [.int 0] _ 0 0 _
              refine x_ifeq (tgt := 88) rfl rfl (ti_eq jk_0 jk_0 (br_t (by omega) ?_))
              refine x_aloadn (x := 125) rfl rfl ?_
              refine x_ldc2 (v := 17232476819) rfl z_12_595 ?_
              refine x_inv (N := m_X12_isWord) (As := [.long 17232476819]) (b := 125) (st := []) (dx9 := 1) (mc := 0) (ms := 0) (host := "") 12 rfl t_X12_isWord ⟨Or.inl q_12_511, i_X12_isWord.1, i_X12_isWord.2⟩ ⟨by decide, rfl⟩ (congrArg Prod.fst (J.1.1 125 (12, 92) rfl)) rfl (by decide) rfl rfl ⟨by decide, by decide⟩ (jC.of rfl k_X12_isWord rfl ?_)
              show jX m_X12_isWord 1 0 0 0 [(0, .ref 125), (1, .long 17232476819)] [] _ 0 0 _
              refine x_aloadn (x := 125) rfl rfl ?_
              refine z_getM (N := 92) (v := v1) 12 11 rfl f_12_235 rfl J rfl qv1 ?_
              refine x_iconst (v := 1) rfl ki_1 ?_
              refine x_icne (tgt := 21) rfl rfl (ti_ne rfl jk_1 (bn_f (by omega) ?_))
              refine x_aloadn (x := 125) rfl rfl ?_
              refine z_getLQ (N := 92) 12 12 rfl f_12_224 rfl J rfl (fun v35 qv35 => ?_)
              have ev35 := jfullL v35
              try have kqv35 : v32.toInt = v35.toInt := ((vrfL qv32).symm.trans (vrfL qv35))
              try rw [kqv35] at D
              try rw [vrfL qv35] at D
              refine x_lloadn (x := 17232476819) rfl rfl ?_
              refine z_lcmp rfl rfl jkl_17232476819 (fun v36 ev36 => ?_)
              refine x_ifne (tgt := 21) rfl rfl (ti_ne rfl jk_0 ⟨fun c37 => ?_, fun c37 => ?_⟩)
              ·
                rw [if_neg (by omega)] at D
                refine x_iconst (v := 0) rfl ki_0 ?_
                refine x_zret rfl rfl (by decide) ?_
                show jX m_X12_groundAt 2 0 0 95 [(0, .ref 125)] [.int 0] _ 0 0 _
                refine x_ifeq (tgt := 102) rfl rfl (ti_eq jk_0 jk_0 (br_t (by omega) ?_))
                refine x_iconst (v := (-1)) rfl ki_m1 ?_
                exact jX.sub jsb_n (ct_X12_groundAt_r125d_100103 hD hQ  h J Sm D EV)
              ·
                rw [if_pos (by omega)] at D
                refine x_iconst (v := 1) rfl ki_1 ?_
                refine x_goto (tgt := 22) rfl rfl ?_
                refine x_zret rfl rfl (by decide) ?_
                show jX m_X12_groundAt 2 0 0 95 [(0, .ref 125)] [.int 1] _ 0 0 _
                refine x_ifeq (tgt := 102) rfl rfl (ti_eq jk_1 jk_0 (br_f (by omega) ?_))
                refine x_iconst (v := 5) rfl ki_5 ?_
                refine x_goto (tgt := 103) rfl rfl ?_
                exact jX.sub jsb_n (ct_X12_groundAt_r125d_700103 hD hQ  h J Sm D EV)
            ·
              rw [if_pos (by omega)] at D
              refine x_iconst (v := 1) rfl ki_1 ?_
              refine x_goto (tgt := 22) rfl rfl ?_
              refine x_zret rfl rfl (by decide) ?_
              show jX m_X12_groundAt 2 0 0 81 [(0, .ref 125)] [.int 1] _ 0 0 _
              refine x_ifeq (tgt := 88) rfl rfl (ti_eq jk_1 jk_0 (br_f (by omega) ?_))
              refine x_iconst (v := 4) rfl ki_4 ?_
              refine x_goto (tgt := 103) rfl rfl ?_
              exact jX.sub jsb_n (ct_X12_groundAt_r125d_600103 hD hQ  h J Sm D EV)
          ·
            rw [if_pos (by omega)] at D
            refine x_iconst (v := 1) rfl ki_1 ?_
            refine x_goto (tgt := 22) rfl rfl ?_
            refine x_zret rfl rfl (by decide) ?_
            show jX m_X12_groundAt 2 0 0 67 [(0, .ref 125)] [.int 1] _ 0 0 _
            refine x_ifeq (tgt := 74) rfl rfl (ti_eq jk_1 jk_0 (br_f (by omega) ?_))
            refine x_iconst (v := 3) rfl ki_3 ?_
            refine x_goto (tgt := 103) rfl rfl ?_
            exact jX.sub jsb_n (ct_X12_groundAt_r125d_500103 hD hQ  h J Sm D EV)
        ·
          rw [if_pos (by omega)] at D
          refine x_iconst (v := 1) rfl ki_1 ?_
          refine x_goto (tgt := 22) rfl rfl ?_
          refine x_zret rfl rfl (by decide) ?_
          show jX m_X12_groundAt 2 0 0 27 [(0, .ref 125)] [.int 1] _ 0 0 _
          refine x_ifeq (tgt := 60) rfl rfl (ti_eq jk_1 jk_0 (br_f (by omega) ?_))
          exact jX.sub (jsb_c rfl jsb_n) (ct_X12_groundAt_r125d_30 hD hQ  v1 h (jr_of rfl (by omega)) qv1 J Sm D EV)
    ·
      rw [if_pos (by omega)] at D
      refine x_aloadn (x := 125) rfl rfl ?_
      refine z_getLQ (N := 92) 12 12 rfl f_12_224 rfl J rfl (fun v38 qv38 => ?_)
      have ev38 := jfullL v38
      try rw [vrfL qv38] at D
      refine x_lloadn (x := 271941) rfl rfl ?_
      refine z_lcmp rfl rfl jkl_271941 (fun v39 ev39 => ?_)
      refine x_ifne (tgt := 21) rfl rfl (ti_ne rfl jk_0 ⟨fun c40 => ?_, fun c40 => ?_⟩)
      ·
        rw [if_neg (by omega)] at D
        refine x_iconst (v := 0) rfl ki_0 ?_
        refine x_zret rfl rfl (by decide) ?_
        show jX m_X12_groundAt 2 0 0 17 [(0, .ref 125)] [.int 0] _ 0 0 _
        refine x_ifne (tgt := 30) rfl rfl (ti_ne jk_0 jk_0 (bn_f (by omega) ?_))
        refine x_aloadn (x := 125) rfl rfl ?_
        refine x_ldc2 (v := 595412) rfl z_12_589 ?_
        refine x_inv (N := m_X12_isWord) (As := [.long 595412]) (b := 125) (st := []) (dx9 := 1) (mc := 0) (ms := 0) (host := "") 12 rfl t_X12_isWord ⟨Or.inl q_12_511, i_X12_isWord.1, i_X12_isWord.2⟩ ⟨by decide, rfl⟩ (congrArg Prod.fst (J.1.1 125 (12, 92) rfl)) rfl (by decide) rfl rfl ⟨by decide, by decide⟩ (jC.of rfl k_X12_isWord rfl ?_)
        show jX m_X12_isWord 1 0 0 0 [(0, .ref 125), (1, .long 595412)] [] _ 0 0 _
        refine x_aloadn (x := 125) rfl rfl ?_
        refine z_getM (N := 92) (v := v1) 12 11 rfl f_12_235 rfl J rfl qv1 ?_
        refine x_iconst (v := 1) rfl ki_1 ?_
        refine x_icne (tgt := 21) rfl rfl (ti_ne rfl jk_1 (bn_f (by omega) ?_))
        refine x_aloadn (x := 125) rfl rfl ?_
        refine z_getLQ (N := 92) 12 12 rfl f_12_224 rfl J rfl (fun v41 qv41 => ?_)
        have ev41 := jfullL v41
        try have kqv41 : v38.toInt = v41.toInt := ((vrfL qv38).symm.trans (vrfL qv41))
        try rw [kqv41] at D
        try rw [vrfL qv41] at D
        refine x_lloadn (x := 595412) rfl rfl ?_
        refine z_lcmp rfl rfl jkl_595412 (fun v42 ev42 => ?_)
        refine x_ifne (tgt := 21) rfl rfl (ti_ne rfl jk_0 ⟨fun c43 => ?_, fun c43 => ?_⟩)
        ·
          rw [if_neg (by omega)] at D
          refine x_iconst (v := 0) rfl ki_0 ?_
          refine x_zret rfl rfl (by decide) ?_
          show jX m_X12_groundAt 2 0 0 27 [(0, .ref 125)] [.int 0] _ 0 0 _
          refine x_ifeq (tgt := 60) rfl rfl (ti_eq jk_0 jk_0 (br_t (by omega) ?_))
          refine x_aloadn (x := 125) rfl rfl ?_
          refine x_ldc2 (v := 509813861) rfl z_12_591 ?_
          refine x_inv (N := m_X12_isWord) (As := [.long 509813861]) (b := 125) (st := []) (dx9 := 1) (mc := 0) (ms := 0) (host := "") 12 rfl t_X12_isWord ⟨Or.inl q_12_511, i_X12_isWord.1, i_X12_isWord.2⟩ ⟨by decide, rfl⟩ (congrArg Prod.fst (J.1.1 125 (12, 92) rfl)) rfl (by decide) rfl rfl ⟨by decide, by decide⟩ (jC.of rfl k_X12_isWord rfl ?_)
          show jX m_X12_isWord 1 0 0 0 [(0, .ref 125), (1, .long 509813861)] [] _ 0 0 _
          refine x_aloadn (x := 125) rfl rfl ?_
          refine z_getM (N := 92) (v := v1) 12 11 rfl f_12_235 rfl J rfl qv1 ?_
          refine x_iconst (v := 1) rfl ki_1 ?_
          refine x_icne (tgt := 21) rfl rfl (ti_ne rfl jk_1 (bn_f (by omega) ?_))
          refine x_aloadn (x := 125) rfl rfl ?_
          refine z_getLQ (N := 92) 12 12 rfl f_12_224 rfl J rfl (fun v44 qv44 => ?_)
          have ev44 := jfullL v44
          try have kqv44 : v41.toInt = v44.toInt := ((vrfL qv41).symm.trans (vrfL qv44))
          try rw [kqv44] at D
          try rw [vrfL qv44] at D
          refine x_lloadn (x := 509813861) rfl rfl ?_
          refine z_lcmp rfl rfl jkl_509813861 (fun v45 ev45 => ?_)
          refine x_ifne (tgt := 21) rfl rfl (ti_ne rfl jk_0 ⟨fun c46 => ?_, fun c46 => ?_⟩)
          ·
            rw [if_neg (by omega)] at D
            refine x_iconst (v := 0) rfl ki_0 ?_
            refine x_zret rfl rfl (by decide) ?_
            show jX m_X12_groundAt 2 0 0 67 [(0, .ref 125)] [.int 0] _ 0 0 _
            refine x_ifeq (tgt := 74) rfl rfl (ti_eq jk_0 jk_0 (br_t (by omega) ?_))
            refine x_aloadn (x := 125) rfl rfl ?_
            refine x_ldc2 (v := 23716) rfl z_12_593 ?_
            refine x_inv (N := m_X12_isWord) (As := [.long 23716]) (b := 125) (st := []) (dx9 := 1) (mc := 0) (ms := 0) (host := "") 12 rfl t_X12_isWord ⟨Or.inl q_12_511, i_X12_isWord.1, i_X12_isWord.2⟩ ⟨by decide, rfl⟩ (congrArg Prod.fst (J.1.1 125 (12, 92) rfl)) rfl (by decide) rfl rfl ⟨by decide, by decide⟩ (jC.of rfl k_X12_isWord rfl ?_)
            show jX m_X12_isWord 1 0 0 0 [(0, .ref 125), (1, .long 23716)] [] _ 0 0 _
            refine x_aloadn (x := 125) rfl rfl ?_
            refine z_getM (N := 92) (v := v1) 12 11 rfl f_12_235 rfl J rfl qv1 ?_
            refine x_iconst (v := 1) rfl ki_1 ?_
            refine x_icne (tgt := 21) rfl rfl (ti_ne rfl jk_1 (bn_f (by omega) ?_))
            refine x_aloadn (x := 125) rfl rfl ?_
            refine z_getLQ (N := 92) 12 12 rfl f_12_224 rfl J rfl (fun v47 qv47 => ?_)
            have ev47 := jfullL v47
            try have kqv47 : v44.toInt = v47.toInt := ((vrfL qv44).symm.trans (vrfL qv47))
            try rw [kqv47] at D
            try rw [vrfL qv47] at D
            refine x_lloadn (x := 23716) rfl rfl ?_
            refine z_lcmp rfl rfl jkl_23716 (fun v48 ev48 => ?_)
            refine x_ifne (tgt := 21) rfl rfl (ti_ne rfl jk_0 ⟨fun c49 => ?_, fun c49 => ?_⟩)
            ·
              rw [if_neg (by omega)] at D
              refine x_iconst (v := 0) rfl ki_0 ?_
              refine x_zret rfl rfl (by decide) ?_
              show jX m_X12_groundAt 2 0 0 81 [(0, .ref 125)] [.int 0] _ 0 0 _
              refine x_ifeq (tgt := 88) rfl rfl (ti_eq jk_0 jk_0 (br_t (by omega) ?_))
              refine x_aloadn (x := 125) rfl rfl ?_
              refine x_ldc2 (v := 17232476819) rfl z_12_595 ?_
              refine x_inv (N := m_X12_isWord) (As := [.long 17232476819]) (b := 125) (st := []) (dx9 := 1) (mc := 0) (ms := 0) (host := "") 12 rfl t_X12_isWord ⟨Or.inl q_12_511, i_X12_isWord.1, i_X12_isWord.2⟩ ⟨by decide, rfl⟩ (congrArg Prod.fst (J.1.1 125 (12, 92) rfl)) rfl (by decide) rfl rfl ⟨by decide, by decide⟩ (jC.of rfl k_X12_isWord rfl ?_)
              show jX m_X12_isWord 1 0 0 0 [(0, .ref 125), (1, .long 17232476819)] [] _ 0 0 _
              refine x_aloadn (x := 125) rfl rfl ?_
              refine z_getM (N := 92) (v := v1) 12 11 rfl f_12_235 rfl J rfl qv1 ?_
              refine x_iconst (v := 1) rfl ki_1 ?_
              refine x_icne (tgt := 21) rfl rfl (ti_ne rfl jk_1 (bn_f (by omega) ?_))
              refine x_aloadn (x := 125) rfl rfl ?_
              refine z_getLQ (N := 92) 12 12 rfl f_12_224 rfl J rfl (fun v50 qv50 => ?_)
              have ev50 := jfullL v50
              try have kqv50 : v47.toInt = v50.toInt := ((vrfL qv47).symm.trans (vrfL qv50))
              try rw [kqv50] at D
              try rw [vrfL qv50] at D
              refine x_lloadn (x := 17232476819) rfl rfl ?_
              refine z_lcmp rfl rfl jkl_17232476819 (fun v51 ev51 => ?_)
              refine x_ifne (tgt := 21) rfl rfl (ti_ne rfl jk_0 ⟨fun c52 => ?_, fun c52 => ?_⟩)
              ·
                rw [if_neg (by omega)] at D
                refine x_iconst (v := 0) rfl ki_0 ?_
                refine x_zret rfl rfl (by decide) ?_
                show jX m_X12_groundAt 2 0 0 95 [(0, .ref 125)] [.int 0] _ 0 0 _
                refine x_ifeq (tgt := 102) rfl rfl (ti_eq jk_0 jk_0 (br_t (by omega) ?_))
                refine x_iconst (v := (-1)) rfl ki_m1 ?_
                exact jX.sub jsb_n (ct_X12_groundAt_r125d_100103 hD hQ  h J Sm D EV)
              ·
                rw [if_pos (by omega)] at D
                refine x_iconst (v := 1) rfl ki_1 ?_
                refine x_goto (tgt := 22) rfl rfl ?_
                refine x_zret rfl rfl (by decide) ?_
                show jX m_X12_groundAt 2 0 0 95 [(0, .ref 125)] [.int 1] _ 0 0 _
                refine x_ifeq (tgt := 102) rfl rfl (ti_eq jk_1 jk_0 (br_f (by omega) ?_))
                refine x_iconst (v := 5) rfl ki_5 ?_
                refine x_goto (tgt := 103) rfl rfl ?_
                exact jX.sub jsb_n (ct_X12_groundAt_r125d_700103 hD hQ  h J Sm D EV)
            ·
              rw [if_pos (by omega)] at D
              refine x_iconst (v := 1) rfl ki_1 ?_
              refine x_goto (tgt := 22) rfl rfl ?_
              refine x_zret rfl rfl (by decide) ?_
              show jX m_X12_groundAt 2 0 0 81 [(0, .ref 125)] [.int 1] _ 0 0 _
              refine x_ifeq (tgt := 88) rfl rfl (ti_eq jk_1 jk_0 (br_f (by omega) ?_))
              refine x_iconst (v := 4) rfl ki_4 ?_
              refine x_goto (tgt := 103) rfl rfl ?_
              exact jX.sub jsb_n (ct_X12_groundAt_r125d_600103 hD hQ  h J Sm D EV)
          ·
            rw [if_pos (by omega)] at D
            refine x_iconst (v := 1) rfl ki_1 ?_
            refine x_goto (tgt := 22) rfl rfl ?_
            refine x_zret rfl rfl (by decide) ?_
            show jX m_X12_groundAt 2 0 0 67 [(0, .ref 125)] [.int 1] _ 0 0 _
            refine x_ifeq (tgt := 74) rfl rfl (ti_eq jk_1 jk_0 (br_f (by omega) ?_))
            refine x_iconst (v := 3) rfl ki_3 ?_
            refine x_goto (tgt := 103) rfl rfl ?_
            exact jX.sub jsb_n (ct_X12_groundAt_r125d_500103 hD hQ  h J Sm D EV)
        ·
          rw [if_pos (by omega)] at D
          refine x_iconst (v := 1) rfl ki_1 ?_
          refine x_goto (tgt := 22) rfl rfl ?_
          refine x_zret rfl rfl (by decide) ?_
          show jX m_X12_groundAt 2 0 0 27 [(0, .ref 125)] [.int 1] _ 0 0 _
          refine x_ifeq (tgt := 60) rfl rfl (ti_eq jk_1 jk_0 (br_f (by omega) ?_))
          exact jX.sub (jsb_c rfl jsb_n) (ct_X12_groundAt_r125d_30 hD hQ  v1 h (jr_of rfl (by omega)) qv1 J Sm D EV)
      ·
        rw [if_pos (by omega)] at D
        refine x_iconst (v := 1) rfl ki_1 ?_
        refine x_goto (tgt := 22) rfl rfl ?_
        refine x_zret rfl rfl (by decide) ?_
        show jX m_X12_groundAt 2 0 0 17 [(0, .ref 125)] [.int 1] _ 0 0 _
        refine x_ifne (tgt := 30) rfl rfl (ti_ne jk_1 jk_0 (bn_t (by omega) ?_))
        exact jX.sub (jsb_c rfl jsb_n) (ct_X12_groundAt_r125d_30 hD hQ  v1 h (jr_of rfl (by omega)) qv1 J Sm D EV)
  ·
    rw [if_pos (by omega)] at D
    refine x_aloadn (x := 125) rfl rfl ?_
    refine z_getLQ (N := 92) 12 12 rfl f_12_224 rfl J rfl (fun v53 qv53 => ?_)
    have ev53 := jfullL v53
    try rw [vrfL qv53] at D
    refine x_lloadn (x := 2411144) rfl rfl ?_
    refine z_lcmp rfl rfl jkl_2411144 (fun v54 ev54 => ?_)
    refine x_ifne (tgt := 21) rfl rfl (ti_ne rfl jk_0 ⟨fun c55 => ?_, fun c55 => ?_⟩)
    ·
      rw [if_neg (by omega)] at D
      refine x_iconst (v := 0) rfl ki_0 ?_
      refine x_zret rfl rfl (by decide) ?_
      show jX m_X12_groundAt 2 0 0 7 [(0, .ref 125)] [.int 0] _ 0 0 _
      refine x_ifne (tgt := 30) rfl rfl (ti_ne jk_0 jk_0 (bn_f (by omega) ?_))
      refine x_aloadn (x := 125) rfl rfl ?_
      refine x_ldc2 (v := 271941) rfl z_12_587 ?_
      refine x_inv (N := m_X12_isWord) (As := [.long 271941]) (b := 125) (st := []) (dx9 := 1) (mc := 0) (ms := 0) (host := "") 12 rfl t_X12_isWord ⟨Or.inl q_12_511, i_X12_isWord.1, i_X12_isWord.2⟩ ⟨by decide, rfl⟩ (congrArg Prod.fst (J.1.1 125 (12, 92) rfl)) rfl (by decide) rfl rfl ⟨by decide, by decide⟩ (jC.of rfl k_X12_isWord rfl ?_)
      show jX m_X12_isWord 1 0 0 0 [(0, .ref 125), (1, .long 271941)] [] _ 0 0 _
      refine x_aloadn (x := 125) rfl rfl ?_
      refine z_getM (N := 92) (v := v1) 12 11 rfl f_12_235 rfl J rfl qv1 ?_
      refine x_iconst (v := 1) rfl ki_1 ?_
      refine x_icne (tgt := 21) rfl rfl (ti_ne rfl jk_1 (bn_f (by omega) ?_))
      refine x_aloadn (x := 125) rfl rfl ?_
      refine z_getLQ (N := 92) 12 12 rfl f_12_224 rfl J rfl (fun v56 qv56 => ?_)
      have ev56 := jfullL v56
      try have kqv56 : v53.toInt = v56.toInt := ((vrfL qv53).symm.trans (vrfL qv56))
      try rw [kqv56] at D
      try rw [vrfL qv56] at D
      refine x_lloadn (x := 271941) rfl rfl ?_
      refine z_lcmp rfl rfl jkl_271941 (fun v57 ev57 => ?_)
      refine x_ifne (tgt := 21) rfl rfl (ti_ne rfl jk_0 ⟨fun c58 => ?_, fun c58 => ?_⟩)
      ·
        rw [if_neg (by omega)] at D
        refine x_iconst (v := 0) rfl ki_0 ?_
        refine x_zret rfl rfl (by decide) ?_
        show jX m_X12_groundAt 2 0 0 17 [(0, .ref 125)] [.int 0] _ 0 0 _
        refine x_ifne (tgt := 30) rfl rfl (ti_ne jk_0 jk_0 (bn_f (by omega) ?_))
        refine x_aloadn (x := 125) rfl rfl ?_
        refine x_ldc2 (v := 595412) rfl z_12_589 ?_
        refine x_inv (N := m_X12_isWord) (As := [.long 595412]) (b := 125) (st := []) (dx9 := 1) (mc := 0) (ms := 0) (host := "") 12 rfl t_X12_isWord ⟨Or.inl q_12_511, i_X12_isWord.1, i_X12_isWord.2⟩ ⟨by decide, rfl⟩ (congrArg Prod.fst (J.1.1 125 (12, 92) rfl)) rfl (by decide) rfl rfl ⟨by decide, by decide⟩ (jC.of rfl k_X12_isWord rfl ?_)
        show jX m_X12_isWord 1 0 0 0 [(0, .ref 125), (1, .long 595412)] [] _ 0 0 _
        refine x_aloadn (x := 125) rfl rfl ?_
        refine z_getM (N := 92) (v := v1) 12 11 rfl f_12_235 rfl J rfl qv1 ?_
        refine x_iconst (v := 1) rfl ki_1 ?_
        refine x_icne (tgt := 21) rfl rfl (ti_ne rfl jk_1 (bn_f (by omega) ?_))
        refine x_aloadn (x := 125) rfl rfl ?_
        refine z_getLQ (N := 92) 12 12 rfl f_12_224 rfl J rfl (fun v59 qv59 => ?_)
        have ev59 := jfullL v59
        try have kqv59 : v56.toInt = v59.toInt := ((vrfL qv56).symm.trans (vrfL qv59))
        try rw [kqv59] at D
        try rw [vrfL qv59] at D
        refine x_lloadn (x := 595412) rfl rfl ?_
        refine z_lcmp rfl rfl jkl_595412 (fun v60 ev60 => ?_)
        refine x_ifne (tgt := 21) rfl rfl (ti_ne rfl jk_0 ⟨fun c61 => ?_, fun c61 => ?_⟩)
        ·
          rw [if_neg (by omega)] at D
          refine x_iconst (v := 0) rfl ki_0 ?_
          refine x_zret rfl rfl (by decide) ?_
          show jX m_X12_groundAt 2 0 0 27 [(0, .ref 125)] [.int 0] _ 0 0 _
          refine x_ifeq (tgt := 60) rfl rfl (ti_eq jk_0 jk_0 (br_t (by omega) ?_))
          refine x_aloadn (x := 125) rfl rfl ?_
          refine x_ldc2 (v := 509813861) rfl z_12_591 ?_
          refine x_inv (N := m_X12_isWord) (As := [.long 509813861]) (b := 125) (st := []) (dx9 := 1) (mc := 0) (ms := 0) (host := "") 12 rfl t_X12_isWord ⟨Or.inl q_12_511, i_X12_isWord.1, i_X12_isWord.2⟩ ⟨by decide, rfl⟩ (congrArg Prod.fst (J.1.1 125 (12, 92) rfl)) rfl (by decide) rfl rfl ⟨by decide, by decide⟩ (jC.of rfl k_X12_isWord rfl ?_)
          show jX m_X12_isWord 1 0 0 0 [(0, .ref 125), (1, .long 509813861)] [] _ 0 0 _
          refine x_aloadn (x := 125) rfl rfl ?_
          refine z_getM (N := 92) (v := v1) 12 11 rfl f_12_235 rfl J rfl qv1 ?_
          refine x_iconst (v := 1) rfl ki_1 ?_
          refine x_icne (tgt := 21) rfl rfl (ti_ne rfl jk_1 (bn_f (by omega) ?_))
          refine x_aloadn (x := 125) rfl rfl ?_
          refine z_getLQ (N := 92) 12 12 rfl f_12_224 rfl J rfl (fun v62 qv62 => ?_)
          have ev62 := jfullL v62
          try have kqv62 : v59.toInt = v62.toInt := ((vrfL qv59).symm.trans (vrfL qv62))
          try rw [kqv62] at D
          try rw [vrfL qv62] at D
          refine x_lloadn (x := 509813861) rfl rfl ?_
          refine z_lcmp rfl rfl jkl_509813861 (fun v63 ev63 => ?_)
          refine x_ifne (tgt := 21) rfl rfl (ti_ne rfl jk_0 ⟨fun c64 => ?_, fun c64 => ?_⟩)
          ·
            rw [if_neg (by omega)] at D
            refine x_iconst (v := 0) rfl ki_0 ?_
            refine x_zret rfl rfl (by decide) ?_
            show jX m_X12_groundAt 2 0 0 67 [(0, .ref 125)] [.int 0] _ 0 0 _
            refine x_ifeq (tgt := 74) rfl rfl (ti_eq jk_0 jk_0 (br_t (by omega) ?_))
            refine x_aloadn (x := 125) rfl rfl ?_
            refine x_ldc2 (v := 23716) rfl z_12_593 ?_
            refine x_inv (N := m_X12_isWord) (As := [.long 23716]) (b := 125) (st := []) (dx9 := 1) (mc := 0) (ms := 0) (host := "") 12 rfl t_X12_isWord ⟨Or.inl q_12_511, i_X12_isWord.1, i_X12_isWord.2⟩ ⟨by decide, rfl⟩ (congrArg Prod.fst (J.1.1 125 (12, 92) rfl)) rfl (by decide) rfl rfl ⟨by decide, by decide⟩ (jC.of rfl k_X12_isWord rfl ?_)
            show jX m_X12_isWord 1 0 0 0 [(0, .ref 125), (1, .long 23716)] [] _ 0 0 _
            refine x_aloadn (x := 125) rfl rfl ?_
            refine z_getM (N := 92) (v := v1) 12 11 rfl f_12_235 rfl J rfl qv1 ?_
            refine x_iconst (v := 1) rfl ki_1 ?_
            refine x_icne (tgt := 21) rfl rfl (ti_ne rfl jk_1 (bn_f (by omega) ?_))
            refine x_aloadn (x := 125) rfl rfl ?_
            refine z_getLQ (N := 92) 12 12 rfl f_12_224 rfl J rfl (fun v65 qv65 => ?_)
            have ev65 := jfullL v65
            try have kqv65 : v62.toInt = v65.toInt := ((vrfL qv62).symm.trans (vrfL qv65))
            try rw [kqv65] at D
            try rw [vrfL qv65] at D
            refine x_lloadn (x := 23716) rfl rfl ?_
            refine z_lcmp rfl rfl jkl_23716 (fun v66 ev66 => ?_)
            refine x_ifne (tgt := 21) rfl rfl (ti_ne rfl jk_0 ⟨fun c67 => ?_, fun c67 => ?_⟩)
            ·
              rw [if_neg (by omega)] at D
              refine x_iconst (v := 0) rfl ki_0 ?_
              refine x_zret rfl rfl (by decide) ?_
              show jX m_X12_groundAt 2 0 0 81 [(0, .ref 125)] [.int 0] _ 0 0 _
              refine x_ifeq (tgt := 88) rfl rfl (ti_eq jk_0 jk_0 (br_t (by omega) ?_))
              refine x_aloadn (x := 125) rfl rfl ?_
              refine x_ldc2 (v := 17232476819) rfl z_12_595 ?_
              refine x_inv (N := m_X12_isWord) (As := [.long 17232476819]) (b := 125) (st := []) (dx9 := 1) (mc := 0) (ms := 0) (host := "") 12 rfl t_X12_isWord ⟨Or.inl q_12_511, i_X12_isWord.1, i_X12_isWord.2⟩ ⟨by decide, rfl⟩ (congrArg Prod.fst (J.1.1 125 (12, 92) rfl)) rfl (by decide) rfl rfl ⟨by decide, by decide⟩ (jC.of rfl k_X12_isWord rfl ?_)
              show jX m_X12_isWord 1 0 0 0 [(0, .ref 125), (1, .long 17232476819)] [] _ 0 0 _
              refine x_aloadn (x := 125) rfl rfl ?_
              refine z_getM (N := 92) (v := v1) 12 11 rfl f_12_235 rfl J rfl qv1 ?_
              refine x_iconst (v := 1) rfl ki_1 ?_
              refine x_icne (tgt := 21) rfl rfl (ti_ne rfl jk_1 (bn_f (by omega) ?_))
              refine x_aloadn (x := 125) rfl rfl ?_
              refine z_getLQ (N := 92) 12 12 rfl f_12_224 rfl J rfl (fun v68 qv68 => ?_)
              have ev68 := jfullL v68
              try have kqv68 : v65.toInt = v68.toInt := ((vrfL qv65).symm.trans (vrfL qv68))
              try rw [kqv68] at D
              try rw [vrfL qv68] at D
              refine x_lloadn (x := 17232476819) rfl rfl ?_
              refine z_lcmp rfl rfl jkl_17232476819 (fun v69 ev69 => ?_)
              refine x_ifne (tgt := 21) rfl rfl (ti_ne rfl jk_0 ⟨fun c70 => ?_, fun c70 => ?_⟩)
              ·
                rw [if_neg (by omega)] at D
                refine x_iconst (v := 0) rfl ki_0 ?_
                refine x_zret rfl rfl (by decide) ?_
                show jX m_X12_groundAt 2 0 0 95 [(0, .ref 125)] [.int 0] _ 0 0 _
                refine x_ifeq (tgt := 102) rfl rfl (ti_eq jk_0 jk_0 (br_t (by omega) ?_))
                refine x_iconst (v := (-1)) rfl ki_m1 ?_
                exact jX.sub jsb_n (ct_X12_groundAt_r125d_100103 hD hQ  h J Sm D EV)
              ·
                rw [if_pos (by omega)] at D
                refine x_iconst (v := 1) rfl ki_1 ?_
                refine x_goto (tgt := 22) rfl rfl ?_
                refine x_zret rfl rfl (by decide) ?_
                show jX m_X12_groundAt 2 0 0 95 [(0, .ref 125)] [.int 1] _ 0 0 _
                refine x_ifeq (tgt := 102) rfl rfl (ti_eq jk_1 jk_0 (br_f (by omega) ?_))
                refine x_iconst (v := 5) rfl ki_5 ?_
                refine x_goto (tgt := 103) rfl rfl ?_
                exact jX.sub jsb_n (ct_X12_groundAt_r125d_700103 hD hQ  h J Sm D EV)
            ·
              rw [if_pos (by omega)] at D
              refine x_iconst (v := 1) rfl ki_1 ?_
              refine x_goto (tgt := 22) rfl rfl ?_
              refine x_zret rfl rfl (by decide) ?_
              show jX m_X12_groundAt 2 0 0 81 [(0, .ref 125)] [.int 1] _ 0 0 _
              refine x_ifeq (tgt := 88) rfl rfl (ti_eq jk_1 jk_0 (br_f (by omega) ?_))
              refine x_iconst (v := 4) rfl ki_4 ?_
              refine x_goto (tgt := 103) rfl rfl ?_
              exact jX.sub jsb_n (ct_X12_groundAt_r125d_600103 hD hQ  h J Sm D EV)
          ·
            rw [if_pos (by omega)] at D
            refine x_iconst (v := 1) rfl ki_1 ?_
            refine x_goto (tgt := 22) rfl rfl ?_
            refine x_zret rfl rfl (by decide) ?_
            show jX m_X12_groundAt 2 0 0 67 [(0, .ref 125)] [.int 1] _ 0 0 _
            refine x_ifeq (tgt := 74) rfl rfl (ti_eq jk_1 jk_0 (br_f (by omega) ?_))
            refine x_iconst (v := 3) rfl ki_3 ?_
            refine x_goto (tgt := 103) rfl rfl ?_
            exact jX.sub jsb_n (ct_X12_groundAt_r125d_500103 hD hQ  h J Sm D EV)
        ·
          rw [if_pos (by omega)] at D
          refine x_iconst (v := 1) rfl ki_1 ?_
          refine x_goto (tgt := 22) rfl rfl ?_
          refine x_zret rfl rfl (by decide) ?_
          show jX m_X12_groundAt 2 0 0 27 [(0, .ref 125)] [.int 1] _ 0 0 _
          refine x_ifeq (tgt := 60) rfl rfl (ti_eq jk_1 jk_0 (br_f (by omega) ?_))
          exact jX.sub (jsb_c rfl jsb_n) (ct_X12_groundAt_r125d_30 hD hQ  v1 h (jr_of rfl (by omega)) qv1 J Sm D EV)
      ·
        rw [if_pos (by omega)] at D
        refine x_iconst (v := 1) rfl ki_1 ?_
        refine x_goto (tgt := 22) rfl rfl ?_
        refine x_zret rfl rfl (by decide) ?_
        show jX m_X12_groundAt 2 0 0 17 [(0, .ref 125)] [.int 1] _ 0 0 _
        refine x_ifne (tgt := 30) rfl rfl (ti_ne jk_1 jk_0 (bn_t (by omega) ?_))
        exact jX.sub (jsb_c rfl jsb_n) (ct_X12_groundAt_r125d_30 hD hQ  v1 h (jr_of rfl (by omega)) qv1 J Sm D EV)
    ·
      rw [if_pos (by omega)] at D
      refine x_iconst (v := 1) rfl ki_1 ?_
      refine x_goto (tgt := 22) rfl rfl ?_
      refine x_zret rfl rfl (by decide) ?_
      show jX m_X12_groundAt 2 0 0 7 [(0, .ref 125)] [.int 1] _ 0 0 _
      refine x_ifne (tgt := 30) rfl rfl (ti_ne jk_1 jk_0 (bn_t (by omega) ?_))
      exact jX.sub (jsb_c rfl jsb_n) (ct_X12_groundAt_r125d_30 hD hQ  v1 h (jr_of rfl (by omega)) qv1 J Sm D EV)
def fp_X12_kindAt_r125d : jFp := []
set_option maxRecDepth 100000 in
set_option maxHeartbeats 4000000 in
theorem ct_X12_kindAt_r125d_400059 {Dy : jH → Prop} {h0 : jH} {Q : Option Value → jH → Prop} {dr : Int} (hD : jDk Dy) (hQ : ∀ (v : Int32) hx9, (-1) ≤ v.toInt ∧ v.toInt ≤ 8 → jJ jSgM Dy hx9 → jSm fp_X12_kindAt_r125d h0 hx9 → dr = v.toInt → vw hx9 = vw h0 → Q (some (.int v)) hx9) : ∀ (h : jH), jJ jSgM Dy h → jSm fp_X12_kindAt_r125d h0 h → d_X12_kindAt_r125d_400059  (vw h) = dr → vw h = vw h0 → jX m_X12_kindAt 2 0 0 59 [] [.int 2] h 0 0 Q := by
  intro  h    J Sm D EV
  unfold d_X12_kindAt_r125d_400059 at D
  refine x_iret rfl rfl ?_
  exact hQ _ _ (jr_of jk_2 (by omega)) J Sm (D.symm.trans (show 2 = (2 : Int32).toInt from by have := jk_2; omega)) EV
set_option maxRecDepth 100000 in
set_option maxHeartbeats 4000000 in
theorem ct_X12_kindAt_r125d_300059 {Dy : jH → Prop} {h0 : jH} {Q : Option Value → jH → Prop} {dr : Int} (hD : jDk Dy) (hQ : ∀ (v : Int32) hx9, (-1) ≤ v.toInt ∧ v.toInt ≤ 8 → jJ jSgM Dy hx9 → jSm fp_X12_kindAt_r125d h0 hx9 → dr = v.toInt → vw hx9 = vw h0 → Q (some (.int v)) hx9) : ∀ (h : jH), jJ jSgM Dy h → jSm fp_X12_kindAt_r125d h0 h → d_X12_kindAt_r125d_300059  (vw h) = dr → vw h = vw h0 → jX m_X12_kindAt 2 0 0 59 [] [.int 1] h 0 0 Q := by
  intro  h    J Sm D EV
  unfold d_X12_kindAt_r125d_300059 at D
  refine x_iret rfl rfl ?_
  exact hQ _ _ (jr_of jk_1 (by omega)) J Sm (D.symm.trans (show 1 = (1 : Int32).toInt from by have := jk_1; omega)) EV
set_option maxRecDepth 100000 in
set_option maxHeartbeats 4000000 in
theorem ct_X12_kindAt_r125d_200059 {Dy : jH → Prop} {h0 : jH} {Q : Option Value → jH → Prop} {dr : Int} (hD : jDk Dy) (hQ : ∀ (v : Int32) hx9, (-1) ≤ v.toInt ∧ v.toInt ≤ 8 → jJ jSgM Dy hx9 → jSm fp_X12_kindAt_r125d h0 hx9 → dr = v.toInt → vw hx9 = vw h0 → Q (some (.int v)) hx9) : ∀ (h : jH), jJ jSgM Dy h → jSm fp_X12_kindAt_r125d h0 h → d_X12_kindAt_r125d_200059  (vw h) = dr → vw h = vw h0 → jX m_X12_kindAt 2 0 0 59 [] [.int 0] h 0 0 Q := by
  intro  h    J Sm D EV
  unfold d_X12_kindAt_r125d_200059 at D
  refine x_iret rfl rfl ?_
  exact hQ _ _ (jr_of jk_0 (by omega)) J Sm (D.symm.trans (show 0 = (0 : Int32).toInt from by have := jk_0; omega)) EV
set_option maxRecDepth 100000 in
set_option maxHeartbeats 4000000 in
theorem ct_X12_kindAt_r125d_30 {Dy : jH → Prop} {h0 : jH} {Q : Option Value → jH → Prop} {dr : Int} (hD : jDk Dy) (hQ : ∀ (v : Int32) hx9, (-1) ≤ v.toInt ∧ v.toInt ≤ 8 → jJ jSgM Dy hx9 → jSm fp_X12_kindAt_r125d h0 hx9 → dr = v.toInt → vw hx9 = vw h0 → Q (some (.int v)) hx9) : ∀ (g0 : Int32) (h : jH), 1 ≤ g0.toInt ∧ g0.toInt ≤ 1 → jiv h 125 11 = g0 → jJ jSgM Dy h → jSm fp_X12_kindAt_r125d h0 h → d_X12_kindAt_r125d_30  (vw h) = dr → vw h = vw h0 → jX m_X12_kindAt 2 0 0 30 [(0, .ref 125)] [] h 0 0 Q := by
  intro g0 h y0 z0  J Sm D EV
  unfold d_X12_kindAt_r125d_30 at D
  try rw [vrf z0] at D
  refine x_aloadn (x := 125) rfl rfl ?_
  refine x_ldc2 (v := 659105125) rfl z_12_615 ?_
  refine x_inv (N := m_X12_isWord) (As := [.long 659105125]) (b := 125) (st := []) (dx9 := 1) (mc := 0) (ms := 0) (host := "") 12 rfl t_X12_isWord ⟨Or.inl q_12_511, i_X12_isWord.1, i_X12_isWord.2⟩ ⟨by decide, rfl⟩ (congrArg Prod.fst (J.1.1 125 (12, 92) rfl)) rfl (by decide) rfl rfl ⟨by decide, by decide⟩ (jC.of rfl k_X12_isWord rfl ?_)
  show jX m_X12_isWord 1 0 0 0 [(0, .ref 125), (1, .long 659105125)] [] _ 0 0 _
  refine x_aloadn (x := 125) rfl rfl ?_
  refine z_getM (N := 92) (v := g0) 12 11 rfl f_12_235 rfl J rfl z0 ?_
  refine x_iconst (v := 1) rfl ki_1 ?_
  refine x_icne (tgt := 21) rfl rfl (ti_ne rfl jk_1 (bn_f (by omega) ?_))
  refine x_aloadn (x := 125) rfl rfl ?_
  refine z_getLQ (N := 92) 12 12 rfl f_12_224 rfl J rfl (fun v1 qv1 => ?_)
  have ev1 := jfullL v1
  try rw [vrfL qv1] at D
  refine x_lloadn (x := 659105125) rfl rfl ?_
  refine z_lcmp rfl rfl jkl_659105125 (fun v2 ev2 => ?_)
  refine x_ifne (tgt := 21) rfl rfl (ti_ne rfl jk_0 ⟨fun c3 => ?_, fun c3 => ?_⟩)
  ·
    rw [if_neg (by omega)] at D
    refine x_iconst (v := 0) rfl ki_0 ?_
    refine x_zret rfl rfl (by decide) ?_
    show jX m_X12_kindAt 2 0 0 37 [(0, .ref 125)] [.int 0] _ 0 0 _
    refine x_ifeq (tgt := 44) rfl rfl (ti_eq jk_0 jk_0 (br_t (by omega) ?_))
    refine x_aloadn (x := 125) rfl rfl ?_
    refine x_ldc2 (v := 72760775) rfl z_12_617 ?_
    refine x_inv (N := m_X12_isWord) (As := [.long 72760775]) (b := 125) (st := []) (dx9 := 1) (mc := 0) (ms := 0) (host := "") 12 rfl t_X12_isWord ⟨Or.inl q_12_511, i_X12_isWord.1, i_X12_isWord.2⟩ ⟨by decide, rfl⟩ (congrArg Prod.fst (J.1.1 125 (12, 92) rfl)) rfl (by decide) rfl rfl ⟨by decide, by decide⟩ (jC.of rfl k_X12_isWord rfl ?_)
    show jX m_X12_isWord 1 0 0 0 [(0, .ref 125), (1, .long 72760775)] [] _ 0 0 _
    refine x_aloadn (x := 125) rfl rfl ?_
    refine z_getM (N := 92) (v := g0) 12 11 rfl f_12_235 rfl J rfl z0 ?_
    refine x_iconst (v := 1) rfl ki_1 ?_
    refine x_icne (tgt := 21) rfl rfl (ti_ne rfl jk_1 (bn_f (by omega) ?_))
    refine x_aloadn (x := 125) rfl rfl ?_
    refine z_getLQ (N := 92) 12 12 rfl f_12_224 rfl J rfl (fun v4 qv4 => ?_)
    have ev4 := jfullL v4
    try have kqv4 : v1.toInt = v4.toInt := ((vrfL qv1).symm.trans (vrfL qv4))
    try rw [kqv4] at D
    try rw [vrfL qv4] at D
    refine x_lloadn (x := 72760775) rfl rfl ?_
    refine z_lcmp rfl rfl jkl_72760775 (fun v5 ev5 => ?_)
    refine x_ifne (tgt := 21) rfl rfl (ti_ne rfl jk_0 ⟨fun c6 => ?_, fun c6 => ?_⟩)
    ·
      rw [if_neg (by omega)] at D
      refine x_iconst (v := 0) rfl ki_0 ?_
      refine x_zret rfl rfl (by decide) ?_
      show jX m_X12_kindAt 2 0 0 51 [(0, .ref 125)] [.int 0] _ 0 0 _
      refine x_ifeq (tgt := 58) rfl rfl (ti_eq jk_0 jk_0 (br_t (by omega) ?_))
      refine x_iconst (v := 2) rfl ki_2 ?_
      exact jX.sub jsb_n (ct_X12_kindAt_r125d_400059 hD hQ  h J Sm D EV)
    ·
      rw [if_pos (by omega)] at D
      refine x_iconst (v := 1) rfl ki_1 ?_
      refine x_goto (tgt := 22) rfl rfl ?_
      refine x_zret rfl rfl (by decide) ?_
      show jX m_X12_kindAt 2 0 0 51 [(0, .ref 125)] [.int 1] _ 0 0 _
      refine x_ifeq (tgt := 58) rfl rfl (ti_eq jk_1 jk_0 (br_f (by omega) ?_))
      refine x_iconst (v := 1) rfl ki_1 ?_
      refine x_goto (tgt := 59) rfl rfl ?_
      exact jX.sub jsb_n (ct_X12_kindAt_r125d_300059 hD hQ  h J Sm D EV)
  ·
    rw [if_pos (by omega)] at D
    refine x_iconst (v := 1) rfl ki_1 ?_
    refine x_goto (tgt := 22) rfl rfl ?_
    refine x_zret rfl rfl (by decide) ?_
    show jX m_X12_kindAt 2 0 0 37 [(0, .ref 125)] [.int 1] _ 0 0 _
    refine x_ifeq (tgt := 44) rfl rfl (ti_eq jk_1 jk_0 (br_f (by omega) ?_))
    refine x_iconst (v := 0) rfl ki_0 ?_
    refine x_goto (tgt := 59) rfl rfl ?_
    exact jX.sub jsb_n (ct_X12_kindAt_r125d_200059 hD hQ  h J Sm D EV)
set_option maxRecDepth 100000 in
set_option maxHeartbeats 4000000 in
theorem ct_X12_kindAt_r125d_700119 {Dy : jH → Prop} {h0 : jH} {Q : Option Value → jH → Prop} {dr : Int} (hD : jDk Dy) (hQ : ∀ (v : Int32) hx9, (-1) ≤ v.toInt ∧ v.toInt ≤ 8 → jJ jSgM Dy hx9 → jSm fp_X12_kindAt_r125d h0 hx9 → dr = v.toInt → vw hx9 = vw h0 → Q (some (.int v)) hx9) : ∀ (h : jH), jJ jSgM Dy h → jSm fp_X12_kindAt_r125d h0 h → d_X12_kindAt_r125d_700119  (vw h) = dr → vw h = vw h0 → jX m_X12_kindAt 2 0 0 119 [] [.int 5] h 0 0 Q := by
  intro  h    J Sm D EV
  unfold d_X12_kindAt_r125d_700119 at D
  refine x_iret rfl rfl ?_
  exact hQ _ _ (jr_of jk_5 (by omega)) J Sm (D.symm.trans (show 5 = (5 : Int32).toInt from by have := jk_5; omega)) EV
set_option maxRecDepth 100000 in
set_option maxHeartbeats 4000000 in
theorem ct_X12_kindAt_r125d_600119 {Dy : jH → Prop} {h0 : jH} {Q : Option Value → jH → Prop} {dr : Int} (hD : jDk Dy) (hQ : ∀ (v : Int32) hx9, (-1) ≤ v.toInt ∧ v.toInt ≤ 8 → jJ jSgM Dy hx9 → jSm fp_X12_kindAt_r125d h0 hx9 → dr = v.toInt → vw hx9 = vw h0 → Q (some (.int v)) hx9) : ∀ (h : jH), jJ jSgM Dy h → jSm fp_X12_kindAt_r125d h0 h → d_X12_kindAt_r125d_600119  (vw h) = dr → vw h = vw h0 → jX m_X12_kindAt 2 0 0 119 [] [.int 4] h 0 0 Q := by
  intro  h    J Sm D EV
  unfold d_X12_kindAt_r125d_600119 at D
  refine x_iret rfl rfl ?_
  exact hQ _ _ (jr_of jk_4 (by omega)) J Sm (D.symm.trans (show 4 = (4 : Int32).toInt from by have := jk_4; omega)) EV
set_option maxRecDepth 100000 in
set_option maxHeartbeats 4000000 in
theorem ct_X12_kindAt_r125d_500119 {Dy : jH → Prop} {h0 : jH} {Q : Option Value → jH → Prop} {dr : Int} (hD : jDk Dy) (hQ : ∀ (v : Int32) hx9, (-1) ≤ v.toInt ∧ v.toInt ≤ 8 → jJ jSgM Dy hx9 → jSm fp_X12_kindAt_r125d h0 hx9 → dr = v.toInt → vw hx9 = vw h0 → Q (some (.int v)) hx9) : ∀ (h : jH), jJ jSgM Dy h → jSm fp_X12_kindAt_r125d h0 h → d_X12_kindAt_r125d_500119  (vw h) = dr → vw h = vw h0 → jX m_X12_kindAt 2 0 0 119 [] [.int 3] h 0 0 Q := by
  intro  h    J Sm D EV
  unfold d_X12_kindAt_r125d_500119 at D
  refine x_iret rfl rfl ?_
  exact hQ _ _ (jr_of jk_3 (by omega)) J Sm (D.symm.trans (show 3 = (3 : Int32).toInt from by have := jk_3; omega)) EV
set_option maxRecDepth 100000 in
set_option maxHeartbeats 4000000 in
theorem ct_X12_kindAt_r125d_90 {Dy : jH → Prop} {h0 : jH} {Q : Option Value → jH → Prop} {dr : Int} (hD : jDk Dy) (hQ : ∀ (v : Int32) hx9, (-1) ≤ v.toInt ∧ v.toInt ≤ 8 → jJ jSgM Dy hx9 → jSm fp_X12_kindAt_r125d h0 hx9 → dr = v.toInt → vw hx9 = vw h0 → Q (some (.int v)) hx9) : ∀ (g0 : Int32) (h : jH), 1 ≤ g0.toInt ∧ g0.toInt ≤ 1 → jiv h 125 11 = g0 → jJ jSgM Dy h → jSm fp_X12_kindAt_r125d h0 h → d_X12_kindAt_r125d_90  (vw h) = dr → vw h = vw h0 → jX m_X12_kindAt 2 0 0 90 [(0, .ref 125)] [] h 0 0 Q := by
  intro g0 h y0 z0  J Sm D EV
  unfold d_X12_kindAt_r125d_90 at D
  try rw [vrf z0] at D
  refine x_aloadn (x := 125) rfl rfl ?_
  refine x_ldc2 (v := 591493) rfl z_12_621 ?_
  refine x_inv (N := m_X12_isWord) (As := [.long 591493]) (b := 125) (st := []) (dx9 := 1) (mc := 0) (ms := 0) (host := "") 12 rfl t_X12_isWord ⟨Or.inl q_12_511, i_X12_isWord.1, i_X12_isWord.2⟩ ⟨by decide, rfl⟩ (congrArg Prod.fst (J.1.1 125 (12, 92) rfl)) rfl (by decide) rfl rfl ⟨by decide, by decide⟩ (jC.of rfl k_X12_isWord rfl ?_)
  show jX m_X12_isWord 1 0 0 0 [(0, .ref 125), (1, .long 591493)] [] _ 0 0 _
  refine x_aloadn (x := 125) rfl rfl ?_
  refine z_getM (N := 92) (v := g0) 12 11 rfl f_12_235 rfl J rfl z0 ?_
  refine x_iconst (v := 1) rfl ki_1 ?_
  refine x_icne (tgt := 21) rfl rfl (ti_ne rfl jk_1 (bn_f (by omega) ?_))
  refine x_aloadn (x := 125) rfl rfl ?_
  refine z_getLQ (N := 92) 12 12 rfl f_12_224 rfl J rfl (fun v1 qv1 => ?_)
  have ev1 := jfullL v1
  try rw [vrfL qv1] at D
  refine x_lloadn (x := 591493) rfl rfl ?_
  refine z_lcmp rfl rfl jkl_591493 (fun v2 ev2 => ?_)
  refine x_ifne (tgt := 21) rfl rfl (ti_ne rfl jk_0 ⟨fun c3 => ?_, fun c3 => ?_⟩)
  ·
    rw [if_neg (by omega)] at D
    refine x_iconst (v := 0) rfl ki_0 ?_
    refine x_zret rfl rfl (by decide) ?_
    show jX m_X12_kindAt 2 0 0 97 [(0, .ref 125)] [.int 0] _ 0 0 _
    refine x_ifeq (tgt := 104) rfl rfl (ti_eq jk_0 jk_0 (br_t (by omega) ?_))
    refine x_aloadn (x := 125) rfl rfl ?_
    refine x_ldc2 (v := 609625254) rfl z_12_623 ?_
    refine x_inv (N := m_X12_isWord) (As := [.long 609625254]) (b := 125) (st := []) (dx9 := 1) (mc := 0) (ms := 0) (host := "") 12 rfl t_X12_isWord ⟨Or.inl q_12_511, i_X12_isWord.1, i_X12_isWord.2⟩ ⟨by decide, rfl⟩ (congrArg Prod.fst (J.1.1 125 (12, 92) rfl)) rfl (by decide) rfl rfl ⟨by decide, by decide⟩ (jC.of rfl k_X12_isWord rfl ?_)
    show jX m_X12_isWord 1 0 0 0 [(0, .ref 125), (1, .long 609625254)] [] _ 0 0 _
    refine x_aloadn (x := 125) rfl rfl ?_
    refine z_getM (N := 92) (v := g0) 12 11 rfl f_12_235 rfl J rfl z0 ?_
    refine x_iconst (v := 1) rfl ki_1 ?_
    refine x_icne (tgt := 21) rfl rfl (ti_ne rfl jk_1 (bn_f (by omega) ?_))
    refine x_aloadn (x := 125) rfl rfl ?_
    refine z_getLQ (N := 92) 12 12 rfl f_12_224 rfl J rfl (fun v4 qv4 => ?_)
    have ev4 := jfullL v4
    try have kqv4 : v1.toInt = v4.toInt := ((vrfL qv1).symm.trans (vrfL qv4))
    try rw [kqv4] at D
    try rw [vrfL qv4] at D
    refine x_lloadn (x := 609625254) rfl rfl ?_
    refine z_lcmp rfl rfl jkl_609625254 (fun v5 ev5 => ?_)
    refine x_ifne (tgt := 21) rfl rfl (ti_ne rfl jk_0 ⟨fun c6 => ?_, fun c6 => ?_⟩)
    ·
      rw [if_neg (by omega)] at D
      refine x_iconst (v := 0) rfl ki_0 ?_
      refine x_zret rfl rfl (by decide) ?_
      show jX m_X12_kindAt 2 0 0 111 [(0, .ref 125)] [.int 0] _ 0 0 _
      refine x_ifeq (tgt := 118) rfl rfl (ti_eq jk_0 jk_0 (br_t (by omega) ?_))
      refine x_iconst (v := 5) rfl ki_5 ?_
      exact jX.sub jsb_n (ct_X12_kindAt_r125d_700119 hD hQ  h J Sm D EV)
    ·
      rw [if_pos (by omega)] at D
      refine x_iconst (v := 1) rfl ki_1 ?_
      refine x_goto (tgt := 22) rfl rfl ?_
      refine x_zret rfl rfl (by decide) ?_
      show jX m_X12_kindAt 2 0 0 111 [(0, .ref 125)] [.int 1] _ 0 0 _
      refine x_ifeq (tgt := 118) rfl rfl (ti_eq jk_1 jk_0 (br_f (by omega) ?_))
      refine x_iconst (v := 4) rfl ki_4 ?_
      refine x_goto (tgt := 119) rfl rfl ?_
      exact jX.sub jsb_n (ct_X12_kindAt_r125d_600119 hD hQ  h J Sm D EV)
  ·
    rw [if_pos (by omega)] at D
    refine x_iconst (v := 1) rfl ki_1 ?_
    refine x_goto (tgt := 22) rfl rfl ?_
    refine x_zret rfl rfl (by decide) ?_
    show jX m_X12_kindAt 2 0 0 97 [(0, .ref 125)] [.int 1] _ 0 0 _
    refine x_ifeq (tgt := 104) rfl rfl (ti_eq jk_1 jk_0 (br_f (by omega) ?_))
    refine x_iconst (v := 3) rfl ki_3 ?_
    refine x_goto (tgt := 119) rfl rfl ?_
    exact jX.sub jsb_n (ct_X12_kindAt_r125d_500119 hD hQ  h J Sm D EV)
set_option maxRecDepth 100000 in
set_option maxHeartbeats 4000000 in
theorem ct_X12_kindAt_r125d_100166 {Dy : jH → Prop} {h0 : jH} {Q : Option Value → jH → Prop} {dr : Int} (hD : jDk Dy) (hQ : ∀ (v : Int32) hx9, (-1) ≤ v.toInt ∧ v.toInt ≤ 8 → jJ jSgM Dy hx9 → jSm fp_X12_kindAt_r125d h0 hx9 → dr = v.toInt → vw hx9 = vw h0 → Q (some (.int v)) hx9) : ∀ (h : jH), jJ jSgM Dy h → jSm fp_X12_kindAt_r125d h0 h → d_X12_kindAt_r125d_100166  (vw h) = dr → vw h = vw h0 → jX m_X12_kindAt 2 0 0 166 [] [.int (-1)] h 0 0 Q := by
  intro  h    J Sm D EV
  unfold d_X12_kindAt_r125d_100166 at D
  refine x_iret rfl rfl ?_
  exact hQ _ _ (jr_of jk_m1 (by omega)) J Sm (D.symm.trans (show (-1) = ((-1) : Int32).toInt from by have := jk_m1; omega)) EV
set_option maxRecDepth 100000 in
set_option maxHeartbeats 4000000 in
theorem ct_X12_kindAt_r125d_1000166 {Dy : jH → Prop} {h0 : jH} {Q : Option Value → jH → Prop} {dr : Int} (hD : jDk Dy) (hQ : ∀ (v : Int32) hx9, (-1) ≤ v.toInt ∧ v.toInt ≤ 8 → jJ jSgM Dy hx9 → jSm fp_X12_kindAt_r125d h0 hx9 → dr = v.toInt → vw hx9 = vw h0 → Q (some (.int v)) hx9) : ∀ (h : jH), jJ jSgM Dy h → jSm fp_X12_kindAt_r125d h0 h → d_X12_kindAt_r125d_1000166  (vw h) = dr → vw h = vw h0 → jX m_X12_kindAt 2 0 0 166 [] [.int 8] h 0 0 Q := by
  intro  h    J Sm D EV
  unfold d_X12_kindAt_r125d_1000166 at D
  refine x_iret rfl rfl ?_
  exact hQ _ _ (jr_of jk_8 (by omega)) J Sm (D.symm.trans (show 8 = (8 : Int32).toInt from by have := jk_8; omega)) EV
set_option maxRecDepth 100000 in
set_option maxHeartbeats 4000000 in
theorem ct_X12_kindAt_r125d_900166 {Dy : jH → Prop} {h0 : jH} {Q : Option Value → jH → Prop} {dr : Int} (hD : jDk Dy) (hQ : ∀ (v : Int32) hx9, (-1) ≤ v.toInt ∧ v.toInt ≤ 8 → jJ jSgM Dy hx9 → jSm fp_X12_kindAt_r125d h0 hx9 → dr = v.toInt → vw hx9 = vw h0 → Q (some (.int v)) hx9) : ∀ (h : jH), jJ jSgM Dy h → jSm fp_X12_kindAt_r125d h0 h → d_X12_kindAt_r125d_900166  (vw h) = dr → vw h = vw h0 → jX m_X12_kindAt 2 0 0 166 [] [.int 7] h 0 0 Q := by
  intro  h    J Sm D EV
  unfold d_X12_kindAt_r125d_900166 at D
  refine x_iret rfl rfl ?_
  exact hQ _ _ (jr_of jk_7 (by omega)) J Sm (D.symm.trans (show 7 = (7 : Int32).toInt from by have := jk_7; omega)) EV
set_option maxRecDepth 100000 in
set_option maxHeartbeats 4000000 in
theorem ct_X12_kindAt_r125d_800166 {Dy : jH → Prop} {h0 : jH} {Q : Option Value → jH → Prop} {dr : Int} (hD : jDk Dy) (hQ : ∀ (v : Int32) hx9, (-1) ≤ v.toInt ∧ v.toInt ≤ 8 → jJ jSgM Dy hx9 → jSm fp_X12_kindAt_r125d h0 hx9 → dr = v.toInt → vw hx9 = vw h0 → Q (some (.int v)) hx9) : ∀ (h : jH), jJ jSgM Dy h → jSm fp_X12_kindAt_r125d h0 h → d_X12_kindAt_r125d_800166  (vw h) = dr → vw h = vw h0 → jX m_X12_kindAt 2 0 0 166 [] [.int 6] h 0 0 Q := by
  intro  h    J Sm D EV
  unfold d_X12_kindAt_r125d_800166 at D
  refine x_iret rfl rfl ?_
  exact hQ _ _ (jr_of jk_6 (by omega)) J Sm (D.symm.trans (show 6 = (6 : Int32).toInt from by have := jk_6; omega)) EV
set_option maxRecDepth 100000 in
set_option maxHeartbeats 4000000 in
theorem sf_X12_kindAt_r125d {Dy : jH → Prop} {h : jH} {Q : Option Value → jH → Prop} {dr : Int} (hD : jDk Dy) (J : jJ jSgM Dy h) (D : d_X12_kindAt_r125d (vw h) = dr) (hQ : ∀ (v : Int32) hx9, (-1) ≤ v.toInt ∧ v.toInt ≤ 8 → jJ jSgM Dy hx9 → jSm fp_X12_kindAt_r125d h hx9 → dr = v.toInt → vw hx9 = vw h → Q (some (.int v)) hx9) : jC m_X12_kindAt 2 0 0 [.ref 125] h Q := by
  refine jC.of rfl k_X12_kindAt rfl ?_
  have Sm := jSm_rf fp_X12_kindAt_r125d h
  show jX m_X12_kindAt 2 0 0 0 [(0, .ref 125)] [] _ 0 0 _
  unfold d_X12_kindAt_r125d at D
  have EV : vw h = vw h := rfl
  refine x_aloadn (x := 125) rfl rfl ?_
  refine x_ldc2 (v := 659105125) rfl z_12_615 ?_
  refine x_inv (N := m_X12_isWord) (As := [.long 659105125]) (b := 125) (st := []) (dx9 := 1) (mc := 0) (ms := 0) (host := "") 12 rfl t_X12_isWord ⟨Or.inl q_12_511, i_X12_isWord.1, i_X12_isWord.2⟩ ⟨by decide, rfl⟩ (congrArg Prod.fst (J.1.1 125 (12, 92) rfl)) rfl (by decide) rfl rfl ⟨by decide, by decide⟩ (jC.of rfl k_X12_isWord rfl ?_)
  show jX m_X12_isWord 1 0 0 0 [(0, .ref 125), (1, .long 659105125)] [] _ 0 0 _
  refine x_aloadn (x := 125) rfl rfl ?_
  refine z_getI (N := 92) 12 11 rfl f_12_235 rfl J rfl sg_125_11_12_1_0_1 (fun v1 qv1 ev1 => ?_)
  try rw [vrf qv1] at D
  refine x_iconst (v := 1) rfl ki_1 ?_
  refine x_icne (tgt := 21) rfl rfl (ti_ne rfl jk_1 ⟨fun c2 => ?_, fun c2 => ?_⟩)
  ·
    rw [if_neg (by omega)] at D
    refine x_iconst (v := 0) rfl ki_0 ?_
    refine x_zret rfl rfl (by decide) ?_
    show jX m_X12_kindAt 2 0 0 7 [(0, .ref 125)] [.int 0] _ 0 0 _
    refine x_ifne (tgt := 30) rfl rfl (ti_ne jk_0 jk_0 (bn_f (by omega) ?_))
    refine x_aloadn (x := 125) rfl rfl ?_
    refine x_ldc2 (v := 72760775) rfl z_12_617 ?_
    refine x_inv (N := m_X12_isWord) (As := [.long 72760775]) (b := 125) (st := []) (dx9 := 1) (mc := 0) (ms := 0) (host := "") 12 rfl t_X12_isWord ⟨Or.inl q_12_511, i_X12_isWord.1, i_X12_isWord.2⟩ ⟨by decide, rfl⟩ (congrArg Prod.fst (J.1.1 125 (12, 92) rfl)) rfl (by decide) rfl rfl ⟨by decide, by decide⟩ (jC.of rfl k_X12_isWord rfl ?_)
    show jX m_X12_isWord 1 0 0 0 [(0, .ref 125), (1, .long 72760775)] [] _ 0 0 _
    refine x_aloadn (x := 125) rfl rfl ?_
    refine z_getM (N := 92) (v := v1) 12 11 rfl f_12_235 rfl J rfl qv1 ?_
    refine x_iconst (v := 1) rfl ki_1 ?_
    refine x_icne (tgt := 21) rfl rfl (ti_ne rfl jk_1 ⟨fun c3 => ?_, fun c3 => ?_⟩)
    ·
      rw [if_neg (by omega)] at D
      refine x_iconst (v := 0) rfl ki_0 ?_
      refine x_zret rfl rfl (by decide) ?_
      show jX m_X12_kindAt 2 0 0 17 [(0, .ref 125)] [.int 0] _ 0 0 _
      refine x_ifne (tgt := 30) rfl rfl (ti_ne jk_0 jk_0 (bn_f (by omega) ?_))
      refine x_aloadn (x := 125) rfl rfl ?_
      refine x_ldc2 (v := 193115668) rfl z_12_619 ?_
      refine x_inv (N := m_X12_isWord) (As := [.long 193115668]) (b := 125) (st := []) (dx9 := 1) (mc := 0) (ms := 0) (host := "") 12 rfl t_X12_isWord ⟨Or.inl q_12_511, i_X12_isWord.1, i_X12_isWord.2⟩ ⟨by decide, rfl⟩ (congrArg Prod.fst (J.1.1 125 (12, 92) rfl)) rfl (by decide) rfl rfl ⟨by decide, by decide⟩ (jC.of rfl k_X12_isWord rfl ?_)
      show jX m_X12_isWord 1 0 0 0 [(0, .ref 125), (1, .long 193115668)] [] _ 0 0 _
      refine x_aloadn (x := 125) rfl rfl ?_
      refine z_getM (N := 92) (v := v1) 12 11 rfl f_12_235 rfl J rfl qv1 ?_
      refine x_iconst (v := 1) rfl ki_1 ?_
      refine x_icne (tgt := 21) rfl rfl (ti_ne rfl jk_1 ⟨fun c4 => ?_, fun c4 => ?_⟩)
      ·
        rw [if_neg (by omega)] at D
        refine x_iconst (v := 0) rfl ki_0 ?_
        refine x_zret rfl rfl (by decide) ?_
        show jX m_X12_kindAt 2 0 0 27 [(0, .ref 125)] [.int 0] _ 0 0 _
        refine x_ifeq (tgt := 60) rfl rfl (ti_eq jk_0 jk_0 (br_t (by omega) ?_))
        refine x_aloadn (x := 125) rfl rfl ?_
        refine x_ldc2 (v := 591493) rfl z_12_621 ?_
        refine x_inv (N := m_X12_isWord) (As := [.long 591493]) (b := 125) (st := []) (dx9 := 1) (mc := 0) (ms := 0) (host := "") 12 rfl t_X12_isWord ⟨Or.inl q_12_511, i_X12_isWord.1, i_X12_isWord.2⟩ ⟨by decide, rfl⟩ (congrArg Prod.fst (J.1.1 125 (12, 92) rfl)) rfl (by decide) rfl rfl ⟨by decide, by decide⟩ (jC.of rfl k_X12_isWord rfl ?_)
        show jX m_X12_isWord 1 0 0 0 [(0, .ref 125), (1, .long 591493)] [] _ 0 0 _
        refine x_aloadn (x := 125) rfl rfl ?_
        refine z_getM (N := 92) (v := v1) 12 11 rfl f_12_235 rfl J rfl qv1 ?_
        refine x_iconst (v := 1) rfl ki_1 ?_
        refine x_icne (tgt := 21) rfl rfl (ti_ne rfl jk_1 ⟨fun c5 => ?_, fun c5 => ?_⟩)
        ·
          rw [if_neg (by omega)] at D
          refine x_iconst (v := 0) rfl ki_0 ?_
          refine x_zret rfl rfl (by decide) ?_
          show jX m_X12_kindAt 2 0 0 67 [(0, .ref 125)] [.int 0] _ 0 0 _
          refine x_ifne (tgt := 90) rfl rfl (ti_ne jk_0 jk_0 (bn_f (by omega) ?_))
          refine x_aloadn (x := 125) rfl rfl ?_
          refine x_ldc2 (v := 609625254) rfl z_12_623 ?_
          refine x_inv (N := m_X12_isWord) (As := [.long 609625254]) (b := 125) (st := []) (dx9 := 1) (mc := 0) (ms := 0) (host := "") 12 rfl t_X12_isWord ⟨Or.inl q_12_511, i_X12_isWord.1, i_X12_isWord.2⟩ ⟨by decide, rfl⟩ (congrArg Prod.fst (J.1.1 125 (12, 92) rfl)) rfl (by decide) rfl rfl ⟨by decide, by decide⟩ (jC.of rfl k_X12_isWord rfl ?_)
          show jX m_X12_isWord 1 0 0 0 [(0, .ref 125), (1, .long 609625254)] [] _ 0 0 _
          refine x_aloadn (x := 125) rfl rfl ?_
          refine z_getM (N := 92) (v := v1) 12 11 rfl f_12_235 rfl J rfl qv1 ?_
          refine x_iconst (v := 1) rfl ki_1 ?_
          refine x_icne (tgt := 21) rfl rfl (ti_ne rfl jk_1 ⟨fun c6 => ?_, fun c6 => ?_⟩)
          ·
            rw [if_neg (by omega)] at D
            refine x_iconst (v := 0) rfl ki_0 ?_
            refine x_zret rfl rfl (by decide) ?_
            show jX m_X12_kindAt 2 0 0 77 [(0, .ref 125)] [.int 0] _ 0 0 _
            refine x_ifne (tgt := 90) rfl rfl (ti_ne jk_0 jk_0 (bn_f (by omega) ?_))
            refine x_aloadn (x := 125) rfl rfl ?_
            refine x_ldc2 (v := 2134245) rfl z_12_625 ?_
            refine x_inv (N := m_X12_isWord) (As := [.long 2134245]) (b := 125) (st := []) (dx9 := 1) (mc := 0) (ms := 0) (host := "") 12 rfl t_X12_isWord ⟨Or.inl q_12_511, i_X12_isWord.1, i_X12_isWord.2⟩ ⟨by decide, rfl⟩ (congrArg Prod.fst (J.1.1 125 (12, 92) rfl)) rfl (by decide) rfl rfl ⟨by decide, by decide⟩ (jC.of rfl k_X12_isWord rfl ?_)
            show jX m_X12_isWord 1 0 0 0 [(0, .ref 125), (1, .long 2134245)] [] _ 0 0 _
            refine x_aloadn (x := 125) rfl rfl ?_
            refine z_getM (N := 92) (v := v1) 12 11 rfl f_12_235 rfl J rfl qv1 ?_
            refine x_iconst (v := 1) rfl ki_1 ?_
            refine x_icne (tgt := 21) rfl rfl (ti_ne rfl jk_1 ⟨fun c7 => ?_, fun c7 => ?_⟩)
            ·
              rw [if_neg (by omega)] at D
              refine x_iconst (v := 0) rfl ki_0 ?_
              refine x_zret rfl rfl (by decide) ?_
              show jX m_X12_kindAt 2 0 0 87 [(0, .ref 125)] [.int 0] _ 0 0 _
              refine x_ifeq (tgt := 120) rfl rfl (ti_eq jk_0 jk_0 (br_t (by omega) ?_))
              refine x_aloadn (x := 125) rfl rfl ?_
              refine x_ldc2 (v := 677454) rfl z_12_627 ?_
              refine x_inv (N := m_X12_isWord) (As := [.long 677454]) (b := 125) (st := []) (dx9 := 1) (mc := 0) (ms := 0) (host := "") 12 rfl t_X12_isWord ⟨Or.inl q_12_511, i_X12_isWord.1, i_X12_isWord.2⟩ ⟨by decide, rfl⟩ (congrArg Prod.fst (J.1.1 125 (12, 92) rfl)) rfl (by decide) rfl rfl ⟨by decide, by decide⟩ (jC.of rfl k_X12_isWord rfl ?_)
              show jX m_X12_isWord 1 0 0 0 [(0, .ref 125), (1, .long 677454)] [] _ 0 0 _
              refine x_aloadn (x := 125) rfl rfl ?_
              refine z_getM (N := 92) (v := v1) 12 11 rfl f_12_235 rfl J rfl qv1 ?_
              refine x_iconst (v := 1) rfl ki_1 ?_
              refine x_icne (tgt := 21) rfl rfl (ti_ne rfl jk_1 ⟨fun c8 => ?_, fun c8 => ?_⟩)
              ·
                rw [if_neg (by omega)] at D
                refine x_iconst (v := 0) rfl ki_0 ?_
                refine x_zret rfl rfl (by decide) ?_
                show jX m_X12_kindAt 2 0 0 127 [(0, .ref 125)] [.int 0] _ 0 0 _
                refine x_ifeq (tgt := 135) rfl rfl (ti_eq jk_0 jk_0 (br_t (by omega) ?_))
                refine x_aloadn (x := 125) rfl rfl ?_
                refine x_ldc2 (v := 6309) rfl z_12_629 ?_
                refine x_inv (N := m_X12_isWord) (As := [.long 6309]) (b := 125) (st := []) (dx9 := 1) (mc := 0) (ms := 0) (host := "") 12 rfl t_X12_isWord ⟨Or.inl q_12_511, i_X12_isWord.1, i_X12_isWord.2⟩ ⟨by decide, rfl⟩ (congrArg Prod.fst (J.1.1 125 (12, 92) rfl)) rfl (by decide) rfl rfl ⟨by decide, by decide⟩ (jC.of rfl k_X12_isWord rfl ?_)
                show jX m_X12_isWord 1 0 0 0 [(0, .ref 125), (1, .long 6309)] [] _ 0 0 _
                refine x_aloadn (x := 125) rfl rfl ?_
                refine z_getM (N := 92) (v := v1) 12 11 rfl f_12_235 rfl J rfl qv1 ?_
                refine x_iconst (v := 1) rfl ki_1 ?_
                refine x_icne (tgt := 21) rfl rfl (ti_ne rfl jk_1 ⟨fun c9 => ?_, fun c9 => ?_⟩)
                ·
                  rw [if_neg (by omega)] at D
                  refine x_iconst (v := 0) rfl ki_0 ?_
                  refine x_zret rfl rfl (by decide) ?_
                  show jX m_X12_kindAt 2 0 0 142 [(0, .ref 125)] [.int 0] _ 0 0 _
                  refine x_ifeq (tgt := 150) rfl rfl (ti_eq jk_0 jk_0 (br_t (by omega) ?_))
                  refine x_aloadn (x := 125) rfl rfl ?_
                  refine x_ldc2 (v := 627764) rfl z_12_631 ?_
                  refine x_inv (N := m_X12_isWord) (As := [.long 627764]) (b := 125) (st := []) (dx9 := 1) (mc := 0) (ms := 0) (host := "") 12 rfl t_X12_isWord ⟨Or.inl q_12_511, i_X12_isWord.1, i_X12_isWord.2⟩ ⟨by decide, rfl⟩ (congrArg Prod.fst (J.1.1 125 (12, 92) rfl)) rfl (by decide) rfl rfl ⟨by decide, by decide⟩ (jC.of rfl k_X12_isWord rfl ?_)
                  show jX m_X12_isWord 1 0 0 0 [(0, .ref 125), (1, .long 627764)] [] _ 0 0 _
                  refine x_aloadn (x := 125) rfl rfl ?_
                  refine z_getM (N := 92) (v := v1) 12 11 rfl f_12_235 rfl J rfl qv1 ?_
                  refine x_iconst (v := 1) rfl ki_1 ?_
                  refine x_icne (tgt := 21) rfl rfl (ti_ne rfl jk_1 ⟨fun c10 => ?_, fun c10 => ?_⟩)
                  ·
                    rw [if_neg (by omega)] at D
                    refine x_iconst (v := 0) rfl ki_0 ?_
                    refine x_zret rfl rfl (by decide) ?_
                    show jX m_X12_kindAt 2 0 0 157 [(0, .ref 125)] [.int 0] _ 0 0 _
                    refine x_ifeq (tgt := 165) rfl rfl (ti_eq jk_0 jk_0 (br_t (by omega) ?_))
                    refine x_iconst (v := (-1)) rfl ki_m1 ?_
                    exact jX.sub jsb_n (ct_X12_kindAt_r125d_100166 hD hQ  h J Sm D EV)
                  ·
                    rw [if_pos (by omega)] at D
                    refine x_aloadn (x := 125) rfl rfl ?_
                    refine z_getLQ (N := 92) 12 12 rfl f_12_224 rfl J rfl (fun v11 qv11 => ?_)
                    have ev11 := jfullL v11
                    try rw [vrfL qv11] at D
                    refine x_lloadn (x := 627764) rfl rfl ?_
                    refine z_lcmp rfl rfl jkl_627764 (fun v12 ev12 => ?_)
                    refine x_ifne (tgt := 21) rfl rfl (ti_ne rfl jk_0 ⟨fun c13 => ?_, fun c13 => ?_⟩)
                    ·
                      rw [if_neg (by omega)] at D
                      refine x_iconst (v := 0) rfl ki_0 ?_
                      refine x_zret rfl rfl (by decide) ?_
                      show jX m_X12_kindAt 2 0 0 157 [(0, .ref 125)] [.int 0] _ 0 0 _
                      refine x_ifeq (tgt := 165) rfl rfl (ti_eq jk_0 jk_0 (br_t (by omega) ?_))
                      refine x_iconst (v := (-1)) rfl ki_m1 ?_
                      exact jX.sub jsb_n (ct_X12_kindAt_r125d_100166 hD hQ  h J Sm D EV)
                    ·
                      rw [if_pos (by omega)] at D
                      refine x_iconst (v := 1) rfl ki_1 ?_
                      refine x_goto (tgt := 22) rfl rfl ?_
                      refine x_zret rfl rfl (by decide) ?_
                      show jX m_X12_kindAt 2 0 0 157 [(0, .ref 125)] [.int 1] _ 0 0 _
                      refine x_ifeq (tgt := 165) rfl rfl (ti_eq jk_1 jk_0 (br_f (by omega) ?_))
                      refine x_bipush (v := 8) rfl kb_8 ?_
                      refine x_goto (tgt := 166) rfl rfl ?_
                      exact jX.sub jsb_n (ct_X12_kindAt_r125d_1000166 hD hQ  h J Sm D EV)
                ·
                  rw [if_pos (by omega)] at D
                  refine x_aloadn (x := 125) rfl rfl ?_
                  refine z_getLQ (N := 92) 12 12 rfl f_12_224 rfl J rfl (fun v14 qv14 => ?_)
                  have ev14 := jfullL v14
                  try rw [vrfL qv14] at D
                  refine x_lloadn (x := 6309) rfl rfl ?_
                  refine z_lcmp rfl rfl jkl_6309 (fun v15 ev15 => ?_)
                  refine x_ifne (tgt := 21) rfl rfl (ti_ne rfl jk_0 ⟨fun c16 => ?_, fun c16 => ?_⟩)
                  ·
                    rw [if_neg (by omega)] at D
                    refine x_iconst (v := 0) rfl ki_0 ?_
                    refine x_zret rfl rfl (by decide) ?_
                    show jX m_X12_kindAt 2 0 0 142 [(0, .ref 125)] [.int 0] _ 0 0 _
                    refine x_ifeq (tgt := 150) rfl rfl (ti_eq jk_0 jk_0 (br_t (by omega) ?_))
                    refine x_aloadn (x := 125) rfl rfl ?_
                    refine x_ldc2 (v := 627764) rfl z_12_631 ?_
                    refine x_inv (N := m_X12_isWord) (As := [.long 627764]) (b := 125) (st := []) (dx9 := 1) (mc := 0) (ms := 0) (host := "") 12 rfl t_X12_isWord ⟨Or.inl q_12_511, i_X12_isWord.1, i_X12_isWord.2⟩ ⟨by decide, rfl⟩ (congrArg Prod.fst (J.1.1 125 (12, 92) rfl)) rfl (by decide) rfl rfl ⟨by decide, by decide⟩ (jC.of rfl k_X12_isWord rfl ?_)
                    show jX m_X12_isWord 1 0 0 0 [(0, .ref 125), (1, .long 627764)] [] _ 0 0 _
                    refine x_aloadn (x := 125) rfl rfl ?_
                    refine z_getM (N := 92) (v := v1) 12 11 rfl f_12_235 rfl J rfl qv1 ?_
                    refine x_iconst (v := 1) rfl ki_1 ?_
                    refine x_icne (tgt := 21) rfl rfl (ti_ne rfl jk_1 (bn_f (by omega) ?_))
                    refine x_aloadn (x := 125) rfl rfl ?_
                    refine z_getLQ (N := 92) 12 12 rfl f_12_224 rfl J rfl (fun v17 qv17 => ?_)
                    have ev17 := jfullL v17
                    try have kqv17 : v14.toInt = v17.toInt := ((vrfL qv14).symm.trans (vrfL qv17))
                    try rw [kqv17] at D
                    try rw [vrfL qv17] at D
                    refine x_lloadn (x := 627764) rfl rfl ?_
                    refine z_lcmp rfl rfl jkl_627764 (fun v18 ev18 => ?_)
                    refine x_ifne (tgt := 21) rfl rfl (ti_ne rfl jk_0 ⟨fun c19 => ?_, fun c19 => ?_⟩)
                    ·
                      rw [if_neg (by omega)] at D
                      refine x_iconst (v := 0) rfl ki_0 ?_
                      refine x_zret rfl rfl (by decide) ?_
                      show jX m_X12_kindAt 2 0 0 157 [(0, .ref 125)] [.int 0] _ 0 0 _
                      refine x_ifeq (tgt := 165) rfl rfl (ti_eq jk_0 jk_0 (br_t (by omega) ?_))
                      refine x_iconst (v := (-1)) rfl ki_m1 ?_
                      exact jX.sub jsb_n (ct_X12_kindAt_r125d_100166 hD hQ  h J Sm D EV)
                    ·
                      rw [if_pos (by omega)] at D
                      refine x_iconst (v := 1) rfl ki_1 ?_
                      refine x_goto (tgt := 22) rfl rfl ?_
                      refine x_zret rfl rfl (by decide) ?_
                      show jX m_X12_kindAt 2 0 0 157 [(0, .ref 125)] [.int 1] _ 0 0 _
                      refine x_ifeq (tgt := 165) rfl rfl (ti_eq jk_1 jk_0 (br_f (by omega) ?_))
                      refine x_bipush (v := 8) rfl kb_8 ?_
                      refine x_goto (tgt := 166) rfl rfl ?_
                      exact jX.sub jsb_n (ct_X12_kindAt_r125d_1000166 hD hQ  h J Sm D EV)
                  ·
                    rw [if_pos (by omega)] at D
                    refine x_iconst (v := 1) rfl ki_1 ?_
                    refine x_goto (tgt := 22) rfl rfl ?_
                    refine x_zret rfl rfl (by decide) ?_
                    show jX m_X12_kindAt 2 0 0 142 [(0, .ref 125)] [.int 1] _ 0 0 _
                    refine x_ifeq (tgt := 150) rfl rfl (ti_eq jk_1 jk_0 (br_f (by omega) ?_))
                    refine x_bipush (v := 7) rfl kb_7 ?_
                    refine x_goto (tgt := 166) rfl rfl ?_
                    exact jX.sub jsb_n (ct_X12_kindAt_r125d_900166 hD hQ  h J Sm D EV)
              ·
                rw [if_pos (by omega)] at D
                refine x_aloadn (x := 125) rfl rfl ?_
                refine z_getLQ (N := 92) 12 12 rfl f_12_224 rfl J rfl (fun v20 qv20 => ?_)
                have ev20 := jfullL v20
                try rw [vrfL qv20] at D
                refine x_lloadn (x := 677454) rfl rfl ?_
                refine z_lcmp rfl rfl jkl_677454 (fun v21 ev21 => ?_)
                refine x_ifne (tgt := 21) rfl rfl (ti_ne rfl jk_0 ⟨fun c22 => ?_, fun c22 => ?_⟩)
                ·
                  rw [if_neg (by omega)] at D
                  refine x_iconst (v := 0) rfl ki_0 ?_
                  refine x_zret rfl rfl (by decide) ?_
                  show jX m_X12_kindAt 2 0 0 127 [(0, .ref 125)] [.int 0] _ 0 0 _
                  refine x_ifeq (tgt := 135) rfl rfl (ti_eq jk_0 jk_0 (br_t (by omega) ?_))
                  refine x_aloadn (x := 125) rfl rfl ?_
                  refine x_ldc2 (v := 6309) rfl z_12_629 ?_
                  refine x_inv (N := m_X12_isWord) (As := [.long 6309]) (b := 125) (st := []) (dx9 := 1) (mc := 0) (ms := 0) (host := "") 12 rfl t_X12_isWord ⟨Or.inl q_12_511, i_X12_isWord.1, i_X12_isWord.2⟩ ⟨by decide, rfl⟩ (congrArg Prod.fst (J.1.1 125 (12, 92) rfl)) rfl (by decide) rfl rfl ⟨by decide, by decide⟩ (jC.of rfl k_X12_isWord rfl ?_)
                  show jX m_X12_isWord 1 0 0 0 [(0, .ref 125), (1, .long 6309)] [] _ 0 0 _
                  refine x_aloadn (x := 125) rfl rfl ?_
                  refine z_getM (N := 92) (v := v1) 12 11 rfl f_12_235 rfl J rfl qv1 ?_
                  refine x_iconst (v := 1) rfl ki_1 ?_
                  refine x_icne (tgt := 21) rfl rfl (ti_ne rfl jk_1 (bn_f (by omega) ?_))
                  refine x_aloadn (x := 125) rfl rfl ?_
                  refine z_getLQ (N := 92) 12 12 rfl f_12_224 rfl J rfl (fun v23 qv23 => ?_)
                  have ev23 := jfullL v23
                  try have kqv23 : v20.toInt = v23.toInt := ((vrfL qv20).symm.trans (vrfL qv23))
                  try rw [kqv23] at D
                  try rw [vrfL qv23] at D
                  refine x_lloadn (x := 6309) rfl rfl ?_
                  refine z_lcmp rfl rfl jkl_6309 (fun v24 ev24 => ?_)
                  refine x_ifne (tgt := 21) rfl rfl (ti_ne rfl jk_0 ⟨fun c25 => ?_, fun c25 => ?_⟩)
                  ·
                    rw [if_neg (by omega)] at D
                    refine x_iconst (v := 0) rfl ki_0 ?_
                    refine x_zret rfl rfl (by decide) ?_
                    show jX m_X12_kindAt 2 0 0 142 [(0, .ref 125)] [.int 0] _ 0 0 _
                    refine x_ifeq (tgt := 150) rfl rfl (ti_eq jk_0 jk_0 (br_t (by omega) ?_))
                    refine x_aloadn (x := 125) rfl rfl ?_
                    refine x_ldc2 (v := 627764) rfl z_12_631 ?_
                    refine x_inv (N := m_X12_isWord) (As := [.long 627764]) (b := 125) (st := []) (dx9 := 1) (mc := 0) (ms := 0) (host := "") 12 rfl t_X12_isWord ⟨Or.inl q_12_511, i_X12_isWord.1, i_X12_isWord.2⟩ ⟨by decide, rfl⟩ (congrArg Prod.fst (J.1.1 125 (12, 92) rfl)) rfl (by decide) rfl rfl ⟨by decide, by decide⟩ (jC.of rfl k_X12_isWord rfl ?_)
                    show jX m_X12_isWord 1 0 0 0 [(0, .ref 125), (1, .long 627764)] [] _ 0 0 _
                    refine x_aloadn (x := 125) rfl rfl ?_
                    refine z_getM (N := 92) (v := v1) 12 11 rfl f_12_235 rfl J rfl qv1 ?_
                    refine x_iconst (v := 1) rfl ki_1 ?_
                    refine x_icne (tgt := 21) rfl rfl (ti_ne rfl jk_1 (bn_f (by omega) ?_))
                    refine x_aloadn (x := 125) rfl rfl ?_
                    refine z_getLQ (N := 92) 12 12 rfl f_12_224 rfl J rfl (fun v26 qv26 => ?_)
                    have ev26 := jfullL v26
                    try have kqv26 : v23.toInt = v26.toInt := ((vrfL qv23).symm.trans (vrfL qv26))
                    try rw [kqv26] at D
                    try rw [vrfL qv26] at D
                    refine x_lloadn (x := 627764) rfl rfl ?_
                    refine z_lcmp rfl rfl jkl_627764 (fun v27 ev27 => ?_)
                    refine x_ifne (tgt := 21) rfl rfl (ti_ne rfl jk_0 ⟨fun c28 => ?_, fun c28 => ?_⟩)
                    ·
                      rw [if_neg (by omega)] at D
                      refine x_iconst (v := 0) rfl ki_0 ?_
                      refine x_zret rfl rfl (by decide) ?_
                      show jX m_X12_kindAt 2 0 0 157 [(0, .ref 125)] [.int 0] _ 0 0 _
                      refine x_ifeq (tgt := 165) rfl rfl (ti_eq jk_0 jk_0 (br_t (by omega) ?_))
                      refine x_iconst (v := (-1)) rfl ki_m1 ?_
                      exact jX.sub jsb_n (ct_X12_kindAt_r125d_100166 hD hQ  h J Sm D EV)
                    ·
                      rw [if_pos (by omega)] at D
                      refine x_iconst (v := 1) rfl ki_1 ?_
                      refine x_goto (tgt := 22) rfl rfl ?_
                      refine x_zret rfl rfl (by decide) ?_
                      show jX m_X12_kindAt 2 0 0 157 [(0, .ref 125)] [.int 1] _ 0 0 _
                      refine x_ifeq (tgt := 165) rfl rfl (ti_eq jk_1 jk_0 (br_f (by omega) ?_))
                      refine x_bipush (v := 8) rfl kb_8 ?_
                      refine x_goto (tgt := 166) rfl rfl ?_
                      exact jX.sub jsb_n (ct_X12_kindAt_r125d_1000166 hD hQ  h J Sm D EV)
                  ·
                    rw [if_pos (by omega)] at D
                    refine x_iconst (v := 1) rfl ki_1 ?_
                    refine x_goto (tgt := 22) rfl rfl ?_
                    refine x_zret rfl rfl (by decide) ?_
                    show jX m_X12_kindAt 2 0 0 142 [(0, .ref 125)] [.int 1] _ 0 0 _
                    refine x_ifeq (tgt := 150) rfl rfl (ti_eq jk_1 jk_0 (br_f (by omega) ?_))
                    refine x_bipush (v := 7) rfl kb_7 ?_
                    refine x_goto (tgt := 166) rfl rfl ?_
                    exact jX.sub jsb_n (ct_X12_kindAt_r125d_900166 hD hQ  h J Sm D EV)
                ·
                  rw [if_pos (by omega)] at D
                  refine x_iconst (v := 1) rfl ki_1 ?_
                  refine x_goto (tgt := 22) rfl rfl ?_
                  refine x_zret rfl rfl (by decide) ?_
                  show jX m_X12_kindAt 2 0 0 127 [(0, .ref 125)] [.int 1] _ 0 0 _
                  refine x_ifeq (tgt := 135) rfl rfl (ti_eq jk_1 jk_0 (br_f (by omega) ?_))
                  refine x_bipush (v := 6) rfl kb_6 ?_
                  refine x_goto (tgt := 166) rfl rfl ?_
                  exact jX.sub jsb_n (ct_X12_kindAt_r125d_800166 hD hQ  h J Sm D EV)
            ·
              rw [if_pos (by omega)] at D
              refine x_aloadn (x := 125) rfl rfl ?_
              refine z_getLQ (N := 92) 12 12 rfl f_12_224 rfl J rfl (fun v29 qv29 => ?_)
              have ev29 := jfullL v29
              try rw [vrfL qv29] at D
              refine x_lloadn (x := 2134245) rfl rfl ?_
              refine z_lcmp rfl rfl jkl_2134245 (fun v30 ev30 => ?_)
              refine x_ifne (tgt := 21) rfl rfl (ti_ne rfl jk_0 ⟨fun c31 => ?_, fun c31 => ?_⟩)
              ·
                rw [if_neg (by omega)] at D
                refine x_iconst (v := 0) rfl ki_0 ?_
                refine x_zret rfl rfl (by decide) ?_
                show jX m_X12_kindAt 2 0 0 87 [(0, .ref 125)] [.int 0] _ 0 0 _
                refine x_ifeq (tgt := 120) rfl rfl (ti_eq jk_0 jk_0 (br_t (by omega) ?_))
                refine x_aloadn (x := 125) rfl rfl ?_
                refine x_ldc2 (v := 677454) rfl z_12_627 ?_
                refine x_inv (N := m_X12_isWord) (As := [.long 677454]) (b := 125) (st := []) (dx9 := 1) (mc := 0) (ms := 0) (host := "") 12 rfl t_X12_isWord ⟨Or.inl q_12_511, i_X12_isWord.1, i_X12_isWord.2⟩ ⟨by decide, rfl⟩ (congrArg Prod.fst (J.1.1 125 (12, 92) rfl)) rfl (by decide) rfl rfl ⟨by decide, by decide⟩ (jC.of rfl k_X12_isWord rfl ?_)
                show jX m_X12_isWord 1 0 0 0 [(0, .ref 125), (1, .long 677454)] [] _ 0 0 _
                refine x_aloadn (x := 125) rfl rfl ?_
                refine z_getM (N := 92) (v := v1) 12 11 rfl f_12_235 rfl J rfl qv1 ?_
                refine x_iconst (v := 1) rfl ki_1 ?_
                refine x_icne (tgt := 21) rfl rfl (ti_ne rfl jk_1 (bn_f (by omega) ?_))
                refine x_aloadn (x := 125) rfl rfl ?_
                refine z_getLQ (N := 92) 12 12 rfl f_12_224 rfl J rfl (fun v32 qv32 => ?_)
                have ev32 := jfullL v32
                try have kqv32 : v29.toInt = v32.toInt := ((vrfL qv29).symm.trans (vrfL qv32))
                try rw [kqv32] at D
                try rw [vrfL qv32] at D
                refine x_lloadn (x := 677454) rfl rfl ?_
                refine z_lcmp rfl rfl jkl_677454 (fun v33 ev33 => ?_)
                refine x_ifne (tgt := 21) rfl rfl (ti_ne rfl jk_0 ⟨fun c34 => ?_, fun c34 => ?_⟩)
                ·
                  rw [if_neg (by omega)] at D
                  refine x_iconst (v := 0) rfl ki_0 ?_
                  refine x_zret rfl rfl (by decide) ?_
                  show jX m_X12_kindAt 2 0 0 127 [(0, .ref 125)] [.int 0] _ 0 0 _
                  refine x_ifeq (tgt := 135) rfl rfl (ti_eq jk_0 jk_0 (br_t (by omega) ?_))
                  refine x_aloadn (x := 125) rfl rfl ?_
                  refine x_ldc2 (v := 6309) rfl z_12_629 ?_
                  refine x_inv (N := m_X12_isWord) (As := [.long 6309]) (b := 125) (st := []) (dx9 := 1) (mc := 0) (ms := 0) (host := "") 12 rfl t_X12_isWord ⟨Or.inl q_12_511, i_X12_isWord.1, i_X12_isWord.2⟩ ⟨by decide, rfl⟩ (congrArg Prod.fst (J.1.1 125 (12, 92) rfl)) rfl (by decide) rfl rfl ⟨by decide, by decide⟩ (jC.of rfl k_X12_isWord rfl ?_)
                  show jX m_X12_isWord 1 0 0 0 [(0, .ref 125), (1, .long 6309)] [] _ 0 0 _
                  refine x_aloadn (x := 125) rfl rfl ?_
                  refine z_getM (N := 92) (v := v1) 12 11 rfl f_12_235 rfl J rfl qv1 ?_
                  refine x_iconst (v := 1) rfl ki_1 ?_
                  refine x_icne (tgt := 21) rfl rfl (ti_ne rfl jk_1 (bn_f (by omega) ?_))
                  refine x_aloadn (x := 125) rfl rfl ?_
                  refine z_getLQ (N := 92) 12 12 rfl f_12_224 rfl J rfl (fun v35 qv35 => ?_)
                  have ev35 := jfullL v35
                  try have kqv35 : v32.toInt = v35.toInt := ((vrfL qv32).symm.trans (vrfL qv35))
                  try rw [kqv35] at D
                  try rw [vrfL qv35] at D
                  refine x_lloadn (x := 6309) rfl rfl ?_
                  refine z_lcmp rfl rfl jkl_6309 (fun v36 ev36 => ?_)
                  refine x_ifne (tgt := 21) rfl rfl (ti_ne rfl jk_0 ⟨fun c37 => ?_, fun c37 => ?_⟩)
                  ·
                    rw [if_neg (by omega)] at D
                    refine x_iconst (v := 0) rfl ki_0 ?_
                    refine x_zret rfl rfl (by decide) ?_
                    show jX m_X12_kindAt 2 0 0 142 [(0, .ref 125)] [.int 0] _ 0 0 _
                    refine x_ifeq (tgt := 150) rfl rfl (ti_eq jk_0 jk_0 (br_t (by omega) ?_))
                    refine x_aloadn (x := 125) rfl rfl ?_
                    refine x_ldc2 (v := 627764) rfl z_12_631 ?_
                    refine x_inv (N := m_X12_isWord) (As := [.long 627764]) (b := 125) (st := []) (dx9 := 1) (mc := 0) (ms := 0) (host := "") 12 rfl t_X12_isWord ⟨Or.inl q_12_511, i_X12_isWord.1, i_X12_isWord.2⟩ ⟨by decide, rfl⟩ (congrArg Prod.fst (J.1.1 125 (12, 92) rfl)) rfl (by decide) rfl rfl ⟨by decide, by decide⟩ (jC.of rfl k_X12_isWord rfl ?_)
                    show jX m_X12_isWord 1 0 0 0 [(0, .ref 125), (1, .long 627764)] [] _ 0 0 _
                    refine x_aloadn (x := 125) rfl rfl ?_
                    refine z_getM (N := 92) (v := v1) 12 11 rfl f_12_235 rfl J rfl qv1 ?_
                    refine x_iconst (v := 1) rfl ki_1 ?_
                    refine x_icne (tgt := 21) rfl rfl (ti_ne rfl jk_1 (bn_f (by omega) ?_))
                    refine x_aloadn (x := 125) rfl rfl ?_
                    refine z_getLQ (N := 92) 12 12 rfl f_12_224 rfl J rfl (fun v38 qv38 => ?_)
                    have ev38 := jfullL v38
                    try have kqv38 : v35.toInt = v38.toInt := ((vrfL qv35).symm.trans (vrfL qv38))
                    try rw [kqv38] at D
                    try rw [vrfL qv38] at D
                    refine x_lloadn (x := 627764) rfl rfl ?_
                    refine z_lcmp rfl rfl jkl_627764 (fun v39 ev39 => ?_)
                    refine x_ifne (tgt := 21) rfl rfl (ti_ne rfl jk_0 ⟨fun c40 => ?_, fun c40 => ?_⟩)
                    ·
                      rw [if_neg (by omega)] at D
                      refine x_iconst (v := 0) rfl ki_0 ?_
                      refine x_zret rfl rfl (by decide) ?_
                      show jX m_X12_kindAt 2 0 0 157 [(0, .ref 125)] [.int 0] _ 0 0 _
                      refine x_ifeq (tgt := 165) rfl rfl (ti_eq jk_0 jk_0 (br_t (by omega) ?_))
                      refine x_iconst (v := (-1)) rfl ki_m1 ?_
                      exact jX.sub jsb_n (ct_X12_kindAt_r125d_100166 hD hQ  h J Sm D EV)
                    ·
                      rw [if_pos (by omega)] at D
                      refine x_iconst (v := 1) rfl ki_1 ?_
                      refine x_goto (tgt := 22) rfl rfl ?_
                      refine x_zret rfl rfl (by decide) ?_
                      show jX m_X12_kindAt 2 0 0 157 [(0, .ref 125)] [.int 1] _ 0 0 _
                      refine x_ifeq (tgt := 165) rfl rfl (ti_eq jk_1 jk_0 (br_f (by omega) ?_))
                      refine x_bipush (v := 8) rfl kb_8 ?_
                      refine x_goto (tgt := 166) rfl rfl ?_
                      exact jX.sub jsb_n (ct_X12_kindAt_r125d_1000166 hD hQ  h J Sm D EV)
                  ·
                    rw [if_pos (by omega)] at D
                    refine x_iconst (v := 1) rfl ki_1 ?_
                    refine x_goto (tgt := 22) rfl rfl ?_
                    refine x_zret rfl rfl (by decide) ?_
                    show jX m_X12_kindAt 2 0 0 142 [(0, .ref 125)] [.int 1] _ 0 0 _
                    refine x_ifeq (tgt := 150) rfl rfl (ti_eq jk_1 jk_0 (br_f (by omega) ?_))
                    refine x_bipush (v := 7) rfl kb_7 ?_
                    refine x_goto (tgt := 166) rfl rfl ?_
                    exact jX.sub jsb_n (ct_X12_kindAt_r125d_900166 hD hQ  h J Sm D EV)
                ·
                  rw [if_pos (by omega)] at D
                  refine x_iconst (v := 1) rfl ki_1 ?_
                  refine x_goto (tgt := 22) rfl rfl ?_
                  refine x_zret rfl rfl (by decide) ?_
                  show jX m_X12_kindAt 2 0 0 127 [(0, .ref 125)] [.int 1] _ 0 0 _
                  refine x_ifeq (tgt := 135) rfl rfl (ti_eq jk_1 jk_0 (br_f (by omega) ?_))
                  refine x_bipush (v := 6) rfl kb_6 ?_
                  refine x_goto (tgt := 166) rfl rfl ?_
                  exact jX.sub jsb_n (ct_X12_kindAt_r125d_800166 hD hQ  h J Sm D EV)
              ·
                rw [if_pos (by omega)] at D
                refine x_iconst (v := 1) rfl ki_1 ?_
                refine x_goto (tgt := 22) rfl rfl ?_
                refine x_zret rfl rfl (by decide) ?_
                show jX m_X12_kindAt 2 0 0 87 [(0, .ref 125)] [.int 1] _ 0 0 _
                refine x_ifeq (tgt := 120) rfl rfl (ti_eq jk_1 jk_0 (br_f (by omega) ?_))
                exact jX.sub (jsb_c rfl jsb_n) (ct_X12_kindAt_r125d_90 hD hQ  v1 h (jr_of rfl (by omega)) qv1 J Sm D EV)
          ·
            rw [if_pos (by omega)] at D
            refine x_aloadn (x := 125) rfl rfl ?_
            refine z_getLQ (N := 92) 12 12 rfl f_12_224 rfl J rfl (fun v41 qv41 => ?_)
            have ev41 := jfullL v41
            try rw [vrfL qv41] at D
            refine x_lloadn (x := 609625254) rfl rfl ?_
            refine z_lcmp rfl rfl jkl_609625254 (fun v42 ev42 => ?_)
            refine x_ifne (tgt := 21) rfl rfl (ti_ne rfl jk_0 ⟨fun c43 => ?_, fun c43 => ?_⟩)
            ·
              rw [if_neg (by omega)] at D
              refine x_iconst (v := 0) rfl ki_0 ?_
              refine x_zret rfl rfl (by decide) ?_
              show jX m_X12_kindAt 2 0 0 77 [(0, .ref 125)] [.int 0] _ 0 0 _
              refine x_ifne (tgt := 90) rfl rfl (ti_ne jk_0 jk_0 (bn_f (by omega) ?_))
              refine x_aloadn (x := 125) rfl rfl ?_
              refine x_ldc2 (v := 2134245) rfl z_12_625 ?_
              refine x_inv (N := m_X12_isWord) (As := [.long 2134245]) (b := 125) (st := []) (dx9 := 1) (mc := 0) (ms := 0) (host := "") 12 rfl t_X12_isWord ⟨Or.inl q_12_511, i_X12_isWord.1, i_X12_isWord.2⟩ ⟨by decide, rfl⟩ (congrArg Prod.fst (J.1.1 125 (12, 92) rfl)) rfl (by decide) rfl rfl ⟨by decide, by decide⟩ (jC.of rfl k_X12_isWord rfl ?_)
              show jX m_X12_isWord 1 0 0 0 [(0, .ref 125), (1, .long 2134245)] [] _ 0 0 _
              refine x_aloadn (x := 125) rfl rfl ?_
              refine z_getM (N := 92) (v := v1) 12 11 rfl f_12_235 rfl J rfl qv1 ?_
              refine x_iconst (v := 1) rfl ki_1 ?_
              refine x_icne (tgt := 21) rfl rfl (ti_ne rfl jk_1 (bn_f (by omega) ?_))
              refine x_aloadn (x := 125) rfl rfl ?_
              refine z_getLQ (N := 92) 12 12 rfl f_12_224 rfl J rfl (fun v44 qv44 => ?_)
              have ev44 := jfullL v44
              try have kqv44 : v41.toInt = v44.toInt := ((vrfL qv41).symm.trans (vrfL qv44))
              try rw [kqv44] at D
              try rw [vrfL qv44] at D
              refine x_lloadn (x := 2134245) rfl rfl ?_
              refine z_lcmp rfl rfl jkl_2134245 (fun v45 ev45 => ?_)
              refine x_ifne (tgt := 21) rfl rfl (ti_ne rfl jk_0 ⟨fun c46 => ?_, fun c46 => ?_⟩)
              ·
                rw [if_neg (by omega)] at D
                refine x_iconst (v := 0) rfl ki_0 ?_
                refine x_zret rfl rfl (by decide) ?_
                show jX m_X12_kindAt 2 0 0 87 [(0, .ref 125)] [.int 0] _ 0 0 _
                refine x_ifeq (tgt := 120) rfl rfl (ti_eq jk_0 jk_0 (br_t (by omega) ?_))
                refine x_aloadn (x := 125) rfl rfl ?_
                refine x_ldc2 (v := 677454) rfl z_12_627 ?_
                refine x_inv (N := m_X12_isWord) (As := [.long 677454]) (b := 125) (st := []) (dx9 := 1) (mc := 0) (ms := 0) (host := "") 12 rfl t_X12_isWord ⟨Or.inl q_12_511, i_X12_isWord.1, i_X12_isWord.2⟩ ⟨by decide, rfl⟩ (congrArg Prod.fst (J.1.1 125 (12, 92) rfl)) rfl (by decide) rfl rfl ⟨by decide, by decide⟩ (jC.of rfl k_X12_isWord rfl ?_)
                show jX m_X12_isWord 1 0 0 0 [(0, .ref 125), (1, .long 677454)] [] _ 0 0 _
                refine x_aloadn (x := 125) rfl rfl ?_
                refine z_getM (N := 92) (v := v1) 12 11 rfl f_12_235 rfl J rfl qv1 ?_
                refine x_iconst (v := 1) rfl ki_1 ?_
                refine x_icne (tgt := 21) rfl rfl (ti_ne rfl jk_1 (bn_f (by omega) ?_))
                refine x_aloadn (x := 125) rfl rfl ?_
                refine z_getLQ (N := 92) 12 12 rfl f_12_224 rfl J rfl (fun v47 qv47 => ?_)
                have ev47 := jfullL v47
                try have kqv47 : v44.toInt = v47.toInt := ((vrfL qv44).symm.trans (vrfL qv47))
                try rw [kqv47] at D
                try rw [vrfL qv47] at D
                refine x_lloadn (x := 677454) rfl rfl ?_
                refine z_lcmp rfl rfl jkl_677454 (fun v48 ev48 => ?_)
                refine x_ifne (tgt := 21) rfl rfl (ti_ne rfl jk_0 ⟨fun c49 => ?_, fun c49 => ?_⟩)
                ·
                  rw [if_neg (by omega)] at D
                  refine x_iconst (v := 0) rfl ki_0 ?_
                  refine x_zret rfl rfl (by decide) ?_
                  show jX m_X12_kindAt 2 0 0 127 [(0, .ref 125)] [.int 0] _ 0 0 _
                  refine x_ifeq (tgt := 135) rfl rfl (ti_eq jk_0 jk_0 (br_t (by omega) ?_))
                  refine x_aloadn (x := 125) rfl rfl ?_
                  refine x_ldc2 (v := 6309) rfl z_12_629 ?_
                  refine x_inv (N := m_X12_isWord) (As := [.long 6309]) (b := 125) (st := []) (dx9 := 1) (mc := 0) (ms := 0) (host := "") 12 rfl t_X12_isWord ⟨Or.inl q_12_511, i_X12_isWord.1, i_X12_isWord.2⟩ ⟨by decide, rfl⟩ (congrArg Prod.fst (J.1.1 125 (12, 92) rfl)) rfl (by decide) rfl rfl ⟨by decide, by decide⟩ (jC.of rfl k_X12_isWord rfl ?_)
                  show jX m_X12_isWord 1 0 0 0 [(0, .ref 125), (1, .long 6309)] [] _ 0 0 _
                  refine x_aloadn (x := 125) rfl rfl ?_
                  refine z_getM (N := 92) (v := v1) 12 11 rfl f_12_235 rfl J rfl qv1 ?_
                  refine x_iconst (v := 1) rfl ki_1 ?_
                  refine x_icne (tgt := 21) rfl rfl (ti_ne rfl jk_1 (bn_f (by omega) ?_))
                  refine x_aloadn (x := 125) rfl rfl ?_
                  refine z_getLQ (N := 92) 12 12 rfl f_12_224 rfl J rfl (fun v50 qv50 => ?_)
                  have ev50 := jfullL v50
                  try have kqv50 : v47.toInt = v50.toInt := ((vrfL qv47).symm.trans (vrfL qv50))
                  try rw [kqv50] at D
                  try rw [vrfL qv50] at D
                  refine x_lloadn (x := 6309) rfl rfl ?_
                  refine z_lcmp rfl rfl jkl_6309 (fun v51 ev51 => ?_)
                  refine x_ifne (tgt := 21) rfl rfl (ti_ne rfl jk_0 ⟨fun c52 => ?_, fun c52 => ?_⟩)
                  ·
                    rw [if_neg (by omega)] at D
                    refine x_iconst (v := 0) rfl ki_0 ?_
                    refine x_zret rfl rfl (by decide) ?_
                    show jX m_X12_kindAt 2 0 0 142 [(0, .ref 125)] [.int 0] _ 0 0 _
                    refine x_ifeq (tgt := 150) rfl rfl (ti_eq jk_0 jk_0 (br_t (by omega) ?_))
                    refine x_aloadn (x := 125) rfl rfl ?_
                    refine x_ldc2 (v := 627764) rfl z_12_631 ?_
                    refine x_inv (N := m_X12_isWord) (As := [.long 627764]) (b := 125) (st := []) (dx9 := 1) (mc := 0) (ms := 0) (host := "") 12 rfl t_X12_isWord ⟨Or.inl q_12_511, i_X12_isWord.1, i_X12_isWord.2⟩ ⟨by decide, rfl⟩ (congrArg Prod.fst (J.1.1 125 (12, 92) rfl)) rfl (by decide) rfl rfl ⟨by decide, by decide⟩ (jC.of rfl k_X12_isWord rfl ?_)
                    show jX m_X12_isWord 1 0 0 0 [(0, .ref 125), (1, .long 627764)] [] _ 0 0 _
                    refine x_aloadn (x := 125) rfl rfl ?_
                    refine z_getM (N := 92) (v := v1) 12 11 rfl f_12_235 rfl J rfl qv1 ?_
                    refine x_iconst (v := 1) rfl ki_1 ?_
                    refine x_icne (tgt := 21) rfl rfl (ti_ne rfl jk_1 (bn_f (by omega) ?_))
                    refine x_aloadn (x := 125) rfl rfl ?_
                    refine z_getLQ (N := 92) 12 12 rfl f_12_224 rfl J rfl (fun v53 qv53 => ?_)
                    have ev53 := jfullL v53
                    try have kqv53 : v50.toInt = v53.toInt := ((vrfL qv50).symm.trans (vrfL qv53))
                    try rw [kqv53] at D
                    try rw [vrfL qv53] at D
                    refine x_lloadn (x := 627764) rfl rfl ?_
                    refine z_lcmp rfl rfl jkl_627764 (fun v54 ev54 => ?_)
                    refine x_ifne (tgt := 21) rfl rfl (ti_ne rfl jk_0 ⟨fun c55 => ?_, fun c55 => ?_⟩)
                    ·
                      rw [if_neg (by omega)] at D
                      refine x_iconst (v := 0) rfl ki_0 ?_
                      refine x_zret rfl rfl (by decide) ?_
                      show jX m_X12_kindAt 2 0 0 157 [(0, .ref 125)] [.int 0] _ 0 0 _
                      refine x_ifeq (tgt := 165) rfl rfl (ti_eq jk_0 jk_0 (br_t (by omega) ?_))
                      refine x_iconst (v := (-1)) rfl ki_m1 ?_
                      exact jX.sub jsb_n (ct_X12_kindAt_r125d_100166 hD hQ  h J Sm D EV)
                    ·
                      rw [if_pos (by omega)] at D
                      refine x_iconst (v := 1) rfl ki_1 ?_
                      refine x_goto (tgt := 22) rfl rfl ?_
                      refine x_zret rfl rfl (by decide) ?_
                      show jX m_X12_kindAt 2 0 0 157 [(0, .ref 125)] [.int 1] _ 0 0 _
                      refine x_ifeq (tgt := 165) rfl rfl (ti_eq jk_1 jk_0 (br_f (by omega) ?_))
                      refine x_bipush (v := 8) rfl kb_8 ?_
                      refine x_goto (tgt := 166) rfl rfl ?_
                      exact jX.sub jsb_n (ct_X12_kindAt_r125d_1000166 hD hQ  h J Sm D EV)
                  ·
                    rw [if_pos (by omega)] at D
                    refine x_iconst (v := 1) rfl ki_1 ?_
                    refine x_goto (tgt := 22) rfl rfl ?_
                    refine x_zret rfl rfl (by decide) ?_
                    show jX m_X12_kindAt 2 0 0 142 [(0, .ref 125)] [.int 1] _ 0 0 _
                    refine x_ifeq (tgt := 150) rfl rfl (ti_eq jk_1 jk_0 (br_f (by omega) ?_))
                    refine x_bipush (v := 7) rfl kb_7 ?_
                    refine x_goto (tgt := 166) rfl rfl ?_
                    exact jX.sub jsb_n (ct_X12_kindAt_r125d_900166 hD hQ  h J Sm D EV)
                ·
                  rw [if_pos (by omega)] at D
                  refine x_iconst (v := 1) rfl ki_1 ?_
                  refine x_goto (tgt := 22) rfl rfl ?_
                  refine x_zret rfl rfl (by decide) ?_
                  show jX m_X12_kindAt 2 0 0 127 [(0, .ref 125)] [.int 1] _ 0 0 _
                  refine x_ifeq (tgt := 135) rfl rfl (ti_eq jk_1 jk_0 (br_f (by omega) ?_))
                  refine x_bipush (v := 6) rfl kb_6 ?_
                  refine x_goto (tgt := 166) rfl rfl ?_
                  exact jX.sub jsb_n (ct_X12_kindAt_r125d_800166 hD hQ  h J Sm D EV)
              ·
                rw [if_pos (by omega)] at D
                refine x_iconst (v := 1) rfl ki_1 ?_
                refine x_goto (tgt := 22) rfl rfl ?_
                refine x_zret rfl rfl (by decide) ?_
                show jX m_X12_kindAt 2 0 0 87 [(0, .ref 125)] [.int 1] _ 0 0 _
                refine x_ifeq (tgt := 120) rfl rfl (ti_eq jk_1 jk_0 (br_f (by omega) ?_))
                exact jX.sub (jsb_c rfl jsb_n) (ct_X12_kindAt_r125d_90 hD hQ  v1 h (jr_of rfl (by omega)) qv1 J Sm D EV)
            ·
              rw [if_pos (by omega)] at D
              refine x_iconst (v := 1) rfl ki_1 ?_
              refine x_goto (tgt := 22) rfl rfl ?_
              refine x_zret rfl rfl (by decide) ?_
              show jX m_X12_kindAt 2 0 0 77 [(0, .ref 125)] [.int 1] _ 0 0 _
              refine x_ifne (tgt := 90) rfl rfl (ti_ne jk_1 jk_0 (bn_t (by omega) ?_))
              exact jX.sub (jsb_c rfl jsb_n) (ct_X12_kindAt_r125d_90 hD hQ  v1 h (jr_of rfl (by omega)) qv1 J Sm D EV)
        ·
          rw [if_pos (by omega)] at D
          refine x_aloadn (x := 125) rfl rfl ?_
          refine z_getLQ (N := 92) 12 12 rfl f_12_224 rfl J rfl (fun v56 qv56 => ?_)
          have ev56 := jfullL v56
          try rw [vrfL qv56] at D
          refine x_lloadn (x := 591493) rfl rfl ?_
          refine z_lcmp rfl rfl jkl_591493 (fun v57 ev57 => ?_)
          refine x_ifne (tgt := 21) rfl rfl (ti_ne rfl jk_0 ⟨fun c58 => ?_, fun c58 => ?_⟩)
          ·
            rw [if_neg (by omega)] at D
            refine x_iconst (v := 0) rfl ki_0 ?_
            refine x_zret rfl rfl (by decide) ?_
            show jX m_X12_kindAt 2 0 0 67 [(0, .ref 125)] [.int 0] _ 0 0 _
            refine x_ifne (tgt := 90) rfl rfl (ti_ne jk_0 jk_0 (bn_f (by omega) ?_))
            refine x_aloadn (x := 125) rfl rfl ?_
            refine x_ldc2 (v := 609625254) rfl z_12_623 ?_
            refine x_inv (N := m_X12_isWord) (As := [.long 609625254]) (b := 125) (st := []) (dx9 := 1) (mc := 0) (ms := 0) (host := "") 12 rfl t_X12_isWord ⟨Or.inl q_12_511, i_X12_isWord.1, i_X12_isWord.2⟩ ⟨by decide, rfl⟩ (congrArg Prod.fst (J.1.1 125 (12, 92) rfl)) rfl (by decide) rfl rfl ⟨by decide, by decide⟩ (jC.of rfl k_X12_isWord rfl ?_)
            show jX m_X12_isWord 1 0 0 0 [(0, .ref 125), (1, .long 609625254)] [] _ 0 0 _
            refine x_aloadn (x := 125) rfl rfl ?_
            refine z_getM (N := 92) (v := v1) 12 11 rfl f_12_235 rfl J rfl qv1 ?_
            refine x_iconst (v := 1) rfl ki_1 ?_
            refine x_icne (tgt := 21) rfl rfl (ti_ne rfl jk_1 (bn_f (by omega) ?_))
            refine x_aloadn (x := 125) rfl rfl ?_
            refine z_getLQ (N := 92) 12 12 rfl f_12_224 rfl J rfl (fun v59 qv59 => ?_)
            have ev59 := jfullL v59
            try have kqv59 : v56.toInt = v59.toInt := ((vrfL qv56).symm.trans (vrfL qv59))
            try rw [kqv59] at D
            try rw [vrfL qv59] at D
            refine x_lloadn (x := 609625254) rfl rfl ?_
            refine z_lcmp rfl rfl jkl_609625254 (fun v60 ev60 => ?_)
            refine x_ifne (tgt := 21) rfl rfl (ti_ne rfl jk_0 ⟨fun c61 => ?_, fun c61 => ?_⟩)
            ·
              rw [if_neg (by omega)] at D
              refine x_iconst (v := 0) rfl ki_0 ?_
              refine x_zret rfl rfl (by decide) ?_
              show jX m_X12_kindAt 2 0 0 77 [(0, .ref 125)] [.int 0] _ 0 0 _
              refine x_ifne (tgt := 90) rfl rfl (ti_ne jk_0 jk_0 (bn_f (by omega) ?_))
              refine x_aloadn (x := 125) rfl rfl ?_
              refine x_ldc2 (v := 2134245) rfl z_12_625 ?_
              refine x_inv (N := m_X12_isWord) (As := [.long 2134245]) (b := 125) (st := []) (dx9 := 1) (mc := 0) (ms := 0) (host := "") 12 rfl t_X12_isWord ⟨Or.inl q_12_511, i_X12_isWord.1, i_X12_isWord.2⟩ ⟨by decide, rfl⟩ (congrArg Prod.fst (J.1.1 125 (12, 92) rfl)) rfl (by decide) rfl rfl ⟨by decide, by decide⟩ (jC.of rfl k_X12_isWord rfl ?_)
              show jX m_X12_isWord 1 0 0 0 [(0, .ref 125), (1, .long 2134245)] [] _ 0 0 _
              refine x_aloadn (x := 125) rfl rfl ?_
              refine z_getM (N := 92) (v := v1) 12 11 rfl f_12_235 rfl J rfl qv1 ?_
              refine x_iconst (v := 1) rfl ki_1 ?_
              refine x_icne (tgt := 21) rfl rfl (ti_ne rfl jk_1 (bn_f (by omega) ?_))
              refine x_aloadn (x := 125) rfl rfl ?_
              refine z_getLQ (N := 92) 12 12 rfl f_12_224 rfl J rfl (fun v62 qv62 => ?_)
              have ev62 := jfullL v62
              try have kqv62 : v59.toInt = v62.toInt := ((vrfL qv59).symm.trans (vrfL qv62))
              try rw [kqv62] at D
              try rw [vrfL qv62] at D
              refine x_lloadn (x := 2134245) rfl rfl ?_
              refine z_lcmp rfl rfl jkl_2134245 (fun v63 ev63 => ?_)
              refine x_ifne (tgt := 21) rfl rfl (ti_ne rfl jk_0 ⟨fun c64 => ?_, fun c64 => ?_⟩)
              ·
                rw [if_neg (by omega)] at D
                refine x_iconst (v := 0) rfl ki_0 ?_
                refine x_zret rfl rfl (by decide) ?_
                show jX m_X12_kindAt 2 0 0 87 [(0, .ref 125)] [.int 0] _ 0 0 _
                refine x_ifeq (tgt := 120) rfl rfl (ti_eq jk_0 jk_0 (br_t (by omega) ?_))
                refine x_aloadn (x := 125) rfl rfl ?_
                refine x_ldc2 (v := 677454) rfl z_12_627 ?_
                refine x_inv (N := m_X12_isWord) (As := [.long 677454]) (b := 125) (st := []) (dx9 := 1) (mc := 0) (ms := 0) (host := "") 12 rfl t_X12_isWord ⟨Or.inl q_12_511, i_X12_isWord.1, i_X12_isWord.2⟩ ⟨by decide, rfl⟩ (congrArg Prod.fst (J.1.1 125 (12, 92) rfl)) rfl (by decide) rfl rfl ⟨by decide, by decide⟩ (jC.of rfl k_X12_isWord rfl ?_)
                show jX m_X12_isWord 1 0 0 0 [(0, .ref 125), (1, .long 677454)] [] _ 0 0 _
                refine x_aloadn (x := 125) rfl rfl ?_
                refine z_getM (N := 92) (v := v1) 12 11 rfl f_12_235 rfl J rfl qv1 ?_
                refine x_iconst (v := 1) rfl ki_1 ?_
                refine x_icne (tgt := 21) rfl rfl (ti_ne rfl jk_1 (bn_f (by omega) ?_))
                refine x_aloadn (x := 125) rfl rfl ?_
                refine z_getLQ (N := 92) 12 12 rfl f_12_224 rfl J rfl (fun v65 qv65 => ?_)
                have ev65 := jfullL v65
                try have kqv65 : v62.toInt = v65.toInt := ((vrfL qv62).symm.trans (vrfL qv65))
                try rw [kqv65] at D
                try rw [vrfL qv65] at D
                refine x_lloadn (x := 677454) rfl rfl ?_
                refine z_lcmp rfl rfl jkl_677454 (fun v66 ev66 => ?_)
                refine x_ifne (tgt := 21) rfl rfl (ti_ne rfl jk_0 ⟨fun c67 => ?_, fun c67 => ?_⟩)
                ·
                  rw [if_neg (by omega)] at D
                  refine x_iconst (v := 0) rfl ki_0 ?_
                  refine x_zret rfl rfl (by decide) ?_
                  show jX m_X12_kindAt 2 0 0 127 [(0, .ref 125)] [.int 0] _ 0 0 _
                  refine x_ifeq (tgt := 135) rfl rfl (ti_eq jk_0 jk_0 (br_t (by omega) ?_))
                  refine x_aloadn (x := 125) rfl rfl ?_
                  refine x_ldc2 (v := 6309) rfl z_12_629 ?_
                  refine x_inv (N := m_X12_isWord) (As := [.long 6309]) (b := 125) (st := []) (dx9 := 1) (mc := 0) (ms := 0) (host := "") 12 rfl t_X12_isWord ⟨Or.inl q_12_511, i_X12_isWord.1, i_X12_isWord.2⟩ ⟨by decide, rfl⟩ (congrArg Prod.fst (J.1.1 125 (12, 92) rfl)) rfl (by decide) rfl rfl ⟨by decide, by decide⟩ (jC.of rfl k_X12_isWord rfl ?_)
                  show jX m_X12_isWord 1 0 0 0 [(0, .ref 125), (1, .long 6309)] [] _ 0 0 _
                  refine x_aloadn (x := 125) rfl rfl ?_
                  refine z_getM (N := 92) (v := v1) 12 11 rfl f_12_235 rfl J rfl qv1 ?_
                  refine x_iconst (v := 1) rfl ki_1 ?_
                  refine x_icne (tgt := 21) rfl rfl (ti_ne rfl jk_1 (bn_f (by omega) ?_))
                  refine x_aloadn (x := 125) rfl rfl ?_
                  refine z_getLQ (N := 92) 12 12 rfl f_12_224 rfl J rfl (fun v68 qv68 => ?_)
                  have ev68 := jfullL v68
                  try have kqv68 : v65.toInt = v68.toInt := ((vrfL qv65).symm.trans (vrfL qv68))
                  try rw [kqv68] at D
                  try rw [vrfL qv68] at D
                  refine x_lloadn (x := 6309) rfl rfl ?_
                  refine z_lcmp rfl rfl jkl_6309 (fun v69 ev69 => ?_)
                  refine x_ifne (tgt := 21) rfl rfl (ti_ne rfl jk_0 ⟨fun c70 => ?_, fun c70 => ?_⟩)
                  ·
                    rw [if_neg (by omega)] at D
                    refine x_iconst (v := 0) rfl ki_0 ?_
                    refine x_zret rfl rfl (by decide) ?_
                    show jX m_X12_kindAt 2 0 0 142 [(0, .ref 125)] [.int 0] _ 0 0 _
                    refine x_ifeq (tgt := 150) rfl rfl (ti_eq jk_0 jk_0 (br_t (by omega) ?_))
                    refine x_aloadn (x := 125) rfl rfl ?_
                    refine x_ldc2 (v := 627764) rfl z_12_631 ?_
                    refine x_inv (N := m_X12_isWord) (As := [.long 627764]) (b := 125) (st := []) (dx9 := 1) (mc := 0) (ms := 0) (host := "") 12 rfl t_X12_isWord ⟨Or.inl q_12_511, i_X12_isWord.1, i_X12_isWord.2⟩ ⟨by decide, rfl⟩ (congrArg Prod.fst (J.1.1 125 (12, 92) rfl)) rfl (by decide) rfl rfl ⟨by decide, by decide⟩ (jC.of rfl k_X12_isWord rfl ?_)
                    show jX m_X12_isWord 1 0 0 0 [(0, .ref 125), (1, .long 627764)] [] _ 0 0 _
                    refine x_aloadn (x := 125) rfl rfl ?_
                    refine z_getM (N := 92) (v := v1) 12 11 rfl f_12_235 rfl J rfl qv1 ?_
                    refine x_iconst (v := 1) rfl ki_1 ?_
                    refine x_icne (tgt := 21) rfl rfl (ti_ne rfl jk_1 (bn_f (by omega) ?_))
                    refine x_aloadn (x := 125) rfl rfl ?_
                    refine z_getLQ (N := 92) 12 12 rfl f_12_224 rfl J rfl (fun v71 qv71 => ?_)
                    have ev71 := jfullL v71
                    try have kqv71 : v68.toInt = v71.toInt := ((vrfL qv68).symm.trans (vrfL qv71))
                    try rw [kqv71] at D
                    try rw [vrfL qv71] at D
                    refine x_lloadn (x := 627764) rfl rfl ?_
                    refine z_lcmp rfl rfl jkl_627764 (fun v72 ev72 => ?_)
                    refine x_ifne (tgt := 21) rfl rfl (ti_ne rfl jk_0 ⟨fun c73 => ?_, fun c73 => ?_⟩)
                    ·
                      rw [if_neg (by omega)] at D
                      refine x_iconst (v := 0) rfl ki_0 ?_
                      refine x_zret rfl rfl (by decide) ?_
                      show jX m_X12_kindAt 2 0 0 157 [(0, .ref 125)] [.int 0] _ 0 0 _
                      refine x_ifeq (tgt := 165) rfl rfl (ti_eq jk_0 jk_0 (br_t (by omega) ?_))
                      refine x_iconst (v := (-1)) rfl ki_m1 ?_
                      exact jX.sub jsb_n (ct_X12_kindAt_r125d_100166 hD hQ  h J Sm D EV)
                    ·
                      rw [if_pos (by omega)] at D
                      refine x_iconst (v := 1) rfl ki_1 ?_
                      refine x_goto (tgt := 22) rfl rfl ?_
                      refine x_zret rfl rfl (by decide) ?_
                      show jX m_X12_kindAt 2 0 0 157 [(0, .ref 125)] [.int 1] _ 0 0 _
                      refine x_ifeq (tgt := 165) rfl rfl (ti_eq jk_1 jk_0 (br_f (by omega) ?_))
                      refine x_bipush (v := 8) rfl kb_8 ?_
                      refine x_goto (tgt := 166) rfl rfl ?_
                      exact jX.sub jsb_n (ct_X12_kindAt_r125d_1000166 hD hQ  h J Sm D EV)
                  ·
                    rw [if_pos (by omega)] at D
                    refine x_iconst (v := 1) rfl ki_1 ?_
                    refine x_goto (tgt := 22) rfl rfl ?_
                    refine x_zret rfl rfl (by decide) ?_
                    show jX m_X12_kindAt 2 0 0 142 [(0, .ref 125)] [.int 1] _ 0 0 _
                    refine x_ifeq (tgt := 150) rfl rfl (ti_eq jk_1 jk_0 (br_f (by omega) ?_))
                    refine x_bipush (v := 7) rfl kb_7 ?_
                    refine x_goto (tgt := 166) rfl rfl ?_
                    exact jX.sub jsb_n (ct_X12_kindAt_r125d_900166 hD hQ  h J Sm D EV)
                ·
                  rw [if_pos (by omega)] at D
                  refine x_iconst (v := 1) rfl ki_1 ?_
                  refine x_goto (tgt := 22) rfl rfl ?_
                  refine x_zret rfl rfl (by decide) ?_
                  show jX m_X12_kindAt 2 0 0 127 [(0, .ref 125)] [.int 1] _ 0 0 _
                  refine x_ifeq (tgt := 135) rfl rfl (ti_eq jk_1 jk_0 (br_f (by omega) ?_))
                  refine x_bipush (v := 6) rfl kb_6 ?_
                  refine x_goto (tgt := 166) rfl rfl ?_
                  exact jX.sub jsb_n (ct_X12_kindAt_r125d_800166 hD hQ  h J Sm D EV)
              ·
                rw [if_pos (by omega)] at D
                refine x_iconst (v := 1) rfl ki_1 ?_
                refine x_goto (tgt := 22) rfl rfl ?_
                refine x_zret rfl rfl (by decide) ?_
                show jX m_X12_kindAt 2 0 0 87 [(0, .ref 125)] [.int 1] _ 0 0 _
                refine x_ifeq (tgt := 120) rfl rfl (ti_eq jk_1 jk_0 (br_f (by omega) ?_))
                exact jX.sub (jsb_c rfl jsb_n) (ct_X12_kindAt_r125d_90 hD hQ  v1 h (jr_of rfl (by omega)) qv1 J Sm D EV)
            ·
              rw [if_pos (by omega)] at D
              refine x_iconst (v := 1) rfl ki_1 ?_
              refine x_goto (tgt := 22) rfl rfl ?_
              refine x_zret rfl rfl (by decide) ?_
              show jX m_X12_kindAt 2 0 0 77 [(0, .ref 125)] [.int 1] _ 0 0 _
              refine x_ifne (tgt := 90) rfl rfl (ti_ne jk_1 jk_0 (bn_t (by omega) ?_))
              exact jX.sub (jsb_c rfl jsb_n) (ct_X12_kindAt_r125d_90 hD hQ  v1 h (jr_of rfl (by omega)) qv1 J Sm D EV)
          ·
            rw [if_pos (by omega)] at D
            refine x_iconst (v := 1) rfl ki_1 ?_
            refine x_goto (tgt := 22) rfl rfl ?_
            refine x_zret rfl rfl (by decide) ?_
            show jX m_X12_kindAt 2 0 0 67 [(0, .ref 125)] [.int 1] _ 0 0 _
            refine x_ifne (tgt := 90) rfl rfl (ti_ne jk_1 jk_0 (bn_t (by omega) ?_))
            exact jX.sub (jsb_c rfl jsb_n) (ct_X12_kindAt_r125d_90 hD hQ  v1 h (jr_of rfl (by omega)) qv1 J Sm D EV)
      ·
        rw [if_pos (by omega)] at D
        refine x_aloadn (x := 125) rfl rfl ?_
        refine z_getLQ (N := 92) 12 12 rfl f_12_224 rfl J rfl (fun v74 qv74 => ?_)
        have ev74 := jfullL v74
        try rw [vrfL qv74] at D
        refine x_lloadn (x := 193115668) rfl rfl ?_
        refine z_lcmp rfl rfl jkl_193115668 (fun v75 ev75 => ?_)
        refine x_ifne (tgt := 21) rfl rfl (ti_ne rfl jk_0 ⟨fun c76 => ?_, fun c76 => ?_⟩)
        ·
          rw [if_neg (by omega)] at D
          refine x_iconst (v := 0) rfl ki_0 ?_
          refine x_zret rfl rfl (by decide) ?_
          show jX m_X12_kindAt 2 0 0 27 [(0, .ref 125)] [.int 0] _ 0 0 _
          refine x_ifeq (tgt := 60) rfl rfl (ti_eq jk_0 jk_0 (br_t (by omega) ?_))
          refine x_aloadn (x := 125) rfl rfl ?_
          refine x_ldc2 (v := 591493) rfl z_12_621 ?_
          refine x_inv (N := m_X12_isWord) (As := [.long 591493]) (b := 125) (st := []) (dx9 := 1) (mc := 0) (ms := 0) (host := "") 12 rfl t_X12_isWord ⟨Or.inl q_12_511, i_X12_isWord.1, i_X12_isWord.2⟩ ⟨by decide, rfl⟩ (congrArg Prod.fst (J.1.1 125 (12, 92) rfl)) rfl (by decide) rfl rfl ⟨by decide, by decide⟩ (jC.of rfl k_X12_isWord rfl ?_)
          show jX m_X12_isWord 1 0 0 0 [(0, .ref 125), (1, .long 591493)] [] _ 0 0 _
          refine x_aloadn (x := 125) rfl rfl ?_
          refine z_getM (N := 92) (v := v1) 12 11 rfl f_12_235 rfl J rfl qv1 ?_
          refine x_iconst (v := 1) rfl ki_1 ?_
          refine x_icne (tgt := 21) rfl rfl (ti_ne rfl jk_1 (bn_f (by omega) ?_))
          refine x_aloadn (x := 125) rfl rfl ?_
          refine z_getLQ (N := 92) 12 12 rfl f_12_224 rfl J rfl (fun v77 qv77 => ?_)
          have ev77 := jfullL v77
          try have kqv77 : v74.toInt = v77.toInt := ((vrfL qv74).symm.trans (vrfL qv77))
          try rw [kqv77] at D
          try rw [vrfL qv77] at D
          refine x_lloadn (x := 591493) rfl rfl ?_
          refine z_lcmp rfl rfl jkl_591493 (fun v78 ev78 => ?_)
          refine x_ifne (tgt := 21) rfl rfl (ti_ne rfl jk_0 ⟨fun c79 => ?_, fun c79 => ?_⟩)
          ·
            rw [if_neg (by omega)] at D
            refine x_iconst (v := 0) rfl ki_0 ?_
            refine x_zret rfl rfl (by decide) ?_
            show jX m_X12_kindAt 2 0 0 67 [(0, .ref 125)] [.int 0] _ 0 0 _
            refine x_ifne (tgt := 90) rfl rfl (ti_ne jk_0 jk_0 (bn_f (by omega) ?_))
            refine x_aloadn (x := 125) rfl rfl ?_
            refine x_ldc2 (v := 609625254) rfl z_12_623 ?_
            refine x_inv (N := m_X12_isWord) (As := [.long 609625254]) (b := 125) (st := []) (dx9 := 1) (mc := 0) (ms := 0) (host := "") 12 rfl t_X12_isWord ⟨Or.inl q_12_511, i_X12_isWord.1, i_X12_isWord.2⟩ ⟨by decide, rfl⟩ (congrArg Prod.fst (J.1.1 125 (12, 92) rfl)) rfl (by decide) rfl rfl ⟨by decide, by decide⟩ (jC.of rfl k_X12_isWord rfl ?_)
            show jX m_X12_isWord 1 0 0 0 [(0, .ref 125), (1, .long 609625254)] [] _ 0 0 _
            refine x_aloadn (x := 125) rfl rfl ?_
            refine z_getM (N := 92) (v := v1) 12 11 rfl f_12_235 rfl J rfl qv1 ?_
            refine x_iconst (v := 1) rfl ki_1 ?_
            refine x_icne (tgt := 21) rfl rfl (ti_ne rfl jk_1 (bn_f (by omega) ?_))
            refine x_aloadn (x := 125) rfl rfl ?_
            refine z_getLQ (N := 92) 12 12 rfl f_12_224 rfl J rfl (fun v80 qv80 => ?_)
            have ev80 := jfullL v80
            try have kqv80 : v77.toInt = v80.toInt := ((vrfL qv77).symm.trans (vrfL qv80))
            try rw [kqv80] at D
            try rw [vrfL qv80] at D
            refine x_lloadn (x := 609625254) rfl rfl ?_
            refine z_lcmp rfl rfl jkl_609625254 (fun v81 ev81 => ?_)
            refine x_ifne (tgt := 21) rfl rfl (ti_ne rfl jk_0 ⟨fun c82 => ?_, fun c82 => ?_⟩)
            ·
              rw [if_neg (by omega)] at D
              refine x_iconst (v := 0) rfl ki_0 ?_
              refine x_zret rfl rfl (by decide) ?_
              show jX m_X12_kindAt 2 0 0 77 [(0, .ref 125)] [.int 0] _ 0 0 _
              refine x_ifne (tgt := 90) rfl rfl (ti_ne jk_0 jk_0 (bn_f (by omega) ?_))
              refine x_aloadn (x := 125) rfl rfl ?_
              refine x_ldc2 (v := 2134245) rfl z_12_625 ?_
              refine x_inv (N := m_X12_isWord) (As := [.long 2134245]) (b := 125) (st := []) (dx9 := 1) (mc := 0) (ms := 0) (host := "") 12 rfl t_X12_isWord ⟨Or.inl q_12_511, i_X12_isWord.1, i_X12_isWord.2⟩ ⟨by decide, rfl⟩ (congrArg Prod.fst (J.1.1 125 (12, 92) rfl)) rfl (by decide) rfl rfl ⟨by decide, by decide⟩ (jC.of rfl k_X12_isWord rfl ?_)
              show jX m_X12_isWord 1 0 0 0 [(0, .ref 125), (1, .long 2134245)] [] _ 0 0 _
              refine x_aloadn (x := 125) rfl rfl ?_
              refine z_getM (N := 92) (v := v1) 12 11 rfl f_12_235 rfl J rfl qv1 ?_
              refine x_iconst (v := 1) rfl ki_1 ?_
              refine x_icne (tgt := 21) rfl rfl (ti_ne rfl jk_1 (bn_f (by omega) ?_))
              refine x_aloadn (x := 125) rfl rfl ?_
              refine z_getLQ (N := 92) 12 12 rfl f_12_224 rfl J rfl (fun v83 qv83 => ?_)
              have ev83 := jfullL v83
              try have kqv83 : v80.toInt = v83.toInt := ((vrfL qv80).symm.trans (vrfL qv83))
              try rw [kqv83] at D
              try rw [vrfL qv83] at D
              refine x_lloadn (x := 2134245) rfl rfl ?_
              refine z_lcmp rfl rfl jkl_2134245 (fun v84 ev84 => ?_)
              refine x_ifne (tgt := 21) rfl rfl (ti_ne rfl jk_0 ⟨fun c85 => ?_, fun c85 => ?_⟩)
              ·
                rw [if_neg (by omega)] at D
                refine x_iconst (v := 0) rfl ki_0 ?_
                refine x_zret rfl rfl (by decide) ?_
                show jX m_X12_kindAt 2 0 0 87 [(0, .ref 125)] [.int 0] _ 0 0 _
                refine x_ifeq (tgt := 120) rfl rfl (ti_eq jk_0 jk_0 (br_t (by omega) ?_))
                refine x_aloadn (x := 125) rfl rfl ?_
                refine x_ldc2 (v := 677454) rfl z_12_627 ?_
                refine x_inv (N := m_X12_isWord) (As := [.long 677454]) (b := 125) (st := []) (dx9 := 1) (mc := 0) (ms := 0) (host := "") 12 rfl t_X12_isWord ⟨Or.inl q_12_511, i_X12_isWord.1, i_X12_isWord.2⟩ ⟨by decide, rfl⟩ (congrArg Prod.fst (J.1.1 125 (12, 92) rfl)) rfl (by decide) rfl rfl ⟨by decide, by decide⟩ (jC.of rfl k_X12_isWord rfl ?_)
                show jX m_X12_isWord 1 0 0 0 [(0, .ref 125), (1, .long 677454)] [] _ 0 0 _
                refine x_aloadn (x := 125) rfl rfl ?_
                refine z_getM (N := 92) (v := v1) 12 11 rfl f_12_235 rfl J rfl qv1 ?_
                refine x_iconst (v := 1) rfl ki_1 ?_
                refine x_icne (tgt := 21) rfl rfl (ti_ne rfl jk_1 (bn_f (by omega) ?_))
                refine x_aloadn (x := 125) rfl rfl ?_
                refine z_getLQ (N := 92) 12 12 rfl f_12_224 rfl J rfl (fun v86 qv86 => ?_)
                have ev86 := jfullL v86
                try have kqv86 : v83.toInt = v86.toInt := ((vrfL qv83).symm.trans (vrfL qv86))
                try rw [kqv86] at D
                try rw [vrfL qv86] at D
                refine x_lloadn (x := 677454) rfl rfl ?_
                refine z_lcmp rfl rfl jkl_677454 (fun v87 ev87 => ?_)
                refine x_ifne (tgt := 21) rfl rfl (ti_ne rfl jk_0 ⟨fun c88 => ?_, fun c88 => ?_⟩)
                ·
                  rw [if_neg (by omega)] at D
                  refine x_iconst (v := 0) rfl ki_0 ?_
                  refine x_zret rfl rfl (by decide) ?_
                  show jX m_X12_kindAt 2 0 0 127 [(0, .ref 125)] [.int 0] _ 0 0 _
                  refine x_ifeq (tgt := 135) rfl rfl (ti_eq jk_0 jk_0 (br_t (by omega) ?_))
                  refine x_aloadn (x := 125) rfl rfl ?_
                  refine x_ldc2 (v := 6309) rfl z_12_629 ?_
                  refine x_inv (N := m_X12_isWord) (As := [.long 6309]) (b := 125) (st := []) (dx9 := 1) (mc := 0) (ms := 0) (host := "") 12 rfl t_X12_isWord ⟨Or.inl q_12_511, i_X12_isWord.1, i_X12_isWord.2⟩ ⟨by decide, rfl⟩ (congrArg Prod.fst (J.1.1 125 (12, 92) rfl)) rfl (by decide) rfl rfl ⟨by decide, by decide⟩ (jC.of rfl k_X12_isWord rfl ?_)
                  show jX m_X12_isWord 1 0 0 0 [(0, .ref 125), (1, .long 6309)] [] _ 0 0 _
                  refine x_aloadn (x := 125) rfl rfl ?_
                  refine z_getM (N := 92) (v := v1) 12 11 rfl f_12_235 rfl J rfl qv1 ?_
                  refine x_iconst (v := 1) rfl ki_1 ?_
                  refine x_icne (tgt := 21) rfl rfl (ti_ne rfl jk_1 (bn_f (by omega) ?_))
                  refine x_aloadn (x := 125) rfl rfl ?_
                  refine z_getLQ (N := 92) 12 12 rfl f_12_224 rfl J rfl (fun v89 qv89 => ?_)
                  have ev89 := jfullL v89
                  try have kqv89 : v86.toInt = v89.toInt := ((vrfL qv86).symm.trans (vrfL qv89))
                  try rw [kqv89] at D
                  try rw [vrfL qv89] at D
                  refine x_lloadn (x := 6309) rfl rfl ?_
                  refine z_lcmp rfl rfl jkl_6309 (fun v90 ev90 => ?_)
                  refine x_ifne (tgt := 21) rfl rfl (ti_ne rfl jk_0 ⟨fun c91 => ?_, fun c91 => ?_⟩)
                  ·
                    rw [if_neg (by omega)] at D
                    refine x_iconst (v := 0) rfl ki_0 ?_
                    refine x_zret rfl rfl (by decide) ?_
                    show jX m_X12_kindAt 2 0 0 142 [(0, .ref 125)] [.int 0] _ 0 0 _
                    refine x_ifeq (tgt := 150) rfl rfl (ti_eq jk_0 jk_0 (br_t (by omega) ?_))
                    refine x_aloadn (x := 125) rfl rfl ?_
                    refine x_ldc2 (v := 627764) rfl z_12_631 ?_
                    refine x_inv (N := m_X12_isWord) (As := [.long 627764]) (b := 125) (st := []) (dx9 := 1) (mc := 0) (ms := 0) (host := "") 12 rfl t_X12_isWord ⟨Or.inl q_12_511, i_X12_isWord.1, i_X12_isWord.2⟩ ⟨by decide, rfl⟩ (congrArg Prod.fst (J.1.1 125 (12, 92) rfl)) rfl (by decide) rfl rfl ⟨by decide, by decide⟩ (jC.of rfl k_X12_isWord rfl ?_)
                    show jX m_X12_isWord 1 0 0 0 [(0, .ref 125), (1, .long 627764)] [] _ 0 0 _
                    refine x_aloadn (x := 125) rfl rfl ?_
                    refine z_getM (N := 92) (v := v1) 12 11 rfl f_12_235 rfl J rfl qv1 ?_
                    refine x_iconst (v := 1) rfl ki_1 ?_
                    refine x_icne (tgt := 21) rfl rfl (ti_ne rfl jk_1 (bn_f (by omega) ?_))
                    refine x_aloadn (x := 125) rfl rfl ?_
                    refine z_getLQ (N := 92) 12 12 rfl f_12_224 rfl J rfl (fun v92 qv92 => ?_)
                    have ev92 := jfullL v92
                    try have kqv92 : v89.toInt = v92.toInt := ((vrfL qv89).symm.trans (vrfL qv92))
                    try rw [kqv92] at D
                    try rw [vrfL qv92] at D
                    refine x_lloadn (x := 627764) rfl rfl ?_
                    refine z_lcmp rfl rfl jkl_627764 (fun v93 ev93 => ?_)
                    refine x_ifne (tgt := 21) rfl rfl (ti_ne rfl jk_0 ⟨fun c94 => ?_, fun c94 => ?_⟩)
                    ·
                      rw [if_neg (by omega)] at D
                      refine x_iconst (v := 0) rfl ki_0 ?_
                      refine x_zret rfl rfl (by decide) ?_
                      show jX m_X12_kindAt 2 0 0 157 [(0, .ref 125)] [.int 0] _ 0 0 _
                      refine x_ifeq (tgt := 165) rfl rfl (ti_eq jk_0 jk_0 (br_t (by omega) ?_))
                      refine x_iconst (v := (-1)) rfl ki_m1 ?_
                      exact jX.sub jsb_n (ct_X12_kindAt_r125d_100166 hD hQ  h J Sm D EV)
                    ·
                      rw [if_pos (by omega)] at D
                      refine x_iconst (v := 1) rfl ki_1 ?_
                      refine x_goto (tgt := 22) rfl rfl ?_
                      refine x_zret rfl rfl (by decide) ?_
                      show jX m_X12_kindAt 2 0 0 157 [(0, .ref 125)] [.int 1] _ 0 0 _
                      refine x_ifeq (tgt := 165) rfl rfl (ti_eq jk_1 jk_0 (br_f (by omega) ?_))
                      refine x_bipush (v := 8) rfl kb_8 ?_
                      refine x_goto (tgt := 166) rfl rfl ?_
                      exact jX.sub jsb_n (ct_X12_kindAt_r125d_1000166 hD hQ  h J Sm D EV)
                  ·
                    rw [if_pos (by omega)] at D
                    refine x_iconst (v := 1) rfl ki_1 ?_
                    refine x_goto (tgt := 22) rfl rfl ?_
                    refine x_zret rfl rfl (by decide) ?_
                    show jX m_X12_kindAt 2 0 0 142 [(0, .ref 125)] [.int 1] _ 0 0 _
                    refine x_ifeq (tgt := 150) rfl rfl (ti_eq jk_1 jk_0 (br_f (by omega) ?_))
                    refine x_bipush (v := 7) rfl kb_7 ?_
                    refine x_goto (tgt := 166) rfl rfl ?_
                    exact jX.sub jsb_n (ct_X12_kindAt_r125d_900166 hD hQ  h J Sm D EV)
                ·
                  rw [if_pos (by omega)] at D
                  refine x_iconst (v := 1) rfl ki_1 ?_
                  refine x_goto (tgt := 22) rfl rfl ?_
                  refine x_zret rfl rfl (by decide) ?_
                  show jX m_X12_kindAt 2 0 0 127 [(0, .ref 125)] [.int 1] _ 0 0 _
                  refine x_ifeq (tgt := 135) rfl rfl (ti_eq jk_1 jk_0 (br_f (by omega) ?_))
                  refine x_bipush (v := 6) rfl kb_6 ?_
                  refine x_goto (tgt := 166) rfl rfl ?_
                  exact jX.sub jsb_n (ct_X12_kindAt_r125d_800166 hD hQ  h J Sm D EV)
              ·
                rw [if_pos (by omega)] at D
                refine x_iconst (v := 1) rfl ki_1 ?_
                refine x_goto (tgt := 22) rfl rfl ?_
                refine x_zret rfl rfl (by decide) ?_
                show jX m_X12_kindAt 2 0 0 87 [(0, .ref 125)] [.int 1] _ 0 0 _
                refine x_ifeq (tgt := 120) rfl rfl (ti_eq jk_1 jk_0 (br_f (by omega) ?_))
                exact jX.sub (jsb_c rfl jsb_n) (ct_X12_kindAt_r125d_90 hD hQ  v1 h (jr_of rfl (by omega)) qv1 J Sm D EV)
            ·
              rw [if_pos (by omega)] at D
              refine x_iconst (v := 1) rfl ki_1 ?_
              refine x_goto (tgt := 22) rfl rfl ?_
              refine x_zret rfl rfl (by decide) ?_
              show jX m_X12_kindAt 2 0 0 77 [(0, .ref 125)] [.int 1] _ 0 0 _
              refine x_ifne (tgt := 90) rfl rfl (ti_ne jk_1 jk_0 (bn_t (by omega) ?_))
              exact jX.sub (jsb_c rfl jsb_n) (ct_X12_kindAt_r125d_90 hD hQ  v1 h (jr_of rfl (by omega)) qv1 J Sm D EV)
          ·
            rw [if_pos (by omega)] at D
            refine x_iconst (v := 1) rfl ki_1 ?_
            refine x_goto (tgt := 22) rfl rfl ?_
            refine x_zret rfl rfl (by decide) ?_
            show jX m_X12_kindAt 2 0 0 67 [(0, .ref 125)] [.int 1] _ 0 0 _
            refine x_ifne (tgt := 90) rfl rfl (ti_ne jk_1 jk_0 (bn_t (by omega) ?_))
            exact jX.sub (jsb_c rfl jsb_n) (ct_X12_kindAt_r125d_90 hD hQ  v1 h (jr_of rfl (by omega)) qv1 J Sm D EV)
        ·
          rw [if_pos (by omega)] at D
          refine x_iconst (v := 1) rfl ki_1 ?_
          refine x_goto (tgt := 22) rfl rfl ?_
          refine x_zret rfl rfl (by decide) ?_
          show jX m_X12_kindAt 2 0 0 27 [(0, .ref 125)] [.int 1] _ 0 0 _
          refine x_ifeq (tgt := 60) rfl rfl (ti_eq jk_1 jk_0 (br_f (by omega) ?_))
          exact jX.sub (jsb_c rfl jsb_n) (ct_X12_kindAt_r125d_30 hD hQ  v1 h (jr_of rfl (by omega)) qv1 J Sm D EV)
    ·
      rw [if_pos (by omega)] at D
      refine x_aloadn (x := 125) rfl rfl ?_
      refine z_getLQ (N := 92) 12 12 rfl f_12_224 rfl J rfl (fun v95 qv95 => ?_)
      have ev95 := jfullL v95
      try rw [vrfL qv95] at D
      refine x_lloadn (x := 72760775) rfl rfl ?_
      refine z_lcmp rfl rfl jkl_72760775 (fun v96 ev96 => ?_)
      refine x_ifne (tgt := 21) rfl rfl (ti_ne rfl jk_0 ⟨fun c97 => ?_, fun c97 => ?_⟩)
      ·
        rw [if_neg (by omega)] at D
        refine x_iconst (v := 0) rfl ki_0 ?_
        refine x_zret rfl rfl (by decide) ?_
        show jX m_X12_kindAt 2 0 0 17 [(0, .ref 125)] [.int 0] _ 0 0 _
        refine x_ifne (tgt := 30) rfl rfl (ti_ne jk_0 jk_0 (bn_f (by omega) ?_))
        refine x_aloadn (x := 125) rfl rfl ?_
        refine x_ldc2 (v := 193115668) rfl z_12_619 ?_
        refine x_inv (N := m_X12_isWord) (As := [.long 193115668]) (b := 125) (st := []) (dx9 := 1) (mc := 0) (ms := 0) (host := "") 12 rfl t_X12_isWord ⟨Or.inl q_12_511, i_X12_isWord.1, i_X12_isWord.2⟩ ⟨by decide, rfl⟩ (congrArg Prod.fst (J.1.1 125 (12, 92) rfl)) rfl (by decide) rfl rfl ⟨by decide, by decide⟩ (jC.of rfl k_X12_isWord rfl ?_)
        show jX m_X12_isWord 1 0 0 0 [(0, .ref 125), (1, .long 193115668)] [] _ 0 0 _
        refine x_aloadn (x := 125) rfl rfl ?_
        refine z_getM (N := 92) (v := v1) 12 11 rfl f_12_235 rfl J rfl qv1 ?_
        refine x_iconst (v := 1) rfl ki_1 ?_
        refine x_icne (tgt := 21) rfl rfl (ti_ne rfl jk_1 (bn_f (by omega) ?_))
        refine x_aloadn (x := 125) rfl rfl ?_
        refine z_getLQ (N := 92) 12 12 rfl f_12_224 rfl J rfl (fun v98 qv98 => ?_)
        have ev98 := jfullL v98
        try have kqv98 : v95.toInt = v98.toInt := ((vrfL qv95).symm.trans (vrfL qv98))
        try rw [kqv98] at D
        try rw [vrfL qv98] at D
        refine x_lloadn (x := 193115668) rfl rfl ?_
        refine z_lcmp rfl rfl jkl_193115668 (fun v99 ev99 => ?_)
        refine x_ifne (tgt := 21) rfl rfl (ti_ne rfl jk_0 ⟨fun c100 => ?_, fun c100 => ?_⟩)
        ·
          rw [if_neg (by omega)] at D
          refine x_iconst (v := 0) rfl ki_0 ?_
          refine x_zret rfl rfl (by decide) ?_
          show jX m_X12_kindAt 2 0 0 27 [(0, .ref 125)] [.int 0] _ 0 0 _
          refine x_ifeq (tgt := 60) rfl rfl (ti_eq jk_0 jk_0 (br_t (by omega) ?_))
          refine x_aloadn (x := 125) rfl rfl ?_
          refine x_ldc2 (v := 591493) rfl z_12_621 ?_
          refine x_inv (N := m_X12_isWord) (As := [.long 591493]) (b := 125) (st := []) (dx9 := 1) (mc := 0) (ms := 0) (host := "") 12 rfl t_X12_isWord ⟨Or.inl q_12_511, i_X12_isWord.1, i_X12_isWord.2⟩ ⟨by decide, rfl⟩ (congrArg Prod.fst (J.1.1 125 (12, 92) rfl)) rfl (by decide) rfl rfl ⟨by decide, by decide⟩ (jC.of rfl k_X12_isWord rfl ?_)
          show jX m_X12_isWord 1 0 0 0 [(0, .ref 125), (1, .long 591493)] [] _ 0 0 _
          refine x_aloadn (x := 125) rfl rfl ?_
          refine z_getM (N := 92) (v := v1) 12 11 rfl f_12_235 rfl J rfl qv1 ?_
          refine x_iconst (v := 1) rfl ki_1 ?_
          refine x_icne (tgt := 21) rfl rfl (ti_ne rfl jk_1 (bn_f (by omega) ?_))
          refine x_aloadn (x := 125) rfl rfl ?_
          refine z_getLQ (N := 92) 12 12 rfl f_12_224 rfl J rfl (fun v101 qv101 => ?_)
          have ev101 := jfullL v101
          try have kqv101 : v98.toInt = v101.toInt := ((vrfL qv98).symm.trans (vrfL qv101))
          try rw [kqv101] at D
          try rw [vrfL qv101] at D
          refine x_lloadn (x := 591493) rfl rfl ?_
          refine z_lcmp rfl rfl jkl_591493 (fun v102 ev102 => ?_)
          refine x_ifne (tgt := 21) rfl rfl (ti_ne rfl jk_0 ⟨fun c103 => ?_, fun c103 => ?_⟩)
          ·
            rw [if_neg (by omega)] at D
            refine x_iconst (v := 0) rfl ki_0 ?_
            refine x_zret rfl rfl (by decide) ?_
            show jX m_X12_kindAt 2 0 0 67 [(0, .ref 125)] [.int 0] _ 0 0 _
            refine x_ifne (tgt := 90) rfl rfl (ti_ne jk_0 jk_0 (bn_f (by omega) ?_))
            refine x_aloadn (x := 125) rfl rfl ?_
            refine x_ldc2 (v := 609625254) rfl z_12_623 ?_
            refine x_inv (N := m_X12_isWord) (As := [.long 609625254]) (b := 125) (st := []) (dx9 := 1) (mc := 0) (ms := 0) (host := "") 12 rfl t_X12_isWord ⟨Or.inl q_12_511, i_X12_isWord.1, i_X12_isWord.2⟩ ⟨by decide, rfl⟩ (congrArg Prod.fst (J.1.1 125 (12, 92) rfl)) rfl (by decide) rfl rfl ⟨by decide, by decide⟩ (jC.of rfl k_X12_isWord rfl ?_)
            show jX m_X12_isWord 1 0 0 0 [(0, .ref 125), (1, .long 609625254)] [] _ 0 0 _
            refine x_aloadn (x := 125) rfl rfl ?_
            refine z_getM (N := 92) (v := v1) 12 11 rfl f_12_235 rfl J rfl qv1 ?_
            refine x_iconst (v := 1) rfl ki_1 ?_
            refine x_icne (tgt := 21) rfl rfl (ti_ne rfl jk_1 (bn_f (by omega) ?_))
            refine x_aloadn (x := 125) rfl rfl ?_
            refine z_getLQ (N := 92) 12 12 rfl f_12_224 rfl J rfl (fun v104 qv104 => ?_)
            have ev104 := jfullL v104
            try have kqv104 : v101.toInt = v104.toInt := ((vrfL qv101).symm.trans (vrfL qv104))
            try rw [kqv104] at D
            try rw [vrfL qv104] at D
            refine x_lloadn (x := 609625254) rfl rfl ?_
            refine z_lcmp rfl rfl jkl_609625254 (fun v105 ev105 => ?_)
            refine x_ifne (tgt := 21) rfl rfl (ti_ne rfl jk_0 ⟨fun c106 => ?_, fun c106 => ?_⟩)
            ·
              rw [if_neg (by omega)] at D
              refine x_iconst (v := 0) rfl ki_0 ?_
              refine x_zret rfl rfl (by decide) ?_
              show jX m_X12_kindAt 2 0 0 77 [(0, .ref 125)] [.int 0] _ 0 0 _
              refine x_ifne (tgt := 90) rfl rfl (ti_ne jk_0 jk_0 (bn_f (by omega) ?_))
              refine x_aloadn (x := 125) rfl rfl ?_
              refine x_ldc2 (v := 2134245) rfl z_12_625 ?_
              refine x_inv (N := m_X12_isWord) (As := [.long 2134245]) (b := 125) (st := []) (dx9 := 1) (mc := 0) (ms := 0) (host := "") 12 rfl t_X12_isWord ⟨Or.inl q_12_511, i_X12_isWord.1, i_X12_isWord.2⟩ ⟨by decide, rfl⟩ (congrArg Prod.fst (J.1.1 125 (12, 92) rfl)) rfl (by decide) rfl rfl ⟨by decide, by decide⟩ (jC.of rfl k_X12_isWord rfl ?_)
              show jX m_X12_isWord 1 0 0 0 [(0, .ref 125), (1, .long 2134245)] [] _ 0 0 _
              refine x_aloadn (x := 125) rfl rfl ?_
              refine z_getM (N := 92) (v := v1) 12 11 rfl f_12_235 rfl J rfl qv1 ?_
              refine x_iconst (v := 1) rfl ki_1 ?_
              refine x_icne (tgt := 21) rfl rfl (ti_ne rfl jk_1 (bn_f (by omega) ?_))
              refine x_aloadn (x := 125) rfl rfl ?_
              refine z_getLQ (N := 92) 12 12 rfl f_12_224 rfl J rfl (fun v107 qv107 => ?_)
              have ev107 := jfullL v107
              try have kqv107 : v104.toInt = v107.toInt := ((vrfL qv104).symm.trans (vrfL qv107))
              try rw [kqv107] at D
              try rw [vrfL qv107] at D
              refine x_lloadn (x := 2134245) rfl rfl ?_
              refine z_lcmp rfl rfl jkl_2134245 (fun v108 ev108 => ?_)
              refine x_ifne (tgt := 21) rfl rfl (ti_ne rfl jk_0 ⟨fun c109 => ?_, fun c109 => ?_⟩)
              ·
                rw [if_neg (by omega)] at D
                refine x_iconst (v := 0) rfl ki_0 ?_
                refine x_zret rfl rfl (by decide) ?_
                show jX m_X12_kindAt 2 0 0 87 [(0, .ref 125)] [.int 0] _ 0 0 _
                refine x_ifeq (tgt := 120) rfl rfl (ti_eq jk_0 jk_0 (br_t (by omega) ?_))
                refine x_aloadn (x := 125) rfl rfl ?_
                refine x_ldc2 (v := 677454) rfl z_12_627 ?_
                refine x_inv (N := m_X12_isWord) (As := [.long 677454]) (b := 125) (st := []) (dx9 := 1) (mc := 0) (ms := 0) (host := "") 12 rfl t_X12_isWord ⟨Or.inl q_12_511, i_X12_isWord.1, i_X12_isWord.2⟩ ⟨by decide, rfl⟩ (congrArg Prod.fst (J.1.1 125 (12, 92) rfl)) rfl (by decide) rfl rfl ⟨by decide, by decide⟩ (jC.of rfl k_X12_isWord rfl ?_)
                show jX m_X12_isWord 1 0 0 0 [(0, .ref 125), (1, .long 677454)] [] _ 0 0 _
                refine x_aloadn (x := 125) rfl rfl ?_
                refine z_getM (N := 92) (v := v1) 12 11 rfl f_12_235 rfl J rfl qv1 ?_
                refine x_iconst (v := 1) rfl ki_1 ?_
                refine x_icne (tgt := 21) rfl rfl (ti_ne rfl jk_1 (bn_f (by omega) ?_))
                refine x_aloadn (x := 125) rfl rfl ?_
                refine z_getLQ (N := 92) 12 12 rfl f_12_224 rfl J rfl (fun v110 qv110 => ?_)
                have ev110 := jfullL v110
                try have kqv110 : v107.toInt = v110.toInt := ((vrfL qv107).symm.trans (vrfL qv110))
                try rw [kqv110] at D
                try rw [vrfL qv110] at D
                refine x_lloadn (x := 677454) rfl rfl ?_
                refine z_lcmp rfl rfl jkl_677454 (fun v111 ev111 => ?_)
                refine x_ifne (tgt := 21) rfl rfl (ti_ne rfl jk_0 ⟨fun c112 => ?_, fun c112 => ?_⟩)
                ·
                  rw [if_neg (by omega)] at D
                  refine x_iconst (v := 0) rfl ki_0 ?_
                  refine x_zret rfl rfl (by decide) ?_
                  show jX m_X12_kindAt 2 0 0 127 [(0, .ref 125)] [.int 0] _ 0 0 _
                  refine x_ifeq (tgt := 135) rfl rfl (ti_eq jk_0 jk_0 (br_t (by omega) ?_))
                  refine x_aloadn (x := 125) rfl rfl ?_
                  refine x_ldc2 (v := 6309) rfl z_12_629 ?_
                  refine x_inv (N := m_X12_isWord) (As := [.long 6309]) (b := 125) (st := []) (dx9 := 1) (mc := 0) (ms := 0) (host := "") 12 rfl t_X12_isWord ⟨Or.inl q_12_511, i_X12_isWord.1, i_X12_isWord.2⟩ ⟨by decide, rfl⟩ (congrArg Prod.fst (J.1.1 125 (12, 92) rfl)) rfl (by decide) rfl rfl ⟨by decide, by decide⟩ (jC.of rfl k_X12_isWord rfl ?_)
                  show jX m_X12_isWord 1 0 0 0 [(0, .ref 125), (1, .long 6309)] [] _ 0 0 _
                  refine x_aloadn (x := 125) rfl rfl ?_
                  refine z_getM (N := 92) (v := v1) 12 11 rfl f_12_235 rfl J rfl qv1 ?_
                  refine x_iconst (v := 1) rfl ki_1 ?_
                  refine x_icne (tgt := 21) rfl rfl (ti_ne rfl jk_1 (bn_f (by omega) ?_))
                  refine x_aloadn (x := 125) rfl rfl ?_
                  refine z_getLQ (N := 92) 12 12 rfl f_12_224 rfl J rfl (fun v113 qv113 => ?_)
                  have ev113 := jfullL v113
                  try have kqv113 : v110.toInt = v113.toInt := ((vrfL qv110).symm.trans (vrfL qv113))
                  try rw [kqv113] at D
                  try rw [vrfL qv113] at D
                  refine x_lloadn (x := 6309) rfl rfl ?_
                  refine z_lcmp rfl rfl jkl_6309 (fun v114 ev114 => ?_)
                  refine x_ifne (tgt := 21) rfl rfl (ti_ne rfl jk_0 ⟨fun c115 => ?_, fun c115 => ?_⟩)
                  ·
                    rw [if_neg (by omega)] at D
                    refine x_iconst (v := 0) rfl ki_0 ?_
                    refine x_zret rfl rfl (by decide) ?_
                    show jX m_X12_kindAt 2 0 0 142 [(0, .ref 125)] [.int 0] _ 0 0 _
                    refine x_ifeq (tgt := 150) rfl rfl (ti_eq jk_0 jk_0 (br_t (by omega) ?_))
                    refine x_aloadn (x := 125) rfl rfl ?_
                    refine x_ldc2 (v := 627764) rfl z_12_631 ?_
                    refine x_inv (N := m_X12_isWord) (As := [.long 627764]) (b := 125) (st := []) (dx9 := 1) (mc := 0) (ms := 0) (host := "") 12 rfl t_X12_isWord ⟨Or.inl q_12_511, i_X12_isWord.1, i_X12_isWord.2⟩ ⟨by decide, rfl⟩ (congrArg Prod.fst (J.1.1 125 (12, 92) rfl)) rfl (by decide) rfl rfl ⟨by decide, by decide⟩ (jC.of rfl k_X12_isWord rfl ?_)
                    show jX m_X12_isWord 1 0 0 0 [(0, .ref 125), (1, .long 627764)] [] _ 0 0 _
                    refine x_aloadn (x := 125) rfl rfl ?_
                    refine z_getM (N := 92) (v := v1) 12 11 rfl f_12_235 rfl J rfl qv1 ?_
                    refine x_iconst (v := 1) rfl ki_1 ?_
                    refine x_icne (tgt := 21) rfl rfl (ti_ne rfl jk_1 (bn_f (by omega) ?_))
                    refine x_aloadn (x := 125) rfl rfl ?_
                    refine z_getLQ (N := 92) 12 12 rfl f_12_224 rfl J rfl (fun v116 qv116 => ?_)
                    have ev116 := jfullL v116
                    try have kqv116 : v113.toInt = v116.toInt := ((vrfL qv113).symm.trans (vrfL qv116))
                    try rw [kqv116] at D
                    try rw [vrfL qv116] at D
                    refine x_lloadn (x := 627764) rfl rfl ?_
                    refine z_lcmp rfl rfl jkl_627764 (fun v117 ev117 => ?_)
                    refine x_ifne (tgt := 21) rfl rfl (ti_ne rfl jk_0 ⟨fun c118 => ?_, fun c118 => ?_⟩)
                    ·
                      rw [if_neg (by omega)] at D
                      refine x_iconst (v := 0) rfl ki_0 ?_
                      refine x_zret rfl rfl (by decide) ?_
                      show jX m_X12_kindAt 2 0 0 157 [(0, .ref 125)] [.int 0] _ 0 0 _
                      refine x_ifeq (tgt := 165) rfl rfl (ti_eq jk_0 jk_0 (br_t (by omega) ?_))
                      refine x_iconst (v := (-1)) rfl ki_m1 ?_
                      exact jX.sub jsb_n (ct_X12_kindAt_r125d_100166 hD hQ  h J Sm D EV)
                    ·
                      rw [if_pos (by omega)] at D
                      refine x_iconst (v := 1) rfl ki_1 ?_
                      refine x_goto (tgt := 22) rfl rfl ?_
                      refine x_zret rfl rfl (by decide) ?_
                      show jX m_X12_kindAt 2 0 0 157 [(0, .ref 125)] [.int 1] _ 0 0 _
                      refine x_ifeq (tgt := 165) rfl rfl (ti_eq jk_1 jk_0 (br_f (by omega) ?_))
                      refine x_bipush (v := 8) rfl kb_8 ?_
                      refine x_goto (tgt := 166) rfl rfl ?_
                      exact jX.sub jsb_n (ct_X12_kindAt_r125d_1000166 hD hQ  h J Sm D EV)
                  ·
                    rw [if_pos (by omega)] at D
                    refine x_iconst (v := 1) rfl ki_1 ?_
                    refine x_goto (tgt := 22) rfl rfl ?_
                    refine x_zret rfl rfl (by decide) ?_
                    show jX m_X12_kindAt 2 0 0 142 [(0, .ref 125)] [.int 1] _ 0 0 _
                    refine x_ifeq (tgt := 150) rfl rfl (ti_eq jk_1 jk_0 (br_f (by omega) ?_))
                    refine x_bipush (v := 7) rfl kb_7 ?_
                    refine x_goto (tgt := 166) rfl rfl ?_
                    exact jX.sub jsb_n (ct_X12_kindAt_r125d_900166 hD hQ  h J Sm D EV)
                ·
                  rw [if_pos (by omega)] at D
                  refine x_iconst (v := 1) rfl ki_1 ?_
                  refine x_goto (tgt := 22) rfl rfl ?_
                  refine x_zret rfl rfl (by decide) ?_
                  show jX m_X12_kindAt 2 0 0 127 [(0, .ref 125)] [.int 1] _ 0 0 _
                  refine x_ifeq (tgt := 135) rfl rfl (ti_eq jk_1 jk_0 (br_f (by omega) ?_))
                  refine x_bipush (v := 6) rfl kb_6 ?_
                  refine x_goto (tgt := 166) rfl rfl ?_
                  exact jX.sub jsb_n (ct_X12_kindAt_r125d_800166 hD hQ  h J Sm D EV)
              ·
                rw [if_pos (by omega)] at D
                refine x_iconst (v := 1) rfl ki_1 ?_
                refine x_goto (tgt := 22) rfl rfl ?_
                refine x_zret rfl rfl (by decide) ?_
                show jX m_X12_kindAt 2 0 0 87 [(0, .ref 125)] [.int 1] _ 0 0 _
                refine x_ifeq (tgt := 120) rfl rfl (ti_eq jk_1 jk_0 (br_f (by omega) ?_))
                exact jX.sub (jsb_c rfl jsb_n) (ct_X12_kindAt_r125d_90 hD hQ  v1 h (jr_of rfl (by omega)) qv1 J Sm D EV)
            ·
              rw [if_pos (by omega)] at D
              refine x_iconst (v := 1) rfl ki_1 ?_
              refine x_goto (tgt := 22) rfl rfl ?_
              refine x_zret rfl rfl (by decide) ?_
              show jX m_X12_kindAt 2 0 0 77 [(0, .ref 125)] [.int 1] _ 0 0 _
              refine x_ifne (tgt := 90) rfl rfl (ti_ne jk_1 jk_0 (bn_t (by omega) ?_))
              exact jX.sub (jsb_c rfl jsb_n) (ct_X12_kindAt_r125d_90 hD hQ  v1 h (jr_of rfl (by omega)) qv1 J Sm D EV)
          ·
            rw [if_pos (by omega)] at D
            refine x_iconst (v := 1) rfl ki_1 ?_
            refine x_goto (tgt := 22) rfl rfl ?_
            refine x_zret rfl rfl (by decide) ?_
            show jX m_X12_kindAt 2 0 0 67 [(0, .ref 125)] [.int 1] _ 0 0 _
            refine x_ifne (tgt := 90) rfl rfl (ti_ne jk_1 jk_0 (bn_t (by omega) ?_))
            exact jX.sub (jsb_c rfl jsb_n) (ct_X12_kindAt_r125d_90 hD hQ  v1 h (jr_of rfl (by omega)) qv1 J Sm D EV)
        ·
          rw [if_pos (by omega)] at D
          refine x_iconst (v := 1) rfl ki_1 ?_
          refine x_goto (tgt := 22) rfl rfl ?_
          refine x_zret rfl rfl (by decide) ?_
          show jX m_X12_kindAt 2 0 0 27 [(0, .ref 125)] [.int 1] _ 0 0 _
          refine x_ifeq (tgt := 60) rfl rfl (ti_eq jk_1 jk_0 (br_f (by omega) ?_))
          exact jX.sub (jsb_c rfl jsb_n) (ct_X12_kindAt_r125d_30 hD hQ  v1 h (jr_of rfl (by omega)) qv1 J Sm D EV)
      ·
        rw [if_pos (by omega)] at D
        refine x_iconst (v := 1) rfl ki_1 ?_
        refine x_goto (tgt := 22) rfl rfl ?_
        refine x_zret rfl rfl (by decide) ?_
        show jX m_X12_kindAt 2 0 0 17 [(0, .ref 125)] [.int 1] _ 0 0 _
        refine x_ifne (tgt := 30) rfl rfl (ti_ne jk_1 jk_0 (bn_t (by omega) ?_))
        exact jX.sub (jsb_c rfl jsb_n) (ct_X12_kindAt_r125d_30 hD hQ  v1 h (jr_of rfl (by omega)) qv1 J Sm D EV)
  ·
    rw [if_pos (by omega)] at D
    refine x_aloadn (x := 125) rfl rfl ?_
    refine z_getLQ (N := 92) 12 12 rfl f_12_224 rfl J rfl (fun v119 qv119 => ?_)
    have ev119 := jfullL v119
    try rw [vrfL qv119] at D
    refine x_lloadn (x := 659105125) rfl rfl ?_
    refine z_lcmp rfl rfl jkl_659105125 (fun v120 ev120 => ?_)
    refine x_ifne (tgt := 21) rfl rfl (ti_ne rfl jk_0 ⟨fun c121 => ?_, fun c121 => ?_⟩)
    ·
      rw [if_neg (by omega)] at D
      refine x_iconst (v := 0) rfl ki_0 ?_
      refine x_zret rfl rfl (by decide) ?_
      show jX m_X12_kindAt 2 0 0 7 [(0, .ref 125)] [.int 0] _ 0 0 _
      refine x_ifne (tgt := 30) rfl rfl (ti_ne jk_0 jk_0 (bn_f (by omega) ?_))
      refine x_aloadn (x := 125) rfl rfl ?_
      refine x_ldc2 (v := 72760775) rfl z_12_617 ?_
      refine x_inv (N := m_X12_isWord) (As := [.long 72760775]) (b := 125) (st := []) (dx9 := 1) (mc := 0) (ms := 0) (host := "") 12 rfl t_X12_isWord ⟨Or.inl q_12_511, i_X12_isWord.1, i_X12_isWord.2⟩ ⟨by decide, rfl⟩ (congrArg Prod.fst (J.1.1 125 (12, 92) rfl)) rfl (by decide) rfl rfl ⟨by decide, by decide⟩ (jC.of rfl k_X12_isWord rfl ?_)
      show jX m_X12_isWord 1 0 0 0 [(0, .ref 125), (1, .long 72760775)] [] _ 0 0 _
      refine x_aloadn (x := 125) rfl rfl ?_
      refine z_getM (N := 92) (v := v1) 12 11 rfl f_12_235 rfl J rfl qv1 ?_
      refine x_iconst (v := 1) rfl ki_1 ?_
      refine x_icne (tgt := 21) rfl rfl (ti_ne rfl jk_1 (bn_f (by omega) ?_))
      refine x_aloadn (x := 125) rfl rfl ?_
      refine z_getLQ (N := 92) 12 12 rfl f_12_224 rfl J rfl (fun v122 qv122 => ?_)
      have ev122 := jfullL v122
      try have kqv122 : v119.toInt = v122.toInt := ((vrfL qv119).symm.trans (vrfL qv122))
      try rw [kqv122] at D
      try rw [vrfL qv122] at D
      refine x_lloadn (x := 72760775) rfl rfl ?_
      refine z_lcmp rfl rfl jkl_72760775 (fun v123 ev123 => ?_)
      refine x_ifne (tgt := 21) rfl rfl (ti_ne rfl jk_0 ⟨fun c124 => ?_, fun c124 => ?_⟩)
      ·
        rw [if_neg (by omega)] at D
        refine x_iconst (v := 0) rfl ki_0 ?_
        refine x_zret rfl rfl (by decide) ?_
        show jX m_X12_kindAt 2 0 0 17 [(0, .ref 125)] [.int 0] _ 0 0 _
        refine x_ifne (tgt := 30) rfl rfl (ti_ne jk_0 jk_0 (bn_f (by omega) ?_))
        refine x_aloadn (x := 125) rfl rfl ?_
        refine x_ldc2 (v := 193115668) rfl z_12_619 ?_
        refine x_inv (N := m_X12_isWord) (As := [.long 193115668]) (b := 125) (st := []) (dx9 := 1) (mc := 0) (ms := 0) (host := "") 12 rfl t_X12_isWord ⟨Or.inl q_12_511, i_X12_isWord.1, i_X12_isWord.2⟩ ⟨by decide, rfl⟩ (congrArg Prod.fst (J.1.1 125 (12, 92) rfl)) rfl (by decide) rfl rfl ⟨by decide, by decide⟩ (jC.of rfl k_X12_isWord rfl ?_)
        show jX m_X12_isWord 1 0 0 0 [(0, .ref 125), (1, .long 193115668)] [] _ 0 0 _
        refine x_aloadn (x := 125) rfl rfl ?_
        refine z_getM (N := 92) (v := v1) 12 11 rfl f_12_235 rfl J rfl qv1 ?_
        refine x_iconst (v := 1) rfl ki_1 ?_
        refine x_icne (tgt := 21) rfl rfl (ti_ne rfl jk_1 (bn_f (by omega) ?_))
        refine x_aloadn (x := 125) rfl rfl ?_
        refine z_getLQ (N := 92) 12 12 rfl f_12_224 rfl J rfl (fun v125 qv125 => ?_)
        have ev125 := jfullL v125
        try have kqv125 : v122.toInt = v125.toInt := ((vrfL qv122).symm.trans (vrfL qv125))
        try rw [kqv125] at D
        try rw [vrfL qv125] at D
        refine x_lloadn (x := 193115668) rfl rfl ?_
        refine z_lcmp rfl rfl jkl_193115668 (fun v126 ev126 => ?_)
        refine x_ifne (tgt := 21) rfl rfl (ti_ne rfl jk_0 ⟨fun c127 => ?_, fun c127 => ?_⟩)
        ·
          rw [if_neg (by omega)] at D
          refine x_iconst (v := 0) rfl ki_0 ?_
          refine x_zret rfl rfl (by decide) ?_
          show jX m_X12_kindAt 2 0 0 27 [(0, .ref 125)] [.int 0] _ 0 0 _
          refine x_ifeq (tgt := 60) rfl rfl (ti_eq jk_0 jk_0 (br_t (by omega) ?_))
          refine x_aloadn (x := 125) rfl rfl ?_
          refine x_ldc2 (v := 591493) rfl z_12_621 ?_
          refine x_inv (N := m_X12_isWord) (As := [.long 591493]) (b := 125) (st := []) (dx9 := 1) (mc := 0) (ms := 0) (host := "") 12 rfl t_X12_isWord ⟨Or.inl q_12_511, i_X12_isWord.1, i_X12_isWord.2⟩ ⟨by decide, rfl⟩ (congrArg Prod.fst (J.1.1 125 (12, 92) rfl)) rfl (by decide) rfl rfl ⟨by decide, by decide⟩ (jC.of rfl k_X12_isWord rfl ?_)
          show jX m_X12_isWord 1 0 0 0 [(0, .ref 125), (1, .long 591493)] [] _ 0 0 _
          refine x_aloadn (x := 125) rfl rfl ?_
          refine z_getM (N := 92) (v := v1) 12 11 rfl f_12_235 rfl J rfl qv1 ?_
          refine x_iconst (v := 1) rfl ki_1 ?_
          refine x_icne (tgt := 21) rfl rfl (ti_ne rfl jk_1 (bn_f (by omega) ?_))
          refine x_aloadn (x := 125) rfl rfl ?_
          refine z_getLQ (N := 92) 12 12 rfl f_12_224 rfl J rfl (fun v128 qv128 => ?_)
          have ev128 := jfullL v128
          try have kqv128 : v125.toInt = v128.toInt := ((vrfL qv125).symm.trans (vrfL qv128))
          try rw [kqv128] at D
          try rw [vrfL qv128] at D
          refine x_lloadn (x := 591493) rfl rfl ?_
          refine z_lcmp rfl rfl jkl_591493 (fun v129 ev129 => ?_)
          refine x_ifne (tgt := 21) rfl rfl (ti_ne rfl jk_0 ⟨fun c130 => ?_, fun c130 => ?_⟩)
          ·
            rw [if_neg (by omega)] at D
            refine x_iconst (v := 0) rfl ki_0 ?_
            refine x_zret rfl rfl (by decide) ?_
            show jX m_X12_kindAt 2 0 0 67 [(0, .ref 125)] [.int 0] _ 0 0 _
            refine x_ifne (tgt := 90) rfl rfl (ti_ne jk_0 jk_0 (bn_f (by omega) ?_))
            refine x_aloadn (x := 125) rfl rfl ?_
            refine x_ldc2 (v := 609625254) rfl z_12_623 ?_
            refine x_inv (N := m_X12_isWord) (As := [.long 609625254]) (b := 125) (st := []) (dx9 := 1) (mc := 0) (ms := 0) (host := "") 12 rfl t_X12_isWord ⟨Or.inl q_12_511, i_X12_isWord.1, i_X12_isWord.2⟩ ⟨by decide, rfl⟩ (congrArg Prod.fst (J.1.1 125 (12, 92) rfl)) rfl (by decide) rfl rfl ⟨by decide, by decide⟩ (jC.of rfl k_X12_isWord rfl ?_)
            show jX m_X12_isWord 1 0 0 0 [(0, .ref 125), (1, .long 609625254)] [] _ 0 0 _
            refine x_aloadn (x := 125) rfl rfl ?_
            refine z_getM (N := 92) (v := v1) 12 11 rfl f_12_235 rfl J rfl qv1 ?_
            refine x_iconst (v := 1) rfl ki_1 ?_
            refine x_icne (tgt := 21) rfl rfl (ti_ne rfl jk_1 (bn_f (by omega) ?_))
            refine x_aloadn (x := 125) rfl rfl ?_
            refine z_getLQ (N := 92) 12 12 rfl f_12_224 rfl J rfl (fun v131 qv131 => ?_)
            have ev131 := jfullL v131
            try have kqv131 : v128.toInt = v131.toInt := ((vrfL qv128).symm.trans (vrfL qv131))
            try rw [kqv131] at D
            try rw [vrfL qv131] at D
            refine x_lloadn (x := 609625254) rfl rfl ?_
            refine z_lcmp rfl rfl jkl_609625254 (fun v132 ev132 => ?_)
            refine x_ifne (tgt := 21) rfl rfl (ti_ne rfl jk_0 ⟨fun c133 => ?_, fun c133 => ?_⟩)
            ·
              rw [if_neg (by omega)] at D
              refine x_iconst (v := 0) rfl ki_0 ?_
              refine x_zret rfl rfl (by decide) ?_
              show jX m_X12_kindAt 2 0 0 77 [(0, .ref 125)] [.int 0] _ 0 0 _
              refine x_ifne (tgt := 90) rfl rfl (ti_ne jk_0 jk_0 (bn_f (by omega) ?_))
              refine x_aloadn (x := 125) rfl rfl ?_
              refine x_ldc2 (v := 2134245) rfl z_12_625 ?_
              refine x_inv (N := m_X12_isWord) (As := [.long 2134245]) (b := 125) (st := []) (dx9 := 1) (mc := 0) (ms := 0) (host := "") 12 rfl t_X12_isWord ⟨Or.inl q_12_511, i_X12_isWord.1, i_X12_isWord.2⟩ ⟨by decide, rfl⟩ (congrArg Prod.fst (J.1.1 125 (12, 92) rfl)) rfl (by decide) rfl rfl ⟨by decide, by decide⟩ (jC.of rfl k_X12_isWord rfl ?_)
              show jX m_X12_isWord 1 0 0 0 [(0, .ref 125), (1, .long 2134245)] [] _ 0 0 _
              refine x_aloadn (x := 125) rfl rfl ?_
              refine z_getM (N := 92) (v := v1) 12 11 rfl f_12_235 rfl J rfl qv1 ?_
              refine x_iconst (v := 1) rfl ki_1 ?_
              refine x_icne (tgt := 21) rfl rfl (ti_ne rfl jk_1 (bn_f (by omega) ?_))
              refine x_aloadn (x := 125) rfl rfl ?_
              refine z_getLQ (N := 92) 12 12 rfl f_12_224 rfl J rfl (fun v134 qv134 => ?_)
              have ev134 := jfullL v134
              try have kqv134 : v131.toInt = v134.toInt := ((vrfL qv131).symm.trans (vrfL qv134))
              try rw [kqv134] at D
              try rw [vrfL qv134] at D
              refine x_lloadn (x := 2134245) rfl rfl ?_
              refine z_lcmp rfl rfl jkl_2134245 (fun v135 ev135 => ?_)
              refine x_ifne (tgt := 21) rfl rfl (ti_ne rfl jk_0 ⟨fun c136 => ?_, fun c136 => ?_⟩)
              ·
                rw [if_neg (by omega)] at D
                refine x_iconst (v := 0) rfl ki_0 ?_
                refine x_zret rfl rfl (by decide) ?_
                show jX m_X12_kindAt 2 0 0 87 [(0, .ref 125)] [.int 0] _ 0 0 _
                refine x_ifeq (tgt := 120) rfl rfl (ti_eq jk_0 jk_0 (br_t (by omega) ?_))
                refine x_aloadn (x := 125) rfl rfl ?_
                refine x_ldc2 (v := 677454) rfl z_12_627 ?_
                refine x_inv (N := m_X12_isWord) (As := [.long 677454]) (b := 125) (st := []) (dx9 := 1) (mc := 0) (ms := 0) (host := "") 12 rfl t_X12_isWord ⟨Or.inl q_12_511, i_X12_isWord.1, i_X12_isWord.2⟩ ⟨by decide, rfl⟩ (congrArg Prod.fst (J.1.1 125 (12, 92) rfl)) rfl (by decide) rfl rfl ⟨by decide, by decide⟩ (jC.of rfl k_X12_isWord rfl ?_)
                show jX m_X12_isWord 1 0 0 0 [(0, .ref 125), (1, .long 677454)] [] _ 0 0 _
                refine x_aloadn (x := 125) rfl rfl ?_
                refine z_getM (N := 92) (v := v1) 12 11 rfl f_12_235 rfl J rfl qv1 ?_
                refine x_iconst (v := 1) rfl ki_1 ?_
                refine x_icne (tgt := 21) rfl rfl (ti_ne rfl jk_1 (bn_f (by omega) ?_))
                refine x_aloadn (x := 125) rfl rfl ?_
                refine z_getLQ (N := 92) 12 12 rfl f_12_224 rfl J rfl (fun v137 qv137 => ?_)
                have ev137 := jfullL v137
                try have kqv137 : v134.toInt = v137.toInt := ((vrfL qv134).symm.trans (vrfL qv137))
                try rw [kqv137] at D
                try rw [vrfL qv137] at D
                refine x_lloadn (x := 677454) rfl rfl ?_
                refine z_lcmp rfl rfl jkl_677454 (fun v138 ev138 => ?_)
                refine x_ifne (tgt := 21) rfl rfl (ti_ne rfl jk_0 ⟨fun c139 => ?_, fun c139 => ?_⟩)
                ·
                  rw [if_neg (by omega)] at D
                  refine x_iconst (v := 0) rfl ki_0 ?_
                  refine x_zret rfl rfl (by decide) ?_
                  show jX m_X12_kindAt 2 0 0 127 [(0, .ref 125)] [.int 0] _ 0 0 _
                  refine x_ifeq (tgt := 135) rfl rfl (ti_eq jk_0 jk_0 (br_t (by omega) ?_))
                  refine x_aloadn (x := 125) rfl rfl ?_
                  refine x_ldc2 (v := 6309) rfl z_12_629 ?_
                  refine x_inv (N := m_X12_isWord) (As := [.long 6309]) (b := 125) (st := []) (dx9 := 1) (mc := 0) (ms := 0) (host := "") 12 rfl t_X12_isWord ⟨Or.inl q_12_511, i_X12_isWord.1, i_X12_isWord.2⟩ ⟨by decide, rfl⟩ (congrArg Prod.fst (J.1.1 125 (12, 92) rfl)) rfl (by decide) rfl rfl ⟨by decide, by decide⟩ (jC.of rfl k_X12_isWord rfl ?_)
                  show jX m_X12_isWord 1 0 0 0 [(0, .ref 125), (1, .long 6309)] [] _ 0 0 _
                  refine x_aloadn (x := 125) rfl rfl ?_
                  refine z_getM (N := 92) (v := v1) 12 11 rfl f_12_235 rfl J rfl qv1 ?_
                  refine x_iconst (v := 1) rfl ki_1 ?_
                  refine x_icne (tgt := 21) rfl rfl (ti_ne rfl jk_1 (bn_f (by omega) ?_))
                  refine x_aloadn (x := 125) rfl rfl ?_
                  refine z_getLQ (N := 92) 12 12 rfl f_12_224 rfl J rfl (fun v140 qv140 => ?_)
                  have ev140 := jfullL v140
                  try have kqv140 : v137.toInt = v140.toInt := ((vrfL qv137).symm.trans (vrfL qv140))
                  try rw [kqv140] at D
                  try rw [vrfL qv140] at D
                  refine x_lloadn (x := 6309) rfl rfl ?_
                  refine z_lcmp rfl rfl jkl_6309 (fun v141 ev141 => ?_)
                  refine x_ifne (tgt := 21) rfl rfl (ti_ne rfl jk_0 ⟨fun c142 => ?_, fun c142 => ?_⟩)
                  ·
                    rw [if_neg (by omega)] at D
                    refine x_iconst (v := 0) rfl ki_0 ?_
                    refine x_zret rfl rfl (by decide) ?_
                    show jX m_X12_kindAt 2 0 0 142 [(0, .ref 125)] [.int 0] _ 0 0 _
                    refine x_ifeq (tgt := 150) rfl rfl (ti_eq jk_0 jk_0 (br_t (by omega) ?_))
                    refine x_aloadn (x := 125) rfl rfl ?_
                    refine x_ldc2 (v := 627764) rfl z_12_631 ?_
                    refine x_inv (N := m_X12_isWord) (As := [.long 627764]) (b := 125) (st := []) (dx9 := 1) (mc := 0) (ms := 0) (host := "") 12 rfl t_X12_isWord ⟨Or.inl q_12_511, i_X12_isWord.1, i_X12_isWord.2⟩ ⟨by decide, rfl⟩ (congrArg Prod.fst (J.1.1 125 (12, 92) rfl)) rfl (by decide) rfl rfl ⟨by decide, by decide⟩ (jC.of rfl k_X12_isWord rfl ?_)
                    show jX m_X12_isWord 1 0 0 0 [(0, .ref 125), (1, .long 627764)] [] _ 0 0 _
                    refine x_aloadn (x := 125) rfl rfl ?_
                    refine z_getM (N := 92) (v := v1) 12 11 rfl f_12_235 rfl J rfl qv1 ?_
                    refine x_iconst (v := 1) rfl ki_1 ?_
                    refine x_icne (tgt := 21) rfl rfl (ti_ne rfl jk_1 (bn_f (by omega) ?_))
                    refine x_aloadn (x := 125) rfl rfl ?_
                    refine z_getLQ (N := 92) 12 12 rfl f_12_224 rfl J rfl (fun v143 qv143 => ?_)
                    have ev143 := jfullL v143
                    try have kqv143 : v140.toInt = v143.toInt := ((vrfL qv140).symm.trans (vrfL qv143))
                    try rw [kqv143] at D
                    try rw [vrfL qv143] at D
                    refine x_lloadn (x := 627764) rfl rfl ?_
                    refine z_lcmp rfl rfl jkl_627764 (fun v144 ev144 => ?_)
                    refine x_ifne (tgt := 21) rfl rfl (ti_ne rfl jk_0 ⟨fun c145 => ?_, fun c145 => ?_⟩)
                    ·
                      rw [if_neg (by omega)] at D
                      refine x_iconst (v := 0) rfl ki_0 ?_
                      refine x_zret rfl rfl (by decide) ?_
                      show jX m_X12_kindAt 2 0 0 157 [(0, .ref 125)] [.int 0] _ 0 0 _
                      refine x_ifeq (tgt := 165) rfl rfl (ti_eq jk_0 jk_0 (br_t (by omega) ?_))
                      refine x_iconst (v := (-1)) rfl ki_m1 ?_
                      exact jX.sub jsb_n (ct_X12_kindAt_r125d_100166 hD hQ  h J Sm D EV)
                    ·
                      rw [if_pos (by omega)] at D
                      refine x_iconst (v := 1) rfl ki_1 ?_
                      refine x_goto (tgt := 22) rfl rfl ?_
                      refine x_zret rfl rfl (by decide) ?_
                      show jX m_X12_kindAt 2 0 0 157 [(0, .ref 125)] [.int 1] _ 0 0 _
                      refine x_ifeq (tgt := 165) rfl rfl (ti_eq jk_1 jk_0 (br_f (by omega) ?_))
                      refine x_bipush (v := 8) rfl kb_8 ?_
                      refine x_goto (tgt := 166) rfl rfl ?_
                      exact jX.sub jsb_n (ct_X12_kindAt_r125d_1000166 hD hQ  h J Sm D EV)
                  ·
                    rw [if_pos (by omega)] at D
                    refine x_iconst (v := 1) rfl ki_1 ?_
                    refine x_goto (tgt := 22) rfl rfl ?_
                    refine x_zret rfl rfl (by decide) ?_
                    show jX m_X12_kindAt 2 0 0 142 [(0, .ref 125)] [.int 1] _ 0 0 _
                    refine x_ifeq (tgt := 150) rfl rfl (ti_eq jk_1 jk_0 (br_f (by omega) ?_))
                    refine x_bipush (v := 7) rfl kb_7 ?_
                    refine x_goto (tgt := 166) rfl rfl ?_
                    exact jX.sub jsb_n (ct_X12_kindAt_r125d_900166 hD hQ  h J Sm D EV)
                ·
                  rw [if_pos (by omega)] at D
                  refine x_iconst (v := 1) rfl ki_1 ?_
                  refine x_goto (tgt := 22) rfl rfl ?_
                  refine x_zret rfl rfl (by decide) ?_
                  show jX m_X12_kindAt 2 0 0 127 [(0, .ref 125)] [.int 1] _ 0 0 _
                  refine x_ifeq (tgt := 135) rfl rfl (ti_eq jk_1 jk_0 (br_f (by omega) ?_))
                  refine x_bipush (v := 6) rfl kb_6 ?_
                  refine x_goto (tgt := 166) rfl rfl ?_
                  exact jX.sub jsb_n (ct_X12_kindAt_r125d_800166 hD hQ  h J Sm D EV)
              ·
                rw [if_pos (by omega)] at D
                refine x_iconst (v := 1) rfl ki_1 ?_
                refine x_goto (tgt := 22) rfl rfl ?_
                refine x_zret rfl rfl (by decide) ?_
                show jX m_X12_kindAt 2 0 0 87 [(0, .ref 125)] [.int 1] _ 0 0 _
                refine x_ifeq (tgt := 120) rfl rfl (ti_eq jk_1 jk_0 (br_f (by omega) ?_))
                exact jX.sub (jsb_c rfl jsb_n) (ct_X12_kindAt_r125d_90 hD hQ  v1 h (jr_of rfl (by omega)) qv1 J Sm D EV)
            ·
              rw [if_pos (by omega)] at D
              refine x_iconst (v := 1) rfl ki_1 ?_
              refine x_goto (tgt := 22) rfl rfl ?_
              refine x_zret rfl rfl (by decide) ?_
              show jX m_X12_kindAt 2 0 0 77 [(0, .ref 125)] [.int 1] _ 0 0 _
              refine x_ifne (tgt := 90) rfl rfl (ti_ne jk_1 jk_0 (bn_t (by omega) ?_))
              exact jX.sub (jsb_c rfl jsb_n) (ct_X12_kindAt_r125d_90 hD hQ  v1 h (jr_of rfl (by omega)) qv1 J Sm D EV)
          ·
            rw [if_pos (by omega)] at D
            refine x_iconst (v := 1) rfl ki_1 ?_
            refine x_goto (tgt := 22) rfl rfl ?_
            refine x_zret rfl rfl (by decide) ?_
            show jX m_X12_kindAt 2 0 0 67 [(0, .ref 125)] [.int 1] _ 0 0 _
            refine x_ifne (tgt := 90) rfl rfl (ti_ne jk_1 jk_0 (bn_t (by omega) ?_))
            exact jX.sub (jsb_c rfl jsb_n) (ct_X12_kindAt_r125d_90 hD hQ  v1 h (jr_of rfl (by omega)) qv1 J Sm D EV)
        ·
          rw [if_pos (by omega)] at D
          refine x_iconst (v := 1) rfl ki_1 ?_
          refine x_goto (tgt := 22) rfl rfl ?_
          refine x_zret rfl rfl (by decide) ?_
          show jX m_X12_kindAt 2 0 0 27 [(0, .ref 125)] [.int 1] _ 0 0 _
          refine x_ifeq (tgt := 60) rfl rfl (ti_eq jk_1 jk_0 (br_f (by omega) ?_))
          exact jX.sub (jsb_c rfl jsb_n) (ct_X12_kindAt_r125d_30 hD hQ  v1 h (jr_of rfl (by omega)) qv1 J Sm D EV)
      ·
        rw [if_pos (by omega)] at D
        refine x_iconst (v := 1) rfl ki_1 ?_
        refine x_goto (tgt := 22) rfl rfl ?_
        refine x_zret rfl rfl (by decide) ?_
        show jX m_X12_kindAt 2 0 0 17 [(0, .ref 125)] [.int 1] _ 0 0 _
        refine x_ifne (tgt := 30) rfl rfl (ti_ne jk_1 jk_0 (bn_t (by omega) ?_))
        exact jX.sub (jsb_c rfl jsb_n) (ct_X12_kindAt_r125d_30 hD hQ  v1 h (jr_of rfl (by omega)) qv1 J Sm D EV)
    ·
      rw [if_pos (by omega)] at D
      refine x_iconst (v := 1) rfl ki_1 ?_
      refine x_goto (tgt := 22) rfl rfl ?_
      refine x_zret rfl rfl (by decide) ?_
      show jX m_X12_kindAt 2 0 0 7 [(0, .ref 125)] [.int 1] _ 0 0 _
      refine x_ifne (tgt := 30) rfl rfl (ti_ne jk_1 jk_0 (bn_t (by omega) ?_))
      exact jX.sub (jsb_c rfl jsb_n) (ct_X12_kindAt_r125d_30 hD hQ  v1 h (jr_of rfl (by omega)) qv1 J Sm D EV)
def fp_X12_number_r125d : jFp := [(125, 9, 10), (125, 10, 11), (125, 11, 12), (125, 12, 13), (125, 13, 14), (125, 14, 15)]
set_option maxRecDepth 100000 in
set_option maxHeartbeats 4000000 in
theorem ct_X12_number_r125d_300029 {Dy : jH → Prop} {h0 : jH} {Q : Option Value → jH → Prop} {dr : (Int × jW)} {a1 : Int64} (yy_a1 : 11 ≤ a1.toInt ∧ a1.toInt ≤ 399) (hD : jDk Dy) (hQ : ∀ (v : Int32) hx9, jJ jSgM Dy hx9 → jSm fp_X12_number_r125d h0 hx9 → ∀ u0 u1 u2 : Int32, jiv hx9 125 10 = u0 → jiv hx9 125 8 = u1 → jiv hx9 125 9 = u2 → (u0.toInt ≤ u1.toInt ∧ u2.toInt ≤ u0.toInt) → ∀ u3 u4 u5 : Int32, jiv hx9 125 11 = u3 → jiv hx9 125 9 = u4 → jiv hx9 125 10 = u5 → (u3.toInt = 0 ∨ u4.toInt + 1 ≤ u5.toInt) → (jMo h0 hx9 ∧ ((jiv hx9 125 14).toInt ≠ 0 ∨ (0 ≤ v.toInt ∧ v.toInt ≤ a1.toInt))) → dr.1 = v.toInt → dr.2 = vw hx9 → Q (some (.int v)) hx9) : ∀ (l3 : Int32) (g0 : Int32) (g1 : Int32) (g2 : Int32) (g3 : Int32) (h : jH), 0 ≤ g0.toInt ∧ g0.toInt ≤ 400 → 2 ≤ g1.toInt ∧ g1.toInt ≤ 2 → 0 ≤ g2.toInt ∧ g2.toInt ≤ 400 → 0 ≤ g3.toInt ∧ g3.toInt ≤ 400 → (jiv h 125 9 = jiv h0 125 9 ∧ jiv h 125 14 = jiv h0 125 14) → ((jiv h 125 14).toInt ≠ 0 ∨ (0 ≤ l3.toInt ∧ l3.toInt ≤ a1.toInt)) → (g0.toInt ≤ g2.toInt ∧ g3.toInt ≤ g0.toInt) → (g1.toInt = 0 ∨ g3.toInt + 1 ≤ g0.toInt) → jiv h 125 10 = g0 → jiv h 125 11 = g1 → jiv h 125 8 = g2 → jiv h 125 9 = g3 → jJ jSgM Dy h → jSm fp_X12_number_r125d h0 h → d_X12_number_r125d_300029  l3.toInt (vw h) = dr → jX m_X12_number 4 0 0 29 [(3, .int l3)] [.int 1, .ref 125] h 0 0 Q := by
  intro l3 g0 g1 g2 g3 h y0 y1 y2 y3 C0 C1 y6 y7 z0 z1 z2 z3  J Sm D
  have el3 := jfull l3
  unfold d_X12_number_r125d_300029 at D
  try rw [vrf z0] at D
  try rw [vrf z1] at D
  try rw [vrf z2] at D
  try rw [vrf z3] at D
  refine x_inv (N := m_X12_must) (As := [.int 1]) (b := 125) (st := []) (dx9 := 3) (mc := 0) (ms := 0) (host := "") 12 rfl t_X12_must ⟨Or.inl q_12_250, i_X12_must.1, i_X12_must.2⟩ ⟨by decide, rfl⟩ (congrArg Prod.fst (J.1.1 125 (12, 92) rfl)) rfl (by decide) rfl rfl ⟨by decide, by decide⟩ (sf_X12_must_r125d (jr_of jk_1 (by omega)) hD J z0 z2 z3 (by omega) z1 z3 z0 (by omega) rfl  (fun h J S1 u2 u3 u4 qu2 qu3 qu4 ru2 u5 u6 u7 qu5 qu6 qu7 ru5 P8 X9 => ?_))
  have Sm := jSm_tr rfl Sm S1
  try rw [jk_1] at X9
  rw [X9] at D
  have eu2 := (show 0 ≤ u2.toInt ∧ u2.toInt ≤ 400 from qu2 ▸ jrg_f J sg_125_10_11_1_0_1)
  try rw [vrf qu2] at D
  have eu3 := (show 0 ≤ u3.toInt ∧ u3.toInt ≤ 400 from qu3 ▸ jrg_f J sg_125_8_9_1_0_1)
  try rw [vrf (jmb_c S1 qu3 rfl)] at D
  have eu4 := (show 0 ≤ u4.toInt ∧ u4.toInt ≤ 400 from qu4 ▸ jrg_f J sg_125_9_10_1_0_1)
  try rw [vrf qu4] at D
  have eu5 := (show 0 ≤ u5.toInt ∧ u5.toInt ≤ 3 from qu5 ▸ jrg_f J sg_125_11_12_1_0_1)
  try rw [vrf qu5] at D
  obtain rfl : u4 = u6 := qu4.symm.trans qu6
  obtain rfl : u2 = u7 := qu2.symm.trans qu7
  show jX m_X12_number 4 0 0 32 [(3, .int l3)] [] _ 0 0 _
  refine x_iloadn (x := l3) rfl rfl ?_
  refine x_iret rfl rfl ?_
  exact hQ _ _ J Sm _ _ _ qu2 qu3 qu4 (by omega) _ _ _ qu5 qu4 qu2 (by omega) ⟨mo_k C0 P8.1, nm_2 P8 C1⟩ ((congrArg Prod.fst D).symm.trans (show l3.toInt = l3.toInt from by omega)) (congrArg Prod.snd D).symm
set_option maxRecDepth 100000 in
set_option maxHeartbeats 4000000 in
theorem ct_X12_number_r125d_200029 {Dy : jH → Prop} {h0 : jH} {Q : Option Value → jH → Prop} {dr : (Int × jW)} {a1 : Int64} (yy_a1 : 11 ≤ a1.toInt ∧ a1.toInt ≤ 399) (hD : jDk Dy) (hQ : ∀ (v : Int32) hx9, jJ jSgM Dy hx9 → jSm fp_X12_number_r125d h0 hx9 → ∀ u0 u1 u2 : Int32, jiv hx9 125 10 = u0 → jiv hx9 125 8 = u1 → jiv hx9 125 9 = u2 → (u0.toInt ≤ u1.toInt ∧ u2.toInt ≤ u0.toInt) → ∀ u3 u4 u5 : Int32, jiv hx9 125 11 = u3 → jiv hx9 125 9 = u4 → jiv hx9 125 10 = u5 → (u3.toInt = 0 ∨ u4.toInt + 1 ≤ u5.toInt) → (jMo h0 hx9 ∧ ((jiv hx9 125 14).toInt ≠ 0 ∨ (0 ≤ v.toInt ∧ v.toInt ≤ a1.toInt))) → dr.1 = v.toInt → dr.2 = vw hx9 → Q (some (.int v)) hx9) : ∀ (l3 : Int32) (g0 : Int32) (g1 : Int32) (g2 : Int32) (g3 : Int32) (h : jH), 0 ≤ g0.toInt ∧ g0.toInt ≤ 400 → 0 ≤ g1.toInt ∧ g1.toInt ≤ 3 → 0 ≤ g2.toInt ∧ g2.toInt ≤ 400 → 0 ≤ g3.toInt ∧ g3.toInt ≤ 400 → (jiv h 125 9 = jiv h0 125 9 ∧ jiv h 125 14 = jiv h0 125 14) → (g0.toInt ≤ g2.toInt ∧ g3.toInt ≤ g0.toInt) → (g1.toInt = 0 ∨ g3.toInt + 1 ≤ g0.toInt) → jiv h 125 10 = g0 → jiv h 125 11 = g1 → jiv h 125 8 = g2 → jiv h 125 9 = g3 → jJ jSgM Dy h → jSm fp_X12_number_r125d h0 h → d_X12_number_r125d_200029  l3.toInt (vw h) = dr → jX m_X12_number 4 0 0 29 [(3, .int l3)] [.int 0, .ref 125] h 0 0 Q := by
  intro l3 g0 g1 g2 g3 h y0 y1 y2 y3 C0 y5 y6 z0 z1 z2 z3  J Sm D
  have el3 := jfull l3
  unfold d_X12_number_r125d_200029 at D
  try rw [vrf z0] at D
  try rw [vrf z1] at D
  try rw [vrf z2] at D
  try rw [vrf z3] at D
  refine x_inv (N := m_X12_must) (As := [.int 0]) (b := 125) (st := []) (dx9 := 3) (mc := 0) (ms := 0) (host := "") 12 rfl t_X12_must ⟨Or.inl q_12_250, i_X12_must.1, i_X12_must.2⟩ ⟨by decide, rfl⟩ (congrArg Prod.fst (J.1.1 125 (12, 92) rfl)) rfl (by decide) rfl rfl ⟨by decide, by decide⟩ (sf_X12_must_r125d (jr_of jk_0 (by omega)) hD J z0 z2 z3 (by omega) z1 z3 z0 (by omega) rfl  (fun h J S1 u2 u3 u4 qu2 qu3 qu4 ru2 u5 u6 u7 qu5 qu6 qu7 ru5 P8 X9 => ?_))
  have Sm := jSm_tr rfl Sm S1
  try rw [jk_0] at X9
  rw [X9] at D
  have eu2 := (show 0 ≤ u2.toInt ∧ u2.toInt ≤ 400 from qu2 ▸ jrg_f J sg_125_10_11_1_0_1)
  try rw [vrf qu2] at D
  have eu3 := (show 0 ≤ u3.toInt ∧ u3.toInt ≤ 400 from qu3 ▸ jrg_f J sg_125_8_9_1_0_1)
  try rw [vrf (jmb_c S1 qu3 rfl)] at D
  have eu4 := (show 0 ≤ u4.toInt ∧ u4.toInt ≤ 400 from qu4 ▸ jrg_f J sg_125_9_10_1_0_1)
  try rw [vrf qu4] at D
  have eu5 := (show 0 ≤ u5.toInt ∧ u5.toInt ≤ 3 from qu5 ▸ jrg_f J sg_125_11_12_1_0_1)
  try rw [vrf qu5] at D
  obtain rfl : u4 = u6 := qu4.symm.trans qu6
  obtain rfl : u2 = u7 := qu2.symm.trans qu7
  show jX m_X12_number 4 0 0 32 [(3, .int l3)] [] _ 0 0 _
  refine x_iloadn (x := l3) rfl rfl ?_
  refine x_iret rfl rfl ?_
  exact hQ _ _ J Sm _ _ _ qu2 qu3 qu4 (by omega) _ _ _ qu5 qu4 qu2 (by omega) ⟨mo_k C0 P8.1, nm_3 P8⟩ ((congrArg Prod.fst D).symm.trans (show l3.toInt = l3.toInt from by omega)) (congrArg Prod.snd D).symm
set_option maxRecDepth 100000 in
set_option maxHeartbeats 4000000 in
theorem ct_X12_number_r125d_28 {Dy : jH → Prop} {h0 : jH} {Q : Option Value → jH → Prop} {dr : (Int × jW)} {a1 : Int64} (yy_a1 : 11 ≤ a1.toInt ∧ a1.toInt ≤ 399) (hD : jDk Dy) (hQ : ∀ (v : Int32) hx9, jJ jSgM Dy hx9 → jSm fp_X12_number_r125d h0 hx9 → ∀ u0 u1 u2 : Int32, jiv hx9 125 10 = u0 → jiv hx9 125 8 = u1 → jiv hx9 125 9 = u2 → (u0.toInt ≤ u1.toInt ∧ u2.toInt ≤ u0.toInt) → ∀ u3 u4 u5 : Int32, jiv hx9 125 11 = u3 → jiv hx9 125 9 = u4 → jiv hx9 125 10 = u5 → (u3.toInt = 0 ∨ u4.toInt + 1 ≤ u5.toInt) → (jMo h0 hx9 ∧ ((jiv hx9 125 14).toInt ≠ 0 ∨ (0 ≤ v.toInt ∧ v.toInt ≤ a1.toInt))) → dr.1 = v.toInt → dr.2 = vw hx9 → Q (some (.int v)) hx9) : ∀ (l3 : Int32) (g0 : Int32) (g1 : Int32) (g2 : Int32) (g3 : Int32) (h : jH), 0 ≤ g0.toInt ∧ g0.toInt ≤ 400 → 0 ≤ g1.toInt ∧ g1.toInt ≤ 3 → 0 ≤ g2.toInt ∧ g2.toInt ≤ 400 → 0 ≤ g3.toInt ∧ g3.toInt ≤ 400 → (jiv h 125 9 = jiv h0 125 9 ∧ jiv h 125 14 = jiv h0 125 14) → (g0.toInt ≤ g2.toInt ∧ g3.toInt ≤ g0.toInt) → (g1.toInt = 0 ∨ g3.toInt + 1 ≤ g0.toInt) → jiv h 125 10 = g0 → jiv h 125 11 = g1 → jiv h 125 8 = g2 → jiv h 125 9 = g3 → jJ jSgM Dy h → jSm fp_X12_number_r125d h0 h → d_X12_number_r125d_28  l3.toInt (vw h) = dr → jX m_X12_number 4 0 0 28 [(3, .int l3)] [.ref 125] h 0 0 Q := by
  intro l3 g0 g1 g2 g3 h y0 y1 y2 y3 C0 y5 y6 z0 z1 z2 z3  J Sm D
  have el3 := jfull l3
  unfold d_X12_number_r125d_28 at D
  try rw [vrf z0] at D
  try rw [vrf z1] at D
  try rw [vrf z2] at D
  try rw [vrf z3] at D
  refine x_iconst (v := 0) rfl ki_0 ?_
  exact jX.sub (jsb_c rfl jsb_n) (ct_X12_number_r125d_200029 yy_a1 hD hQ  l3 g0 g1 g2 g3 h (jr_of rfl (by omega)) (jr_of rfl (by omega)) (jr_of rfl (by omega)) (jr_of rfl (by omega)) C0 (by omega) (by omega) z0 z1 z2 z3 J Sm D)
set_option maxRecDepth 100000 in
set_option maxHeartbeats 4000000 in
theorem sf_X12_number_r125d {Dy : jH → Prop} {h : jH} {Q : Option Value → jH → Prop} {dr : (Int × jW)} {a1 : Int64} (y1 : 11 ≤ a1.toInt ∧ a1.toInt ≤ 399) (hW : (jiv h 125 14).toInt ≠ 0 ∨ jWd h) (hD : jDk Dy) (J : jJ jSgM Dy h) {p0 p1 p2 : Int32} {p3 p4 p5 : Int32} (zp0 : jiv h 125 10 = p0) (zp1 : jiv h 125 8 = p1) (zp2 : jiv h 125 9 = p2) (rl_p0 : (p0.toInt ≤ p1.toInt ∧ p2.toInt ≤ p0.toInt)) (zp3 : jiv h 125 11 = p3) (zp4 : jiv h 125 9 = p4) (zp5 : jiv h 125 10 = p5) (rl_p3 : (p3.toInt = 0 ∨ p4.toInt + 1 ≤ p5.toInt)) (D : d_X12_number_r125d a1.toInt (vw h) = dr) (hQ : ∀ (v : Int32) hx9, jJ jSgM Dy hx9 → jSm fp_X12_number_r125d h hx9 → ∀ u0 u1 u2 : Int32, jiv hx9 125 10 = u0 → jiv hx9 125 8 = u1 → jiv hx9 125 9 = u2 → (u0.toInt ≤ u1.toInt ∧ u2.toInt ≤ u0.toInt) → ∀ u3 u4 u5 : Int32, jiv hx9 125 11 = u3 → jiv hx9 125 9 = u4 → jiv hx9 125 10 = u5 → (u3.toInt = 0 ∨ u4.toInt + 1 ≤ u5.toInt) → (jMo h hx9 ∧ ((jiv hx9 125 14).toInt ≠ 0 ∨ (0 ≤ v.toInt ∧ v.toInt ≤ a1.toInt))) → dr.1 = v.toInt → dr.2 = vw hx9 → Q (some (.int v)) hx9) : jC m_X12_number 4 0 0 [.ref 125, .long a1] h Q := by
  refine jC.of rfl k_X12_number rfl ?_
  have Sm := jSm_rf fp_X12_number_r125d h
  have ep0 := (show 0 ≤ p0.toInt ∧ p0.toInt ≤ 400 from zp0 ▸ jrg_f J sg_125_10_11_1_0_1)
  have ep1 := (show 0 ≤ p1.toInt ∧ p1.toInt ≤ 400 from zp1 ▸ jrg_f J sg_125_8_9_1_0_1)
  have ep2 := (show 0 ≤ p2.toInt ∧ p2.toInt ≤ 400 from zp2 ▸ jrg_f J sg_125_9_10_1_0_1)
  have ep3 := (show 0 ≤ p3.toInt ∧ p3.toInt ≤ 3 from zp3 ▸ jrg_f J sg_125_11_12_1_0_1)
  have ep4 := (show 0 ≤ p4.toInt ∧ p4.toInt ≤ 400 from zp4 ▸ jrg_f J sg_125_9_10_1_0_1)
  have ep5 := (show 0 ≤ p5.toInt ∧ p5.toInt ≤ 400 from zp5 ▸ jrg_f J sg_125_10_11_1_0_1)
  obtain rfl : p2 = p4 := zp2.symm.trans zp4
  obtain rfl : p0 = p5 := zp0.symm.trans zp5
  skip
  have yy_a1 := y1
  show jX m_X12_number 4 0 0 0 [(0, .ref 125), (1, .long a1)] [] _ 0 0 _
  unfold d_X12_number_r125d at D
  try rw [vrf zp0] at D
  try rw [vrf zp1] at D
  try rw [vrf zp2] at D
  try rw [vrf zp3] at D
  try rw [vrf zp4] at D
  try rw [vrf zp5] at D
  refine x_aloadn (x := 125) rfl rfl ?_
  refine z_getLQ (N := 92) 12 12 rfl f_12_224 rfl J rfl (fun v1 qv1 => ?_)
  have ev1 := jfullL v1
  try rw [vrfL qv1] at D
  refine z_l2iD rfl rfl (fun v2 ev2 => ?_)
  have fv2 := jfull v2
  try rw [← ev2] at D
  refine x_istoren (lsx9 := [(3, .int v2), (0, .ref 125), (1, .long a1)]) rfl rfl rfl ?_
  refine x_aloadn (x := 125) rfl rfl ?_
  refine x_aloadn (x := 125) rfl rfl ?_
  refine z_getM (N := 92) (v := p3) 12 11 rfl f_12_235 rfl J rfl zp3 ?_
  refine x_iconst (v := 2) rfl ki_2 ?_
  refine x_icne (tgt := 28) rfl rfl (ti_ne rfl jk_2 ⟨fun c3 => ?_, fun c3 => ?_⟩)
  ·
    rw [if_neg (by omega)] at D
    exact jX.sub (jsb_c rfl jsb_n) (ct_X12_number_r125d_28 yy_a1 hD hQ  v2 p0 p3 p1 p2 h (jr_of rfl (by omega)) (jr_of rfl (by omega)) (jr_of rfl (by omega)) (jr_of rfl (by omega)) ⟨rfl, rfl⟩ (by omega) (by omega) zp0 zp3 zp1 zp2 J Sm D)
  ·
    rw [if_pos (by omega)] at D
    refine x_aloadn (x := 125) rfl rfl ?_
    refine z_getLQ (N := 92) 12 12 rfl f_12_224 rfl J rfl (fun v4 qv4 => ?_)
    have ev4 := jfullL v4
    try have kqv4 : v1.toInt = v4.toInt := ((vrfL qv1).symm.trans (vrfL qv4))
    try rw [kqv4] at D
    try rw [vrfL qv4] at D
    refine x_lloadn (x := a1) rfl rfl ?_
    refine z_lcmp rfl rfl rfl (fun v5 ev5 => ?_)
    refine x_ifgt (tgt := 28) rfl rfl (ti_gt rfl jk_0 ⟨fun c6 => ?_, fun c6 => ?_⟩)
    ·
      rw [if_pos (by omega)] at D
      exact jX.sub (jsb_c rfl jsb_n) (ct_X12_number_r125d_28 yy_a1 hD hQ  v2 p0 p3 p1 p2 h (jr_of rfl (by omega)) (jr_of rfl (by omega)) (jr_of rfl (by omega)) (jr_of rfl (by omega)) ⟨rfl, rfl⟩ (by omega) (by omega) zp0 zp3 zp1 zp2 J Sm D)
    ·
      rw [if_neg (by omega)] at D
      refine x_iconst (v := 1) rfl ki_1 ?_
      refine x_goto (tgt := 29) rfl rfl ?_
      exact jX.sub (jsb_c rfl jsb_n) (ct_X12_number_r125d_300029 yy_a1 hD hQ  v2 p0 p3 p1 p2 h (jr_of rfl (by omega)) (jr_of rfl (by omega)) (jr_of rfl (by omega)) (jr_of rfl (by omega)) ⟨rfl, rfl⟩ (nm_1 hW qv1 (fun r => ev2.trans (l_2 r)) qv4 zp3 (by omega) (by omega) (by omega)) (by omega) (by omega) zp0 zp3 zp1 zp2 J Sm D)
