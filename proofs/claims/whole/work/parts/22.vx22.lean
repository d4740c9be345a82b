def fp_X2_readSum_r95_c5d : jFp := [(68, 2, 3), (68, 3, 4), (68, 4, 5), (68, 5, 6), (95, 4, 5), (95, 5, 6), (97, 0, 1200)]
set_option maxRecDepth 100000 in
set_option maxHeartbeats 4000000 in
theorem ct_X2_readSum_r95_c5d_100148 {Dy : jH → Prop} {h0 : jH} {Q : Option Value → jH → Prop} {dr : (Int × jW)} {K4 : Int → Int → jW → (Int × jW)} {R4 : Int} (hD : jDk Dy) (hQ : ∀ (v : Int32) hx9, 0 ≤ v.toInt ∧ v.toInt ≤ 1 → jJ jSgX Dy hx9 → jSm fp_X2_readSum_r95_c5d h0 hx9 → ∀ u0 u1 : Int32, jiv hx9 68 5 = u0 → jiv hx9 68 3 = u1 → (u0.toInt ≠ 3 ∨ u1.toInt ≤ 399) → dr.1 = v.toInt → dr.2 = vw hx9 → Q (some (.int v)) hx9) (k4 : ∀ (l2 : Int32) (l3 : Int32) (g0 : Int32) (g1 : Int32) (h : jH), 400 - l3.toInt < R4 → (-1) ≤ l2.toInt ∧ l2.toInt ≤ 4 → 0 ≤ l3.toInt ∧ l3.toInt ≤ 400 → 0 ≤ g0.toInt ∧ g0.toInt ≤ 400 → 0 ≤ g1.toInt ∧ g1.toInt ≤ 3 → (g1.toInt ≠ 3 ∨ g0.toInt ≤ 399) → jiv h 68 3 = g0 → jiv h 68 5 = g1 → jJ jSgX Dy h → jSm fp_X2_readSum_r95_c5d h0 h → K4 l2.toInt l3.toInt (vw h) = dr → jX m_X2_readSum 12 0 0 4 [(0, .ref 95), (1, .int 5), (2, .int l2), (3, .int l3)] [] h 0 0 Q) : ∀ (l3 : Int32) (g0 : Int32) (g1 : Int32) (h : jH), 0 ≤ l3.toInt ∧ l3.toInt ≤ 399 → 0 ≤ g0.toInt ∧ g0.toInt ≤ 400 → 0 ≤ g1.toInt ∧ g1.toInt ≤ 3 → (g1.toInt ≠ 3 ∨ g0.toInt ≤ 399) → jiv h 68 3 = g0 → jiv h 68 5 = g1 → 400 - l3.toInt ≤ R4 → jJ jSgX Dy h → jSm fp_X2_readSum_r95_c5d h0 h → d_X2_readSum_r95_c5d_100148 K4  l3.toInt (vw h) = dr → jX m_X2_readSum 12 0 0 148 [(0, .ref 95), (1, .int 5), (3, .int l3)] [.int (-1)] h 0 0 Q := by
  intro l3 g0 g1 h y0 y1 y2 y3 z0 z1 m4 J Sm D
  unfold d_X2_readSum_r95_c5d_100148 at D
  try rw [vrf z0] at D
  try rw [vrf z1] at D
  refine x_istoren (lsx9 := [(2, .int (-1)), (0, .ref 95), (1, .int 5), (3, .int l3)]) rfl rfl rfl ?_
  refine x_iloadn (x := (-1)) rfl rfl ?_
  refine x_iconst (v := (-1)) rfl ki_m1 ?_
  refine x_icne (tgt := 156) rfl rfl (ti_ne jk_m1 jk_m1 (bn_f (by omega) ?_))
  refine x_iconst (v := 1) rfl ki_1 ?_
  refine x_zret rfl rfl (by decide) ?_
  exact hQ _ _ (jr_of jk_1 (by omega)) J Sm _ _ z1 z0 (by omega) ((congrArg Prod.fst D).symm.trans (show 1 = (1 : Int32).toInt from by have := jk_1; omega)) (congrArg Prod.snd D).symm
set_option maxRecDepth 100000 in
set_option maxHeartbeats 4000000 in
theorem ct_X2_readSum_r95_c5d_600148 {Dy : jH → Prop} {h0 : jH} {Q : Option Value → jH → Prop} {dr : (Int × jW)} {K4 : Int → Int → jW → (Int × jW)} {R4 : Int} (hD : jDk Dy) (hQ : ∀ (v : Int32) hx9, 0 ≤ v.toInt ∧ v.toInt ≤ 1 → jJ jSgX Dy hx9 → jSm fp_X2_readSum_r95_c5d h0 hx9 → ∀ u0 u1 : Int32, jiv hx9 68 5 = u0 → jiv hx9 68 3 = u1 → (u0.toInt ≠ 3 ∨ u1.toInt ≤ 399) → dr.1 = v.toInt → dr.2 = vw hx9 → Q (some (.int v)) hx9) (k4 : ∀ (l2 : Int32) (l3 : Int32) (g0 : Int32) (g1 : Int32) (h : jH), 400 - l3.toInt < R4 → (-1) ≤ l2.toInt ∧ l2.toInt ≤ 4 → 0 ≤ l3.toInt ∧ l3.toInt ≤ 400 → 0 ≤ g0.toInt ∧ g0.toInt ≤ 400 → 0 ≤ g1.toInt ∧ g1.toInt ≤ 3 → (g1.toInt ≠ 3 ∨ g0.toInt ≤ 399) → jiv h 68 3 = g0 → jiv h 68 5 = g1 → jJ jSgX Dy h → jSm fp_X2_readSum_r95_c5d h0 h → K4 l2.toInt l3.toInt (vw h) = dr → jX m_X2_readSum 12 0 0 4 [(0, .ref 95), (1, .int 5), (2, .int l2), (3, .int l3)] [] h 0 0 Q) : ∀ (l3 : Int32) (g0 : Int32) (g1 : Int32) (h : jH), 0 ≤ l3.toInt ∧ l3.toInt ≤ 399 → 0 ≤ g0.toInt ∧ g0.toInt ≤ 400 → 0 ≤ g1.toInt ∧ g1.toInt ≤ 3 → (g1.toInt ≠ 3 ∨ g0.toInt ≤ 399) → jiv h 68 3 = g0 → jiv h 68 5 = g1 → 400 - l3.toInt ≤ R4 → jJ jSgX Dy h → jSm fp_X2_readSum_r95_c5d h0 h → d_X2_readSum_r95_c5d_600148 K4  l3.toInt (vw h) = dr → jX m_X2_readSum 12 0 0 148 [(0, .ref 95), (1, .int 5), (3, .int l3)] [.int 4] h 0 0 Q := by
  intro l3 g0 g1 h y0 y1 y2 y3 z0 z1 m4 J Sm D
  unfold d_X2_readSum_r95_c5d_600148 at D
  try rw [vrf z0] at D
  try rw [vrf z1] at D
  refine x_istoren (lsx9 := [(2, .int 4), (0, .ref 95), (1, .int 5), (3, .int l3)]) rfl rfl rfl ?_
  refine x_iloadn (x := 4) rfl rfl ?_
  refine x_iconst (v := (-1)) rfl ki_m1 ?_
  refine x_icne (tgt := 156) rfl rfl (ti_ne jk_4 jk_m1 (bn_t (by omega) ?_))
  refine x_aloadn (x := 95) rfl rfl ?_
  refine z_getR (N := 6) (b := 68) 2 0 rfl f_2_30 rfl J rfl 12160 ⟨rfl, rfl⟩ rfl ?_
  refine x_inv (N := m_X9_step) (As := []) (b := 68) (st := []) (dx9 := 2) (mc := 0) (ms := 0) (host := "") 9 rfl t_X9_step ⟨Or.inl q_2_62, i_X9_step.1, i_X9_step.2⟩ ⟨by decide, rfl⟩ (congrArg Prod.fst (J.1.1 68 (9, 6) rfl)) rfl (by decide) rfl rfl ⟨by decide, by decide⟩ (sf_X9_step_r68d  hD J z1 z0 (by omega) rfl  (fun h J S1 u2 u3 qu2 qu3 ru2 X4 => ?_))
  have Sm := jSm_tr rfl Sm S1
  rw [X4] at D
  have eu2 := (show 0 ≤ u2.toInt ∧ u2.toInt ≤ 3 from qu2 ▸ jrg_f J sg_68_5_6_1_0_1)
  try rw [vrf qu2] at D
  have eu3 := (show 0 ≤ u3.toInt ∧ u3.toInt ≤ 400 from qu3 ▸ jrg_f J sg_68_3_4_1_0_1)
  try rw [vrf qu3] at D
  show jX m_X2_readSum 12 0 0 163 [(2, .int 4), (0, .ref 95), (1, .int 5), (3, .int l3)] [] _ 0 0 _
  refine z_iinc (x := l3) (lsx9 := fun v5 => [(3, .int v5), (2, .int 4), (0, .ref 95), (1, .int 5)]) rfl rfl rfl jko_1 (by omega) rfl (fun _ => rfl) (fun v5 ev5 => ?_)
  refine x_goto (tgt := 4) rfl rfl ?_
  try rw [show (l3.toInt + 1) = v5.toInt from by omega] at D
  exact jX.sub (jsb_c rfl (jsb_c rfl (jsb_c rfl (jsb_c rfl jsb_n)))) (k4 4 v5 u3 u2 h (by omega) (jr_of jk_4 (by omega)) (jr_of rfl (by omega)) (jr_of rfl (by omega)) (jr_of rfl (by omega)) (by omega) qu3 qu2 J Sm (by rw [jk_4]; exact D))
set_option maxRecDepth 100000 in
set_option maxHeartbeats 4000000 in
theorem ct_X2_readSum_r95_c5d_500148 {Dy : jH → Prop} {h0 : jH} {Q : Option Value → jH → Prop} {dr : (Int × jW)} {K4 : Int → Int → jW → (Int × jW)} {R4 : Int} (hD : jDk Dy) (hQ : ∀ (v : Int32) hx9, 0 ≤ v.toInt ∧ v.toInt ≤ 1 → jJ jSgX Dy hx9 → jSm fp_X2_readSum_r95_c5d h0 hx9 → ∀ u0 u1 : Int32, jiv hx9 68 5 = u0 → jiv hx9 68 3 = u1 → (u0.toInt ≠ 3 ∨ u1.toInt ≤ 399) → dr.1 = v.toInt → dr.2 = vw hx9 → Q (some (.int v)) hx9) (k4 : ∀ (l2 : Int32) (l3 : Int32) (g0 : Int32) (g1 : Int32) (h : jH), 400 - l3.toInt < R4 → (-1) ≤ l2.toInt ∧ l2.toInt ≤ 4 → 0 ≤ l3.toInt ∧ l3.toInt ≤ 400 → 0 ≤ g0.toInt ∧ g0.toInt ≤ 400 → 0 ≤ g1.toInt ∧ g1.toInt ≤ 3 → (g1.toInt ≠ 3 ∨ g0.toInt ≤ 399) → jiv h 68 3 = g0 → jiv h 68 5 = g1 → jJ jSgX Dy h → jSm fp_X2_readSum_r95_c5d h0 h → K4 l2.toInt l3.toInt (vw h) = dr → jX m_X2_readSum 12 0 0 4 [(0, .ref 95), (1, .int 5), (2, .int l2), (3, .int l3)] [] h 0 0 Q) : ∀ (l3 : Int32) (g0 : Int32) (g1 : Int32) (h : jH), 0 ≤ l3.toInt ∧ l3.toInt ≤ 399 → 0 ≤ g0.toInt ∧ g0.toInt ≤ 400 → 0 ≤ g1.toInt ∧ g1.toInt ≤ 3 → (g1.toInt ≠ 3 ∨ g0.toInt ≤ 399) → jiv h 68 3 = g0 → jiv h 68 5 = g1 → 400 - l3.toInt ≤ R4 → jJ jSgX Dy h → jSm fp_X2_readSum_r95_c5d h0 h → d_X2_readSum_r95_c5d_500148 K4  l3.toInt (vw h) = dr → jX m_X2_readSum 12 0 0 148 [(0, .ref 95), (1, .int 5), (3, .int l3)] [.int 3] h 0 0 Q := by
  intro l3 g0 g1 h y0 y1 y2 y3 z0 z1 m4 J Sm D
  unfold d_X2_readSum_r95_c5d_500148 at D
  try rw [vrf z0] at D
  try rw [vrf z1] at D
  refine x_istoren (lsx9 := [(2, .int 3), (0, .ref 95), (1, .int 5), (3, .int l3)]) rfl rfl rfl ?_
  refine x_iloadn (x := 3) rfl rfl ?_
  refine x_iconst (v := (-1)) rfl ki_m1 ?_
  refine x_icne (tgt := 156) rfl rfl (ti_ne jk_3 jk_m1 (bn_t (by omega) ?_))
  refine x_aloadn (x := 95) rfl rfl ?_
  refine z_getR (N := 6) (b := 68) 2 0 rfl f_2_30 rfl J rfl 12160 ⟨rfl, rfl⟩ rfl ?_
  refine x_inv (N := m_X9_step) (As := []) (b := 68) (st := []) (dx9 := 2) (mc := 0) (ms := 0) (host := "") 9 rfl t_X9_step ⟨Or.inl q_2_62, i_X9_step.1, i_X9_step.2⟩ ⟨by decide, rfl⟩ (congrArg Prod.fst (J.1.1 68 (9, 6) rfl)) rfl (by decide) rfl rfl ⟨by decide, by decide⟩ (sf_X9_step_r68d  hD J z1 z0 (by omega) rfl  (fun h J S1 u2 u3 qu2 qu3 ru2 X4 => ?_))
  have Sm := jSm_tr rfl Sm S1
  rw [X4] at D
  have eu2 := (show 0 ≤ u2.toInt ∧ u2.toInt ≤ 3 from qu2 ▸ jrg_f J sg_68_5_6_1_0_1)
  try rw [vrf qu2] at D
  have eu3 := (show 0 ≤ u3.toInt ∧ u3.toInt ≤ 400 from qu3 ▸ jrg_f J sg_68_3_4_1_0_1)
  try rw [vrf qu3] at D
  show jX m_X2_readSum 12 0 0 163 [(2, .int 3), (0, .ref 95), (1, .int 5), (3, .int l3)] [] _ 0 0 _
  refine z_iinc (x := l3) (lsx9 := fun v5 => [(3, .int v5), (2, .int 3), (0, .ref 95), (1, .int 5)]) rfl rfl rfl jko_1 (by omega) rfl (fun _ => rfl) (fun v5 ev5 => ?_)
  refine x_goto (tgt := 4) rfl rfl ?_
  try rw [show (l3.toInt + 1) = v5.toInt from by omega] at D
  exact jX.sub (jsb_c rfl (jsb_c rfl (jsb_c rfl (jsb_c rfl jsb_n)))) (k4 3 v5 u3 u2 h (by omega) (jr_of jk_3 (by omega)) (jr_of rfl (by omega)) (jr_of rfl (by omega)) (jr_of rfl (by omega)) (by omega) qu3 qu2 J Sm (by rw [jk_3]; exact D))
set_option maxRecDepth 100000 in
set_option maxHeartbeats 4000000 in
theorem ct_X2_readSum_r95_c5d_115 {Dy : jH → Prop} {h0 : jH} {Q : Option Value → jH → Prop} {dr : (Int × jW)} {K4 : Int → Int → jW → (Int × jW)} {R4 : Int} (hD : jDk Dy) (hQ : ∀ (v : Int32) hx9, 0 ≤ v.toInt ∧ v.toInt ≤ 1 → jJ jSgX Dy hx9 → jSm fp_X2_readSum_r95_c5d h0 hx9 → ∀ u0 u1 : Int32, jiv hx9 68 5 = u0 → jiv hx9 68 3 = u1 → (u0.toInt ≠ 3 ∨ u1.toInt ≤ 399) → dr.1 = v.toInt → dr.2 = vw hx9 → Q (some (.int v)) hx9) (k4 : ∀ (l2 : Int32) (l3 : Int32) (g0 : Int32) (g1 : Int32) (h : jH), 400 - l3.toInt < R4 → (-1) ≤ l2.toInt ∧ l2.toInt ≤ 4 → 0 ≤ l3.toInt ∧ l3.toInt ≤ 400 → 0 ≤ g0.toInt ∧ g0.toInt ≤ 400 → 0 ≤ g1.toInt ∧ g1.toInt ≤ 3 → (g1.toInt ≠ 3 ∨ g0.toInt ≤ 399) → jiv h 68 3 = g0 → jiv h 68 5 = g1 → jJ jSgX Dy h → jSm fp_X2_readSum_r95_c5d h0 h → K4 l2.toInt l3.toInt (vw h) = dr → jX m_X2_readSum 12 0 0 4 [(0, .ref 95), (1, .int 5), (2, .int l2), (3, .int l3)] [] h 0 0 Q) : ∀ (l3 : Int32) (g0 : Int32) (g1 : Int32) (h : jH), 0 ≤ l3.toInt ∧ l3.toInt ≤ 399 → 0 ≤ g0.toInt ∧ g0.toInt ≤ 400 → 0 ≤ g1.toInt ∧ g1.toInt ≤ 3 → (g1.toInt ≠ 3 ∨ g0.toInt ≤ 399) → jiv h 68 3 = g0 → jiv h 68 5 = g1 → 400 - l3.toInt ≤ R4 → jJ jSgX Dy h → jSm fp_X2_readSum_r95_c5d h0 h → d_X2_readSum_r95_c5d_115 K4  l3.toInt (vw h) = dr → jX m_X2_readSum 12 0 0 115 [(0, .ref 95), (1, .int 5), (3, .int l3)] [] h 0 0 Q := by
  intro l3 g0 g1 h y0 y1 y2 y3 z0 z1 m4 J Sm D
  unfold d_X2_readSum_r95_c5d_115 at D
  try rw [vrf z0] at D
  try rw [vrf z1] at D
  refine x_aloadn (x := 95) rfl rfl ?_
  refine z_getR (N := 6) (b := 68) 2 0 rfl f_2_30 rfl J rfl 12160 ⟨rfl, rfl⟩ rfl ?_
  refine x_bipush (v := 43) rfl kb_43 ?_
  refine x_inv (N := m_X9_isSign) (As := [.int 43]) (b := 68) (st := []) (dx9 := 1) (mc := 0) (ms := 0) (host := "") 9 rfl t_X9_isSign ⟨Or.inl q_2_55, i_X9_isSign.1, i_X9_isSign.2⟩ ⟨by decide, rfl⟩ (congrArg Prod.fst (J.1.1 68 (9, 6) rfl)) rfl (by decide) rfl rfl ⟨by decide, by decide⟩ (sf_X9_isSign_r68d (jr_of jk_43 (by omega)) hD J z1 z0 (by omega) rfl  (fun v6 h ev6 J S1 u2 u3 qu2 qu3 ru2 X4 X5 => ?_))
  have Sm := jSm_tr rfl Sm S1
  try rw [jk_43] at X4
  try rw [X4] at D
  try rw [← X5] at D
  have eu2 := (show 0 ≤ u2.toInt ∧ u2.toInt ≤ 3 from qu2 ▸ jrg_f J sg_68_5_6_1_0_1)
  have Luu2 := congrArg Int32.toInt (((jmc S1 rfl z1)).symm.trans qu2)
  try rw [Luu2] at D
  try rw [vrf qu2] at D
  have eu3 := (show 0 ≤ u3.toInt ∧ u3.toInt ≤ 400 from qu3 ▸ jrg_f J sg_68_3_4_1_0_1)
  have Luu3 := congrArg Int32.toInt (((jmc S1 rfl z0)).symm.trans qu3)
  try rw [Luu3] at D
  try rw [vrf qu3] at D
  show jX m_X2_readSum 12 0 0 124 [(0, .ref 95), (1, .int 5), (3, .int l3)] [.int v6] _ 0 0 _
  refine x_ifeq (tgt := 131) rfl rfl (ti_eq rfl jk_0 ⟨fun c7 => ?_, fun c7 => ?_⟩)
  ·
    rw [if_pos (by omega)] at D
    refine x_aloadn (x := 95) rfl rfl ?_
    refine z_getR (N := 6) (b := 68) 2 0 rfl f_2_30 rfl J rfl 12160 ⟨rfl, rfl⟩ rfl ?_
    refine x_bipush (v := 45) rfl kb_45 ?_
    refine x_inv (N := m_X9_isSign) (As := [.int 45]) (b := 68) (st := []) (dx9 := 1) (mc := 0) (ms := 0) (host := "") 9 rfl t_X9_isSign ⟨Or.inl q_2_55, i_X9_isSign.1, i_X9_isSign.2⟩ ⟨by decide, rfl⟩ (congrArg Prod.fst (J.1.1 68 (9, 6) rfl)) rfl (by decide) rfl rfl ⟨by decide, by decide⟩ (sf_X9_isSign_r68d (jr_of jk_45 (by omega)) hD J qu2 qu3 (by omega) rfl  (fun v13 h ev13 J S8 u9 u10 qu9 qu10 ru9 X11 X12 => ?_))
    have Sm := jSm_tr rfl Sm S8
    try rw [jk_45] at X11
    try rw [X11] at D
    try rw [← X12] at D
    have eu9 := (show 0 ≤ u9.toInt ∧ u9.toInt ≤ 3 from qu9 ▸ jrg_f J sg_68_5_6_1_0_1)
    have Luu9 := congrArg Int32.toInt (((jmc S8 rfl qu2)).symm.trans qu9)
    try rw [Luu9] at D
    try rw [vrf qu9] at D
    have eu10 := (show 0 ≤ u10.toInt ∧ u10.toInt ≤ 400 from qu10 ▸ jrg_f J sg_68_3_4_1_0_1)
    have Luu10 := congrArg Int32.toInt (((jmc S8 rfl qu3)).symm.trans qu10)
    try rw [Luu10] at D
    try rw [vrf qu10] at D
    show jX m_X2_readSum 12 0 0 140 [(0, .ref 95), (1, .int 5), (3, .int l3)] [.int v13] _ 0 0 _
    refine x_ifeq (tgt := 147) rfl rfl (ti_eq rfl jk_0 ⟨fun c14 => ?_, fun c14 => ?_⟩)
    ·
      rw [if_pos (by omega)] at D
      refine x_iconst (v := (-1)) rfl ki_m1 ?_
      exact jX.sub (jsb_c rfl (jsb_c rfl (jsb_c rfl jsb_n))) (ct_X2_readSum_r95_c5d_100148 hD hQ k4 l3 u10 u9 h (jr_of rfl (by omega)) (jr_of rfl (by omega)) (jr_of rfl (by omega)) (by omega) qu10 qu9 (by omega) J Sm D)
    ·
      rw [if_neg (by omega)] at D
      refine x_iconst (v := 4) rfl ki_4 ?_
      refine x_goto (tgt := 148) rfl rfl ?_
      exact jX.sub (jsb_c rfl (jsb_c rfl (jsb_c rfl jsb_n))) (ct_X2_readSum_r95_c5d_600148 hD hQ k4 l3 u10 u9 h (jr_of rfl (by omega)) (jr_of rfl (by omega)) (jr_of rfl (by omega)) (by omega) qu10 qu9 (by omega) J Sm D)
  ·
    rw [if_neg (by omega)] at D
    refine x_iconst (v := 3) rfl ki_3 ?_
    refine x_goto (tgt := 148) rfl rfl ?_
    exact jX.sub (jsb_c rfl (jsb_c rfl (jsb_c rfl jsb_n))) (ct_X2_readSum_r95_c5d_500148 hD hQ k4 l3 u3 u2 h (jr_of rfl (by omega)) (jr_of rfl (by omega)) (jr_of rfl (by omega)) (by omega) qu3 qu2 (by omega) J Sm D)
set_option maxRecDepth 100000 in
set_option maxHeartbeats 4000000 in
theorem ct_X2_readSum_r95_c5d_105 {Dy : jH → Prop} {h0 : jH} {Q : Option Value → jH → Prop} {dr : (Int × jW)} {K4 : Int → Int → jW → (Int × jW)} {R4 : Int} (hD : jDk Dy) (hQ : ∀ (v : Int32) hx9, 0 ≤ v.toInt ∧ v.toInt ≤ 1 → jJ jSgX Dy hx9 → jSm fp_X2_readSum_r95_c5d h0 hx9 → ∀ u0 u1 : Int32, jiv hx9 68 5 = u0 → jiv hx9 68 3 = u1 → (u0.toInt ≠ 3 ∨ u1.toInt ≤ 399) → dr.1 = v.toInt → dr.2 = vw hx9 → Q (some (.int v)) hx9) (k4 : ∀ (l2 : Int32) (l3 : Int32) (g0 : Int32) (g1 : Int32) (h : jH), 400 - l3.toInt < R4 → (-1) ≤ l2.toInt ∧ l2.toInt ≤ 4 → 0 ≤ l3.toInt ∧ l3.toInt ≤ 400 → 0 ≤ g0.toInt ∧ g0.toInt ≤ 400 → 0 ≤ g1.toInt ∧ g1.toInt ≤ 3 → (g1.toInt ≠ 3 ∨ g0.toInt ≤ 399) → jiv h 68 3 = g0 → jiv h 68 5 = g1 → jJ jSgX Dy h → jSm fp_X2_readSum_r95_c5d h0 h → K4 l2.toInt l3.toInt (vw h) = dr → jX m_X2_readSum 12 0 0 4 [(0, .ref 95), (1, .int 5), (2, .int l2), (3, .int l3)] [] h 0 0 Q) : ∀ (l2 : Int32) (l3 : Int32) (g0 : Int32) (g1 : Int32) (h : jH), (-1) ≤ l2.toInt ∧ l2.toInt ≤ 4 → 0 ≤ l3.toInt ∧ l3.toInt ≤ 399 → 0 ≤ g0.toInt ∧ g0.toInt ≤ 400 → 0 ≤ g1.toInt ∧ g1.toInt ≤ 3 → (g1.toInt ≠ 3 ∨ g0.toInt ≤ 399) → jiv h 68 3 = g0 → jiv h 68 5 = g1 → 400 - l3.toInt ≤ R4 → jJ jSgX Dy h → jSm fp_X2_readSum_r95_c5d h0 h → d_X2_readSum_r95_c5d_105 K4  l2.toInt l3.toInt (vw h) = dr → jX m_X2_readSum 12 0 0 105 [(0, .ref 95), (1, .int 5), (2, .int l2), (3, .int l3)] [] h 0 0 Q := by
  intro l2 l3 g0 g1 h y0 y1 y2 y3 y4 z0 z1 m4 J Sm D
  unfold d_X2_readSum_r95_c5d_105 at D
  try rw [vrf z0] at D
  try rw [vrf z1] at D
  refine x_iloadn (x := l2) rfl rfl ?_
  refine x_iconst (v := (-1)) rfl ki_m1 ?_
  refine x_iceq (tgt := 115) rfl rfl (ti_eq rfl jk_m1 ⟨fun c1 => ?_, fun c1 => ?_⟩)
  ·
    rw [if_pos (by omega)] at D
    exact jX.sub (jsb_c rfl (jsb_c rfl (jsb_c rfl jsb_n))) (ct_X2_readSum_r95_c5d_115 hD hQ k4 l3 g0 g1 h (jr_of rfl (by omega)) (jr_of rfl (by omega)) (jr_of rfl (by omega)) (by omega) z0 z1 (by omega) J Sm D)
  ·
    rw [if_neg (by omega)] at D
    refine x_aloadn (x := 95) rfl rfl ?_
    refine x_iloadn (x := l2) rfl rfl ?_
    refine x_inv (N := m_X2_emit) (As := [.int l2]) (b := 95) (st := []) (dx9 := 1) (mc := 0) (ms := 0) (host := "") 2 rfl t_X2_emit ⟨Or.inl q_2_89, i_X2_emit.1, i_X2_emit.2⟩ ⟨by decide, rfl⟩ (congrArg Prod.fst (J.1.1 95 (2, 6) rfl)) rfl (by decide) rfl rfl ⟨by decide, by decide⟩ (sf_X2_emit_r95d  hD J rfl  (fun h J S2 X3 => ?_))
    have Sm := jSm_tr rfl Sm S2
    rw [X3] at D
    show jX m_X2_readSum 12 0 0 115 [(0, .ref 95), (1, .int 5), (2, .int l2), (3, .int l3)] [] _ 0 0 _
    exact jX.sub (jsb_c rfl (jsb_c rfl (jsb_c rfl jsb_n))) (ct_X2_readSum_r95_c5d_115 hD hQ k4 l3 g0 g1 h (jr_of rfl (by omega)) (jr_of rfl (by omega)) (jr_of rfl (by omega)) (by omega) (jmc S2 rfl z0) (jmc S2 rfl z1) (by omega) J Sm D)
set_option maxRecDepth 100000 in
set_option maxHeartbeats 4000000 in
theorem ct_X2_readSum_r95_c5d_100081 {Dy : jH → Prop} {h0 : jH} {Q : Option Value → jH → Prop} {dr : (Int × jW)} {K4 : Int → Int → jW → (Int × jW)} {K17 : Int → Int → Int → Int → jW → (Int × jW)} {R4 : Int} {R17 : Int} (hD : jDk Dy) (hQ : ∀ (v : Int32) hx9, 0 ≤ v.toInt ∧ v.toInt ≤ 1 → jJ jSgX Dy hx9 → jSm fp_X2_readSum_r95_c5d h0 hx9 → ∀ u0 u1 : Int32, jiv hx9 68 5 = u0 → jiv hx9 68 3 = u1 → (u0.toInt ≠ 3 ∨ u1.toInt ≤ 399) → dr.1 = v.toInt → dr.2 = vw hx9 → Q (some (.int v)) hx9) (k4 : ∀ (l2 : Int32) (l3 : Int32) (g0 : Int32) (g1 : Int32) (h : jH), 400 - l3.toInt < R4 → (-1) ≤ l2.toInt ∧ l2.toInt ≤ 4 → 0 ≤ l3.toInt ∧ l3.toInt ≤ 400 → 0 ≤ g0.toInt ∧ g0.toInt ≤ 400 → 0 ≤ g1.toInt ∧ g1.toInt ≤ 3 → (g1.toInt ≠ 3 ∨ g0.toInt ≤ 399) → jiv h 68 3 = g0 → jiv h 68 5 = g1 → jJ jSgX Dy h → jSm fp_X2_readSum_r95_c5d h0 h → K4 l2.toInt l3.toInt (vw h) = dr → jX m_X2_readSum 12 0 0 4 [(0, .ref 95), (1, .int 5), (2, .int l2), (3, .int l3)] [] h 0 0 Q) (k17 : ∀ (l2 : Int32) (l3 : Int32) (l4 : Int32) (l5 : Int32) (g0 : Int32) (g1 : Int32) (h : jH), 400 - l5.toInt < R17 → (-1) ≤ l2.toInt ∧ l2.toInt ≤ 4 → 0 ≤ l3.toInt ∧ l3.toInt ≤ 399 → (-1) ≤ l4.toInt ∧ l4.toInt ≤ 6 → 0 ≤ l5.toInt ∧ l5.toInt ≤ 400 → 0 ≤ g0.toInt ∧ g0.toInt ≤ 400 → 0 ≤ g1.toInt ∧ g1.toInt ≤ 3 → (g1.toInt ≠ 3 ∨ g0.toInt ≤ 399) → jiv h 68 3 = g0 → jiv h 68 5 = g1 → 400 - l3.toInt ≤ R4 → jJ jSgX Dy h → jSm fp_X2_readSum_r95_c5d h0 h → K17 l2.toInt l3.toInt l4.toInt l5.toInt (vw h) = dr → jX m_X2_readSum 12 0 0 17 [(0, .ref 95), (1, .int 5), (2, .int l2), (3, .int l3), (4, .int l4), (5, .int l5)] [] h 0 0 Q) : ∀ (l2 : Int32) (l3 : Int32) (l5 : Int32) (g0 : Int32) (g1 : Int32) (h : jH), (-1) ≤ l2.toInt ∧ l2.toInt ≤ 4 → 0 ≤ l3.toInt ∧ l3.toInt ≤ 399 → 0 ≤ l5.toInt ∧ l5.toInt ≤ 399 → 0 ≤ g0.toInt ∧ g0.toInt ≤ 400 → 0 ≤ g1.toInt ∧ g1.toInt ≤ 3 → (g1.toInt ≠ 3 ∨ g0.toInt ≤ 399) → jiv h 68 3 = g0 → jiv h 68 5 = g1 → 400 - l3.toInt ≤ R4 → 400 - l5.toInt ≤ R17 → jJ jSgX Dy h → jSm fp_X2_readSum_r95_c5d h0 h → d_X2_readSum_r95_c5d_100081 K4 K17  l2.toInt l3.toInt l5.toInt (vw h) = dr → jX m_X2_readSum 12 0 0 81 [(0, .ref 95), (1, .int 5), (2, .int l2), (3, .int l3), (5, .int l5)] [.int (-1)] h 0 0 Q := by
  intro l2 l3 l5 g0 g1 h y0 y1 y2 y3 y4 y5 z0 z1 m4 m17 J Sm D
  unfold d_X2_readSum_r95_c5d_100081 at D
  try rw [vrf z0] at D
  try rw [vrf z1] at D
  refine x_istore (lsx9 := [(4, .int (-1)), (0, .ref 95), (1, .int 5), (2, .int l2), (3, .int l3), (5, .int l5)]) rfl rfl rfl ?_
  refine x_iload (x := (-1)) rfl rfl ?_
  refine x_iconst (v := (-1)) rfl ki_m1 ?_
  refine x_icne (tgt := 92) rfl rfl (ti_ne jk_m1 jk_m1 (bn_f (by omega) ?_))
  refine x_goto (tgt := 105) rfl rfl ?_
  exact jX.sub (jsb_c rfl (jsb_c rfl (jsb_c rfl (jsb_c rfl jsb_n)))) (ct_X2_readSum_r95_c5d_105 hD hQ k4 l2 l3 g0 g1 h (jr_of rfl (by omega)) (jr_of rfl (by omega)) (jr_of rfl (by omega)) (jr_of rfl (by omega)) (by omega) z0 z1 (by omega) J Sm D)
set_option maxRecDepth 100000 in
set_option maxHeartbeats 4000000 in
theorem ct_X2_readSum_r95_c5d_800081 {Dy : jH → Prop} {h0 : jH} {Q : Option Value → jH → Prop} {dr : (Int × jW)} {K4 : Int → Int → jW → (Int × jW)} {K17 : Int → Int → Int → Int → jW → (Int × jW)} {R4 : Int} {R17 : Int} (hD : jDk Dy) (hQ : ∀ (v : Int32) hx9, 0 ≤ v.toInt ∧ v.toInt ≤ 1 → jJ jSgX Dy hx9 → jSm fp_X2_readSum_r95_c5d h0 hx9 → ∀ u0 u1 : Int32, jiv hx9 68 5 = u0 → jiv hx9 68 3 = u1 → (u0.toInt ≠ 3 ∨ u1.toInt ≤ 399) → dr.1 = v.toInt → dr.2 = vw hx9 → Q (some (.int v)) hx9) (k4 : ∀ (l2 : Int32) (l3 : Int32) (g0 : Int32) (g1 : Int32) (h : jH), 400 - l3.toInt < R4 → (-1) ≤ l2.toInt ∧ l2.toInt ≤ 4 → 0 ≤ l3.toInt ∧ l3.toInt ≤ 400 → 0 ≤ g0.toInt ∧ g0.toInt ≤ 400 → 0 ≤ g1.toInt ∧ g1.toInt ≤ 3 → (g1.toInt ≠ 3 ∨ g0.toInt ≤ 399) → jiv h 68 3 = g0 → jiv h 68 5 = g1 → jJ jSgX Dy h → jSm fp_X2_readSum_r95_c5d h0 h → K4 l2.toInt l3.toInt (vw h) = dr → jX m_X2_readSum 12 0 0 4 [(0, .ref 95), (1, .int 5), (2, .int l2), (3, .int l3)] [] h 0 0 Q) (k17 : ∀ (l2 : Int32) (l3 : Int32) (l4 : Int32) (l5 : Int32) (g0 : Int32) (g1 : Int32) (h : jH), 400 - l5.toInt < R17 → (-1) ≤ l2.toInt ∧ l2.toInt ≤ 4 → 0 ≤ l3.toInt ∧ l3.toInt ≤ 399 → (-1) ≤ l4.toInt ∧ l4.toInt ≤ 6 → 0 ≤ l5.toInt ∧ l5.toInt ≤ 400 → 0 ≤ g0.toInt ∧ g0.toInt ≤ 400 → 0 ≤ g1.toInt ∧ g1.toInt ≤ 3 → (g1.toInt ≠ 3 ∨ g0.toInt ≤ 399) → jiv h 68 3 = g0 → jiv h 68 5 = g1 → 400 - l3.toInt ≤ R4 → jJ jSgX Dy h → jSm fp_X2_readSum_r95_c5d h0 h → K17 l2.toInt l3.toInt l4.toInt l5.toInt (vw h) = dr → jX m_X2_readSum 12 0 0 17 [(0, .ref 95), (1, .int 5), (2, .int l2), (3, .int l3), (4, .int l4), (5, .int l5)] [] h 0 0 Q) : ∀ (l2 : Int32) (l3 : Int32) (l5 : Int32) (g0 : Int32) (g1 : Int32) (h : jH), (-1) ≤ l2.toInt ∧ l2.toInt ≤ 4 → 0 ≤ l3.toInt ∧ l3.toInt ≤ 399 → 0 ≤ l5.toInt ∧ l5.toInt ≤ 399 → 0 ≤ g0.toInt ∧ g0.toInt ≤ 400 → 0 ≤ g1.toInt ∧ g1.toInt ≤ 3 → (g1.toInt ≠ 3 ∨ g0.toInt ≤ 399) → jiv h 68 3 = g0 → jiv h 68 5 = g1 → 400 - l3.toInt ≤ R4 → 400 - l5.toInt ≤ R17 → jJ jSgX Dy h → jSm fp_X2_readSum_r95_c5d h0 h → d_X2_readSum_r95_c5d_800081 K4 K17  l2.toInt l3.toInt l5.toInt (vw h) = dr → jX m_X2_readSum 12 0 0 81 [(0, .ref 95), (1, .int 5), (2, .int l2), (3, .int l3), (5, .int l5)] [.int 6] h 0 0 Q := by
  intro l2 l3 l5 g0 g1 h y0 y1 y2 y3 y4 y5 z0 z1 m4 m17 J Sm D
  unfold d_X2_readSum_r95_c5d_800081 at D
  try rw [vrf z0] at D
  try rw [vrf z1] at D
  refine x_istore (lsx9 := [(4, .int 6), (0, .ref 95), (1, .int 5), (2, .int l2), (3, .int l3), (5, .int l5)]) rfl rfl rfl ?_
  refine x_iload (x := 6) rfl rfl ?_
  refine x_iconst (v := (-1)) rfl ki_m1 ?_
  refine x_icne (tgt := 92) rfl rfl (ti_ne jk_6 jk_m1 (bn_t (by omega) ?_))
  refine x_aloadn (x := 95) rfl rfl ?_
  refine z_getR (N := 6) (b := 68) 2 0 rfl f_2_30 rfl J rfl 12160 ⟨rfl, rfl⟩ rfl ?_
  refine x_inv (N := m_X9_step) (As := []) (b := 68) (st := []) (dx9 := 2) (mc := 0) (ms := 0) (host := "") 9 rfl t_X9_step ⟨Or.inl q_2_62, i_X9_step.1, i_X9_step.2⟩ ⟨by decide, rfl⟩ (congrArg Prod.fst (J.1.1 68 (9, 6) rfl)) rfl (by decide) rfl rfl ⟨by decide, by decide⟩ (sf_X9_step_r68d  hD J z1 z0 (by omega) rfl  (fun h J S1 u2 u3 qu2 qu3 ru2 X4 => ?_))
  have Sm := jSm_tr rfl Sm S1
  rw [X4] at D
  have eu2 := (show 0 ≤ u2.toInt ∧ u2.toInt ≤ 3 from qu2 ▸ jrg_f J sg_68_5_6_1_0_1)
  try rw [vrf qu2] at D
  have eu3 := (show 0 ≤ u3.toInt ∧ u3.toInt ≤ 400 from qu3 ▸ jrg_f J sg_68_3_4_1_0_1)
  try rw [vrf qu3] at D
  show jX m_X2_readSum 12 0 0 99 [(4, .int 6), (0, .ref 95), (1, .int 5), (2, .int l2), (3, .int l3), (5, .int l5)] [] _ 0 0 _
  refine z_iinc (x := l5) (lsx9 := fun v5 => [(5, .int v5), (4, .int 6), (0, .ref 95), (1, .int 5), (2, .int l2), (3, .int l3)]) rfl rfl rfl jko_1 (by omega) rfl (fun _ => rfl) (fun v5 ev5 => ?_)
  refine x_goto (tgt := 17) rfl rfl ?_
  try rw [show (l5.toInt + 1) = v5.toInt from by omega] at D
  exact jX.sub (jsb_c rfl (jsb_c rfl (jsb_c rfl (jsb_c rfl (jsb_c rfl (jsb_c rfl jsb_n)))))) (k17 l2 l3 6 v5 u3 u2 h (by omega) (jr_of rfl (by omega)) (jr_of rfl (by omega)) (jr_of jk_6 (by omega)) (jr_of rfl (by omega)) (jr_of rfl (by omega)) (jr_of rfl (by omega)) (by omega) qu3 qu2 (by omega) J Sm (by rw [jk_6]; exact D))
set_option maxRecDepth 100000 in
set_option maxHeartbeats 4000000 in
theorem ct_X2_readSum_r95_c5d_700081 {Dy : jH → Prop} {h0 : jH} {Q : Option Value → jH → Prop} {dr : (Int × jW)} {K4 : Int → Int → jW → (Int × jW)} {K17 : Int → Int → Int → Int → jW → (Int × jW)} {R4 : Int} {R17 : Int} (hD : jDk Dy) (hQ : ∀ (v : Int32) hx9, 0 ≤ v.toInt ∧ v.toInt ≤ 1 → jJ jSgX Dy hx9 → jSm fp_X2_readSum_r95_c5d h0 hx9 → ∀ u0 u1 : Int32, jiv hx9 68 5 = u0 → jiv hx9 68 3 = u1 → (u0.toInt ≠ 3 ∨ u1.toInt ≤ 399) → dr.1 = v.toInt → dr.2 = vw hx9 → Q (some (.int v)) hx9) (k4 : ∀ (l2 : Int32) (l3 : Int32) (g0 : Int32) (g1 : Int32) (h : jH), 400 - l3.toInt < R4 → (-1) ≤ l2.toInt ∧ l2.toInt ≤ 4 → 0 ≤ l3.toInt ∧ l3.toInt ≤ 400 → 0 ≤ g0.toInt ∧ g0.toInt ≤ 400 → 0 ≤ g1.toInt ∧ g1.toInt ≤ 3 → (g1.toInt ≠ 3 ∨ g0.toInt ≤ 399) → jiv h 68 3 = g0 → jiv h 68 5 = g1 → jJ jSgX Dy h → jSm fp_X2_readSum_r95_c5d h0 h → K4 l2.toInt l3.toInt (vw h) = dr → jX m_X2_readSum 12 0 0 4 [(0, .ref 95), (1, .int 5), (2, .int l2), (3, .int l3)] [] h 0 0 Q) (k17 : ∀ (l2 : Int32) (l3 : Int32) (l4 : Int32) (l5 : Int32) (g0 : Int32) (g1 : Int32) (h : jH), 400 - l5.toInt < R17 → (-1) ≤ l2.toInt ∧ l2.toInt ≤ 4 → 0 ≤ l3.toInt ∧ l3.toInt ≤ 399 → (-1) ≤ l4.toInt ∧ l4.toInt ≤ 6 → 0 ≤ l5.toInt ∧ l5.toInt ≤ 400 → 0 ≤ g0.toInt ∧ g0.toInt ≤ 400 → 0 ≤ g1.toInt ∧ g1.toInt ≤ 3 → (g1.toInt ≠ 3 ∨ g0.toInt ≤ 399) → jiv h 68 3 = g0 → jiv h 68 5 = g1 → 400 - l3.toInt ≤ R4 → jJ jSgX Dy h → jSm fp_X2_readSum_r95_c5d h0 h → K17 l2.toInt l3.toInt l4.toInt l5.toInt (vw h) = dr → jX m_X2_readSum 12 0 0 17 [(0, .ref 95), (1, .int 5), (2, .int l2), (3, .int l3), (4, .int l4), (5, .int l5)] [] h 0 0 Q) : ∀ (l2 : Int32) (l3 : Int32) (l5 : Int32) (g0 : Int32) (g1 : Int32) (h : jH), (-1) ≤ l2.toInt ∧ l2.toInt ≤ 4 → 0 ≤ l3.toInt ∧ l3.toInt ≤ 399 → 0 ≤ l5.toInt ∧ l5.toInt ≤ 399 → 0 ≤ g0.toInt ∧ g0.toInt ≤ 400 → 0 ≤ g1.toInt ∧ g1.toInt ≤ 3 → (g1.toInt ≠ 3 ∨ g0.toInt ≤ 399) → jiv h 68 3 = g0 → jiv h 68 5 = g1 → 400 - l3.toInt ≤ R4 → 400 - l5.toInt ≤ R17 → jJ jSgX Dy h → jSm fp_X2_readSum_r95_c5d h0 h → d_X2_readSum_r95_c5d_700081 K4 K17  l2.toInt l3.toInt l5.toInt (vw h) = dr → jX m_X2_readSum 12 0 0 81 [(0, .ref 95), (1, .int 5), (2, .int l2), (3, .int l3), (5, .int l5)] [.int 5] h 0 0 Q := by
  intro l2 l3 l5 g0 g1 h y0 y1 y2 y3 y4 y5 z0 z1 m4 m17 J Sm D
  unfold d_X2_readSum_r95_c5d_700081 at D
  try rw [vrf z0] at D
  try rw [vrf z1] at D
  refine x_istore (lsx9 := [(4, .int 5), (0, .ref 95), (1, .int 5), (2, .int l2), (3, .int l3), (5, .int l5)]) rfl rfl rfl ?_
  refine x_iload (x := 5) rfl rfl ?_
  refine x_iconst (v := (-1)) rfl ki_m1 ?_
  refine x_icne (tgt := 92) rfl rfl (ti_ne jk_5 jk_m1 (bn_t (by omega) ?_))
  refine x_aloadn (x := 95) rfl rfl ?_
  refine z_getR (N := 6) (b := 68) 2 0 rfl f_2_30 rfl J rfl 12160 ⟨rfl, rfl⟩ rfl ?_
  refine x_inv (N := m_X9_step) (As := []) (b := 68) (st := []) (dx9 := 2) (mc := 0) (ms := 0) (host := "") 9 rfl t_X9_step ⟨Or.inl q_2_62, i_X9_step.1, i_X9_step.2⟩ ⟨by decide, rfl⟩ (congrArg Prod.fst (J.1.1 68 (9, 6) rfl)) rfl (by decide) rfl rfl ⟨by decide, by decide⟩ (sf_X9_step_r68d  hD J z1 z0 (by omega) rfl  (fun h J S1 u2 u3 qu2 qu3 ru2 X4 => ?_))
  have Sm := jSm_tr rfl Sm S1
  rw [X4] at D
  have eu2 := (show 0 ≤ u2.toInt ∧ u2.toInt ≤ 3 from qu2 ▸ jrg_f J sg_68_5_6_1_0_1)
  try rw [vrf qu2] at D
  have eu3 := (show 0 ≤ u3.toInt ∧ u3.toInt ≤ 400 from qu3 ▸ jrg_f J sg_68_3_4_1_0_1)
  try rw [vrf qu3] at D
  show jX m_X2_readSum 12 0 0 99 [(4, .int 5), (0, .ref 95), (1, .int 5), (2, .int l2), (3, .int l3), (5, .int l5)] [] _ 0 0 _
  refine z_iinc (x := l5) (lsx9 := fun v5 => [(5, .int v5), (4, .int 5), (0, .ref 95), (1, .int 5), (2, .int l2), (3, .int l3)]) rfl rfl rfl jko_1 (by omega) rfl (fun _ => rfl) (fun v5 ev5 => ?_)
  refine x_goto (tgt := 17) rfl rfl ?_
  try rw [show (l5.toInt + 1) = v5.toInt from by omega] at D
  exact jX.sub (jsb_c rfl (jsb_c rfl (jsb_c rfl (jsb_c rfl (jsb_c rfl (jsb_c rfl jsb_n)))))) (k17 l2 l3 5 v5 u3 u2 h (by omega) (jr_of rfl (by omega)) (jr_of rfl (by omega)) (jr_of jk_5 (by omega)) (jr_of rfl (by omega)) (jr_of rfl (by omega)) (jr_of rfl (by omega)) (by omega) qu3 qu2 (by omega) J Sm (by rw [jk_5]; exact D))
set_option maxRecDepth 100000 in
set_option maxHeartbeats 4000000 in
theorem ct_X2_readSum_r95_c5d_47 {Dy : jH → Prop} {h0 : jH} {Q : Option Value → jH → Prop} {dr : (Int × jW)} {K4 : Int → Int → jW → (Int × jW)} {K17 : Int → Int → Int → Int → jW → (Int × jW)} {R4 : Int} {R17 : Int} (hD : jDk Dy) (hQ : ∀ (v : Int32) hx9, 0 ≤ v.toInt ∧ v.toInt ≤ 1 → jJ jSgX Dy hx9 → jSm fp_X2_readSum_r95_c5d h0 hx9 → ∀ u0 u1 : Int32, jiv hx9 68 5 = u0 → jiv hx9 68 3 = u1 → (u0.toInt ≠ 3 ∨ u1.toInt ≤ 399) → dr.1 = v.toInt → dr.2 = vw hx9 → Q (some (.int v)) hx9) (k4 : ∀ (l2 : Int32) (l3 : Int32) (g0 : Int32) (g1 : Int32) (h : jH), 400 - l3.toInt < R4 → (-1) ≤ l2.toInt ∧ l2.toInt ≤ 4 → 0 ≤ l3.toInt ∧ l3.toInt ≤ 400 → 0 ≤ g0.toInt ∧ g0.toInt ≤ 400 → 0 ≤ g1.toInt ∧ g1.toInt ≤ 3 → (g1.toInt ≠ 3 ∨ g0.toInt ≤ 399) → jiv h 68 3 = g0 → jiv h 68 5 = g1 → jJ jSgX Dy h → jSm fp_X2_readSum_r95_c5d h0 h → K4 l2.toInt l3.toInt (vw h) = dr → jX m_X2_readSum 12 0 0 4 [(0, .ref 95), (1, .int 5), (2, .int l2), (3, .int l3)] [] h 0 0 Q) (k17 : ∀ (l2 : Int32) (l3 : Int32) (l4 : Int32) (l5 : Int32) (g0 : Int32) (g1 : Int32) (h : jH), 400 - l5.toInt < R17 → (-1) ≤ l2.toInt ∧ l2.toInt ≤ 4 → 0 ≤ l3.toInt ∧ l3.toInt ≤ 399 → (-1) ≤ l4.toInt ∧ l4.toInt ≤ 6 → 0 ≤ l5.toInt ∧ l5.toInt ≤ 400 → 0 ≤ g0.toInt ∧ g0.toInt ≤ 400 → 0 ≤ g1.toInt ∧ g1.toInt ≤ 3 → (g1.toInt ≠ 3 ∨ g0.toInt ≤ 399) → jiv h 68 3 = g0 → jiv h 68 5 = g1 → 400 - l3.toInt ≤ R4 → jJ jSgX Dy h → jSm fp_X2_readSum_r95_c5d h0 h → K17 l2.toInt l3.toInt l4.toInt l5.toInt (vw h) = dr → jX m_X2_readSum 12 0 0 17 [(0, .ref 95), (1, .int 5), (2, .int l2), (3, .int l3), (4, .int l4), (5, .int l5)] [] h 0 0 Q) : ∀ (l2 : Int32) (l3 : Int32) (l5 : Int32) (g0 : Int32) (g1 : Int32) (h : jH), (-1) ≤ l2.toInt ∧ l2.toInt ≤ 4 → 0 ≤ l3.toInt ∧ l3.toInt ≤ 399 → 0 ≤ l5.toInt ∧ l5.toInt ≤ 399 → 0 ≤ g0.toInt ∧ g0.toInt ≤ 400 → 0 ≤ g1.toInt ∧ g1.toInt ≤ 3 → (g1.toInt ≠ 3 ∨ g0.toInt ≤ 399) → jiv h 68 3 = g0 → jiv h 68 5 = g1 → 400 - l3.toInt ≤ R4 → 400 - l5.toInt ≤ R17 → jJ jSgX Dy h → jSm fp_X2_readSum_r95_c5d h0 h → d_X2_readSum_r95_c5d_47 K4 K17  l2.toInt l3.toInt l5.toInt (vw h) = dr → jX m_X2_readSum 12 0 0 47 [(0, .ref 95), (1, .int 5), (2, .int l2), (3, .int l3), (5, .int l5)] [] h 0 0 Q := by
  intro l2 l3 l5 g0 g1 h y0 y1 y2 y3 y4 y5 z0 z1 m4 m17 J Sm D
  unfold d_X2_readSum_r95_c5d_47 at D
  try rw [vrf z0] at D
  try rw [vrf z1] at D
  refine x_aloadn (x := 95) rfl rfl ?_
  refine z_getR (N := 6) (b := 68) 2 0 rfl f_2_30 rfl J rfl 12160 ⟨rfl, rfl⟩ rfl ?_
  refine x_bipush (v := 42) rfl kb_42 ?_
  refine x_inv (N := m_X9_isSign) (As := [.int 42]) (b := 68) (st := []) (dx9 := 1) (mc := 0) (ms := 0) (host := "") 9 rfl t_X9_isSign ⟨Or.inl q_2_55, i_X9_isSign.1, i_X9_isSign.2⟩ ⟨by decide, rfl⟩ (congrArg Prod.fst (J.1.1 68 (9, 6) rfl)) rfl (by decide) rfl rfl ⟨by decide, by decide⟩ (sf_X9_isSign_r68d (jr_of jk_42 (by omega)) hD J z1 z0 (by omega) rfl  (fun v6 h ev6 J S1 u2 u3 qu2 qu3 ru2 X4 X5 => ?_))
  have Sm := jSm_tr rfl Sm S1
  try rw [jk_42] at X4
  try rw [X4] at D
  try rw [← X5] at D
  have eu2 := (show 0 ≤ u2.toInt ∧ u2.toInt ≤ 3 from qu2 ▸ jrg_f J sg_68_5_6_1_0_1)
  have Luu2 := congrArg Int32.toInt (((jmc S1 rfl z1)).symm.trans qu2)
  try rw [Luu2] at D
  try rw [vrf qu2] at D
  have eu3 := (show 0 ≤ u3.toInt ∧ u3.toInt ≤ 400 from qu3 ▸ jrg_f J sg_68_3_4_1_0_1)
  have Luu3 := congrArg Int32.toInt (((jmc S1 rfl z0)).symm.trans qu3)
  try rw [Luu3] at D
  try rw [vrf qu3] at D
  show jX m_X2_readSum 12 0 0 56 [(0, .ref 95), (1, .int 5), (2, .int l2), (3, .int l3), (5, .int l5)] [.int v6] _ 0 0 _
  refine x_ifeq (tgt := 63) rfl rfl (ti_eq rfl jk_0 ⟨fun c7 => ?_, fun c7 => ?_⟩)
  ·
    rw [if_pos (by omega)] at D
    refine x_aloadn (x := 95) rfl rfl ?_
    refine z_getR (N := 6) (b := 68) 2 0 rfl f_2_30 rfl J rfl 12160 ⟨rfl, rfl⟩ rfl ?_
    refine x_bipush (v := 47) rfl kb_47 ?_
    refine x_inv (N := m_X9_isSign) (As := [.int 47]) (b := 68) (st := []) (dx9 := 1) (mc := 0) (ms := 0) (host := "") 9 rfl t_X9_isSign ⟨Or.inl q_2_55, i_X9_isSign.1, i_X9_isSign.2⟩ ⟨by decide, rfl⟩ (congrArg Prod.fst (J.1.1 68 (9, 6) rfl)) rfl (by decide) rfl rfl ⟨by decide, by decide⟩ (sf_X9_isSign_r68d (jr_of jk_47 (by omega)) hD J qu2 qu3 (by omega) rfl  (fun v13 h ev13 J S8 u9 u10 qu9 qu10 ru9 X11 X12 => ?_))
    have Sm := jSm_tr rfl Sm S8
    try rw [jk_47] at X11
    try rw [X11] at D
    try rw [← X12] at D
    have eu9 := (show 0 ≤ u9.toInt ∧ u9.toInt ≤ 3 from qu9 ▸ jrg_f J sg_68_5_6_1_0_1)
    have Luu9 := congrArg Int32.toInt (((jmc S8 rfl qu2)).symm.trans qu9)
    try rw [Luu9] at D
    try rw [vrf qu9] at D
    have eu10 := (show 0 ≤ u10.toInt ∧ u10.toInt ≤ 400 from qu10 ▸ jrg_f J sg_68_3_4_1_0_1)
    have Luu10 := congrArg Int32.toInt (((jmc S8 rfl qu3)).symm.trans qu10)
    try rw [Luu10] at D
    try rw [vrf qu10] at D
    show jX m_X2_readSum 12 0 0 72 [(0, .ref 95), (1, .int 5), (2, .int l2), (3, .int l3), (5, .int l5)] [.int v13] _ 0 0 _
    refine x_ifeq (tgt := 80) rfl rfl (ti_eq rfl jk_0 ⟨fun c14 => ?_, fun c14 => ?_⟩)
    ·
      rw [if_pos (by omega)] at D
      refine x_iconst (v := (-1)) rfl ki_m1 ?_
      exact jX.sub (jsb_c rfl (jsb_c rfl (jsb_c rfl (jsb_c rfl (jsb_c rfl jsb_n))))) (ct_X2_readSum_r95_c5d_100081 hD hQ k4 k17 l2 l3 l5 u10 u9 h (jr_of rfl (by omega)) (jr_of rfl (by omega)) (jr_of rfl (by omega)) (jr_of rfl (by omega)) (jr_of rfl (by omega)) (by omega) qu10 qu9 (by omega) (by omega) J Sm D)
    ·
      rw [if_neg (by omega)] at D
      refine x_bipush (v := 6) rfl kb_6 ?_
      refine x_goto (tgt := 81) rfl rfl ?_
      exact jX.sub (jsb_c rfl (jsb_c rfl (jsb_c rfl (jsb_c rfl (jsb_c rfl jsb_n))))) (ct_X2_readSum_r95_c5d_800081 hD hQ k4 k17 l2 l3 l5 u10 u9 h (jr_of rfl (by omega)) (jr_of rfl (by omega)) (jr_of rfl (by omega)) (jr_of rfl (by omega)) (jr_of rfl (by omega)) (by omega) qu10 qu9 (by omega) (by omega) J Sm D)
  ·
    rw [if_neg (by omega)] at D
    refine x_iconst (v := 5) rfl ki_5 ?_
    refine x_goto (tgt := 81) rfl rfl ?_
    exact jX.sub (jsb_c rfl (jsb_c rfl (jsb_c rfl (jsb_c rfl (jsb_c rfl jsb_n))))) (ct_X2_readSum_r95_c5d_700081 hD hQ k4 k17 l2 l3 l5 u3 u2 h (jr_of rfl (by omega)) (jr_of rfl (by omega)) (jr_of rfl (by omega)) (jr_of rfl (by omega)) (jr_of rfl (by omega)) (by omega) qu3 qu2 (by omega) (by omega) J Sm D)
set_option maxRecDepth 100000 in
set_option maxHeartbeats 4000000 in
theorem ct_X2_readSum_r95_c5d_17 {Dy : jH → Prop} {h0 : jH} {Q : Option Value → jH → Prop} {dr : (Int × jW)} {K4 : Int → Int → jW → (Int × jW)} {R4 : Int} (hD : jDk Dy) (hQ : ∀ (v : Int32) hx9, 0 ≤ v.toInt ∧ v.toInt ≤ 1 → jJ jSgX Dy hx9 → jSm fp_X2_readSum_r95_c5d h0 hx9 → ∀ u0 u1 : Int32, jiv hx9 68 5 = u0 → jiv hx9 68 3 = u1 → (u0.toInt ≠ 3 ∨ u1.toInt ≤ 399) → dr.1 = v.toInt → dr.2 = vw hx9 → Q (some (.int v)) hx9) (k4 : ∀ (l2 : Int32) (l3 : Int32) (g0 : Int32) (g1 : Int32) (h : jH), 400 - l3.toInt < R4 → (-1) ≤ l2.toInt ∧ l2.toInt ≤ 4 → 0 ≤ l3.toInt ∧ l3.toInt ≤ 400 → 0 ≤ g0.toInt ∧ g0.toInt ≤ 400 → 0 ≤ g1.toInt ∧ g1.toInt ≤ 3 → (g1.toInt ≠ 3 ∨ g0.toInt ≤ 399) → jiv h 68 3 = g0 → jiv h 68 5 = g1 → jJ jSgX Dy h → jSm fp_X2_readSum_r95_c5d h0 h → K4 l2.toInt l3.toInt (vw h) = dr → jX m_X2_readSum 12 0 0 4 [(0, .ref 95), (1, .int 5), (2, .int l2), (3, .int l3)] [] h 0 0 Q) : ∀ r : Nat, ∀ (l2 : Int32) (l3 : Int32) (l4 : Int32) (l5 : Int32) (g0 : Int32) (g1 : Int32) (h : jH), 400 - l5.toInt < (r : Int) → (-1) ≤ l2.toInt ∧ l2.toInt ≤ 4 → 0 ≤ l3.toInt ∧ l3.toInt ≤ 399 → (-1) ≤ l4.toInt ∧ l4.toInt ≤ 6 → 0 ≤ l5.toInt ∧ l5.toInt ≤ 400 → 0 ≤ g0.toInt ∧ g0.toInt ≤ 400 → 0 ≤ g1.toInt ∧ g1.toInt ≤ 3 → (g1.toInt ≠ 3 ∨ g0.toInt ≤ 399) → jiv h 68 3 = g0 → jiv h 68 5 = g1 → 400 - l3.toInt ≤ R4 → jJ jSgX Dy h → jSm fp_X2_readSum_r95_c5d h0 h → d_X2_readSum_r95_c5d_17 K4 r l2.toInt l3.toInt l4.toInt l5.toInt (vw h) = dr → jX m_X2_readSum 12 0 0 17 [(0, .ref 95), (1, .int 5), (2, .int l2), (3, .int l3), (4, .int l4), (5, .int l5)] [] h 0 0 Q := by
  intro r
  induction r with
  | zero =>
    intro l2 l3 l4 l5 g0 g1 h hm y0 y1 y2 y3 y4 y5 y6 z0 z1 m4 J Sm D
    exfalso
    omega
  | succ r ih =>
    intro l2 l3 l4 l5 g0 g1 h hm y0 y1 y2 y3 y4 y5 y6 z0 z1 m4 J Sm D
    rw [d_X2_readSum_r95_c5d_17.eq_2] at D
    try rw [vrf z0] at D
    try rw [vrf z1] at D
    refine x_iload (x := l5) rfl rfl ?_
    refine x_sipush (v := 400) rfl ks_400 ?_
    refine x_icge (tgt := 105) rfl rfl (ti_ge rfl jk_400 ⟨fun c1 => ?_, fun c1 => ?_⟩)
    ·
      rw [if_pos (by omega)] at D
      exact jX.sub (jsb_c rfl (jsb_c rfl (jsb_c rfl (jsb_c rfl jsb_n)))) (ct_X2_readSum_r95_c5d_105 hD hQ k4 l2 l3 g0 g1 h (jr_of rfl (by omega)) (jr_of rfl (by omega)) (jr_of rfl (by omega)) (jr_of rfl (by omega)) (by omega) z0 z1 (by omega) J Sm D)
    ·
      rw [if_neg (by omega)] at D
      refine x_aloadn (x := 95) rfl rfl ?_
      refine x_iloadn (x := 5) rfl rfl ?_
      refine x_inv (N := m_X2_readFactor) (As := [.int 5]) (b := 95) (st := []) (dx9 := 11) (mc := 0) (ms := 0) (host := "") 2 rfl t_X2_readFactor ⟨Or.inl q_2_144, i_X2_readFactor.1, i_X2_readFactor.2⟩ ⟨by decide, rfl⟩ (congrArg Prod.fst (J.1.1 95 (2, 6) rfl)) rfl (by decide) rfl rfl ⟨by decide, by decide⟩ (sf_X2_readFactor_r95_c5d  hD J z1 z0 (by omega) rfl  (fun v7 h ev7 J S2 u3 u4 qu3 qu4 ru3 X5 X6 => ?_))
      have Sm := jSm_tr rfl Sm S2
      try rw [X5] at D
      try rw [X6] at D
      have eu3 := (show 0 ≤ u3.toInt ∧ u3.toInt ≤ 3 from qu3 ▸ jrg_f J sg_68_5_6_1_0_1)
      try rw [vrf qu3] at D
      have eu4 := (show 0 ≤ u4.toInt ∧ u4.toInt ≤ 400 from qu4 ▸ jrg_f J sg_68_3_4_1_0_1)
      try rw [vrf qu4] at D
      show jX m_X2_readSum 12 0 0 30 [(0, .ref 95), (1, .int 5), (2, .int l2), (3, .int l3), (4, .int l4), (5, .int l5)] [.int v7] _ 0 0 _
      refine x_ifne (tgt := 35) rfl rfl (ti_ne rfl jk_0 ⟨fun c8 => ?_, fun c8 => ?_⟩)
      ·
        rw [if_neg (by omega)] at D
        refine x_iload (x := l4) rfl rfl ?_
        refine x_iconst (v := (-1)) rfl ki_m1 ?_
        refine x_iceq (tgt := 47) rfl rfl (ti_eq rfl jk_m1 ⟨fun c9 => ?_, fun c9 => ?_⟩)
        ·
          rw [if_pos (by omega)] at D
          exact jX.sub (jsb_c rfl (jsb_c rfl (jsb_c rfl (jsb_c rfl (jsb_c rfl jsb_n))))) (ct_X2_readSum_r95_c5d_47 hD hQ k4 ih l2 l3 l5 u4 u3 h (jr_of rfl (by omega)) (jr_of rfl (by omega)) (jr_of rfl (by omega)) (jr_of rfl (by omega)) (jr_of rfl (by omega)) (by omega) qu4 qu3 (by omega) (by omega) J Sm D)
        ·
          rw [if_neg (by omega)] at D
          refine x_aloadn (x := 95) rfl rfl ?_
          refine x_iload (x := l4) rfl rfl ?_
          refine x_inv (N := m_X2_emit) (As := [.int l4]) (b := 95) (st := []) (dx9 := 1) (mc := 0) (ms := 0) (host := "") 2 rfl t_X2_emit ⟨Or.inl q_2_89, i_X2_emit.1, i_X2_emit.2⟩ ⟨by decide, rfl⟩ (congrArg Prod.fst (J.1.1 95 (2, 6) rfl)) rfl (by decide) rfl rfl ⟨by decide, by decide⟩ (sf_X2_emit_r95d  hD J rfl  (fun h J S10 X11 => ?_))
          have Sm := jSm_tr rfl Sm S10
          rw [X11] at D
          show jX m_X2_readSum 12 0 0 47 [(0, .ref 95), (1, .int 5), (2, .int l2), (3, .int l3), (4, .int l4), (5, .int l5)] [] _ 0 0 _
          exact jX.sub (jsb_c rfl (jsb_c rfl (jsb_c rfl (jsb_c rfl (jsb_c rfl jsb_n))))) (ct_X2_readSum_r95_c5d_47 hD hQ k4 ih l2 l3 l5 u4 u3 h (jr_of rfl (by omega)) (jr_of rfl (by omega)) (jr_of rfl (by omega)) (jr_of rfl (by omega)) (jr_of rfl (by omega)) (by omega) (jmc S10 rfl qu4) (jmc S10 rfl qu3) (by omega) (by omega) J Sm D)
      ·
        rw [if_pos (by omega)] at D
        refine x_iconst (v := 0) rfl ki_0 ?_
        refine x_zret rfl rfl (by decide) ?_
        exact hQ _ _ (jr_of jk_0 (by omega)) J Sm _ _ qu3 qu4 (by omega) ((congrArg Prod.fst D).symm.trans (show 0 = (0 : Int32).toInt from by have := jk_0; omega)) (congrArg Prod.snd D).symm
set_option maxRecDepth 100000 in
set_option maxHeartbeats 4000000 in
theorem ct_X2_readSum_r95_c5d_4 {Dy : jH → Prop} {h0 : jH} {Q : Option Value → jH → Prop} {dr : (Int × jW)} (hD : jDk Dy) (hQ : ∀ (v : Int32) hx9, 0 ≤ v.toInt ∧ v.toInt ≤ 1 → jJ jSgX Dy hx9 → jSm fp_X2_readSum_r95_c5d h0 hx9 → ∀ u0 u1 : Int32, jiv hx9 68 5 = u0 → jiv hx9 68 3 = u1 → (u0.toInt ≠ 3 ∨ u1.toInt ≤ 399) → dr.1 = v.toInt → dr.2 = vw hx9 → Q (some (.int v)) hx9) : ∀ r : Nat, ∀ (l2 : Int32) (l3 : Int32) (g0 : Int32) (g1 : Int32) (h : jH), 400 - l3.toInt < (r : Int) → (-1) ≤ l2.toInt ∧ l2.toInt ≤ 4 → 0 ≤ l3.toInt ∧ l3.toInt ≤ 400 → 0 ≤ g0.toInt ∧ g0.toInt ≤ 400 → 0 ≤ g1.toInt ∧ g1.toInt ≤ 3 → (g1.toInt ≠ 3 ∨ g0.toInt ≤ 399) → jiv h 68 3 = g0 → jiv h 68 5 = g1 → jJ jSgX Dy h → jSm fp_X2_readSum_r95_c5d h0 h → d_X2_readSum_r95_c5d_4 r l2.toInt l3.toInt (vw h) = dr → jX m_X2_readSum 12 0 0 4 [(0, .ref 95), (1, .int 5), (2, .int l2), (3, .int l3)] [] h 0 0 Q := by
  intro r
  induction r with
  | zero =>
    intro l2 l3 g0 g1 h hm y0 y1 y2 y3 y4 z0 z1  J Sm D
    exfalso
    omega
  | succ r ih =>
    intro l2 l3 g0 g1 h hm y0 y1 y2 y3 y4 z0 z1  J Sm D
    rw [d_X2_readSum_r95_c5d_4.eq_2] at D
    try rw [vrf z0] at D
    try rw [vrf z1] at D
    refine x_iloadn (x := l3) rfl rfl ?_
    refine x_sipush (v := 400) rfl ks_400 ?_
    refine x_icge (tgt := 169) rfl rfl (ti_ge rfl jk_400 ⟨fun c1 => ?_, fun c1 => ?_⟩)
    ·
      rw [if_pos (by omega)] at D
      refine x_aloadn (x := 95) rfl rfl ?_
      refine z_getR (N := 6) (b := 68) 2 0 rfl f_2_30 rfl J rfl 12160 ⟨rfl, rfl⟩ rfl ?_
      refine x_inv (N := m_X9_blame) (As := []) (b := 68) (st := []) (dx9 := 11) (mc := 0) (ms := 0) (host := "") 9 rfl t_X9_blame ⟨Or.inl q_2_59, i_X9_blame.1, i_X9_blame.2⟩ ⟨by decide, rfl⟩ (congrArg Prod.fst (J.1.1 68 (9, 6) rfl)) rfl (by decide) rfl rfl ⟨by decide, by decide⟩ (jC.of rfl k_X9_blame rfl ?_)
      show jX m_X9_blame 11 0 0 0 [(0, .ref 68)] [] _ 0 0 _
      refine x_aloadn (x := 68) rfl rfl ?_
      refine x_aloadn (x := 68) rfl rfl ?_
      refine z_getM (N := 6) (v := g0) 9 3 rfl f_9_22 rfl J rfl z0 ?_
      refine z_putI (N := 6) (w := g0.toInt) 9 2 rfl f_9_19 rfl (jfin_no TX9 RX9 6 rfl rfl) hD J Sm rfl rfl rfl (pw_68_2 (by omega)) rfl (fun h w2 J Sm => ?_)
      rw [vwf w2 (show g0.toInt = g0.toInt from by omega)] at D
      refine x_iconst (v := 0) rfl ki_0 ?_
      refine x_zret rfl rfl (by decide) ?_
      show jX m_X2_readSum 12 0 0 176 [(0, .ref 95), (1, .int 5), (2, .int l2), (3, .int l3)] [.int 0] _ 0 0 _
      refine x_zret rfl rfl (by decide) ?_
      exact hQ _ _ (jr_of jk_0 (by omega)) J Sm _ _ (jmo w2 rfl z1) (jmo w2 rfl z0) (by omega) ((congrArg Prod.fst D).symm.trans (show 0 = (0 : Int32).toInt from by have := jk_0; omega)) (congrArg Prod.snd D).symm
    ·
      rw [if_neg (by omega)] at D
      refine x_iconst (v := (-1)) rfl ki_m1 ?_
      refine x_istore (lsx9 := [(4, .int (-1)), (0, .ref 95), (1, .int 5), (2, .int l2), (3, .int l3)]) rfl rfl rfl ?_
      refine x_iconst (v := 0) rfl ki_0 ?_
      refine x_istore (lsx9 := [(5, .int 0), (4, .int (-1)), (0, .ref 95), (1, .int 5), (2, .int l2), (3, .int l3)]) rfl rfl rfl ?_
      exact jX.sub (jsb_c rfl (jsb_c rfl (jsb_c rfl (jsb_c rfl (jsb_c rfl (jsb_c rfl jsb_n)))))) (ct_X2_readSum_r95_c5d_17 hD hQ ih 401 l2 l3 (-1) 0 g0 g1 h (by have := jk_0; omega) (jr_of rfl (by omega)) (jr_of rfl (by omega)) (jr_of jk_m1 (by omega)) (jr_of jk_0 (by omega)) (jr_of rfl (by omega)) (jr_of rfl (by omega)) (by omega) z0 z1 (by omega) J Sm (by rw [jk_m1, jk_0]; exact D))
set_option maxRecDepth 100000 in
set_option maxHeartbeats 4000000 in
theorem sf_X2_readSum_r95_c5d {Dy : jH → Prop} {h : jH} {Q : Option Value → jH → Prop} {dr : (Int × jW)} (hD : jDk Dy) (J : jJ jSgX Dy h) {p0 p1 : Int32} (zp0 : jiv h 68 5 = p0) (zp1 : jiv h 68 3 = p1) (rl_p0 : (p0.toInt ≠ 3 ∨ p1.toInt ≤ 399)) (D : d_X2_readSum_r95_c5d (vw h) = dr) (hQ : ∀ (v : Int32) hx9, 0 ≤ v.toInt ∧ v.toInt ≤ 1 → jJ jSgX Dy hx9 → jSm fp_X2_readSum_r95_c5d h hx9 → ∀ u0 u1 : Int32, jiv hx9 68 5 = u0 → jiv hx9 68 3 = u1 → (u0.toInt ≠ 3 ∨ u1.toInt ≤ 399) → dr.1 = v.toInt → dr.2 = vw hx9 → Q (some (.int v)) hx9) : jC m_X2_readSum 12 0 0 [.ref 95, .int 5] h Q := by
  refine jC.of rfl k_X2_readSum rfl ?_
  have Sm := jSm_rf fp_X2_readSum_r95_c5d h
  have ep0 := (show 0 ≤ p0.toInt ∧ p0.toInt ≤ 3 from zp0 ▸ jrg_f J sg_68_5_6_1_0_1)
  have ep1 := (show 0 ≤ p1.toInt ∧ p1.toInt ≤ 400 from zp1 ▸ jrg_f J sg_68_3_4_1_0_1)
  show jX m_X2_readSum 12 0 0 0 [(0, .ref 95), (1, .int 5)] [] _ 0 0 _
  unfold d_X2_readSum_r95_c5d at D
  try rw [vrf zp0] at D
  try rw [vrf zp1] at D
  refine x_iconst (v := (-1)) rfl ki_m1 ?_
  refine x_istoren (lsx9 := [(2, .int (-1)), (0, .ref 95), (1, .int 5)]) rfl rfl rfl ?_
  refine x_iconst (v := 0) rfl ki_0 ?_
  refine x_istoren (lsx9 := [(3, .int 0), (2, .int (-1)), (0, .ref 95), (1, .int 5)]) rfl rfl rfl ?_
  exact jX.sub (jsb_c rfl (jsb_c rfl (jsb_c rfl (jsb_c rfl jsb_n)))) (ct_X2_readSum_r95_c5d_4 hD hQ  401 (-1) 0 p1 p0 h (by have := jk_0; omega) (jr_of jk_m1 (by omega)) (jr_of jk_0 (by omega)) (jr_of rfl (by omega)) (jr_of rfl (by omega)) (by omega) zp1 zp0 J Sm (by rw [jk_m1, jk_0]; exact D))
def fp_X2_readFactor_r95_c4d : jFp := [(68, 2, 3), (68, 3, 4), (68, 4, 5), (68, 5, 6), (95, 4, 5), (95, 5, 6), (97, 0, 1200)]
set_option maxRecDepth 100000 in
set_option maxHeartbeats 4000000 in
theorem ct_X2_readFactor_r95_c4d_111 {Dy : jH → Prop} {h0 : jH} {Q : Option Value → jH → Prop} {dr : (Int × jW)} (hD : jDk Dy) (hQ : ∀ (v : Int32) hx9, 0 ≤ v.toInt ∧ v.toInt ≤ 1 → jJ jSgX Dy hx9 → jSm fp_X2_readFactor_r95_c4d h0 hx9 → ∀ u0 u1 : Int32, jiv hx9 68 5 = u0 → jiv hx9 68 3 = u1 → (u0.toInt ≠ 3 ∨ u1.toInt ≤ 399) → dr.1 = v.toInt → dr.2 = vw hx9 → Q (some (.int v)) hx9) : ∀ (s0 : Int32) (g0 : Int32) (g1 : Int32) (h : jH), 0 ≤ s0.toInt ∧ s0.toInt ≤ 1 → 0 ≤ g0.toInt ∧ g0.toInt ≤ 400 → 0 ≤ g1.toInt ∧ g1.toInt ≤ 3 → (g1.toInt ≠ 3 ∨ g0.toInt ≤ 399) → jiv h 68 3 = g0 → jiv h 68 5 = g1 → jJ jSgX Dy h → jSm fp_X2_readFactor_r95_c4d h0 h → d_X2_readFactor_r95_c4d_111  s0.toInt (vw h) = dr → jX m_X2_readFactor 13 0 0 111 [] [.int s0] h 0 0 Q := by
  intro s0 g0 g1 h y0 y1 y2 y3 z0 z1  J Sm D
  unfold d_X2_readFactor_r95_c4d_111 at D
  try rw [vrf z0] at D
  try rw [vrf z1] at D
  refine x_zret rfl rfl (jz01 (by omega)) ?_
  exact hQ _ _ (jr_of rfl (by omega)) J Sm _ _ z1 z0 (by omega) ((congrArg Prod.fst D).symm.trans (show s0.toInt = s0.toInt from by omega)) (congrArg Prod.snd D).symm
set_option maxRecDepth 100000 in
set_option maxHeartbeats 4000000 in
theorem ct_X2_readFactor_r95_c4d_200111 {Dy : jH → Prop} {h0 : jH} {Q : Option Value → jH → Prop} {dr : (Int × jW)} (hD : jDk Dy) (hQ : ∀ (v : Int32) hx9, 0 ≤ v.toInt ∧ v.toInt ≤ 1 → jJ jSgX Dy hx9 → jSm fp_X2_readFactor_r95_c4d h0 hx9 → ∀ u0 u1 : Int32, jiv hx9 68 5 = u0 → jiv hx9 68 3 = u1 → (u0.toInt ≠ 3 ∨ u1.toInt ≤ 399) → dr.1 = v.toInt → dr.2 = vw hx9 → Q (some (.int v)) hx9) : ∀ (g0 : Int32) (g1 : Int32) (h : jH), 0 ≤ g0.toInt ∧ g0.toInt ≤ 400 → 0 ≤ g1.toInt ∧ g1.toInt ≤ 3 → (g1.toInt ≠ 3 ∨ g0.toInt ≤ 399) → jiv h 68 3 = g0 → jiv h 68 5 = g1 → jJ jSgX Dy h → jSm fp_X2_readFactor_r95_c4d h0 h → d_X2_readFactor_r95_c4d_200111  (vw h) = dr → jX m_X2_readFactor 13 0 0 111 [] [.int 0] h 0 0 Q := by
  intro g0 g1 h y0 y1 y2 z0 z1  J Sm D
  unfold d_X2_readFactor_r95_c4d_200111 at D
  try rw [vrf z0] at D
  try rw [vrf z1] at D
  refine x_zret rfl rfl (by decide) ?_
  exact hQ _ _ (jr_of jk_0 (by omega)) J Sm _ _ z1 z0 (by omega) ((congrArg Prod.fst D).symm.trans (show 0 = (0 : Int32).toInt from by have := jk_0; omega)) (congrArg Prod.snd D).symm
set_option maxRecDepth 100000 in
set_option maxHeartbeats 4000000 in
theorem ct_X2_readFactor_r95_c4d_300057 {Dy : jH → Prop} {h0 : jH} {Q : Option Value → jH → Prop} {dr : (Int × jW)} (hD : jDk Dy) (hQ : ∀ (v : Int32) hx9, 0 ≤ v.toInt ∧ v.toInt ≤ 1 → jJ jSgX Dy hx9 → jSm fp_X2_readFactor_r95_c4d h0 hx9 → ∀ u0 u1 : Int32, jiv hx9 68 5 = u0 → jiv hx9 68 3 = u1 → (u0.toInt ≠ 3 ∨ u1.toInt ≤ 399) → dr.1 = v.toInt → dr.2 = vw hx9 → Q (some (.int v)) hx9) : ∀ (g0 : Int32) (g1 : Int32) (h : jH), 0 ≤ g0.toInt ∧ g0.toInt ≤ 400 → 0 ≤ g1.toInt ∧ g1.toInt ≤ 3 → (g1.toInt ≠ 3 ∨ g0.toInt ≤ 399) → jiv h 68 3 = g0 → jiv h 68 5 = g1 → jJ jSgX Dy h → jSm fp_X2_readFactor_r95_c4d h0 h → d_X2_readFactor_r95_c4d_300057  (vw h) = dr → jX m_X2_readFactor 13 0 0 57 [] [.int 1] h 0 0 Q := by
  intro g0 g1 h y0 y1 y2 z0 z1  J Sm D
  unfold d_X2_readFactor_r95_c4d_300057 at D
  try rw [vrf z0] at D
  try rw [vrf z1] at D
  refine x_zret rfl rfl (by decide) ?_
  exact hQ _ _ (jr_of jk_1 (by omega)) J Sm _ _ z1 z0 (by omega) ((congrArg Prod.fst D).symm.trans (show 1 = (1 : Int32).toInt from by have := jk_1; omega)) (congrArg Prod.snd D).symm
set_option maxRecDepth 100000 in
set_option maxHeartbeats 4000000 in
theorem ct_X2_readFactor_r95_c4d_200057 {Dy : jH → Prop} {h0 : jH} {Q : Option Value → jH → Prop} {dr : (Int × jW)} (hD : jDk Dy) (hQ : ∀ (v : Int32) hx9, 0 ≤ v.toInt ∧ v.toInt ≤ 1 → jJ jSgX Dy hx9 → jSm fp_X2_readFactor_r95_c4d h0 hx9 → ∀ u0 u1 : Int32, jiv hx9 68 5 = u0 → jiv hx9 68 3 = u1 → (u0.toInt ≠ 3 ∨ u1.toInt ≤ 399) → dr.1 = v.toInt → dr.2 = vw hx9 → Q (some (.int v)) hx9) : ∀ (g0 : Int32) (g1 : Int32) (h : jH), 0 ≤ g0.toInt ∧ g0.toInt ≤ 400 → 0 ≤ g1.toInt ∧ g1.toInt ≤ 3 → (g1.toInt ≠ 3 ∨ g0.toInt ≤ 399) → jiv h 68 3 = g0 → jiv h 68 5 = g1 → jJ jSgX Dy h → jSm fp_X2_readFactor_r95_c4d h0 h → d_X2_readFactor_r95_c4d_200057  (vw h) = dr → jX m_X2_readFactor 13 0 0 57 [] [.int 0] h 0 0 Q := by
  intro g0 g1 h y0 y1 y2 z0 z1  J Sm D
  unfold d_X2_readFactor_r95_c4d_200057 at D
  try rw [vrf z0] at D
  try rw [vrf z1] at D
  refine x_zret rfl rfl (by decide) ?_
  exact hQ _ _ (jr_of jk_0 (by omega)) J Sm _ _ z1 z0 (by omega) ((congrArg Prod.fst D).symm.trans (show 0 = (0 : Int32).toInt from by have := jk_0; omega)) (congrArg Prod.snd D).symm
set_option maxRecDepth 100000 in
set_option maxHeartbeats 4000000 in
theorem ct_X2_readFactor_r95_c4d_56 {Dy : jH → Prop} {h0 : jH} {Q : Option Value → jH → Prop} {dr : (Int × jW)} (hD : jDk Dy) (hQ : ∀ (v : Int32) hx9, 0 ≤ v.toInt ∧ v.toInt ≤ 1 → jJ jSgX Dy hx9 → jSm fp_X2_readFactor_r95_c4d h0 hx9 → ∀ u0 u1 : Int32, jiv hx9 68 5 = u0 → jiv hx9 68 3 = u1 → (u0.toInt ≠ 3 ∨ u1.toInt ≤ 399) → dr.1 = v.toInt → dr.2 = vw hx9 → Q (some (.int v)) hx9) : ∀ (g0 : Int32) (g1 : Int32) (h : jH), 0 ≤ g0.toInt ∧ g0.toInt ≤ 400 → 0 ≤ g1.toInt ∧ g1.toInt ≤ 3 → (g1.toInt ≠ 3 ∨ g0.toInt ≤ 399) → jiv h 68 3 = g0 → jiv h 68 5 = g1 → jJ jSgX Dy h → jSm fp_X2_readFactor_r95_c4d h0 h → d_X2_readFactor_r95_c4d_56  (vw h) = dr → jX m_X2_readFactor 13 0 0 56 [] [] h 0 0 Q := by
  intro g0 g1 h y0 y1 y2 z0 z1  J Sm D
  unfold d_X2_readFactor_r95_c4d_56 at D
  try rw [vrf z0] at D
  try rw [vrf z1] at D
  refine x_iconst (v := 0) rfl ki_0 ?_
  exact jX.sub jsb_n (ct_X2_readFactor_r95_c4d_200057 hD hQ  g0 g1 h (jr_of rfl (by omega)) (jr_of rfl (by omega)) (by omega) z0 z1 J Sm D)
set_option maxRecDepth 100000 in
set_option maxHeartbeats 4000000 in
theorem sf_X2_readFactor_r95_c4d {Dy : jH → Prop} {h : jH} {Q : Option Value → jH → Prop} {dr : (Int × jW)} (hD : jDk Dy) (J : jJ jSgX Dy h) {p0 p1 : Int32} (zp0 : jiv h 68 5 = p0) (zp1 : jiv h 68 3 = p1) (rl_p0 : (p0.toInt ≠ 3 ∨ p1.toInt ≤ 399)) (D : d_X2_readFactor_r95_c4d (vw h) = dr) (hQ : ∀ (v : Int32) hx9, 0 ≤ v.toInt ∧ v.toInt ≤ 1 → jJ jSgX Dy hx9 → jSm fp_X2_readFactor_r95_c4d h hx9 → ∀ u0 u1 : Int32, jiv hx9 68 5 = u0 → jiv hx9 68 3 = u1 → (u0.toInt ≠ 3 ∨ u1.toInt ≤ 399) → dr.1 = v.toInt → dr.2 = vw hx9 → Q (some (.int v)) hx9) : jC m_X2_readFactor 13 0 0 [.ref 95, .int 4] h Q := by
  refine jC.of rfl k_X2_readFactor rfl ?_
  have Sm := jSm_rf fp_X2_readFactor_r95_c4d h
  have ep0 := (show 0 ≤ p0.toInt ∧ p0.toInt ≤ 3 from zp0 ▸ jrg_f J sg_68_5_6_1_0_1)
  have ep1 := (show 0 ≤ p1.toInt ∧ p1.toInt ≤ 400 from zp1 ▸ jrg_f J sg_68_3_4_1_0_1)
  show jX m_X2_readFactor 13 0 0 0 [(0, .ref 95), (1, .int 4)] [] _ 0 0 _
  unfold d_X2_readFactor_r95_c4d at D
  try rw [vrf zp0] at D
  try rw [vrf zp1] at D
  refine x_aloadn (x := 95) rfl rfl ?_
  refine z_getR (N := 6) (b := 68) 2 0 rfl f_2_30 rfl J rfl 12160 ⟨rfl, rfl⟩ rfl ?_
  refine x_bipush (v := 91) rfl kb_91 ?_
  refine x_inv (N := m_X9_isSign) (As := [.int 91]) (b := 68) (st := []) (dx9 := 1) (mc := 0) (ms := 0) (host := "") 9 rfl t_X9_isSign ⟨Or.inl q_2_55, i_X9_isSign.1, i_X9_isSign.2⟩ ⟨by decide, rfl⟩ (congrArg Prod.fst (J.1.1 68 (9, 6) rfl)) rfl (by decide) rfl rfl ⟨by decide, by decide⟩ (sf_X9_isSign_r68d (jr_of jk_91 (by omega)) hD J zp0 zp1 (by omega) rfl  (fun v6 h ev6 J S1 u2 u3 qu2 qu3 ru2 X4 X5 => ?_))
  have Sm := jSm_tr rfl Sm S1
  try rw [jk_91] at X4
  try rw [X4] at D
  try rw [← X5] at D
  have eu2 := (show 0 ≤ u2.toInt ∧ u2.toInt ≤ 3 from qu2 ▸ jrg_f J sg_68_5_6_1_0_1)
  have Luu2 := congrArg Int32.toInt (((jmc S1 rfl zp0)).symm.trans qu2)
  try rw [Luu2] at D
  try rw [vrf qu2] at D
  have eu3 := (show 0 ≤ u3.toInt ∧ u3.toInt ≤ 400 from qu3 ▸ jrg_f J sg_68_3_4_1_0_1)
  have Luu3 := congrArg Int32.toInt (((jmc S1 rfl zp1)).symm.trans qu3)
  try rw [Luu3] at D
  try rw [vrf qu3] at D
  show jX m_X2_readFactor 13 0 0 9 [(0, .ref 95), (1, .int 4)] [.int v6] _ 0 0 _
  refine x_ifeq (tgt := 58) rfl rfl (ti_eq rfl jk_0 ⟨fun c7 => ?_, fun c7 => ?_⟩)
  ·
    rw [if_pos (by omega)] at D
    refine x_aloadn (x := 95) rfl rfl ?_
    refine z_getR (N := 6) (b := 68) 2 0 rfl f_2_30 rfl J rfl 12160 ⟨rfl, rfl⟩ rfl ?_
    refine x_ldc (v := 100000) rfl z_2_147 ?_
    refine x_inv (N := m_X9_numberTo) (As := [.int 100000]) (b := 68) (st := []) (dx9 := 1) (mc := 0) (ms := 0) (host := "") 9 rfl t_X9_numberTo ⟨Or.inl q_2_117, i_X9_numberTo.1, i_X9_numberTo.2⟩ ⟨by decide, rfl⟩ (congrArg Prod.fst (J.1.1 68 (9, 6) rfl)) rfl (by decide) rfl rfl ⟨by decide, by decide⟩ (sf_X9_numberTo_r68d (jr_of jk_100000 (by omega)) hD J rfl  (fun v11 h ev11 J S8 X9 X10 => ?_))
    have Sm := jSm_tr rfl Sm S8
    try rw [jk_100000] at X9
    try rw [X9] at D
    try rw [← X10] at D
    show jX m_X2_readFactor 13 0 0 67 [(0, .ref 95), (1, .int 4)] [.int v11] _ 0 0 _
    refine x_istoren (lsx9 := [(2, .int v11), (0, .ref 95), (1, .int 4)]) rfl rfl rfl ?_
    refine x_iloadn (x := v11) rfl rfl ?_
    refine x_iconst (v := (-1)) rfl ki_m1 ?_
    refine x_iceq (tgt := 80) rfl rfl (ti_eq rfl jk_m1 ⟨fun c12 => ?_, fun c12 => ?_⟩)
    ·
      rw [if_pos (by omega)] at D
      refine x_aloadn (x := 95) rfl rfl ?_
      refine z_getR (N := 6) (b := 68) 2 0 rfl f_2_30 rfl J rfl 12160 ⟨rfl, rfl⟩ rfl ?_
      refine x_ldcS (jstr.getD 6 jstr_0) rfl (List.mem_of_getElem? (i := 6) rfl) rfl rfl ?_
      show jX m_X2_readFactor 13 0 0 86 [(2, .int v11), (0, .ref 95), (1, .int 4)] [.ref 11, .ref 68] _ 0 0 _
      refine x_inv (N := m_X9_wordOf) (As := [.ref 11]) (b := 68) (st := []) (dx9 := 4) (mc := 0) (ms := 0) (host := "") 9 rfl t_X9_wordOf ⟨Or.inl q_2_67, i_X9_wordOf.1, i_X9_wordOf.2⟩ ⟨by decide, rfl⟩ (congrArg Prod.fst (J.1.1 68 (9, 6) rfl)) rfl (by decide) rfl rfl ⟨by decide, by decide⟩ (sf_X9_wordOf_r68_r11d  hD J rfl  (fun v16 h J S13 X14 X15 => ?_))
      have ev16 := jfull v16
      have Sm := jSm_tr rfl Sm S13
      try rw [X14] at D
      try rw [← X15] at D
      show jX m_X2_readFactor 13 0 0 89 [(2, .int v11), (0, .ref 95), (1, .int 4)] [.int v16] _ 0 0 _
      refine x_istoren (lsx9 := [(3, .int v16), (2, .int v11), (0, .ref 95), (1, .int 4)]) rfl rfl rfl ?_
      refine x_iloadn (x := v16) rfl rfl ?_
      refine x_iconst (v := (-1)) rfl ki_m1 ?_
      refine x_icne (tgt := 105) rfl rfl (ti_ne rfl jk_m1 ⟨fun c17 => ?_, fun c17 => ?_⟩)
      ·
        rw [if_neg (by omega)] at D
        refine x_aloadn (x := 95) rfl rfl ?_
        refine x_iconst (v := 2) rfl ki_2 ?_
        refine x_iloadn (x := v16) rfl rfl ?_
        refine x_inv (N := m_X2_readPart) (As := [.int 2, .int v16]) (b := 95) (st := []) (dx9 := 3) (mc := 0) (ms := 0) (host := "") 2 rfl t_X2_readPart ⟨Or.inl q_2_141, i_X2_readPart.1, i_X2_readPart.2⟩ ⟨by decide, rfl⟩ (congrArg Prod.fst (J.1.1 95 (2, 6) rfl)) rfl (by decide) rfl rfl ⟨by decide, by decide⟩ (sf_X2_readPart_r95d (jr_of jk_2 (by omega)) hD J (jmc S13 rfl (jmc S8 rfl qu2)) (jmc S13 rfl (jmc S8 rfl qu3)) (by omega) rfl  (fun v23 h ev23 J S18 u19 u20 qu19 qu20 ru19 X21 X22 => ?_))
        have Sm := jSm_tr rfl Sm S18
        try rw [jk_2] at X21
        try rw [jk_2] at X22
        try rw [X21] at D
        try rw [X22] at D
        have eu19 := (show 0 ≤ u19.toInt ∧ u19.toInt ≤ 3 from qu19 ▸ jrg_f J sg_68_5_6_1_0_1)
        try rw [vrf qu19] at D
        have eu20 := (show 0 ≤ u20.toInt ∧ u20.toInt ≤ 400 from qu20 ▸ jrg_f J sg_68_3_4_1_0_1)
        try rw [vrf qu20] at D
        show jX m_X2_readFactor 13 0 0 111 [(3, .int v16), (2, .int v11), (0, .ref 95), (1, .int 4)] [.int v23] _ 0 0 _
        exact jX.sub jsb_n (ct_X2_readFactor_r95_c4d_111 hD hQ  v23 u20 u19 h (jr_of rfl (by omega)) (jr_of rfl (by omega)) (jr_of rfl (by omega)) (by omega) qu20 qu19 J Sm D)
      ·
        rw [if_pos (by omega)] at D
        refine x_aloadn (x := 95) rfl rfl ?_
        refine z_getR (N := 6) (b := 68) 2 0 rfl f_2_30 rfl J rfl 12160 ⟨rfl, rfl⟩ rfl ?_
        refine x_inv (N := m_X9_blame) (As := []) (b := 68) (st := []) (dx9 := 12) (mc := 0) (ms := 0) (host := "") 9 rfl t_X9_blame ⟨Or.inl q_2_59, i_X9_blame.1, i_X9_blame.2⟩ ⟨by decide, rfl⟩ (congrArg Prod.fst (J.1.1 68 (9, 6) rfl)) rfl (by decide) rfl rfl ⟨by decide, by decide⟩ (jC.of rfl k_X9_blame rfl ?_)
        show jX m_X9_blame 12 0 0 0 [(0, .ref 68)] [] _ 0 0 _
        refine x_aloadn (x := 68) rfl rfl ?_
        refine x_aloadn (x := 68) rfl rfl ?_
        refine z_getM (N := 6) (v := u3) 9 3 rfl f_9_22 rfl J rfl (jmc S13 rfl (jmc S8 rfl qu3)) ?_
        refine z_putI (N := 6) (w := u3.toInt) 9 2 rfl f_9_19 rfl (jfin_no TX9 RX9 6 rfl rfl) hD J Sm rfl rfl rfl (pw_68_2 (by omega)) rfl (fun h w24 J Sm => ?_)
        rw [vwf w24 (show u3.toInt = u3.toInt from by omega)] at D
        refine x_iconst (v := 0) rfl ki_0 ?_
        refine x_zret rfl rfl (by decide) ?_
        show jX m_X2_readFactor 13 0 0 102 [(3, .int v16), (2, .int v11), (0, .ref 95), (1, .int 4)] [.int 0] _ 0 0 _
        refine x_goto (tgt := 111) rfl rfl ?_
        exact jX.sub jsb_n (ct_X2_readFactor_r95_c4d_200111 hD hQ  u3 u2 h (jr_of rfl (by omega)) (jr_of rfl (by omega)) (by omega) (jmo w24 rfl (jmc S13 rfl (jmc S8 rfl qu3))) (jmo w24 rfl (jmc S13 rfl (jmc S8 rfl qu2))) J Sm D)
    ·
      rw [if_neg (by omega)] at D
      refine x_aloadn (x := 95) rfl rfl ?_
      refine x_iconst (v := 1) rfl ki_1 ?_
      refine x_iloadn (x := v11) rfl rfl ?_
      refine x_inv (N := m_X2_readPart) (As := [.int 1, .int v11]) (b := 95) (st := []) (dx9 := 3) (mc := 0) (ms := 0) (host := "") 2 rfl t_X2_readPart ⟨Or.inl q_2_141, i_X2_readPart.1, i_X2_readPart.2⟩ ⟨by decide, rfl⟩ (congrArg Prod.fst (J.1.1 95 (2, 6) rfl)) rfl (by decide) rfl rfl ⟨by decide, by decide⟩ (sf_X2_readPart_r95d (jr_of jk_1 (by omega)) hD J (jmc S8 rfl qu2) (jmc S8 rfl qu3) (by omega) rfl  (fun v30 h ev30 J S25 u26 u27 qu26 qu27 ru26 X28 X29 => ?_))
      have Sm := jSm_tr rfl Sm S25
      try rw [jk_1] at X28
      try rw [jk_1] at X29
      try rw [X28] at D
      try rw [X29] at D
      have eu26 := (show 0 ≤ u26.toInt ∧ u26.toInt ≤ 3 from qu26 ▸ jrg_f J sg_68_5_6_1_0_1)
      try rw [vrf qu26] at D
      have eu27 := (show 0 ≤ u27.toInt ∧ u27.toInt ≤ 400 from qu27 ▸ jrg_f J sg_68_3_4_1_0_1)
      try rw [vrf qu27] at D
      show jX m_X2_readFactor 13 0 0 79 [(2, .int v11), (0, .ref 95), (1, .int 4)] [.int v30] _ 0 0 _
      refine x_zret rfl rfl (jz01 (by omega)) ?_
      exact hQ _ _ (jr_of rfl (by omega)) J Sm _ _ qu26 qu27 (by omega) ((congrArg Prod.fst D).symm.trans X28) ((congrArg Prod.snd D).symm.trans X29)
  ·
    rw [if_neg (by omega)] at D
    refine x_iloadn (x := 4) rfl rfl ?_
    refine x_bipush (v := 8) rfl kb_8 ?_
    refine x_iclt (tgt := 26) rfl rfl (ti_lt jk_4 jk_8 (br_t (by omega) ?_))
    refine x_aloadn (x := 95) rfl rfl ?_
    refine z_getR (N := 6) (b := 68) 2 0 rfl f_2_30 rfl J rfl 12160 ⟨rfl, rfl⟩ rfl ?_
    refine x_inv (N := m_X9_step) (As := []) (b := 68) (st := []) (dx9 := 2) (mc := 0) (ms := 0) (host := "") 9 rfl t_X9_step ⟨Or.inl q_2_62, i_X9_step.1, i_X9_step.2⟩ ⟨by decide, rfl⟩ (congrArg Prod.fst (J.1.1 68 (9, 6) rfl)) rfl (by decide) rfl rfl ⟨by decide, by decide⟩ (sf_X9_step_r68d  hD J qu2 qu3 (by omega) rfl  (fun h J S31 u32 u33 qu32 qu33 ru32 X34 => ?_))
    have Sm := jSm_tr rfl Sm S31
    rw [X34] at D
    have eu32 := (show 0 ≤ u32.toInt ∧ u32.toInt ≤ 3 from qu32 ▸ jrg_f J sg_68_5_6_1_0_1)
    try rw [vrf qu32] at D
    have eu33 := (show 0 ≤ u33.toInt ∧ u33.toInt ≤ 400 from qu33 ▸ jrg_f J sg_68_3_4_1_0_1)
    try rw [vrf qu33] at D
    show jX m_X2_readFactor 13 0 0 33 [(0, .ref 95), (1, .int 4)] [] _ 0 0 _
    refine x_aloadn (x := 95) rfl rfl ?_
    refine x_iloadn (x := 4) rfl rfl ?_
    refine x_iconst (v := 1) rfl ki_1 ?_
    refine y_iadd (v := 5) rfl (by decide) ?_
    refine x_inv (N := m_X2_readSum) (As := [.int 5]) (b := 95) (st := []) (dx9 := 12) (mc := 0) (ms := 0) (host := "") 2 rfl t_X2_readSum ⟨Or.inl q_2_86, i_X2_readSum.1, i_X2_readSum.2⟩ ⟨by decide, rfl⟩ (congrArg Prod.fst (J.1.1 95 (2, 6) rfl)) rfl (by decide) rfl rfl ⟨by decide, by decide⟩ (sf_X2_readSum_r95_c5d  hD J qu32 qu33 (by omega) rfl  (fun v40 h ev40 J S35 u36 u37 qu36 qu37 ru36 X38 X39 => ?_))
    have Sm := jSm_tr rfl Sm S35
    try rw [X38] at D
    try rw [X39] at D
    have eu36 := (show 0 ≤ u36.toInt ∧ u36.toInt ≤ 3 from qu36 ▸ jrg_f J sg_68_5_6_1_0_1)
    try rw [vrf qu36] at D
    have eu37 := (show 0 ≤ u37.toInt ∧ u37.toInt ≤ 400 from qu37 ▸ jrg_f J sg_68_3_4_1_0_1)
    try rw [vrf qu37] at D
    show jX m_X2_readFactor 13 0 0 40 [(0, .ref 95), (1, .int 4)] [.int v40] _ 0 0 _
    refine x_ifeq (tgt := 56) rfl rfl (ti_eq rfl jk_0 ⟨fun c41 => ?_, fun c41 => ?_⟩)
    ·
      rw [if_pos (by omega)] at D
      exact jX.sub jsb_n (ct_X2_readFactor_r95_c4d_56 hD hQ  u37 u36 h (jr_of rfl (by omega)) (jr_of rfl (by omega)) (by omega) qu37 qu36 J Sm D)
    ·
      rw [if_neg (by omega)] at D
      refine x_aloadn (x := 95) rfl rfl ?_
      refine x_bipush (v := 93) rfl kb_93 ?_
      refine x_inv (N := m_X2_readSign) (As := [.int 93]) (b := 95) (st := []) (dx9 := 12) (mc := 0) (ms := 0) (host := "") 2 rfl t_X2_readSign ⟨Or.inl q_2_138, i_X2_readSign.1, i_X2_readSign.2⟩ ⟨by decide, rfl⟩ (congrArg Prod.fst (J.1.1 95 (2, 6) rfl)) rfl (by decide) rfl rfl ⟨by decide, by decide⟩ (jC.of rfl k_X2_readSign rfl ?_)
      show jX m_X2_readSign 12 0 0 0 [(0, .ref 95), (1, .int 93)] [] _ 0 0 _
      refine x_aloadn (x := 95) rfl rfl ?_
      refine z_getR (N := 6) (b := 68) 2 0 rfl f_2_30 rfl J rfl 12160 ⟨rfl, rfl⟩ rfl ?_
      refine x_iloadn (x := 93) rfl rfl ?_
      refine x_inv (N := m_X9_isSign) (As := [.int 93]) (b := 68) (st := []) (dx9 := 1) (mc := 0) (ms := 0) (host := "") 9 rfl t_X9_isSign ⟨Or.inl q_2_55, i_X9_isSign.1, i_X9_isSign.2⟩ ⟨by decide, rfl⟩ (congrArg Prod.fst (J.1.1 68 (9, 6) rfl)) rfl (by decide) rfl rfl ⟨by decide, by decide⟩ (sf_X9_isSign_r68d (jr_of jk_93 (by omega)) hD J qu36 qu37 (by omega) rfl  (fun v47 h ev47 J S42 u43 u44 qu43 qu44 ru43 X45 X46 => ?_))
      have Sm := jSm_tr rfl Sm S42
      try rw [jk_93] at X45
      try rw [X45] at D
      try rw [← X46] at D
      have eu43 := (show 0 ≤ u43.toInt ∧ u43.toInt ≤ 3 from qu43 ▸ jrg_f J sg_68_5_6_1_0_1)
      have Luu43 := congrArg Int32.toInt (((jmc S42 rfl qu36)).symm.trans qu43)
      try rw [Luu43] at D
      try rw [vrf qu43] at D
      have eu44 := (show 0 ≤ u44.toInt ∧ u44.toInt ≤ 400 from qu44 ▸ jrg_f J sg_68_3_4_1_0_1)
      have Luu44 := congrArg Int32.toInt (((jmc S42 rfl qu37)).symm.trans qu44)
      try rw [Luu44] at D
      try rw [vrf qu44] at D
      show jX m_X2_readSign 12 0 0 8 [(0, .ref 95), (1, .int 93)] [.int v47] _ 0 0 _
      refine x_ifne (tgt := 19) rfl rfl (ti_ne rfl jk_0 ⟨fun c48 => ?_, fun c48 => ?_⟩)
      ·
        rw [if_neg (by omega)] at D
        refine x_aloadn (x := 95) rfl rfl ?_
        refine z_getR (N := 6) (b := 68) 2 0 rfl f_2_30 rfl J rfl 12160 ⟨rfl, rfl⟩ rfl ?_
        refine x_inv (N := m_X9_step) (As := []) (b := 68) (st := []) (dx9 := 2) (mc := 0) (ms := 0) (host := "") 9 rfl t_X9_step ⟨Or.inl q_2_62, i_X9_step.1, i_X9_step.2⟩ ⟨by decide, rfl⟩ (congrArg Prod.fst (J.1.1 68 (9, 6) rfl)) rfl (by decide) rfl rfl ⟨by decide, by decide⟩ (sf_X9_step_r68d  hD J qu43 qu44 (by omega) rfl  (fun h J S49 u50 u51 qu50 qu51 ru50 X52 => ?_))
        have Sm := jSm_tr rfl Sm S49
        rw [X52] at D
        have eu50 := (show 0 ≤ u50.toInt ∧ u50.toInt ≤ 3 from qu50 ▸ jrg_f J sg_68_5_6_1_0_1)
        try rw [vrf qu50] at D
        have eu51 := (show 0 ≤ u51.toInt ∧ u51.toInt ≤ 400 from qu51 ▸ jrg_f J sg_68_3_4_1_0_1)
        try rw [vrf qu51] at D
        show jX m_X2_readSign 12 0 0 26 [(0, .ref 95), (1, .int 93)] [] _ 0 0 _
        refine x_iconst (v := 1) rfl ki_1 ?_
        refine x_zret rfl rfl (by decide) ?_
        show jX m_X2_readFactor 13 0 0 49 [(0, .ref 95), (1, .int 4)] [.int 1] _ 0 0 _
        refine x_ifeq (tgt := 56) rfl rfl (ti_eq jk_1 jk_0 (br_f (by omega) ?_))
        refine x_iconst (v := 1) rfl ki_1 ?_
        refine x_goto (tgt := 57) rfl rfl ?_
        exact jX.sub jsb_n (ct_X2_readFactor_r95_c4d_300057 hD hQ  u51 u50 h (jr_of rfl (by omega)) (jr_of rfl (by omega)) (by omega) qu51 qu50 J Sm D)
      ·
        rw [if_pos (by omega)] at D
        refine x_aloadn (x := 95) rfl rfl ?_
        refine z_getR (N := 6) (b := 68) 2 0 rfl f_2_30 rfl J rfl 12160 ⟨rfl, rfl⟩ rfl ?_
        refine x_inv (N := m_X9_blame) (As := []) (b := 68) (st := []) (dx9 := 11) (mc := 0) (ms := 0) (host := "") 9 rfl t_X9_blame ⟨Or.inl q_2_59, i_X9_blame.1, i_X9_blame.2⟩ ⟨by decide, rfl⟩ (congrArg Prod.fst (J.1.1 68 (9, 6) rfl)) rfl (by decide) rfl rfl ⟨by decide, by decide⟩ (jC.of rfl k_X9_blame rfl ?_)
        show jX m_X9_blame 11 0 0 0 [(0, .ref 68)] [] _ 0 0 _
        refine x_aloadn (x := 68) rfl rfl ?_
        refine x_aloadn (x := 68) rfl rfl ?_
        refine z_getM (N := 6) (v := u44) 9 3 rfl f_9_22 rfl J rfl qu44 ?_
        refine z_putI (N := 6) (w := u44.toInt) 9 2 rfl f_9_19 rfl (jfin_no TX9 RX9 6 rfl rfl) hD J Sm rfl rfl rfl (pw_68_2 (by omega)) rfl (fun h w53 J Sm => ?_)
        rw [vwf w53 (show u44.toInt = u44.toInt from by omega)] at D
        refine x_iconst (v := 0) rfl ki_0 ?_
        refine x_zret rfl rfl (by decide) ?_
        show jX m_X2_readSign 12 0 0 18 [(0, .ref 95), (1, .int 93)] [.int 0] _ 0 0 _
        refine x_zret rfl rfl (by decide) ?_
        show jX m_X2_readFactor 13 0 0 49 [(0, .ref 95), (1, .int 4)] [.int 0] _ 0 0 _
        refine x_ifeq (tgt := 56) rfl rfl (ti_eq jk_0 jk_0 (br_t (by omega) ?_))
        exact jX.sub jsb_n (ct_X2_readFactor_r95_c4d_56 hD hQ  u44 u43 h (jr_of rfl (by omega)) (jr_of rfl (by omega)) (by omega) (jmo w53 rfl qu44) (jmo w53 rfl qu43) J Sm D)
def fp_X2_readSum_r95_c4d : jFp := [(68, 2, 3), (68, 3, 4), (68, 4, 5), (68, 5, 6), (95, 4, 5), (95, 5, 6), (97, 0, 1200)]
set_option maxRecDepth 100000 in
set_option maxHeartbeats 4000000 in
theorem ct_X2_readSum_r95_c4d_100148 {Dy : jH → Prop} {h0 : jH} {Q : Option Value → jH → Prop} {dr : (Int × jW)} {K4 : Int → Int → jW → (Int × jW)} {R4 : Int} (hD : jDk Dy) (hQ : ∀ (v : Int32) hx9, 0 ≤ v.toInt ∧ v.toInt ≤ 1 → jJ jSgX Dy hx9 → jSm fp_X2_readSum_r95_c4d h0 hx9 → ∀ u0 u1 : Int32, jiv hx9 68 5 = u0 → jiv hx9 68 3 = u1 → (u0.toInt ≠ 3 ∨ u1.toInt ≤ 399) → dr.1 = v.toInt → dr.2 = vw hx9 → Q (some (.int v)) hx9) (k4 : ∀ (l2 : Int32) (l3 : Int32) (g0 : Int32) (g1 : Int32) (h : jH), 400 - l3.toInt < R4 → (-1) ≤ l2.toInt ∧ l2.toInt ≤ 4 → 0 ≤ l3.toInt ∧ l3.toInt ≤ 400 → 0 ≤ g0.toInt ∧ g0.toInt ≤ 400 → 0 ≤ g1.toInt ∧ g1.toInt ≤ 3 → (g1.toInt ≠ 3 ∨ g0.toInt ≤ 399) → jiv h 68 3 = g0 → jiv h 68 5 = g1 → jJ jSgX Dy h → jSm fp_X2_readSum_r95_c4d h0 h → K4 l2.toInt l3.toInt (vw h) = dr → jX m_X2_readSum 14 0 0 4 [(0, .ref 95), (1, .int 4), (2, .int l2), (3, .int l3)] [] h 0 0 Q) : ∀ (l3 : Int32) (g0 : Int32) (g1 : Int32) (h : jH), 0 ≤ l3.toInt ∧ l3.toInt ≤ 399 → 0 ≤ g0.toInt ∧ g0.toInt ≤ 400 → 0 ≤ g1.toInt ∧ g1.toInt ≤ 3 → (g1.toInt ≠ 3 ∨ g0.toInt ≤ 399) → jiv h 68 3 = g0 → jiv h 68 5 = g1 → 400 - l3.toInt ≤ R4 → jJ jSgX Dy h → jSm fp_X2_readSum_r95_c4d h0 h → d_X2_readSum_r95_c4d_100148 K4  l3.toInt (vw h) = dr → jX m_X2_readSum 14 0 0 148 [(0, .ref 95), (1, .int 4), (3, .int l3)] [.int (-1)] h 0 0 Q := by
  intro l3 g0 g1 h y0 y1 y2 y3 z0 z1 m4 J Sm D
  unfold d_X2_readSum_r95_c4d_100148 at D
  try rw [vrf z0] at D
  try rw [vrf z1] at D
  refine x_istoren (lsx9 := [(2, .int (-1)), (0, .ref 95), (1, .int 4), (3, .int l3)]) rfl rfl rfl ?_
  refine x_iloadn (x := (-1)) rfl rfl ?_
  refine x_iconst (v := (-1)) rfl ki_m1 ?_
  refine x_icne (tgt := 156) rfl rfl (ti_ne jk_m1 jk_m1 (bn_f (by omega) ?_))
  refine x_iconst (v := 1) rfl ki_1 ?_
  refine x_zret rfl rfl (by decide) ?_
  exact hQ _ _ (jr_of jk_1 (by omega)) J Sm _ _ z1 z0 (by omega) ((congrArg Prod.fst D).symm.trans (show 1 = (1 : Int32).toInt from by have := jk_1; omega)) (congrArg Prod.snd D).symm
set_option maxRecDepth 100000 in
set_option maxHeartbeats 4000000 in
theorem ct_X2_readSum_r95_c4d_600148 {Dy : jH → Prop} {h0 : jH} {Q : Option Value → jH → Prop} {dr : (Int × jW)} {K4 : Int → Int → jW → (Int × jW)} {R4 : Int} (hD : jDk Dy) (hQ : ∀ (v : Int32) hx9, 0 ≤ v.toInt ∧ v.toInt ≤ 1 → jJ jSgX Dy hx9 → jSm fp_X2_readSum_r95_c4d h0 hx9 → ∀ u0 u1 : Int32, jiv hx9 68 5 = u0 → jiv hx9 68 3 = u1 → (u0.toInt ≠ 3 ∨ u1.toInt ≤ 399) → dr.1 = v.toInt → dr.2 = vw hx9 → Q (some (.int v)) hx9) (k4 : ∀ (l2 : Int32) (l3 : Int32) (g0 : Int32) (g1 : Int32) (h : jH), 400 - l3.toInt < R4 → (-1) ≤ l2.toInt ∧ l2.toInt ≤ 4 → 0 ≤ l3.toInt ∧ l3.toInt ≤ 400 → 0 ≤ g0.toInt ∧ g0.toInt ≤ 400 → 0 ≤ g1.toInt ∧ g1.toInt ≤ 3 → (g1.toInt ≠ 3 ∨ g0.toInt ≤ 399) → jiv h 68 3 = g0 → jiv h 68 5 = g1 → jJ jSgX Dy h → jSm fp_X2_readSum_r95_c4d h0 h → K4 l2.toInt l3.toInt (vw h) = dr → jX m_X2_readSum 14 0 0 4 [(0, .ref 95), (1, .int 4), (2, .int l2), (3, .int l3)] [] h 0 0 Q) : ∀ (l3 : Int32) (g0 : Int32) (g1 : Int32) (h : jH), 0 ≤ l3.toInt ∧ l3.toInt ≤ 399 → 0 ≤ g0.toInt ∧ g0.toInt ≤ 400 → 0 ≤ g1.toInt ∧ g1.toInt ≤ 3 → (g1.toInt ≠ 3 ∨ g0.toInt ≤ 399) → jiv h 68 3 = g0 → jiv h 68 5 = g1 → 400 - l3.toInt ≤ R4 → jJ jSgX Dy h → jSm fp_X2_readSum_r95_c4d h0 h → d_X2_readSum_r95_c4d_600148 K4  l3.toInt (vw h) = dr → jX m_X2_readSum 14 0 0 148 [(0, .ref 95), (1, .int 4), (3, .int l3)] [.int 4] h 0 0 Q := by
  intro l3 g0 g1 h y0 y1 y2 y3 z0 z1 m4 J Sm D
  unfold d_X2_readSum_r95_c4d_600148 at D
  try rw [vrf z0] at D
  try rw [vrf z1] at D
  refine x_istoren (lsx9 := [(2, .int 4), (0, .ref 95), (1, .int 4), (3, .int l3)]) rfl rfl rfl ?_
  refine x_iloadn (x := 4) rfl rfl ?_
  refine x_iconst (v := (-1)) rfl ki_m1 ?_
  refine x_icne (tgt := 156) rfl rfl (ti_ne jk_4 jk_m1 (bn_t (by omega) ?_))
  refine x_aloadn (x := 95) rfl rfl ?_
  refine z_getR (N := 6) (b := 68) 2 0 rfl f_2_30 rfl J rfl 12160 ⟨rfl, rfl⟩ rfl ?_
  refine x_inv (N := m_X9_step) (As := []) (b := 68) (st := []) (dx9 := 2) (mc := 0) (ms := 0) (host := "") 9 rfl t_X9_step ⟨Or.inl q_2_62, i_X9_step.1, i_X9_step.2⟩ ⟨by decide, rfl⟩ (congrArg Prod.fst (J.1.1 68 (9, 6) rfl)) rfl (by decide) rfl rfl ⟨by decide, by decide⟩ (sf_X9_step_r68d  hD J z1 z0 (by omega) rfl  (fun h J S1 u2 u3 qu2 qu3 ru2 X4 => ?_))
  have Sm := jSm_tr rfl Sm S1
  rw [X4] at D
  have eu2 := (show 0 ≤ u2.toInt ∧ u2.toInt ≤ 3 from qu2 ▸ jrg_f J sg_68_5_6_1_0_1)
  try rw [vrf qu2] at D
  have eu3 := (show 0 ≤ u3.toInt ∧ u3.toInt ≤ 400 from qu3 ▸ jrg_f J sg_68_3_4_1_0_1)
  try rw [vrf qu3] at D
  show jX m_X2_readSum 14 0 0 163 [(2, .int 4), (0, .ref 95), (1, .int 4), (3, .int l3)] [] _ 0 0 _
  refine z_iinc (x := l3) (lsx9 := fun v5 => [(3, .int v5), (2, .int 4), (0, .ref 95), (1, .int 4)]) rfl rfl rfl jko_1 (by omega) rfl (fun _ => rfl) (fun v5 ev5 => ?_)
  refine x_goto (tgt := 4) rfl rfl ?_
  try rw [show (l3.toInt + 1) = v5.toInt from by omega] at D
  exact jX.sub (jsb_c rfl (jsb_c rfl (jsb_c rfl (jsb_c rfl jsb_n)))) (k4 4 v5 u3 u2 h (by omega) (jr_of jk_4 (by omega)) (jr_of rfl (by omega)) (jr_of rfl (by omega)) (jr_of rfl (by omega)) (by omega) qu3 qu2 J Sm (by rw [jk_4]; exact D))
set_option maxRecDepth 100000 in
set_option maxHeartbeats 4000000 in
theorem ct_X2_readSum_r95_c4d_500148 {Dy : jH → Prop} {h0 : jH} {Q : Option Value → jH → Prop} {dr : (Int × jW)} {K4 : Int → Int → jW → (Int × jW)} {R4 : Int} (hD : jDk Dy) (hQ : ∀ (v : Int32) hx9, 0 ≤ v.toInt ∧ v.toInt ≤ 1 → jJ jSgX Dy hx9 → jSm fp_X2_readSum_r95_c4d h0 hx9 → ∀ u0 u1 : Int32, jiv hx9 68 5 = u0 → jiv hx9 68 3 = u1 → (u0.toInt ≠ 3 ∨ u1.toInt ≤ 399) → dr.1 = v.toInt → dr.2 = vw hx9 → Q (some (.int v)) hx9) (k4 : ∀ (l2 : Int32) (l3 : Int32) (g0 : Int32) (g1 : Int32) (h : jH), 400 - l3.toInt < R4 → (-1) ≤ l2.toInt ∧ l2.toInt ≤ 4 → 0 ≤ l3.toInt ∧ l3.toInt ≤ 400 → 0 ≤ g0.toInt ∧ g0.toInt ≤ 400 → 0 ≤ g1.toInt ∧ g1.toInt ≤ 3 → (g1.toInt ≠ 3 ∨ g0.toInt ≤ 399) → jiv h 68 3 = g0 → jiv h 68 5 = g1 → jJ jSgX Dy h → jSm fp_X2_readSum_r95_c4d h0 h → K4 l2.toInt l3.toInt (vw h) = dr → jX m_X2_readSum 14 0 0 4 [(0, .ref 95), (1, .int 4), (2, .int l2), (3, .int l3)] [] h 0 0 Q) : ∀ (l3 : Int32) (g0 : Int32) (g1 : Int32) (h : jH), 0 ≤ l3.toInt ∧ l3.toInt ≤ 399 → 0 ≤ g0.toInt ∧ g0.toInt ≤ 400 → 0 ≤ g1.toInt ∧ g1.toInt ≤ 3 → (g1.toInt ≠ 3 ∨ g0.toInt ≤ 399) → jiv h 68 3 = g0 → jiv h 68 5 = g1 → 400 - l3.toInt ≤ R4 → jJ jSgX Dy h → jSm fp_X2_readSum_r95_c4d h0 h → d_X2_readSum_r95_c4d_500148 K4  l3.toInt (vw h) = dr → jX m_X2_readSum 14 0 0 148 [(0, .ref 95), (1, .int 4), (3, .int l3)] [.int 3] h 0 0 Q := by
  intro l3 g0 g1 h y0 y1 y2 y3 z0 z1 m4 J Sm D
  unfold d_X2_readSum_r95_c4d_500148 at D
  try rw [vrf z0] at D
  try rw [vrf z1] at D
  refine x_istoren (lsx9 := [(2, .int 3), (0, .ref 95), (1, .int 4), (3, .int l3)]) rfl rfl rfl ?_
  refine x_iloadn (x := 3) rfl rfl ?_
  refine x_iconst (v := (-1)) rfl ki_m1 ?_
  refine x_icne (tgt := 156) rfl rfl (ti_ne jk_3 jk_m1 (bn_t (by omega) ?_))
  refine x_aloadn (x := 95) rfl rfl ?_
  refine z_getR (N := 6) (b := 68) 2 0 rfl f_2_30 rfl J rfl 12160 ⟨rfl, rfl⟩ rfl ?_
  refine x_inv (N := m_X9_step) (As := []) (b := 68) (st := []) (dx9 := 2) (mc := 0) (ms := 0) (host := "") 9 rfl t_X9_step ⟨Or.inl q_2_62, i_X9_step.1, i_X9_step.2⟩ ⟨by decide, rfl⟩ (congrArg Prod.fst (J.1.1 68 (9, 6) rfl)) rfl (by decide) rfl rfl ⟨by decide, by decide⟩ (sf_X9_step_r68d  hD J z1 z0 (by omega) rfl  (fun h J S1 u2 u3 qu2 qu3 ru2 X4 => ?_))
  have Sm := jSm_tr rfl Sm S1
  rw [X4] at D
  have eu2 := (show 0 ≤ u2.toInt ∧ u2.toInt ≤ 3 from qu2 ▸ jrg_f J sg_68_5_6_1_0_1)
  try rw [vrf qu2] at D
  have eu3 := (show 0 ≤ u3.toInt ∧ u3.toInt ≤ 400 from qu3 ▸ jrg_f J sg_68_3_4_1_0_1)
  try rw [vrf qu3] at D
  show jX m_X2_readSum 14 0 0 163 [(2, .int 3), (0, .ref 95), (1, .int 4), (3, .int l3)] [] _ 0 0 _
  refine z_iinc (x := l3) (lsx9 := fun v5 => [(3, .int v5), (2, .int 3), (0, .ref 95), (1, .int 4)]) rfl rfl rfl jko_1 (by omega) rfl (fun _ => rfl) (fun v5 ev5 => ?_)
  refine x_goto (tgt := 4) rfl rfl ?_
  try rw [show (l3.toInt + 1) = v5.toInt from by omega] at D
  exact jX.sub (jsb_c rfl (jsb_c rfl (jsb_c rfl (jsb_c rfl jsb_n)))) (k4 3 v5 u3 u2 h (by omega) (jr_of jk_3 (by omega)) (jr_of rfl (by omega)) (jr_of rfl (by omega)) (jr_of rfl (by omega)) (by omega) qu3 qu2 J Sm (by rw [jk_3]; exact D))
set_option maxRecDepth 100000 in
set_option maxHeartbeats 4000000 in
theorem ct_X2_readSum_r95_c4d_115 {Dy : jH → Prop} {h0 : jH} {Q : Option Value → jH → Prop} {dr : (Int × jW)} {K4 : Int → Int → jW → (Int × jW)} {R4 : Int} (hD : jDk Dy) (hQ : ∀ (v : Int32) hx9, 0 ≤ v.toInt ∧ v.toInt ≤ 1 → jJ jSgX Dy hx9 → jSm fp_X2_readSum_r95_c4d h0 hx9 → ∀ u0 u1 : Int32, jiv hx9 68 5 = u0 → jiv hx9 68 3 = u1 → (u0.toInt ≠ 3 ∨ u1.toInt ≤ 399) → dr.1 = v.toInt → dr.2 = vw hx9 → Q (some (.int v)) hx9) (k4 : ∀ (l2 : Int32) (l3 : Int32) (g0 : Int32) (g1 : Int32) (h : jH), 400 - l3.toInt < R4 → (-1) ≤ l2.toInt ∧ l2.toInt ≤ 4 → 0 ≤ l3.toInt ∧ l3.toInt ≤ 400 → 0 ≤ g0.toInt ∧ g0.toInt ≤ 400 → 0 ≤ g1.toInt ∧ g1.toInt ≤ 3 → (g1.toInt ≠ 3 ∨ g0.toInt ≤ 399) → jiv h 68 3 = g0 → jiv h 68 5 = g1 → jJ jSgX Dy h → jSm fp_X2_readSum_r95_c4d h0 h → K4 l2.toInt l3.toInt (vw h) = dr → jX m_X2_readSum 14 0 0 4 [(0, .ref 95), (1, .int 4), (2, .int l2), (3, .int l3)] [] h 0 0 Q) : ∀ (l3 : Int32) (g0 : Int32) (g1 : Int32) (h : jH), 0 ≤ l3.toInt ∧ l3.toInt ≤ 399 → 0 ≤ g0.toInt ∧ g0.toInt ≤ 400 → 0 ≤ g1.toInt ∧ g1.toInt ≤ 3 → (g1.toInt ≠ 3 ∨ g0.toInt ≤ 399) → jiv h 68 3 = g0 → jiv h 68 5 = g1 → 400 - l3.toInt ≤ R4 → jJ jSgX Dy h → jSm fp_X2_readSum_r95_c4d h0 h → d_X2_readSum_r95_c4d_115 K4  l3.toInt (vw h) = dr → jX m_X2_readSum 14 0 0 115 [(0, .ref 95), (1, .int 4), (3, .int l3)] [] h 0 0 Q := by
  intro l3 g0 g1 h y0 y1 y2 y3 z0 z1 m4 J Sm D
  unfold d_X2_readSum_r95_c4d_115 at D
  try rw [vrf z0] at D
  try rw [vrf z1] at D
  refine x_aloadn (x := 95) rfl rfl ?_
  refine z_getR (N := 6) (b := 68) 2 0 rfl f_2_30 rfl J rfl 12160 ⟨rfl, rfl⟩ rfl ?_
  refine x_bipush (v := 43) rfl kb_43 ?_
  refine x_inv (N := m_X9_isSign) (As := [.int 43]) (b := 68) (st := []) (dx9 := 1) (mc := 0) (ms := 0) (host := "") 9 rfl t_X9_isSign ⟨Or.inl q_2_55, i_X9_isSign.1, i_X9_isSign.2⟩ ⟨by decide, rfl⟩ (congrArg Prod.fst (J.1.1 68 (9, 6) rfl)) rfl (by decide) rfl rfl ⟨by decide, by decide⟩ (sf_X9_isSign_r68d (jr_of jk_43 (by omega)) hD J z1 z0 (by omega) rfl  (fun v6 h ev6 J S1 u2 u3 qu2 qu3 ru2 X4 X5 => ?_))
  have Sm := jSm_tr rfl Sm S1
  try rw [jk_43] at X4
  try rw [X4] at D
  try rw [← X5] at D
  have eu2 := (show 0 ≤ u2.toInt ∧ u2.toInt ≤ 3 from qu2 ▸ jrg_f J sg_68_5_6_1_0_1)
  have Luu2 := congrArg Int32.toInt (((jmc S1 rfl z1)).symm.trans qu2)
  try rw [Luu2] at D
  try rw [vrf qu2] at D
  have eu3 := (show 0 ≤ u3.toInt ∧ u3.toInt ≤ 400 from qu3 ▸ jrg_f J sg_68_3_4_1_0_1)
  have Luu3 := congrArg Int32.toInt (((jmc S1 rfl z0)).symm.trans qu3)
  try rw [Luu3] at D
  try rw [vrf qu3] at D
  show jX m_X2_readSum 14 0 0 124 [(0, .ref 95), (1, .int 4), (3, .int l3)] [.int v6] _ 0 0 _
  refine x_ifeq (tgt := 131) rfl rfl (ti_eq rfl jk_0 ⟨fun c7 => ?_, fun c7 => ?_⟩)
  ·
    rw [if_pos (by omega)] at D
    refine x_aloadn (x := 95) rfl rfl ?_
    refine z_getR (N := 6) (b := 68) 2 0 rfl f_2_30 rfl J rfl 12160 ⟨rfl, rfl⟩ rfl ?_
    refine x_bipush (v := 45) rfl kb_45 ?_
    refine x_inv (N := m_X9_isSign) (As := [.int 45]) (b := 68) (st := []) (dx9 := 1) (mc := 0) (ms := 0) (host := "") 9 rfl t_X9_isSign ⟨Or.inl q_2_55, i_X9_isSign.1, i_X9_isSign.2⟩ ⟨by decide, rfl⟩ (congrArg Prod.fst (J.1.1 68 (9, 6) rfl)) rfl (by decide) rfl rfl ⟨by decide, by decide⟩ (sf_X9_isSign_r68d (jr_of jk_45 (by omega)) hD J qu2 qu3 (by omega) rfl  (fun v13 h ev13 J S8 u9 u10 qu9 qu10 ru9 X11 X12 => ?_))
    have Sm := jSm_tr rfl Sm S8
    try rw [jk_45] at X11
    try rw [X11] at D
    try rw [← X12] at D
    have eu9 := (show 0 ≤ u9.toInt ∧ u9.toInt ≤ 3 from qu9 ▸ jrg_f J sg_68_5_6_1_0_1)
    have Luu9 := congrArg Int32.toInt (((jmc S8 rfl qu2)).symm.trans qu9)
    try rw [Luu9] at D
    try rw [vrf qu9] at D
    have eu10 := (show 0 ≤ u10.toInt ∧ u10.toInt ≤ 400 from qu10 ▸ jrg_f J sg_68_3_4_1_0_1)
    have Luu10 := congrArg Int32.toInt (((jmc S8 rfl qu3)).symm.trans qu10)
    try rw [Luu10] at D
    try rw [vrf qu10] at D
    show jX m_X2_readSum 14 0 0 140 [(0, .ref 95), (1, .int 4), (3, .int l3)] [.int v13] _ 0 0 _
    refine x_ifeq (tgt := 147) rfl rfl (ti_eq rfl jk_0 ⟨fun c14 => ?_, fun c14 => ?_⟩)
    ·
      rw [if_pos (by omega)] at D
      refine x_iconst (v := (-1)) rfl ki_m1 ?_
      exact jX.sub (jsb_c rfl (jsb_c rfl (jsb_c rfl jsb_n))) (ct_X2_readSum_r95_c4d_100148 hD hQ k4 l3 u10 u9 h (jr_of rfl (by omega)) (jr_of rfl (by omega)) (jr_of rfl (by omega)) (by omega) qu10 qu9 (by omega) J Sm D)
    ·
      rw [if_neg (by omega)] at D
      refine x_iconst (v := 4) rfl ki_4 ?_
      refine x_goto (tgt := 148) rfl rfl ?_
      exact jX.sub (jsb_c rfl (jsb_c rfl (jsb_c rfl jsb_n))) (ct_X2_readSum_r95_c4d_600148 hD hQ k4 l3 u10 u9 h (jr_of rfl (by omega)) (jr_of rfl (by omega)) (jr_of rfl (by omega)) (by omega) qu10 qu9 (by omega) J Sm D)
  ·
    rw [if_neg (by omega)] at D
    refine x_iconst (v := 3) rfl ki_3 ?_
    refine x_goto (tgt := 148) rfl rfl ?_
    exact jX.sub (jsb_c rfl (jsb_c rfl (jsb_c rfl jsb_n))) (ct_X2_readSum_r95_c4d_500148 hD hQ k4 l3 u3 u2 h (jr_of rfl (by omega)) (jr_of rfl (by omega)) (jr_of rfl (by omega)) (by omega) qu3 qu2 (by omega) J Sm D)
set_option maxRecDepth 100000 in
set_option maxHeartbeats 4000000 in
theorem ct_X2_readSum_r95_c4d_105 {Dy : jH → Prop} {h0 : jH} {Q : Option Value → jH → Prop} {dr : (Int × jW)} {K4 : Int → Int → jW → (Int × jW)} {R4 : Int} (hD : jDk Dy) (hQ : ∀ (v : Int32) hx9, 0 ≤ v.toInt ∧ v.toInt ≤ 1 → jJ jSgX Dy hx9 → jSm fp_X2_readSum_r95_c4d h0 hx9 → ∀ u0 u1 : Int32, jiv hx9 68 5 = u0 → jiv hx9 68 3 = u1 → (u0.toInt ≠ 3 ∨ u1.toInt ≤ 399) → dr.1 = v.toInt → dr.2 = vw hx9 → Q (some (.int v)) hx9) (k4 : ∀ (l2 : Int32) (l3 : Int32) (g0 : Int32) (g1 : Int32) (h : jH), 400 - l3.toInt < R4 → (-1) ≤ l2.toInt ∧ l2.toInt ≤ 4 → 0 ≤ l3.toInt ∧ l3.toInt ≤ 400 → 0 ≤ g0.toInt ∧ g0.toInt ≤ 400 → 0 ≤ g1.toInt ∧ g1.toInt ≤ 3 → (g1.toInt ≠ 3 ∨ g0.toInt ≤ 399) → jiv h 68 3 = g0 → jiv h 68 5 = g1 → jJ jSgX Dy h → jSm fp_X2_readSum_r95_c4d h0 h → K4 l2.toInt l3.toInt (vw h) = dr → jX m_X2_readSum 14 0 0 4 [(0, .ref 95), (1, .int 4), (2, .int l2), (3, .int l3)] [] h 0 0 Q) : ∀ (l2 : Int32) (l3 : Int32) (g0 : Int32) (g1 : Int32) (h : jH), (-1) ≤ l2.toInt ∧ l2.toInt ≤ 4 → 0 ≤ l3.toInt ∧ l3.toInt ≤ 399 → 0 ≤ g0.toInt ∧ g0.toInt ≤ 400 → 0 ≤ g1.toInt ∧ g1.toInt ≤ 3 → (g1.toInt ≠ 3 ∨ g0.toInt ≤ 399) → jiv h 68 3 = g0 → jiv h 68 5 = g1 → 400 - l3.toInt ≤ R4 → jJ jSgX Dy h → jSm fp_X2_readSum_r95_c4d h0 h → d_X2_readSum_r95_c4d_105 K4  l2.toInt l3.toInt (vw h) = dr → jX m_X2_readSum 14 0 0 105 [(0, .ref 95), (1, .int 4), (2, .int l2), (3, .int l3)] [] h 0 0 Q := by
  intro l2 l3 g0 g1 h y0 y1 y2 y3 y4 z0 z1 m4 J Sm D
  unfold d_X2_readSum_r95_c4d_105 at D
  try rw [vrf z0] at D
  try rw [vrf z1] at D
  refine x_iloadn (x := l2) rfl rfl ?_
  refine x_iconst (v := (-1)) rfl ki_m1 ?_
  refine x_iceq (tgt := 115) rfl rfl (ti_eq rfl jk_m1 ⟨fun c1 => ?_, fun c1 => ?_⟩)
  ·
    rw [if_pos (by omega)] at D
    exact jX.sub (jsb_c rfl (jsb_c rfl (jsb_c rfl jsb_n))) (ct_X2_readSum_r95_c4d_115 hD hQ k4 l3 g0 g1 h (jr_of rfl (by omega)) (jr_of rfl (by omega)) (jr_of rfl (by omega)) (by omega) z0 z1 (by omega) J Sm D)
  ·
    rw [if_neg (by omega)] at D
    refine x_aloadn (x := 95) rfl rfl ?_
    refine x_iloadn (x := l2) rfl rfl ?_
    refine x_inv (N := m_X2_emit) (As := [.int l2]) (b := 95) (st := []) (dx9 := 1) (mc := 0) (ms := 0) (host := "") 2 rfl t_X2_emit ⟨Or.inl q_2_89, i_X2_emit.1, i_X2_emit.2⟩ ⟨by decide, rfl⟩ (congrArg Prod.fst (J.1.1 95 (2, 6) rfl)) rfl (by decide) rfl rfl ⟨by decide, by decide⟩ (sf_X2_emit_r95d  hD J rfl  (fun h J S2 X3 => ?_))
    have Sm := jSm_tr rfl Sm S2
    rw [X3] at D
    show jX m_X2_readSum 14 0 0 115 [(0, .ref 95), (1, .int 4), (2, .int l2), (3, .int l3)] [] _ 0 0 _
    exact jX.sub (jsb_c rfl (jsb_c rfl (jsb_c rfl jsb_n))) (ct_X2_readSum_r95_c4d_115 hD hQ k4 l3 g0 g1 h (jr_of rfl (by omega)) (jr_of rfl (by omega)) (jr_of rfl (by omega)) (by omega) (jmc S2 rfl z0) (jmc S2 rfl z1) (by omega) J Sm D)
set_option maxRecDepth 100000 in
set_option maxHeartbeats 4000000 in
theorem ct_X2_readSum_r95_c4d_100081 {Dy : jH → Prop} {h0 : jH} {Q : Option Value → jH → Prop} {dr : (Int × jW)} {K4 : Int → Int → jW → (Int × jW)} {K17 : Int → Int → Int → Int → jW → (Int × jW)} {R4 : Int} {R17 : Int} (hD : jDk Dy) (hQ : ∀ (v : Int32) hx9, 0 ≤ v.toInt ∧ v.toInt ≤ 1 → jJ jSgX Dy hx9 → jSm fp_X2_readSum_r95_c4d h0 hx9 → ∀ u0 u1 : Int32, jiv hx9 68 5 = u0 → jiv hx9 68 3 = u1 → (u0.toInt ≠ 3 ∨ u1.toInt ≤ 399) → dr.1 = v.toInt → dr.2 = vw hx9 → Q (some (.int v)) hx9) (k4 : ∀ (l2 : Int32) (l3 : Int32) (g0 : Int32) (g1 : Int32) (h : jH), 400 - l3.toInt < R4 → (-1) ≤ l2.toInt ∧ l2.toInt ≤ 4 → 0 ≤ l3.toInt ∧ l3.toInt ≤ 400 → 0 ≤ g0.toInt ∧ g0.toInt ≤ 400 → 0 ≤ g1.toInt ∧ g1.toInt ≤ 3 → (g1.toInt ≠ 3 ∨ g0.toInt ≤ 399) → jiv h 68 3 = g0 → jiv h 68 5 = g1 → jJ jSgX Dy h → jSm fp_X2_readSum_r95_c4d h0 h → K4 l2.toInt l3.toInt (vw h) = dr → jX m_X2_readSum 14 0 0 4 [(0, .ref 95), (1, .int 4), (2, .int l2), (3, .int l3)] [] h 0 0 Q) (k17 : ∀ (l2 : Int32) (l3 : Int32) (l4 : Int32) (l5 : Int32) (g0 : Int32) (g1 : Int32) (h : jH), 400 - l5.toInt < R17 → (-1) ≤ l2.toInt ∧ l2.toInt ≤ 4 → 0 ≤ l3.toInt ∧ l3.toInt ≤ 399 → (-1) ≤ l4.toInt ∧ l4.toInt ≤ 6 → 0 ≤ l5.toInt ∧ l5.toInt ≤ 400 → 0 ≤ g0.toInt ∧ g0.toInt ≤ 400 → 0 ≤ g1.toInt ∧ g1.toInt ≤ 3 → (g1.toInt ≠ 3 ∨ g0.toInt ≤ 399) → jiv h 68 3 = g0 → jiv h 68 5 = g1 → 400 - l3.toInt ≤ R4 → jJ jSgX Dy h → jSm fp_X2_readSum_r95_c4d h0 h → K17 l2.toInt l3.toInt l4.toInt l5.toInt (vw h) = dr → jX m_X2_readSum 14 0 0 17 [(0, .ref 95), (1, .int 4), (2, .int l2), (3, .int l3), (4, .int l4), (5, .int l5)] [] h 0 0 Q) : ∀ (l2 : Int32) (l3 : Int32) (l5 : Int32) (g0 : Int32) (g1 : Int32) (h : jH), (-1) ≤ l2.toInt ∧ l2.toInt ≤ 4 → 0 ≤ l3.toInt ∧ l3.toInt ≤ 399 → 0 ≤ l5.toInt ∧ l5.toInt ≤ 399 → 0 ≤ g0.toInt ∧ g0.toInt ≤ 400 → 0 ≤ g1.toInt ∧ g1.toInt ≤ 3 → (g1.toInt ≠ 3 ∨ g0.toInt ≤ 399) → jiv h 68 3 = g0 → jiv h 68 5 = g1 → 400 - l3.toInt ≤ R4 → 400 - l5.toInt ≤ R17 → jJ jSgX Dy h → jSm fp_X2_readSum_r95_c4d h0 h → d_X2_readSum_r95_c4d_100081 K4 K17  l2.toInt l3.toInt l5.toInt (vw h) = dr → jX m_X2_readSum 14 0 0 81 [(0, .ref 95), (1, .int 4), (2, .int l2), (3, .int l3), (5, .int l5)] [.int (-1)] h 0 0 Q := by
  intro l2 l3 l5 g0 g1 h y0 y1 y2 y3 y4 y5 z0 z1 m4 m17 J Sm D
  unfold d_X2_readSum_r95_c4d_100081 at D
  try rw [vrf z0] at D
  try rw [vrf z1] at D
  refine x_istore (lsx9 := [(4, .int (-1)), (0, .ref 95), (1, .int 4), (2, .int l2), (3, .int l3), (5, .int l5)]) rfl rfl rfl ?_
  refine x_iload (x := (-1)) rfl rfl ?_
  refine x_iconst (v := (-1)) rfl ki_m1 ?_
  refine x_icne (tgt := 92) rfl rfl (ti_ne jk_m1 jk_m1 (bn_f (by omega) ?_))
  refine x_goto (tgt := 105) rfl rfl ?_
  exact jX.sub (jsb_c rfl (jsb_c rfl (jsb_c rfl (jsb_c rfl jsb_n)))) (ct_X2_readSum_r95_c4d_105 hD hQ k4 l2 l3 g0 g1 h (jr_of rfl (by omega)) (jr_of rfl (by omega)) (jr_of rfl (by omega)) (jr_of rfl (by omega)) (by omega) z0 z1 (by omega) J Sm D)
set_option maxRecDepth 100000 in
set_option maxHeartbeats 4000000 in
theorem ct_X2_readSum_r95_c4d_800081 {Dy : jH → Prop} {h0 : jH} {Q : Option Value → jH → Prop} {dr : (Int × jW)} {K4 : Int → Int → jW → (Int × jW)} {K17 : Int → Int → Int → Int → jW → (Int × jW)} {R4 : Int} {R17 : Int} (hD : jDk Dy) (hQ : ∀ (v : Int32) hx9, 0 ≤ v.toInt ∧ v.toInt ≤ 1 → jJ jSgX Dy hx9 → jSm fp_X2_readSum_r95_c4d h0 hx9 → ∀ u0 u1 : Int32, jiv hx9 68 5 = u0 → jiv hx9 68 3 = u1 → (u0.toInt ≠ 3 ∨ u1.toInt ≤ 399) → dr.1 = v.toInt → dr.2 = vw hx9 → Q (some (.int v)) hx9) (k4 : ∀ (l2 : Int32) (l3 : Int32) (g0 : Int32) (g1 : Int32) (h : jH), 400 - l3.toInt < R4 → (-1) ≤ l2.toInt ∧ l2.toInt ≤ 4 → 0 ≤ l3.toInt ∧ l3.toInt ≤ 400 → 0 ≤ g0.toInt ∧ g0.toInt ≤ 400 → 0 ≤ g1.toInt ∧ g1.toInt ≤ 3 → (g1.toInt ≠ 3 ∨ g0.toInt ≤ 399) → jiv h 68 3 = g0 → jiv h 68 5 = g1 → jJ jSgX Dy h → jSm fp_X2_readSum_r95_c4d h0 h → K4 l2.toInt l3.toInt (vw h) = dr → jX m_X2_readSum 14 0 0 4 [(0, .ref 95), (1, .int 4), (2, .int l2), (3, .int l3)] [] h 0 0 Q) (k17 : ∀ (l2 : Int32) (l3 : Int32) (l4 : Int32) (l5 : Int32) (g0 : Int32) (g1 : Int32) (h : jH), 400 - l5.toInt < R17 → (-1) ≤ l2.toInt ∧ l2.toInt ≤ 4 → 0 ≤ l3.toInt ∧ l3.toInt ≤ 399 → (-1) ≤ l4.toInt ∧ l4.toInt ≤ 6 → 0 ≤ l5.toInt ∧ l5.toInt ≤ 400 → 0 ≤ g0.toInt ∧ g0.toInt ≤ 400 → 0 ≤ g1.toInt ∧ g1.toInt ≤ 3 → (g1.toInt ≠ 3 ∨ g0.toInt ≤ 399) → jiv h 68 3 = g0 → jiv h 68 5 = g1 → 400 - l3.toInt ≤ R4 → jJ jSgX Dy h → jSm fp_X2_readSum_r95_c4d h0 h → K17 l2.toInt l3.toInt l4.toInt l5.toInt (vw h) = dr → jX m_X2_readSum 14 0 0 17 [(0, .ref 95), (1, .int 4), (2, .int l2), (3, .int l3), (4, .int l4), (5, .int l5)] [] h 0 0 Q) : ∀ (l2 : Int32) (l3 : Int32) (l5 : Int32) (g0 : Int32) (g1 : Int32) (h : jH), (-1) ≤ l2.toInt ∧ l2.toInt ≤ 4 → 0 ≤ l3.toInt ∧ l3.toInt ≤ 399 → 0 ≤ l5.toInt ∧ l5.toInt ≤ 399 → 0 ≤ g0.toInt ∧ g0.toInt ≤ 400 → 0 ≤ g1.toInt ∧ g1.toInt ≤ 3 → (g1.toInt ≠ 3 ∨ g0.toInt ≤ 399) → jiv h 68 3 = g0 → jiv h 68 5 = g1 → 400 - l3.toInt ≤ R4 → 400 - l5.toInt ≤ R17 → jJ jSgX Dy h → jSm fp_X2_readSum_r95_c4d h0 h → d_X2_readSum_r95_c4d_800081 K4 K17  l2.toInt l3.toInt l5.toInt (vw h) = dr → jX m_X2_readSum 14 0 0 81 [(0, .ref 95), (1, .int 4), (2, .int l2), (3, .int l3), (5, .int l5)] [.int 6] h 0 0 Q := by
  intro l2 l3 l5 g0 g1 h y0 y1 y2 y3 y4 y5 z0 z1 m4 m17 J Sm D
  unfold d_X2_readSum_r95_c4d_800081 at D
  try rw [vrf z0] at D
  try rw [vrf z1] at D
  refine x_istore (lsx9 := [(4, .int 6), (0, .ref 95), (1, .int 4), (2, .int l2), (3, .int l3), (5, .int l5)]) rfl rfl rfl ?_
  refine x_iload (x := 6) rfl rfl ?_
  refine x_iconst (v := (-1)) rfl ki_m1 ?_
  refine x_icne (tgt := 92) rfl rfl (ti_ne jk_6 jk_m1 (bn_t (by omega) ?_))
  refine x_aloadn (x := 95) rfl rfl ?_
  refine z_getR (N := 6) (b := 68) 2 0 rfl f_2_30 rfl J rfl 12160 ⟨rfl, rfl⟩ rfl ?_
  refine x_inv (N := m_X9_step) (As := []) (b := 68) (st := []) (dx9 := 2) (mc := 0) (ms := 0) (host := "") 9 rfl t_X9_step ⟨Or.inl q_2_62, i_X9_step.1, i_X9_step.2⟩ ⟨by decide, rfl⟩ (congrArg Prod.fst (J.1.1 68 (9, 6) rfl)) rfl (by decide) rfl rfl ⟨by decide, by decide⟩ (sf_X9_step_r68d  hD J z1 z0 (by omega) rfl  (fun h J S1 u2 u3 qu2 qu3 ru2 X4 => ?_))
  have Sm := jSm_tr rfl Sm S1
  rw [X4] at D
  have eu2 := (show 0 ≤ u2.toInt ∧ u2.toInt ≤ 3 from qu2 ▸ jrg_f J sg_68_5_6_1_0_1)
  try rw [vrf qu2] at D
  have eu3 := (show 0 ≤ u3.toInt ∧ u3.toInt ≤ 400 from qu3 ▸ jrg_f J sg_68_3_4_1_0_1)
  try rw [vrf qu3] at D
  show jX m_X2_readSum 14 0 0 99 [(4, .int 6), (0, .ref 95), (1, .int 4), (2, .int l2), (3, .int l3), (5, .int l5)] [] _ 0 0 _
  refine z_iinc (x := l5) (lsx9 := fun v5 => [(5, .int v5), (4, .int 6), (0, .ref 95), (1, .int 4), (2, .int l2), (3, .int l3)]) rfl rfl rfl jko_1 (by omega) rfl (fun _ => rfl) (fun v5 ev5 => ?_)
  refine x_goto (tgt := 17) rfl rfl ?_
  try rw [show (l5.toInt + 1) = v5.toInt from by omega] at D
  exact jX.sub (jsb_c rfl (jsb_c rfl (jsb_c rfl (jsb_c rfl (jsb_c rfl (jsb_c rfl jsb_n)))))) (k17 l2 l3 6 v5 u3 u2 h (by omega) (jr_of rfl (by omega)) (jr_of rfl (by omega)) (jr_of jk_6 (by omega)) (jr_of rfl (by omega)) (jr_of rfl (by omega)) (jr_of rfl (by omega)) (by omega) qu3 qu2 (by omega) J Sm (by rw [jk_6]; exact D))
set_option maxRecDepth 100000 in
set_option maxHeartbeats 4000000 in
theorem ct_X2_readSum_r95_c4d_700081 {Dy : jH → Prop} {h0 : jH} {Q : Option Value → jH → Prop} {dr : (Int × jW)} {K4 : Int → Int → jW → (Int × jW)} {K17 : Int → Int → Int → Int → jW → (Int × jW)} {R4 : Int} {R17 : Int} (hD : jDk Dy) (hQ : ∀ (v : Int32) hx9, 0 ≤ v.toInt ∧ v.toInt ≤ 1 → jJ jSgX Dy hx9 → jSm fp_X2_readSum_r95_c4d h0 hx9 → ∀ u0 u1 : Int32, jiv hx9 68 5 = u0 → jiv hx9 68 3 = u1 → (u0.toInt ≠ 3 ∨ u1.toInt ≤ 399) → dr.1 = v.toInt → dr.2 = vw hx9 → Q (some (.int v)) hx9) (k4 : ∀ (l2 : Int32) (l3 : Int32) (g0 : Int32) (g1 : Int32) (h : jH), 400 - l3.toInt < R4 → (-1) ≤ l2.toInt ∧ l2.toInt ≤ 4 → 0 ≤ l3.toInt ∧ l3.toInt ≤ 400 → 0 ≤ g0.toInt ∧ g0.toInt ≤ 400 → 0 ≤ g1.toInt ∧ g1.toInt ≤ 3 → (g1.toInt ≠ 3 ∨ g0.toInt ≤ 399) → jiv h 68 3 = g0 → jiv h 68 5 = g1 → jJ jSgX Dy h → jSm fp_X2_readSum_r95_c4d h0 h → K4 l2.toInt l3.toInt (vw h) = dr → jX m_X2_readSum 14 0 0 4 [(0, .ref 95), (1, .int 4), (2, .int l2), (3, .int l3)] [] h 0 0 Q) (k17 : ∀ (l2 : Int32) (l3 : Int32) (l4 : Int32) (l5 : Int32) (g0 : Int32) (g1 : Int32) (h : jH), 400 - l5.toInt < R17 → (-1) ≤ l2.toInt ∧ l2.toInt ≤ 4 → 0 ≤ l3.toInt ∧ l3.toInt ≤ 399 → (-1) ≤ l4.toInt ∧ l4.toInt ≤ 6 → 0 ≤ l5.toInt ∧ l5.toInt ≤ 400 → 0 ≤ g0.toInt ∧ g0.toInt ≤ 400 → 0 ≤ g1.toInt ∧ g1.toInt ≤ 3 → (g1.toInt ≠ 3 ∨ g0.toInt ≤ 399) → jiv h 68 3 = g0 → jiv h 68 5 = g1 → 400 - l3.toInt ≤ R4 → jJ jSgX Dy h → jSm fp_X2_readSum_r95_c4d h0 h → K17 l2.toInt l3.toInt l4.toInt l5.toInt (vw h) = dr → jX m_X2_readSum 14 0 0 17 [(0, .ref 95), (1, .int 4), (2, .int l2), (3, .int l3), (4, .int l4), (5, .int l5)] [] h 0 0 Q) : ∀ (l2 : Int32) (l3 : Int32) (l5 : Int32) (g0 : Int32) (g1 : Int32) (h : jH), (-1) ≤ l2.toInt ∧ l2.toInt ≤ 4 → 0 ≤ l3.toInt ∧ l3.toInt ≤ 399 → 0 ≤ l5.toInt ∧ l5.toInt ≤ 399 → 0 ≤ g0.toInt ∧ g0.toInt ≤ 400 → 0 ≤ g1.toInt ∧ g1.toInt ≤ 3 → (g1.toInt ≠ 3 ∨ g0.toInt ≤ 399) → jiv h 68 3 = g0 → jiv h 68 5 = g1 → 400 - l3.toInt ≤ R4 → 400 - l5.toInt ≤ R17 → jJ jSgX Dy h → jSm fp_X2_readSum_r95_c4d h0 h → d_X2_readSum_r95_c4d_700081 K4 K17  l2.toInt l3.toInt l5.toInt (vw h) = dr → jX m_X2_readSum 14 0 0 81 [(0, .ref 95), (1, .int 4), (2, .int l2), (3, .int l3), (5, .int l5)] [.int 5] h 0 0 Q := by
  intro l2 l3 l5 g0 g1 h y0 y1 y2 y3 y4 y5 z0 z1 m4 m17 J Sm D
  unfold d_X2_readSum_r95_c4d_700081 at D
  try rw [vrf z0] at D
  try rw [vrf z1] at D
  refine x_istore (lsx9 := [(4, .int 5), (0, .ref 95), (1, .int 4), (2, .int l2), (3, .int l3), (5, .int l5)]) rfl rfl rfl ?_
  refine x_iload (x := 5) rfl rfl ?_
  refine x_iconst (v := (-1)) rfl ki_m1 ?_
  refine x_icne (tgt := 92) rfl rfl (ti_ne jk_5 jk_m1 (bn_t (by omega) ?_))
  refine x_aloadn (x := 95) rfl rfl ?_
  refine z_getR (N := 6) (b := 68) 2 0 rfl f_2_30 rfl J rfl 12160 ⟨rfl, rfl⟩ rfl ?_
  refine x_inv (N := m_X9_step) (As := []) (b := 68) (st := []) (dx9 := 2) (mc := 0) (ms := 0) (host := "") 9 rfl t_X9_step ⟨Or.inl q_2_62, i_X9_step.1, i_X9_step.2⟩ ⟨by decide, rfl⟩ (congrArg Prod.fst (J.1.1 68 (9, 6) rfl)) rfl (by decide) rfl rfl ⟨by decide, by decide⟩ (sf_X9_step_r68d  hD J z1 z0 (by omega) rfl  (fun h J S1 u2 u3 qu2 qu3 ru2 X4 => ?_))
  have Sm := jSm_tr rfl Sm S1
  rw [X4] at D
  have eu2 := (show 0 ≤ u2.toInt ∧ u2.toInt ≤ 3 from qu2 ▸ jrg_f J sg_68_5_6_1_0_1)
  try rw [vrf qu2] at D
  have eu3 := (show 0 ≤ u3.toInt ∧ u3.toInt ≤ 400 from qu3 ▸ jrg_f J sg_68_3_4_1_0_1)
  try rw [vrf qu3] at D
  show jX m_X2_readSum 14 0 0 99 [(4, .int 5), (0, .ref 95), (1, .int 4), (2, .int l2), (3, .int l3), (5, .int l5)] [] _ 0 0 _
  refine z_iinc (x := l5) (lsx9 := fun v5 => [(5, .int v5), (4, .int 5), (0, .ref 95), (1, .int 4), (2, .int l2), (3, .int l3)]) rfl rfl rfl jko_1 (by omega) rfl (fun _ => rfl) (fun v5 ev5 => ?_)
  refine x_goto (tgt := 17) rfl rfl ?_
  try rw [show (l5.toInt + 1) = v5.toInt from by omega] at D
  exact jX.sub (jsb_c rfl (jsb_c rfl (jsb_c rfl (jsb_c rfl (jsb_c rfl (jsb_c rfl jsb_n)))))) (k17 l2 l3 5 v5 u3 u2 h (by omega) (jr_of rfl (by omega)) (jr_of rfl (by omega)) (jr_of jk_5 (by omega)) (jr_of rfl (by omega)) (jr_of rfl (by omega)) (jr_of rfl (by omega)) (by omega) qu3 qu2 (by omega) J Sm (by rw [jk_5]; exact D))
set_option maxRecDepth 100000 in
set_option maxHeartbeats 4000000 in
theorem ct_X2_readSum_r95_c4d_47 {Dy : jH → Prop} {h0 : jH} {Q : Option Value → jH → Prop} {dr : (Int × jW)} {K4 : Int → Int → jW → (Int × jW)} {K17 : Int → Int → Int → Int → jW → (Int × jW)} {R4 : Int} {R17 : Int} (hD : jDk Dy) (hQ : ∀ (v : Int32) hx9, 0 ≤ v.toInt ∧ v.toInt ≤ 1 → jJ jSgX Dy hx9 → jSm fp_X2_readSum_r95_c4d h0 hx9 → ∀ u0 u1 : Int32, jiv hx9 68 5 = u0 → jiv hx9 68 3 = u1 → (u0.toInt ≠ 3 ∨ u1.toInt ≤ 399) → dr.1 = v.toInt → dr.2 = vw hx9 → Q (some (.int v)) hx9) (k4 : ∀ (l2 : Int32) (l3 : Int32) (g0 : Int32) (g1 : Int32) (h : jH), 400 - l3.toInt < R4 → (-1) ≤ l2.toInt ∧ l2.toInt ≤ 4 → 0 ≤ l3.toInt ∧ l3.toInt ≤ 400 → 0 ≤ g0.toInt ∧ g0.toInt ≤ 400 → 0 ≤ g1.toInt ∧ g1.toInt ≤ 3 → (g1.toInt ≠ 3 ∨ g0.toInt ≤ 399) → jiv h 68 3 = g0 → jiv h 68 5 = g1 → jJ jSgX Dy h → jSm fp_X2_readSum_r95_c4d h0 h → K4 l2.toInt l3.toInt (vw h) = dr → jX m_X2_readSum 14 0 0 4 [(0, .ref 95), (1, .int 4), (2, .int l2), (3, .int l3)] [] h 0 0 Q) (k17 : ∀ (l2 : Int32) (l3 : Int32) (l4 : Int32) (l5 : Int32) (g0 : Int32) (g1 : Int32) (h : jH), 400 - l5.toInt < R17 → (-1) ≤ l2.toInt ∧ l2.toInt ≤ 4 → 0 ≤ l3.toInt ∧ l3.toInt ≤ 399 → (-1) ≤ l4.toInt ∧ l4.toInt ≤ 6 → 0 ≤ l5.toInt ∧ l5.toInt ≤ 400 → 0 ≤ g0.toInt ∧ g0.toInt ≤ 400 → 0 ≤ g1.toInt ∧ g1.toInt ≤ 3 → (g1.toInt ≠ 3 ∨ g0.toInt ≤ 399) → jiv h 68 3 = g0 → jiv h 68 5 = g1 → 400 - l3.toInt ≤ R4 → jJ jSgX Dy h → jSm fp_X2_readSum_r95_c4d h0 h → K17 l2.toInt l3.toInt l4.toInt l5.toInt (vw h) = dr → jX m_X2_readSum 14 0 0 17 [(0, .ref 95), (1, .int 4), (2, .int l2), (3, .int l3), (4, .int l4), (5, .int l5)] [] h 0 0 Q) : ∀ (l2 : Int32) (l3 : Int32) (l5 : Int32) (g0 : Int32) (g1 : Int32) (h : jH), (-1) ≤ l2.toInt ∧ l2.toInt ≤ 4 → 0 ≤ l3.toInt ∧ l3.toInt ≤ 399 → 0 ≤ l5.toInt ∧ l5.toInt ≤ 399 → 0 ≤ g0.toInt ∧ g0.toInt ≤ 400 → 0 ≤ g1.toInt ∧ g1.toInt ≤ 3 → (g1.toInt ≠ 3 ∨ g0.toInt ≤ 399) → jiv h 68 3 = g0 → jiv h 68 5 = g1 → 400 - l3.toInt ≤ R4 → 400 - l5.toInt ≤ R17 → jJ jSgX Dy h → jSm fp_X2_readSum_r95_c4d h0 h → d_X2_readSum_r95_c4d_47 K4 K17  l2.toInt l3.toInt l5.toInt (vw h) = dr → jX m_X2_readSum 14 0 0 47 [(0, .ref 95), (1, .int 4), (2, .int l2), (3, .int l3), (5, .int l5)] [] h 0 0 Q := by
  intro l2 l3 l5 g0 g1 h y0 y1 y2 y3 y4 y5 z0 z1 m4 m17 J Sm D
  unfold d_X2_readSum_r95_c4d_47 at D
  try rw [vrf z0] at D
  try rw [vrf z1] at D
  refine x_aloadn (x := 95) rfl rfl ?_
  refine z_getR (N := 6) (b := 68) 2 0 rfl f_2_30 rfl J rfl 12160 ⟨rfl, rfl⟩ rfl ?_
  refine x_bipush (v := 42) rfl kb_42 ?_
  refine x_inv (N := m_X9_isSign) (As := [.int 42]) (b := 68) (st := []) (dx9 := 1) (mc := 0) (ms := 0) (host := "") 9 rfl t_X9_isSign ⟨Or.inl q_2_55, i_X9_isSign.1, i_X9_isSign.2⟩ ⟨by decide, rfl⟩ (congrArg Prod.fst (J.1.1 68 (9, 6) rfl)) rfl (by decide) rfl rfl ⟨by decide, by decide⟩ (sf_X9_isSign_r68d (jr_of jk_42 (by omega)) hD J z1 z0 (by omega) rfl  (fun v6 h ev6 J S1 u2 u3 qu2 qu3 ru2 X4 X5 => ?_))
  have Sm := jSm_tr rfl Sm S1
  try rw [jk_42] at X4
  try rw [X4] at D
  try rw [← X5] at D
  have eu2 := (show 0 ≤ u2.toInt ∧ u2.toInt ≤ 3 from qu2 ▸ jrg_f J sg_68_5_6_1_0_1)
  have Luu2 := congrArg Int32.toInt (((jmc S1 rfl z1)).symm.trans qu2)
  try rw [Luu2] at D
  try rw [vrf qu2] at D
  have eu3 := (show 0 ≤ u3.toInt ∧ u3.toInt ≤ 400 from qu3 ▸ jrg_f J sg_68_3_4_1_0_1)
  have Luu3 := congrArg Int32.toInt (((jmc S1 rfl z0)).symm.trans qu3)
  try rw [Luu3] at D
  try rw [vrf qu3] at D
  show jX m_X2_readSum 14 0 0 56 [(0, .ref 95), (1, .int 4), (2, .int l2), (3, .int l3), (5, .int l5)] [.int v6] _ 0 0 _
  refine x_ifeq (tgt := 63) rfl rfl (ti_eq rfl jk_0 ⟨fun c7 => ?_, fun c7 => ?_⟩)
  ·
    rw [if_pos (by omega)] at D
    refine x_aloadn (x := 95) rfl rfl ?_
    refine z_getR (N := 6) (b := 68) 2 0 rfl f_2_30 rfl J rfl 12160 ⟨rfl, rfl⟩ rfl ?_
    refine x_bipush (v := 47) rfl kb_47 ?_
    refine x_inv (N := m_X9_isSign) (As := [.int 47]) (b := 68) (st := []) (dx9 := 1) (mc := 0) (ms := 0) (host := "") 9 rfl t_X9_isSign ⟨Or.inl q_2_55, i_X9_isSign.1, i_X9_isSign.2⟩ ⟨by decide, rfl⟩ (congrArg Prod.fst (J.1.1 68 (9, 6) rfl)) rfl (by decide) rfl rfl ⟨by decide, by decide⟩ (sf_X9_isSign_r68d (jr_of jk_47 (by omega)) hD J qu2 qu3 (by omega) rfl  (fun v13 h ev13 J S8 u9 u10 qu9 qu10 ru9 X11 X12 => ?_))
    have Sm := jSm_tr rfl Sm S8
    try rw [jk_47] at X11
    try rw [X11] at D
    try rw [← X12] at D
    have eu9 := (show 0 ≤ u9.toInt ∧ u9.toInt ≤ 3 from qu9 ▸ jrg_f J sg_68_5_6_1_0_1)
    have Luu9 := congrArg Int32.toInt (((jmc S8 rfl qu2)).symm.trans qu9)
    try rw [Luu9] at D
    try rw [vrf qu9] at D
    have eu10 := (show 0 ≤ u10.toInt ∧ u10.toInt ≤ 400 from qu10 ▸ jrg_f J sg_68_3_4_1_0_1)
    have Luu10 := congrArg Int32.toInt (((jmc S8 rfl qu3)).symm.trans qu10)
    try rw [Luu10] at D
    try rw [vrf qu10] at D
    show jX m_X2_readSum 14 0 0 72 [(0, .ref 95), (1, .int 4), (2, .int l2), (3, .int l3), (5, .int l5)] [.int v13] _ 0 0 _
    refine x_ifeq (tgt := 80) rfl rfl (ti_eq rfl jk_0 ⟨fun c14 => ?_, fun c14 => ?_⟩)
    ·
      rw [if_pos (by omega)] at D
      refine x_iconst (v := (-1)) rfl ki_m1 ?_
      exact jX.sub (jsb_c rfl (jsb_c rfl (jsb_c rfl (jsb_c rfl (jsb_c rfl jsb_n))))) (ct_X2_readSum_r95_c4d_100081 hD hQ k4 k17 l2 l3 l5 u10 u9 h (jr_of rfl (by omega)) (jr_of rfl (by omega)) (jr_of rfl (by omega)) (jr_of rfl (by omega)) (jr_of rfl (by omega)) (by omega) qu10 qu9 (by omega) (by omega) J Sm D)
    ·
      rw [if_neg (by omega)] at D
      refine x_bipush (v := 6) rfl kb_6 ?_
      refine x_goto (tgt := 81) rfl rfl ?_
      exact jX.sub (jsb_c rfl (jsb_c rfl (jsb_c rfl (jsb_c rfl (jsb_c rfl jsb_n))))) (ct_X2_readSum_r95_c4d_800081 hD hQ k4 k17 l2 l3 l5 u10 u9 h (jr_of rfl (by omega)) (jr_of rfl (by omega)) (jr_of rfl (by omega)) (jr_of rfl (by omega)) (jr_of rfl (by omega)) (by omega) qu10 qu9 (by omega) (by omega) J Sm D)
  ·
    rw [if_neg (by omega)] at D
    refine x_iconst (v := 5) rfl ki_5 ?_
    refine x_goto (tgt := 81) rfl rfl ?_
    exact jX.sub (jsb_c rfl (jsb_c rfl (jsb_c rfl (jsb_c rfl (jsb_c rfl jsb_n))))) (ct_X2_readSum_r95_c4d_700081 hD hQ k4 k17 l2 l3 l5 u3 u2 h (jr_of rfl (by omega)) (jr_of rfl (by omega)) (jr_of rfl (by omega)) (jr_of rfl (by omega)) (jr_of rfl (by omega)) (by omega) qu3 qu2 (by omega) (by omega) J Sm D)
set_option maxRecDepth 100000 in
set_option maxHeartbeats 4000000 in
theorem ct_X2_readSum_r95_c4d_17 {Dy : jH → Prop} {h0 : jH} {Q : Option Value → jH → Prop} {dr : (Int × jW)} {K4 : Int → Int → jW → (Int × jW)} {R4 : Int} (hD : jDk Dy) (hQ : ∀ (v : Int32) hx9, 0 ≤ v.toInt ∧ v.toInt ≤ 1 → jJ jSgX Dy hx9 → jSm fp_X2_readSum_r95_c4d h0 hx9 → ∀ u0 u1 : Int32, jiv hx9 68 5 = u0 → jiv hx9 68 3 = u1 → (u0.toInt ≠ 3 ∨ u1.toInt ≤ 399) → dr.1 = v.toInt → dr.2 = vw hx9 → Q (some (.int v)) hx9) (k4 : ∀ (l2 : Int32) (l3 : Int32) (g0 : Int32) (g1 : Int32) (h : jH), 400 - l3.toInt < R4 → (-1) ≤ l2.toInt ∧ l2.toInt ≤ 4 → 0 ≤ l3.toInt ∧ l3.toInt ≤ 400 → 0 ≤ g0.toInt ∧ g0.toInt ≤ 400 → 0 ≤ g1.toInt ∧ g1.toInt ≤ 3 → (g1.toInt ≠ 3 ∨ g0.toInt ≤ 399) → jiv h 68 3 = g0 → jiv h 68 5 = g1 → jJ jSgX Dy h → jSm fp_X2_readSum_r95_c4d h0 h → K4 l2.toInt l3.toInt (vw h) = dr → jX m_X2_readSum 14 0 0 4 [(0, .ref 95), (1, .int 4), (2, .int l2), (3, .int l3)] [] h 0 0 Q) : ∀ r : Nat, ∀ (l2 : Int32) (l3 : Int32) (l4 : Int32) (l5 : Int32) (g0 : Int32) (g1 : Int32) (h : jH), 400 - l5.toInt < (r : Int) → (-1) ≤ l2.toInt ∧ l2.toInt ≤ 4 → 0 ≤ l3.toInt ∧ l3.toInt ≤ 399 → (-1) ≤ l4.toInt ∧ l4.toInt ≤ 6 → 0 ≤ l5.toInt ∧ l5.toInt ≤ 400 → 0 ≤ g0.toInt ∧ g0.toInt ≤ 400 → 0 ≤ g1.toInt ∧ g1.toInt ≤ 3 → (g1.toInt ≠ 3 ∨ g0.toInt ≤ 399) → jiv h 68 3 = g0 → jiv h 68 5 = g1 → 400 - l3.toInt ≤ R4 → jJ jSgX Dy h → jSm fp_X2_readSum_r95_c4d h0 h → d_X2_readSum_r95_c4d_17 K4 r l2.toInt l3.toInt l4.toInt l5.toInt (vw h) = dr → jX m_X2_readSum 14 0 0 17 [(0, .ref 95), (1, .int 4), (2, .int l2), (3, .int l3), (4, .int l4), (5, .int l5)] [] h 0 0 Q := by
  intro r
  induction r with
  | zero =>
    intro l2 l3 l4 l5 g0 g1 h hm y0 y1 y2 y3 y4 y5 y6 z0 z1 m4 J Sm D
    exfalso
    omega
  | succ r ih =>
    intro l2 l3 l4 l5 g0 g1 h hm y0 y1 y2 y3 y4 y5 y6 z0 z1 m4 J Sm D
    rw [d_X2_readSum_r95_c4d_17.eq_2] at D
    try rw [vrf z0] at D
    try rw [vrf z1] at D
    refine x_iload (x := l5) rfl rfl ?_
    refine x_sipush (v := 400) rfl ks_400 ?_
    refine x_icge (tgt := 105) rfl rfl (ti_ge rfl jk_400 ⟨fun c1 => ?_, fun c1 => ?_⟩)
    ·
      rw [if_pos (by omega)] at D
      exact jX.sub (jsb_c rfl (jsb_c rfl (jsb_c rfl (jsb_c rfl jsb_n)))) (ct_X2_readSum_r95_c4d_105 hD hQ k4 l2 l3 g0 g1 h (jr_of rfl (by omega)) (jr_of rfl (by omega)) (jr_of rfl (by omega)) (jr_of rfl (by omega)) (by omega) z0 z1 (by omega) J Sm D)
    ·
      rw [if_neg (by omega)] at D
      refine x_aloadn (x := 95) rfl rfl ?_
      refine x_iloadn (x := 4) rfl rfl ?_
      refine x_inv (N := m_X2_readFactor) (As := [.int 4]) (b := 95) (st := []) (dx9 := 13) (mc := 0) (ms := 0) (host := "") 2 rfl t_X2_readFactor ⟨Or.inl q_2_144, i_X2_readFactor.1, i_X2_readFactor.2⟩ ⟨by decide, rfl⟩ (congrArg Prod.fst (J.1.1 95 (2, 6) rfl)) rfl (by decide) rfl rfl ⟨by decide, by decide⟩ (sf_X2_readFactor_r95_c4d  hD J z1 z0 (by omega) rfl  (fun v7 h ev7 J S2 u3 u4 qu3 qu4 ru3 X5 X6 => ?_))
      have Sm := jSm_tr rfl Sm S2
      try rw [X5] at D
      try rw [X6] at D
      have eu3 := (show 0 ≤ u3.toInt ∧ u3.toInt ≤ 3 from qu3 ▸ jrg_f J sg_68_5_6_1_0_1)
      try rw [vrf qu3] at D
      have eu4 := (show 0 ≤ u4.toInt ∧ u4.toInt ≤ 400 from qu4 ▸ jrg_f J sg_68_3_4_1_0_1)
      try rw [vrf qu4] at D
      show jX m_X2_readSum 14 0 0 30 [(0, .ref 95), (1, .int 4), (2, .int l2), (3, .int l3), (4, .int l4), (5, .int l5)] [.int v7] _ 0 0 _
      refine x_ifne (tgt := 35) rfl rfl (ti_ne rfl jk_0 ⟨fun c8 => ?_, fun c8 => ?_⟩)
      ·
        rw [if_neg (by omega)] at D
        refine x_iload (x := l4) rfl rfl ?_
        refine x_iconst (v := (-1)) rfl ki_m1 ?_
        refine x_iceq (tgt := 47) rfl rfl (ti_eq rfl jk_m1 ⟨fun c9 => ?_, fun c9 => ?_⟩)
        ·
          rw [if_pos (by omega)] at D
          exact jX.sub (jsb_c rfl (jsb_c rfl (jsb_c rfl (jsb_c rfl (jsb_c rfl jsb_n))))) (ct_X2_readSum_r95_c4d_47 hD hQ k4 ih l2 l3 l5 u4 u3 h (jr_of rfl (by omega)) (jr_of rfl (by omega)) (jr_of rfl (by omega)) (jr_of rfl (by omega)) (jr_of rfl (by omega)) (by omega) qu4 qu3 (by omega) (by omega) J Sm D)
        ·
          rw [if_neg (by omega)] at D
          refine x_aloadn (x := 95) rfl rfl ?_
          refine x_iload (x := l4) rfl rfl ?_
          refine x_inv (N := m_X2_emit) (As := [.int l4]) (b := 95) (st := []) (dx9 := 1) (mc := 0) (ms := 0) (host := "") 2 rfl t_X2_emit ⟨Or.inl q_2_89, i_X2_emit.1, i_X2_emit.2⟩ ⟨by decide, rfl⟩ (congrArg Prod.fst (J.1.1 95 (2, 6) rfl)) rfl (by decide) rfl rfl ⟨by decide, by decide⟩ (sf_X2_emit_r95d  hD J rfl  (fun h J S10 X11 => ?_))
          have Sm := jSm_tr rfl Sm S10
          rw [X11] at D
          show jX m_X2_readSum 14 0 0 47 [(0, .ref 95), (1, .int 4), (2, .int l2), (3, .int l3), (4, .int l4), (5, .int l5)] [] _ 0 0 _
          exact jX.sub (jsb_c rfl (jsb_c rfl (jsb_c rfl (jsb_c rfl (jsb_c rfl jsb_n))))) (ct_X2_readSum_r95_c4d_47 hD hQ k4 ih l2 l3 l5 u4 u3 h (jr_of rfl (by omega)) (jr_of rfl (by omega)) (jr_of rfl (by omega)) (jr_of rfl (by omega)) (jr_of rfl (by omega)) (by omega) (jmc S10 rfl qu4) (jmc S10 rfl qu3) (by omega) (by omega) J Sm D)
      ·
        rw [if_pos (by omega)] at D
        refine x_iconst (v := 0) rfl ki_0 ?_
        refine x_zret rfl rfl (by decide) ?_
        exact hQ _ _ (jr_of jk_0 (by omega)) J Sm _ _ qu3 qu4 (by omega) ((congrArg Prod.fst D).symm.trans (show 0 = (0 : Int32).toInt from by have := jk_0; omega)) (congrArg Prod.snd D).symm
set_option maxRecDepth 100000 in
set_option maxHeartbeats 4000000 in
theorem ct_X2_readSum_r95_c4d_4 {Dy : jH → Prop} {h0 : jH} {Q : Option Value → jH → Prop} {dr : (Int × jW)} (hD : jDk Dy) (hQ : ∀ (v : Int32) hx9, 0 ≤ v.toInt ∧ v.toInt ≤ 1 → jJ jSgX Dy hx9 → jSm fp_X2_readSum_r95_c4d h0 hx9 → ∀ u0 u1 : Int32, jiv hx9 68 5 = u0 → jiv hx9 68 3 = u1 → (u0.toInt ≠ 3 ∨ u1.toInt ≤ 399) → dr.1 = v.toInt → dr.2 = vw hx9 → Q (some (.int v)) hx9) : ∀ r : Nat, ∀ (l2 : Int32) (l3 : Int32) (g0 : Int32) (g1 : Int32) (h : jH), 400 - l3.toInt < (r : Int) → (-1) ≤ l2.toInt ∧ l2.toInt ≤ 4 → 0 ≤ l3.toInt ∧ l3.toInt ≤ 400 → 0 ≤ g0.toInt ∧ g0.toInt ≤ 400 → 0 ≤ g1.toInt ∧ g1.toInt ≤ 3 → (g1.toInt ≠ 3 ∨ g0.toInt ≤ 399) → jiv h 68 3 = g0 → jiv h 68 5 = g1 → jJ jSgX Dy h → jSm fp_X2_readSum_r95_c4d h0 h → d_X2_readSum_r95_c4d_4 r l2.toInt l3.toInt (vw h) = dr → jX m_X2_readSum 14 0 0 4 [(0, .ref 95), (1, .int 4), (2, .int l2), (3, .int l3)] [] h 0 0 Q := by
  intro r
  induction r with
  | zero =>
    intro l2 l3 g0 g1 h hm y0 y1 y2 y3 y4 z0 z1  J Sm D
    exfalso
    omega
  | succ r ih =>
    intro l2 l3 g0 g1 h hm y0 y1 y2 y3 y4 z0 z1  J Sm D
    rw [d_X2_readSum_r95_c4d_4.eq_2] at D
    try rw [vrf z0] at D
    try rw [vrf z1] at D
    refine x_iloadn (x := l3) rfl rfl ?_
    refine x_sipush (v := 400) rfl ks_400 ?_
    refine x_icge (tgt := 169) rfl rfl (ti_ge rfl jk_400 ⟨fun c1 => ?_, fun c1 => ?_⟩)
    ·
      rw [if_pos (by omega)] at D
      refine x_aloadn (x := 95) rfl rfl ?_
      refine z_getR (N := 6) (b := 68) 2 0 rfl f_2_30 rfl J rfl 12160 ⟨rfl, rfl⟩ rfl ?_
      refine x_inv (N := m_X9_blame) (As := []) (b := 68) (st := []) (dx9 := 13) (mc := 0) (ms := 0) (host := "") 9 rfl t_X9_blame ⟨Or.inl q_2_59, i_X9_blame.1, i_X9_blame.2⟩ ⟨by decide, rfl⟩ (congrArg Prod.fst (J.1.1 68 (9, 6) rfl)) rfl (by decide) rfl rfl ⟨by decide, by decide⟩ (jC.of rfl k_X9_blame rfl ?_)
      show jX m_X9_blame 13 0 0 0 [(0, .ref 68)] [] _ 0 0 _
      refine x_aloadn (x := 68) rfl rfl ?_
      refine x_aloadn (x := 68) rfl rfl ?_
      refine z_getM (N := 6) (v := g0) 9 3 rfl f_9_22 rfl J rfl z0 ?_
      refine z_putI (N := 6) (w := g0.toInt) 9 2 rfl f_9_19 rfl (jfin_no TX9 RX9 6 rfl rfl) hD J Sm rfl rfl rfl (pw_68_2 (by omega)) rfl (fun h w2 J Sm => ?_)
      rw [vwf w2 (show g0.toInt = g0.toInt from by omega)] at D
      refine x_iconst (v := 0) rfl ki_0 ?_
      refine x_zret rfl rfl (by decide) ?_
      show jX m_X2_readSum 14 0 0 176 [(0, .ref 95), (1, .int 4), (2, .int l2), (3, .int l3)] [.int 0] _ 0 0 _
      refine x_zret rfl rfl (by decide) ?_
      exact hQ _ _ (jr_of jk_0 (by omega)) J Sm _ _ (jmo w2 rfl z1) (jmo w2 rfl z0) (by omega) ((congrArg Prod.fst D).symm.trans (show 0 = (0 : Int32).toInt from by have := jk_0; omega)) (congrArg Prod.snd D).symm
    ·
      rw [if_neg (by omega)] at D
      refine x_iconst (v := (-1)) rfl ki_m1 ?_
      refine x_istore (lsx9 := [(4, .int (-1)), (0, .ref 95), (1, .int 4), (2, .int l2), (3, .int l3)]) rfl rfl rfl ?_
      refine x_iconst (v := 0) rfl ki_0 ?_
      refine x_istore (lsx9 := [(5, .int 0), (4, .int (-1)), (0, .ref 95), (1, .int 4), (2, .int l2), (3, .int l3)]) rfl rfl rfl ?_
      exact jX.sub (jsb_c rfl (jsb_c rfl (jsb_c rfl (jsb_c rfl (jsb_c rfl (jsb_c rfl jsb_n)))))) (ct_X2_readSum_r95_c4d_17 hD hQ ih 401 l2 l3 (-1) 0 g0 g1 h (by have := jk_0; omega) (jr_of rfl (by omega)) (jr_of rfl (by omega)) (jr_of jk_m1 (by omega)) (jr_of jk_0 (by omega)) (jr_of rfl (by omega)) (jr_of rfl (by omega)) (by omega) z0 z1 (by omega) J Sm (by rw [jk_m1, jk_0]; exact D))
set_option maxRecDepth 100000 in
set_option maxHeartbeats 4000000 in
theorem sf_X2_readSum_r95_c4d {Dy : jH → Prop} {h : jH} {Q : Option Value → jH → Prop} {dr : (Int × jW)} (hD : jDk Dy) (J : jJ jSgX Dy h) {p0 p1 : Int32} (zp0 : jiv h 68 5 = p0) (zp1 : jiv h 68 3 = p1) (rl_p0 : (p0.toInt ≠ 3 ∨ p1.toInt ≤ 399)) (D : d_X2_readSum_r95_c4d (vw h) = dr) (hQ : ∀ (v : Int32) hx9, 0 ≤ v.toInt ∧ v.toInt ≤ 1 → jJ jSgX Dy hx9 → jSm fp_X2_readSum_r95_c4d h hx9 → ∀ u0 u1 : Int32, jiv hx9 68 5 = u0 → jiv hx9 68 3 = u1 → (u0.toInt ≠ 3 ∨ u1.toInt ≤ 399) → dr.1 = v.toInt → dr.2 = vw hx9 → Q (some (.int v)) hx9) : jC m_X2_readSum 14 0 0 [.ref 95, .int 4] h Q := by
  refine jC.of rfl k_X2_readSum rfl ?_
  have Sm := jSm_rf fp_X2_readSum_r95_c4d h
  have ep0 := (show 0 ≤ p0.toInt ∧ p0.toInt ≤ 3 from zp0 ▸ jrg_f J sg_68_5_6_1_0_1)
  have ep1 := (show 0 ≤ p1.toInt ∧ p1.toInt ≤ 400 from zp1 ▸ jrg_f J sg_68_3_4_1_0_1)
  show jX m_X2_readSum 14 0 0 0 [(0, .ref 95), (1, .int 4)] [] _ 0 0 _
  unfold d_X2_readSum_r95_c4d at D
  try rw [vrf zp0] at D
  try rw [vrf zp1] at D
  refine x_iconst (v := (-1)) rfl ki_m1 ?_
  refine x_istoren (lsx9 := [(2, .int (-1)), (0, .ref 95), (1, .int 4)]) rfl rfl rfl ?_
  refine x_iconst (v := 0) rfl ki_0 ?_
  refine x_istoren (lsx9 := [(3, .int 0), (2, .int (-1)), (0, .ref 95), (1, .int 4)]) rfl rfl rfl ?_
  exact jX.sub (jsb_c rfl (jsb_c rfl (jsb_c rfl (jsb_c rfl jsb_n)))) (ct_X2_readSum_r95_c4d_4 hD hQ  401 (-1) 0 p1 p0 h (by have := jk_0; omega) (jr_of jk_m1 (by omega)) (jr_of jk_0 (by omega)) (jr_of rfl (by omega)) (jr_of rfl (by omega)) (by omega) zp1 zp0 J Sm (by rw [jk_m1, jk_0]; exact D))
def fp_X2_readFactor_r95_c3d : jFp := [(68, 2, 3), (68, 3, 4), (68, 4, 5), (68, 5, 6), (95, 4, 5), (95, 5, 6), (97, 0, 1200)]
set_option maxRecDepth 100000 in
set_option maxHeartbeats 4000000 in
theorem ct_X2_readFactor_r95_c3d_111 {Dy : jH → Prop} {h0 : jH} {Q : Option Value → jH → Prop} {dr : (Int × jW)} (hD : jDk Dy) (hQ : ∀ (v : Int32) hx9, 0 ≤ v.toInt ∧ v.toInt ≤ 1 → jJ jSgX Dy hx9 → jSm fp_X2_readFactor_r95_c3d h0 hx9 → ∀ u0 u1 : Int32, jiv hx9 68 5 = u0 → jiv hx9 68 3 = u1 → (u0.toInt ≠ 3 ∨ u1.toInt ≤ 399) → dr.1 = v.toInt → dr.2 = vw hx9 → Q (some (.int v)) hx9) : ∀ (s0 : Int32) (g0 : Int32) (g1 : Int32) (h : jH), 0 ≤ s0.toInt ∧ s0.toInt ≤ 1 → 0 ≤ g0.toInt ∧ g0.toInt ≤ 400 → 0 ≤ g1.toInt ∧ g1.toInt ≤ 3 → (g1.toInt ≠ 3 ∨ g0.toInt ≤ 399) → jiv h 68 3 = g0 → jiv h 68 5 = g1 → jJ jSgX Dy h → jSm fp_X2_readFactor_r95_c3d h0 h → d_X2_readFactor_r95_c3d_111  s0.toInt (vw h) = dr → jX m_X2_readFactor 15 0 0 111 [] [.int s0] h 0 0 Q := by
  intro s0 g0 g1 h y0 y1 y2 y3 z0 z1  J Sm D
  unfold d_X2_readFactor_r95_c3d_111 at D
  try rw [vrf z0] at D
  try rw [vrf z1] at D
  refine x_zret rfl rfl (jz01 (by omega)) ?_
  exact hQ _ _ (jr_of rfl (by omega)) J Sm _ _ z1 z0 (by omega) ((congrArg Prod.fst D).symm.trans (show s0.toInt = s0.toInt from by omega)) (congrArg Prod.snd D).symm
set_option maxRecDepth 100000 in
set_option maxHeartbeats 4000000 in
theorem ct_X2_readFactor_r95_c3d_200111 {Dy : jH → Prop} {h0 : jH} {Q : Option Value → jH → Prop} {dr : (Int × jW)} (hD : jDk Dy) (hQ : ∀ (v : Int32) hx9, 0 ≤ v.toInt ∧ v.toInt ≤ 1 → jJ jSgX Dy hx9 → jSm fp_X2_readFactor_r95_c3d h0 hx9 → ∀ u0 u1 : Int32, jiv hx9 68 5 = u0 → jiv hx9 68 3 = u1 → (u0.toInt ≠ 3 ∨ u1.toInt ≤ 399) → dr.1 = v.toInt → dr.2 = vw hx9 → Q (some (.int v)) hx9) : ∀ (g0 : Int32) (g1 : Int32) (h : jH), 0 ≤ g0.toInt ∧ g0.toInt ≤ 400 → 0 ≤ g1.toInt ∧ g1.toInt ≤ 3 → (g1.toInt ≠ 3 ∨ g0.toInt ≤ 399) → jiv h 68 3 = g0 → jiv h 68 5 = g1 → jJ jSgX Dy h → jSm fp_X2_readFactor_r95_c3d h0 h → d_X2_readFactor_r95_c3d_200111  (vw h) = dr → jX m_X2_readFactor 15 0 0 111 [] [.int 0] h 0 0 Q := by
  intro g0 g1 h y0 y1 y2 z0 z1  J Sm D
  unfold d_X2_readFactor_r95_c3d_200111 at D
  try rw [vrf z0] at D
  try rw [vrf z1] at D
  refine x_zret rfl rfl (by decide) ?_
  exact hQ _ _ (jr_of jk_0 (by omega)) J Sm _ _ z1 z0 (by omega) ((congrArg Prod.fst D).symm.trans (show 0 = (0 : Int32).toInt from by have := jk_0; omega)) (congrArg Prod.snd D).symm
set_option maxRecDepth 100000 in
set_option maxHeartbeats 4000000 in
theorem ct_X2_readFactor_r95_c3d_300057 {Dy : jH → Prop} {h0 : jH} {Q : Option Value → jH → Prop} {dr : (Int × jW)} (hD : jDk Dy) (hQ : ∀ (v : Int32) hx9, 0 ≤ v.toInt ∧ v.toInt ≤ 1 → jJ jSgX Dy hx9 → jSm fp_X2_readFactor_r95_c3d h0 hx9 → ∀ u0 u1 : Int32, jiv hx9 68 5 = u0 → jiv hx9 68 3 = u1 → (u0.toInt ≠ 3 ∨ u1.toInt ≤ 399) → dr.1 = v.toInt → dr.2 = vw hx9 → Q (some (.int v)) hx9) : ∀ (g0 : Int32) (g1 : Int32) (h : jH), 0 ≤ g0.toInt ∧ g0.toInt ≤ 400 → 0 ≤ g1.toInt ∧ g1.toInt ≤ 3 → (g1.toInt ≠ 3 ∨ g0.toInt ≤ 399) → jiv h 68 3 = g0 → jiv h 68 5 = g1 → jJ jSgX Dy h → jSm fp_X2_readFactor_r95_c3d h0 h → d_X2_readFactor_r95_c3d_300057  (vw h) = dr → jX m_X2_readFactor 15 0 0 57 [] [.int 1] h 0 0 Q := by
  intro g0 g1 h y0 y1 y2 z0 z1  J Sm D
  unfold d_X2_readFactor_r95_c3d_300057 at D
  try rw [vrf z0] at D
  try rw [vrf z1] at D
  refine x_zret rfl rfl (by decide) ?_
  exact hQ _ _ (jr_of jk_1 (by omega)) J Sm _ _ z1 z0 (by omega) ((congrArg Prod.fst D).symm.trans (show 1 = (1 : Int32).toInt from by have := jk_1; omega)) (congrArg Prod.snd D).symm
set_option maxRecDepth 100000 in
set_option maxHeartbeats 4000000 in
theorem ct_X2_readFactor_r95_c3d_200057 {Dy : jH → Prop} {h0 : jH} {Q : Option Value → jH → Prop} {dr : (Int × jW)} (hD : jDk Dy) (hQ : ∀ (v : Int32) hx9, 0 ≤ v.toInt ∧ v.toInt ≤ 1 → jJ jSgX Dy hx9 → jSm fp_X2_readFactor_r95_c3d h0 hx9 → ∀ u0 u1 : Int32, jiv hx9 68 5 = u0 → jiv hx9 68 3 = u1 → (u0.toInt ≠ 3 ∨ u1.toInt ≤ 399) → dr.1 = v.toInt → dr.2 = vw hx9 → Q (some (.int v)) hx9) : ∀ (g0 : Int32) (g1 : Int32) (h : jH), 0 ≤ g0.toInt ∧ g0.toInt ≤ 400 → 0 ≤ g1.toInt ∧ g1.toInt ≤ 3 → (g1.toInt ≠ 3 ∨ g0.toInt ≤ 399) → jiv h 68 3 = g0 → jiv h 68 5 = g1 → jJ jSgX Dy h → jSm fp_X2_readFactor_r95_c3d h0 h → d_X2_readFactor_r95_c3d_200057  (vw h) = dr → jX m_X2_readFactor 15 0 0 57 [] [.int 0] h 0 0 Q := by
  intro g0 g1 h y0 y1 y2 z0 z1  J Sm D
  unfold d_X2_readFactor_r95_c3d_200057 at D
  try rw [vrf z0] at D
  try rw [vrf z1] at D
  refine x_zret rfl rfl (by decide) ?_
  exact hQ _ _ (jr_of jk_0 (by omega)) J Sm _ _ z1 z0 (by omega) ((congrArg Prod.fst D).symm.trans (show 0 = (0 : Int32).toInt from by have := jk_0; omega)) (congrArg Prod.snd D).symm
set_option maxRecDepth 100000 in
set_option maxHeartbeats 4000000 in
theorem ct_X2_readFactor_r95_c3d_56 {Dy : jH → Prop} {h0 : jH} {Q : Option Value → jH → Prop} {dr : (Int × jW)} (hD : jDk Dy) (hQ : ∀ (v : Int32) hx9, 0 ≤ v.toInt ∧ v.toInt ≤ 1 → jJ jSgX Dy hx9 → jSm fp_X2_readFactor_r95_c3d h0 hx9 → ∀ u0 u1 : Int32, jiv hx9 68 5 = u0 → jiv hx9 68 3 = u1 → (u0.toInt ≠ 3 ∨ u1.toInt ≤ 399) → dr.1 = v.toInt → dr.2 = vw hx9 → Q (some (.int v)) hx9) : ∀ (g0 : Int32) (g1 : Int32) (h : jH), 0 ≤ g0.toInt ∧ g0.toInt ≤ 400 → 0 ≤ g1.toInt ∧ g1.toInt ≤ 3 → (g1.toInt ≠ 3 ∨ g0.toInt ≤ 399) → jiv h 68 3 = g0 → jiv h 68 5 = g1 → jJ jSgX Dy h → jSm fp_X2_readFactor_r95_c3d h0 h → d_X2_readFactor_r95_c3d_56  (vw h) = dr → jX m_X2_readFactor 15 0 0 56 [] [] h 0 0 Q := by
  intro g0 g1 h y0 y1 y2 z0 z1  J Sm D
  unfold d_X2_readFactor_r95_c3d_56 at D
  try rw [vrf z0] at D
  try rw [vrf z1] at D
  refine x_iconst (v := 0) rfl ki_0 ?_
  exact jX.sub jsb_n (ct_X2_readFactor_r95_c3d_200057 hD hQ  g0 g1 h (jr_of rfl (by omega)) (jr_of rfl (by omega)) (by omega) z0 z1 J Sm D)
set_option maxRecDepth 100000 in
set_option maxHeartbeats 4000000 in
theorem sf_X2_readFactor_r95_c3d {Dy : jH → Prop} {h : jH} {Q : Option Value → jH → Prop} {dr : (Int × jW)} (hD : jDk Dy) (J : jJ jSgX Dy h) {p0 p1 : Int32} (zp0 : jiv h 68 5 = p0) (zp1 : jiv h 68 3 = p1) (rl_p0 : (p0.toInt ≠ 3 ∨ p1.toInt ≤ 399)) (D : d_X2_readFactor_r95_c3d (vw h) = dr) (hQ : ∀ (v : Int32) hx9, 0 ≤ v.toInt ∧ v.toInt ≤ 1 → jJ jSgX Dy hx9 → jSm fp_X2_readFactor_r95_c3d h hx9 → ∀ u0 u1 : Int32, jiv hx9 68 5 = u0 → jiv hx9 68 3 = u1 → (u0.toInt ≠ 3 ∨ u1.toInt ≤ 399) → dr.1 = v.toInt → dr.2 = vw hx9 → Q (some (.int v)) hx9) : jC m_X2_readFactor 15 0 0 [.ref 95, .int 3] h Q := by
  refine jC.of rfl k_X2_readFactor rfl ?_
  have Sm := jSm_rf fp_X2_readFactor_r95_c3d h
  have ep0 := (show 0 ≤ p0.toInt ∧ p0.toInt ≤ 3 from zp0 ▸ jrg_f J sg_68_5_6_1_0_1)
  have ep1 := (show 0 ≤ p1.toInt ∧ p1.toInt ≤ 400 from zp1 ▸ jrg_f J sg_68_3_4_1_0_1)
  show jX m_X2_readFactor 15 0 0 0 [(0, .ref 95), (1, .int 3)] [] _ 0 0 _
  unfold d_X2_readFactor_r95_c3d at D
  try rw [vrf zp0] at D
  try rw [vrf zp1] at D
  refine x_aloadn (x := 95) rfl rfl ?_
  refine z_getR (N := 6) (b := 68) 2 0 rfl f_2_30 rfl J rfl 12160 ⟨rfl, rfl⟩ rfl ?_
  refine x_bipush (v := 91) rfl kb_91 ?_
  refine x_inv (N := m_X9_isSign) (As := [.int 91]) (b := 68) (st := []) (dx9 := 1) (mc := 0) (ms := 0) (host := "") 9 rfl t_X9_isSign ⟨Or.inl q_2_55, i_X9_isSign.1, i_X9_isSign.2⟩ ⟨by decide, rfl⟩ (congrArg Prod.fst (J.1.1 68 (9, 6) rfl)) rfl (by decide) rfl rfl ⟨by decide, by decide⟩ (sf_X9_isSign_r68d (jr_of jk_91 (by omega)) hD J zp0 zp1 (by omega) rfl  (fun v6 h ev6 J S1 u2 u3 qu2 qu3 ru2 X4 X5 => ?_))
  have Sm := jSm_tr rfl Sm S1
  try rw [jk_91] at X4
  try rw [X4] at D
  try rw [← X5] at D
  have eu2 := (show 0 ≤ u2.toInt ∧ u2.toInt ≤ 3 from qu2 ▸ jrg_f J sg_68_5_6_1_0_1)
  have Luu2 := congrArg Int32.toInt (((jmc S1 rfl zp0)).symm.trans qu2)
  try rw [Luu2] at D
  try rw [vrf qu2] at D
  have eu3 := (show 0 ≤ u3.toInt ∧ u3.toInt ≤ 400 from qu3 ▸ jrg_f J sg_68_3_4_1_0_1)
  have Luu3 := congrArg Int32.toInt (((jmc S1 rfl zp1)).symm.trans qu3)
  try rw [Luu3] at D
  try rw [vrf qu3] at D
  show jX m_X2_readFactor 15 0 0 9 [(0, .ref 95), (1, .int 3)] [.int v6] _ 0 0 _
  refine x_ifeq (tgt := 58) rfl rfl (ti_eq rfl jk_0 ⟨fun c7 => ?_, fun c7 => ?_⟩)
  ·
    rw [if_pos (by omega)] at D
    refine x_aloadn (x := 95) rfl rfl ?_
    refine z_getR (N := 6) (b := 68) 2 0 rfl f_2_30 rfl J rfl 12160 ⟨rfl, rfl⟩ rfl ?_
    refine x_ldc (v := 100000) rfl z_2_147 ?_
    refine x_inv (N := m_X9_numberTo) (As := [.int 100000]) (b := 68) (st := []) (dx9 := 1) (mc := 0) (ms := 0) (host := "") 9 rfl t_X9_numberTo ⟨Or.inl q_2_117, i_X9_numberTo.1, i_X9_numberTo.2⟩ ⟨by decide, rfl⟩ (congrArg Prod.fst (J.1.1 68 (9, 6) rfl)) rfl (by decide) rfl rfl ⟨by decide, by decide⟩ (sf_X9_numberTo_r68d (jr_of jk_100000 (by omega)) hD J rfl  (fun v11 h ev11 J S8 X9 X10 => ?_))
    have Sm := jSm_tr rfl Sm S8
    try rw [jk_100000] at X9
    try rw [X9] at D
    try rw [← X10] at D
    show jX m_X2_readFactor 15 0 0 67 [(0, .ref 95), (1, .int 3)] [.int v11] _ 0 0 _
    refine x_istoren (lsx9 := [(2, .int v11), (0, .ref 95), (1, .int 3)]) rfl rfl rfl ?_
    refine x_iloadn (x := v11) rfl rfl ?_
    refine x_iconst (v := (-1)) rfl ki_m1 ?_
    refine x_iceq (tgt := 80) rfl rfl (ti_eq rfl jk_m1 ⟨fun c12 => ?_, fun c12 => ?_⟩)
    ·
      rw [if_pos (by omega)] at D
      refine x_aloadn (x := 95) rfl rfl ?_
      refine z_getR (N := 6) (b := 68) 2 0 rfl f_2_30 rfl J rfl 12160 ⟨rfl, rfl⟩ rfl ?_
      refine x_ldcS (jstr.getD 6 jstr_0) rfl (List.mem_of_getElem? (i := 6) rfl) rfl rfl ?_
      show jX m_X2_readFactor 15 0 0 86 [(2, .int v11), (0, .ref 95), (1, .int 3)] [.ref 11, .ref 68] _ 0 0 _
      refine x_inv (N := m_X9_wordOf) (As := [.ref 11]) (b := 68) (st := []) (dx9 := 4) (mc := 0) (ms := 0) (host := "") 9 rfl t_X9_wordOf ⟨Or.inl q_2_67, i_X9_wordOf.1, i_X9_wordOf.2⟩ ⟨by decide, rfl⟩ (congrArg Prod.fst (J.1.1 68 (9, 6) rfl)) rfl (by decide) rfl rfl ⟨by decide, by decide⟩ (sf_X9_wordOf_r68_r11d  hD J rfl  (fun v16 h J S13 X14 X15 => ?_))
      have ev16 := jfull v16
      have Sm := jSm_tr rfl Sm S13
      try rw [X14] at D
      try rw [← X15] at D
      show jX m_X2_readFactor 15 0 0 89 [(2, .int v11), (0, .ref 95), (1, .int 3)] [.int v16] _ 0 0 _
      refine x_istoren (lsx9 := [(3, .int v16), (2, .int v11), (0, .ref 95), (1, .int 3)]) rfl rfl rfl ?_
      refine x_iloadn (x := v16) rfl rfl ?_
      refine x_iconst (v := (-1)) rfl ki_m1 ?_
      refine x_icne (tgt := 105) rfl rfl (ti_ne rfl jk_m1 ⟨fun c17 => ?_, fun c17 => ?_⟩)
      ·
        rw [if_neg (by omega)] at D
        refine x_aloadn (x := 95) rfl rfl ?_
        refine x_iconst (v := 2) rfl ki_2 ?_
        refine x_iloadn (x := v16) rfl rfl ?_
        refine x_inv (N := m_X2_readPart) (As := [.int 2, .int v16]) (b := 95) (st := []) (dx9 := 3) (mc := 0) (ms := 0) (host := "") 2 rfl t_X2_readPart ⟨Or.inl q_2_141, i_X2_readPart.1, i_X2_readPart.2⟩ ⟨by decide, rfl⟩ (congrArg Prod.fst (J.1.1 95 (2, 6) rfl)) rfl (by decide) rfl rfl ⟨by decide, by decide⟩ (sf_X2_readPart_r95d (jr_of jk_2 (by omega)) hD J (jmc S13 rfl (jmc S8 rfl qu2)) (jmc S13 rfl (jmc S8 rfl qu3)) (by omega) rfl  (fun v23 h ev23 J S18 u19 u20 qu19 qu20 ru19 X21 X22 => ?_))
        have Sm := jSm_tr rfl Sm S18
        try rw [jk_2] at X21
        try rw [jk_2] at X22
        try rw [X21] at D
        try rw [X22] at D
        have eu19 := (show 0 ≤ u19.toInt ∧ u19.toInt ≤ 3 from qu19 ▸ jrg_f J sg_68_5_6_1_0_1)
        try rw [vrf qu19] at D
        have eu20 := (show 0 ≤ u20.toInt ∧ u20.toInt ≤ 400 from qu20 ▸ jrg_f J sg_68_3_4_1_0_1)
        try rw [vrf qu20] at D
        show jX m_X2_readFactor 15 0 0 111 [(3, .int v16), (2, .int v11), (0, .ref 95), (1, .int 3)] [.int v23] _ 0 0 _
        exact jX.sub jsb_n (ct_X2_readFactor_r95_c3d_111 hD hQ  v23 u20 u19 h (jr_of rfl (by omega)) (jr_of rfl (by omega)) (jr_of rfl (by omega)) (by omega) qu20 qu19 J Sm D)
      ·
        rw [if_pos (by omega)] at D
        refine x_aloadn (x := 95) rfl rfl ?_
        refine z_getR (N := 6) (b := 68) 2 0 rfl f_2_30 rfl J rfl 12160 ⟨rfl, rfl⟩ rfl ?_
        refine x_inv (N := m_X9_blame) (As := []) (b := 68) (st := []) (dx9 := 14) (mc := 0) (ms := 0) (host := "") 9 rfl t_X9_blame ⟨Or.inl q_2_59, i_X9_blame.1, i_X9_blame.2⟩ ⟨by decide, rfl⟩ (congrArg Prod.fst (J.1.1 68 (9, 6) rfl)) rfl (by decide) rfl rfl ⟨by decide, by decide⟩ (jC.of rfl k_X9_blame rfl ?_)
        show jX m_X9_blame 14 0 0 0 [(0, .ref 68)] [] _ 0 0 _
        refine x_aloadn (x := 68) rfl rfl ?_
        refine x_aloadn (x := 68) rfl rfl ?_
        refine z_getM (N := 6) (v := u3) 9 3 rfl f_9_22 rfl J rfl (jmc S13 rfl (jmc S8 rfl qu3)) ?_
        refine z_putI (N := 6) (w := u3.toInt) 9 2 rfl f_9_19 rfl (jfin_no TX9 RX9 6 rfl rfl) hD J Sm rfl rfl rfl (pw_68_2 (by omega)) rfl (fun h w24 J Sm => ?_)
        rw [vwf w24 (show u3.toInt = u3.toInt from by omega)] at D
        refine x_iconst (v := 0) rfl ki_0 ?_
        refine x_zret rfl rfl (by decide) ?_
        show jX m_X2_readFactor 15 0 0 102 [(3, .int v16), (2, .int v11), (0, .ref 95), (1, .int 3)] [.int 0] _ 0 0 _
        refine x_goto (tgt := 111) rfl rfl ?_
        exact jX.sub jsb_n (ct_X2_readFactor_r95_c3d_200111 hD hQ  u3 u2 h (jr_of rfl (by omega)) (jr_of rfl (by omega)) (by omega) (jmo w24 rfl (jmc S13 rfl (jmc S8 rfl qu3))) (jmo w24 rfl (jmc S13 rfl (jmc S8 rfl qu2))) J Sm D)
    ·
      rw [if_neg (by omega)] at D
      refine x_aloadn (x := 95) rfl rfl ?_
      refine x_iconst (v := 1) rfl ki_1 ?_
      refine x_iloadn (x := v11) rfl rfl ?_
      refine x_inv (N := m_X2_readPart) (As := [.int 1, .int v11]) (b := 95) (st := []) (dx9 := 3) (mc := 0) (ms := 0) (host := "") 2 rfl t_X2_readPart ⟨Or.inl q_2_141, i_X2_readPart.1, i_X2_readPart.2⟩ ⟨by decide, rfl⟩ (congrArg Prod.fst (J.1.1 95 (2, 6) rfl)) rfl (by decide) rfl rfl ⟨by decide, by decide⟩ (sf_X2_readPart_r95d (jr_of jk_1 (by omega)) hD J (jmc S8 rfl qu2) (jmc S8 rfl qu3) (by omega) rfl  (fun v30 h ev30 J S25 u26 u27 qu26 qu27 ru26 X28 X29 => ?_))
      have Sm := jSm_tr rfl Sm S25
      try rw [jk_1] at X28
      try rw [jk_1] at X29
      try rw [X28] at D
      try rw [X29] at D
      have eu26 := (show 0 ≤ u26.toInt ∧ u26.toInt ≤ 3 from qu26 ▸ jrg_f J sg_68_5_6_1_0_1)
      try rw [vrf qu26] at D
      have eu27 := (show 0 ≤ u27.toInt ∧ u27.toInt ≤ 400 from qu27 ▸ jrg_f J sg_68_3_4_1_0_1)
      try rw [vrf qu27] at D
      show jX m_X2_readFactor 15 0 0 79 [(2, .int v11), (0, .ref 95), (1, .int 3)] [.int v30] _ 0 0 _
      refine x_zret rfl rfl (jz01 (by omega)) ?_
      exact hQ _ _ (jr_of rfl (by omega)) J Sm _ _ qu26 qu27 (by omega) ((congrArg Prod.fst D).symm.trans X28) ((congrArg Prod.snd D).symm.trans X29)
  ·
    rw [if_neg (by omega)] at D
    refine x_iloadn (x := 3) rfl rfl ?_
    refine x_bipush (v := 8) rfl kb_8 ?_
    refine x_iclt (tgt := 26) rfl rfl (ti_lt jk_3 jk_8 (br_t (by omega) ?_))
    refine x_aloadn (x := 95) rfl rfl ?_
    refine z_getR (N := 6) (b := 68) 2 0 rfl f_2_30 rfl J rfl 12160 ⟨rfl, rfl⟩ rfl ?_
    refine x_inv (N := m_X9_step) (As := []) (b := 68) (st := []) (dx9 := 2) (mc := 0) (ms := 0) (host := "") 9 rfl t_X9_step ⟨Or.inl q_2_62, i_X9_step.1, i_X9_step.2⟩ ⟨by decide, rfl⟩ (congrArg Prod.fst (J.1.1 68 (9, 6) rfl)) rfl (by decide) rfl rfl ⟨by decide, by decide⟩ (sf_X9_step_r68d  hD J qu2 qu3 (by omega) rfl  (fun h J S31 u32 u33 qu32 qu33 ru32 X34 => ?_))
    have Sm := jSm_tr rfl Sm S31
    rw [X34] at D
    have eu32 := (show 0 ≤ u32.toInt ∧ u32.toInt ≤ 3 from qu32 ▸ jrg_f J sg_68_5_6_1_0_1)
    try rw [vrf qu32] at D
    have eu33 := (show 0 ≤ u33.toInt ∧ u33.toInt ≤ 400 from qu33 ▸ jrg_f J sg_68_3_4_1_0_1)
    try rw [vrf qu33] at D
    show jX m_X2_readFactor 15 0 0 33 [(0, .ref 95), (1, .int 3)] [] _ 0 0 _
    refine x_aloadn (x := 95) rfl rfl ?_
    refine x_iloadn (x := 3) rfl rfl ?_
    refine x_iconst (v := 1) rfl ki_1 ?_
    refine y_iadd (v := 4) rfl (by decide) ?_
    refine x_inv (N := m_X2_readSum) (As := [.int 4]) (b := 95) (st := []) (dx9 := 14) (mc := 0) (ms := 0) (host := "") 2 rfl t_X2_readSum ⟨Or.inl q_2_86, i_X2_readSum.1, i_X2_readSum.2⟩ ⟨by decide, rfl⟩ (congrArg Prod.fst (J.1.1 95 (2, 6) rfl)) rfl (by decide) rfl rfl ⟨by decide, by decide⟩ (sf_X2_readSum_r95_c4d  hD J qu32 qu33 (by omega) rfl  (fun v40 h ev40 J S35 u36 u37 qu36 qu37 ru36 X38 X39 => ?_))
    have Sm := jSm_tr rfl Sm S35
    try rw [X38] at D
    try rw [X39] at D
    have eu36 := (show 0 ≤ u36.toInt ∧ u36.toInt ≤ 3 from qu36 ▸ jrg_f J sg_68_5_6_1_0_1)
    try rw [vrf qu36] at D
    have eu37 := (show 0 ≤ u37.toInt ∧ u37.toInt ≤ 400 from qu37 ▸ jrg_f J sg_68_3_4_1_0_1)
    try rw [vrf qu37] at D
    show jX m_X2_readFactor 15 0 0 40 [(0, .ref 95), (1, .int 3)] [.int v40] _ 0 0 _
    refine x_ifeq (tgt := 56) rfl rfl (ti_eq rfl jk_0 ⟨fun c41 => ?_, fun c41 => ?_⟩)
    ·
      rw [if_pos (by omega)] at D
      exact jX.sub jsb_n (ct_X2_readFactor_r95_c3d_56 hD hQ  u37 u36 h (jr_of rfl (by omega)) (jr_of rfl (by omega)) (by omega) qu37 qu36 J Sm D)
    ·
      rw [if_neg (by omega)] at D
      refine x_aloadn (x := 95) rfl rfl ?_
      refine x_bipush (v := 93) rfl kb_93 ?_
      refine x_inv (N := m_X2_readSign) (As := [.int 93]) (b := 95) (st := []) (dx9 := 14) (mc := 0) (ms := 0) (host := "") 2 rfl t_X2_readSign ⟨Or.inl q_2_138, i_X2_readSign.1, i_X2_readSign.2⟩ ⟨by decide, rfl⟩ (congrArg Prod.fst (J.1.1 95 (2, 6) rfl)) rfl (by decide) rfl rfl ⟨by decide, by decide⟩ (jC.of rfl k_X2_readSign rfl ?_)
      show jX m_X2_readSign 14 0 0 0 [(0, .ref 95), (1, .int 93)] [] _ 0 0 _
      refine x_aloadn (x := 95) rfl rfl ?_
      refine z_getR (N := 6) (b := 68) 2 0 rfl f_2_30 rfl J rfl 12160 ⟨rfl, rfl⟩ rfl ?_
      refine x_iloadn (x := 93) rfl rfl ?_
      refine x_inv (N := m_X9_isSign) (As := [.int 93]) (b := 68) (st := []) (dx9 := 1) (mc := 0) (ms := 0) (host := "") 9 rfl t_X9_isSign ⟨Or.inl q_2_55, i_X9_isSign.1, i_X9_isSign.2⟩ ⟨by decide, rfl⟩ (congrArg Prod.fst (J.1.1 68 (9, 6) rfl)) rfl (by decide) rfl rfl ⟨by decide, by decide⟩ (sf_X9_isSign_r68d (jr_of jk_93 (by omega)) hD J qu36 qu37 (by omega) rfl  (fun v47 h ev47 J S42 u43 u44 qu43 qu44 ru43 X45 X46 => ?_))
      have Sm := jSm_tr rfl Sm S42
      try rw [jk_93] at X45
      try rw [X45] at D
      try rw [← X46] at D
      have eu43 := (show 0 ≤ u43.toInt ∧ u43.toInt ≤ 3 from qu43 ▸ jrg_f J sg_68_5_6_1_0_1)
      have Luu43 := congrArg Int32.toInt (((jmc S42 rfl qu36)).symm.trans qu43)
      try rw [Luu43] at D
      try rw [vrf qu43] at D
      have eu44 := (show 0 ≤ u44.toInt ∧ u44.toInt ≤ 400 from qu44 ▸ jrg_f J sg_68_3_4_1_0_1)
      have Luu44 := congrArg Int32.toInt (((jmc S42 rfl qu37)).symm.trans qu44)
      try rw [Luu44] at D
      try rw [vrf qu44] at D
      show jX m_X2_readSign 14 0 0 8 [(0, .ref 95), (1, .int 93)] [.int v47] _ 0 0 _
      refine x_ifne (tgt := 19) rfl rfl (ti_ne rfl jk_0 ⟨fun c48 => ?_, fun c48 => ?_⟩)
      ·
        rw [if_neg (by omega)] at D
        refine x_aloadn (x := 95) rfl rfl ?_
        refine z_getR (N := 6) (b := 68) 2 0 rfl f_2_30 rfl J rfl 12160 ⟨rfl, rfl⟩ rfl ?_
        refine x_inv (N := m_X9_step) (As := []) (b := 68) (st := []) (dx9 := 2) (mc := 0) (ms := 0) (host := "") 9 rfl t_X9_step ⟨Or.inl q_2_62, i_X9_step.1, i_X9_step.2⟩ ⟨by decide, rfl⟩ (congrArg Prod.fst (J.1.1 68 (9, 6) rfl)) rfl (by decide) rfl rfl ⟨by decide, by decide⟩ (sf_X9_step_r68d  hD J qu43 qu44 (by omega) rfl  (fun h J S49 u50 u51 qu50 qu51 ru50 X52 => ?_))
        have Sm := jSm_tr rfl Sm S49
        rw [X52] at D
        have eu50 := (show 0 ≤ u50.toInt ∧ u50.toInt ≤ 3 from qu50 ▸ jrg_f J sg_68_5_6_1_0_1)
        try rw [vrf qu50] at D
        have eu51 := (show 0 ≤ u51.toInt ∧ u51.toInt ≤ 400 from qu51 ▸ jrg_f J sg_68_3_4_1_0_1)
        try rw [vrf qu51] at D
        show jX m_X2_readSign 14 0 0 26 [(0, .ref 95), (1, .int 93)] [] _ 0 0 _
        refine x_iconst (v := 1) rfl ki_1 ?_
        refine x_zret rfl rfl (by decide) ?_
        show jX m_X2_readFactor 15 0 0 49 [(0, .ref 95), (1, .int 3)] [.int 1] _ 0 0 _
        refine x_ifeq (tgt := 56) rfl rfl (ti_eq jk_1 jk_0 (br_f (by omega) ?_))
        refine x_iconst (v := 1) rfl ki_1 ?_
        refine x_goto (tgt := 57) rfl rfl ?_
        exact jX.sub jsb_n (ct_X2_readFactor_r95_c3d_300057 hD hQ  u51 u50 h (jr_of rfl (by omega)) (jr_of rfl (by omega)) (by omega) qu51 qu50 J Sm D)
      ·
        rw [if_pos (by omega)] at D
        refine x_aloadn (x := 95) rfl rfl ?_
        refine z_getR (N := 6) (b := 68) 2 0 rfl f_2_30 rfl J rfl 12160 ⟨rfl, rfl⟩ rfl ?_
        refine x_inv (N := m_X9_blame) (As := []) (b := 68) (st := []) (dx9 := 13) (mc := 0) (ms := 0) (host := "") 9 rfl t_X9_blame ⟨Or.inl q_2_59, i_X9_blame.1, i_X9_blame.2⟩ ⟨by decide, rfl⟩ (congrArg Prod.fst (J.1.1 68 (9, 6) rfl)) rfl (by decide) rfl rfl ⟨by decide, by decide⟩ (jC.of rfl k_X9_blame rfl ?_)
        show jX m_X9_blame 13 0 0 0 [(0, .ref 68)] [] _ 0 0 _
        refine x_aloadn (x := 68) rfl rfl ?_
        refine x_aloadn (x := 68) rfl rfl ?_
        refine z_getM (N := 6) (v := u44) 9 3 rfl f_9_22 rfl J rfl qu44 ?_
        refine z_putI (N := 6) (w := u44.toInt) 9 2 rfl f_9_19 rfl (jfin_no TX9 RX9 6 rfl rfl) hD J Sm rfl rfl rfl (pw_68_2 (by omega)) rfl (fun h w53 J Sm => ?_)
        rw [vwf w53 (show u44.toInt = u44.toInt from by omega)] at D
        refine x_iconst (v := 0) rfl ki_0 ?_
        refine x_zret rfl rfl (by decide) ?_
        show jX m_X2_readSign 14 0 0 18 [(0, .ref 95), (1, .int 93)] [.int 0] _ 0 0 _
        refine x_zret rfl rfl (by decide) ?_
        show jX m_X2_readFactor 15 0 0 49 [(0, .ref 95), (1, .int 3)] [.int 0] _ 0 0 _
        refine x_ifeq (tgt := 56) rfl rfl (ti_eq jk_0 jk_0 (br_t (by omega) ?_))
        exact jX.sub jsb_n (ct_X2_readFactor_r95_c3d_56 hD hQ  u44 u43 h (jr_of rfl (by omega)) (jr_of rfl (by omega)) (by omega) (jmo w53 rfl qu44) (jmo w53 rfl qu43) J Sm D)
def fp_X2_readSum_r95_c3d : jFp := [(68, 2, 3), (68, 3, 4), (68, 4, 5), (68, 5, 6), (95, 4, 5), (95, 5, 6), (97, 0, 1200)]
set_option maxRecDepth 100000 in
set_option maxHeartbeats 4000000 in
theorem ct_X2_readSum_r95_c3d_100148 {Dy : jH → Prop} {h0 : jH} {Q : Option Value → jH → Prop} {dr : (Int × jW)} {K4 : Int → Int → jW → (Int × jW)} {R4 : Int} (hD : jDk Dy) (hQ : ∀ (v : Int32) hx9, 0 ≤ v.toInt ∧ v.toInt ≤ 1 → jJ jSgX Dy hx9 → jSm fp_X2_readSum_r95_c3d h0 hx9 → ∀ u0 u1 : Int32, jiv hx9 68 5 = u0 → jiv hx9 68 3 = u1 → (u0.toInt ≠ 3 ∨ u1.toInt ≤ 399) → dr.1 = v.toInt → dr.2 = vw hx9 → Q (some (.int v)) hx9) (k4 : ∀ (l2 : Int32) (l3 : Int32) (g0 : Int32) (g1 : Int32) (h : jH), 400 - l3.toInt < R4 → (-1) ≤ l2.toInt ∧ l2.toInt ≤ 4 → 0 ≤ l3.toInt ∧ l3.toInt ≤ 400 → 0 ≤ g0.toInt ∧ g0.toInt ≤ 400 → 0 ≤ g1.toInt ∧ g1.toInt ≤ 3 → (g1.toInt ≠ 3 ∨ g0.toInt ≤ 399) → jiv h 68 3 = g0 → jiv h 68 5 = g1 → jJ jSgX Dy h → jSm fp_X2_readSum_r95_c3d h0 h → K4 l2.toInt l3.toInt (vw h) = dr → jX m_X2_readSum 16 0 0 4 [(0, .ref 95), (1, .int 3), (2, .int l2), (3, .int l3)] [] h 0 0 Q) : ∀ (l3 : Int32) (g0 : Int32) (g1 : Int32) (h : jH), 0 ≤ l3.toInt ∧ l3.toInt ≤ 399 → 0 ≤ g0.toInt ∧ g0.toInt ≤ 400 → 0 ≤ g1.toInt ∧ g1.toInt ≤ 3 → (g1.toInt ≠ 3 ∨ g0.toInt ≤ 399) → jiv h 68 3 = g0 → jiv h 68 5 = g1 → 400 - l3.toInt ≤ R4 → jJ jSgX Dy h → jSm fp_X2_readSum_r95_c3d h0 h → d_X2_readSum_r95_c3d_100148 K4  l3.toInt (vw h) = dr → jX m_X2_readSum 16 0 0 148 [(0, .ref 95), (1, .int 3), (3, .int l3)] [.int (-1)] h 0 0 Q := by
  intro l3 g0 g1 h y0 y1 y2 y3 z0 z1 m4 J Sm D
  unfold d_X2_readSum_r95_c3d_100148 at D
  try rw [vrf z0] at D
  try rw [vrf z1] at D
  refine x_istoren (lsx9 := [(2, .int (-1)), (0, .ref 95), (1, .int 3), (3, .int l3)]) rfl rfl rfl ?_
  refine x_iloadn (x := (-1)) rfl rfl ?_
  refine x_iconst (v := (-1)) rfl ki_m1 ?_
  refine x_icne (tgt := 156) rfl rfl (ti_ne jk_m1 jk_m1 (bn_f (by omega) ?_))
  refine x_iconst (v := 1) rfl ki_1 ?_
  refine x_zret rfl rfl (by decide) ?_
  exact hQ _ _ (jr_of jk_1 (by omega)) J Sm _ _ z1 z0 (by omega) ((congrArg Prod.fst D).symm.trans (show 1 = (1 : Int32).toInt from by have := jk_1; omega)) (congrArg Prod.snd D).symm
set_option maxRecDepth 100000 in
set_option maxHeartbeats 4000000 in
theorem ct_X2_readSum_r95_c3d_600148 {Dy : jH → Prop} {h0 : jH} {Q : Option Value → jH → Prop} {dr : (Int × jW)} {K4 : Int → Int → jW → (Int × jW)} {R4 : Int} (hD : jDk Dy) (hQ : ∀ (v : Int32) hx9, 0 ≤ v.toInt ∧ v.toInt ≤ 1 → jJ jSgX Dy hx9 → jSm fp_X2_readSum_r95_c3d h0 hx9 → ∀ u0 u1 : Int32, jiv hx9 68 5 = u0 → jiv hx9 68 3 = u1 → (u0.toInt ≠ 3 ∨ u1.toInt ≤ 399) → dr.1 = v.toInt → dr.2 = vw hx9 → Q (some (.int v)) hx9) (k4 : ∀ (l2 : Int32) (l3 : Int32) (g0 : Int32) (g1 : Int32) (h : jH), 400 - l3.toInt < R4 → (-1) ≤ l2.toInt ∧ l2.toInt ≤ 4 → 0 ≤ l3.toInt ∧ l3.toInt ≤ 400 → 0 ≤ g0.toInt ∧ g0.toInt ≤ 400 → 0 ≤ g1.toInt ∧ g1.toInt ≤ 3 → (g1.toInt ≠ 3 ∨ g0.toInt ≤ 399) → jiv h 68 3 = g0 → jiv h 68 5 = g1 → jJ jSgX Dy h → jSm fp_X2_readSum_r95_c3d h0 h → K4 l2.toInt l3.toInt (vw h) = dr → jX m_X2_readSum 16 0 0 4 [(0, .ref 95), (1, .int 3), (2, .int l2), (3, .int l3)] [] h 0 0 Q) : ∀ (l3 : Int32) (g0 : Int32) (g1 : Int32) (h : jH), 0 ≤ l3.toInt ∧ l3.toInt ≤ 399 → 0 ≤ g0.toInt ∧ g0.toInt ≤ 400 → 0 ≤ g1.toInt ∧ g1.toInt ≤ 3 → (g1.toInt ≠ 3 ∨ g0.toInt ≤ 399) → jiv h 68 3 = g0 → jiv h 68 5 = g1 → 400 - l3.toInt ≤ R4 → jJ jSgX Dy h → jSm fp_X2_readSum_r95_c3d h0 h → d_X2_readSum_r95_c3d_600148 K4  l3.toInt (vw h) = dr → jX m_X2_readSum 16 0 0 148 [(0, .ref 95), (1, .int 3), (3, .int l3)] [.int 4] h 0 0 Q := by
  intro l3 g0 g1 h y0 y1 y2 y3 z0 z1 m4 J Sm D
  unfold d_X2_readSum_r95_c3d_600148 at D
  try rw [vrf z0] at D
  try rw [vrf z1] at D
  refine x_istoren (lsx9 := [(2, .int 4), (0, .ref 95), (1, .int 3), (3, .int l3)]) rfl rfl rfl ?_
  refine x_iloadn (x := 4) rfl rfl ?_
  refine x_iconst (v := (-1)) rfl ki_m1 ?_
  refine x_icne (tgt := 156) rfl rfl (ti_ne jk_4 jk_m1 (bn_t (by omega) ?_))
  refine x_aloadn (x := 95) rfl rfl ?_
  refine z_getR (N := 6) (b := 68) 2 0 rfl f_2_30 rfl J rfl 12160 ⟨rfl, rfl⟩ rfl ?_
  refine x_inv (N := m_X9_step) (As := []) (b := 68) (st := []) (dx9 := 2) (mc := 0) (ms := 0) (host := "") 9 rfl t_X9_step ⟨Or.inl q_2_62, i_X9_step.1, i_X9_step.2⟩ ⟨by decide, rfl⟩ (congrArg Prod.fst (J.1.1 68 (9, 6) rfl)) rfl (by decide) rfl rfl ⟨by decide, by decide⟩ (sf_X9_step_r68d  hD J z1 z0 (by omega) rfl  (fun h J S1 u2 u3 qu2 qu3 ru2 X4 => ?_))
  have Sm := jSm_tr rfl Sm S1
  rw [X4] at D
  have eu2 := (show 0 ≤ u2.toInt ∧ u2.toInt ≤ 3 from qu2 ▸ jrg_f J sg_68_5_6_1_0_1)
  try rw [vrf qu2] at D
  have eu3 := (show 0 ≤ u3.toInt ∧ u3.toInt ≤ 400 from qu3 ▸ jrg_f J sg_68_3_4_1_0_1)
  try rw [vrf qu3] at D
  show jX m_X2_readSum 16 0 0 163 [(2, .int 4), (0, .ref 95), (1, .int 3), (3, .int l3)] [] _ 0 0 _
  refine z_iinc (x := l3) (lsx9 := fun v5 => [(3, .int v5), (2, .int 4), (0, .ref 95), (1, .int 3)]) rfl rfl rfl jko_1 (by omega) rfl (fun _ => rfl) (fun v5 ev5 => ?_)
  refine x_goto (tgt := 4) rfl rfl ?_
  try rw [show (l3.toInt + 1) = v5.toInt from by omega] at D
  exact jX.sub (jsb_c rfl (jsb_c rfl (jsb_c rfl (jsb_c rfl jsb_n)))) (k4 4 v5 u3 u2 h (by omega) (jr_of jk_4 (by omega)) (jr_of rfl (by omega)) (jr_of rfl (by omega)) (jr_of rfl (by omega)) (by omega) qu3 qu2 J Sm (by rw [jk_4]; exact D))
set_option maxRecDepth 100000 in
set_option maxHeartbeats 4000000 in
theorem ct_X2_readSum_r95_c3d_500148 {Dy : jH → Prop} {h0 : jH} {Q : Option Value → jH → Prop} {dr : (Int × jW)} {K4 : Int → Int → jW → (Int × jW)} {R4 : Int} (hD : jDk Dy) (hQ : ∀ (v : Int32) hx9, 0 ≤ v.toInt ∧ v.toInt ≤ 1 → jJ jSgX Dy hx9 → jSm fp_X2_readSum_r95_c3d h0 hx9 → ∀ u0 u1 : Int32, jiv hx9 68 5 = u0 → jiv hx9 68 3 = u1 → (u0.toInt ≠ 3 ∨ u1.toInt ≤ 399) → dr.1 = v.toInt → dr.2 = vw hx9 → Q (some (.int v)) hx9) (k4 : ∀ (l2 : Int32) (l3 : Int32) (g0 : Int32) (g1 : Int32) (h : jH), 400 - l3.toInt < R4 → (-1) ≤ l2.toInt ∧ l2.toInt ≤ 4 → 0 ≤ l3.toInt ∧ l3.toInt ≤ 400 → 0 ≤ g0.toInt ∧ g0.toInt ≤ 400 → 0 ≤ g1.toInt ∧ g1.toInt ≤ 3 → (g1.toInt ≠ 3 ∨ g0.toInt ≤ 399) → jiv h 68 3 = g0 → jiv h 68 5 = g1 → jJ jSgX Dy h → jSm fp_X2_readSum_r95_c3d h0 h → K4 l2.toInt l3.toInt (vw h) = dr → jX m_X2_readSum 16 0 0 4 [(0, .ref 95), (1, .int 3), (2, .int l2), (3, .int l3)] [] h 0 0 Q) : ∀ (l3 : Int32) (g0 : Int32) (g1 : Int32) (h : jH), 0 ≤ l3.toInt ∧ l3.toInt ≤ 399 → 0 ≤ g0.toInt ∧ g0.toInt ≤ 400 → 0 ≤ g1.toInt ∧ g1.toInt ≤ 3 → (g1.toInt ≠ 3 ∨ g0.toInt ≤ 399) → jiv h 68 3 = g0 → jiv h 68 5 = g1 → 400 - l3.toInt ≤ R4 → jJ jSgX Dy h → jSm fp_X2_readSum_r95_c3d h0 h → d_X2_readSum_r95_c3d_500148 K4  l3.toInt (vw h) = dr → jX m_X2_readSum 16 0 0 148 [(0, .ref 95), (1, .int 3), (3, .int l3)] [.int 3] h 0 0 Q := by
  intro l3 g0 g1 h y0 y1 y2 y3 z0 z1 m4 J Sm D
  unfold d_X2_readSum_r95_c3d_500148 at D
  try rw [vrf z0] at D
  try rw [vrf z1] at D
  refine x_istoren (lsx9 := [(2, .int 3), (0, .ref 95), (1, .int 3), (3, .int l3)]) rfl rfl rfl ?_
  refine x_iloadn (x := 3) rfl rfl ?_
  refine x_iconst (v := (-1)) rfl ki_m1 ?_
  refine x_icne (tgt := 156) rfl rfl (ti_ne jk_3 jk_m1 (bn_t (by omega) ?_))
  refine x_aloadn (x := 95) rfl rfl ?_
  refine z_getR (N := 6) (b := 68) 2 0 rfl f_2_30 rfl J rfl 12160 ⟨rfl, rfl⟩ rfl ?_
  refine x_inv (N := m_X9_step) (As := []) (b := 68) (st := []) (dx9 := 2) (mc := 0) (ms := 0) (host := "") 9 rfl t_X9_step ⟨Or.inl q_2_62, i_X9_step.1, i_X9_step.2⟩ ⟨by decide, rfl⟩ (congrArg Prod.fst (J.1.1 68 (9, 6) rfl)) rfl (by decide) rfl rfl ⟨by decide, by decide⟩ (sf_X9_step_r68d  hD J z1 z0 (by omega) rfl  (fun h J S1 u2 u3 qu2 qu3 ru2 X4 => ?_))
  have Sm := jSm_tr rfl Sm S1
  rw [X4] at D
  have eu2 := (show 0 ≤ u2.toInt ∧ u2.toInt ≤ 3 from qu2 ▸ jrg_f J sg_68_5_6_1_0_1)
  try rw [vrf qu2] at D
  have eu3 := (show 0 ≤ u3.toInt ∧ u3.toInt ≤ 400 from qu3 ▸ jrg_f J sg_68_3_4_1_0_1)
  try rw [vrf qu3] at D
  show jX m_X2_readSum 16 0 0 163 [(2, .int 3), (0, .ref 95), (1, .int 3), (3, .int l3)] [] _ 0 0 _
  refine z_iinc (x := l3) (lsx9 := fun v5 => [(3, .int v5), (2, .int 3), (0, .ref 95), (1, .int 3)]) rfl rfl rfl jko_1 (by omega) rfl (fun _ => rfl) (fun v5 ev5 => ?_)
  refine x_goto (tgt := 4) rfl rfl ?_
  try rw [show (l3.toInt + 1) = v5.toInt from by omega] at D
  exact jX.sub (jsb_c rfl (jsb_c rfl (jsb_c rfl (jsb_c rfl jsb_n)))) (k4 3 v5 u3 u2 h (by omega) (jr_of jk_3 (by omega)) (jr_of rfl (by omega)) (jr_of rfl (by omega)) (jr_of rfl (by omega)) (by omega) qu3 qu2 J Sm (by rw [jk_3]; exact D))
set_option maxRecDepth 100000 in
set_option maxHeartbeats 4000000 in
theorem ct_X2_readSum_r95_c3d_115 {Dy : jH → Prop} {h0 : jH} {Q : Option Value → jH → Prop} {dr : (Int × jW)} {K4 : Int → Int → jW → (Int × jW)} {R4 : Int} (hD : jDk Dy) (hQ : ∀ (v : Int32) hx9, 0 ≤ v.toInt ∧ v.toInt ≤ 1 → jJ jSgX Dy hx9 → jSm fp_X2_readSum_r95_c3d h0 hx9 → ∀ u0 u1 : Int32, jiv hx9 68 5 = u0 → jiv hx9 68 3 = u1 → (u0.toInt ≠ 3 ∨ u1.toInt ≤ 399) → dr.1 = v.toInt → dr.2 = vw hx9 → Q (some (.int v)) hx9) (k4 : ∀ (l2 : Int32) (l3 : Int32) (g0 : Int32) (g1 : Int32) (h : jH), 400 - l3.toInt < R4 → (-1) ≤ l2.toInt ∧ l2.toInt ≤ 4 → 0 ≤ l3.toInt ∧ l3.toInt ≤ 400 → 0 ≤ g0.toInt ∧ g0.toInt ≤ 400 → 0 ≤ g1.toInt ∧ g1.toInt ≤ 3 → (g1.toInt ≠ 3 ∨ g0.toInt ≤ 399) → jiv h 68 3 = g0 → jiv h 68 5 = g1 → jJ jSgX Dy h → jSm fp_X2_readSum_r95_c3d h0 h → K4 l2.toInt l3.toInt (vw h) = dr → jX m_X2_readSum 16 0 0 4 [(0, .ref 95), (1, .int 3), (2, .int l2), (3, .int l3)] [] h 0 0 Q) : ∀ (l3 : Int32) (g0 : Int32) (g1 : Int32) (h : jH), 0 ≤ l3.toInt ∧ l3.toInt ≤ 399 → 0 ≤ g0.toInt ∧ g0.toInt ≤ 400 → 0 ≤ g1.toInt ∧ g1.toInt ≤ 3 → (g1.toInt ≠ 3 ∨ g0.toInt ≤ 399) → jiv h 68 3 = g0 → jiv h 68 5 = g1 → 400 - l3.toInt ≤ R4 → jJ jSgX Dy h → jSm fp_X2_readSum_r95_c3d h0 h → d_X2_readSum_r95_c3d_115 K4  l3.toInt (vw h) = dr → jX m_X2_readSum 16 0 0 115 [(0, .ref 95), (1, .int 3), (3, .int l3)] [] h 0 0 Q := by
  intro l3 g0 g1 h y0 y1 y2 y3 z0 z1 m4 J Sm D
  unfold d_X2_readSum_r95_c3d_115 at D
  try rw [vrf z0] at D
  try rw [vrf z1] at D
  refine x_aloadn (x := 95) rfl rfl ?_
  refine z_getR (N := 6) (b := 68) 2 0 rfl f_2_30 rfl J rfl 12160 ⟨rfl, rfl⟩ rfl ?_
  refine x_bipush (v := 43) rfl kb_43 ?_
  refine x_inv (N := m_X9_isSign) (As := [.int 43]) (b := 68) (st := []) (dx9 := 1) (mc := 0) (ms := 0) (host := "") 9 rfl t_X9_isSign ⟨Or.inl q_2_55, i_X9_isSign.1, i_X9_isSign.2⟩ ⟨by decide, rfl⟩ (congrArg Prod.fst (J.1.1 68 (9, 6) rfl)) rfl (by decide) rfl rfl ⟨by decide, by decide⟩ (sf_X9_isSign_r68d (jr_of jk_43 (by omega)) hD J z1 z0 (by omega) rfl  (fun v6 h ev6 J S1 u2 u3 qu2 qu3 ru2 X4 X5 => ?_))
  have Sm := jSm_tr rfl Sm S1
  try rw [jk_43] at X4
  try rw [X4] at D
  try rw [← X5] at D
  have eu2 := (show 0 ≤ u2.toInt ∧ u2.toInt ≤ 3 from qu2 ▸ jrg_f J sg_68_5_6_1_0_1)
  have Luu2 := congrArg Int32.toInt (((jmc S1 rfl z1)).symm.trans qu2)
  try rw [Luu2] at D
  try rw [vrf qu2] at D
  have eu3 := (show 0 ≤ u3.toInt ∧ u3.toInt ≤ 400 from qu3 ▸ jrg_f J sg_68_3_4_1_0_1)
  have Luu3 := congrArg Int32.toInt (((jmc S1 rfl z0)).symm.trans qu3)
  try rw [Luu3] at D
  try rw [vrf qu3] at D
  show jX m_X2_readSum 16 0 0 124 [(0, .ref 95), (1, .int 3), (3, .int l3)] [.int v6] _ 0 0 _
  refine x_ifeq (tgt := 131) rfl rfl (ti_eq rfl jk_0 ⟨fun c7 => ?_, fun c7 => ?_⟩)
  ·
    rw [if_pos (by omega)] at D
    refine x_aloadn (x := 95) rfl rfl ?_
    refine z_getR (N := 6) (b := 68) 2 0 rfl f_2_30 rfl J rfl 12160 ⟨rfl, rfl⟩ rfl ?_
    refine x_bipush (v := 45) rfl kb_45 ?_
    refine x_inv (N := m_X9_isSign) (As := [.int 45]) (b := 68) (st := []) (dx9 := 1) (mc := 0) (ms := 0) (host := "") 9 rfl t_X9_isSign ⟨Or.inl q_2_55, i_X9_isSign.1, i_X9_isSign.2⟩ ⟨by decide, rfl⟩ (congrArg Prod.fst (J.1.1 68 (9, 6) rfl)) rfl (by decide) rfl rfl ⟨by decide, by decide⟩ (sf_X9_isSign_r68d (jr_of jk_45 (by omega)) hD J qu2 qu3 (by omega) rfl  (fun v13 h ev13 J S8 u9 u10 qu9 qu10 ru9 X11 X12 => ?_))
    have Sm := jSm_tr rfl Sm S8
    try rw [jk_45] at X11
    try rw [X11] at D
    try rw [← X12] at D
    have eu9 := (show 0 ≤ u9.toInt ∧ u9.toInt ≤ 3 from qu9 ▸ jrg_f J sg_68_5_6_1_0_1)
    have Luu9 := congrArg Int32.toInt (((jmc S8 rfl qu2)).symm.trans qu9)
    try rw [Luu9] at D
    try rw [vrf qu9] at D
    have eu10 := (show 0 ≤ u10.toInt ∧ u10.toInt ≤ 400 from qu10 ▸ jrg_f J sg_68_3_4_1_0_1)
    have Luu10 := congrArg Int32.toInt (((jmc S8 rfl qu3)).symm.trans qu10)
    try rw [Luu10] at D
    try rw [vrf qu10] at D
    show jX m_X2_readSum 16 0 0 140 [(0, .ref 95), (1, .int 3), (3, .int l3)] [.int v13] _ 0 0 _
    refine x_ifeq (tgt := 147) rfl rfl (ti_eq rfl jk_0 ⟨fun c14 => ?_, fun c14 => ?_⟩)
    ·
      rw [if_pos (by omega)] at D
      refine x_iconst (v := (-1)) rfl ki_m1 ?_
      exact jX.sub (jsb_c rfl (jsb_c rfl (jsb_c rfl jsb_n))) (ct_X2_readSum_r95_c3d_100148 hD hQ k4 l3 u10 u9 h (jr_of rfl (by omega)) (jr_of rfl (by omega)) (jr_of rfl (by omega)) (by omega) qu10 qu9 (by omega) J Sm D)
    ·
      rw [if_neg (by omega)] at D
      refine x_iconst (v := 4) rfl ki_4 ?_
      refine x_goto (tgt := 148) rfl rfl ?_
      exact jX.sub (jsb_c rfl (jsb_c rfl (jsb_c rfl jsb_n))) (ct_X2_readSum_r95_c3d_600148 hD hQ k4 l3 u10 u9 h (jr_of rfl (by omega)) (jr_of rfl (by omega)) (jr_of rfl (by omega)) (by omega) qu10 qu9 (by omega) J Sm D)
  ·
    rw [if_neg (by omega)] at D
    refine x_iconst (v := 3) rfl ki_3 ?_
    refine x_goto (tgt := 148) rfl rfl ?_
    exact jX.sub (jsb_c rfl (jsb_c rfl (jsb_c rfl jsb_n))) (ct_X2_readSum_r95_c3d_500148 hD hQ k4 l3 u3 u2 h (jr_of rfl (by omega)) (jr_of rfl (by omega)) (jr_of rfl (by omega)) (by omega) qu3 qu2 (by omega) J Sm D)
set_option maxRecDepth 100000 in
set_option maxHeartbeats 4000000 in
theorem ct_X2_readSum_r95_c3d_105 {Dy : jH → Prop} {h0 : jH} {Q : Option Value → jH → Prop} {dr : (Int × jW)} {K4 : Int → Int → jW → (Int × jW)} {R4 : Int} (hD : jDk Dy) (hQ : ∀ (v : Int32) hx9, 0 ≤ v.toInt ∧ v.toInt ≤ 1 → jJ jSgX Dy hx9 → jSm fp_X2_readSum_r95_c3d h0 hx9 → ∀ u0 u1 : Int32, jiv hx9 68 5 = u0 → jiv hx9 68 3 = u1 → (u0.toInt ≠ 3 ∨ u1.toInt ≤ 399) → dr.1 = v.toInt → dr.2 = vw hx9 → Q (some (.int v)) hx9) (k4 : ∀ (l2 : Int32) (l3 : Int32) (g0 : Int32) (g1 : Int32) (h : jH), 400 - l3.toInt < R4 → (-1) ≤ l2.toInt ∧ l2.toInt ≤ 4 → 0 ≤ l3.toInt ∧ l3.toInt ≤ 400 → 0 ≤ g0.toInt ∧ g0.toInt ≤ 400 → 0 ≤ g1.toInt ∧ g1.toInt ≤ 3 → (g1.toInt ≠ 3 ∨ g0.toInt ≤ 399) → jiv h 68 3 = g0 → jiv h 68 5 = g1 → jJ jSgX Dy h → jSm fp_X2_readSum_r95_c3d h0 h → K4 l2.toInt l3.toInt (vw h) = dr → jX m_X2_readSum 16 0 0 4 [(0, .ref 95), (1, .int 3), (2, .int l2), (3, .int l3)] [] h 0 0 Q) : ∀ (l2 : Int32) (l3 : Int32) (g0 : Int32) (g1 : Int32) (h : jH), (-1) ≤ l2.toInt ∧ l2.toInt ≤ 4 → 0 ≤ l3.toInt ∧ l3.toInt ≤ 399 → 0 ≤ g0.toInt ∧ g0.toInt ≤ 400 → 0 ≤ g1.toInt ∧ g1.toInt ≤ 3 → (g1.toInt ≠ 3 ∨ g0.toInt ≤ 399) → jiv h 68 3 = g0 → jiv h 68 5 = g1 → 400 - l3.toInt ≤ R4 → jJ jSgX Dy h → jSm fp_X2_readSum_r95_c3d h0 h → d_X2_readSum_r95_c3d_105 K4  l2.toInt l3.toInt (vw h) = dr → jX m_X2_readSum 16 0 0 105 [(0, .ref 95), (1, .int 3), (2, .int l2), (3, .int l3)] [] h 0 0 Q := by
  intro l2 l3 g0 g1 h y0 y1 y2 y3 y4 z0 z1 m4 J Sm D
  unfold d_X2_readSum_r95_c3d_105 at D
  try rw [vrf z0] at D
  try rw [vrf z1] at D
  refine x_iloadn (x := l2) rfl rfl ?_
  refine x_iconst (v := (-1)) rfl ki_m1 ?_
  refine x_iceq (tgt := 115) rfl rfl (ti_eq rfl jk_m1 ⟨fun c1 => ?_, fun c1 => ?_⟩)
  ·
    rw [if_pos (by omega)] at D
    exact jX.sub (jsb_c rfl (jsb_c rfl (jsb_c rfl jsb_n))) (ct_X2_readSum_r95_c3d_115 hD hQ k4 l3 g0 g1 h (jr_of rfl (by omega)) (jr_of rfl (by omega)) (jr_of rfl (by omega)) (by omega) z0 z1 (by omega) J Sm D)
  ·
    rw [if_neg (by omega)] at D
    refine x_aloadn (x := 95) rfl rfl ?_
    refine x_iloadn (x := l2) rfl rfl ?_
    refine x_inv (N := m_X2_emit) (As := [.int l2]) (b := 95) (st := []) (dx9 := 1) (mc := 0) (ms := 0) (host := "") 2 rfl t_X2_emit ⟨Or.inl q_2_89, i_X2_emit.1, i_X2_emit.2⟩ ⟨by decide, rfl⟩ (congrArg Prod.fst (J.1.1 95 (2, 6) rfl)) rfl (by decide) rfl rfl ⟨by decide, by decide⟩ (sf_X2_emit_r95d  hD J rfl  (fun h J S2 X3 => ?_))
    have Sm := jSm_tr rfl Sm S2
    rw [X3] at D
    show jX m_X2_readSum 16 0 0 115 [(0, .ref 95), (1, .int 3), (2, .int l2), (3, .int l3)] [] _ 0 0 _
    exact jX.sub (jsb_c rfl (jsb_c rfl (jsb_c rfl jsb_n))) (ct_X2_readSum_r95_c3d_115 hD hQ k4 l3 g0 g1 h (jr_of rfl (by omega)) (jr_of rfl (by omega)) (jr_of rfl (by omega)) (by omega) (jmc S2 rfl z0) (jmc S2 rfl z1) (by omega) J Sm D)
set_option maxRecDepth 100000 in
set_option maxHeartbeats 4000000 in
theorem ct_X2_readSum_r95_c3d_100081 {Dy : jH → Prop} {h0 : jH} {Q : Option Value → jH → Prop} {dr : (Int × jW)} {K4 : Int → Int → jW → (Int × jW)} {K17 : Int → Int → Int → Int → jW → (Int × jW)} {R4 : Int} {R17 : Int} (hD : jDk Dy) (hQ : ∀ (v : Int32) hx9, 0 ≤ v.toInt ∧ v.toInt ≤ 1 → jJ jSgX Dy hx9 → jSm fp_X2_readSum_r95_c3d h0 hx9 → ∀ u0 u1 : Int32, jiv hx9 68 5 = u0 → jiv hx9 68 3 = u1 → (u0.toInt ≠ 3 ∨ u1.toInt ≤ 399) → dr.1 = v.toInt → dr.2 = vw hx9 → Q (some (.int v)) hx9) (k4 : ∀ (l2 : Int32) (l3 : Int32) (g0 : Int32) (g1 : Int32) (h : jH), 400 - l3.toInt < R4 → (-1) ≤ l2.toInt ∧ l2.toInt ≤ 4 → 0 ≤ l3.toInt ∧ l3.toInt ≤ 400 → 0 ≤ g0.toInt ∧ g0.toInt ≤ 400 → 0 ≤ g1.toInt ∧ g1.toInt ≤ 3 → (g1.toInt ≠ 3 ∨ g0.toInt ≤ 399) → jiv h 68 3 = g0 → jiv h 68 5 = g1 → jJ jSgX Dy h → jSm fp_X2_readSum_r95_c3d h0 h → K4 l2.toInt l3.toInt (vw h) = dr → jX m_X2_readSum 16 0 0 4 [(0, .ref 95), (1, .int 3), (2, .int l2), (3, .int l3)] [] h 0 0 Q) (k17 : ∀ (l2 : Int32) (l3 : Int32) (l4 : Int32) (l5 : Int32) (g0 : Int32) (g1 : Int32) (h : jH), 400 - l5.toInt < R17 → (-1) ≤ l2.toInt ∧ l2.toInt ≤ 4 → 0 ≤ l3.toInt ∧ l3.toInt ≤ 399 → (-1) ≤ l4.toInt ∧ l4.toInt ≤ 6 → 0 ≤ l5.toInt ∧ l5.toInt ≤ 400 → 0 ≤ g0.toInt ∧ g0.toInt ≤ 400 → 0 ≤ g1.toInt ∧ g1.toInt ≤ 3 → (g1.toInt ≠ 3 ∨ g0.toInt ≤ 399) → jiv h 68 3 = g0 → jiv h 68 5 = g1 → 400 - l3.toInt ≤ R4 → jJ jSgX Dy h → jSm fp_X2_readSum_r95_c3d h0 h → K17 l2.toInt l3.toInt l4.toInt l5.toInt (vw h) = dr → jX m_X2_readSum 16 0 0 17 [(0, .ref 95), (1, .int 3), (2, .int l2), (3, .int l3), (4, .int l4), (5, .int l5)] [] h 0 0 Q) : ∀ (l2 : Int32) (l3 : Int32) (l5 : Int32) (g0 : Int32) (g1 : Int32) (h : jH), (-1) ≤ l2.toInt ∧ l2.toInt ≤ 4 → 0 ≤ l3.toInt ∧ l3.toInt ≤ 399 → 0 ≤ l5.toInt ∧ l5.toInt ≤ 399 → 0 ≤ g0.toInt ∧ g0.toInt ≤ 400 → 0 ≤ g1.toInt ∧ g1.toInt ≤ 3 → (g1.toInt ≠ 3 ∨ g0.toInt ≤ 399) → jiv h 68 3 = g0 → jiv h 68 5 = g1 → 400 - l3.toInt ≤ R4 → 400 - l5.toInt ≤ R17 → jJ jSgX Dy h → jSm fp_X2_readSum_r95_c3d h0 h → d_X2_readSum_r95_c3d_100081 K4 K17  l2.toInt l3.toInt l5.toInt (vw h) = dr → jX m_X2_readSum 16 0 0 81 [(0, .ref 95), (1, .int 3), (2, .int l2), (3, .int l3), (5, .int l5)] [.int (-1)] h 0 0 Q := by
  intro l2 l3 l5 g0 g1 h y0 y1 y2 y3 y4 y5 z0 z1 m4 m17 J Sm D
  unfold d_X2_readSum_r95_c3d_100081 at D
  try rw [vrf z0] at D
  try rw [vrf z1] at D
  refine x_istore (lsx9 := [(4, .int (-1)), (0, .ref 95), (1, .int 3), (2, .int l2), (3, .int l3), (5, .int l5)]) rfl rfl rfl ?_
  refine x_iload (x := (-1)) rfl rfl ?_
  refine x_iconst (v := (-1)) rfl ki_m1 ?_
  refine x_icne (tgt := 92) rfl rfl (ti_ne jk_m1 jk_m1 (bn_f (by omega) ?_))
  refine x_goto (tgt := 105) rfl rfl ?_
  exact jX.sub (jsb_c rfl (jsb_c rfl (jsb_c rfl (jsb_c rfl jsb_n)))) (ct_X2_readSum_r95_c3d_105 hD hQ k4 l2 l3 g0 g1 h (jr_of rfl (by omega)) (jr_of rfl (by omega)) (jr_of rfl (by omega)) (jr_of rfl (by omega)) (by omega) z0 z1 (by omega) J Sm D)
set_option maxRecDepth 100000 in
set_option maxHeartbeats 4000000 in
theorem ct_X2_readSum_r95_c3d_800081 {Dy : jH → Prop} {h0 : jH} {Q : Option Value → jH → Prop} {dr : (Int × jW)} {K4 : Int → Int → jW → (Int × jW)} {K17 : Int → Int → Int → Int → jW → (Int × jW)} {R4 : Int} {R17 : Int} (hD : jDk Dy) (hQ : ∀ (v : Int32) hx9, 0 ≤ v.toInt ∧ v.toInt ≤ 1 → jJ jSgX Dy hx9 → jSm fp_X2_readSum_r95_c3d h0 hx9 → ∀ u0 u1 : Int32, jiv hx9 68 5 = u0 → jiv hx9 68 3 = u1 → (u0.toInt ≠ 3 ∨ u1.toInt ≤ 399) → dr.1 = v.toInt → dr.2 = vw hx9 → Q (some (.int v)) hx9) (k4 : ∀ (l2 : Int32) (l3 : Int32) (g0 : Int32) (g1 : Int32) (h : jH), 400 - l3.toInt < R4 → (-1) ≤ l2.toInt ∧ l2.toInt ≤ 4 → 0 ≤ l3.toInt ∧ l3.toInt ≤ 400 → 0 ≤ g0.toInt ∧ g0.toInt ≤ 400 → 0 ≤ g1.toInt ∧ g1.toInt ≤ 3 → (g1.toInt ≠ 3 ∨ g0.toInt ≤ 399) → jiv h 68 3 = g0 → jiv h 68 5 = g1 → jJ jSgX Dy h → jSm fp_X2_readSum_r95_c3d h0 h → K4 l2.toInt l3.toInt (vw h) = dr → jX m_X2_readSum 16 0 0 4 [(0, .ref 95), (1, .int 3), (2, .int l2), (3, .int l3)] [] h 0 0 Q) (k17 : ∀ (l2 : Int32) (l3 : Int32) (l4 : Int32) (l5 : Int32) (g0 : Int32) (g1 : Int32) (h : jH), 400 - l5.toInt < R17 → (-1) ≤ l2.toInt ∧ l2.toInt ≤ 4 → 0 ≤ l3.toInt ∧ l3.toInt ≤ 399 → (-1) ≤ l4.toInt ∧ l4.toInt ≤ 6 → 0 ≤ l5.toInt ∧ l5.toInt ≤ 400 → 0 ≤ g0.toInt ∧ g0.toInt ≤ 400 → 0 ≤ g1.toInt ∧ g1.toInt ≤ 3 → (g1.toInt ≠ 3 ∨ g0.toInt ≤ 399) → jiv h 68 3 = g0 → jiv h 68 5 = g1 → 400 - l3.toInt ≤ R4 → jJ jSgX Dy h → jSm fp_X2_readSum_r95_c3d h0 h → K17 l2.toInt l3.toInt l4.toInt l5.toInt (vw h) = dr → jX m_X2_readSum 16 0 0 17 [(0, .ref 95), (1, .int 3), (2, .int l2), (3, .int l3), (4, .int l4), (5, .int l5)] [] h 0 0 Q) : ∀ (l2 : Int32) (l3 : Int32) (l5 : Int32) (g0 : Int32) (g1 : Int32) (h : jH), (-1) ≤ l2.toInt ∧ l2.toInt ≤ 4 → 0 ≤ l3.toInt ∧ l3.toInt ≤ 399 → 0 ≤ l5.toInt ∧ l5.toInt ≤ 399 → 0 ≤ g0.toInt ∧ g0.toInt ≤ 400 → 0 ≤ g1.toInt ∧ g1.toInt ≤ 3 → (g1.toInt ≠ 3 ∨ g0.toInt ≤ 399) → jiv h 68 3 = g0 → jiv h 68 5 = g1 → 400 - l3.toInt ≤ R4 → 400 - l5.toInt ≤ R17 → jJ jSgX Dy h → jSm fp_X2_readSum_r95_c3d h0 h → d_X2_readSum_r95_c3d_800081 K4 K17  l2.toInt l3.toInt l5.toInt (vw h) = dr → jX m_X2_readSum 16 0 0 81 [(0, .ref 95), (1, .int 3), (2, .int l2), (3, .int l3), (5, .int l5)] [.int 6] h 0 0 Q := by
  intro l2 l3 l5 g0 g1 h y0 y1 y2 y3 y4 y5 z0 z1 m4 m17 J Sm D
  unfold d_X2_readSum_r95_c3d_800081 at D
  try rw [vrf z0] at D
  try rw [vrf z1] at D
  refine x_istore (lsx9 := [(4, .int 6), (0, .ref 95), (1, .int 3), (2, .int l2), (3, .int l3), (5, .int l5)]) rfl rfl rfl ?_
  refine x_iload (x := 6) rfl rfl ?_
  refine x_iconst (v := (-1)) rfl ki_m1 ?_
  refine x_icne (tgt := 92) rfl rfl (ti_ne jk_6 jk_m1 (bn_t (by omega) ?_))
  refine x_aloadn (x := 95) rfl rfl ?_
  refine z_getR (N := 6) (b := 68) 2 0 rfl f_2_30 rfl J rfl 12160 ⟨rfl, rfl⟩ rfl ?_
  refine x_inv (N := m_X9_step) (As := []) (b := 68) (st := []) (dx9 := 2) (mc := 0) (ms := 0) (host := "") 9 rfl t_X9_step ⟨Or.inl q_2_62, i_X9_step.1, i_X9_step.2⟩ ⟨by decide, rfl⟩ (congrArg Prod.fst (J.1.1 68 (9, 6) rfl)) rfl (by decide) rfl rfl ⟨by decide, by decide⟩ (sf_X9_step_r68d  hD J z1 z0 (by omega) rfl  (fun h J S1 u2 u3 qu2 qu3 ru2 X4 => ?_))
  have Sm := jSm_tr rfl Sm S1
  rw [X4] at D
  have eu2 := (show 0 ≤ u2.toInt ∧ u2.toInt ≤ 3 from qu2 ▸ jrg_f J sg_68_5_6_1_0_1)
  try rw [vrf qu2] at D
  have eu3 := (show 0 ≤ u3.toInt ∧ u3.toInt ≤ 400 from qu3 ▸ jrg_f J sg_68_3_4_1_0_1)
  try rw [vrf qu3] at D
  show jX m_X2_readSum 16 0 0 99 [(4, .int 6), (0, .ref 95), (1, .int 3), (2, .int l2), (3, .int l3), (5, .int l5)] [] _ 0 0 _
  refine z_iinc (x := l5) (lsx9 := fun v5 => [(5, .int v5), (4, .int 6), (0, .ref 95), (1, .int 3), (2, .int l2), (3, .int l3)]) rfl rfl rfl jko_1 (by omega) rfl (fun _ => rfl) (fun v5 ev5 => ?_)
  refine x_goto (tgt := 17) rfl rfl ?_
  try rw [show (l5.toInt + 1) = v5.toInt from by omega] at D
  exact jX.sub (jsb_c rfl (jsb_c rfl (jsb_c rfl (jsb_c rfl (jsb_c rfl (jsb_c rfl jsb_n)))))) (k17 l2 l3 6 v5 u3 u2 h (by omega) (jr_of rfl (by omega)) (jr_of rfl (by omega)) (jr_of jk_6 (by omega)) (jr_of rfl (by omega)) (jr_of rfl (by omega)) (jr_of rfl (by omega)) (by omega) qu3 qu2 (by omega) J Sm (by rw [jk_6]; exact D))
set_option maxRecDepth 100000 in
set_option maxHeartbeats 4000000 in
theorem ct_X2_readSum_r95_c3d_700081 {Dy : jH → Prop} {h0 : jH} {Q : Option Value → jH → Prop} {dr : (Int × jW)} {K4 : Int → Int → jW → (Int × jW)} {K17 : Int → Int → Int → Int → jW → (Int × jW)} {R4 : Int} {R17 : Int} (hD : jDk Dy) (hQ : ∀ (v : Int32) hx9, 0 ≤ v.toInt ∧ v.toInt ≤ 1 → jJ jSgX Dy hx9 → jSm fp_X2_readSum_r95_c3d h0 hx9 → ∀ u0 u1 : Int32, jiv hx9 68 5 = u0 → jiv hx9 68 3 = u1 → (u0.toInt ≠ 3 ∨ u1.toInt ≤ 399) → dr.1 = v.toInt → dr.2 = vw hx9 → Q (some (.int v)) hx9) (k4 : ∀ (l2 : Int32) (l3 : Int32) (g0 : Int32) (g1 : Int32) (h : jH), 400 - l3.toInt < R4 → (-1) ≤ l2.toInt ∧ l2.toInt ≤ 4 → 0 ≤ l3.toInt ∧ l3.toInt ≤ 400 → 0 ≤ g0.toInt ∧ g0.toInt ≤ 400 → 0 ≤ g1.toInt ∧ g1.toInt ≤ 3 → (g1.toInt ≠ 3 ∨ g0.toInt ≤ 399) → jiv h 68 3 = g0 → jiv h 68 5 = g1 → jJ jSgX Dy h → jSm fp_X2_readSum_r95_c3d h0 h → K4 l2.toInt l3.toInt (vw h) = dr → jX m_X2_readSum 16 0 0 4 [(0, .ref 95), (1, .int 3), (2, .int l2), (3, .int l3)] [] h 0 0 Q) (k17 : ∀ (l2 : Int32) (l3 : Int32) (l4 : Int32) (l5 : Int32) (g0 : Int32) (g1 : Int32) (h : jH), 400 - l5.toInt < R17 → (-1) ≤ l2.toInt ∧ l2.toInt ≤ 4 → 0 ≤ l3.toInt ∧ l3.toInt ≤ 399 → (-1) ≤ l4.toInt ∧ l4.toInt ≤ 6 → 0 ≤ l5.toInt ∧ l5.toInt ≤ 400 → 0 ≤ g0.toInt ∧ g0.toInt ≤ 400 → 0 ≤ g1.toInt ∧ g1.toInt ≤ 3 → (g1.toInt ≠ 3 ∨ g0.toInt ≤ 399) → jiv h 68 3 = g0 → jiv h 68 5 = g1 → 400 - l3.toInt ≤ R4 → jJ jSgX Dy h → jSm fp_X2_readSum_r95_c3d h0 h → K17 l2.toInt l3.toInt l4.toInt l5.toInt (vw h) = dr → jX m_X2_readSum 16 0 0 17 [(0, .ref 95), (1, .int 3), (2, .int l2), (3, .int l3), (4, .int l4), (5, .int l5)] [] h 0 0 Q) : ∀ (l2 : Int32) (l3 : Int32) (l5 : Int32) (g0 : Int32) (g1 : Int32) (h : jH), (-1) ≤ l2.toInt ∧ l2.toInt ≤ 4 → 0 ≤ l3.toInt ∧ l3.toInt ≤ 399 → 0 ≤ l5.toInt ∧ l5.toInt ≤ 399 → 0 ≤ g0.toInt ∧ g0.toInt ≤ 400 → 0 ≤ g1.toInt ∧ g1.toInt ≤ 3 → (g1.toInt ≠ 3 ∨ g0.toInt ≤ 399) → jiv h 68 3 = g0 → jiv h 68 5 = g1 → 400 - l3.toInt ≤ R4 → 400 - l5.toInt ≤ R17 → jJ jSgX Dy h → jSm fp_X2_readSum_r95_c3d h0 h → d_X2_readSum_r95_c3d_700081 K4 K17  l2.toInt l3.toInt l5.toInt (vw h) = dr → jX m_X2_readSum 16 0 0 81 [(0, .ref 95), (1, .int 3), (2, .int l2), (3, .int l3), (5, .int l5)] [.int 5] h 0 0 Q := by
  intro l2 l3 l5 g0 g1 h y0 y1 y2 y3 y4 y5 z0 z1 m4 m17 J Sm D
  unfold d_X2_readSum_r95_c3d_700081 at D
  try rw [vrf z0] at D
  try rw [vrf z1] at D
  refine x_istore (lsx9 := [(4, .int 5), (0, .ref 95), (1, .int 3), (2, .int l2), (3, .int l3), (5, .int l5)]) rfl rfl rfl ?_
  refine x_iload (x := 5) rfl rfl ?_
  refine x_iconst (v := (-1)) rfl ki_m1 ?_
  refine x_icne (tgt := 92) rfl rfl (ti_ne jk_5 jk_m1 (bn_t (by omega) ?_))
  refine x_aloadn (x := 95) rfl rfl ?_
  refine z_getR (N := 6) (b := 68) 2 0 rfl f_2_30 rfl J rfl 12160 ⟨rfl, rfl⟩ rfl ?_
  refine x_inv (N := m_X9_step) (As := []) (b := 68) (st := []) (dx9 := 2) (mc := 0) (ms := 0) (host := "") 9 rfl t_X9_step ⟨Or.inl q_2_62, i_X9_step.1, i_X9_step.2⟩ ⟨by decide, rfl⟩ (congrArg Prod.fst (J.1.1 68 (9, 6) rfl)) rfl (by decide) rfl rfl ⟨by decide, by decide⟩ (sf_X9_step_r68d  hD J z1 z0 (by omega) rfl  (fun h J S1 u2 u3 qu2 qu3 ru2 X4 => ?_))
  have Sm := jSm_tr rfl Sm S1
  rw [X4] at D
  have eu2 := (show 0 ≤ u2.toInt ∧ u2.toInt ≤ 3 from qu2 ▸ jrg_f J sg_68_5_6_1_0_1)
  try rw [vrf qu2] at D
  have eu3 := (show 0 ≤ u3.toInt ∧ u3.toInt ≤ 400 from qu3 ▸ jrg_f J sg_68_3_4_1_0_1)
  try rw [vrf qu3] at D
  show jX m_X2_readSum 16 0 0 99 [(4, .int 5), (0, .ref 95), (1, .int 3), (2, .int l2), (3, .int l3), (5, .int l5)] [] _ 0 0 _
  refine z_iinc (x := l5) (lsx9 := fun v5 => [(5, .int v5), (4, .int 5), (0, .ref 95), (1, .int 3), (2, .int l2), (3, .int l3)]) rfl rfl rfl jko_1 (by omega) rfl (fun _ => rfl) (fun v5 ev5 => ?_)
  refine x_goto (tgt := 17) rfl rfl ?_
  try rw [show (l5.toInt + 1) = v5.toInt from by omega] at D
  exact jX.sub (jsb_c rfl (jsb_c rfl (jsb_c rfl (jsb_c rfl (jsb_c rfl (jsb_c rfl jsb_n)))))) (k17 l2 l3 5 v5 u3 u2 h (by omega) (jr_of rfl (by omega)) (jr_of rfl (by omega)) (jr_of jk_5 (by omega)) (jr_of rfl (by omega)) (jr_of rfl (by omega)) (jr_of rfl (by omega)) (by omega) qu3 qu2 (by omega) J Sm (by rw [jk_5]; exact D))
set_option maxRecDepth 100000 in
set_option maxHeartbeats 4000000 in
theorem ct_X2_readSum_r95_c3d_47 {Dy : jH → Prop} {h0 : jH} {Q : Option Value → jH → Prop} {dr : (Int × jW)} {K4 : Int → Int → jW → (Int × jW)} {K17 : Int → Int → Int → Int → jW → (Int × jW)} {R4 : Int} {R17 : Int} (hD : jDk Dy) (hQ : ∀ (v : Int32) hx9, 0 ≤ v.toInt ∧ v.toInt ≤ 1 → jJ jSgX Dy hx9 → jSm fp_X2_readSum_r95_c3d h0 hx9 → ∀ u0 u1 : Int32, jiv hx9 68 5 = u0 → jiv hx9 68 3 = u1 → (u0.toInt ≠ 3 ∨ u1.toInt ≤ 399) → dr.1 = v.toInt → dr.2 = vw hx9 → Q (some (.int v)) hx9) (k4 : ∀ (l2 : Int32) (l3 : Int32) (g0 : Int32) (g1 : Int32) (h : jH), 400 - l3.toInt < R4 → (-1) ≤ l2.toInt ∧ l2.toInt ≤ 4 → 0 ≤ l3.toInt ∧ l3.toInt ≤ 400 → 0 ≤ g0.toInt ∧ g0.toInt ≤ 400 → 0 ≤ g1.toInt ∧ g1.toInt ≤ 3 → (g1.toInt ≠ 3 ∨ g0.toInt ≤ 399) → jiv h 68 3 = g0 → jiv h 68 5 = g1 → jJ jSgX Dy h → jSm fp_X2_readSum_r95_c3d h0 h → K4 l2.toInt l3.toInt (vw h) = dr → jX m_X2_readSum 16 0 0 4 [(0, .ref 95), (1, .int 3), (2, .int l2), (3, .int l3)] [] h 0 0 Q) (k17 : ∀ (l2 : Int32) (l3 : Int32) (l4 : Int32) (l5 : Int32) (g0 : Int32) (g1 : Int32) (h : jH), 400 - l5.toInt < R17 → (-1) ≤ l2.toInt ∧ l2.toInt ≤ 4 → 0 ≤ l3.toInt ∧ l3.toInt ≤ 399 → (-1) ≤ l4.toInt ∧ l4.toInt ≤ 6 → 0 ≤ l5.toInt ∧ l5.toInt ≤ 400 → 0 ≤ g0.toInt ∧ g0.toInt ≤ 400 → 0 ≤ g1.toInt ∧ g1.toInt ≤ 3 → (g1.toInt ≠ 3 ∨ g0.toInt ≤ 399) → jiv h 68 3 = g0 → jiv h 68 5 = g1 → 400 - l3.toInt ≤ R4 → jJ jSgX Dy h → jSm fp_X2_readSum_r95_c3d h0 h → K17 l2.toInt l3.toInt l4.toInt l5.toInt (vw h) = dr → jX m_X2_readSum 16 0 0 17 [(0, .ref 95), (1, .int 3), (2, .int l2), (3, .int l3), (4, .int l4), (5, .int l5)] [] h 0 0 Q) : ∀ (l2 : Int32) (l3 : Int32) (l5 : Int32) (g0 : Int32) (g1 : Int32) (h : jH), (-1) ≤ l2.toInt ∧ l2.toInt ≤ 4 → 0 ≤ l3.toInt ∧ l3.toInt ≤ 399 → 0 ≤ l5.toInt ∧ l5.toInt ≤ 399 → 0 ≤ g0.toInt ∧ g0.toInt ≤ 400 → 0 ≤ g1.toInt ∧ g1.toInt ≤ 3 → (g1.toInt ≠ 3 ∨ g0.toInt ≤ 399) → jiv h 68 3 = g0 → jiv h 68 5 = g1 → 400 - l3.toInt ≤ R4 → 400 - l5.toInt ≤ R17 → jJ jSgX Dy h → jSm fp_X2_readSum_r95_c3d h0 h → d_X2_readSum_r95_c3d_47 K4 K17  l2.toInt l3.toInt l5.toInt (vw h) = dr → jX m_X2_readSum 16 0 0 47 [(0, .ref 95), (1, .int 3), (2, .int l2), (3, .int l3), (5, .int l5)] [] h 0 0 Q := by
  intro l2 l3 l5 g0 g1 h y0 y1 y2 y3 y4 y5 z0 z1 m4 m17 J Sm D
  unfold d_X2_readSum_r95_c3d_47 at D
  try rw [vrf z0] at D
  try rw [vrf z1] at D
  refine x_aloadn (x := 95) rfl rfl ?_
  refine z_getR (N := 6) (b := 68) 2 0 rfl f_2_30 rfl J rfl 12160 ⟨rfl, rfl⟩ rfl ?_
  refine x_bipush (v := 42) rfl kb_42 ?_
  refine x_inv (N := m_X9_isSign) (As := [.int 42]) (b := 68) (st := []) (dx9 := 1) (mc := 0) (ms := 0) (host := "") 9 rfl t_X9_isSign ⟨Or.inl q_2_55, i_X9_isSign.1, i_X9_isSign.2⟩ ⟨by decide, rfl⟩ (congrArg Prod.fst (J.1.1 68 (9, 6) rfl)) rfl (by decide) rfl rfl ⟨by decide, by decide⟩ (sf_X9_isSign_r68d (jr_of jk_42 (by omega)) hD J z1 z0 (by omega) rfl  (fun v6 h ev6 J S1 u2 u3 qu2 qu3 ru2 X4 X5 => ?_))
  have Sm := jSm_tr rfl Sm S1
  try rw [jk_42] at X4
  try rw [X4] at D
  try rw [← X5] at D
  have eu2 := (show 0 ≤ u2.toInt ∧ u2.toInt ≤ 3 from qu2 ▸ jrg_f J sg_68_5_6_1_0_1)
  have Luu2 := congrArg Int32.toInt (((jmc S1 rfl z1)).symm.trans qu2)
  try rw [Luu2] at D
  try rw [vrf qu2] at D
  have eu3 := (show 0 ≤ u3.toInt ∧ u3.toInt ≤ 400 from qu3 ▸ jrg_f J sg_68_3_4_1_0_1)
  have Luu3 := congrArg Int32.toInt (((jmc S1 rfl z0)).symm.trans qu3)
  try rw [Luu3] at D
  try rw [vrf qu3] at D
  show jX m_X2_readSum 16 0 0 56 [(0, .ref 95), (1, .int 3), (2, .int l2), (3, .int l3), (5, .int l5)] [.int v6] _ 0 0 _
  refine x_ifeq (tgt := 63) rfl rfl (ti_eq rfl jk_0 ⟨fun c7 => ?_, fun c7 => ?_⟩)
  ·
    rw [if_pos (by omega)] at D
    refine x_aloadn (x := 95) rfl rfl ?_
    refine z_getR (N := 6) (b := 68) 2 0 rfl f_2_30 rfl J rfl 12160 ⟨rfl, rfl⟩ rfl ?_
    refine x_bipush (v := 47) rfl kb_47 ?_
    refine x_inv (N := m_X9_isSign) (As := [.int 47]) (b := 68) (st := []) (dx9 := 1) (mc := 0) (ms := 0) (host := "") 9 rfl t_X9_isSign ⟨Or.inl q_2_55, i_X9_isSign.1, i_X9_isSign.2⟩ ⟨by decide, rfl⟩ (congrArg Prod.fst (J.1.1 68 (9, 6) rfl)) rfl (by decide) rfl rfl ⟨by decide, by decide⟩ (sf_X9_isSign_r68d (jr_of jk_47 (by omega)) hD J qu2 qu3 (by omega) rfl  (fun v13 h ev13 J S8 u9 u10 qu9 qu10 ru9 X11 X12 => ?_))
    have Sm := jSm_tr rfl Sm S8
    try rw [jk_47] at X11
    try rw [X11] at D
    try rw [← X12] at D
    have eu9 := (show 0 ≤ u9.toInt ∧ u9.toInt ≤ 3 from qu9 ▸ jrg_f J sg_68_5_6_1_0_1)
    have Luu9 := congrArg Int32.toInt (((jmc S8 rfl qu2)).symm.trans qu9)
    try rw [Luu9] at D
    try rw [vrf qu9] at D
    have eu10 := (show 0 ≤ u10.toInt ∧ u10.toInt ≤ 400 from qu10 ▸ jrg_f J sg_68_3_4_1_0_1)
    have Luu10 := congrArg Int32.toInt (((jmc S8 rfl qu3)).symm.trans qu10)
    try rw [Luu10] at D
    try rw [vrf qu10] at D
    show jX m_X2_readSum 16 0 0 72 [(0, .ref 95), (1, .int 3), (2, .int l2), (3, .int l3), (5, .int l5)] [.int v13] _ 0 0 _
    refine x_ifeq (tgt := 80) rfl rfl (ti_eq rfl jk_0 ⟨fun c14 => ?_, fun c14 => ?_⟩)
    ·
      rw [if_pos (by omega)] at D
      refine x_iconst (v := (-1)) rfl ki_m1 ?_
      exact jX.sub (jsb_c rfl (jsb_c rfl (jsb_c rfl (jsb_c rfl (jsb_c rfl jsb_n))))) (ct_X2_readSum_r95_c3d_100081 hD hQ k4 k17 l2 l3 l5 u10 u9 h (jr_of rfl (by omega)) (jr_of rfl (by omega)) (jr_of rfl (by omega)) (jr_of rfl (by omega)) (jr_of rfl (by omega)) (by omega) qu10 qu9 (by omega) (by omega) J Sm D)
    ·
      rw [if_neg (by omega)] at D
      refine x_bipush (v := 6) rfl kb_6 ?_
      refine x_goto (tgt := 81) rfl rfl ?_
      exact jX.sub (jsb_c rfl (jsb_c rfl (jsb_c rfl (jsb_c rfl (jsb_c rfl jsb_n))))) (ct_X2_readSum_r95_c3d_800081 hD hQ k4 k17 l2 l3 l5 u10 u9 h (jr_of rfl (by omega)) (jr_of rfl (by omega)) (jr_of rfl (by omega)) (jr_of rfl (by omega)) (jr_of rfl (by omega)) (by omega) qu10 qu9 (by omega) (by omega) J Sm D)
  ·
    rw [if_neg (by omega)] at D
    refine x_iconst (v := 5) rfl ki_5 ?_
    refine x_goto (tgt := 81) rfl rfl ?_
    exact jX.sub (jsb_c rfl (jsb_c rfl (jsb_c rfl (jsb_c rfl (jsb_c rfl jsb_n))))) (ct_X2_readSum_r95_c3d_700081 hD hQ k4 k17 l2 l3 l5 u3 u2 h (jr_of rfl (by omega)) (jr_of rfl (by omega)) (jr_of rfl (by omega)) (jr_of rfl (by omega)) (jr_of rfl (by omega)) (by omega) qu3 qu2 (by omega) (by omega) J Sm D)
set_option maxRecDepth 100000 in
set_option maxHeartbeats 4000000 in
theorem ct_X2_readSum_r95_c3d_17 {Dy : jH → Prop} {h0 : jH} {Q : Option Value → jH → Prop} {dr : (Int × jW)} {K4 : Int → Int → jW → (Int × jW)} {R4 : Int} (hD : jDk Dy) (hQ : ∀ (v : Int32) hx9, 0 ≤ v.toInt ∧ v.toInt ≤ 1 → jJ jSgX Dy hx9 → jSm fp_X2_readSum_r95_c3d h0 hx9 → ∀ u0 u1 : Int32, jiv hx9 68 5 = u0 → jiv hx9 68 3 = u1 → (u0.toInt ≠ 3 ∨ u1.toInt ≤ 399) → dr.1 = v.toInt → dr.2 = vw hx9 → Q (some (.int v)) hx9) (k4 : ∀ (l2 : Int32) (l3 : Int32) (g0 : Int32) (g1 : Int32) (h : jH), 400 - l3.toInt < R4 → (-1) ≤ l2.toInt ∧ l2.toInt ≤ 4 → 0 ≤ l3.toInt ∧ l3.toInt ≤ 400 → 0 ≤ g0.toInt ∧ g0.toInt ≤ 400 → 0 ≤ g1.toInt ∧ g1.toInt ≤ 3 → (g1.toInt ≠ 3 ∨ g0.toInt ≤ 399) → jiv h 68 3 = g0 → jiv h 68 5 = g1 → jJ jSgX Dy h → jSm fp_X2_readSum_r95_c3d h0 h → K4 l2.toInt l3.toInt (vw h) = dr → jX m_X2_readSum 16 0 0 4 [(0, .ref 95), (1, .int 3), (2, .int l2), (3, .int l3)] [] h 0 0 Q) : ∀ r : Nat, ∀ (l2 : Int32) (l3 : Int32) (l4 : Int32) (l5 : Int32) (g0 : Int32) (g1 : Int32) (h : jH), 400 - l5.toInt < (r : Int) → (-1) ≤ l2.toInt ∧ l2.toInt ≤ 4 → 0 ≤ l3.toInt ∧ l3.toInt ≤ 399 → (-1) ≤ l4.toInt ∧ l4.toInt ≤ 6 → 0 ≤ l5.toInt ∧ l5.toInt ≤ 400 → 0 ≤ g0.toInt ∧ g0.toInt ≤ 400 → 0 ≤ g1.toInt ∧ g1.toInt ≤ 3 → (g1.toInt ≠ 3 ∨ g0.toInt ≤ 399) → jiv h 68 3 = g0 → jiv h 68 5 = g1 → 400 - l3.toInt ≤ R4 → jJ jSgX Dy h → jSm fp_X2_readSum_r95_c3d h0 h → d_X2_readSum_r95_c3d_17 K4 r l2.toInt l3.toInt l4.toInt l5.toInt (vw h) = dr → jX m_X2_readSum 16 0 0 17 [(0, .ref 95), (1, .int 3), (2, .int l2), (3, .int l3), (4, .int l4), (5, .int l5)] [] h 0 0 Q := by
  intro r
  induction r with
  | zero =>
    intro l2 l3 l4 l5 g0 g1 h hm y0 y1 y2 y3 y4 y5 y6 z0 z1 m4 J Sm D
    exfalso
    omega
  | succ r ih =>
    intro l2 l3 l4 l5 g0 g1 h hm y0 y1 y2 y3 y4 y5 y6 z0 z1 m4 J Sm D
    rw [d_X2_readSum_r95_c3d_17.eq_2] at D
    try rw [vrf z0] at D
    try rw [vrf z1] at D
    refine x_iload (x := l5) rfl rfl ?_
    refine x_sipush (v := 400) rfl ks_400 ?_
    refine x_icge (tgt := 105) rfl rfl (ti_ge rfl jk_400 ⟨fun c1 => ?_, fun c1 => ?_⟩)
    ·
      rw [if_pos (by omega)] at D
      exact jX.sub (jsb_c rfl (jsb_c rfl (jsb_c rfl (jsb_c rfl jsb_n)))) (ct_X2_readSum_r95_c3d_105 hD hQ k4 l2 l3 g0 g1 h (jr_of rfl (by omega)) (jr_of rfl (by omega)) (jr_of rfl (by omega)) (jr_of rfl (by omega)) (by omega) z0 z1 (by omega) J Sm D)
    ·
      rw [if_neg (by omega)] at D
      refine x_aloadn (x := 95) rfl rfl ?_
      refine x_iloadn (x := 3) rfl rfl ?_
      refine x_inv (N := m_X2_readFactor) (As := [.int 3]) (b := 95) (st := []) (dx9 := 15) (mc := 0) (ms := 0) (host := "") 2 rfl t_X2_readFactor ⟨Or.inl q_2_144, i_X2_readFactor.1, i_X2_readFactor.2⟩ ⟨by decide, rfl⟩ (congrArg Prod.fst (J.1.1 95 (2, 6) rfl)) rfl (by decide) rfl rfl ⟨by decide, by decide⟩ (sf_X2_readFactor_r95_c3d  hD J z1 z0 (by omega) rfl  (fun v7 h ev7 J S2 u3 u4 qu3 qu4 ru3 X5 X6 => ?_))
      have Sm := jSm_tr rfl Sm S2
      try rw [X5] at D
      try rw [X6] at D
      have eu3 := (show 0 ≤ u3.toInt ∧ u3.toInt ≤ 3 from qu3 ▸ jrg_f J sg_68_5_6_1_0_1)
      try rw [vrf qu3] at D
      have eu4 := (show 0 ≤ u4.toInt ∧ u4.toInt ≤ 400 from qu4 ▸ jrg_f J sg_68_3_4_1_0_1)
      try rw [vrf qu4] at D
      show jX m_X2_readSum 16 0 0 30 [(0, .ref 95), (1, .int 3), (2, .int l2), (3, .int l3), (4, .int l4), (5, .int l5)] [.int v7] _ 0 0 _
      refine x_ifne (tgt := 35) rfl rfl (ti_ne rfl jk_0 ⟨fun c8 => ?_, fun c8 => ?_⟩)
      ·
        rw [if_neg (by omega)] at D
        refine x_iload (x := l4) rfl rfl ?_
        refine x_iconst (v := (-1)) rfl ki_m1 ?_
        refine x_iceq (tgt := 47) rfl rfl (ti_eq rfl jk_m1 ⟨fun c9 => ?_, fun c9 => ?_⟩)
        ·
          rw [if_pos (by omega)] at D
          exact jX.sub (jsb_c rfl (jsb_c rfl (jsb_c rfl (jsb_c rfl (jsb_c rfl jsb_n))))) (ct_X2_readSum_r95_c3d_47 hD hQ k4 ih l2 l3 l5 u4 u3 h (jr_of rfl (by omega)) (jr_of rfl (by omega)) (jr_of rfl (by omega)) (jr_of rfl (by omega)) (jr_of rfl (by omega)) (by omega) qu4 qu3 (by omega) (by omega) J Sm D)
        ·
          rw [if_neg (by omega)] at D
          refine x_aloadn (x := 95) rfl rfl ?_
          refine x_iload (x := l4) rfl rfl ?_
          refine x_inv (N := m_X2_emit) (As := [.int l4]) (b := 95) (st := []) (dx9 := 1) (mc := 0) (ms := 0) (host := "") 2 rfl t_X2_emit ⟨Or.inl q_2_89, i_X2_emit.1, i_X2_emit.2⟩ ⟨by decide, rfl⟩ (congrArg Prod.fst (J.1.1 95 (2, 6) rfl)) rfl (by decide) rfl rfl ⟨by decide, by decide⟩ (sf_X2_emit_r95d  hD J rfl  (fun h J S10 X11 => ?_))
          have Sm := jSm_tr rfl Sm S10
          rw [X11] at D
          show jX m_X2_readSum 16 0 0 47 [(0, .ref 95), (1, .int 3), (2, .int l2), (3, .int l3), (4, .int l4), (5, .int l5)] [] _ 0 0 _
          exact jX.sub (jsb_c rfl (jsb_c rfl (jsb_c rfl (jsb_c rfl (jsb_c rfl jsb_n))))) (ct_X2_readSum_r95_c3d_47 hD hQ k4 ih l2 l3 l5 u4 u3 h (jr_of rfl (by omega)) (jr_of rfl (by omega)) (jr_of rfl (by omega)) (jr_of rfl (by omega)) (jr_of rfl (by omega)) (by omega) (jmc S10 rfl qu4) (jmc S10 rfl qu3) (by omega) (by omega) J Sm D)
      ·
        rw [if_pos (by omega)] at D
        refine x_iconst (v := 0) rfl ki_0 ?_
        refine x_zret rfl rfl (by decide) ?_
        exact hQ _ _ (jr_of jk_0 (by omega)) J Sm _ _ qu3 qu4 (by omega) ((congrArg Prod.fst D).symm.trans (show 0 = (0 : Int32).toInt from by have := jk_0; omega)) (congrArg Prod.snd D).symm
set_option maxRecDepth 100000 in
set_option maxHeartbeats 4000000 in
theorem ct_X2_readSum_r95_c3d_4 {Dy : jH → Prop} {h0 : jH} {Q : Option Value → jH → Prop} {dr : (Int × jW)} (hD : jDk Dy) (hQ : ∀ (v : Int32) hx9, 0 ≤ v.toInt ∧ v.toInt ≤ 1 → jJ jSgX Dy hx9 → jSm fp_X2_readSum_r95_c3d h0 hx9 → ∀ u0 u1 : Int32, jiv hx9 68 5 = u0 → jiv hx9 68 3 = u1 → (u0.toInt ≠ 3 ∨ u1.toInt ≤ 399) → dr.1 = v.toInt → dr.2 = vw hx9 → Q (some (.int v)) hx9) : ∀ r : Nat, ∀ (l2 : Int32) (l3 : Int32) (g0 : Int32) (g1 : Int32) (h : jH), 400 - l3.toInt < (r : Int) → (-1) ≤ l2.toInt ∧ l2.toInt ≤ 4 → 0 ≤ l3.toInt ∧ l3.toInt ≤ 400 → 0 ≤ g0.toInt ∧ g0.toInt ≤ 400 → 0 ≤ g1.toInt ∧ g1.toInt ≤ 3 → (g1.toInt ≠ 3 ∨ g0.toInt ≤ 399) → jiv h 68 3 = g0 → jiv h 68 5 = g1 → jJ jSgX Dy h → jSm fp_X2_readSum_r95_c3d h0 h → d_X2_readSum_r95_c3d_4 r l2.toInt l3.toInt (vw h) = dr → jX m_X2_readSum 16 0 0 4 [(0, .ref 95), (1, .int 3), (2, .int l2), (3, .int l3)] [] h 0 0 Q := by
  intro r
  induction r with
  | zero =>
    intro l2 l3 g0 g1 h hm y0 y1 y2 y3 y4 z0 z1  J Sm D
    exfalso
    omega
  | succ r ih =>
    intro l2 l3 g0 g1 h hm y0 y1 y2 y3 y4 z0 z1  J Sm D
    rw [d_X2_readSum_r95_c3d_4.eq_2] at D
    try rw [vrf z0] at D
    try rw [vrf z1] at D
    refine x_iloadn (x := l3) rfl rfl ?_
    refine x_sipush (v := 400) rfl ks_400 ?_
    refine x_icge (tgt := 169) rfl rfl (ti_ge rfl jk_400 ⟨fun c1 => ?_, fun c1 => ?_⟩)
    ·
      rw [if_pos (by omega)] at D
      refine x_aloadn (x := 95) rfl rfl ?_
      refine z_getR (N := 6) (b := 68) 2 0 rfl f_2_30 rfl J rfl 12160 ⟨rfl, rfl⟩ rfl ?_
      refine x_inv (N := m_X9_blame) (As := []) (b := 68) (st := []) (dx9 := 15) (mc := 0) (ms := 0) (host := "") 9 rfl t_X9_blame ⟨Or.inl q_2_59, i_X9_blame.1, i_X9_blame.2⟩ ⟨by decide, rfl⟩ (congrArg Prod.fst (J.1.1 68 (9, 6) rfl)) rfl (by decide) rfl rfl ⟨by decide, by decide⟩ (jC.of rfl k_X9_blame rfl ?_)
      show jX m_X9_blame 15 0 0 0 [(0, .ref 68)] [] _ 0 0 _
      refine x_aloadn (x := 68) rfl rfl ?_
      refine x_aloadn (x := 68) rfl rfl ?_
      refine z_getM (N := 6) (v := g0) 9 3 rfl f_9_22 rfl J rfl z0 ?_
      refine z_putI (N := 6) (w := g0.toInt) 9 2 rfl f_9_19 rfl (jfin_no TX9 RX9 6 rfl rfl) hD J Sm rfl rfl rfl (pw_68_2 (by omega)) rfl (fun h w2 J Sm => ?_)
      rw [vwf w2 (show g0.toInt = g0.toInt from by omega)] at D
      refine x_iconst (v := 0) rfl ki_0 ?_
      refine x_zret rfl rfl (by decide) ?_
      show jX m_X2_readSum 16 0 0 176 [(0, .ref 95), (1, .int 3), (2, .int l2), (3, .int l3)] [.int 0] _ 0 0 _
      refine x_zret rfl rfl (by decide) ?_
      exact hQ _ _ (jr_of jk_0 (by omega)) J Sm _ _ (jmo w2 rfl z1) (jmo w2 rfl z0) (by omega) ((congrArg Prod.fst D).symm.trans (show 0 = (0 : Int32).toInt from by have := jk_0; omega)) (congrArg Prod.snd D).symm
    ·
      rw [if_neg (by omega)] at D
      refine x_iconst (v := (-1)) rfl ki_m1 ?_
      refine x_istore (lsx9 := [(4, .int (-1)), (0, .ref 95), (1, .int 3), (2, .int l2), (3, .int l3)]) rfl rfl rfl ?_
      refine x_iconst (v := 0) rfl ki_0 ?_
      refine x_istore (lsx9 := [(5, .int 0), (4, .int (-1)), (0, .ref 95), (1, .int 3), (2, .int l2), (3, .int l3)]) rfl rfl rfl ?_
      exact jX.sub (jsb_c rfl (jsb_c rfl (jsb_c rfl (jsb_c rfl (jsb_c rfl (jsb_c rfl jsb_n)))))) (ct_X2_readSum_r95_c3d_17 hD hQ ih 401 l2 l3 (-1) 0 g0 g1 h (by have := jk_0; omega) (jr_of rfl (by omega)) (jr_of rfl (by omega)) (jr_of jk_m1 (by omega)) (jr_of jk_0 (by omega)) (jr_of rfl (by omega)) (jr_of rfl (by omega)) (by omega) z0 z1 (by omega) J Sm (by rw [jk_m1, jk_0]; exact D))
set_option maxRecDepth 100000 in
set_option maxHeartbeats 4000000 in
theorem sf_X2_readSum_r95_c3d {Dy : jH → Prop} {h : jH} {Q : Option Value → jH → Prop} {dr : (Int × jW)} (hD : jDk Dy) (J : jJ jSgX Dy h) {p0 p1 : Int32} (zp0 : jiv h 68 5 = p0) (zp1 : jiv h 68 3 = p1) (rl_p0 : (p0.toInt ≠ 3 ∨ p1.toInt ≤ 399)) (D : d_X2_readSum_r95_c3d (vw h) = dr) (hQ : ∀ (v : Int32) hx9, 0 ≤ v.toInt ∧ v.toInt ≤ 1 → jJ jSgX Dy hx9 → jSm fp_X2_readSum_r95_c3d h hx9 → ∀ u0 u1 : Int32, jiv hx9 68 5 = u0 → jiv hx9 68 3 = u1 → (u0.toInt ≠ 3 ∨ u1.toInt ≤ 399) → dr.1 = v.toInt → dr.2 = vw hx9 → Q (some (.int v)) hx9) : jC m_X2_readSum 16 0 0 [.ref 95, .int 3] h Q := by
  refine jC.of rfl k_X2_readSum rfl ?_
  have Sm := jSm_rf fp_X2_readSum_r95_c3d h
  have ep0 := (show 0 ≤ p0.toInt ∧ p0.toInt ≤ 3 from zp0 ▸ jrg_f J sg_68_5_6_1_0_1)
  have ep1 := (show 0 ≤ p1.toInt ∧ p1.toInt ≤ 400 from zp1 ▸ jrg_f J sg_68_3_4_1_0_1)
  show jX m_X2_readSum 16 0 0 0 [(0, .ref 95), (1, .int 3)] [] _ 0 0 _
  unfold d_X2_readSum_r95_c3d at D
  try rw [vrf zp0] at D
  try rw [vrf zp1] at D
  refine x_iconst (v := (-1)) rfl ki_m1 ?_
  refine x_istoren (lsx9 := [(2, .int (-1)), (0, .ref 95), (1, .int 3)]) rfl rfl rfl ?_
  refine x_iconst (v := 0) rfl ki_0 ?_
  refine x_istoren (lsx9 := [(3, .int 0), (2, .int (-1)), (0, .ref 95), (1, .int 3)]) rfl rfl rfl ?_
  exact jX.sub (jsb_c rfl (jsb_c rfl (jsb_c rfl (jsb_c rfl jsb_n)))) (ct_X2_readSum_r95_c3d_4 hD hQ  401 (-1) 0 p1 p0 h (by have := jk_0; omega) (jr_of jk_m1 (by omega)) (jr_of jk_0 (by omega)) (jr_of rfl (by omega)) (jr_of rfl (by omega)) (by omega) zp1 zp0 J Sm (by rw [jk_m1, jk_0]; exact D))
def fp_X2_readFactor_r95_c2d : jFp := [(68, 2, 3), (68, 3, 4), (68, 4, 5), (68, 5, 6), (95, 4, 5), (95, 5, 6), (97, 0, 1200)]
set_option maxRecDepth 100000 in
set_option maxHeartbeats 4000000 in
theorem ct_X2_readFactor_r95_c2d_111 {Dy : jH → Prop} {h0 : jH} {Q : Option Value → jH → Prop} {dr : (Int × jW)} (hD : jDk Dy) (hQ : ∀ (v : Int32) hx9, 0 ≤ v.toInt ∧ v.toInt ≤ 1 → jJ jSgX Dy hx9 → jSm fp_X2_readFactor_r95_c2d h0 hx9 → ∀ u0 u1 : Int32, jiv hx9 68 5 = u0 → jiv hx9 68 3 = u1 → (u0.toInt ≠ 3 ∨ u1.toInt ≤ 399) → dr.1 = v.toInt → dr.2 = vw hx9 → Q (some (.int v)) hx9) : ∀ (s0 : Int32) (g0 : Int32) (g1 : Int32) (h : jH), 0 ≤ s0.toInt ∧ s0.toInt ≤ 1 → 0 ≤ g0.toInt ∧ g0.toInt ≤ 400 → 0 ≤ g1.toInt ∧ g1.toInt ≤ 3 → (g1.toInt ≠ 3 ∨ g0.toInt ≤ 399) → jiv h 68 3 = g0 → jiv h 68 5 = g1 → jJ jSgX Dy h → jSm fp_X2_readFactor_r95_c2d h0 h → d_X2_readFactor_r95_c2d_111  s0.toInt (vw h) = dr → jX m_X2_readFactor 17 0 0 111 [] [.int s0] h 0 0 Q := by
  intro s0 g0 g1 h y0 y1 y2 y3 z0 z1  J Sm D
  unfold d_X2_readFactor_r95_c2d_111 at D
  try rw [vrf z0] at D
  try rw [vrf z1] at D
  refine x_zret rfl rfl (jz01 (by omega)) ?_
  exact hQ _ _ (jr_of rfl (by omega)) J Sm _ _ z1 z0 (by omega) ((congrArg Prod.fst D).symm.trans (show s0.toInt = s0.toInt from by omega)) (congrArg Prod.snd D).symm
set_option maxRecDepth 100000 in
set_option maxHeartbeats 4000000 in
theorem ct_X2_readFactor_r95_c2d_200111 {Dy : jH → Prop} {h0 : jH} {Q : Option Value → jH → Prop} {dr : (Int × jW)} (hD : jDk Dy) (hQ : ∀ (v : Int32) hx9, 0 ≤ v.toInt ∧ v.toInt ≤ 1 → jJ jSgX Dy hx9 → jSm fp_X2_readFactor_r95_c2d h0 hx9 → ∀ u0 u1 : Int32, jiv hx9 68 5 = u0 → jiv hx9 68 3 = u1 → (u0.toInt ≠ 3 ∨ u1.toInt ≤ 399) → dr.1 = v.toInt → dr.2 = vw hx9 → Q (some (.int v)) hx9) : ∀ (g0 : Int32) (g1 : Int32) (h : jH), 0 ≤ g0.toInt ∧ g0.toInt ≤ 400 → 0 ≤ g1.toInt ∧ g1.toInt ≤ 3 → (g1.toInt ≠ 3 ∨ g0.toInt ≤ 399) → jiv h 68 3 = g0 → jiv h 68 5 = g1 → jJ jSgX Dy h → jSm fp_X2_readFactor_r95_c2d h0 h → d_X2_readFactor_r95_c2d_200111  (vw h) = dr → jX m_X2_readFactor 17 0 0 111 [] [.int 0] h 0 0 Q := by
  intro g0 g1 h y0 y1 y2 z0 z1  J Sm D
  unfold d_X2_readFactor_r95_c2d_200111 at D
  try rw [vrf z0] at D
  try rw [vrf z1] at D
  refine x_zret rfl rfl (by decide) ?_
  exact hQ _ _ (jr_of jk_0 (by omega)) J Sm _ _ z1 z0 (by omega) ((congrArg Prod.fst D).symm.trans (show 0 = (0 : Int32).toInt from by have := jk_0; omega)) (congrArg Prod.snd D).symm
set_option maxRecDepth 100000 in
set_option maxHeartbeats 4000000 in
theorem ct_X2_readFactor_r95_c2d_300057 {Dy : jH → Prop} {h0 : jH} {Q : Option Value → jH → Prop} {dr : (Int × jW)} (hD : jDk Dy) (hQ : ∀ (v : Int32) hx9, 0 ≤ v.toInt ∧ v.toInt ≤ 1 → jJ jSgX Dy hx9 → jSm fp_X2_readFactor_r95_c2d h0 hx9 → ∀ u0 u1 : Int32, jiv hx9 68 5 = u0 → jiv hx9 68 3 = u1 → (u0.toInt ≠ 3 ∨ u1.toInt ≤ 399) → dr.1 = v.toInt → dr.2 = vw hx9 → Q (some (.int v)) hx9) : ∀ (g0 : Int32) (g1 : Int32) (h : jH), 0 ≤ g0.toInt ∧ g0.toInt ≤ 400 → 0 ≤ g1.toInt ∧ g1.toInt ≤ 3 → (g1.toInt ≠ 3 ∨ g0.toInt ≤ 399) → jiv h 68 3 = g0 → jiv h 68 5 = g1 → jJ jSgX Dy h → jSm fp_X2_readFactor_r95_c2d h0 h → d_X2_readFactor_r95_c2d_300057  (vw h) = dr → jX m_X2_readFactor 17 0 0 57 [] [.int 1] h 0 0 Q := by
  intro g0 g1 h y0 y1 y2 z0 z1  J Sm D
  unfold d_X2_readFactor_r95_c2d_300057 at D
  try rw [vrf z0] at D
  try rw [vrf z1] at D
  refine x_zret rfl rfl (by decide) ?_
  exact hQ _ _ (jr_of jk_1 (by omega)) J Sm _ _ z1 z0 (by omega) ((congrArg Prod.fst D).symm.trans (show 1 = (1 : Int32).toInt from by have := jk_1; omega)) (congrArg Prod.snd D).symm
set_option maxRecDepth 100000 in
set_option maxHeartbeats 4000000 in
theorem ct_X2_readFactor_r95_c2d_200057 {Dy : jH → Prop} {h0 : jH} {Q : Option Value → jH → Prop} {dr : (Int × jW)} (hD : jDk Dy) (hQ : ∀ (v : Int32) hx9, 0 ≤ v.toInt ∧ v.toInt ≤ 1 → jJ jSgX Dy hx9 → jSm fp_X2_readFactor_r95_c2d h0 hx9 → ∀ u0 u1 : Int32, jiv hx9 68 5 = u0 → jiv hx9 68 3 = u1 → (u0.toInt ≠ 3 ∨ u1.toInt ≤ 399) → dr.1 = v.toInt → dr.2 = vw hx9 → Q (some (.int v)) hx9) : ∀ (g0 : Int32) (g1 : Int32) (h : jH), 0 ≤ g0.toInt ∧ g0.toInt ≤ 400 → 0 ≤ g1.toInt ∧ g1.toInt ≤ 3 → (g1.toInt ≠ 3 ∨ g0.toInt ≤ 399) → jiv h 68 3 = g0 → jiv h 68 5 = g1 → jJ jSgX Dy h → jSm fp_X2_readFactor_r95_c2d h0 h → d_X2_readFactor_r95_c2d_200057  (vw h) = dr → jX m_X2_readFactor 17 0 0 57 [] [.int 0] h 0 0 Q := by
  intro g0 g1 h y0 y1 y2 z0 z1  J Sm D
  unfold d_X2_readFactor_r95_c2d_200057 at D
  try rw [vrf z0] at D
  try rw [vrf z1] at D
  refine x_zret rfl rfl (by decide) ?_
  exact hQ _ _ (jr_of jk_0 (by omega)) J Sm _ _ z1 z0 (by omega) ((congrArg Prod.fst D).symm.trans (show 0 = (0 : Int32).toInt from by have := jk_0; omega)) (congrArg Prod.snd D).symm
set_option maxRecDepth 100000 in
set_option maxHeartbeats 4000000 in
theorem ct_X2_readFactor_r95_c2d_56 {Dy : jH → Prop} {h0 : jH} {Q : Option Value → jH → Prop} {dr : (Int × jW)} (hD : jDk Dy) (hQ : ∀ (v : Int32) hx9, 0 ≤ v.toInt ∧ v.toInt ≤ 1 → jJ jSgX Dy hx9 → jSm fp_X2_readFactor_r95_c2d h0 hx9 → ∀ u0 u1 : Int32, jiv hx9 68 5 = u0 → jiv hx9 68 3 = u1 → (u0.toInt ≠ 3 ∨ u1.toInt ≤ 399) → dr.1 = v.toInt → dr.2 = vw hx9 → Q (some (.int v)) hx9) : ∀ (g0 : Int32) (g1 : Int32) (h : jH), 0 ≤ g0.toInt ∧ g0.toInt ≤ 400 → 0 ≤ g1.toInt ∧ g1.toInt ≤ 3 → (g1.toInt ≠ 3 ∨ g0.toInt ≤ 399) → jiv h 68 3 = g0 → jiv h 68 5 = g1 → jJ jSgX Dy h → jSm fp_X2_readFactor_r95_c2d h0 h → d_X2_readFactor_r95_c2d_56  (vw h) = dr → jX m_X2_readFactor 17 0 0 56 [] [] h 0 0 Q := by
  intro g0 g1 h y0 y1 y2 z0 z1  J Sm D
  unfold d_X2_readFactor_r95_c2d_56 at D
  try rw [vrf z0] at D
  try rw [vrf z1] at D
  refine x_iconst (v := 0) rfl ki_0 ?_
  exact jX.sub jsb_n (ct_X2_readFactor_r95_c2d_200057 hD hQ  g0 g1 h (jr_of rfl (by omega)) (jr_of rfl (by omega)) (by omega) z0 z1 J Sm D)
set_option maxRecDepth 100000 in
set_option maxHeartbeats 4000000 in
theorem sf_X2_readFactor_r95_c2d {Dy : jH → Prop} {h : jH} {Q : Option Value → jH → Prop} {dr : (Int × jW)} (hD : jDk Dy) (J : jJ jSgX Dy h) {p0 p1 : Int32} (zp0 : jiv h 68 5 = p0) (zp1 : jiv h 68 3 = p1) (rl_p0 : (p0.toInt ≠ 3 ∨ p1.toInt ≤ 399)) (D : d_X2_readFactor_r95_c2d (vw h) = dr) (hQ : ∀ (v : Int32) hx9, 0 ≤ v.toInt ∧ v.toInt ≤ 1 → jJ jSgX Dy hx9 → jSm fp_X2_readFactor_r95_c2d h hx9 → ∀ u0 u1 : Int32, jiv hx9 68 5 = u0 → jiv hx9 68 3 = u1 → (u0.toInt ≠ 3 ∨ u1.toInt ≤ 399) → dr.1 = v.toInt → dr.2 = vw hx9 → Q (some (.int v)) hx9) : jC m_X2_readFactor 17 0 0 [.ref 95, .int 2] h Q := by
  refine jC.of rfl k_X2_readFactor rfl ?_
  have Sm := jSm_rf fp_X2_readFactor_r95_c2d h
  have ep0 := (show 0 ≤ p0.toInt ∧ p0.toInt ≤ 3 from zp0 ▸ jrg_f J sg_68_5_6_1_0_1)
  have ep1 := (show 0 ≤ p1.toInt ∧ p1.toInt ≤ 400 from zp1 ▸ jrg_f J sg_68_3_4_1_0_1)
  show jX m_X2_readFactor 17 0 0 0 [(0, .ref 95), (1, .int 2)] [] _ 0 0 _
  unfold d_X2_readFactor_r95_c2d at D
  try rw [vrf zp0] at D
  try rw [vrf zp1] at D
  refine x_aloadn (x := 95) rfl rfl ?_
  refine z_getR (N := 6) (b := 68) 2 0 rfl f_2_30 rfl J rfl 12160 ⟨rfl, rfl⟩ rfl ?_
  refine x_bipush (v := 91) rfl kb_91 ?_
  refine x_inv (N := m_X9_isSign) (As := [.int 91]) (b := 68) (st := []) (dx9 := 1) (mc := 0) (ms := 0) (host := "") 9 rfl t_X9_isSign ⟨Or.inl q_2_55, i_X9_isSign.1, i_X9_isSign.2⟩ ⟨by decide, rfl⟩ (congrArg Prod.fst (J.1.1 68 (9, 6) rfl)) rfl (by decide) rfl rfl ⟨by decide, by decide⟩ (sf_X9_isSign_r68d (jr_of jk_91 (by omega)) hD J zp0 zp1 (by omega) rfl  (fun v6 h ev6 J S1 u2 u3 qu2 qu3 ru2 X4 X5 => ?_))
  have Sm := jSm_tr rfl Sm S1
  try rw [jk_91] at X4
  try rw [X4] at D
  try rw [← X5] at D
  have eu2 := (show 0 ≤ u2.toInt ∧ u2.toInt ≤ 3 from qu2 ▸ jrg_f J sg_68_5_6_1_0_1)
  have Luu2 := congrArg Int32.toInt (((jmc S1 rfl zp0)).symm.trans qu2)
  try rw [Luu2] at D
  try rw [vrf qu2] at D
  have eu3 := (show 0 ≤ u3.toInt ∧ u3.toInt ≤ 400 from qu3 ▸ jrg_f J sg_68_3_4_1_0_1)
  have Luu3 := congrArg Int32.toInt (((jmc S1 rfl zp1)).symm.trans qu3)
  try rw [Luu3] at D
  try rw [vrf qu3] at D
  show jX m_X2_readFactor 17 0 0 9 [(0, .ref 95), (1, .int 2)] [.int v6] _ 0 0 _
  refine x_ifeq (tgt := 58) rfl rfl (ti_eq rfl jk_0 ⟨fun c7 => ?_, fun c7 => ?_⟩)
  ·
    rw [if_pos (by omega)] at D
    refine x_aloadn (x := 95) rfl rfl ?_
    refine z_getR (N := 6) (b := 68) 2 0 rfl f_2_30 rfl J rfl 12160 ⟨rfl, rfl⟩ rfl ?_
    refine x_ldc (v := 100000) rfl z_2_147 ?_
    refine x_inv (N := m_X9_numberTo) (As := [.int 100000]) (b := 68) (st := []) (dx9 := 1) (mc := 0) (ms := 0) (host := "") 9 rfl t_X9_numberTo ⟨Or.inl q_2_117, i_X9_numberTo.1, i_X9_numberTo.2⟩ ⟨by decide, rfl⟩ (congrArg Prod.fst (J.1.1 68 (9, 6) rfl)) rfl (by decide) rfl rfl ⟨by decide, by decide⟩ (sf_X9_numberTo_r68d (jr_of jk_100000 (by omega)) hD J rfl  (fun v11 h ev11 J S8 X9 X10 => ?_))
    have Sm := jSm_tr rfl Sm S8
    try rw [jk_100000] at X9
    try rw [X9] at D
    try rw [← X10] at D
    show jX m_X2_readFactor 17 0 0 67 [(0, .ref 95), (1, .int 2)] [.int v11] _ 0 0 _
    refine x_istoren (lsx9 := [(2, .int v11), (0, .ref 95), (1, .int 2)]) rfl rfl rfl ?_
    refine x_iloadn (x := v11) rfl rfl ?_
    refine x_iconst (v := (-1)) rfl ki_m1 ?_
    refine x_iceq (tgt := 80) rfl rfl (ti_eq rfl jk_m1 ⟨fun c12 => ?_, fun c12 => ?_⟩)
    ·
      rw [if_pos (by omega)] at D
      refine x_aloadn (x := 95) rfl rfl ?_
      refine z_getR (N := 6) (b := 68) 2 0 rfl f_2_30 rfl J rfl 12160 ⟨rfl, rfl⟩ rfl ?_
      refine x_ldcS (jstr.getD 6 jstr_0) rfl (List.mem_of_getElem? (i := 6) rfl) rfl rfl ?_
      show jX m_X2_readFactor 17 0 0 86 [(2, .int v11), (0, .ref 95), (1, .int 2)] [.ref 11, .ref 68] _ 0 0 _
      refine x_inv (N := m_X9_wordOf) (As := [.ref 11]) (b := 68) (st := []) (dx9 := 4) (mc := 0) (ms := 0) (host := "") 9 rfl t_X9_wordOf ⟨Or.inl q_2_67, i_X9_wordOf.1, i_X9_wordOf.2⟩ ⟨by decide, rfl⟩ (congrArg Prod.fst (J.1.1 68 (9, 6) rfl)) rfl (by decide) rfl rfl ⟨by decide, by decide⟩ (sf_X9_wordOf_r68_r11d  hD J rfl  (fun v16 h J S13 X14 X15 => ?_))
      have ev16 := jfull v16
      have Sm := jSm_tr rfl Sm S13
      try rw [X14] at D
      try rw [← X15] at D
      show jX m_X2_readFactor 17 0 0 89 [(2, .int v11), (0, .ref 95), (1, .int 2)] [.int v16] _ 0 0 _
      refine x_istoren (lsx9 := [(3, .int v16), (2, .int v11), (0, .ref 95), (1, .int 2)]) rfl rfl rfl ?_
      refine x_iloadn (x := v16) rfl rfl ?_
      refine x_iconst (v := (-1)) rfl ki_m1 ?_
      refine x_icne (tgt := 105) rfl rfl (ti_ne rfl jk_m1 ⟨fun c17 => ?_, fun c17 => ?_⟩)
      ·
        rw [if_neg (by omega)] at D
        refine x_aloadn (x := 95) rfl rfl ?_
        refine x_iconst (v := 2) rfl ki_2 ?_
        refine x_iloadn (x := v16) rfl rfl ?_
        refine x_inv (N := m_X2_readPart) (As := [.int 2, .int v16]) (b := 95) (st := []) (dx9 := 3) (mc := 0) (ms := 0) (host := "") 2 rfl t_X2_readPart ⟨Or.inl q_2_141, i_X2_readPart.1, i_X2_readPart.2⟩ ⟨by decide, rfl⟩ (congrArg Prod.fst (J.1.1 95 (2, 6) rfl)) rfl (by decide) rfl rfl ⟨by decide, by decide⟩ (sf_X2_readPart_r95d (jr_of jk_2 (by omega)) hD J (jmc S13 rfl (jmc S8 rfl qu2)) (jmc S13 rfl (jmc S8 rfl qu3)) (by omega) rfl  (fun v23 h ev23 J S18 u19 u20 qu19 qu20 ru19 X21 X22 => ?_))
        have Sm := jSm_tr rfl Sm S18
        try rw [jk_2] at X21
        try rw [jk_2] at X22
        try rw [X21] at D
        try rw [X22] at D
        have eu19 := (show 0 ≤ u19.toInt ∧ u19.toInt ≤ 3 from qu19 ▸ jrg_f J sg_68_5_6_1_0_1)
        try rw [vrf qu19] at D
        have eu20 := (show 0 ≤ u20.toInt ∧ u20.toInt ≤ 400 from qu20 ▸ jrg_f J sg_68_3_4_1_0_1)
        try rw [vrf qu20] at D
        show jX m_X2_readFactor 17 0 0 111 [(3, .int v16), (2, .int v11), (0, .ref 95), (1, .int 2)] [.int v23] _ 0 0 _
        exact jX.sub jsb_n (ct_X2_readFactor_r95_c2d_111 hD hQ  v23 u20 u19 h (jr_of rfl (by omega)) (jr_of rfl (by omega)) (jr_of rfl (by omega)) (by omega) qu20 qu19 J Sm D)
      ·
        rw [if_pos (by omega)] at D
        refine x_aloadn (x := 95) rfl rfl ?_
        refine z_getR (N := 6) (b := 68) 2 0 rfl f_2_30 rfl J rfl 12160 ⟨rfl, rfl⟩ rfl ?_
        refine x_inv (N := m_X9_blame) (As := []) (b := 68) (st := []) (dx9 := 16) (mc := 0) (ms := 0) (host := "") 9 rfl t_X9_blame ⟨Or.inl q_2_59, i_X9_blame.1, i_X9_blame.2⟩ ⟨by decide, rfl⟩ (congrArg Prod.fst (J.1.1 68 (9, 6) rfl)) rfl (by decide) rfl rfl ⟨by decide, by decide⟩ (jC.of rfl k_X9_blame rfl ?_)
        show jX m_X9_blame 16 0 0 0 [(0, .ref 68)] [] _ 0 0 _
        refine x_aloadn (x := 68) rfl rfl ?_
        refine x_aloadn (x := 68) rfl rfl ?_
        refine z_getM (N := 6) (v := u3) 9 3 rfl f_9_22 rfl J rfl (jmc S13 rfl (jmc S8 rfl qu3)) ?_
        refine z_putI (N := 6) (w := u3.toInt) 9 2 rfl f_9_19 rfl (jfin_no TX9 RX9 6 rfl rfl) hD J Sm rfl rfl rfl (pw_68_2 (by omega)) rfl (fun h w24 J Sm => ?_)
        rw [vwf w24 (show u3.toInt = u3.toInt from by omega)] at D
        refine x_iconst (v := 0) rfl ki_0 ?_
        refine x_zret rfl rfl (by decide) ?_
        show jX m_X2_readFactor 17 0 0 102 [(3, .int v16), (2, .int v11), (0, .ref 95), (1, .int 2)] [.int 0] _ 0 0 _
        refine x_goto (tgt := 111) rfl rfl ?_
        exact jX.sub jsb_n (ct_X2_readFactor_r95_c2d_200111 hD hQ  u3 u2 h (jr_of rfl (by omega)) (jr_of rfl (by omega)) (by omega) (jmo w24 rfl (jmc S13 rfl (jmc S8 rfl qu3))) (jmo w24 rfl (jmc S13 rfl (jmc S8 rfl qu2))) J Sm D)
    ·
      rw [if_neg (by omega)] at D
      refine x_aloadn (x := 95) rfl rfl ?_
      refine x_iconst (v := 1) rfl ki_1 ?_
      refine x_iloadn (x := v11) rfl rfl ?_
      refine x_inv (N := m_X2_readPart) (As := [.int 1, .int v11]) (b := 95) (st := []) (dx9 := 3) (mc := 0) (ms := 0) (host := "") 2 rfl t_X2_readPart ⟨Or.inl q_2_141, i_X2_readPart.1, i_X2_readPart.2⟩ ⟨by decide, rfl⟩ (congrArg Prod.fst (J.1.1 95 (2, 6) rfl)) rfl (by decide) rfl rfl ⟨by decide, by decide⟩ (sf_X2_readPart_r95d (jr_of jk_1 (by omega)) hD J (jmc S8 rfl qu2) (jmc S8 rfl qu3) (by omega) rfl  (fun v30 h ev30 J S25 u26 u27 qu26 qu27 ru26 X28 X29 => ?_))
      have Sm := jSm_tr rfl Sm S25
      try rw [jk_1] at X28
      try rw [jk_1] at X29
      try rw [X28] at D
      try rw [X29] at D
      have eu26 := (show 0 ≤ u26.toInt ∧ u26.toInt ≤ 3 from qu26 ▸ jrg_f J sg_68_5_6_1_0_1)
      try rw [vrf qu26] at D
      have eu27 := (show 0 ≤ u27.toInt ∧ u27.toInt ≤ 400 from qu27 ▸ jrg_f J sg_68_3_4_1_0_1)
      try rw [vrf qu27] at D
      show jX m_X2_readFactor 17 0 0 79 [(2, .int v11), (0, .ref 95), (1, .int 2)] [.int v30] _ 0 0 _
      refine x_zret rfl rfl (jz01 (by omega)) ?_
      exact hQ _ _ (jr_of rfl (by omega)) J Sm _ _ qu26 qu27 (by omega) ((congrArg Prod.fst D).symm.trans X28) ((congrArg Prod.snd D).symm.trans X29)
  ·
    rw [if_neg (by omega)] at D
    refine x_iloadn (x := 2) rfl rfl ?_
    refine x_bipush (v := 8) rfl kb_8 ?_
    refine x_iclt (tgt := 26) rfl rfl (ti_lt jk_2 jk_8 (br_t (by omega) ?_))
    refine x_aloadn (x := 95) rfl rfl ?_
    refine z_getR (N := 6) (b := 68) 2 0 rfl f_2_30 rfl J rfl 12160 ⟨rfl, rfl⟩ rfl ?_
    refine x_inv (N := m_X9_step) (As := []) (b := 68) (st := []) (dx9 := 2) (mc := 0) (ms := 0) (host := "") 9 rfl t_X9_step ⟨Or.inl q_2_62, i_X9_step.1, i_X9_step.2⟩ ⟨by decide, rfl⟩ (congrArg Prod.fst (J.1.1 68 (9, 6) rfl)) rfl (by decide) rfl rfl ⟨by decide, by decide⟩ (sf_X9_step_r68d  hD J qu2 qu3 (by omega) rfl  (fun h J S31 u32 u33 qu32 qu33 ru32 X34 => ?_))
    have Sm := jSm_tr rfl Sm S31
    rw [X34] at D
    have eu32 := (show 0 ≤ u32.toInt ∧ u32.toInt ≤ 3 from qu32 ▸ jrg_f J sg_68_5_6_1_0_1)
    try rw [vrf qu32] at D
    have eu33 := (show 0 ≤ u33.toInt ∧ u33.toInt ≤ 400 from qu33 ▸ jrg_f J sg_68_3_4_1_0_1)
    try rw [vrf qu33] at D
    show jX m_X2_readFactor 17 0 0 33 [(0, .ref 95), (1, .int 2)] [] _ 0 0 _
    refine x_aloadn (x := 95) rfl rfl ?_
    refine x_iloadn (x := 2) rfl rfl ?_
    refine x_iconst (v := 1) rfl ki_1 ?_
    refine y_iadd (v := 3) rfl (by decide) ?_
    refine x_inv (N := m_X2_readSum) (As := [.int 3]) (b := 95) (st := []) (dx9 := 16) (mc := 0) (ms := 0) (host := "") 2 rfl t_X2_readSum ⟨Or.inl q_2_86, i_X2_readSum.1, i_X2_readSum.2⟩ ⟨by decide, rfl⟩ (congrArg Prod.fst (J.1.1 95 (2, 6) rfl)) rfl (by decide) rfl rfl ⟨by decide, by decide⟩ (sf_X2_readSum_r95_c3d  hD J qu32 qu33 (by omega) rfl  (fun v40 h ev40 J S35 u36 u37 qu36 qu37 ru36 X38 X39 => ?_))
    have Sm := jSm_tr rfl Sm S35
    try rw [X38] at D
    try rw [X39] at D
    have eu36 := (show 0 ≤ u36.toInt ∧ u36.toInt ≤ 3 from qu36 ▸ jrg_f J sg_68_5_6_1_0_1)
    try rw [vrf qu36] at D
    have eu37 := (show 0 ≤ u37.toInt ∧ u37.toInt ≤ 400 from qu37 ▸ jrg_f J sg_68_3_4_1_0_1)
    try rw [vrf qu37] at D
    show jX m_X2_readFactor 17 0 0 40 [(0, .ref 95), (1, .int 2)] [.int v40] _ 0 0 _
    refine x_ifeq (tgt := 56) rfl rfl (ti_eq rfl jk_0 ⟨fun c41 => ?_, fun c41 => ?_⟩)
    ·
      rw [if_pos (by omega)] at D
      exact jX.sub jsb_n (ct_X2_readFactor_r95_c2d_56 hD hQ  u37 u36 h (jr_of rfl (by omega)) (jr_of rfl (by omega)) (by omega) qu37 qu36 J Sm D)
    ·
      rw [if_neg (by omega)] at D
      refine x_aloadn (x := 95) rfl rfl ?_
      refine x_bipush (v := 93) rfl kb_93 ?_
      refine x_inv (N := m_X2_readSign) (As := [.int 93]) (b := 95) (st := []) (dx9 := 16) (mc := 0) (ms := 0) (host := "") 2 rfl t_X2_readSign ⟨Or.inl q_2_138, i_X2_readSign.1, i_X2_readSign.2⟩ ⟨by decide, rfl⟩ (congrArg Prod.fst (J.1.1 95 (2, 6) rfl)) rfl (by decide) rfl rfl ⟨by decide, by decide⟩ (jC.of rfl k_X2_readSign rfl ?_)
      show jX m_X2_readSign 16 0 0 0 [(0, .ref 95), (1, .int 93)] [] _ 0 0 _
      refine x_aloadn (x := 95) rfl rfl ?_
      refine z_getR (N := 6) (b := 68) 2 0 rfl f_2_30 rfl J rfl 12160 ⟨rfl, rfl⟩ rfl ?_
      refine x_iloadn (x := 93) rfl rfl ?_
      refine x_inv (N := m_X9_isSign) (As := [.int 93]) (b := 68) (st := []) (dx9 := 1) (mc := 0) (ms := 0) (host := "") 9 rfl t_X9_isSign ⟨Or.inl q_2_55, i_X9_isSign.1, i_X9_isSign.2⟩ ⟨by decide, rfl⟩ (congrArg Prod.fst (J.1.1 68 (9, 6) rfl)) rfl (by decide) rfl rfl ⟨by decide, by decide⟩ (sf_X9_isSign_r68d (jr_of jk_93 (by omega)) hD J qu36 qu37 (by omega) rfl  (fun v47 h ev47 J S42 u43 u44 qu43 qu44 ru43 X45 X46 => ?_))
      have Sm := jSm_tr rfl Sm S42
      try rw [jk_93] at X45
      try rw [X45] at D
      try rw [← X46] at D
      have eu43 := (show 0 ≤ u43.toInt ∧ u43.toInt ≤ 3 from qu43 ▸ jrg_f J sg_68_5_6_1_0_1)
      have Luu43 := congrArg Int32.toInt (((jmc S42 rfl qu36)).symm.trans qu43)
      try rw [Luu43] at D
      try rw [vrf qu43] at D
      have eu44 := (show 0 ≤ u44.toInt ∧ u44.toInt ≤ 400 from qu44 ▸ jrg_f J sg_68_3_4_1_0_1)
      have Luu44 := congrArg Int32.toInt (((jmc S42 rfl qu37)).symm.trans qu44)
      try rw [Luu44] at D
      try rw [vrf qu44] at D
      show jX m_X2_readSign 16 0 0 8 [(0, .ref 95), (1, .int 93)] [.int v47] _ 0 0 _
      refine x_ifne (tgt := 19) rfl rfl (ti_ne rfl jk_0 ⟨fun c48 => ?_, fun c48 => ?_⟩)
      ·
        rw [if_neg (by omega)] at D
        refine x_aloadn (x := 95) rfl rfl ?_
        refine z_getR (N := 6) (b := 68) 2 0 rfl f_2_30 rfl J rfl 12160 ⟨rfl, rfl⟩ rfl ?_
        refine x_inv (N := m_X9_step) (As := []) (b := 68) (st := []) (dx9 := 2) (mc := 0) (ms := 0) (host := "") 9 rfl t_X9_step ⟨Or.inl q_2_62, i_X9_step.1, i_X9_step.2⟩ ⟨by decide, rfl⟩ (congrArg Prod.fst (J.1.1 68 (9, 6) rfl)) rfl (by decide) rfl rfl ⟨by decide, by decide⟩ (sf_X9_step_r68d  hD J qu43 qu44 (by omega) rfl  (fun h J S49 u50 u51 qu50 qu51 ru50 X52 => ?_))
        have Sm := jSm_tr rfl Sm S49
        rw [X52] at D
        have eu50 := (show 0 ≤ u50.toInt ∧ u50.toInt ≤ 3 from qu50 ▸ jrg_f J sg_68_5_6_1_0_1)
        try rw [vrf qu50] at D
        have eu51 := (show 0 ≤ u51.toInt ∧ u51.toInt ≤ 400 from qu51 ▸ jrg_f J sg_68_3_4_1_0_1)
        try rw [vrf qu51] at D
        show jX m_X2_readSign 16 0 0 26 [(0, .ref 95), (1, .int 93)] [] _ 0 0 _
        refine x_iconst (v := 1) rfl ki_1 ?_
        refine x_zret rfl rfl (by decide) ?_
        show jX m_X2_readFactor 17 0 0 49 [(0, .ref 95), (1, .int 2)] [.int 1] _ 0 0 _
        refine x_ifeq (tgt := 56) rfl rfl (ti_eq jk_1 jk_0 (br_f (by omega) ?_))
        refine x_iconst (v := 1) rfl ki_1 ?_
        refine x_goto (tgt := 57) rfl rfl ?_
        exact jX.sub jsb_n (ct_X2_readFactor_r95_c2d_300057 hD hQ  u51 u50 h (jr_of rfl (by omega)) (jr_of rfl (by omega)) (by omega) qu51 qu50 J Sm D)
      ·
        rw [if_pos (by omega)] at D
        refine x_aloadn (x := 95) rfl rfl ?_
        refine z_getR (N := 6) (b := 68) 2 0 rfl f_2_30 rfl J rfl 12160 ⟨rfl, rfl⟩ rfl ?_
        refine x_inv (N := m_X9_blame) (As := []) (b := 68) (st := []) (dx9 := 15) (mc := 0) (ms := 0) (host := "") 9 rfl t_X9_blame ⟨Or.inl q_2_59, i_X9_blame.1, i_X9_blame.2⟩ ⟨by decide, rfl⟩ (congrArg Prod.fst (J.1.1 68 (9, 6) rfl)) rfl (by decide) rfl rfl ⟨by decide, by decide⟩ (jC.of rfl k_X9_blame rfl ?_)
        show jX m_X9_blame 15 0 0 0 [(0, .ref 68)] [] _ 0 0 _
        refine x_aloadn (x := 68) rfl rfl ?_
        refine x_aloadn (x := 68) rfl rfl ?_
        refine z_getM (N := 6) (v := u44) 9 3 rfl f_9_22 rfl J rfl qu44 ?_
        refine z_putI (N := 6) (w := u44.toInt) 9 2 rfl f_9_19 rfl (jfin_no TX9 RX9 6 rfl rfl) hD J Sm rfl rfl rfl (pw_68_2 (by omega)) rfl (fun h w53 J Sm => ?_)
        rw [vwf w53 (show u44.toInt = u44.toInt from by omega)] at D
        refine x_iconst (v := 0) rfl ki_0 ?_
        refine x_zret rfl rfl (by decide) ?_
        show jX m_X2_readSign 16 0 0 18 [(0, .ref 95), (1, .int 93)] [.int 0] _ 0 0 _
        refine x_zret rfl rfl (by decide) ?_
        show jX m_X2_readFactor 17 0 0 49 [(0, .ref 95), (1, .int 2)] [.int 0] _ 0 0 _
        refine x_ifeq (tgt := 56) rfl rfl (ti_eq jk_0 jk_0 (br_t (by omega) ?_))
        exact jX.sub jsb_n (ct_X2_readFactor_r95_c2d_56 hD hQ  u44 u43 h (jr_of rfl (by omega)) (jr_of rfl (by omega)) (by omega) (jmo w53 rfl qu44) (jmo w53 rfl qu43) J Sm D)
def fp_X2_readSum_r95_c2d : jFp := [(68, 2, 3), (68, 3, 4), (68, 4, 5), (68, 5, 6), (95, 4, 5), (95, 5, 6), (97, 0, 1200)]
set_option maxRecDepth 100000 in
set_option maxHeartbeats 4000000 in
theorem ct_X2_readSum_r95_c2d_100148 {Dy : jH → Prop} {h0 : jH} {Q : Option Value → jH → Prop} {dr : (Int × jW)} {K4 : Int → Int → jW → (Int × jW)} {R4 : Int} (hD : jDk Dy) (hQ : ∀ (v : Int32) hx9, 0 ≤ v.toInt ∧ v.toInt ≤ 1 → jJ jSgX Dy hx9 → jSm fp_X2_readSum_r95_c2d h0 hx9 → ∀ u0 u1 : Int32, jiv hx9 68 5 = u0 → jiv hx9 68 3 = u1 → (u0.toInt ≠ 3 ∨ u1.toInt ≤ 399) → dr.1 = v.toInt → dr.2 = vw hx9 → Q (some (.int v)) hx9) (k4 : ∀ (l2 : Int32) (l3 : Int32) (g0 : Int32) (g1 : Int32) (h : jH), 400 - l3.toInt < R4 → (-1) ≤ l2.toInt ∧ l2.toInt ≤ 4 → 0 ≤ l3.toInt ∧ l3.toInt ≤ 400 → 0 ≤ g0.toInt ∧ g0.toInt ≤ 400 → 0 ≤ g1.toInt ∧ g1.toInt ≤ 3 → (g1.toInt ≠ 3 ∨ g0.toInt ≤ 399) → jiv h 68 3 = g0 → jiv h 68 5 = g1 → jJ jSgX Dy h → jSm fp_X2_readSum_r95_c2d h0 h → K4 l2.toInt l3.toInt (vw h) = dr → jX m_X2_readSum 18 0 0 4 [(0, .ref 95), (1, .int 2), (2, .int l2), (3, .int l3)] [] h 0 0 Q) : ∀ (l3 : Int32) (g0 : Int32) (g1 : Int32) (h : jH), 0 ≤ l3.toInt ∧ l3.toInt ≤ 399 → 0 ≤ g0.toInt ∧ g0.toInt ≤ 400 → 0 ≤ g1.toInt ∧ g1.toInt ≤ 3 → (g1.toInt ≠ 3 ∨ g0.toInt ≤ 399) → jiv h 68 3 = g0 → jiv h 68 5 = g1 → 400 - l3.toInt ≤ R4 → jJ jSgX Dy h → jSm fp_X2_readSum_r95_c2d h0 h → d_X2_readSum_r95_c2d_100148 K4  l3.toInt (vw h) = dr → jX m_X2_readSum 18 0 0 148 [(0, .ref 95), (1, .int 2), (3, .int l3)] [.int (-1)] h 0 0 Q := by
  intro l3 g0 g1 h y0 y1 y2 y3 z0 z1 m4 J Sm D
  unfold d_X2_readSum_r95_c2d_100148 at D
  try rw [vrf z0] at D
  try rw [vrf z1] at D
  refine x_istoren (lsx9 := [(2, .int (-1)), (0, .ref 95), (1, .int 2), (3, .int l3)]) rfl rfl rfl ?_
  refine x_iloadn (x := (-1)) rfl rfl ?_
  refine x_iconst (v := (-1)) rfl ki_m1 ?_
  refine x_icne (tgt := 156) rfl rfl (ti_ne jk_m1 jk_m1 (bn_f (by omega) ?_))
  refine x_iconst (v := 1) rfl ki_1 ?_
  refine x_zret rfl rfl (by decide) ?_
  exact hQ _ _ (jr_of jk_1 (by omega)) J Sm _ _ z1 z0 (by omega) ((congrArg Prod.fst D).symm.trans (show 1 = (1 : Int32).toInt from by have := jk_1; omega)) (congrArg Prod.snd D).symm
set_option maxRecDepth 100000 in
set_option maxHeartbeats 4000000 in
theorem ct_X2_readSum_r95_c2d_600148 {Dy : jH → Prop} {h0 : jH} {Q : Option Value → jH → Prop} {dr : (Int × jW)} {K4 : Int → Int → jW → (Int × jW)} {R4 : Int} (hD : jDk Dy) (hQ : ∀ (v : Int32) hx9, 0 ≤ v.toInt ∧ v.toInt ≤ 1 → jJ jSgX Dy hx9 → jSm fp_X2_readSum_r95_c2d h0 hx9 → ∀ u0 u1 : Int32, jiv hx9 68 5 = u0 → jiv hx9 68 3 = u1 → (u0.toInt ≠ 3 ∨ u1.toInt ≤ 399) → dr.1 = v.toInt → dr.2 = vw hx9 → Q (some (.int v)) hx9) (k4 : ∀ (l2 : Int32) (l3 : Int32) (g0 : Int32) (g1 : Int32) (h : jH), 400 - l3.toInt < R4 → (-1) ≤ l2.toInt ∧ l2.toInt ≤ 4 → 0 ≤ l3.toInt ∧ l3.toInt ≤ 400 → 0 ≤ g0.toInt ∧ g0.toInt ≤ 400 → 0 ≤ g1.toInt ∧ g1.toInt ≤ 3 → (g1.toInt ≠ 3 ∨ g0.toInt ≤ 399) → jiv h 68 3 = g0 → jiv h 68 5 = g1 → jJ jSgX Dy h → jSm fp_X2_readSum_r95_c2d h0 h → K4 l2.toInt l3.toInt (vw h) = dr → jX m_X2_readSum 18 0 0 4 [(0, .ref 95), (1, .int 2), (2, .int l2), (3, .int l3)] [] h 0 0 Q) : ∀ (l3 : Int32) (g0 : Int32) (g1 : Int32) (h : jH), 0 ≤ l3.toInt ∧ l3.toInt ≤ 399 → 0 ≤ g0.toInt ∧ g0.toInt ≤ 400 → 0 ≤ g1.toInt ∧ g1.toInt ≤ 3 → (g1.toInt ≠ 3 ∨ g0.toInt ≤ 399) → jiv h 68 3 = g0 → jiv h 68 5 = g1 → 400 - l3.toInt ≤ R4 → jJ jSgX Dy h → jSm fp_X2_readSum_r95_c2d h0 h → d_X2_readSum_r95_c2d_600148 K4  l3.toInt (vw h) = dr → jX m_X2_readSum 18 0 0 148 [(0, .ref 95), (1, .int 2), (3, .int l3)] [.int 4] h 0 0 Q := by
  intro l3 g0 g1 h y0 y1 y2 y3 z0 z1 m4 J Sm D
  unfold d_X2_readSum_r95_c2d_600148 at D
  try rw [vrf z0] at D
  try rw [vrf z1] at D
  refine x_istoren (lsx9 := [(2, .int 4), (0, .ref 95), (1, .int 2), (3, .int l3)]) rfl rfl rfl ?_
  refine x_iloadn (x := 4) rfl rfl ?_
  refine x_iconst (v := (-1)) rfl ki_m1 ?_
  refine x_icne (tgt := 156) rfl rfl (ti_ne jk_4 jk_m1 (bn_t (by omega) ?_))
  refine x_aloadn (x := 95) rfl rfl ?_
  refine z_getR (N := 6) (b := 68) 2 0 rfl f_2_30 rfl J rfl 12160 ⟨rfl, rfl⟩ rfl ?_
  refine x_inv (N := m_X9_step) (As := []) (b := 68) (st := []) (dx9 := 2) (mc := 0) (ms := 0) (host := "") 9 rfl t_X9_step ⟨Or.inl q_2_62, i_X9_step.1, i_X9_step.2⟩ ⟨by decide, rfl⟩ (congrArg Prod.fst (J.1.1 68 (9, 6) rfl)) rfl (by decide) rfl rfl ⟨by decide, by decide⟩ (sf_X9_step_r68d  hD J z1 z0 (by omega) rfl  (fun h J S1 u2 u3 qu2 qu3 ru2 X4 => ?_))
  have Sm := jSm_tr rfl Sm S1
  rw [X4] at D
  have eu2 := (show 0 ≤ u2.toInt ∧ u2.toInt ≤ 3 from qu2 ▸ jrg_f J sg_68_5_6_1_0_1)
  try rw [vrf qu2] at D
  have eu3 := (show 0 ≤ u3.toInt ∧ u3.toInt ≤ 400 from qu3 ▸ jrg_f J sg_68_3_4_1_0_1)
  try rw [vrf qu3] at D
  show jX m_X2_readSum 18 0 0 163 [(2, .int 4), (0, .ref 95), (1, .int 2), (3, .int l3)] [] _ 0 0 _
  refine z_iinc (x := l3) (lsx9 := fun v5 => [(3, .int v5), (2, .int 4), (0, .ref 95), (1, .int 2)]) rfl rfl rfl jko_1 (by omega) rfl (fun _ => rfl) (fun v5 ev5 => ?_)
  refine x_goto (tgt := 4) rfl rfl ?_
  try rw [show (l3.toInt + 1) = v5.toInt from by omega] at D
  exact jX.sub (jsb_c rfl (jsb_c rfl (jsb_c rfl (jsb_c rfl jsb_n)))) (k4 4 v5 u3 u2 h (by omega) (jr_of jk_4 (by omega)) (jr_of rfl (by omega)) (jr_of rfl (by omega)) (jr_of rfl (by omega)) (by omega) qu3 qu2 J Sm (by rw [jk_4]; exact D))
set_option maxRecDepth 100000 in
set_option maxHeartbeats 4000000 in
theorem ct_X2_readSum_r95_c2d_500148 {Dy : jH → Prop} {h0 : jH} {Q : Option Value → jH → Prop} {dr : (Int × jW)} {K4 : Int → Int → jW → (Int × jW)} {R4 : Int} (hD : jDk Dy) (hQ : ∀ (v : Int32) hx9, 0 ≤ v.toInt ∧ v.toInt ≤ 1 → jJ jSgX Dy hx9 → jSm fp_X2_readSum_r95_c2d h0 hx9 → ∀ u0 u1 : Int32, jiv hx9 68 5 = u0 → jiv hx9 68 3 = u1 → (u0.toInt ≠ 3 ∨ u1.toInt ≤ 399) → dr.1 = v.toInt → dr.2 = vw hx9 → Q (some (.int v)) hx9) (k4 : ∀ (l2 : Int32) (l3 : Int32) (g0 : Int32) (g1 : Int32) (h : jH), 400 - l3.toInt < R4 → (-1) ≤ l2.toInt ∧ l2.toInt ≤ 4 → 0 ≤ l3.toInt ∧ l3.toInt ≤ 400 → 0 ≤ g0.toInt ∧ g0.toInt ≤ 400 → 0 ≤ g1.toInt ∧ g1.toInt ≤ 3 → (g1.toInt ≠ 3 ∨ g0.toInt ≤ 399) → jiv h 68 3 = g0 → jiv h 68 5 = g1 → jJ jSgX Dy h → jSm fp_X2_readSum_r95_c2d h0 h → K4 l2.toInt l3.toInt (vw h) = dr → jX m_X2_readSum 18 0 0 4 [(0, .ref 95), (1, .int 2), (2, .int l2), (3, .int l3)] [] h 0 0 Q) : ∀ (l3 : Int32) (g0 : Int32) (g1 : Int32) (h : jH), 0 ≤ l3.toInt ∧ l3.toInt ≤ 399 → 0 ≤ g0.toInt ∧ g0.toInt ≤ 400 → 0 ≤ g1.toInt ∧ g1.toInt ≤ 3 → (g1.toInt ≠ 3 ∨ g0.toInt ≤ 399) → jiv h 68 3 = g0 → jiv h 68 5 = g1 → 400 - l3.toInt ≤ R4 → jJ jSgX Dy h → jSm fp_X2_readSum_r95_c2d h0 h → d_X2_readSum_r95_c2d_500148 K4  l3.toInt (vw h) = dr → jX m_X2_readSum 18 0 0 148 [(0, .ref 95), (1, .int 2), (3, .int l3)] [.int 3] h 0 0 Q := by
  intro l3 g0 g1 h y0 y1 y2 y3 z0 z1 m4 J Sm D
  unfold d_X2_readSum_r95_c2d_500148 at D
  try rw [vrf z0] at D
  try rw [vrf z1] at D
  refine x_istoren (lsx9 := [(2, .int 3), (0, .ref 95), (1, .int 2), (3, .int l3)]) rfl rfl rfl ?_
  refine x_iloadn (x := 3) rfl rfl ?_
  refine x_iconst (v := (-1)) rfl ki_m1 ?_
  refine x_icne (tgt := 156) rfl rfl (ti_ne jk_3 jk_m1 (bn_t (by omega) ?_))
  refine x_aloadn (x := 95) rfl rfl ?_
  refine z_getR (N := 6) (b := 68) 2 0 rfl f_2_30 rfl J rfl 12160 ⟨rfl, rfl⟩ rfl ?_
  refine x_inv (N := m_X9_step) (As := []) (b := 68) (st := []) (dx9 := 2) (mc := 0) (ms := 0) (host := "") 9 rfl t_X9_step ⟨Or.inl q_2_62, i_X9_step.1, i_X9_step.2⟩ ⟨by decide, rfl⟩ (congrArg Prod.fst (J.1.1 68 (9, 6) rfl)) rfl (by decide) rfl rfl ⟨by decide, by decide⟩ (sf_X9_step_r68d  hD J z1 z0 (by omega) rfl  (fun h J S1 u2 u3 qu2 qu3 ru2 X4 => ?_))
  have Sm := jSm_tr rfl Sm S1
  rw [X4] at D
  have eu2 := (show 0 ≤ u2.toInt ∧ u2.toInt ≤ 3 from qu2 ▸ jrg_f J sg_68_5_6_1_0_1)
  try rw [vrf qu2] at D
  have eu3 := (show 0 ≤ u3.toInt ∧ u3.toInt ≤ 400 from qu3 ▸ jrg_f J sg_68_3_4_1_0_1)
  try rw [vrf qu3] at D
  show jX m_X2_readSum 18 0 0 163 [(2, .int 3), (0, .ref 95), (1, .int 2), (3, .int l3)] [] _ 0 0 _
  refine z_iinc (x := l3) (lsx9 := fun v5 => [(3, .int v5), (2, .int 3), (0, .ref 95), (1, .int 2)]) rfl rfl rfl jko_1 (by omega) rfl (fun _ => rfl) (fun v5 ev5 => ?_)
  refine x_goto (tgt := 4) rfl rfl ?_
  try rw [show (l3.toInt + 1) = v5.toInt from by omega] at D
  exact jX.sub (jsb_c rfl (jsb_c rfl (jsb_c rfl (jsb_c rfl jsb_n)))) (k4 3 v5 u3 u2 h (by omega) (jr_of jk_3 (by omega)) (jr_of rfl (by omega)) (jr_of rfl (by omega)) (jr_of rfl (by omega)) (by omega) qu3 qu2 J Sm (by rw [jk_3]; exact D))
set_option maxRecDepth 100000 in
set_option maxHeartbeats 4000000 in
theorem ct_X2_readSum_r95_c2d_115 {Dy : jH → Prop} {h0 : jH} {Q : Option Value → jH → Prop} {dr : (Int × jW)} {K4 : Int → Int → jW → (Int × jW)} {R4 : Int} (hD : jDk Dy) (hQ : ∀ (v : Int32) hx9, 0 ≤ v.toInt ∧ v.toInt ≤ 1 → jJ jSgX Dy hx9 → jSm fp_X2_readSum_r95_c2d h0 hx9 → ∀ u0 u1 : Int32, jiv hx9 68 5 = u0 → jiv hx9 68 3 = u1 → (u0.toInt ≠ 3 ∨ u1.toInt ≤ 399) → dr.1 = v.toInt → dr.2 = vw hx9 → Q (some (.int v)) hx9) (k4 : ∀ (l2 : Int32) (l3 : Int32) (g0 : Int32) (g1 : Int32) (h : jH), 400 - l3.toInt < R4 → (-1) ≤ l2.toInt ∧ l2.toInt ≤ 4 → 0 ≤ l3.toInt ∧ l3.toInt ≤ 400 → 0 ≤ g0.toInt ∧ g0.toInt ≤ 400 → 0 ≤ g1.toInt ∧ g1.toInt ≤ 3 → (g1.toInt ≠ 3 ∨ g0.toInt ≤ 399) → jiv h 68 3 = g0 → jiv h 68 5 = g1 → jJ jSgX Dy h → jSm fp_X2_readSum_r95_c2d h0 h → K4 l2.toInt l3.toInt (vw h) = dr → jX m_X2_readSum 18 0 0 4 [(0, .ref 95), (1, .int 2), (2, .int l2), (3, .int l3)] [] h 0 0 Q) : ∀ (l3 : Int32) (g0 : Int32) (g1 : Int32) (h : jH), 0 ≤ l3.toInt ∧ l3.toInt ≤ 399 → 0 ≤ g0.toInt ∧ g0.toInt ≤ 400 → 0 ≤ g1.toInt ∧ g1.toInt ≤ 3 → (g1.toInt ≠ 3 ∨ g0.toInt ≤ 399) → jiv h 68 3 = g0 → jiv h 68 5 = g1 → 400 - l3.toInt ≤ R4 → jJ jSgX Dy h → jSm fp_X2_readSum_r95_c2d h0 h → d_X2_readSum_r95_c2d_115 K4  l3.toInt (vw h) = dr → jX m_X2_readSum 18 0 0 115 [(0, .ref 95), (1, .int 2), (3, .int l3)] [] h 0 0 Q := by
  intro l3 g0 g1 h y0 y1 y2 y3 z0 z1 m4 J Sm D
  unfold d_X2_readSum_r95_c2d_115 at D
  try rw [vrf z0] at D
  try rw [vrf z1] at D
  refine x_aloadn (x := 95) rfl rfl ?_
  refine z_getR (N := 6) (b := 68) 2 0 rfl f_2_30 rfl J rfl 12160 ⟨rfl, rfl⟩ rfl ?_
  refine x_bipush (v := 43) rfl kb_43 ?_
  refine x_inv (N := m_X9_isSign) (As := [.int 43]) (b := 68) (st := []) (dx9 := 1) (mc := 0) (ms := 0) (host := "") 9 rfl t_X9_isSign ⟨Or.inl q_2_55, i_X9_isSign.1, i_X9_isSign.2⟩ ⟨by decide, rfl⟩ (congrArg Prod.fst (J.1.1 68 (9, 6) rfl)) rfl (by decide) rfl rfl ⟨by decide, by decide⟩ (sf_X9_isSign_r68d (jr_of jk_43 (by omega)) hD J z1 z0 (by omega) rfl  (fun v6 h ev6 J S1 u2 u3 qu2 qu3 ru2 X4 X5 => ?_))
  have Sm := jSm_tr rfl Sm S1
  try rw [jk_43] at X4
  try rw [X4] at D
  try rw [← X5] at D
  have eu2 := (show 0 ≤ u2.toInt ∧ u2.toInt ≤ 3 from qu2 ▸ jrg_f J sg_68_5_6_1_0_1)
  have Luu2 := congrArg Int32.toInt (((jmc S1 rfl z1)).symm.trans qu2)
  try rw [Luu2] at D
  try rw [vrf qu2] at D
  have eu3 := (show 0 ≤ u3.toInt ∧ u3.toInt ≤ 400 from qu3 ▸ jrg_f J sg_68_3_4_1_0_1)
  have Luu3 := congrArg Int32.toInt (((jmc S1 rfl z0)).symm.trans qu3)
  try rw [Luu3] at D
  try rw [vrf qu3] at D
  show jX m_X2_readSum 18 0 0 124 [(0, .ref 95), (1, .int 2), (3, .int l3)] [.int v6] _ 0 0 _
  refine x_ifeq (tgt := 131) rfl rfl (ti_eq rfl jk_0 ⟨fun c7 => ?_, fun c7 => ?_⟩)
  ·
    rw [if_pos (by omega)] at D
    refine x_aloadn (x := 95) rfl rfl ?_
    refine z_getR (N := 6) (b := 68) 2 0 rfl f_2_30 rfl J rfl 12160 ⟨rfl, rfl⟩ rfl ?_
    refine x_bipush (v := 45) rfl kb_45 ?_
    refine x_inv (N := m_X9_isSign) (As := [.int 45]) (b := 68) (st := []) (dx9 := 1) (mc := 0) (ms := 0) (host := "") 9 rfl t_X9_isSign ⟨Or.inl q_2_55, i_X9_isSign.1, i_X9_isSign.2⟩ ⟨by decide, rfl⟩ (congrArg Prod.fst (J.1.1 68 (9, 6) rfl)) rfl (by decide) rfl rfl ⟨by decide, by decide⟩ (sf_X9_isSign_r68d (jr_of jk_45 (by omega)) hD J qu2 qu3 (by omega) rfl  (fun v13 h ev13 J S8 u9 u10 qu9 qu10 ru9 X11 X12 => ?_))
    have Sm := jSm_tr rfl Sm S8
    try rw [jk_45] at X11
    try rw [X11] at D
    try rw [← X12] at D
    have eu9 := (show 0 ≤ u9.toInt ∧ u9.toInt ≤ 3 from qu9 ▸ jrg_f J sg_68_5_6_1_0_1)
    have Luu9 := congrArg Int32.toInt (((jmc S8 rfl qu2)).symm.trans qu9)
    try rw [Luu9] at D
    try rw [vrf qu9] at D
    have eu10 := (show 0 ≤ u10.toInt ∧ u10.toInt ≤ 400 from qu10 ▸ jrg_f J sg_68_3_4_1_0_1)
    have Luu10 := congrArg Int32.toInt (((jmc S8 rfl qu3)).symm.trans qu10)
    try rw [Luu10] at D
    try rw [vrf qu10] at D
    show jX m_X2_readSum 18 0 0 140 [(0, .ref 95), (1, .int 2), (3, .int l3)] [.int v13] _ 0 0 _
    refine x_ifeq (tgt := 147) rfl rfl (ti_eq rfl jk_0 ⟨fun c14 => ?_, fun c14 => ?_⟩)
    ·
      rw [if_pos (by omega)] at D
      refine x_iconst (v := (-1)) rfl ki_m1 ?_
      exact jX.sub (jsb_c rfl (jsb_c rfl (jsb_c rfl jsb_n))) (ct_X2_readSum_r95_c2d_100148 hD hQ k4 l3 u10 u9 h (jr_of rfl (by omega)) (jr_of rfl (by omega)) (jr_of rfl (by omega)) (by omega) qu10 qu9 (by omega) J Sm D)
    ·
      rw [if_neg (by omega)] at D
      refine x_iconst (v := 4) rfl ki_4 ?_
      refine x_goto (tgt := 148) rfl rfl ?_
      exact jX.sub (jsb_c rfl (jsb_c rfl (jsb_c rfl jsb_n))) (ct_X2_readSum_r95_c2d_600148 hD hQ k4 l3 u10 u9 h (jr_of rfl (by omega)) (jr_of rfl (by omega)) (jr_of rfl (by omega)) (by omega) qu10 qu9 (by omega) J Sm D)
  ·
    rw [if_neg (by omega)] at D
    refine x_iconst (v := 3) rfl ki_3 ?_
    refine x_goto (tgt := 148) rfl rfl ?_
    exact jX.sub (jsb_c rfl (jsb_c rfl (jsb_c rfl jsb_n))) (ct_X2_readSum_r95_c2d_500148 hD hQ k4 l3 u3 u2 h (jr_of rfl (by omega)) (jr_of rfl (by omega)) (jr_of rfl (by omega)) (by omega) qu3 qu2 (by omega) J Sm D)
set_option maxRecDepth 100000 in
set_option maxHeartbeats 4000000 in
theorem ct_X2_readSum_r95_c2d_105 {Dy : jH → Prop} {h0 : jH} {Q : Option Value → jH → Prop} {dr : (Int × jW)} {K4 : Int → Int → jW → (Int × jW)} {R4 : Int} (hD : jDk Dy) (hQ : ∀ (v : Int32) hx9, 0 ≤ v.toInt ∧ v.toInt ≤ 1 → jJ jSgX Dy hx9 → jSm fp_X2_readSum_r95_c2d h0 hx9 → ∀ u0 u1 : Int32, jiv hx9 68 5 = u0 → jiv hx9 68 3 = u1 → (u0.toInt ≠ 3 ∨ u1.toInt ≤ 399) → dr.1 = v.toInt → dr.2 = vw hx9 → Q (some (.int v)) hx9) (k4 : ∀ (l2 : Int32) (l3 : Int32) (g0 : Int32) (g1 : Int32) (h : jH), 400 - l3.toInt < R4 → (-1) ≤ l2.toInt ∧ l2.toInt ≤ 4 → 0 ≤ l3.toInt ∧ l3.toInt ≤ 400 → 0 ≤ g0.toInt ∧ g0.toInt ≤ 400 → 0 ≤ g1.toInt ∧ g1.toInt ≤ 3 → (g1.toInt ≠ 3 ∨ g0.toInt ≤ 399) → jiv h 68 3 = g0 → jiv h 68 5 = g1 → jJ jSgX Dy h → jSm fp_X2_readSum_r95_c2d h0 h → K4 l2.toInt l3.toInt (vw h) = dr → jX m_X2_readSum 18 0 0 4 [(0, .ref 95), (1, .int 2), (2, .int l2), (3, .int l3)] [] h 0 0 Q) : ∀ (l2 : Int32) (l3 : Int32) (g0 : Int32) (g1 : Int32) (h : jH), (-1) ≤ l2.toInt ∧ l2.toInt ≤ 4 → 0 ≤ l3.toInt ∧ l3.toInt ≤ 399 → 0 ≤ g0.toInt ∧ g0.toInt ≤ 400 → 0 ≤ g1.toInt ∧ g1.toInt ≤ 3 → (g1.toInt ≠ 3 ∨ g0.toInt ≤ 399) → jiv h 68 3 = g0 → jiv h 68 5 = g1 → 400 - l3.toInt ≤ R4 → jJ jSgX Dy h → jSm fp_X2_readSum_r95_c2d h0 h → d_X2_readSum_r95_c2d_105 K4  l2.toInt l3.toInt (vw h) = dr → jX m_X2_readSum 18 0 0 105 [(0, .ref 95), (1, .int 2), (2, .int l2), (3, .int l3)] [] h 0 0 Q := by
  intro l2 l3 g0 g1 h y0 y1 y2 y3 y4 z0 z1 m4 J Sm D
  unfold d_X2_readSum_r95_c2d_105 at D
  try rw [vrf z0] at D
  try rw [vrf z1] at D
  refine x_iloadn (x := l2) rfl rfl ?_
  refine x_iconst (v := (-1)) rfl ki_m1 ?_
  refine x_iceq (tgt := 115) rfl rfl (ti_eq rfl jk_m1 ⟨fun c1 => ?_, fun c1 => ?_⟩)
  ·
    rw [if_pos (by omega)] at D
    exact jX.sub (jsb_c rfl (jsb_c rfl (jsb_c rfl jsb_n))) (ct_X2_readSum_r95_c2d_115 hD hQ k4 l3 g0 g1 h (jr_of rfl (by omega)) (jr_of rfl (by omega)) (jr_of rfl (by omega)) (by omega) z0 z1 (by omega) J Sm D)
  ·
    rw [if_neg (by omega)] at D
    refine x_aloadn (x := 95) rfl rfl ?_
    refine x_iloadn (x := l2) rfl rfl ?_
    refine x_inv (N := m_X2_emit) (As := [.int l2]) (b := 95) (st := []) (dx9 := 1) (mc := 0) (ms := 0) (host := "") 2 rfl t_X2_emit ⟨Or.inl q_2_89, i_X2_emit.1, i_X2_emit.2⟩ ⟨by decide, rfl⟩ (congrArg Prod.fst (J.1.1 95 (2, 6) rfl)) rfl (by decide) rfl rfl ⟨by decide, by decide⟩ (sf_X2_emit_r95d  hD J rfl  (fun h J S2 X3 => ?_))
    have Sm := jSm_tr rfl Sm S2
    rw [X3] at D
    show jX m_X2_readSum 18 0 0 115 [(0, .ref 95), (1, .int 2), (2, .int l2), (3, .int l3)] [] _ 0 0 _
    exact jX.sub (jsb_c rfl (jsb_c rfl (jsb_c rfl jsb_n))) (ct_X2_readSum_r95_c2d_115 hD hQ k4 l3 g0 g1 h (jr_of rfl (by omega)) (jr_of rfl (by omega)) (jr_of rfl (by omega)) (by omega) (jmc S2 rfl z0) (jmc S2 rfl z1) (by omega) J Sm D)
set_option maxRecDepth 100000 in
set_option maxHeartbeats 4000000 in
theorem ct_X2_readSum_r95_c2d_100081 {Dy : jH → Prop} {h0 : jH} {Q : Option Value → jH → Prop} {dr : (Int × jW)} {K4 : Int → Int → jW → (Int × jW)} {K17 : Int → Int → Int → Int → jW → (Int × jW)} {R4 : Int} {R17 : Int} (hD : jDk Dy) (hQ : ∀ (v : Int32) hx9, 0 ≤ v.toInt ∧ v.toInt ≤ 1 → jJ jSgX Dy hx9 → jSm fp_X2_readSum_r95_c2d h0 hx9 → ∀ u0 u1 : Int32, jiv hx9 68 5 = u0 → jiv hx9 68 3 = u1 → (u0.toInt ≠ 3 ∨ u1.toInt ≤ 399) → dr.1 = v.toInt → dr.2 = vw hx9 → Q (some (.int v)) hx9) (k4 : ∀ (l2 : Int32) (l3 : Int32) (g0 : Int32) (g1 : Int32) (h : jH), 400 - l3.toInt < R4 → (-1) ≤ l2.toInt ∧ l2.toInt ≤ 4 → 0 ≤ l3.toInt ∧ l3.toInt ≤ 400 → 0 ≤ g0.toInt ∧ g0.toInt ≤ 400 → 0 ≤ g1.toInt ∧ g1.toInt ≤ 3 → (g1.toInt ≠ 3 ∨ g0.toInt ≤ 399) → jiv h 68 3 = g0 → jiv h 68 5 = g1 → jJ jSgX Dy h → jSm fp_X2_readSum_r95_c2d h0 h → K4 l2.toInt l3.toInt (vw h) = dr → jX m_X2_readSum 18 0 0 4 [(0, .ref 95), (1, .int 2), (2, .int l2), (3, .int l3)] [] h 0 0 Q) (k17 : ∀ (l2 : Int32) (l3 : Int32) (l4 : Int32) (l5 : Int32) (g0 : Int32) (g1 : Int32) (h : jH), 400 - l5.toInt < R17 → (-1) ≤ l2.toInt ∧ l2.toInt ≤ 4 → 0 ≤ l3.toInt ∧ l3.toInt ≤ 399 → (-1) ≤ l4.toInt ∧ l4.toInt ≤ 6 → 0 ≤ l5.toInt ∧ l5.toInt ≤ 400 → 0 ≤ g0.toInt ∧ g0.toInt ≤ 400 → 0 ≤ g1.toInt ∧ g1.toInt ≤ 3 → (g1.toInt ≠ 3 ∨ g0.toInt ≤ 399) → jiv h 68 3 = g0 → jiv h 68 5 = g1 → 400 - l3.toInt ≤ R4 → jJ jSgX Dy h → jSm fp_X2_readSum_r95_c2d h0 h → K17 l2.toInt l3.toInt l4.toInt l5.toInt (vw h) = dr → jX m_X2_readSum 18 0 0 17 [(0, .ref 95), (1, .int 2), (2, .int l2), (3, .int l3), (4, .int l4), (5, .int l5)] [] h 0 0 Q) : ∀ (l2 : Int32) (l3 : Int32) (l5 : Int32) (g0 : Int32) (g1 : Int32) (h : jH), (-1) ≤ l2.toInt ∧ l2.toInt ≤ 4 → 0 ≤ l3.toInt ∧ l3.toInt ≤ 399 → 0 ≤ l5.toInt ∧ l5.toInt ≤ 399 → 0 ≤ g0.toInt ∧ g0.toInt ≤ 400 → 0 ≤ g1.toInt ∧ g1.toInt ≤ 3 → (g1.toInt ≠ 3 ∨ g0.toInt ≤ 399) → jiv h 68 3 = g0 → jiv h 68 5 = g1 → 400 - l3.toInt ≤ R4 → 400 - l5.toInt ≤ R17 → jJ jSgX Dy h → jSm fp_X2_readSum_r95_c2d h0 h → d_X2_readSum_r95_c2d_100081 K4 K17  l2.toInt l3.toInt l5.toInt (vw h) = dr → jX m_X2_readSum 18 0 0 81 [(0, .ref 95), (1, .int 2), (2, .int l2), (3, .int l3), (5, .int l5)] [.int (-1)] h 0 0 Q := by
  intro l2 l3 l5 g0 g1 h y0 y1 y2 y3 y4 y5 z0 z1 m4 m17 J Sm D
  unfold d_X2_readSum_r95_c2d_100081 at D
  try rw [vrf z0] at D
  try rw [vrf z1] at D
  refine x_istore (lsx9 := [(4, .int (-1)), (0, .ref 95), (1, .int 2), (2, .int l2), (3, .int l3), (5, .int l5)]) rfl rfl rfl ?_
  refine x_iload (x := (-1)) rfl rfl ?_
  refine x_iconst (v := (-1)) rfl ki_m1 ?_
  refine x_icne (tgt := 92) rfl rfl (ti_ne jk_m1 jk_m1 (bn_f (by omega) ?_))
  refine x_goto (tgt := 105) rfl rfl ?_
  exact jX.sub (jsb_c rfl (jsb_c rfl (jsb_c rfl (jsb_c rfl jsb_n)))) (ct_X2_readSum_r95_c2d_105 hD hQ k4 l2 l3 g0 g1 h (jr_of rfl (by omega)) (jr_of rfl (by omega)) (jr_of rfl (by omega)) (jr_of rfl (by omega)) (by omega) z0 z1 (by omega) J Sm D)
set_option maxRecDepth 100000 in
set_option maxHeartbeats 4000000 in
theorem ct_X2_readSum_r95_c2d_800081 {Dy : jH → Prop} {h0 : jH} {Q : Option Value → jH → Prop} {dr : (Int × jW)} {K4 : Int → Int → jW → (Int × jW)} {K17 : Int → Int → Int → Int → jW → (Int × jW)} {R4 : Int} {R17 : Int} (hD : jDk Dy) (hQ : ∀ (v : Int32) hx9, 0 ≤ v.toInt ∧ v.toInt ≤ 1 → jJ jSgX Dy hx9 → jSm fp_X2_readSum_r95_c2d h0 hx9 → ∀ u0 u1 : Int32, jiv hx9 68 5 = u0 → jiv hx9 68 3 = u1 → (u0.toInt ≠ 3 ∨ u1.toInt ≤ 399) → dr.1 = v.toInt → dr.2 = vw hx9 → Q (some (.int v)) hx9) (k4 : ∀ (l2 : Int32) (l3 : Int32) (g0 : Int32) (g1 : Int32) (h : jH), 400 - l3.toInt < R4 → (-1) ≤ l2.toInt ∧ l2.toInt ≤ 4 → 0 ≤ l3.toInt ∧ l3.toInt ≤ 400 → 0 ≤ g0.toInt ∧ g0.toInt ≤ 400 → 0 ≤ g1.toInt ∧ g1.toInt ≤ 3 → (g1.toInt ≠ 3 ∨ g0.toInt ≤ 399) → jiv h 68 3 = g0 → jiv h 68 5 = g1 → jJ jSgX Dy h → jSm fp_X2_readSum_r95_c2d h0 h → K4 l2.toInt l3.toInt (vw h) = dr → jX m_X2_readSum 18 0 0 4 [(0, .ref 95), (1, .int 2), (2, .int l2), (3, .int l3)] [] h 0 0 Q) (k17 : ∀ (l2 : Int32) (l3 : Int32) (l4 : Int32) (l5 : Int32) (g0 : Int32) (g1 : Int32) (h : jH), 400 - l5.toInt < R17 → (-1) ≤ l2.toInt ∧ l2.toInt ≤ 4 → 0 ≤ l3.toInt ∧ l3.toInt ≤ 399 → (-1) ≤ l4.toInt ∧ l4.toInt ≤ 6 → 0 ≤ l5.toInt ∧ l5.toInt ≤ 400 → 0 ≤ g0.toInt ∧ g0.toInt ≤ 400 → 0 ≤ g1.toInt ∧ g1.toInt ≤ 3 → (g1.toInt ≠ 3 ∨ g0.toInt ≤ 399) → jiv h 68 3 = g0 → jiv h 68 5 = g1 → 400 - l3.toInt ≤ R4 → jJ jSgX Dy h → jSm fp_X2_readSum_r95_c2d h0 h → K17 l2.toInt l3.toInt l4.toInt l5.toInt (vw h) = dr → jX m_X2_readSum 18 0 0 17 [(0, .ref 95), (1, .int 2), (2, .int l2), (3, .int l3), (4, .int l4), (5, .int l5)] [] h 0 0 Q) : ∀ (l2 : Int32) (l3 : Int32) (l5 : Int32) (g0 : Int32) (g1 : Int32) (h : jH), (-1) ≤ l2.toInt ∧ l2.toInt ≤ 4 → 0 ≤ l3.toInt ∧ l3.toInt ≤ 399 → 0 ≤ l5.toInt ∧ l5.toInt ≤ 399 → 0 ≤ g0.toInt ∧ g0.toInt ≤ 400 → 0 ≤ g1.toInt ∧ g1.toInt ≤ 3 → (g1.toInt ≠ 3 ∨ g0.toInt ≤ 399) → jiv h 68 3 = g0 → jiv h 68 5 = g1 → 400 - l3.toInt ≤ R4 → 400 - l5.toInt ≤ R17 → jJ jSgX Dy h → jSm fp_X2_readSum_r95_c2d h0 h → d_X2_readSum_r95_c2d_800081 K4 K17  l2.toInt l3.toInt l5.toInt (vw h) = dr → jX m_X2_readSum 18 0 0 81 [(0, .ref 95), (1, .int 2), (2, .int l2), (3, .int l3), (5, .int l5)] [.int 6] h 0 0 Q := by
  intro l2 l3 l5 g0 g1 h y0 y1 y2 y3 y4 y5 z0 z1 m4 m17 J Sm D
  unfold d_X2_readSum_r95_c2d_800081 at D
  try rw [vrf z0] at D
  try rw [vrf z1] at D
  refine x_istore (lsx9 := [(4, .int 6), (0, .ref 95), (1, .int 2), (2, .int l2), (3, .int l3), (5, .int l5)]) rfl rfl rfl ?_
  refine x_iload (x := 6) rfl rfl ?_
  refine x_iconst (v := (-1)) rfl ki_m1 ?_
  refine x_icne (tgt := 92) rfl rfl (ti_ne jk_6 jk_m1 (bn_t (by omega) ?_))
  refine x_aloadn (x := 95) rfl rfl ?_
  refine z_getR (N := 6) (b := 68) 2 0 rfl f_2_30 rfl J rfl 12160 ⟨rfl, rfl⟩ rfl ?_
  refine x_inv (N := m_X9_step) (As := []) (b := 68) (st := []) (dx9 := 2) (mc := 0) (ms := 0) (host := "") 9 rfl t_X9_step ⟨Or.inl q_2_62, i_X9_step.1, i_X9_step.2⟩ ⟨by decide, rfl⟩ (congrArg Prod.fst (J.1.1 68 (9, 6) rfl)) rfl (by decide) rfl rfl ⟨by decide, by decide⟩ (sf_X9_step_r68d  hD J z1 z0 (by omega) rfl  (fun h J S1 u2 u3 qu2 qu3 ru2 X4 => ?_))
  have Sm := jSm_tr rfl Sm S1
  rw [X4] at D
  have eu2 := (show 0 ≤ u2.toInt ∧ u2.toInt ≤ 3 from qu2 ▸ jrg_f J sg_68_5_6_1_0_1)
  try rw [vrf qu2] at D
  have eu3 := (show 0 ≤ u3.toInt ∧ u3.toInt ≤ 400 from qu3 ▸ jrg_f J sg_68_3_4_1_0_1)
  try rw [vrf qu3] at D
  show jX m_X2_readSum 18 0 0 99 [(4, .int 6), (0, .ref 95), (1, .int 2), (2, .int l2), (3, .int l3), (5, .int l5)] [] _ 0 0 _
  refine z_iinc (x := l5) (lsx9 := fun v5 => [(5, .int v5), (4, .int 6), (0, .ref 95), (1, .int 2), (2, .int l2), (3, .int l3)]) rfl rfl rfl jko_1 (by omega) rfl (fun _ => rfl) (fun v5 ev5 => ?_)
  refine x_goto (tgt := 17) rfl rfl ?_
  try rw [show (l5.toInt + 1) = v5.toInt from by omega] at D
  exact jX.sub (jsb_c rfl (jsb_c rfl (jsb_c rfl (jsb_c rfl (jsb_c rfl (jsb_c rfl jsb_n)))))) (k17 l2 l3 6 v5 u3 u2 h (by omega) (jr_of rfl (by omega)) (jr_of rfl (by omega)) (jr_of jk_6 (by omega)) (jr_of rfl (by omega)) (jr_of rfl (by omega)) (jr_of rfl (by omega)) (by omega) qu3 qu2 (by omega) J Sm (by rw [jk_6]; exact D))
set_option maxRecDepth 100000 in
set_option maxHeartbeats 4000000 in
theorem ct_X2_readSum_r95_c2d_700081 {Dy : jH → Prop} {h0 : jH} {Q : Option Value → jH → Prop} {dr : (Int × jW)} {K4 : Int → Int → jW → (Int × jW)} {K17 : Int → Int → Int → Int → jW → (Int × jW)} {R4 : Int} {R17 : Int} (hD : jDk Dy) (hQ : ∀ (v : Int32) hx9, 0 ≤ v.toInt ∧ v.toInt ≤ 1 → jJ jSgX Dy hx9 → jSm fp_X2_readSum_r95_c2d h0 hx9 → ∀ u0 u1 : Int32, jiv hx9 68 5 = u0 → jiv hx9 68 3 = u1 → (u0.toInt ≠ 3 ∨ u1.toInt ≤ 399) → dr.1 = v.toInt → dr.2 = vw hx9 → Q (some (.int v)) hx9) (k4 : ∀ (l2 : Int32) (l3 : Int32) (g0 : Int32) (g1 : Int32) (h : jH), 400 - l3.toInt < R4 → (-1) ≤ l2.toInt ∧ l2.toInt ≤ 4 → 0 ≤ l3.toInt ∧ l3.toInt ≤ 400 → 0 ≤ g0.toInt ∧ g0.toInt ≤ 400 → 0 ≤ g1.toInt ∧ g1.toInt ≤ 3 → (g1.toInt ≠ 3 ∨ g0.toInt ≤ 399) → jiv h 68 3 = g0 → jiv h 68 5 = g1 → jJ jSgX Dy h → jSm fp_X2_readSum_r95_c2d h0 h → K4 l2.toInt l3.toInt (vw h) = dr → jX m_X2_readSum 18 0 0 4 [(0, .ref 95), (1, .int 2), (2, .int l2), (3, .int l3)] [] h 0 0 Q) (k17 : ∀ (l2 : Int32) (l3 : Int32) (l4 : Int32) (l5 : Int32) (g0 : Int32) (g1 : Int32) (h : jH), 400 - l5.toInt < R17 → (-1) ≤ l2.toInt ∧ l2.toInt ≤ 4 → 0 ≤ l3.toInt ∧ l3.toInt ≤ 399 → (-1) ≤ l4.toInt ∧ l4.toInt ≤ 6 → 0 ≤ l5.toInt ∧ l5.toInt ≤ 400 → 0 ≤ g0.toInt ∧ g0.toInt ≤ 400 → 0 ≤ g1.toInt ∧ g1.toInt ≤ 3 → (g1.toInt ≠ 3 ∨ g0.toInt ≤ 399) → jiv h 68 3 = g0 → jiv h 68 5 = g1 → 400 - l3.toInt ≤ R4 → jJ jSgX Dy h → jSm fp_X2_readSum_r95_c2d h0 h → K17 l2.toInt l3.toInt l4.toInt l5.toInt (vw h) = dr → jX m_X2_readSum 18 0 0 17 [(0, .ref 95), (1, .int 2), (2, .int l2), (3, .int l3), (4, .int l4), (5, .int l5)] [] h 0 0 Q) : ∀ (l2 : Int32) (l3 : Int32) (l5 : Int32) (g0 : Int32) (g1 : Int32) (h : jH), (-1) ≤ l2.toInt ∧ l2.toInt ≤ 4 → 0 ≤ l3.toInt ∧ l3.toInt ≤ 399 → 0 ≤ l5.toInt ∧ l5.toInt ≤ 399 → 0 ≤ g0.toInt ∧ g0.toInt ≤ 400 → 0 ≤ g1.toInt ∧ g1.toInt ≤ 3 → (g1.toInt ≠ 3 ∨ g0.toInt ≤ 399) → jiv h 68 3 = g0 → jiv h 68 5 = g1 → 400 - l3.toInt ≤ R4 → 400 - l5.toInt ≤ R17 → jJ jSgX Dy h → jSm fp_X2_readSum_r95_c2d h0 h → d_X2_readSum_r95_c2d_700081 K4 K17  l2.toInt l3.toInt l5.toInt (vw h) = dr → jX m_X2_readSum 18 0 0 81 [(0, .ref 95), (1, .int 2), (2, .int l2), (3, .int l3), (5, .int l5)] [.int 5] h 0 0 Q := by
  intro l2 l3 l5 g0 g1 h y0 y1 y2 y3 y4 y5 z0 z1 m4 m17 J Sm D
  unfold d_X2_readSum_r95_c2d_700081 at D
  try rw [vrf z0] at D
  try rw [vrf z1] at D
  refine x_istore (lsx9 := [(4, .int 5), (0, .ref 95), (1, .int 2), (2, .int l2), (3, .int l3), (5, .int l5)]) rfl rfl rfl ?_
  refine x_iload (x := 5) rfl rfl ?_
  refine x_iconst (v := (-1)) rfl ki_m1 ?_
  refine x_icne (tgt := 92) rfl rfl (ti_ne jk_5 jk_m1 (bn_t (by omega) ?_))
  refine x_aloadn (x := 95) rfl rfl ?_
  refine z_getR (N := 6) (b := 68) 2 0 rfl f_2_30 rfl J rfl 12160 ⟨rfl, rfl⟩ rfl ?_
  refine x_inv (N := m_X9_step) (As := []) (b := 68) (st := []) (dx9 := 2) (mc := 0) (ms := 0) (host := "") 9 rfl t_X9_step ⟨Or.inl q_2_62, i_X9_step.1, i_X9_step.2⟩ ⟨by decide, rfl⟩ (congrArg Prod.fst (J.1.1 68 (9, 6) rfl)) rfl (by decide) rfl rfl ⟨by decide, by decide⟩ (sf_X9_step_r68d  hD J z1 z0 (by omega) rfl  (fun h J S1 u2 u3 qu2 qu3 ru2 X4 => ?_))
  have Sm := jSm_tr rfl Sm S1
  rw [X4] at D
  have eu2 := (show 0 ≤ u2.toInt ∧ u2.toInt ≤ 3 from qu2 ▸ jrg_f J sg_68_5_6_1_0_1)
  try rw [vrf qu2] at D
  have eu3 := (show 0 ≤ u3.toInt ∧ u3.toInt ≤ 400 from qu3 ▸ jrg_f J sg_68_3_4_1_0_1)
  try rw [vrf qu3] at D
  show jX m_X2_readSum 18 0 0 99 [(4, .int 5), (0, .ref 95), (1, .int 2), (2, .int l2), (3, .int l3), (5, .int l5)] [] _ 0 0 _
  refine z_iinc (x := l5) (lsx9 := fun v5 => [(5, .int v5), (4, .int 5), (0, .ref 95), (1, .int 2), (2, .int l2), (3, .int l3)]) rfl rfl rfl jko_1 (by omega) rfl (fun _ => rfl) (fun v5 ev5 => ?_)
  refine x_goto (tgt := 17) rfl rfl ?_
  try rw [show (l5.toInt + 1) = v5.toInt from by omega] at D
  exact jX.sub (jsb_c rfl (jsb_c rfl (jsb_c rfl (jsb_c rfl (jsb_c rfl (jsb_c rfl jsb_n)))))) (k17 l2 l3 5 v5 u3 u2 h (by omega) (jr_of rfl (by omega)) (jr_of rfl (by omega)) (jr_of jk_5 (by omega)) (jr_of rfl (by omega)) (jr_of rfl (by omega)) (jr_of rfl (by omega)) (by omega) qu3 qu2 (by omega) J Sm (by rw [jk_5]; exact D))
set_option maxRecDepth 100000 in
set_option maxHeartbeats 4000000 in
theorem ct_X2_readSum_r95_c2d_47 {Dy : jH → Prop} {h0 : jH} {Q : Option Value → jH → Prop} {dr : (Int × jW)} {K4 : Int → Int → jW → (Int × jW)} {K17 : Int → Int → Int → Int → jW → (Int × jW)} {R4 : Int} {R17 : Int} (hD : jDk Dy) (hQ : ∀ (v : Int32) hx9, 0 ≤ v.toInt ∧ v.toInt ≤ 1 → jJ jSgX Dy hx9 → jSm fp_X2_readSum_r95_c2d h0 hx9 → ∀ u0 u1 : Int32, jiv hx9 68 5 = u0 → jiv hx9 68 3 = u1 → (u0.toInt ≠ 3 ∨ u1.toInt ≤ 399) → dr.1 = v.toInt → dr.2 = vw hx9 → Q (some (.int v)) hx9) (k4 : ∀ (l2 : Int32) (l3 : Int32) (g0 : Int32) (g1 : Int32) (h : jH), 400 - l3.toInt < R4 → (-1) ≤ l2.toInt ∧ l2.toInt ≤ 4 → 0 ≤ l3.toInt ∧ l3.toInt ≤ 400 → 0 ≤ g0.toInt ∧ g0.toInt ≤ 400 → 0 ≤ g1.toInt ∧ g1.toInt ≤ 3 → (g1.toInt ≠ 3 ∨ g0.toInt ≤ 399) → jiv h 68 3 = g0 → jiv h 68 5 = g1 → jJ jSgX Dy h → jSm fp_X2_readSum_r95_c2d h0 h → K4 l2.toInt l3.toInt (vw h) = dr → jX m_X2_readSum 18 0 0 4 [(0, .ref 95), (1, .int 2), (2, .int l2), (3, .int l3)] [] h 0 0 Q) (k17 : ∀ (l2 : Int32) (l3 : Int32) (l4 : Int32) (l5 : Int32) (g0 : Int32) (g1 : Int32) (h : jH), 400 - l5.toInt < R17 → (-1) ≤ l2.toInt ∧ l2.toInt ≤ 4 → 0 ≤ l3.toInt ∧ l3.toInt ≤ 399 → (-1) ≤ l4.toInt ∧ l4.toInt ≤ 6 → 0 ≤ l5.toInt ∧ l5.toInt ≤ 400 → 0 ≤ g0.toInt ∧ g0.toInt ≤ 400 → 0 ≤ g1.toInt ∧ g1.toInt ≤ 3 → (g1.toInt ≠ 3 ∨ g0.toInt ≤ 399) → jiv h 68 3 = g0 → jiv h 68 5 = g1 → 400 - l3.toInt ≤ R4 → jJ jSgX Dy h → jSm fp_X2_readSum_r95_c2d h0 h → K17 l2.toInt l3.toInt l4.toInt l5.toInt (vw h) = dr → jX m_X2_readSum 18 0 0 17 [(0, .ref 95), (1, .int 2), (2, .int l2), (3, .int l3), (4, .int l4), (5, .int l5)] [] h 0 0 Q) : ∀ (l2 : Int32) (l3 : Int32) (l5 : Int32) (g0 : Int32) (g1 : Int32) (h : jH), (-1) ≤ l2.toInt ∧ l2.toInt ≤ 4 → 0 ≤ l3.toInt ∧ l3.toInt ≤ 399 → 0 ≤ l5.toInt ∧ l5.toInt ≤ 399 → 0 ≤ g0.toInt ∧ g0.toInt ≤ 400 → 0 ≤ g1.toInt ∧ g1.toInt ≤ 3 → (g1.toInt ≠ 3 ∨ g0.toInt ≤ 399) → jiv h 68 3 = g0 → jiv h 68 5 = g1 → 400 - l3.toInt ≤ R4 → 400 - l5.toInt ≤ R17 → jJ jSgX Dy h → jSm fp_X2_readSum_r95_c2d h0 h → d_X2_readSum_r95_c2d_47 K4 K17  l2.toInt l3.toInt l5.toInt (vw h) = dr → jX m_X2_readSum 18 0 0 47 [(0, .ref 95), (1, .int 2), (2, .int l2), (3, .int l3), (5, .int l5)] [] h 0 0 Q := by
  intro l2 l3 l5 g0 g1 h y0 y1 y2 y3 y4 y5 z0 z1 m4 m17 J Sm D
  unfold d_X2_readSum_r95_c2d_47 at D
  try rw [vrf z0] at D
  try rw [vrf z1] at D
  refine x_aloadn (x := 95) rfl rfl ?_
  refine z_getR (N := 6) (b := 68) 2 0 rfl f_2_30 rfl J rfl 12160 ⟨rfl, rfl⟩ rfl ?_
  refine x_bipush (v := 42) rfl kb_42 ?_
  refine x_inv (N := m_X9_isSign) (As := [.int 42]) (b := 68) (st := []) (dx9 := 1) (mc := 0) (ms := 0) (host := "") 9 rfl t_X9_isSign ⟨Or.inl q_2_55, i_X9_isSign.1, i_X9_isSign.2⟩ ⟨by decide, rfl⟩ (congrArg Prod.fst (J.1.1 68 (9, 6) rfl)) rfl (by decide) rfl rfl ⟨by decide, by decide⟩ (sf_X9_isSign_r68d (jr_of jk_42 (by omega)) hD J z1 z0 (by omega) rfl  (fun v6 h ev6 J S1 u2 u3 qu2 qu3 ru2 X4 X5 => ?_))
  have Sm := jSm_tr rfl Sm S1
  try rw [jk_42] at X4
  try rw [X4] at D
  try rw [← X5] at D
  have eu2 := (show 0 ≤ u2.toInt ∧ u2.toInt ≤ 3 from qu2 ▸ jrg_f J sg_68_5_6_1_0_1)
  have Luu2 := congrArg Int32.toInt (((jmc S1 rfl z1)).symm.trans qu2)
  try rw [Luu2] at D
  try rw [vrf qu2] at D
  have eu3 := (show 0 ≤ u3.toInt ∧ u3.toInt ≤ 400 from qu3 ▸ jrg_f J sg_68_3_4_1_0_1)
  have Luu3 := congrArg Int32.toInt (((jmc S1 rfl z0)).symm.trans qu3)
  try rw [Luu3] at D
  try rw [vrf qu3] at D
  show jX m_X2_readSum 18 0 0 56 [(0, .ref 95), (1, .int 2), (2, .int l2), (3, .int l3), (5, .int l5)] [.int v6] _ 0 0 _
  refine x_ifeq (tgt := 63) rfl rfl (ti_eq rfl jk_0 ⟨fun c7 => ?_, fun c7 => ?_⟩)
  ·
    rw [if_pos (by omega)] at D
    refine x_aloadn (x := 95) rfl rfl ?_
    refine z_getR (N := 6) (b := 68) 2 0 rfl f_2_30 rfl J rfl 12160 ⟨rfl, rfl⟩ rfl ?_
    refine x_bipush (v := 47) rfl kb_47 ?_
    refine x_inv (N := m_X9_isSign) (As := [.int 47]) (b := 68) (st := []) (dx9 := 1) (mc := 0) (ms := 0) (host := "") 9 rfl t_X9_isSign ⟨Or.inl q_2_55, i_X9_isSign.1, i_X9_isSign.2⟩ ⟨by decide, rfl⟩ (congrArg Prod.fst (J.1.1 68 (9, 6) rfl)) rfl (by decide) rfl rfl ⟨by decide, by decide⟩ (sf_X9_isSign_r68d (jr_of jk_47 (by omega)) hD J qu2 qu3 (by omega) rfl  (fun v13 h ev13 J S8 u9 u10 qu9 qu10 ru9 X11 X12 => ?_))
    have Sm := jSm_tr rfl Sm S8
    try rw [jk_47] at X11
    try rw [X11] at D
    try rw [← X12] at D
    have eu9 := (show 0 ≤ u9.toInt ∧ u9.toInt ≤ 3 from qu9 ▸ jrg_f J sg_68_5_6_1_0_1)
    have Luu9 := congrArg Int32.toInt (((jmc S8 rfl qu2)).symm.trans qu9)
    try rw [Luu9] at D
    try rw [vrf qu9] at D
    have eu10 := (show 0 ≤ u10.toInt ∧ u10.toInt ≤ 400 from qu10 ▸ jrg_f J sg_68_3_4_1_0_1)
    have Luu10 := congrArg Int32.toInt (((jmc S8 rfl qu3)).symm.trans qu10)
    try rw [Luu10] at D
    try rw [vrf qu10] at D
    show jX m_X2_readSum 18 0 0 72 [(0, .ref 95), (1, .int 2), (2, .int l2), (3, .int l3), (5, .int l5)] [.int v13] _ 0 0 _
    refine x_ifeq (tgt := 80) rfl rfl (ti_eq rfl jk_0 ⟨fun c14 => ?_, fun c14 => ?_⟩)
    ·
      rw [if_pos (by omega)] at D
      refine x_iconst (v := (-1)) rfl ki_m1 ?_
      exact jX.sub (jsb_c rfl (jsb_c rfl (jsb_c rfl (jsb_c rfl (jsb_c rfl jsb_n))))) (ct_X2_readSum_r95_c2d_100081 hD hQ k4 k17 l2 l3 l5 u10 u9 h (jr_of rfl (by omega)) (jr_of rfl (by omega)) (jr_of rfl (by omega)) (jr_of rfl (by omega)) (jr_of rfl (by omega)) (by omega) qu10 qu9 (by omega) (by omega) J Sm D)
    ·
      rw [if_neg (by omega)] at D
      refine x_bipush (v := 6) rfl kb_6 ?_
      refine x_goto (tgt := 81) rfl rfl ?_
      exact jX.sub (jsb_c rfl (jsb_c rfl (jsb_c rfl (jsb_c rfl (jsb_c rfl jsb_n))))) (ct_X2_readSum_r95_c2d_800081 hD hQ k4 k17 l2 l3 l5 u10 u9 h (jr_of rfl (by omega)) (jr_of rfl (by omega)) (jr_of rfl (by omega)) (jr_of rfl (by omega)) (jr_of rfl (by omega)) (by omega) qu10 qu9 (by omega) (by omega) J Sm D)
  ·
    rw [if_neg (by omega)] at D
    refine x_iconst (v := 5) rfl ki_5 ?_
    refine x_goto (tgt := 81) rfl rfl ?_
    exact jX.sub (jsb_c rfl (jsb_c rfl (jsb_c rfl (jsb_c rfl (jsb_c rfl jsb_n))))) (ct_X2_readSum_r95_c2d_700081 hD hQ k4 k17 l2 l3 l5 u3 u2 h (jr_of rfl (by omega)) (jr_of rfl (by omega)) (jr_of rfl (by omega)) (jr_of rfl (by omega)) (jr_of rfl (by omega)) (by omega) qu3 qu2 (by omega) (by omega) J Sm D)
set_option maxRecDepth 100000 in
set_option maxHeartbeats 4000000 in
theorem ct_X2_readSum_r95_c2d_17 {Dy : jH → Prop} {h0 : jH} {Q : Option Value → jH → Prop} {dr : (Int × jW)} {K4 : Int → Int → jW → (Int × jW)} {R4 : Int} (hD : jDk Dy) (hQ : ∀ (v : Int32) hx9, 0 ≤ v.toInt ∧ v.toInt ≤ 1 → jJ jSgX Dy hx9 → jSm fp_X2_readSum_r95_c2d h0 hx9 → ∀ u0 u1 : Int32, jiv hx9 68 5 = u0 → jiv hx9 68 3 = u1 → (u0.toInt ≠ 3 ∨ u1.toInt ≤ 399) → dr.1 = v.toInt → dr.2 = vw hx9 → Q (some (.int v)) hx9) (k4 : ∀ (l2 : Int32) (l3 : Int32) (g0 : Int32) (g1 : Int32) (h : jH), 400 - l3.toInt < R4 → (-1) ≤ l2.toInt ∧ l2.toInt ≤ 4 → 0 ≤ l3.toInt ∧ l3.toInt ≤ 400 → 0 ≤ g0.toInt ∧ g0.toInt ≤ 400 → 0 ≤ g1.toInt ∧ g1.toInt ≤ 3 → (g1.toInt ≠ 3 ∨ g0.toInt ≤ 399) → jiv h 68 3 = g0 → jiv h 68 5 = g1 → jJ jSgX Dy h → jSm fp_X2_readSum_r95_c2d h0 h → K4 l2.toInt l3.toInt (vw h) = dr → jX m_X2_readSum 18 0 0 4 [(0, .ref 95), (1, .int 2), (2, .int l2), (3, .int l3)] [] h 0 0 Q) : ∀ r : Nat, ∀ (l2 : Int32) (l3 : Int32) (l4 : Int32) (l5 : Int32) (g0 : Int32) (g1 : Int32) (h : jH), 400 - l5.toInt < (r : Int) → (-1) ≤ l2.toInt ∧ l2.toInt ≤ 4 → 0 ≤ l3.toInt ∧ l3.toInt ≤ 399 → (-1) ≤ l4.toInt ∧ l4.toInt ≤ 6 → 0 ≤ l5.toInt ∧ l5.toInt ≤ 400 → 0 ≤ g0.toInt ∧ g0.toInt ≤ 400 → 0 ≤ g1.toInt ∧ g1.toInt ≤ 3 → (g1.toInt ≠ 3 ∨ g0.toInt ≤ 399) → jiv h 68 3 = g0 → jiv h 68 5 = g1 → 400 - l3.toInt ≤ R4 → jJ jSgX Dy h → jSm fp_X2_readSum_r95_c2d h0 h → d_X2_readSum_r95_c2d_17 K4 r l2.toInt l3.toInt l4.toInt l5.toInt (vw h) = dr → jX m_X2_readSum 18 0 0 17 [(0, .ref 95), (1, .int 2), (2, .int l2), (3, .int l3), (4, .int l4), (5, .int l5)] [] h 0 0 Q := by
  intro r
  induction r with
  | zero =>
    intro l2 l3 l4 l5 g0 g1 h hm y0 y1 y2 y3 y4 y5 y6 z0 z1 m4 J Sm D
    exfalso
    omega
  | succ r ih =>
    intro l2 l3 l4 l5 g0 g1 h hm y0 y1 y2 y3 y4 y5 y6 z0 z1 m4 J Sm D
    rw [d_X2_readSum_r95_c2d_17.eq_2] at D
    try rw [vrf z0] at D
    try rw [vrf z1] at D
    refine x_iload (x := l5) rfl rfl ?_
    refine x_sipush (v := 400) rfl ks_400 ?_
    refine x_icge (tgt := 105) rfl rfl (ti_ge rfl jk_400 ⟨fun c1 => ?_, fun c1 => ?_⟩)
    ·
      rw [if_pos (by omega)] at D
      exact jX.sub (jsb_c rfl (jsb_c rfl (jsb_c rfl (jsb_c rfl jsb_n)))) (ct_X2_readSum_r95_c2d_105 hD hQ k4 l2 l3 g0 g1 h (jr_of rfl (by omega)) (jr_of rfl (by omega)) (jr_of rfl (by omega)) (jr_of rfl (by omega)) (by omega) z0 z1 (by omega) J Sm D)
    ·
      rw [if_neg (by omega)] at D
      refine x_aloadn (x := 95) rfl rfl ?_
      refine x_iloadn (x := 2) rfl rfl ?_
      refine x_inv (N := m_X2_readFactor) (As := [.int 2]) (b := 95) (st := []) (dx9 := 17) (mc := 0) (ms := 0) (host := "") 2 rfl t_X2_readFactor ⟨Or.inl q_2_144, i_X2_readFactor.1, i_X2_readFactor.2⟩ ⟨by decide, rfl⟩ (congrArg Prod.fst (J.1.1 95 (2, 6) rfl)) rfl (by decide) rfl rfl ⟨by decide, by decide⟩ (sf_X2_readFactor_r95_c2d  hD J z1 z0 (by omega) rfl  (fun v7 h ev7 J S2 u3 u4 qu3 qu4 ru3 X5 X6 => ?_))
      have Sm := jSm_tr rfl Sm S2
      try rw [X5] at D
      try rw [X6] at D
      have eu3 := (show 0 ≤ u3.toInt ∧ u3.toInt ≤ 3 from qu3 ▸ jrg_f J sg_68_5_6_1_0_1)
      try rw [vrf qu3] at D
      have eu4 := (show 0 ≤ u4.toInt ∧ u4.toInt ≤ 400 from qu4 ▸ jrg_f J sg_68_3_4_1_0_1)
      try rw [vrf qu4] at D
      show jX m_X2_readSum 18 0 0 30 [(0, .ref 95), (1, .int 2), (2, .int l2), (3, .int l3), (4, .int l4), (5, .int l5)] [.int v7] _ 0 0 _
      refine x_ifne (tgt := 35) rfl rfl (ti_ne rfl jk_0 ⟨fun c8 => ?_, fun c8 => ?_⟩)
      ·
        rw [if_neg (by omega)] at D
        refine x_iload (x := l4) rfl rfl ?_
        refine x_iconst (v := (-1)) rfl ki_m1 ?_
        refine x_iceq (tgt := 47) rfl rfl (ti_eq rfl jk_m1 ⟨fun c9 => ?_, fun c9 => ?_⟩)
        ·
          rw [if_pos (by omega)] at D
          exact jX.sub (jsb_c rfl (jsb_c rfl (jsb_c rfl (jsb_c rfl (jsb_c rfl jsb_n))))) (ct_X2_readSum_r95_c2d_47 hD hQ k4 ih l2 l3 l5 u4 u3 h (jr_of rfl (by omega)) (jr_of rfl (by omega)) (jr_of rfl (by omega)) (jr_of rfl (by omega)) (jr_of rfl (by omega)) (by omega) qu4 qu3 (by omega) (by omega) J Sm D)
        ·
          rw [if_neg (by omega)] at D
          refine x_aloadn (x := 95) rfl rfl ?_
          refine x_iload (x := l4) rfl rfl ?_
          refine x_inv (N := m_X2_emit) (As := [.int l4]) (b := 95) (st := []) (dx9 := 1) (mc := 0) (ms := 0) (host := "") 2 rfl t_X2_emit ⟨Or.inl q_2_89, i_X2_emit.1, i_X2_emit.2⟩ ⟨by decide, rfl⟩ (congrArg Prod.fst (J.1.1 95 (2, 6) rfl)) rfl (by decide) rfl rfl ⟨by decide, by decide⟩ (sf_X2_emit_r95d  hD J rfl  (fun h J S10 X11 => ?_))
          have Sm := jSm_tr rfl Sm S10
          rw [X11] at D
          show jX m_X2_readSum 18 0 0 47 [(0, .ref 95), (1, .int 2), (2, .int l2), (3, .int l3), (4, .int l4), (5, .int l5)] [] _ 0 0 _
          exact jX.sub (jsb_c rfl (jsb_c rfl (jsb_c rfl (jsb_c rfl (jsb_c rfl jsb_n))))) (ct_X2_readSum_r95_c2d_47 hD hQ k4 ih l2 l3 l5 u4 u3 h (jr_of rfl (by omega)) (jr_of rfl (by omega)) (jr_of rfl (by omega)) (jr_of rfl (by omega)) (jr_of rfl (by omega)) (by omega) (jmc S10 rfl qu4) (jmc S10 rfl qu3) (by omega) (by omega) J Sm D)
      ·
        rw [if_pos (by omega)] at D
        refine x_iconst (v := 0) rfl ki_0 ?_
        refine x_zret rfl rfl (by decide) ?_
        exact hQ _ _ (jr_of jk_0 (by omega)) J Sm _ _ qu3 qu4 (by omega) ((congrArg Prod.fst D).symm.trans (show 0 = (0 : Int32).toInt from by have := jk_0; omega)) (congrArg Prod.snd D).symm
set_option maxRecDepth 100000 in
set_option maxHeartbeats 4000000 in
theorem ct_X2_readSum_r95_c2d_4 {Dy : jH → Prop} {h0 : jH} {Q : Option Value → jH → Prop} {dr : (Int × jW)} (hD : jDk Dy) (hQ : ∀ (v : Int32) hx9, 0 ≤ v.toInt ∧ v.toInt ≤ 1 → jJ jSgX Dy hx9 → jSm fp_X2_readSum_r95_c2d h0 hx9 → ∀ u0 u1 : Int32, jiv hx9 68 5 = u0 → jiv hx9 68 3 = u1 → (u0.toInt ≠ 3 ∨ u1.toInt ≤ 399) → dr.1 = v.toInt → dr.2 = vw hx9 → Q (some (.int v)) hx9) : ∀ r : Nat, ∀ (l2 : Int32) (l3 : Int32) (g0 : Int32) (g1 : Int32) (h : jH), 400 - l3.toInt < (r : Int) → (-1) ≤ l2.toInt ∧ l2.toInt ≤ 4 → 0 ≤ l3.toInt ∧ l3.toInt ≤ 400 → 0 ≤ g0.toInt ∧ g0.toInt ≤ 400 → 0 ≤ g1.toInt ∧ g1.toInt ≤ 3 → (g1.toInt ≠ 3 ∨ g0.toInt ≤ 399) → jiv h 68 3 = g0 → jiv h 68 5 = g1 → jJ jSgX Dy h → jSm fp_X2_readSum_r95_c2d h0 h → d_X2_readSum_r95_c2d_4 r l2.toInt l3.toInt (vw h) = dr → jX m_X2_readSum 18 0 0 4 [(0, .ref 95), (1, .int 2), (2, .int l2), (3, .int l3)] [] h 0 0 Q := by
  intro r
  induction r with
  | zero =>
    intro l2 l3 g0 g1 h hm y0 y1 y2 y3 y4 z0 z1  J Sm D
    exfalso
    omega
  | succ r ih =>
    intro l2 l3 g0 g1 h hm y0 y1 y2 y3 y4 z0 z1  J Sm D
    rw [d_X2_readSum_r95_c2d_4.eq_2] at D
    try rw [vrf z0] at D
    try rw [vrf z1] at D
    refine x_iloadn (x := l3) rfl rfl ?_
    refine x_sipush (v := 400) rfl ks_400 ?_
    refine x_icge (tgt := 169) rfl rfl (ti_ge rfl jk_400 ⟨fun c1 => ?_, fun c1 => ?_⟩)
    ·
      rw [if_pos (by omega)] at D
      refine x_aloadn (x := 95) rfl rfl ?_
      refine z_getR (N := 6) (b := 68) 2 0 rfl f_2_30 rfl J rfl 12160 ⟨rfl, rfl⟩ rfl ?_
      refine x_inv (N := m_X9_blame) (As := []) (b := 68) (st := []) (dx9 := 17) (mc := 0) (ms := 0) (host := "") 9 rfl t_X9_blame ⟨Or.inl q_2_59, i_X9_blame.1, i_X9_blame.2⟩ ⟨by decide, rfl⟩ (congrArg Prod.fst (J.1.1 68 (9, 6) rfl)) rfl (by decide) rfl rfl ⟨by decide, by decide⟩ (jC.of rfl k_X9_blame rfl ?_)
      show jX m_X9_blame 17 0 0 0 [(0, .ref 68)] [] _ 0 0 _
      refine x_aloadn (x := 68) rfl rfl ?_
      refine x_aloadn (x := 68) rfl rfl ?_
      refine z_getM (N := 6) (v := g0) 9 3 rfl f_9_22 rfl J rfl z0 ?_
      refine z_putI (N := 6) (w := g0.toInt) 9 2 rfl f_9_19 rfl (jfin_no TX9 RX9 6 rfl rfl) hD J Sm rfl rfl rfl (pw_68_2 (by omega)) rfl (fun h w2 J Sm => ?_)
      rw [vwf w2 (show g0.toInt = g0.toInt from by omega)] at D
      refine x_iconst (v := 0) rfl ki_0 ?_
      refine x_zret rfl rfl (by decide) ?_
      show jX m_X2_readSum 18 0 0 176 [(0, .ref 95), (1, .int 2), (2, .int l2), (3, .int l3)] [.int 0] _ 0 0 _
      refine x_zret rfl rfl (by decide) ?_
      exact hQ _ _ (jr_of jk_0 (by omega)) J Sm _ _ (jmo w2 rfl z1) (jmo w2 rfl z0) (by omega) ((congrArg Prod.fst D).symm.trans (show 0 = (0 : Int32).toInt from by have := jk_0; omega)) (congrArg Prod.snd D).symm
    ·
      rw [if_neg (by omega)] at D
      refine x_iconst (v := (-1)) rfl ki_m1 ?_
      refine x_istore (lsx9 := [(4, .int (-1)), (0, .ref 95), (1, .int 2), (2, .int l2), (3, .int l3)]) rfl rfl rfl ?_
      refine x_iconst (v := 0) rfl ki_0 ?_
      refine x_istore (lsx9 := [(5, .int 0), (4, .int (-1)), (0, .ref 95), (1, .int 2), (2, .int l2), (3, .int l3)]) rfl rfl rfl ?_
      exact jX.sub (jsb_c rfl (jsb_c rfl (jsb_c rfl (jsb_c rfl (jsb_c rfl (jsb_c rfl jsb_n)))))) (ct_X2_readSum_r95_c2d_17 hD hQ ih 401 l2 l3 (-1) 0 g0 g1 h (by have := jk_0; omega) (jr_of rfl (by omega)) (jr_of rfl (by omega)) (jr_of jk_m1 (by omega)) (jr_of jk_0 (by omega)) (jr_of rfl (by omega)) (jr_of rfl (by omega)) (by omega) z0 z1 (by omega) J Sm (by rw [jk_m1, jk_0]; exact D))
set_option maxRecDepth 100000 in
set_option maxHeartbeats 4000000 in
theorem sf_X2_readSum_r95_c2d {Dy : jH → Prop} {h : jH} {Q : Option Value → jH → Prop} {dr : (Int × jW)} (hD : jDk Dy) (J : jJ jSgX Dy h) {p0 p1 : Int32} (zp0 : jiv h 68 5 = p0) (zp1 : jiv h 68 3 = p1) (rl_p0 : (p0.toInt ≠ 3 ∨ p1.toInt ≤ 399)) (D : d_X2_readSum_r95_c2d (vw h) = dr) (hQ : ∀ (v : Int32) hx9, 0 ≤ v.toInt ∧ v.toInt ≤ 1 → jJ jSgX Dy hx9 → jSm fp_X2_readSum_r95_c2d h hx9 → ∀ u0 u1 : Int32, jiv hx9 68 5 = u0 → jiv hx9 68 3 = u1 → (u0.toInt ≠ 3 ∨ u1.toInt ≤ 399) → dr.1 = v.toInt → dr.2 = vw hx9 → Q (some (.int v)) hx9) : jC m_X2_readSum 18 0 0 [.ref 95, .int 2] h Q := by
  refine jC.of rfl k_X2_readSum rfl ?_
  have Sm := jSm_rf fp_X2_readSum_r95_c2d h
  have ep0 := (show 0 ≤ p0.toInt ∧ p0.toInt ≤ 3 from zp0 ▸ jrg_f J sg_68_5_6_1_0_1)
  have ep1 := (show 0 ≤ p1.toInt ∧ p1.toInt ≤ 400 from zp1 ▸ jrg_f J sg_68_3_4_1_0_1)
  show jX m_X2_readSum 18 0 0 0 [(0, .ref 95), (1, .int 2)] [] _ 0 0 _
  unfold d_X2_readSum_r95_c2d at D
  try rw [vrf zp0] at D
  try rw [vrf zp1] at D
  refine x_iconst (v := (-1)) rfl ki_m1 ?_
  refine x_istoren (lsx9 := [(2, .int (-1)), (0, .ref 95), (1, .int 2)]) rfl rfl rfl ?_
  refine x_iconst (v := 0) rfl ki_0 ?_
  refine x_istoren (lsx9 := [(3, .int 0), (2, .int (-1)), (0, .ref 95), (1, .int 2)]) rfl rfl rfl ?_
  exact jX.sub (jsb_c rfl (jsb_c rfl (jsb_c rfl (jsb_c rfl jsb_n)))) (ct_X2_readSum_r95_c2d_4 hD hQ  401 (-1) 0 p1 p0 h (by have := jk_0; omega) (jr_of jk_m1 (by omega)) (jr_of jk_0 (by omega)) (jr_of rfl (by omega)) (jr_of rfl (by omega)) (by omega) zp1 zp0 J Sm (by rw [jk_m1, jk_0]; exact D))
def fp_X2_readFactor_r95_c1d : jFp := [(68, 2, 3), (68, 3, 4), (68, 4, 5), (68, 5, 6), (95, 4, 5), (95, 5, 6), (97, 0, 1200)]
set_option maxRecDepth 100000 in
set_option maxHeartbeats 4000000 in
theorem ct_X2_readFactor_r95_c1d_111 {Dy : jH → Prop} {h0 : jH} {Q : Option Value → jH → Prop} {dr : (Int × jW)} (hD : jDk Dy) (hQ : ∀ (v : Int32) hx9, 0 ≤ v.toInt ∧ v.toInt ≤ 1 → jJ jSgX Dy hx9 → jSm fp_X2_readFactor_r95_c1d h0 hx9 → ∀ u0 u1 : Int32, jiv hx9 68 5 = u0 → jiv hx9 68 3 = u1 → (u0.toInt ≠ 3 ∨ u1.toInt ≤ 399) → dr.1 = v.toInt → dr.2 = vw hx9 → Q (some (.int v)) hx9) : ∀ (s0 : Int32) (g0 : Int32) (g1 : Int32) (h : jH), 0 ≤ s0.toInt ∧ s0.toInt ≤ 1 → 0 ≤ g0.toInt ∧ g0.toInt ≤ 400 → 0 ≤ g1.toInt ∧ g1.toInt ≤ 3 → (g1.toInt ≠ 3 ∨ g0.toInt ≤ 399) → jiv h 68 3 = g0 → jiv h 68 5 = g1 → jJ jSgX Dy h → jSm fp_X2_readFactor_r95_c1d h0 h → d_X2_readFactor_r95_c1d_111  s0.toInt (vw h) = dr → jX m_X2_readFactor 19 0 0 111 [] [.int s0] h 0 0 Q := by
  intro s0 g0 g1 h y0 y1 y2 y3 z0 z1  J Sm D
  unfold d_X2_readFactor_r95_c1d_111 at D
  try rw [vrf z0] at D
  try rw [vrf z1] at D
  refine x_zret rfl rfl (jz01 (by omega)) ?_
  exact hQ _ _ (jr_of rfl (by omega)) J Sm _ _ z1 z0 (by omega) ((congrArg Prod.fst D).symm.trans (show s0.toInt = s0.toInt from by omega)) (congrArg Prod.snd D).symm
set_option maxRecDepth 100000 in
set_option maxHeartbeats 4000000 in
theorem ct_X2_readFactor_r95_c1d_200111 {Dy : jH → Prop} {h0 : jH} {Q : Option Value → jH → Prop} {dr : (Int × jW)} (hD : jDk Dy) (hQ : ∀ (v : Int32) hx9, 0 ≤ v.toInt ∧ v.toInt ≤ 1 → jJ jSgX Dy hx9 → jSm fp_X2_readFactor_r95_c1d h0 hx9 → ∀ u0 u1 : Int32, jiv hx9 68 5 = u0 → jiv hx9 68 3 = u1 → (u0.toInt ≠ 3 ∨ u1.toInt ≤ 399) → dr.1 = v.toInt → dr.2 = vw hx9 → Q (some (.int v)) hx9) : ∀ (g0 : Int32) (g1 : Int32) (h : jH), 0 ≤ g0.toInt ∧ g0.toInt ≤ 400 → 0 ≤ g1.toInt ∧ g1.toInt ≤ 3 → (g1.toInt ≠ 3 ∨ g0.toInt ≤ 399) → jiv h 68 3 = g0 → jiv h 68 5 = g1 → jJ jSgX Dy h → jSm fp_X2_readFactor_r95_c1d h0 h → d_X2_readFactor_r95_c1d_200111  (vw h) = dr → jX m_X2_readFactor 19 0 0 111 [] [.int 0] h 0 0 Q := by
  intro g0 g1 h y0 y1 y2 z0 z1  J Sm D
  unfold d_X2_readFactor_r95_c1d_200111 at D
  try rw [vrf z0] at D
  try rw [vrf z1] at D
  refine x_zret rfl rfl (by decide) ?_
  exact hQ _ _ (jr_of jk_0 (by omega)) J Sm _ _ z1 z0 (by omega) ((congrArg Prod.fst D).symm.trans (show 0 = (0 : Int32).toInt from by have := jk_0; omega)) (congrArg Prod.snd D).symm
set_option maxRecDepth 100000 in
set_option maxHeartbeats 4000000 in
theorem ct_X2_readFactor_r95_c1d_300057 {Dy : jH → Prop} {h0 : jH} {Q : Option Value → jH → Prop} {dr : (Int × jW)} (hD : jDk Dy) (hQ : ∀ (v : Int32) hx9, 0 ≤ v.toInt ∧ v.toInt ≤ 1 → jJ jSgX Dy hx9 → jSm fp_X2_readFactor_r95_c1d h0 hx9 → ∀ u0 u1 : Int32, jiv hx9 68 5 = u0 → jiv hx9 68 3 = u1 → (u0.toInt ≠ 3 ∨ u1.toInt ≤ 399) → dr.1 = v.toInt → dr.2 = vw hx9 → Q (some (.int v)) hx9) : ∀ (g0 : Int32) (g1 : Int32) (h : jH), 0 ≤ g0.toInt ∧ g0.toInt ≤ 400 → 0 ≤ g1.toInt ∧ g1.toInt ≤ 3 → (g1.toInt ≠ 3 ∨ g0.toInt ≤ 399) → jiv h 68 3 = g0 → jiv h 68 5 = g1 → jJ jSgX Dy h → jSm fp_X2_readFactor_r95_c1d h0 h → d_X2_readFactor_r95_c1d_300057  (vw h) = dr → jX m_X2_readFactor 19 0 0 57 [] [.int 1] h 0 0 Q := by
  intro g0 g1 h y0 y1 y2 z0 z1  J Sm D
  unfold d_X2_readFactor_r95_c1d_300057 at D
  try rw [vrf z0] at D
  try rw [vrf z1] at D
  refine x_zret rfl rfl (by decide) ?_
  exact hQ _ _ (jr_of jk_1 (by omega)) J Sm _ _ z1 z0 (by omega) ((congrArg Prod.fst D).symm.trans (show 1 = (1 : Int32).toInt from by have := jk_1; omega)) (congrArg Prod.snd D).symm
set_option maxRecDepth 100000 in
set_option maxHeartbeats 4000000 in
theorem ct_X2_readFactor_r95_c1d_200057 {Dy : jH → Prop} {h0 : jH} {Q : Option Value → jH → Prop} {dr : (Int × jW)} (hD : jDk Dy) (hQ : ∀ (v : Int32) hx9, 0 ≤ v.toInt ∧ v.toInt ≤ 1 → jJ jSgX Dy hx9 → jSm fp_X2_readFactor_r95_c1d h0 hx9 → ∀ u0 u1 : Int32, jiv hx9 68 5 = u0 → jiv hx9 68 3 = u1 → (u0.toInt ≠ 3 ∨ u1.toInt ≤ 399) → dr.1 = v.toInt → dr.2 = vw hx9 → Q (some (.int v)) hx9) : ∀ (g0 : Int32) (g1 : Int32) (h : jH), 0 ≤ g0.toInt ∧ g0.toInt ≤ 400 → 0 ≤ g1.toInt ∧ g1.toInt ≤ 3 → (g1.toInt ≠ 3 ∨ g0.toInt ≤ 399) → jiv h 68 3 = g0 → jiv h 68 5 = g1 → jJ jSgX Dy h → jSm fp_X2_readFactor_r95_c1d h0 h → d_X2_readFactor_r95_c1d_200057  (vw h) = dr → jX m_X2_readFactor 19 0 0 57 [] [.int 0] h 0 0 Q := by
  intro g0 g1 h y0 y1 y2 z0 z1  J Sm D
  unfold d_X2_readFactor_r95_c1d_200057 at D
  try rw [vrf z0] at D
  try rw [vrf z1] at D
  refine x_zret rfl rfl (by decide) ?_
  exact hQ _ _ (jr_of jk_0 (by omega)) J Sm _ _ z1 z0 (by omega) ((congrArg Prod.fst D).symm.trans (show 0 = (0 : Int32).toInt from by have := jk_0; omega)) (congrArg Prod.snd D).symm
set_option maxRecDepth 100000 in
set_option maxHeartbeats 4000000 in
theorem ct_X2_readFactor_r95_c1d_56 {Dy : jH → Prop} {h0 : jH} {Q : Option Value → jH → Prop} {dr : (Int × jW)} (hD : jDk Dy) (hQ : ∀ (v : Int32) hx9, 0 ≤ v.toInt ∧ v.toInt ≤ 1 → jJ jSgX Dy hx9 → jSm fp_X2_readFactor_r95_c1d h0 hx9 → ∀ u0 u1 : Int32, jiv hx9 68 5 = u0 → jiv hx9 68 3 = u1 → (u0.toInt ≠ 3 ∨ u1.toInt ≤ 399) → dr.1 = v.toInt → dr.2 = vw hx9 → Q (some (.int v)) hx9) : ∀ (g0 : Int32) (g1 : Int32) (h : jH), 0 ≤ g0.toInt ∧ g0.toInt ≤ 400 → 0 ≤ g1.toInt ∧ g1.toInt ≤ 3 → (g1.toInt ≠ 3 ∨ g0.toInt ≤ 399) → jiv h 68 3 = g0 → jiv h 68 5 = g1 → jJ jSgX Dy h → jSm fp_X2_readFactor_r95_c1d h0 h → d_X2_readFactor_r95_c1d_56  (vw h) = dr → jX m_X2_readFactor 19 0 0 56 [] [] h 0 0 Q := by
  intro g0 g1 h y0 y1 y2 z0 z1  J Sm D
  unfold d_X2_readFactor_r95_c1d_56 at D
  try rw [vrf z0] at D
  try rw [vrf z1] at D
  refine x_iconst (v := 0) rfl ki_0 ?_
  exact jX.sub jsb_n (ct_X2_readFactor_r95_c1d_200057 hD hQ  g0 g1 h (jr_of rfl (by omega)) (jr_of rfl (by omega)) (by omega) z0 z1 J Sm D)
set_option maxRecDepth 100000 in
set_option maxHeartbeats 4000000 in
theorem sf_X2_readFactor_r95_c1d {Dy : jH → Prop} {h : jH} {Q : Option Value → jH → Prop} {dr : (Int × jW)} (hD : jDk Dy) (J : jJ jSgX Dy h) {p0 p1 : Int32} (zp0 : jiv h 68 5 = p0) (zp1 : jiv h 68 3 = p1) (rl_p0 : (p0.toInt ≠ 3 ∨ p1.toInt ≤ 399)) (D : d_X2_readFactor_r95_c1d (vw h) = dr) (hQ : ∀ (v : Int32) hx9, 0 ≤ v.toInt ∧ v.toInt ≤ 1 → jJ jSgX Dy hx9 → jSm fp_X2_readFactor_r95_c1d h hx9 → ∀ u0 u1 : Int32, jiv hx9 68 5 = u0 → jiv hx9 68 3 = u1 → (u0.toInt ≠ 3 ∨ u1.toInt ≤ 399) → dr.1 = v.toInt → dr.2 = vw hx9 → Q (some (.int v)) hx9) : jC m_X2_readFactor 19 0 0 [.ref 95, .int 1] h Q := by
  refine jC.of rfl k_X2_readFactor rfl ?_
  have Sm := jSm_rf fp_X2_readFactor_r95_c1d h
  have ep0 := (show 0 ≤ p0.toInt ∧ p0.toInt ≤ 3 from zp0 ▸ jrg_f J sg_68_5_6_1_0_1)
  have ep1 := (show 0 ≤ p1.toInt ∧ p1.toInt ≤ 400 from zp1 ▸ jrg_f J sg_68_3_4_1_0_1)
  show jX m_X2_readFactor 19 0 0 0 [(0, .ref 95), (1, .int 1)] [] _ 0 0 _
  unfold d_X2_readFactor_r95_c1d at D
  try rw [vrf zp0] at D
  try rw [vrf zp1] at D
  refine x_aloadn (x := 95) rfl rfl ?_
  refine z_getR (N := 6) (b := 68) 2 0 rfl f_2_30 rfl J rfl 12160 ⟨rfl, rfl⟩ rfl ?_
  refine x_bipush (v := 91) rfl kb_91 ?_
  refine x_inv (N := m_X9_isSign) (As := [.int 91]) (b := 68) (st := []) (dx9 := 1) (mc := 0) (ms := 0) (host := "") 9 rfl t_X9_isSign ⟨Or.inl q_2_55, i_X9_isSign.1, i_X9_isSign.2⟩ ⟨by decide, rfl⟩ (congrArg Prod.fst (J.1.1 68 (9, 6) rfl)) rfl (by decide) rfl rfl ⟨by decide, by decide⟩ (sf_X9_isSign_r68d (jr_of jk_91 (by omega)) hD J zp0 zp1 (by omega) rfl  (fun v6 h ev6 J S1 u2 u3 qu2 qu3 ru2 X4 X5 => ?_))
  have Sm := jSm_tr rfl Sm S1
  try rw [jk_91] at X4
  try rw [X4] at D
  try rw [← X5] at D
  have eu2 := (show 0 ≤ u2.toInt ∧ u2.toInt ≤ 3 from qu2 ▸ jrg_f J sg_68_5_6_1_0_1)
  have Luu2 := congrArg Int32.toInt (((jmc S1 rfl zp0)).symm.trans qu2)
  try rw [Luu2] at D
  try rw [vrf qu2] at D
  have eu3 := (show 0 ≤ u3.toInt ∧ u3.toInt ≤ 400 from qu3 ▸ jrg_f J sg_68_3_4_1_0_1)
  have Luu3 := congrArg Int32.toInt (((jmc S1 rfl zp1)).symm.trans qu3)
  try rw [Luu3] at D
  try rw [vrf qu3] at D
  show jX m_X2_readFactor 19 0 0 9 [(0, .ref 95), (1, .int 1)] [.int v6] _ 0 0 _
  refine x_ifeq (tgt := 58) rfl rfl (ti_eq rfl jk_0 ⟨fun c7 => ?_, fun c7 => ?_⟩)
  ·
    rw [if_pos (by omega)] at D
    refine x_aloadn (x := 95) rfl rfl ?_
    refine z_getR (N := 6) (b := 68) 2 0 rfl f_2_30 rfl J rfl 12160 ⟨rfl, rfl⟩ rfl ?_
    refine x_ldc (v := 100000) rfl z_2_147 ?_
    refine x_inv (N := m_X9_numberTo) (As := [.int 100000]) (b := 68) (st := []) (dx9 := 1) (mc := 0) (ms := 0) (host := "") 9 rfl t_X9_numberTo ⟨Or.inl q_2_117, i_X9_numberTo.1, i_X9_numberTo.2⟩ ⟨by decide, rfl⟩ (congrArg Prod.fst (J.1.1 68 (9, 6) rfl)) rfl (by decide) rfl rfl ⟨by decide, by decide⟩ (sf_X9_numberTo_r68d (jr_of jk_100000 (by omega)) hD J rfl  (fun v11 h ev11 J S8 X9 X10 => ?_))
    have Sm := jSm_tr rfl Sm S8
    try rw [jk_100000] at X9
    try rw [X9] at D
    try rw [← X10] at D
    show jX m_X2_readFactor 19 0 0 67 [(0, .ref 95), (1, .int 1)] [.int v11] _ 0 0 _
    refine x_istoren (lsx9 := [(2, .int v11), (0, .ref 95), (1, .int 1)]) rfl rfl rfl ?_
    refine x_iloadn (x := v11) rfl rfl ?_
    refine x_iconst (v := (-1)) rfl ki_m1 ?_
    refine x_iceq (tgt := 80) rfl rfl (ti_eq rfl jk_m1 ⟨fun c12 => ?_, fun c12 => ?_⟩)
    ·
      rw [if_pos (by omega)] at D
      refine x_aloadn (x := 95) rfl rfl ?_
      refine z_getR (N := 6) (b := 68) 2 0 rfl f_2_30 rfl J rfl 12160 ⟨rfl, rfl⟩ rfl ?_
      refine x_ldcS (jstr.getD 6 jstr_0) rfl (List.mem_of_getElem? (i := 6) rfl) rfl rfl ?_
      show jX m_X2_readFactor 19 0 0 86 [(2, .int v11), (0, .ref 95), (1, .int 1)] [.ref 11, .ref 68] _ 0 0 _
      refine x_inv (N := m_X9_wordOf) (As := [.ref 11]) (b := 68) (st := []) (dx9 := 4) (mc := 0) (ms := 0) (host := "") 9 rfl t_X9_wordOf ⟨Or.inl q_2_67, i_X9_wordOf.1, i_X9_wordOf.2⟩ ⟨by decide, rfl⟩ (congrArg Prod.fst (J.1.1 68 (9, 6) rfl)) rfl (by decide) rfl rfl ⟨by decide, by decide⟩ (sf_X9_wordOf_r68_r11d  hD J rfl  (fun v16 h J S13 X14 X15 => ?_))
      have ev16 := jfull v16
      have Sm := jSm_tr rfl Sm S13
      try rw [X14] at D
      try rw [← X15] at D
      show jX m_X2_readFactor 19 0 0 89 [(2, .int v11), (0, .ref 95), (1, .int 1)] [.int v16] _ 0 0 _
      refine x_istoren (lsx9 := [(3, .int v16), (2, .int v11), (0, .ref 95), (1, .int 1)]) rfl rfl rfl ?_
      refine x_iloadn (x := v16) rfl rfl ?_
      refine x_iconst (v := (-1)) rfl ki_m1 ?_
      refine x_icne (tgt := 105) rfl rfl (ti_ne rfl jk_m1 ⟨fun c17 => ?_, fun c17 => ?_⟩)
      ·
        rw [if_neg (by omega)] at D
        refine x_aloadn (x := 95) rfl rfl ?_
        refine x_iconst (v := 2) rfl ki_2 ?_
        refine x_iloadn (x := v16) rfl rfl ?_
        refine x_inv (N := m_X2_readPart) (As := [.int 2, .int v16]) (b := 95) (st := []) (dx9 := 3) (mc := 0) (ms := 0) (host := "") 2 rfl t_X2_readPart ⟨Or.inl q_2_141, i_X2_readPart.1, i_X2_readPart.2⟩ ⟨by decide, rfl⟩ (congrArg Prod.fst (J.1.1 95 (2, 6) rfl)) rfl (by decide) rfl rfl ⟨by decide, by decide⟩ (sf_X2_readPart_r95d (jr_of jk_2 (by omega)) hD J (jmc S13 rfl (jmc S8 rfl qu2)) (jmc S13 rfl (jmc S8 rfl qu3)) (by omega) rfl  (fun v23 h ev23 J S18 u19 u20 qu19 qu20 ru19 X21 X22 => ?_))
        have Sm := jSm_tr rfl Sm S18
        try rw [jk_2] at X21
        try rw [jk_2] at X22
        try rw [X21] at D
        try rw [X22] at D
        have eu19 := (show 0 ≤ u19.toInt ∧ u19.toInt ≤ 3 from qu19 ▸ jrg_f J sg_68_5_6_1_0_1)
        try rw [vrf qu19] at D
        have eu20 := (show 0 ≤ u20.toInt ∧ u20.toInt ≤ 400 from qu20 ▸ jrg_f J sg_68_3_4_1_0_1)
        try rw [vrf qu20] at D
        show jX m_X2_readFactor 19 0 0 111 [(3, .int v16), (2, .int v11), (0, .ref 95), (1, .int 1)] [.int v23] _ 0 0 _
        exact jX.sub jsb_n (ct_X2_readFactor_r95_c1d_111 hD hQ  v23 u20 u19 h (jr_of rfl (by omega)) (jr_of rfl (by omega)) (jr_of rfl (by omega)) (by omega) qu20 qu19 J Sm D)
      ·
        rw [if_pos (by omega)] at D
        refine x_aloadn (x := 95) rfl rfl ?_
        refine z_getR (N := 6) (b := 68) 2 0 rfl f_2_30 rfl J rfl 12160 ⟨rfl, rfl⟩ rfl ?_
        refine x_inv (N := m_X9_blame) (As := []) (b := 68) (st := []) (dx9 := 18) (mc := 0) (ms := 0) (host := "") 9 rfl t_X9_blame ⟨Or.inl q_2_59, i_X9_blame.1, i_X9_blame.2⟩ ⟨by decide, rfl⟩ (congrArg Prod.fst (J.1.1 68 (9, 6) rfl)) rfl (by decide) rfl rfl ⟨by decide, by decide⟩ (jC.of rfl k_X9_blame rfl ?_)
        show jX m_X9_blame 18 0 0 0 [(0, .ref 68)] [] _ 0 0 _
        refine x_aloadn (x := 68) rfl rfl ?_
        refine x_aloadn (x := 68) rfl rfl ?_
        refine z_getM (N := 6) (v := u3) 9 3 rfl f_9_22 rfl J rfl (jmc S13 rfl (jmc S8 rfl qu3)) ?_
        refine z_putI (N := 6) (w := u3.toInt) 9 2 rfl f_9_19 rfl (jfin_no TX9 RX9 6 rfl rfl) hD J Sm rfl rfl rfl (pw_68_2 (by omega)) rfl (fun h w24 J Sm => ?_)
        rw [vwf w24 (show u3.toInt = u3.toInt from by omega)] at D
        refine x_iconst (v := 0) rfl ki_0 ?_
        refine x_zret rfl rfl (by decide) ?_
        show jX m_X2_readFactor 19 0 0 102 [(3, .int v16), (2, .int v11), (0, .ref 95), (1, .int 1)] [.int 0] _ 0 0 _
        refine x_goto (tgt := 111) rfl rfl ?_
        exact jX.sub jsb_n (ct_X2_readFactor_r95_c1d_200111 hD hQ  u3 u2 h (jr_of rfl (by omega)) (jr_of rfl (by omega)) (by omega) (jmo w24 rfl (jmc S13 rfl (jmc S8 rfl qu3))) (jmo w24 rfl (jmc S13 rfl (jmc S8 rfl qu2))) J Sm D)
    ·
      rw [if_neg (by omega)] at D
      refine x_aloadn (x := 95) rfl rfl ?_
      refine x_iconst (v := 1) rfl ki_1 ?_
      refine x_iloadn (x := v11) rfl rfl ?_
      refine x_inv (N := m_X2_readPart) (As := [.int 1, .int v11]) (b := 95) (st := []) (dx9 := 3) (mc := 0) (ms := 0) (host := "") 2 rfl t_X2_readPart ⟨Or.inl q_2_141, i_X2_readPart.1, i_X2_readPart.2⟩ ⟨by decide, rfl⟩ (congrArg Prod.fst (J.1.1 95 (2, 6) rfl)) rfl (by decide) rfl rfl ⟨by decide, by decide⟩ (sf_X2_readPart_r95d (jr_of jk_1 (by omega)) hD J (jmc S8 rfl qu2) (jmc S8 rfl qu3) (by omega) rfl  (fun v30 h ev30 J S25 u26 u27 qu26 qu27 ru26 X28 X29 => ?_))
      have Sm := jSm_tr rfl Sm S25
      try rw [jk_1] at X28
      try rw [jk_1] at X29
      try rw [X28] at D
      try rw [X29] at D
      have eu26 := (show 0 ≤ u26.toInt ∧ u26.toInt ≤ 3 from qu26 ▸ jrg_f J sg_68_5_6_1_0_1)
      try rw [vrf qu26] at D
      have eu27 := (show 0 ≤ u27.toInt ∧ u27.toInt ≤ 400 from qu27 ▸ jrg_f J sg_68_3_4_1_0_1)
      try rw [vrf qu27] at D
      show jX m_X2_readFactor 19 0 0 79 [(2, .int v11), (0, .ref 95), (1, .int 1)] [.int v30] _ 0 0 _
      refine x_zret rfl rfl (jz01 (by omega)) ?_
      exact hQ _ _ (jr_of rfl (by omega)) J Sm _ _ qu26 qu27 (by omega) ((congrArg Prod.fst D).symm.trans X28) ((congrArg Prod.snd D).symm.trans X29)
  ·
    rw [if_neg (by omega)] at D
    refine x_iloadn (x := 1) rfl rfl ?_
    refine x_bipush (v := 8) rfl kb_8 ?_
    refine x_iclt (tgt := 26) rfl rfl (ti_lt jk_1 jk_8 (br_t (by omega) ?_))
    refine x_aloadn (x := 95) rfl rfl ?_
    refine z_getR (N := 6) (b := 68) 2 0 rfl f_2_30 rfl J rfl 12160 ⟨rfl, rfl⟩ rfl ?_
    refine x_inv (N := m_X9_step) (As := []) (b := 68) (st := []) (dx9 := 2) (mc := 0) (ms := 0) (host := "") 9 rfl t_X9_step ⟨Or.inl q_2_62, i_X9_step.1, i_X9_step.2⟩ ⟨by decide, rfl⟩ (congrArg Prod.fst (J.1.1 68 (9, 6) rfl)) rfl (by decide) rfl rfl ⟨by decide, by decide⟩ (sf_X9_step_r68d  hD J qu2 qu3 (by omega) rfl  (fun h J S31 u32 u33 qu32 qu33 ru32 X34 => ?_))
    have Sm := jSm_tr rfl Sm S31
    rw [X34] at D
    have eu32 := (show 0 ≤ u32.toInt ∧ u32.toInt ≤ 3 from qu32 ▸ jrg_f J sg_68_5_6_1_0_1)
    try rw [vrf qu32] at D
    have eu33 := (show 0 ≤ u33.toInt ∧ u33.toInt ≤ 400 from qu33 ▸ jrg_f J sg_68_3_4_1_0_1)
    try rw [vrf qu33] at D
    show jX m_X2_readFactor 19 0 0 33 [(0, .ref 95), (1, .int 1)] [] _ 0 0 _
    refine x_aloadn (x := 95) rfl rfl ?_
    refine x_iloadn (x := 1) rfl rfl ?_
    refine x_iconst (v := 1) rfl ki_1 ?_
    refine y_iadd (v := 2) rfl (by decide) ?_
    refine x_inv (N := m_X2_readSum) (As := [.int 2]) (b := 95) (st := []) (dx9 := 18) (mc := 0) (ms := 0) (host := "") 2 rfl t_X2_readSum ⟨Or.inl q_2_86, i_X2_readSum.1, i_X2_readSum.2⟩ ⟨by decide, rfl⟩ (congrArg Prod.fst (J.1.1 95 (2, 6) rfl)) rfl (by decide) rfl rfl ⟨by decide, by decide⟩ (sf_X2_readSum_r95_c2d  hD J qu32 qu33 (by omega) rfl  (fun v40 h ev40 J S35 u36 u37 qu36 qu37 ru36 X38 X39 => ?_))
    have Sm := jSm_tr rfl Sm S35
    try rw [X38] at D
    try rw [X39] at D
    have eu36 := (show 0 ≤ u36.toInt ∧ u36.toInt ≤ 3 from qu36 ▸ jrg_f J sg_68_5_6_1_0_1)
    try rw [vrf qu36] at D
    have eu37 := (show 0 ≤ u37.toInt ∧ u37.toInt ≤ 400 from qu37 ▸ jrg_f J sg_68_3_4_1_0_1)
    try rw [vrf qu37] at D
    show jX m_X2_readFactor 19 0 0 40 [(0, .ref 95), (1, .int 1)] [.int v40] _ 0 0 _
    refine x_ifeq (tgt := 56) rfl rfl (ti_eq rfl jk_0 ⟨fun c41 => ?_, fun c41 => ?_⟩)
    ·
      rw [if_pos (by omega)] at D
      exact jX.sub jsb_n (ct_X2_readFactor_r95_c1d_56 hD hQ  u37 u36 h (jr_of rfl (by omega)) (jr_of rfl (by omega)) (by omega) qu37 qu36 J Sm D)
    ·
      rw [if_neg (by omega)] at D
      refine x_aloadn (x := 95) rfl rfl ?_
      refine x_bipush (v := 93) rfl kb_93 ?_
      refine x_inv (N := m_X2_readSign) (As := [.int 93]) (b := 95) (st := []) (dx9 := 18) (mc := 0) (ms := 0) (host := "") 2 rfl t_X2_readSign ⟨Or.inl q_2_138, i_X2_readSign.1, i_X2_readSign.2⟩ ⟨by decide, rfl⟩ (congrArg Prod.fst (J.1.1 95 (2, 6) rfl)) rfl (by decide) rfl rfl ⟨by decide, by decide⟩ (jC.of rfl k_X2_readSign rfl ?_)
      show jX m_X2_readSign 18 0 0 0 [(0, .ref 95), (1, .int 93)] [] _ 0 0 _
      refine x_aloadn (x := 95) rfl rfl ?_
      refine z_getR (N := 6) (b := 68) 2 0 rfl f_2_30 rfl J rfl 12160 ⟨rfl, rfl⟩ rfl ?_
      refine x_iloadn (x := 93) rfl rfl ?_
      refine x_inv (N := m_X9_isSign) (As := [.int 93]) (b := 68) (st := []) (dx9 := 1) (mc := 0) (ms := 0) (host := "") 9 rfl t_X9_isSign ⟨Or.inl q_2_55, i_X9_isSign.1, i_X9_isSign.2⟩ ⟨by decide, rfl⟩ (congrArg Prod.fst (J.1.1 68 (9, 6) rfl)) rfl (by decide) rfl rfl ⟨by decide, by decide⟩ (sf_X9_isSign_r68d (jr_of jk_93 (by omega)) hD J qu36 qu37 (by omega) rfl  (fun v47 h ev47 J S42 u43 u44 qu43 qu44 ru43 X45 X46 => ?_))
      have Sm := jSm_tr rfl Sm S42
      try rw [jk_93] at X45
      try rw [X45] at D
      try rw [← X46] at D
      have eu43 := (show 0 ≤ u43.toInt ∧ u43.toInt ≤ 3 from qu43 ▸ jrg_f J sg_68_5_6_1_0_1)
      have Luu43 := congrArg Int32.toInt (((jmc S42 rfl qu36)).symm.trans qu43)
      try rw [Luu43] at D
      try rw [vrf qu43] at D
      have eu44 := (show 0 ≤ u44.toInt ∧ u44.toInt ≤ 400 from qu44 ▸ jrg_f J sg_68_3_4_1_0_1)
      have Luu44 := congrArg Int32.toInt (((jmc S42 rfl qu37)).symm.trans qu44)
      try rw [Luu44] at D
      try rw [vrf qu44] at D
      show jX m_X2_readSign 18 0 0 8 [(0, .ref 95), (1, .int 93)] [.int v47] _ 0 0 _
      refine x_ifne (tgt := 19) rfl rfl (ti_ne rfl jk_0 ⟨fun c48 => ?_, fun c48 => ?_⟩)
      ·
        rw [if_neg (by omega)] at D
        refine x_aloadn (x := 95) rfl rfl ?_
        refine z_getR (N := 6) (b := 68) 2 0 rfl f_2_30 rfl J rfl 12160 ⟨rfl, rfl⟩ rfl ?_
        refine x_inv (N := m_X9_step) (As := []) (b := 68) (st := []) (dx9 := 2) (mc := 0) (ms := 0) (host := "") 9 rfl t_X9_step ⟨Or.inl q_2_62, i_X9_step.1, i_X9_step.2⟩ ⟨by decide, rfl⟩ (congrArg Prod.fst (J.1.1 68 (9, 6) rfl)) rfl (by decide) rfl rfl ⟨by decide, by decide⟩ (sf_X9_step_r68d  hD J qu43 qu44 (by omega) rfl  (fun h J S49 u50 u51 qu50 qu51 ru50 X52 => ?_))
        have Sm := jSm_tr rfl Sm S49
        rw [X52] at D
        have eu50 := (show 0 ≤ u50.toInt ∧ u50.toInt ≤ 3 from qu50 ▸ jrg_f J sg_68_5_6_1_0_1)
        try rw [vrf qu50] at D
        have eu51 := (show 0 ≤ u51.toInt ∧ u51.toInt ≤ 400 from qu51 ▸ jrg_f J sg_68_3_4_1_0_1)
        try rw [vrf qu51] at D
        show jX m_X2_readSign 18 0 0 26 [(0, .ref 95), (1, .int 93)] [] _ 0 0 _
        refine x_iconst (v := 1) rfl ki_1 ?_
        refine x_zret rfl rfl (by decide) ?_
        show jX m_X2_readFactor 19 0 0 49 [(0, .ref 95), (1, .int 1)] [.int 1] _ 0 0 _
        refine x_ifeq (tgt := 56) rfl rfl (ti_eq jk_1 jk_0 (br_f (by omega) ?_))
        refine x_iconst (v := 1) rfl ki_1 ?_
        refine x_goto (tgt := 57) rfl rfl ?_
        exact jX.sub jsb_n (ct_X2_readFactor_r95_c1d_300057 hD hQ  u51 u50 h (jr_of rfl (by omega)) (jr_of rfl (by omega)) (by omega) qu51 qu50 J Sm D)
      ·
        rw [if_pos (by omega)] at D
        refine x_aloadn (x := 95) rfl rfl ?_
        refine z_getR (N := 6) (b := 68) 2 0 rfl f_2_30 rfl J rfl 12160 ⟨rfl, rfl⟩ rfl ?_
        refine x_inv (N := m_X9_blame) (As := []) (b := 68) (st := []) (dx9 := 17) (mc := 0) (ms := 0) (host := "") 9 rfl t_X9_blame ⟨Or.inl q_2_59, i_X9_blame.1, i_X9_blame.2⟩ ⟨by decide, rfl⟩ (congrArg Prod.fst (J.1.1 68 (9, 6) rfl)) rfl (by decide) rfl rfl ⟨by decide, by decide⟩ (jC.of rfl k_X9_blame rfl ?_)
        show jX m_X9_blame 17 0 0 0 [(0, .ref 68)] [] _ 0 0 _
        refine x_aloadn (x := 68) rfl rfl ?_
        refine x_aloadn (x := 68) rfl rfl ?_
        refine z_getM (N := 6) (v := u44) 9 3 rfl f_9_22 rfl J rfl qu44 ?_
        refine z_putI (N := 6) (w := u44.toInt) 9 2 rfl f_9_19 rfl (jfin_no TX9 RX9 6 rfl rfl) hD J Sm rfl rfl rfl (pw_68_2 (by omega)) rfl (fun h w53 J Sm => ?_)
        rw [vwf w53 (show u44.toInt = u44.toInt from by omega)] at D
        refine x_iconst (v := 0) rfl ki_0 ?_
        refine x_zret rfl rfl (by decide) ?_
        show jX m_X2_readSign 18 0 0 18 [(0, .ref 95), (1, .int 93)] [.int 0] _ 0 0 _
        refine x_zret rfl rfl (by decide) ?_
        show jX m_X2_readFactor 19 0 0 49 [(0, .ref 95), (1, .int 1)] [.int 0] _ 0 0 _
        refine x_ifeq (tgt := 56) rfl rfl (ti_eq jk_0 jk_0 (br_t (by omega) ?_))
        exact jX.sub jsb_n (ct_X2_readFactor_r95_c1d_56 hD hQ  u44 u43 h (jr_of rfl (by omega)) (jr_of rfl (by omega)) (by omega) (jmo w53 rfl qu44) (jmo w53 rfl qu43) J Sm D)
def fp_X2_readSum_r95_c1d : jFp := [(68, 2, 3), (68, 3, 4), (68, 4, 5), (68, 5, 6), (95, 4, 5), (95, 5, 6), (97, 0, 1200)]
set_option maxRecDepth 100000 in
set_option maxHeartbeats 4000000 in
theorem ct_X2_readSum_r95_c1d_100148 {Dy : jH → Prop} {h0 : jH} {Q : Option Value → jH → Prop} {dr : (Int × jW)} {K4 : Int → Int → jW → (Int × jW)} {R4 : Int} (hD : jDk Dy) (hQ : ∀ (v : Int32) hx9, 0 ≤ v.toInt ∧ v.toInt ≤ 1 → jJ jSgX Dy hx9 → jSm fp_X2_readSum_r95_c1d h0 hx9 → ∀ u0 u1 : Int32, jiv hx9 68 5 = u0 → jiv hx9 68 3 = u1 → (u0.toInt ≠ 3 ∨ u1.toInt ≤ 399) → dr.1 = v.toInt → dr.2 = vw hx9 → Q (some (.int v)) hx9) (k4 : ∀ (l2 : Int32) (l3 : Int32) (g0 : Int32) (g1 : Int32) (h : jH), 400 - l3.toInt < R4 → (-1) ≤ l2.toInt ∧ l2.toInt ≤ 4 → 0 ≤ l3.toInt ∧ l3.toInt ≤ 400 → 0 ≤ g0.toInt ∧ g0.toInt ≤ 400 → 0 ≤ g1.toInt ∧ g1.toInt ≤ 3 → (g1.toInt ≠ 3 ∨ g0.toInt ≤ 399) → jiv h 68 3 = g0 → jiv h 68 5 = g1 → jJ jSgX Dy h → jSm fp_X2_readSum_r95_c1d h0 h → K4 l2.toInt l3.toInt (vw h) = dr → jX m_X2_readSum 20 0 0 4 [(0, .ref 95), (1, .int 1), (2, .int l2), (3, .int l3)] [] h 0 0 Q) : ∀ (l3 : Int32) (g0 : Int32) (g1 : Int32) (h : jH), 0 ≤ l3.toInt ∧ l3.toInt ≤ 399 → 0 ≤ g0.toInt ∧ g0.toInt ≤ 400 → 0 ≤ g1.toInt ∧ g1.toInt ≤ 3 → (g1.toInt ≠ 3 ∨ g0.toInt ≤ 399) → jiv h 68 3 = g0 → jiv h 68 5 = g1 → 400 - l3.toInt ≤ R4 → jJ jSgX Dy h → jSm fp_X2_readSum_r95_c1d h0 h → d_X2_readSum_r95_c1d_100148 K4  l3.toInt (vw h) = dr → jX m_X2_readSum 20 0 0 148 [(0, .ref 95), (1, .int 1), (3, .int l3)] [.int (-1)] h 0 0 Q := by
  intro l3 g0 g1 h y0 y1 y2 y3 z0 z1 m4 J Sm D
  unfold d_X2_readSum_r95_c1d_100148 at D
  try rw [vrf z0] at D
  try rw [vrf z1] at D
  refine x_istoren (lsx9 := [(2, .int (-1)), (0, .ref 95), (1, .int 1), (3, .int l3)]) rfl rfl rfl ?_
  refine x_iloadn (x := (-1)) rfl rfl ?_
  refine x_iconst (v := (-1)) rfl ki_m1 ?_
  refine x_icne (tgt := 156) rfl rfl (ti_ne jk_m1 jk_m1 (bn_f (by omega) ?_))
  refine x_iconst (v := 1) rfl ki_1 ?_
  refine x_zret rfl rfl (by decide) ?_
  exact hQ _ _ (jr_of jk_1 (by omega)) J Sm _ _ z1 z0 (by omega) ((congrArg Prod.fst D).symm.trans (show 1 = (1 : Int32).toInt from by have := jk_1; omega)) (congrArg Prod.snd D).symm
set_option maxRecDepth 100000 in
set_option maxHeartbeats 4000000 in
theorem ct_X2_readSum_r95_c1d_600148 {Dy : jH → Prop} {h0 : jH} {Q : Option Value → jH → Prop} {dr : (Int × jW)} {K4 : Int → Int → jW → (Int × jW)} {R4 : Int} (hD : jDk Dy) (hQ : ∀ (v : Int32) hx9, 0 ≤ v.toInt ∧ v.toInt ≤ 1 → jJ jSgX Dy hx9 → jSm fp_X2_readSum_r95_c1d h0 hx9 → ∀ u0 u1 : Int32, jiv hx9 68 5 = u0 → jiv hx9 68 3 = u1 → (u0.toInt ≠ 3 ∨ u1.toInt ≤ 399) → dr.1 = v.toInt → dr.2 = vw hx9 → Q (some (.int v)) hx9) (k4 : ∀ (l2 : Int32) (l3 : Int32) (g0 : Int32) (g1 : Int32) (h : jH), 400 - l3.toInt < R4 → (-1) ≤ l2.toInt ∧ l2.toInt ≤ 4 → 0 ≤ l3.toInt ∧ l3.toInt ≤ 400 → 0 ≤ g0.toInt ∧ g0.toInt ≤ 400 → 0 ≤ g1.toInt ∧ g1.toInt ≤ 3 → (g1.toInt ≠ 3 ∨ g0.toInt ≤ 399) → jiv h 68 3 = g0 → jiv h 68 5 = g1 → jJ jSgX Dy h → jSm fp_X2_readSum_r95_c1d h0 h → K4 l2.toInt l3.toInt (vw h) = dr → jX m_X2_readSum 20 0 0 4 [(0, .ref 95), (1, .int 1), (2, .int l2), (3, .int l3)] [] h 0 0 Q) : ∀ (l3 : Int32) (g0 : Int32) (g1 : Int32) (h : jH), 0 ≤ l3.toInt ∧ l3.toInt ≤ 399 → 0 ≤ g0.toInt ∧ g0.toInt ≤ 400 → 0 ≤ g1.toInt ∧ g1.toInt ≤ 3 → (g1.toInt ≠ 3 ∨ g0.toInt ≤ 399) → jiv h 68 3 = g0 → jiv h 68 5 = g1 → 400 - l3.toInt ≤ R4 → jJ jSgX Dy h → jSm fp_X2_readSum_r95_c1d h0 h → d_X2_readSum_r95_c1d_600148 K4  l3.toInt (vw h) = dr → jX m_X2_readSum 20 0 0 148 [(0, .ref 95), (1, .int 1), (3, .int l3)] [.int 4] h 0 0 Q := by
  intro l3 g0 g1 h y0 y1 y2 y3 z0 z1 m4 J Sm D
  unfold d_X2_readSum_r95_c1d_600148 at D
  try rw [vrf z0] at D
  try rw [vrf z1] at D
  refine x_istoren (lsx9 := [(2, .int 4), (0, .ref 95), (1, .int 1), (3, .int l3)]) rfl rfl rfl ?_
  refine x_iloadn (x := 4) rfl rfl ?_
  refine x_iconst (v := (-1)) rfl ki_m1 ?_
  refine x_icne (tgt := 156) rfl rfl (ti_ne jk_4 jk_m1 (bn_t (by omega) ?_))
  refine x_aloadn (x := 95) rfl rfl ?_
  refine z_getR (N := 6) (b := 68) 2 0 rfl f_2_30 rfl J rfl 12160 ⟨rfl, rfl⟩ rfl ?_
  refine x_inv (N := m_X9_step) (As := []) (b := 68) (st := []) (dx9 := 2) (mc := 0) (ms := 0) (host := "") 9 rfl t_X9_step ⟨Or.inl q_2_62, i_X9_step.1, i_X9_step.2⟩ ⟨by decide, rfl⟩ (congrArg Prod.fst (J.1.1 68 (9, 6) rfl)) rfl (by decide) rfl rfl ⟨by decide, by decide⟩ (sf_X9_step_r68d  hD J z1 z0 (by omega) rfl  (fun h J S1 u2 u3 qu2 qu3 ru2 X4 => ?_))
  have Sm := jSm_tr rfl Sm S1
  rw [X4] at D
  have eu2 := (show 0 ≤ u2.toInt ∧ u2.toInt ≤ 3 from qu2 ▸ jrg_f J sg_68_5_6_1_0_1)
  try rw [vrf qu2] at D
  have eu3 := (show 0 ≤ u3.toInt ∧ u3.toInt ≤ 400 from qu3 ▸ jrg_f J sg_68_3_4_1_0_1)
  try rw [vrf qu3] at D
  show jX m_X2_readSum 20 0 0 163 [(2, .int 4), (0, .ref 95), (1, .int 1), (3, .int l3)] [] _ 0 0 _
  refine z_iinc (x := l3) (lsx9 := fun v5 => [(3, .int v5), (2, .int 4), (0, .ref 95), (1, .int 1)]) rfl rfl rfl jko_1 (by omega) rfl (fun _ => rfl) (fun v5 ev5 => ?_)
  refine x_goto (tgt := 4) rfl rfl ?_
  try rw [show (l3.toInt + 1) = v5.toInt from by omega] at D
  exact jX.sub (jsb_c rfl (jsb_c rfl (jsb_c rfl (jsb_c rfl jsb_n)))) (k4 4 v5 u3 u2 h (by omega) (jr_of jk_4 (by omega)) (jr_of rfl (by omega)) (jr_of rfl (by omega)) (jr_of rfl (by omega)) (by omega) qu3 qu2 J Sm (by rw [jk_4]; exact D))
set_option maxRecDepth 100000 in
set_option maxHeartbeats 4000000 in
theorem ct_X2_readSum_r95_c1d_500148 {Dy : jH → Prop} {h0 : jH} {Q : Option Value → jH → Prop} {dr : (Int × jW)} {K4 : Int → Int → jW → (Int × jW)} {R4 : Int} (hD : jDk Dy) (hQ : ∀ (v : Int32) hx9, 0 ≤ v.toInt ∧ v.toInt ≤ 1 → jJ jSgX Dy hx9 → jSm fp_X2_readSum_r95_c1d h0 hx9 → ∀ u0 u1 : Int32, jiv hx9 68 5 = u0 → jiv hx9 68 3 = u1 → (u0.toInt ≠ 3 ∨ u1.toInt ≤ 399) → dr.1 = v.toInt → dr.2 = vw hx9 → Q (some (.int v)) hx9) (k4 : ∀ (l2 : Int32) (l3 : Int32) (g0 : Int32) (g1 : Int32) (h : jH), 400 - l3.toInt < R4 → (-1) ≤ l2.toInt ∧ l2.toInt ≤ 4 → 0 ≤ l3.toInt ∧ l3.toInt ≤ 400 → 0 ≤ g0.toInt ∧ g0.toInt ≤ 400 → 0 ≤ g1.toInt ∧ g1.toInt ≤ 3 → (g1.toInt ≠ 3 ∨ g0.toInt ≤ 399) → jiv h 68 3 = g0 → jiv h 68 5 = g1 → jJ jSgX Dy h → jSm fp_X2_readSum_r95_c1d h0 h → K4 l2.toInt l3.toInt (vw h) = dr → jX m_X2_readSum 20 0 0 4 [(0, .ref 95), (1, .int 1), (2, .int l2), (3, .int l3)] [] h 0 0 Q) : ∀ (l3 : Int32) (g0 : Int32) (g1 : Int32) (h : jH), 0 ≤ l3.toInt ∧ l3.toInt ≤ 399 → 0 ≤ g0.toInt ∧ g0.toInt ≤ 400 → 0 ≤ g1.toInt ∧ g1.toInt ≤ 3 → (g1.toInt ≠ 3 ∨ g0.toInt ≤ 399) → jiv h 68 3 = g0 → jiv h 68 5 = g1 → 400 - l3.toInt ≤ R4 → jJ jSgX Dy h → jSm fp_X2_readSum_r95_c1d h0 h → d_X2_readSum_r95_c1d_500148 K4  l3.toInt (vw h) = dr → jX m_X2_readSum 20 0 0 148 [(0, .ref 95), (1, .int 1), (3, .int l3)] [.int 3] h 0 0 Q := by
  intro l3 g0 g1 h y0 y1 y2 y3 z0 z1 m4 J Sm D
  unfold d_X2_readSum_r95_c1d_500148 at D
  try rw [vrf z0] at D
  try rw [vrf z1] at D
  refine x_istoren (lsx9 := [(2, .int 3), (0, .ref 95), (1, .int 1), (3, .int l3)]) rfl rfl rfl ?_
  refine x_iloadn (x := 3) rfl rfl ?_
  refine x_iconst (v := (-1)) rfl ki_m1 ?_
  refine x_icne (tgt := 156) rfl rfl (ti_ne jk_3 jk_m1 (bn_t (by omega) ?_))
  refine x_aloadn (x := 95) rfl rfl ?_
  refine z_getR (N := 6) (b := 68) 2 0 rfl f_2_30 rfl J rfl 12160 ⟨rfl, rfl⟩ rfl ?_
  refine x_inv (N := m_X9_step) (As := []) (b := 68) (st := []) (dx9 := 2) (mc := 0) (ms := 0) (host := "") 9 rfl t_X9_step ⟨Or.inl q_2_62, i_X9_step.1, i_X9_step.2⟩ ⟨by decide, rfl⟩ (congrArg Prod.fst (J.1.1 68 (9, 6) rfl)) rfl (by decide) rfl rfl ⟨by decide, by decide⟩ (sf_X9_step_r68d  hD J z1 z0 (by omega) rfl  (fun h J S1 u2 u3 qu2 qu3 ru2 X4 => ?_))
  have Sm := jSm_tr rfl Sm S1
  rw [X4] at D
  have eu2 := (show 0 ≤ u2.toInt ∧ u2.toInt ≤ 3 from qu2 ▸ jrg_f J sg_68_5_6_1_0_1)
  try rw [vrf qu2] at D
  have eu3 := (show 0 ≤ u3.toInt ∧ u3.toInt ≤ 400 from qu3 ▸ jrg_f J sg_68_3_4_1_0_1)
  try rw [vrf qu3] at D
  show jX m_X2_readSum 20 0 0 163 [(2, .int 3), (0, .ref 95), (1, .int 1), (3, .int l3)] [] _ 0 0 _
  refine z_iinc (x := l3) (lsx9 := fun v5 => [(3, .int v5), (2, .int 3), (0, .ref 95), (1, .int 1)]) rfl rfl rfl jko_1 (by omega) rfl (fun _ => rfl) (fun v5 ev5 => ?_)
  refine x_goto (tgt := 4) rfl rfl ?_
  try rw [show (l3.toInt + 1) = v5.toInt from by omega] at D
  exact jX.sub (jsb_c rfl (jsb_c rfl (jsb_c rfl (jsb_c rfl jsb_n)))) (k4 3 v5 u3 u2 h (by omega) (jr_of jk_3 (by omega)) (jr_of rfl (by omega)) (jr_of rfl (by omega)) (jr_of rfl (by omega)) (by omega) qu3 qu2 J Sm (by rw [jk_3]; exact D))
set_option maxRecDepth 100000 in
set_option maxHeartbeats 4000000 in
theorem ct_X2_readSum_r95_c1d_115 {Dy : jH → Prop} {h0 : jH} {Q : Option Value → jH → Prop} {dr : (Int × jW)} {K4 : Int → Int → jW → (Int × jW)} {R4 : Int} (hD : jDk Dy) (hQ : ∀ (v : Int32) hx9, 0 ≤ v.toInt ∧ v.toInt ≤ 1 → jJ jSgX Dy hx9 → jSm fp_X2_readSum_r95_c1d h0 hx9 → ∀ u0 u1 : Int32, jiv hx9 68 5 = u0 → jiv hx9 68 3 = u1 → (u0.toInt ≠ 3 ∨ u1.toInt ≤ 399) → dr.1 = v.toInt → dr.2 = vw hx9 → Q (some (.int v)) hx9) (k4 : ∀ (l2 : Int32) (l3 : Int32) (g0 : Int32) (g1 : Int32) (h : jH), 400 - l3.toInt < R4 → (-1) ≤ l2.toInt ∧ l2.toInt ≤ 4 → 0 ≤ l3.toInt ∧ l3.toInt ≤ 400 → 0 ≤ g0.toInt ∧ g0.toInt ≤ 400 → 0 ≤ g1.toInt ∧ g1.toInt ≤ 3 → (g1.toInt ≠ 3 ∨ g0.toInt ≤ 399) → jiv h 68 3 = g0 → jiv h 68 5 = g1 → jJ jSgX Dy h → jSm fp_X2_readSum_r95_c1d h0 h → K4 l2.toInt l3.toInt (vw h) = dr → jX m_X2_readSum 20 0 0 4 [(0, .ref 95), (1, .int 1), (2, .int l2), (3, .int l3)] [] h 0 0 Q) : ∀ (l3 : Int32) (g0 : Int32) (g1 : Int32) (h : jH), 0 ≤ l3.toInt ∧ l3.toInt ≤ 399 → 0 ≤ g0.toInt ∧ g0.toInt ≤ 400 → 0 ≤ g1.toInt ∧ g1.toInt ≤ 3 → (g1.toInt ≠ 3 ∨ g0.toInt ≤ 399) → jiv h 68 3 = g0 → jiv h 68 5 = g1 → 400 - l3.toInt ≤ R4 → jJ jSgX Dy h → jSm fp_X2_readSum_r95_c1d h0 h → d_X2_readSum_r95_c1d_115 K4  l3.toInt (vw h) = dr → jX m_X2_readSum 20 0 0 115 [(0, .ref 95), (1, .int 1), (3, .int l3)] [] h 0 0 Q := by
  intro l3 g0 g1 h y0 y1 y2 y3 z0 z1 m4 J Sm D
  unfold d_X2_readSum_r95_c1d_115 at D
  try rw [vrf z0] at D
  try rw [vrf z1] at D
  refine x_aloadn (x := 95) rfl rfl ?_
  refine z_getR (N := 6) (b := 68) 2 0 rfl f_2_30 rfl J rfl 12160 ⟨rfl, rfl⟩ rfl ?_
  refine x_bipush (v := 43) rfl kb_43 ?_
  refine x_inv (N := m_X9_isSign) (As := [.int 43]) (b := 68) (st := []) (dx9 := 1) (mc := 0) (ms := 0) (host := "") 9 rfl t_X9_isSign ⟨Or.inl q_2_55, i_X9_isSign.1, i_X9_isSign.2⟩ ⟨by decide, rfl⟩ (congrArg Prod.fst (J.1.1 68 (9, 6) rfl)) rfl (by decide) rfl rfl ⟨by decide, by decide⟩ (sf_X9_isSign_r68d (jr_of jk_43 (by omega)) hD J z1 z0 (by omega) rfl  (fun v6 h ev6 J S1 u2 u3 qu2 qu3 ru2 X4 X5 => ?_))
  have Sm := jSm_tr rfl Sm S1
  try rw [jk_43] at X4
  try rw [X4] at D
  try rw [← X5] at D
  have eu2 := (show 0 ≤ u2.toInt ∧ u2.toInt ≤ 3 from qu2 ▸ jrg_f J sg_68_5_6_1_0_1)
  have Luu2 := congrArg Int32.toInt (((jmc S1 rfl z1)).symm.trans qu2)
  try rw [Luu2] at D
  try rw [vrf qu2] at D
  have eu3 := (show 0 ≤ u3.toInt ∧ u3.toInt ≤ 400 from qu3 ▸ jrg_f J sg_68_3_4_1_0_1)
  have Luu3 := congrArg Int32.toInt (((jmc S1 rfl z0)).symm.trans qu3)
  try rw [Luu3] at D
  try rw [vrf qu3] at D
  show jX m_X2_readSum 20 0 0 124 [(0, .ref 95), (1, .int 1), (3, .int l3)] [.int v6] _ 0 0 _
  refine x_ifeq (tgt := 131) rfl rfl (ti_eq rfl jk_0 ⟨fun c7 => ?_, fun c7 => ?_⟩)
  ·
    rw [if_pos (by omega)] at D
    refine x_aloadn (x := 95) rfl rfl ?_
    refine z_getR (N := 6) (b := 68) 2 0 rfl f_2_30 rfl J rfl 12160 ⟨rfl, rfl⟩ rfl ?_
    refine x_bipush (v := 45) rfl kb_45 ?_
    refine x_inv (N := m_X9_isSign) (As := [.int 45]) (b := 68) (st := []) (dx9 := 1) (mc := 0) (ms := 0) (host := "") 9 rfl t_X9_isSign ⟨Or.inl q_2_55, i_X9_isSign.1, i_X9_isSign.2⟩ ⟨by decide, rfl⟩ (congrArg Prod.fst (J.1.1 68 (9, 6) rfl)) rfl (by decide) rfl rfl ⟨by decide, by decide⟩ (sf_X9_isSign_r68d (jr_of jk_45 (by omega)) hD J qu2 qu3 (by omega) rfl  (fun v13 h ev13 J S8 u9 u10 qu9 qu10 ru9 X11 X12 => ?_))
    have Sm := jSm_tr rfl Sm S8
    try rw [jk_45] at X11
    try rw [X11] at D
    try rw [← X12] at D
    have eu9 := (show 0 ≤ u9.toInt ∧ u9.toInt ≤ 3 from qu9 ▸ jrg_f J sg_68_5_6_1_0_1)
    have Luu9 := congrArg Int32.toInt (((jmc S8 rfl qu2)).symm.trans qu9)
    try rw [Luu9] at D
    try rw [vrf qu9] at D
    have eu10 := (show 0 ≤ u10.toInt ∧ u10.toInt ≤ 400 from qu10 ▸ jrg_f J sg_68_3_4_1_0_1)
    have Luu10 := congrArg Int32.toInt (((jmc S8 rfl qu3)).symm.trans qu10)
    try rw [Luu10] at D
    try rw [vrf qu10] at D
    show jX m_X2_readSum 20 0 0 140 [(0, .ref 95), (1, .int 1), (3, .int l3)] [.int v13] _ 0 0 _
    refine x_ifeq (tgt := 147) rfl rfl (ti_eq rfl jk_0 ⟨fun c14 => ?_, fun c14 => ?_⟩)
    ·
      rw [if_pos (by omega)] at D
      refine x_iconst (v := (-1)) rfl ki_m1 ?_
      exact jX.sub (jsb_c rfl (jsb_c rfl (jsb_c rfl jsb_n))) (ct_X2_readSum_r95_c1d_100148 hD hQ k4 l3 u10 u9 h (jr_of rfl (by omega)) (jr_of rfl (by omega)) (jr_of rfl (by omega)) (by omega) qu10 qu9 (by omega) J Sm D)
    ·
      rw [if_neg (by omega)] at D
      refine x_iconst (v := 4) rfl ki_4 ?_
      refine x_goto (tgt := 148) rfl rfl ?_
      exact jX.sub (jsb_c rfl (jsb_c rfl (jsb_c rfl jsb_n))) (ct_X2_readSum_r95_c1d_600148 hD hQ k4 l3 u10 u9 h (jr_of rfl (by omega)) (jr_of rfl (by omega)) (jr_of rfl (by omega)) (by omega) qu10 qu9 (by omega) J Sm D)
  ·
    rw [if_neg (by omega)] at D
    refine x_iconst (v := 3) rfl ki_3 ?_
    refine x_goto (tgt := 148) rfl rfl ?_
    exact jX.sub (jsb_c rfl (jsb_c rfl (jsb_c rfl jsb_n))) (ct_X2_readSum_r95_c1d_500148 hD hQ k4 l3 u3 u2 h (jr_of rfl (by omega)) (jr_of rfl (by omega)) (jr_of rfl (by omega)) (by omega) qu3 qu2 (by omega) J Sm D)
set_option maxRecDepth 100000 in
set_option maxHeartbeats 4000000 in
theorem ct_X2_readSum_r95_c1d_105 {Dy : jH → Prop} {h0 : jH} {Q : Option Value → jH → Prop} {dr : (Int × jW)} {K4 : Int → Int → jW → (Int × jW)} {R4 : Int} (hD : jDk Dy) (hQ : ∀ (v : Int32) hx9, 0 ≤ v.toInt ∧ v.toInt ≤ 1 → jJ jSgX Dy hx9 → jSm fp_X2_readSum_r95_c1d h0 hx9 → ∀ u0 u1 : Int32, jiv hx9 68 5 = u0 → jiv hx9 68 3 = u1 → (u0.toInt ≠ 3 ∨ u1.toInt ≤ 399) → dr.1 = v.toInt → dr.2 = vw hx9 → Q (some (.int v)) hx9) (k4 : ∀ (l2 : Int32) (l3 : Int32) (g0 : Int32) (g1 : Int32) (h : jH), 400 - l3.toInt < R4 → (-1) ≤ l2.toInt ∧ l2.toInt ≤ 4 → 0 ≤ l3.toInt ∧ l3.toInt ≤ 400 → 0 ≤ g0.toInt ∧ g0.toInt ≤ 400 → 0 ≤ g1.toInt ∧ g1.toInt ≤ 3 → (g1.toInt ≠ 3 ∨ g0.toInt ≤ 399) → jiv h 68 3 = g0 → jiv h 68 5 = g1 → jJ jSgX Dy h → jSm fp_X2_readSum_r95_c1d h0 h → K4 l2.toInt l3.toInt (vw h) = dr → jX m_X2_readSum 20 0 0 4 [(0, .ref 95), (1, .int 1), (2, .int l2), (3, .int l3)] [] h 0 0 Q) : ∀ (l2 : Int32) (l3 : Int32) (g0 : Int32) (g1 : Int32) (h : jH), (-1) ≤ l2.toInt ∧ l2.toInt ≤ 4 → 0 ≤ l3.toInt ∧ l3.toInt ≤ 399 → 0 ≤ g0.toInt ∧ g0.toInt ≤ 400 → 0 ≤ g1.toInt ∧ g1.toInt ≤ 3 → (g1.toInt ≠ 3 ∨ g0.toInt ≤ 399) → jiv h 68 3 = g0 → jiv h 68 5 = g1 → 400 - l3.toInt ≤ R4 → jJ jSgX Dy h → jSm fp_X2_readSum_r95_c1d h0 h → d_X2_readSum_r95_c1d_105 K4  l2.toInt l3.toInt (vw h) = dr → jX m_X2_readSum 20 0 0 105 [(0, .ref 95), (1, .int 1), (2, .int l2), (3, .int l3)] [] h 0 0 Q := by
  intro l2 l3 g0 g1 h y0 y1 y2 y3 y4 z0 z1 m4 J Sm D
  unfold d_X2_readSum_r95_c1d_105 at D
  try rw [vrf z0] at D
  try rw [vrf z1] at D
  refine x_iloadn (x := l2) rfl rfl ?_
  refine x_iconst (v := (-1)) rfl ki_m1 ?_
  refine x_iceq (tgt := 115) rfl rfl (ti_eq rfl jk_m1 ⟨fun c1 => ?_, fun c1 => ?_⟩)
  ·
    rw [if_pos (by omega)] at D
    exact jX.sub (jsb_c rfl (jsb_c rfl (jsb_c rfl jsb_n))) (ct_X2_readSum_r95_c1d_115 hD hQ k4 l3 g0 g1 h (jr_of rfl (by omega)) (jr_of rfl (by omega)) (jr_of rfl (by omega)) (by omega) z0 z1 (by omega) J Sm D)
  ·
    rw [if_neg (by omega)] at D
    refine x_aloadn (x := 95) rfl rfl ?_
    refine x_iloadn (x := l2) rfl rfl ?_
    refine x_inv (N := m_X2_emit) (As := [.int l2]) (b := 95) (st := []) (dx9 := 1) (mc := 0) (ms := 0) (host := "") 2 rfl t_X2_emit ⟨Or.inl q_2_89, i_X2_emit.1, i_X2_emit.2⟩ ⟨by decide, rfl⟩ (congrArg Prod.fst (J.1.1 95 (2, 6) rfl)) rfl (by decide) rfl rfl ⟨by decide, by decide⟩ (sf_X2_emit_r95d  hD J rfl  (fun h J S2 X3 => ?_))
    have Sm := jSm_tr rfl Sm S2
    rw [X3] at D
    show jX m_X2_readSum 20 0 0 115 [(0, .ref 95), (1, .int 1), (2, .int l2), (3, .int l3)] [] _ 0 0 _
    exact jX.sub (jsb_c rfl (jsb_c rfl (jsb_c rfl jsb_n))) (ct_X2_readSum_r95_c1d_115 hD hQ k4 l3 g0 g1 h (jr_of rfl (by omega)) (jr_of rfl (by omega)) (jr_of rfl (by omega)) (by omega) (jmc S2 rfl z0) (jmc S2 rfl z1) (by omega) J Sm D)
set_option maxRecDepth 100000 in
set_option maxHeartbeats 4000000 in
theorem ct_X2_readSum_r95_c1d_100081 {Dy : jH → Prop} {h0 : jH} {Q : Option Value → jH → Prop} {dr : (Int × jW)} {K4 : Int → Int → jW → (Int × jW)} {K17 : Int → Int → Int → Int → jW → (Int × jW)} {R4 : Int} {R17 : Int} (hD : jDk Dy) (hQ : ∀ (v : Int32) hx9, 0 ≤ v.toInt ∧ v.toInt ≤ 1 → jJ jSgX Dy hx9 → jSm fp_X2_readSum_r95_c1d h0 hx9 → ∀ u0 u1 : Int32, jiv hx9 68 5 = u0 → jiv hx9 68 3 = u1 → (u0.toInt ≠ 3 ∨ u1.toInt ≤ 399) → dr.1 = v.toInt → dr.2 = vw hx9 → Q (some (.int v)) hx9) (k4 : ∀ (l2 : Int32) (l3 : Int32) (g0 : Int32) (g1 : Int32) (h : jH), 400 - l3.toInt < R4 → (-1) ≤ l2.toInt ∧ l2.toInt ≤ 4 → 0 ≤ l3.toInt ∧ l3.toInt ≤ 400 → 0 ≤ g0.toInt ∧ g0.toInt ≤ 400 → 0 ≤ g1.toInt ∧ g1.toInt ≤ 3 → (g1.toInt ≠ 3 ∨ g0.toInt ≤ 399) → jiv h 68 3 = g0 → jiv h 68 5 = g1 → jJ jSgX Dy h → jSm fp_X2_readSum_r95_c1d h0 h → K4 l2.toInt l3.toInt (vw h) = dr → jX m_X2_readSum 20 0 0 4 [(0, .ref 95), (1, .int 1), (2, .int l2), (3, .int l3)] [] h 0 0 Q) (k17 : ∀ (l2 : Int32) (l3 : Int32) (l4 : Int32) (l5 : Int32) (g0 : Int32) (g1 : Int32) (h : jH), 400 - l5.toInt < R17 → (-1) ≤ l2.toInt ∧ l2.toInt ≤ 4 → 0 ≤ l3.toInt ∧ l3.toInt ≤ 399 → (-1) ≤ l4.toInt ∧ l4.toInt ≤ 6 → 0 ≤ l5.toInt ∧ l5.toInt ≤ 400 → 0 ≤ g0.toInt ∧ g0.toInt ≤ 400 → 0 ≤ g1.toInt ∧ g1.toInt ≤ 3 → (g1.toInt ≠ 3 ∨ g0.toInt ≤ 399) → jiv h 68 3 = g0 → jiv h 68 5 = g1 → 400 - l3.toInt ≤ R4 → jJ jSgX Dy h → jSm fp_X2_readSum_r95_c1d h0 h → K17 l2.toInt l3.toInt l4.toInt l5.toInt (vw h) = dr → jX m_X2_readSum 20 0 0 17 [(0, .ref 95), (1, .int 1), (2, .int l2), (3, .int l3), (4, .int l4), (5, .int l5)] [] h 0 0 Q) : ∀ (l2 : Int32) (l3 : Int32) (l5 : Int32) (g0 : Int32) (g1 : Int32) (h : jH), (-1) ≤ l2.toInt ∧ l2.toInt ≤ 4 → 0 ≤ l3.toInt ∧ l3.toInt ≤ 399 → 0 ≤ l5.toInt ∧ l5.toInt ≤ 399 → 0 ≤ g0.toInt ∧ g0.toInt ≤ 400 → 0 ≤ g1.toInt ∧ g1.toInt ≤ 3 → (g1.toInt ≠ 3 ∨ g0.toInt ≤ 399) → jiv h 68 3 = g0 → jiv h 68 5 = g1 → 400 - l3.toInt ≤ R4 → 400 - l5.toInt ≤ R17 → jJ jSgX Dy h → jSm fp_X2_readSum_r95_c1d h0 h → d_X2_readSum_r95_c1d_100081 K4 K17  l2.toInt l3.toInt l5.toInt (vw h) = dr → jX m_X2_readSum 20 0 0 81 [(0, .ref 95), (1, .int 1), (2, .int l2), (3, .int l3), (5, .int l5)] [.int (-1)] h 0 0 Q := by
  intro l2 l3 l5 g0 g1 h y0 y1 y2 y3 y4 y5 z0 z1 m4 m17 J Sm D
  unfold d_X2_readSum_r95_c1d_100081 at D
  try rw [vrf z0] at D
  try rw [vrf z1] at D
  refine x_istore (lsx9 := [(4, .int (-1)), (0, .ref 95), (1, .int 1), (2, .int l2), (3, .int l3), (5, .int l5)]) rfl rfl rfl ?_
  refine x_iload (x := (-1)) rfl rfl ?_
  refine x_iconst (v := (-1)) rfl ki_m1 ?_
  refine x_icne (tgt := 92) rfl rfl (ti_ne jk_m1 jk_m1 (bn_f (by omega) ?_))
  refine x_goto (tgt := 105) rfl rfl ?_
  exact jX.sub (jsb_c rfl (jsb_c rfl (jsb_c rfl (jsb_c rfl jsb_n)))) (ct_X2_readSum_r95_c1d_105 hD hQ k4 l2 l3 g0 g1 h (jr_of rfl (by omega)) (jr_of rfl (by omega)) (jr_of rfl (by omega)) (jr_of rfl (by omega)) (by omega) z0 z1 (by omega) J Sm D)
set_option maxRecDepth 100000 in
set_option maxHeartbeats 4000000 in
theorem ct_X2_readSum_r95_c1d_800081 {Dy : jH → Prop} {h0 : jH} {Q : Option Value → jH → Prop} {dr : (Int × jW)} {K4 : Int → Int → jW → (Int × jW)} {K17 : Int → Int → Int → Int → jW → (Int × jW)} {R4 : Int} {R17 : Int} (hD : jDk Dy) (hQ : ∀ (v : Int32) hx9, 0 ≤ v.toInt ∧ v.toInt ≤ 1 → jJ jSgX Dy hx9 → jSm fp_X2_readSum_r95_c1d h0 hx9 → ∀ u0 u1 : Int32, jiv hx9 68 5 = u0 → jiv hx9 68 3 = u1 → (u0.toInt ≠ 3 ∨ u1.toInt ≤ 399) → dr.1 = v.toInt → dr.2 = vw hx9 → Q (some (.int v)) hx9) (k4 : ∀ (l2 : Int32) (l3 : Int32) (g0 : Int32) (g1 : Int32) (h : jH), 400 - l3.toInt < R4 → (-1) ≤ l2.toInt ∧ l2.toInt ≤ 4 → 0 ≤ l3.toInt ∧ l3.toInt ≤ 400 → 0 ≤ g0.toInt ∧ g0.toInt ≤ 400 → 0 ≤ g1.toInt ∧ g1.toInt ≤ 3 → (g1.toInt ≠ 3 ∨ g0.toInt ≤ 399) → jiv h 68 3 = g0 → jiv h 68 5 = g1 → jJ jSgX Dy h → jSm fp_X2_readSum_r95_c1d h0 h → K4 l2.toInt l3.toInt (vw h) = dr → jX m_X2_readSum 20 0 0 4 [(0, .ref 95), (1, .int 1), (2, .int l2), (3, .int l3)] [] h 0 0 Q) (k17 : ∀ (l2 : Int32) (l3 : Int32) (l4 : Int32) (l5 : Int32) (g0 : Int32) (g1 : Int32) (h : jH), 400 - l5.toInt < R17 → (-1) ≤ l2.toInt ∧ l2.toInt ≤ 4 → 0 ≤ l3.toInt ∧ l3.toInt ≤ 399 → (-1) ≤ l4.toInt ∧ l4.toInt ≤ 6 → 0 ≤ l5.toInt ∧ l5.toInt ≤ 400 → 0 ≤ g0.toInt ∧ g0.toInt ≤ 400 → 0 ≤ g1.toInt ∧ g1.toInt ≤ 3 → (g1.toInt ≠ 3 ∨ g0.toInt ≤ 399) → jiv h 68 3 = g0 → jiv h 68 5 = g1 → 400 - l3.toInt ≤ R4 → jJ jSgX Dy h → jSm fp_X2_readSum_r95_c1d h0 h → K17 l2.toInt l3.toInt l4.toInt l5.toInt (vw h) = dr → jX m_X2_readSum 20 0 0 17 [(0, .ref 95), (1, .int 1), (2, .int l2), (3, .int l3), (4, .int l4), (5, .int l5)] [] h 0 0 Q) : ∀ (l2 : Int32) (l3 : Int32) (l5 : Int32) (g0 : Int32) (g1 : Int32) (h : jH), (-1) ≤ l2.toInt ∧ l2.toInt ≤ 4 → 0 ≤ l3.toInt ∧ l3.toInt ≤ 399 → 0 ≤ l5.toInt ∧ l5.toInt ≤ 399 → 0 ≤ g0.toInt ∧ g0.toInt ≤ 400 → 0 ≤ g1.toInt ∧ g1.toInt ≤ 3 → (g1.toInt ≠ 3 ∨ g0.toInt ≤ 399) → jiv h 68 3 = g0 → jiv h 68 5 = g1 → 400 - l3.toInt ≤ R4 → 400 - l5.toInt ≤ R17 → jJ jSgX Dy h → jSm fp_X2_readSum_r95_c1d h0 h → d_X2_readSum_r95_c1d_800081 K4 K17  l2.toInt l3.toInt l5.toInt (vw h) = dr → jX m_X2_readSum 20 0 0 81 [(0, .ref 95), (1, .int 1), (2, .int l2), (3, .int l3), (5, .int l5)] [.int 6] h 0 0 Q := by
  intro l2 l3 l5 g0 g1 h y0 y1 y2 y3 y4 y5 z0 z1 m4 m17 J Sm D
  unfold d_X2_readSum_r95_c1d_800081 at D
  try rw [vrf z0] at D
  try rw [vrf z1] at D
  refine x_istore (lsx9 := [(4, .int 6), (0, .ref 95), (1, .int 1), (2, .int l2), (3, .int l3), (5, .int l5)]) rfl rfl rfl ?_
  refine x_iload (x := 6) rfl rfl ?_
  refine x_iconst (v := (-1)) rfl ki_m1 ?_
  refine x_icne (tgt := 92) rfl rfl (ti_ne jk_6 jk_m1 (bn_t (by omega) ?_))
  refine x_aloadn (x := 95) rfl rfl ?_
  refine z_getR (N := 6) (b := 68) 2 0 rfl f_2_30 rfl J rfl 12160 ⟨rfl, rfl⟩ rfl ?_
  refine x_inv (N := m_X9_step) (As := []) (b := 68) (st := []) (dx9 := 2) (mc := 0) (ms := 0) (host := "") 9 rfl t_X9_step ⟨Or.inl q_2_62, i_X9_step.1, i_X9_step.2⟩ ⟨by decide, rfl⟩ (congrArg Prod.fst (J.1.1 68 (9, 6) rfl)) rfl (by decide) rfl rfl ⟨by decide, by decide⟩ (sf_X9_step_r68d  hD J z1 z0 (by omega) rfl  (fun h J S1 u2 u3 qu2 qu3 ru2 X4 => ?_))
  have Sm := jSm_tr rfl Sm S1
  rw [X4] at D
  have eu2 := (show 0 ≤ u2.toInt ∧ u2.toInt ≤ 3 from qu2 ▸ jrg_f J sg_68_5_6_1_0_1)
  try rw [vrf qu2] at D
  have eu3 := (show 0 ≤ u3.toInt ∧ u3.toInt ≤ 400 from qu3 ▸ jrg_f J sg_68_3_4_1_0_1)
  try rw [vrf qu3] at D
  show jX m_X2_readSum 20 0 0 99 [(4, .int 6), (0, .ref 95), (1, .int 1), (2, .int l2), (3, .int l3), (5, .int l5)] [] _ 0 0 _
  refine z_iinc (x := l5) (lsx9 := fun v5 => [(5, .int v5), (4, .int 6), (0, .ref 95), (1, .int 1), (2, .int l2), (3, .int l3)]) rfl rfl rfl jko_1 (by omega) rfl (fun _ => rfl) (fun v5 ev5 => ?_)
  refine x_goto (tgt := 17) rfl rfl ?_
  try rw [show (l5.toInt + 1) = v5.toInt from by omega] at D
  exact jX.sub (jsb_c rfl (jsb_c rfl (jsb_c rfl (jsb_c rfl (jsb_c rfl (jsb_c rfl jsb_n)))))) (k17 l2 l3 6 v5 u3 u2 h (by omega) (jr_of rfl (by omega)) (jr_of rfl (by omega)) (jr_of jk_6 (by omega)) (jr_of rfl (by omega)) (jr_of rfl (by omega)) (jr_of rfl (by omega)) (by omega) qu3 qu2 (by omega) J Sm (by rw [jk_6]; exact D))
set_option maxRecDepth 100000 in
set_option maxHeartbeats 4000000 in
theorem ct_X2_readSum_r95_c1d_700081 {Dy : jH → Prop} {h0 : jH} {Q : Option Value → jH → Prop} {dr : (Int × jW)} {K4 : Int → Int → jW → (Int × jW)} {K17 : Int → Int → Int → Int → jW → (Int × jW)} {R4 : Int} {R17 : Int} (hD : jDk Dy) (hQ : ∀ (v : Int32) hx9, 0 ≤ v.toInt ∧ v.toInt ≤ 1 → jJ jSgX Dy hx9 → jSm fp_X2_readSum_r95_c1d h0 hx9 → ∀ u0 u1 : Int32, jiv hx9 68 5 = u0 → jiv hx9 68 3 = u1 → (u0.toInt ≠ 3 ∨ u1.toInt ≤ 399) → dr.1 = v.toInt → dr.2 = vw hx9 → Q (some (.int v)) hx9) (k4 : ∀ (l2 : Int32) (l3 : Int32) (g0 : Int32) (g1 : Int32) (h : jH), 400 - l3.toInt < R4 → (-1) ≤ l2.toInt ∧ l2.toInt ≤ 4 → 0 ≤ l3.toInt ∧ l3.toInt ≤ 400 → 0 ≤ g0.toInt ∧ g0.toInt ≤ 400 → 0 ≤ g1.toInt ∧ g1.toInt ≤ 3 → (g1.toInt ≠ 3 ∨ g0.toInt ≤ 399) → jiv h 68 3 = g0 → jiv h 68 5 = g1 → jJ jSgX Dy h → jSm fp_X2_readSum_r95_c1d h0 h → K4 l2.toInt l3.toInt (vw h) = dr → jX m_X2_readSum 20 0 0 4 [(0, .ref 95), (1, .int 1), (2, .int l2), (3, .int l3)] [] h 0 0 Q) (k17 : ∀ (l2 : Int32) (l3 : Int32) (l4 : Int32) (l5 : Int32) (g0 : Int32) (g1 : Int32) (h : jH), 400 - l5.toInt < R17 → (-1) ≤ l2.toInt ∧ l2.toInt ≤ 4 → 0 ≤ l3.toInt ∧ l3.toInt ≤ 399 → (-1) ≤ l4.toInt ∧ l4.toInt ≤ 6 → 0 ≤ l5.toInt ∧ l5.toInt ≤ 400 → 0 ≤ g0.toInt ∧ g0.toInt ≤ 400 → 0 ≤ g1.toInt ∧ g1.toInt ≤ 3 → (g1.toInt ≠ 3 ∨ g0.toInt ≤ 399) → jiv h 68 3 = g0 → jiv h 68 5 = g1 → 400 - l3.toInt ≤ R4 → jJ jSgX Dy h → jSm fp_X2_readSum_r95_c1d h0 h → K17 l2.toInt l3.toInt l4.toInt l5.toInt (vw h) = dr → jX m_X2_readSum 20 0 0 17 [(0, .ref 95), (1, .int 1), (2, .int l2), (3, .int l3), (4, .int l4), (5, .int l5)] [] h 0 0 Q) : ∀ (l2 : Int32) (l3 : Int32) (l5 : Int32) (g0 : Int32) (g1 : Int32) (h : jH), (-1) ≤ l2.toInt ∧ l2.toInt ≤ 4 → 0 ≤ l3.toInt ∧ l3.toInt ≤ 399 → 0 ≤ l5.toInt ∧ l5.toInt ≤ 399 → 0 ≤ g0.toInt ∧ g0.toInt ≤ 400 → 0 ≤ g1.toInt ∧ g1.toInt ≤ 3 → (g1.toInt ≠ 3 ∨ g0.toInt ≤ 399) → jiv h 68 3 = g0 → jiv h 68 5 = g1 → 400 - l3.toInt ≤ R4 → 400 - l5.toInt ≤ R17 → jJ jSgX Dy h → jSm fp_X2_readSum_r95_c1d h0 h → d_X2_readSum_r95_c1d_700081 K4 K17  l2.toInt l3.toInt l5.toInt (vw h) = dr → jX m_X2_readSum 20 0 0 81 [(0, .ref 95), (1, .int 1), (2, .int l2), (3, .int l3), (5, .int l5)] [.int 5] h 0 0 Q := by
  intro l2 l3 l5 g0 g1 h y0 y1 y2 y3 y4 y5 z0 z1 m4 m17 J Sm D
  unfold d_X2_readSum_r95_c1d_700081 at D
  try rw [vrf z0] at D
  try rw [vrf z1] at D
  refine x_istore (lsx9 := [(4, .int 5), (0, .ref 95), (1, .int 1), (2, .int l2), (3, .int l3), (5, .int l5)]) rfl rfl rfl ?_
  refine x_iload (x := 5) rfl rfl ?_
  refine x_iconst (v := (-1)) rfl ki_m1 ?_
  refine x_icne (tgt := 92) rfl rfl (ti_ne jk_5 jk_m1 (bn_t (by omega) ?_))
  refine x_aloadn (x := 95) rfl rfl ?_
  refine z_getR (N := 6) (b := 68) 2 0 rfl f_2_30 rfl J rfl 12160 ⟨rfl, rfl⟩ rfl ?_
  refine x_inv (N := m_X9_step) (As := []) (b := 68) (st := []) (dx9 := 2) (mc := 0) (ms := 0) (host := "") 9 rfl t_X9_step ⟨Or.inl q_2_62, i_X9_step.1, i_X9_step.2⟩ ⟨by decide, rfl⟩ (congrArg Prod.fst (J.1.1 68 (9, 6) rfl)) rfl (by decide) rfl rfl ⟨by decide, by decide⟩ (sf_X9_step_r68d  hD J z1 z0 (by omega) rfl  (fun h J S1 u2 u3 qu2 qu3 ru2 X4 => ?_))
  have Sm := jSm_tr rfl Sm S1
  rw [X4] at D
  have eu2 := (show 0 ≤ u2.toInt ∧ u2.toInt ≤ 3 from qu2 ▸ jrg_f J sg_68_5_6_1_0_1)
  try rw [vrf qu2] at D
  have eu3 := (show 0 ≤ u3.toInt ∧ u3.toInt ≤ 400 from qu3 ▸ jrg_f J sg_68_3_4_1_0_1)
  try rw [vrf qu3] at D
  show jX m_X2_readSum 20 0 0 99 [(4, .int 5), (0, .ref 95), (1, .int 1), (2, .int l2), (3, .int l3), (5, .int l5)] [] _ 0 0 _
  refine z_iinc (x := l5) (lsx9 := fun v5 => [(5, .int v5), (4, .int 5), (0, .ref 95), (1, .int 1), (2, .int l2), (3, .int l3)]) rfl rfl rfl jko_1 (by omega) rfl (fun _ => rfl) (fun v5 ev5 => ?_)
  refine x_goto (tgt := 17) rfl rfl ?_
  try rw [show (l5.toInt + 1) = v5.toInt from by omega] at D
  exact jX.sub (jsb_c rfl (jsb_c rfl (jsb_c rfl (jsb_c rfl (jsb_c rfl (jsb_c rfl jsb_n)))))) (k17 l2 l3 5 v5 u3 u2 h (by omega) (jr_of rfl (by omega)) (jr_of rfl (by omega)) (jr_of jk_5 (by omega)) (jr_of rfl (by omega)) (jr_of rfl (by omega)) (jr_of rfl (by omega)) (by omega) qu3 qu2 (by omega) J Sm (by rw [jk_5]; exact D))
set_option maxRecDepth 100000 in
set_option maxHeartbeats 4000000 in
theorem ct_X2_readSum_r95_c1d_47 {Dy : jH → Prop} {h0 : jH} {Q : Option Value → jH → Prop} {dr : (Int × jW)} {K4 : Int → Int → jW → (Int × jW)} {K17 : Int → Int → Int → Int → jW → (Int × jW)} {R4 : Int} {R17 : Int} (hD : jDk Dy) (hQ : ∀ (v : Int32) hx9, 0 ≤ v.toInt ∧ v.toInt ≤ 1 → jJ jSgX Dy hx9 → jSm fp_X2_readSum_r95_c1d h0 hx9 → ∀ u0 u1 : Int32, jiv hx9 68 5 = u0 → jiv hx9 68 3 = u1 → (u0.toInt ≠ 3 ∨ u1.toInt ≤ 399) → dr.1 = v.toInt → dr.2 = vw hx9 → Q (some (.int v)) hx9) (k4 : ∀ (l2 : Int32) (l3 : Int32) (g0 : Int32) (g1 : Int32) (h : jH), 400 - l3.toInt < R4 → (-1) ≤ l2.toInt ∧ l2.toInt ≤ 4 → 0 ≤ l3.toInt ∧ l3.toInt ≤ 400 → 0 ≤ g0.toInt ∧ g0.toInt ≤ 400 → 0 ≤ g1.toInt ∧ g1.toInt ≤ 3 → (g1.toInt ≠ 3 ∨ g0.toInt ≤ 399) → jiv h 68 3 = g0 → jiv h 68 5 = g1 → jJ jSgX Dy h → jSm fp_X2_readSum_r95_c1d h0 h → K4 l2.toInt l3.toInt (vw h) = dr → jX m_X2_readSum 20 0 0 4 [(0, .ref 95), (1, .int 1), (2, .int l2), (3, .int l3)] [] h 0 0 Q) (k17 : ∀ (l2 : Int32) (l3 : Int32) (l4 : Int32) (l5 : Int32) (g0 : Int32) (g1 : Int32) (h : jH), 400 - l5.toInt < R17 → (-1) ≤ l2.toInt ∧ l2.toInt ≤ 4 → 0 ≤ l3.toInt ∧ l3.toInt ≤ 399 → (-1) ≤ l4.toInt ∧ l4.toInt ≤ 6 → 0 ≤ l5.toInt ∧ l5.toInt ≤ 400 → 0 ≤ g0.toInt ∧ g0.toInt ≤ 400 → 0 ≤ g1.toInt ∧ g1.toInt ≤ 3 → (g1.toInt ≠ 3 ∨ g0.toInt ≤ 399) → jiv h 68 3 = g0 → jiv h 68 5 = g1 → 400 - l3.toInt ≤ R4 → jJ jSgX Dy h → jSm fp_X2_readSum_r95_c1d h0 h → K17 l2.toInt l3.toInt l4.toInt l5.toInt (vw h) = dr → jX m_X2_readSum 20 0 0 17 [(0, .ref 95), (1, .int 1), (2, .int l2), (3, .int l3), (4, .int l4), (5, .int l5)] [] h 0 0 Q) : ∀ (l2 : Int32) (l3 : Int32) (l5 : Int32) (g0 : Int32) (g1 : Int32) (h : jH), (-1) ≤ l2.toInt ∧ l2.toInt ≤ 4 → 0 ≤ l3.toInt ∧ l3.toInt ≤ 399 → 0 ≤ l5.toInt ∧ l5.toInt ≤ 399 → 0 ≤ g0.toInt ∧ g0.toInt ≤ 400 → 0 ≤ g1.toInt ∧ g1.toInt ≤ 3 → (g1.toInt ≠ 3 ∨ g0.toInt ≤ 399) → jiv h 68 3 = g0 → jiv h 68 5 = g1 → 400 - l3.toInt ≤ R4 → 400 - l5.toInt ≤ R17 → jJ jSgX Dy h → jSm fp_X2_readSum_r95_c1d h0 h → d_X2_readSum_r95_c1d_47 K4 K17  l2.toInt l3.toInt l5.toInt (vw h) = dr → jX m_X2_readSum 20 0 0 47 [(0, .ref 95), (1, .int 1), (2, .int l2), (3, .int l3), (5, .int l5)] [] h 0 0 Q := by
  intro l2 l3 l5 g0 g1 h y0 y1 y2 y3 y4 y5 z0 z1 m4 m17 J Sm D
  unfold d_X2_readSum_r95_c1d_47 at D
  try rw [vrf z0] at D
  try rw [vrf z1] at D
  refine x_aloadn (x := 95) rfl rfl ?_
  refine z_getR (N := 6) (b := 68) 2 0 rfl f_2_30 rfl J rfl 12160 ⟨rfl, rfl⟩ rfl ?_
  refine x_bipush (v := 42) rfl kb_42 ?_
  refine x_inv (N := m_X9_isSign) (As := [.int 42]) (b := 68) (st := []) (dx9 := 1) (mc := 0) (ms := 0) (host := "") 9 rfl t_X9_isSign ⟨Or.inl q_2_55, i_X9_isSign.1, i_X9_isSign.2⟩ ⟨by decide, rfl⟩ (congrArg Prod.fst (J.1.1 68 (9, 6) rfl)) rfl (by decide) rfl rfl ⟨by decide, by decide⟩ (sf_X9_isSign_r68d (jr_of jk_42 (by omega)) hD J z1 z0 (by omega) rfl  (fun v6 h ev6 J S1 u2 u3 qu2 qu3 ru2 X4 X5 => ?_))
  have Sm := jSm_tr rfl Sm S1
  try rw [jk_42] at X4
  try rw [X4] at D
  try rw [← X5] at D
  have eu2 := (show 0 ≤ u2.toInt ∧ u2.toInt ≤ 3 from qu2 ▸ jrg_f J sg_68_5_6_1_0_1)
  have Luu2 := congrArg Int32.toInt (((jmc S1 rfl z1)).symm.trans qu2)
  try rw [Luu2] at D
  try rw [vrf qu2] at D
  have eu3 := (show 0 ≤ u3.toInt ∧ u3.toInt ≤ 400 from qu3 ▸ jrg_f J sg_68_3_4_1_0_1)
  have Luu3 := congrArg Int32.toInt (((jmc S1 rfl z0)).symm.trans qu3)
  try rw [Luu3] at D
  try rw [vrf qu3] at D
  show jX m_X2_readSum 20 0 0 56 [(0, .ref 95), (1, .int 1), (2, .int l2), (3, .int l3), (5, .int l5)] [.int v6] _ 0 0 _
  refine x_ifeq (tgt := 63) rfl rfl (ti_eq rfl jk_0 ⟨fun c7 => ?_, fun c7 => ?_⟩)
  ·
    rw [if_pos (by omega)] at D
    refine x_aloadn (x := 95) rfl rfl ?_
    refine z_getR (N := 6) (b := 68) 2 0 rfl f_2_30 rfl J rfl 12160 ⟨rfl, rfl⟩ rfl ?_
    refine x_bipush (v := 47) rfl kb_47 ?_
    refine x_inv (N := m_X9_isSign) (As := [.int 47]) (b := 68) (st := []) (dx9 := 1) (mc := 0) (ms := 0) (host := "") 9 rfl t_X9_isSign ⟨Or.inl q_2_55, i_X9_isSign.1, i_X9_isSign.2⟩ ⟨by decide, rfl⟩ (congrArg Prod.fst (J.1.1 68 (9, 6) rfl)) rfl (by decide) rfl rfl ⟨by decide, by decide⟩ (sf_X9_isSign_r68d (jr_of jk_47 (by omega)) hD J qu2 qu3 (by omega) rfl  (fun v13 h ev13 J S8 u9 u10 qu9 qu10 ru9 X11 X12 => ?_))
    have Sm := jSm_tr rfl Sm S8
    try rw [jk_47] at X11
    try rw [X11] at D
    try rw [← X12] at D
    have eu9 := (show 0 ≤ u9.toInt ∧ u9.toInt ≤ 3 from qu9 ▸ jrg_f J sg_68_5_6_1_0_1)
    have Luu9 := congrArg Int32.toInt (((jmc S8 rfl qu2)).symm.trans qu9)
    try rw [Luu9] at D
    try rw [vrf qu9] at D
    have eu10 := (show 0 ≤ u10.toInt ∧ u10.toInt ≤ 400 from qu10 ▸ jrg_f J sg_68_3_4_1_0_1)
    have Luu10 := congrArg Int32.toInt (((jmc S8 rfl qu3)).symm.trans qu10)
    try rw [Luu10] at D
    try rw [vrf qu10] at D
    show jX m_X2_readSum 20 0 0 72 [(0, .ref 95), (1, .int 1), (2, .int l2), (3, .int l3), (5, .int l5)] [.int v13] _ 0 0 _
    refine x_ifeq (tgt := 80) rfl rfl (ti_eq rfl jk_0 ⟨fun c14 => ?_, fun c14 => ?_⟩)
    ·
      rw [if_pos (by omega)] at D
      refine x_iconst (v := (-1)) rfl ki_m1 ?_
      exact jX.sub (jsb_c rfl (jsb_c rfl (jsb_c rfl (jsb_c rfl (jsb_c rfl jsb_n))))) (ct_X2_readSum_r95_c1d_100081 hD hQ k4 k17 l2 l3 l5 u10 u9 h (jr_of rfl (by omega)) (jr_of rfl (by omega)) (jr_of rfl (by omega)) (jr_of rfl (by omega)) (jr_of rfl (by omega)) (by omega) qu10 qu9 (by omega) (by omega) J Sm D)
    ·
      rw [if_neg (by omega)] at D
      refine x_bipush (v := 6) rfl kb_6 ?_
      refine x_goto (tgt := 81) rfl rfl ?_
      exact jX.sub (jsb_c rfl (jsb_c rfl (jsb_c rfl (jsb_c rfl (jsb_c rfl jsb_n))))) (ct_X2_readSum_r95_c1d_800081 hD hQ k4 k17 l2 l3 l5 u10 u9 h (jr_of rfl (by omega)) (jr_of rfl (by omega)) (jr_of rfl (by omega)) (jr_of rfl (by omega)) (jr_of rfl (by omega)) (by omega) qu10 qu9 (by omega) (by omega) J Sm D)
  ·
    rw [if_neg (by omega)] at D
    refine x_iconst (v := 5) rfl ki_5 ?_
    refine x_goto (tgt := 81) rfl rfl ?_
    exact jX.sub (jsb_c rfl (jsb_c rfl (jsb_c rfl (jsb_c rfl (jsb_c rfl jsb_n))))) (ct_X2_readSum_r95_c1d_700081 hD hQ k4 k17 l2 l3 l5 u3 u2 h (jr_of rfl (by omega)) (jr_of rfl (by omega)) (jr_of rfl (by omega)) (jr_of rfl (by omega)) (jr_of rfl (by omega)) (by omega) qu3 qu2 (by omega) (by omega) J Sm D)
set_option maxRecDepth 100000 in
set_option maxHeartbeats 4000000 in
theorem ct_X2_readSum_r95_c1d_17 {Dy : jH → Prop} {h0 : jH} {Q : Option Value → jH → Prop} {dr : (Int × jW)} {K4 : Int → Int → jW → (Int × jW)} {R4 : Int} (hD : jDk Dy) (hQ : ∀ (v : Int32) hx9, 0 ≤ v.toInt ∧ v.toInt ≤ 1 → jJ jSgX Dy hx9 → jSm fp_X2_readSum_r95_c1d h0 hx9 → ∀ u0 u1 : Int32, jiv hx9 68 5 = u0 → jiv hx9 68 3 = u1 → (u0.toInt ≠ 3 ∨ u1.toInt ≤ 399) → dr.1 = v.toInt → dr.2 = vw hx9 → Q (some (.int v)) hx9) (k4 : ∀ (l2 : Int32) (l3 : Int32) (g0 : Int32) (g1 : Int32) (h : jH), 400 - l3.toInt < R4 → (-1) ≤ l2.toInt ∧ l2.toInt ≤ 4 → 0 ≤ l3.toInt ∧ l3.toInt ≤ 400 → 0 ≤ g0.toInt ∧ g0.toInt ≤ 400 → 0 ≤ g1.toInt ∧ g1.toInt ≤ 3 → (g1.toInt ≠ 3 ∨ g0.toInt ≤ 399) → jiv h 68 3 = g0 → jiv h 68 5 = g1 → jJ jSgX Dy h → jSm fp_X2_readSum_r95_c1d h0 h → K4 l2.toInt l3.toInt (vw h) = dr → jX m_X2_readSum 20 0 0 4 [(0, .ref 95), (1, .int 1), (2, .int l2), (3, .int l3)] [] h 0 0 Q) : ∀ r : Nat, ∀ (l2 : Int32) (l3 : Int32) (l4 : Int32) (l5 : Int32) (g0 : Int32) (g1 : Int32) (h : jH), 400 - l5.toInt < (r : Int) → (-1) ≤ l2.toInt ∧ l2.toInt ≤ 4 → 0 ≤ l3.toInt ∧ l3.toInt ≤ 399 → (-1) ≤ l4.toInt ∧ l4.toInt ≤ 6 → 0 ≤ l5.toInt ∧ l5.toInt ≤ 400 → 0 ≤ g0.toInt ∧ g0.toInt ≤ 400 → 0 ≤ g1.toInt ∧ g1.toInt ≤ 3 → (g1.toInt ≠ 3 ∨ g0.toInt ≤ 399) → jiv h 68 3 = g0 → jiv h 68 5 = g1 → 400 - l3.toInt ≤ R4 → jJ jSgX Dy h → jSm fp_X2_readSum_r95_c1d h0 h → d_X2_readSum_r95_c1d_17 K4 r l2.toInt l3.toInt l4.toInt l5.toInt (vw h) = dr → jX m_X2_readSum 20 0 0 17 [(0, .ref 95), (1, .int 1), (2, .int l2), (3, .int l3), (4, .int l4), (5, .int l5)] [] h 0 0 Q := by
  intro r
  induction r with
  | zero =>
    intro l2 l3 l4 l5 g0 g1 h hm y0 y1 y2 y3 y4 y5 y6 z0 z1 m4 J Sm D
    exfalso
    omega
  | succ r ih =>
    intro l2 l3 l4 l5 g0 g1 h hm y0 y1 y2 y3 y4 y5 y6 z0 z1 m4 J Sm D
    rw [d_X2_readSum_r95_c1d_17.eq_2] at D
    try rw [vrf z0] at D
    try rw [vrf z1] at D
    refine x_iload (x := l5) rfl rfl ?_
    refine x_sipush (v := 400) rfl ks_400 ?_
    refine x_icge (tgt := 105) rfl rfl (ti_ge rfl jk_400 ⟨fun c1 => ?_, fun c1 => ?_⟩)
    ·
      rw [if_pos (by omega)] at D
      exact jX.sub (jsb_c rfl (jsb_c rfl (jsb_c rfl (jsb_c rfl jsb_n)))) (ct_X2_readSum_r95_c1d_105 hD hQ k4 l2 l3 g0 g1 h (jr_of rfl (by omega)) (jr_of rfl (by omega)) (jr_of rfl (by omega)) (jr_of rfl (by omega)) (by omega) z0 z1 (by omega) J Sm D)
    ·
      rw [if_neg (by omega)] at D
      refine x_aloadn (x := 95) rfl rfl ?_
      refine x_iloadn (x := 1) rfl rfl ?_
      refine x_inv (N := m_X2_readFactor) (As := [.int 1]) (b := 95) (st := []) (dx9 := 19) (mc := 0) (ms := 0) (host := "") 2 rfl t_X2_readFactor ⟨Or.inl q_2_144, i_X2_readFactor.1, i_X2_readFactor.2⟩ ⟨by decide, rfl⟩ (congrArg Prod.fst (J.1.1 95 (2, 6) rfl)) rfl (by decide) rfl rfl ⟨by decide, by decide⟩ (sf_X2_readFactor_r95_c1d  hD J z1 z0 (by omega) rfl  (fun v7 h ev7 J S2 u3 u4 qu3 qu4 ru3 X5 X6 => ?_))
      have Sm := jSm_tr rfl Sm S2
      try rw [X5] at D
      try rw [X6] at D
      have eu3 := (show 0 ≤ u3.toInt ∧ u3.toInt ≤ 3 from qu3 ▸ jrg_f J sg_68_5_6_1_0_1)
      try rw [vrf qu3] at D
      have eu4 := (show 0 ≤ u4.toInt ∧ u4.toInt ≤ 400 from qu4 ▸ jrg_f J sg_68_3_4_1_0_1)
      try rw [vrf qu4] at D
      show jX m_X2_readSum 20 0 0 30 [(0, .ref 95), (1, .int 1), (2, .int l2), (3, .int l3), (4, .int l4), (5, .int l5)] [.int v7] _ 0 0 _
      refine x_ifne (tgt := 35) rfl rfl (ti_ne rfl jk_0 ⟨fun c8 => ?_, fun c8 => ?_⟩)
      ·
        rw [if_neg (by omega)] at D
        refine x_iload (x := l4) rfl rfl ?_
        refine x_iconst (v := (-1)) rfl ki_m1 ?_
        refine x_iceq (tgt := 47) rfl rfl (ti_eq rfl jk_m1 ⟨fun c9 => ?_, fun c9 => ?_⟩)
        ·
          rw [if_pos (by omega)] at D
          exact jX.sub (jsb_c rfl (jsb_c rfl (jsb_c rfl (jsb_c rfl (jsb_c rfl jsb_n))))) (ct_X2_readSum_r95_c1d_47 hD hQ k4 ih l2 l3 l5 u4 u3 h (jr_of rfl (by omega)) (jr_of rfl (by omega)) (jr_of rfl (by omega)) (jr_of rfl (by omega)) (jr_of rfl (by omega)) (by omega) qu4 qu3 (by omega) (by omega) J Sm D)
        ·
          rw [if_neg (by omega)] at D
          refine x_aloadn (x := 95) rfl rfl ?_
          refine x_iload (x := l4) rfl rfl ?_
          refine x_inv (N := m_X2_emit) (As := [.int l4]) (b := 95) (st := []) (dx9 := 1) (mc := 0) (ms := 0) (host := "") 2 rfl t_X2_emit ⟨Or.inl q_2_89, i_X2_emit.1, i_X2_emit.2⟩ ⟨by decide, rfl⟩ (congrArg Prod.fst (J.1.1 95 (2, 6) rfl)) rfl (by decide) rfl rfl ⟨by decide, by decide⟩ (sf_X2_emit_r95d  hD J rfl  (fun h J S10 X11 => ?_))
          have Sm := jSm_tr rfl Sm S10
          rw [X11] at D
          show jX m_X2_readSum 20 0 0 47 [(0, .ref 95), (1, .int 1), (2, .int l2), (3, .int l3), (4, .int l4), (5, .int l5)] [] _ 0 0 _
          exact jX.sub (jsb_c rfl (jsb_c rfl (jsb_c rfl (jsb_c rfl (jsb_c rfl jsb_n))))) (ct_X2_readSum_r95_c1d_47 hD hQ k4 ih l2 l3 l5 u4 u3 h (jr_of rfl (by omega)) (jr_of rfl (by omega)) (jr_of rfl (by omega)) (jr_of rfl (by omega)) (jr_of rfl (by omega)) (by omega) (jmc S10 rfl qu4) (jmc S10 rfl qu3) (by omega) (by omega) J Sm D)
      ·
        rw [if_pos (by omega)] at D
        refine x_iconst (v := 0) rfl ki_0 ?_
        refine x_zret rfl rfl (by decide) ?_
        exact hQ _ _ (jr_of jk_0 (by omega)) J Sm _ _ qu3 qu4 (by omega) ((congrArg Prod.fst D).symm.trans (show 0 = (0 : Int32).toInt from by have := jk_0; omega)) (congrArg Prod.snd D).symm
set_option maxRecDepth 100000 in
set_option maxHeartbeats 4000000 in
theorem ct_X2_readSum_r95_c1d_4 {Dy : jH → Prop} {h0 : jH} {Q : Option Value → jH → Prop} {dr : (Int × jW)} (hD : jDk Dy) (hQ : ∀ (v : Int32) hx9, 0 ≤ v.toInt ∧ v.toInt ≤ 1 → jJ jSgX Dy hx9 → jSm fp_X2_readSum_r95_c1d h0 hx9 → ∀ u0 u1 : Int32, jiv hx9 68 5 = u0 → jiv hx9 68 3 = u1 → (u0.toInt ≠ 3 ∨ u1.toInt ≤ 399) → dr.1 = v.toInt → dr.2 = vw hx9 → Q (some (.int v)) hx9) : ∀ r : Nat, ∀ (l2 : Int32) (l3 : Int32) (g0 : Int32) (g1 : Int32) (h : jH), 400 - l3.toInt < (r : Int) → (-1) ≤ l2.toInt ∧ l2.toInt ≤ 4 → 0 ≤ l3.toInt ∧ l3.toInt ≤ 400 → 0 ≤ g0.toInt ∧ g0.toInt ≤ 400 → 0 ≤ g1.toInt ∧ g1.toInt ≤ 3 → (g1.toInt ≠ 3 ∨ g0.toInt ≤ 399) → jiv h 68 3 = g0 → jiv h 68 5 = g1 → jJ jSgX Dy h → jSm fp_X2_readSum_r95_c1d h0 h → d_X2_readSum_r95_c1d_4 r l2.toInt l3.toInt (vw h) = dr → jX m_X2_readSum 20 0 0 4 [(0, .ref 95), (1, .int 1), (2, .int l2), (3, .int l3)] [] h 0 0 Q := by
  intro r
  induction r with
  | zero =>
    intro l2 l3 g0 g1 h hm y0 y1 y2 y3 y4 z0 z1  J Sm D
    exfalso
    omega
  | succ r ih =>
    intro l2 l3 g0 g1 h hm y0 y1 y2 y3 y4 z0 z1  J Sm D
    rw [d_X2_readSum_r95_c1d_4.eq_2] at D
    try rw [vrf z0] at D
    try rw [vrf z1] at D
    refine x_iloadn (x := l3) rfl rfl ?_
    refine x_sipush (v := 400) rfl ks_400 ?_
    refine x_icge (tgt := 169) rfl rfl (ti_ge rfl jk_400 ⟨fun c1 => ?_, fun c1 => ?_⟩)
    ·
      rw [if_pos (by omega)] at D
      refine x_aloadn (x := 95) rfl rfl ?_
      refine z_getR (N := 6) (b := 68) 2 0 rfl f_2_30 rfl J rfl 12160 ⟨rfl, rfl⟩ rfl ?_
      refine x_inv (N := m_X9_blame) (As := []) (b := 68) (st := []) (dx9 := 19) (mc := 0) (ms := 0) (host := "") 9 rfl t_X9_blame ⟨Or.inl q_2_59, i_X9_blame.1, i_X9_blame.2⟩ ⟨by decide, rfl⟩ (congrArg Prod.fst (J.1.1 68 (9, 6) rfl)) rfl (by decide) rfl rfl ⟨by decide, by decide⟩ (jC.of rfl k_X9_blame rfl ?_)
      show jX m_X9_blame 19 0 0 0 [(0, .ref 68)] [] _ 0 0 _
      refine x_aloadn (x := 68) rfl rfl ?_
      refine x_aloadn (x := 68) rfl rfl ?_
      refine z_getM (N := 6) (v := g0) 9 3 rfl f_9_22 rfl J rfl z0 ?_
      refine z_putI (N := 6) (w := g0.toInt) 9 2 rfl f_9_19 rfl (jfin_no TX9 RX9 6 rfl rfl) hD J Sm rfl rfl rfl (pw_68_2 (by omega)) rfl (fun h w2 J Sm => ?_)
      rw [vwf w2 (show g0.toInt = g0.toInt from by omega)] at D
      refine x_iconst (v := 0) rfl ki_0 ?_
      refine x_zret rfl rfl (by decide) ?_
      show jX m_X2_readSum 20 0 0 176 [(0, .ref 95), (1, .int 1), (2, .int l2), (3, .int l3)] [.int 0] _ 0 0 _
      refine x_zret rfl rfl (by decide) ?_
      exact hQ _ _ (jr_of jk_0 (by omega)) J Sm _ _ (jmo w2 rfl z1) (jmo w2 rfl z0) (by omega) ((congrArg Prod.fst D).symm.trans (show 0 = (0 : Int32).toInt from by have := jk_0; omega)) (congrArg Prod.snd D).symm
    ·
      rw [if_neg (by omega)] at D
      refine x_iconst (v := (-1)) rfl ki_m1 ?_
      refine x_istore (lsx9 := [(4, .int (-1)), (0, .ref 95), (1, .int 1), (2, .int l2), (3, .int l3)]) rfl rfl rfl ?_
      refine x_iconst (v := 0) rfl ki_0 ?_
      refine x_istore (lsx9 := [(5, .int 0), (4, .int (-1)), (0, .ref 95), (1, .int 1), (2, .int l2), (3, .int l3)]) rfl rfl rfl ?_
      exact jX.sub (jsb_c rfl (jsb_c rfl (jsb_c rfl (jsb_c rfl (jsb_c rfl (jsb_c rfl jsb_n)))))) (ct_X2_readSum_r95_c1d_17 hD hQ ih 401 l2 l3 (-1) 0 g0 g1 h (by have := jk_0; omega) (jr_of rfl (by omega)) (jr_of rfl (by omega)) (jr_of jk_m1 (by omega)) (jr_of jk_0 (by omega)) (jr_of rfl (by omega)) (jr_of rfl (by omega)) (by omega) z0 z1 (by omega) J Sm (by rw [jk_m1, jk_0]; exact D))
set_option maxRecDepth 100000 in
set_option maxHeartbeats 4000000 in
theorem sf_X2_readSum_r95_c1d {Dy : jH → Prop} {h : jH} {Q : Option Value → jH → Prop} {dr : (Int × jW)} (hD : jDk Dy) (J : jJ jSgX Dy h) {p0 p1 : Int32} (zp0 : jiv h 68 5 = p0) (zp1 : jiv h 68 3 = p1) (rl_p0 : (p0.toInt ≠ 3 ∨ p1.toInt ≤ 399)) (D : d_X2_readSum_r95_c1d (vw h) = dr) (hQ : ∀ (v : Int32) hx9, 0 ≤ v.toInt ∧ v.toInt ≤ 1 → jJ jSgX Dy hx9 → jSm fp_X2_readSum_r95_c1d h hx9 → ∀ u0 u1 : Int32, jiv hx9 68 5 = u0 → jiv hx9 68 3 = u1 → (u0.toInt ≠ 3 ∨ u1.toInt ≤ 399) → dr.1 = v.toInt → dr.2 = vw hx9 → Q (some (.int v)) hx9) : jC m_X2_readSum 20 0 0 [.ref 95, .int 1] h Q := by
  refine jC.of rfl k_X2_readSum rfl ?_
  have Sm := jSm_rf fp_X2_readSum_r95_c1d h
  have ep0 := (show 0 ≤ p0.toInt ∧ p0.toInt ≤ 3 from zp0 ▸ jrg_f J sg_68_5_6_1_0_1)
  have ep1 := (show 0 ≤ p1.toInt ∧ p1.toInt ≤ 400 from zp1 ▸ jrg_f J sg_68_3_4_1_0_1)
  show jX m_X2_readSum 20 0 0 0 [(0, .ref 95), (1, .int 1)] [] _ 0 0 _
  unfold d_X2_readSum_r95_c1d at D
  try rw [vrf zp0] at D
  try rw [vrf zp1] at D
  refine x_iconst (v := (-1)) rfl ki_m1 ?_
  refine x_istoren (lsx9 := [(2, .int (-1)), (0, .ref 95), (1, .int 1)]) rfl rfl rfl ?_
  refine x_iconst (v := 0) rfl ki_0 ?_
  refine x_istoren (lsx9 := [(3, .int 0), (2, .int (-1)), (0, .ref 95), (1, .int 1)]) rfl rfl rfl ?_
  exact jX.sub (jsb_c rfl (jsb_c rfl (jsb_c rfl (jsb_c rfl jsb_n)))) (ct_X2_readSum_r95_c1d_4 hD hQ  401 (-1) 0 p1 p0 h (by have := jk_0; omega) (jr_of jk_m1 (by omega)) (jr_of jk_0 (by omega)) (jr_of rfl (by omega)) (jr_of rfl (by omega)) (by omega) zp1 zp0 J Sm (by rw [jk_m1, jk_0]; exact D))
def fp_X2_readFactor_r95_c0d : jFp := [(68, 2, 3), (68, 3, 4), (68, 4, 5), (68, 5, 6), (95, 4, 5), (95, 5, 6), (97, 0, 1200)]
set_option maxRecDepth 100000 in
set_option maxHeartbeats 4000000 in
theorem ct_X2_readFactor_r95_c0d_111 {Dy : jH → Prop} {h0 : jH} {Q : Option Value → jH → Prop} {dr : (Int × jW)} (hD : jDk Dy) (hQ : ∀ (v : Int32) hx9, 0 ≤ v.toInt ∧ v.toInt ≤ 1 → jJ jSgX Dy hx9 → jSm fp_X2_readFactor_r95_c0d h0 hx9 → ∀ u0 u1 : Int32, jiv hx9 68 5 = u0 → jiv hx9 68 3 = u1 → (u0.toInt ≠ 3 ∨ u1.toInt ≤ 399) → dr.1 = v.toInt → dr.2 = vw hx9 → Q (some (.int v)) hx9) : ∀ (s0 : Int32) (g0 : Int32) (g1 : Int32) (h : jH), 0 ≤ s0.toInt ∧ s0.toInt ≤ 1 → 0 ≤ g0.toInt ∧ g0.toInt ≤ 400 → 0 ≤ g1.toInt ∧ g1.toInt ≤ 3 → (g1.toInt ≠ 3 ∨ g0.toInt ≤ 399) → jiv h 68 3 = g0 → jiv h 68 5 = g1 → jJ jSgX Dy h → jSm fp_X2_readFactor_r95_c0d h0 h → d_X2_readFactor_r95_c0d_111  s0.toInt (vw h) = dr → jX m_X2_readFactor 21 0 0 111 [] [.int s0] h 0 0 Q := by
  intro s0 g0 g1 h y0 y1 y2 y3 z0 z1  J Sm D
  unfold d_X2_readFactor_r95_c0d_111 at D
  try rw [vrf z0] at D
  try rw [vrf z1] at D
  refine x_zret rfl rfl (jz01 (by omega)) ?_
  exact hQ _ _ (jr_of rfl (by omega)) J Sm _ _ z1 z0 (by omega) ((congrArg Prod.fst D).symm.trans (show s0.toInt = s0.toInt from by omega)) (congrArg Prod.snd D).symm
set_option maxRecDepth 100000 in
set_option maxHeartbeats 4000000 in
theorem ct_X2_readFactor_r95_c0d_200111 {Dy : jH → Prop} {h0 : jH} {Q : Option Value → jH → Prop} {dr : (Int × jW)} (hD : jDk Dy) (hQ : ∀ (v : Int32) hx9, 0 ≤ v.toInt ∧ v.toInt ≤ 1 → jJ jSgX Dy hx9 → jSm fp_X2_readFactor_r95_c0d h0 hx9 → ∀ u0 u1 : Int32, jiv hx9 68 5 = u0 → jiv hx9 68 3 = u1 → (u0.toInt ≠ 3 ∨ u1.toInt ≤ 399) → dr.1 = v.toInt → dr.2 = vw hx9 → Q (some (.int v)) hx9) : ∀ (g0 : Int32) (g1 : Int32) (h : jH), 0 ≤ g0.toInt ∧ g0.toInt ≤ 400 → 0 ≤ g1.toInt ∧ g1.toInt ≤ 3 → (g1.toInt ≠ 3 ∨ g0.toInt ≤ 399) → jiv h 68 3 = g0 → jiv h 68 5 = g1 → jJ jSgX Dy h → jSm fp_X2_readFactor_r95_c0d h0 h → d_X2_readFactor_r95_c0d_200111  (vw h) = dr → jX m_X2_readFactor 21 0 0 111 [] [.int 0] h 0 0 Q := by
  intro g0 g1 h y0 y1 y2 z0 z1  J Sm D
  unfold d_X2_readFactor_r95_c0d_200111 at D
  try rw [vrf z0] at D
  try rw [vrf z1] at D
  refine x_zret rfl rfl (by decide) ?_
  exact hQ _ _ (jr_of jk_0 (by omega)) J Sm _ _ z1 z0 (by omega) ((congrArg Prod.fst D).symm.trans (show 0 = (0 : Int32).toInt from by have := jk_0; omega)) (congrArg Prod.snd D).symm
set_option maxRecDepth 100000 in
set_option maxHeartbeats 4000000 in
theorem ct_X2_readFactor_r95_c0d_300057 {Dy : jH → Prop} {h0 : jH} {Q : Option Value → jH → Prop} {dr : (Int × jW)} (hD : jDk Dy) (hQ : ∀ (v : Int32) hx9, 0 ≤ v.toInt ∧ v.toInt ≤ 1 → jJ jSgX Dy hx9 → jSm fp_X2_readFactor_r95_c0d h0 hx9 → ∀ u0 u1 : Int32, jiv hx9 68 5 = u0 → jiv hx9 68 3 = u1 → (u0.toInt ≠ 3 ∨ u1.toInt ≤ 399) → dr.1 = v.toInt → dr.2 = vw hx9 → Q (some (.int v)) hx9) : ∀ (g0 : Int32) (g1 : Int32) (h : jH), 0 ≤ g0.toInt ∧ g0.toInt ≤ 400 → 0 ≤ g1.toInt ∧ g1.toInt ≤ 3 → (g1.toInt ≠ 3 ∨ g0.toInt ≤ 399) → jiv h 68 3 = g0 → jiv h 68 5 = g1 → jJ jSgX Dy h → jSm fp_X2_readFactor_r95_c0d h0 h → d_X2_readFactor_r95_c0d_300057  (vw h) = dr → jX m_X2_readFactor 21 0 0 57 [] [.int 1] h 0 0 Q := by
  intro g0 g1 h y0 y1 y2 z0 z1  J Sm D
  unfold d_X2_readFactor_r95_c0d_300057 at D
  try rw [vrf z0] at D
  try rw [vrf z1] at D
  refine x_zret rfl rfl (by decide) ?_
  exact hQ _ _ (jr_of jk_1 (by omega)) J Sm _ _ z1 z0 (by omega) ((congrArg Prod.fst D).symm.trans (show 1 = (1 : Int32).toInt from by have := jk_1; omega)) (congrArg Prod.snd D).symm
set_option maxRecDepth 100000 in
set_option maxHeartbeats 4000000 in
theorem ct_X2_readFactor_r95_c0d_200057 {Dy : jH → Prop} {h0 : jH} {Q : Option Value → jH → Prop} {dr : (Int × jW)} (hD : jDk Dy) (hQ : ∀ (v : Int32) hx9, 0 ≤ v.toInt ∧ v.toInt ≤ 1 → jJ jSgX Dy hx9 → jSm fp_X2_readFactor_r95_c0d h0 hx9 → ∀ u0 u1 : Int32, jiv hx9 68 5 = u0 → jiv hx9 68 3 = u1 → (u0.toInt ≠ 3 ∨ u1.toInt ≤ 399) → dr.1 = v.toInt → dr.2 = vw hx9 → Q (some (.int v)) hx9) : ∀ (g0 : Int32) (g1 : Int32) (h : jH), 0 ≤ g0.toInt ∧ g0.toInt ≤ 400 → 0 ≤ g1.toInt ∧ g1.toInt ≤ 3 → (g1.toInt ≠ 3 ∨ g0.toInt ≤ 399) → jiv h 68 3 = g0 → jiv h 68 5 = g1 → jJ jSgX Dy h → jSm fp_X2_readFactor_r95_c0d h0 h → d_X2_readFactor_r95_c0d_200057  (vw h) = dr → jX m_X2_readFactor 21 0 0 57 [] [.int 0] h 0 0 Q := by
  intro g0 g1 h y0 y1 y2 z0 z1  J Sm D
  unfold d_X2_readFactor_r95_c0d_200057 at D
  try rw [vrf z0] at D
  try rw [vrf z1] at D
  refine x_zret rfl rfl (by decide) ?_
  exact hQ _ _ (jr_of jk_0 (by omega)) J Sm _ _ z1 z0 (by omega) ((congrArg Prod.fst D).symm.trans (show 0 = (0 : Int32).toInt from by have := jk_0; omega)) (congrArg Prod.snd D).symm
set_option maxRecDepth 100000 in
set_option maxHeartbeats 4000000 in
theorem ct_X2_readFactor_r95_c0d_56 {Dy : jH → Prop} {h0 : jH} {Q : Option Value → jH → Prop} {dr : (Int × jW)} (hD : jDk Dy) (hQ : ∀ (v : Int32) hx9, 0 ≤ v.toInt ∧ v.toInt ≤ 1 → jJ jSgX Dy hx9 → jSm fp_X2_readFactor_r95_c0d h0 hx9 → ∀ u0 u1 : Int32, jiv hx9 68 5 = u0 → jiv hx9 68 3 = u1 → (u0.toInt ≠ 3 ∨ u1.toInt ≤ 399) → dr.1 = v.toInt → dr.2 = vw hx9 → Q (some (.int v)) hx9) : ∀ (g0 : Int32) (g1 : Int32) (h : jH), 0 ≤ g0.toInt ∧ g0.toInt ≤ 400 → 0 ≤ g1.toInt ∧ g1.toInt ≤ 3 → (g1.toInt ≠ 3 ∨ g0.toInt ≤ 399) → jiv h 68 3 = g0 → jiv h 68 5 = g1 → jJ jSgX Dy h → jSm fp_X2_readFactor_r95_c0d h0 h → d_X2_readFactor_r95_c0d_56  (vw h) = dr → jX m_X2_readFactor 21 0 0 56 [] [] h 0 0 Q := by
  intro g0 g1 h y0 y1 y2 z0 z1  J Sm D
  unfold d_X2_readFactor_r95_c0d_56 at D
  try rw [vrf z0] at D
  try rw [vrf z1] at D
  refine x_iconst (v := 0) rfl ki_0 ?_
  exact jX.sub jsb_n (ct_X2_readFactor_r95_c0d_200057 hD hQ  g0 g1 h (jr_of rfl (by omega)) (jr_of rfl (by omega)) (by omega) z0 z1 J Sm D)
set_option maxRecDepth 100000 in
set_option maxHeartbeats 4000000 in
theorem sf_X2_readFactor_r95_c0d {Dy : jH → Prop} {h : jH} {Q : Option Value → jH → Prop} {dr : (Int × jW)} (hD : jDk Dy) (J : jJ jSgX Dy h) {p0 p1 : Int32} (zp0 : jiv h 68 5 = p0) (zp1 : jiv h 68 3 = p1) (rl_p0 : (p0.toInt ≠ 3 ∨ p1.toInt ≤ 399)) (D : d_X2_readFactor_r95_c0d (vw h) = dr) (hQ : ∀ (v : Int32) hx9, 0 ≤ v.toInt ∧ v.toInt ≤ 1 → jJ jSgX Dy hx9 → jSm fp_X2_readFactor_r95_c0d h hx9 → ∀ u0 u1 : Int32, jiv hx9 68 5 = u0 → jiv hx9 68 3 = u1 → (u0.toInt ≠ 3 ∨ u1.toInt ≤ 399) → dr.1 = v.toInt → dr.2 = vw hx9 → Q (some (.int v)) hx9) : jC m_X2_readFactor 21 0 0 [.ref 95, .int 0] h Q := by
  refine jC.of rfl k_X2_readFactor rfl ?_
  have Sm := jSm_rf fp_X2_readFactor_r95_c0d h
  have ep0 := (show 0 ≤ p0.toInt ∧ p0.toInt ≤ 3 from zp0 ▸ jrg_f J sg_68_5_6_1_0_1)
  have ep1 := (show 0 ≤ p1.toInt ∧ p1.toInt ≤ 400 from zp1 ▸ jrg_f J sg_68_3_4_1_0_1)
  show jX m_X2_readFactor 21 0 0 0 [(0, .ref 95), (1, .int 0)] [] _ 0 0 _
  unfold d_X2_readFactor_r95_c0d at D
  try rw [vrf zp0] at D
  try rw [vrf zp1] at D
  refine x_aloadn (x := 95) rfl rfl ?_
  refine z_getR (N := 6) (b := 68) 2 0 rfl f_2_30 rfl J rfl 12160 ⟨rfl, rfl⟩ rfl ?_
  refine x_bipush (v := 91) rfl kb_91 ?_
  refine x_inv (N := m_X9_isSign) (As := [.int 91]) (b := 68) (st := []) (dx9 := 1) (mc := 0) (ms := 0) (host := "") 9 rfl t_X9_isSign ⟨Or.inl q_2_55, i_X9_isSign.1, i_X9_isSign.2⟩ ⟨by decide, rfl⟩ (congrArg Prod.fst (J.1.1 68 (9, 6) rfl)) rfl (by decide) rfl rfl ⟨by decide, by decide⟩ (sf_X9_isSign_r68d (jr_of jk_91 (by omega)) hD J zp0 zp1 (by omega) rfl  (fun v6 h ev6 J S1 u2 u3 qu2 qu3 ru2 X4 X5 => ?_))
  have Sm := jSm_tr rfl Sm S1
  try rw [jk_91] at X4
  try rw [X4] at D
  try rw [← X5] at D
  have eu2 := (show 0 ≤ u2.toInt ∧ u2.toInt ≤ 3 from qu2 ▸ jrg_f J sg_68_5_6_1_0_1)
  have Luu2 := congrArg Int32.toInt (((jmc S1 rfl zp0)).symm.trans qu2)
  try rw [Luu2] at D
  try rw [vrf qu2] at D
  have eu3 := (show 0 ≤ u3.toInt ∧ u3.toInt ≤ 400 from qu3 ▸ jrg_f J sg_68_3_4_1_0_1)
  have Luu3 := congrArg Int32.toInt (((jmc S1 rfl zp1)).symm.trans qu3)
  try rw [Luu3] at D
  try rw [vrf qu3] at D
  show jX m_X2_readFactor 21 0 0 9 [(0, .ref 95), (1, .int 0)] [.int v6] _ 0 0 _
  refine x_ifeq (tgt := 58) rfl rfl (ti_eq rfl jk_0 ⟨fun c7 => ?_, fun c7 => ?_⟩)
  ·
    rw [if_pos (by omega)] at D
    refine x_aloadn (x := 95) rfl rfl ?_
    refine z_getR (N := 6) (b := 68) 2 0 rfl f_2_30 rfl J rfl 12160 ⟨rfl, rfl⟩ rfl ?_
    refine x_ldc (v := 100000) rfl z_2_147 ?_
    refine x_inv (N := m_X9_numberTo) (As := [.int 100000]) (b := 68) (st := []) (dx9 := 1) (mc := 0) (ms := 0) (host := "") 9 rfl t_X9_numberTo ⟨Or.inl q_2_117, i_X9_numberTo.1, i_X9_numberTo.2⟩ ⟨by decide, rfl⟩ (congrArg Prod.fst (J.1.1 68 (9, 6) rfl)) rfl (by decide) rfl rfl ⟨by decide, by decide⟩ (sf_X9_numberTo_r68d (jr_of jk_100000 (by omega)) hD J rfl  (fun v11 h ev11 J S8 X9 X10 => ?_))
    have Sm := jSm_tr rfl Sm S8
    try rw [jk_100000] at X9
    try rw [X9] at D
    try rw [← X10] at D
    show jX m_X2_readFactor 21 0 0 67 [(0, .ref 95), (1, .int 0)] [.int v11] _ 0 0 _
    refine x_istoren (lsx9 := [(2, .int v11), (0, .ref 95), (1, .int 0)]) rfl rfl rfl ?_
    refine x_iloadn (x := v11) rfl rfl ?_
    refine x_iconst (v := (-1)) rfl ki_m1 ?_
    refine x_iceq (tgt := 80) rfl rfl (ti_eq rfl jk_m1 ⟨fun c12 => ?_, fun c12 => ?_⟩)
    ·
      rw [if_pos (by omega)] at D
      refine x_aloadn (x := 95) rfl rfl ?_
      refine z_getR (N := 6) (b := 68) 2 0 rfl f_2_30 rfl J rfl 12160 ⟨rfl, rfl⟩ rfl ?_
      refine x_ldcS (jstr.getD 6 jstr_0) rfl (List.mem_of_getElem? (i := 6) rfl) rfl rfl ?_
      show jX m_X2_readFactor 21 0 0 86 [(2, .int v11), (0, .ref 95), (1, .int 0)] [.ref 11, .ref 68] _ 0 0 _
      refine x_inv (N := m_X9_wordOf) (As := [.ref 11]) (b := 68) (st := []) (dx9 := 4) (mc := 0) (ms := 0) (host := "") 9 rfl t_X9_wordOf ⟨Or.inl q_2_67, i_X9_wordOf.1, i_X9_wordOf.2⟩ ⟨by decide, rfl⟩ (congrArg Prod.fst (J.1.1 68 (9, 6) rfl)) rfl (by decide) rfl rfl ⟨by decide, by decide⟩ (sf_X9_wordOf_r68_r11d  hD J rfl  (fun v16 h J S13 X14 X15 => ?_))
      have ev16 := jfull v16
      have Sm := jSm_tr rfl Sm S13
      try rw [X14] at D
      try rw [← X15] at D
      show jX m_X2_readFactor 21 0 0 89 [(2, .int v11), (0, .ref 95), (1, .int 0)] [.int v16] _ 0 0 _
      refine x_istoren (lsx9 := [(3, .int v16), (2, .int v11), (0, .ref 95), (1, .int 0)]) rfl rfl rfl ?_
      refine x_iloadn (x := v16) rfl rfl ?_
      refine x_iconst (v := (-1)) rfl ki_m1 ?_
      refine x_icne (tgt := 105) rfl rfl (ti_ne rfl jk_m1 ⟨fun c17 => ?_, fun c17 => ?_⟩)
      ·
        rw [if_neg (by omega)] at D
        refine x_aloadn (x := 95) rfl rfl ?_
        refine x_iconst (v := 2) rfl ki_2 ?_
        refine x_iloadn (x := v16) rfl rfl ?_
        refine x_inv (N := m_X2_readPart) (As := [.int 2, .int v16]) (b := 95) (st := []) (dx9 := 3) (mc := 0) (ms := 0) (host := "") 2 rfl t_X2_readPart ⟨Or.inl q_2_141, i_X2_readPart.1, i_X2_readPart.2⟩ ⟨by decide, rfl⟩ (congrArg Prod.fst (J.1.1 95 (2, 6) rfl)) rfl (by decide) rfl rfl ⟨by decide, by decide⟩ (sf_X2_readPart_r95d (jr_of jk_2 (by omega)) hD J (jmc S13 rfl (jmc S8 rfl qu2)) (jmc S13 rfl (jmc S8 rfl qu3)) (by omega) rfl  (fun v23 h ev23 J S18 u19 u20 qu19 qu20 ru19 X21 X22 => ?_))
        have Sm := jSm_tr rfl Sm S18
        try rw [jk_2] at X21
        try rw [jk_2] at X22
        try rw [X21] at D
        try rw [X22] at D
        have eu19 := (show 0 ≤ u19.toInt ∧ u19.toInt ≤ 3 from qu19 ▸ jrg_f J sg_68_5_6_1_0_1)
        try rw [vrf qu19] at D
        have eu20 := (show 0 ≤ u20.toInt ∧ u20.toInt ≤ 400 from qu20 ▸ jrg_f J sg_68_3_4_1_0_1)
        try rw [vrf qu20] at D
        show jX m_X2_readFactor 21 0 0 111 [(3, .int v16), (2, .int v11), (0, .ref 95), (1, .int 0)] [.int v23] _ 0 0 _
        exact jX.sub jsb_n (ct_X2_readFactor_r95_c0d_111 hD hQ  v23 u20 u19 h (jr_of rfl (by omega)) (jr_of rfl (by omega)) (jr_of rfl (by omega)) (by omega) qu20 qu19 J Sm D)
      ·
        rw [if_pos (by omega)] at D
        refine x_aloadn (x := 95) rfl rfl ?_
        refine z_getR (N := 6) (b := 68) 2 0 rfl f_2_30 rfl J rfl 12160 ⟨rfl, rfl⟩ rfl ?_
        refine x_inv (N := m_X9_blame) (As := []) (b := 68) (st := []) (dx9 := 20) (mc := 0) (ms := 0) (host := "") 9 rfl t_X9_blame ⟨Or.inl q_2_59, i_X9_blame.1, i_X9_blame.2⟩ ⟨by decide, rfl⟩ (congrArg Prod.fst (J.1.1 68 (9, 6) rfl)) rfl (by decide) rfl rfl ⟨by decide, by decide⟩ (jC.of rfl k_X9_blame rfl ?_)
        show jX m_X9_blame 20 0 0 0 [(0, .ref 68)] [] _ 0 0 _
        refine x_aloadn (x := 68) rfl rfl ?_
        refine x_aloadn (x := 68) rfl rfl ?_
        refine z_getM (N := 6) (v := u3) 9 3 rfl f_9_22 rfl J rfl (jmc S13 rfl (jmc S8 rfl qu3)) ?_
        refine z_putI (N := 6) (w := u3.toInt) 9 2 rfl f_9_19 rfl (jfin_no TX9 RX9 6 rfl rfl) hD J Sm rfl rfl rfl (pw_68_2 (by omega)) rfl (fun h w24 J Sm => ?_)
        rw [vwf w24 (show u3.toInt = u3.toInt from by omega)] at D
        refine x_iconst (v := 0) rfl ki_0 ?_
        refine x_zret rfl rfl (by decide) ?_
        show jX m_X2_readFactor 21 0 0 102 [(3, .int v16), (2, .int v11), (0, .ref 95), (1, .int 0)] [.int 0] _ 0 0 _
        refine x_goto (tgt := 111) rfl rfl ?_
        exact jX.sub jsb_n (ct_X2_readFactor_r95_c0d_200111 hD hQ  u3 u2 h (jr_of rfl (by omega)) (jr_of rfl (by omega)) (by omega) (jmo w24 rfl (jmc S13 rfl (jmc S8 rfl qu3))) (jmo w24 rfl (jmc S13 rfl (jmc S8 rfl qu2))) J Sm D)
    ·
      rw [if_neg (by omega)] at D
      refine x_aloadn (x := 95) rfl rfl ?_
      refine x_iconst (v := 1) rfl ki_1 ?_
      refine x_iloadn (x := v11) rfl rfl ?_
      refine x_inv (N := m_X2_readPart) (As := [.int 1, .int v11]) (b := 95) (st := []) (dx9 := 3) (mc := 0) (ms := 0) (host := "") 2 rfl t_X2_readPart ⟨Or.inl q_2_141, i_X2_readPart.1, i_X2_readPart.2⟩ ⟨by decide, rfl⟩ (congrArg Prod.fst (J.1.1 95 (2, 6) rfl)) rfl (by decide) rfl rfl ⟨by decide, by decide⟩ (sf_X2_readPart_r95d (jr_of jk_1 (by omega)) hD J (jmc S8 rfl qu2) (jmc S8 rfl qu3) (by omega) rfl  (fun v30 h ev30 J S25 u26 u27 qu26 qu27 ru26 X28 X29 => ?_))
      have Sm := jSm_tr rfl Sm S25
      try rw [jk_1] at X28
      try rw [jk_1] at X29
      try rw [X28] at D
      try rw [X29] at D
      have eu26 := (show 0 ≤ u26.toInt ∧ u26.toInt ≤ 3 from qu26 ▸ jrg_f J sg_68_5_6_1_0_1)
      try rw [vrf qu26] at D
      have eu27 := (show 0 ≤ u27.toInt ∧ u27.toInt ≤ 400 from qu27 ▸ jrg_f J sg_68_3_4_1_0_1)
      try rw [vrf qu27] at D
      show jX m_X2_readFactor 21 0 0 79 [(2, .int v11), (0, .ref 95), (1, .int 0)] [.int v30] _ 0 0 _
      refine x_zret rfl rfl (jz01 (by omega)) ?_
      exact hQ _ _ (jr_of rfl (by omega)) J Sm _ _ qu26 qu27 (by omega) ((congrArg Prod.fst D).symm.trans X28) ((congrArg Prod.snd D).symm.trans X29)
  ·
    rw [if_neg (by omega)] at D
    refine x_iloadn (x := 0) rfl rfl ?_
    refine x_bipush (v := 8) rfl kb_8 ?_
    refine x_iclt (tgt := 26) rfl rfl (ti_lt jk_0 jk_8 (br_t (by omega) ?_))
    refine x_aloadn (x := 95) rfl rfl ?_
    refine z_getR (N := 6) (b := 68) 2 0 rfl f_2_30 rfl J rfl 12160 ⟨rfl, rfl⟩ rfl ?_
    refine x_inv (N := m_X9_step) (As := []) (b := 68) (st := []) (dx9 := 2) (mc := 0) (ms := 0) (host := "") 9 rfl t_X9_step ⟨Or.inl q_2_62, i_X9_step.1, i_X9_step.2⟩ ⟨by decide, rfl⟩ (congrArg Prod.fst (J.1.1 68 (9, 6) rfl)) rfl (by decide) rfl rfl ⟨by decide, by decide⟩ (sf_X9_step_r68d  hD J qu2 qu3 (by omega) rfl  (fun h J S31 u32 u33 qu32 qu33 ru32 X34 => ?_))
    have Sm := jSm_tr rfl Sm S31
    rw [X34] at D
    have eu32 := (show 0 ≤ u32.toInt ∧ u32.toInt ≤ 3 from qu32 ▸ jrg_f J sg_68_5_6_1_0_1)
    try rw [vrf qu32] at D
    have eu33 := (show 0 ≤ u33.toInt ∧ u33.toInt ≤ 400 from qu33 ▸ jrg_f J sg_68_3_4_1_0_1)
    try rw [vrf qu33] at D
    show jX m_X2_readFactor 21 0 0 33 [(0, .ref 95), (1, .int 0)] [] _ 0 0 _
    refine x_aloadn (x := 95) rfl rfl ?_
    refine x_iloadn (x := 0) rfl rfl ?_
    refine x_iconst (v := 1) rfl ki_1 ?_
    refine y_iadd (v := 1) rfl (by decide) ?_
    refine x_inv (N := m_X2_readSum) (As := [.int 1]) (b := 95) (st := []) (dx9 := 20) (mc := 0) (ms := 0) (host := "") 2 rfl t_X2_readSum ⟨Or.inl q_2_86, i_X2_readSum.1, i_X2_readSum.2⟩ ⟨by decide, rfl⟩ (congrArg Prod.fst (J.1.1 95 (2, 6) rfl)) rfl (by decide) rfl rfl ⟨by decide, by decide⟩ (sf_X2_readSum_r95_c1d  hD J qu32 qu33 (by omega) rfl  (fun v40 h ev40 J S35 u36 u37 qu36 qu37 ru36 X38 X39 => ?_))
    have Sm := jSm_tr rfl Sm S35
    try rw [X38] at D
    try rw [X39] at D
    have eu36 := (show 0 ≤ u36.toInt ∧ u36.toInt ≤ 3 from qu36 ▸ jrg_f J sg_68_5_6_1_0_1)
    try rw [vrf qu36] at D
    have eu37 := (show 0 ≤ u37.toInt ∧ u37.toInt ≤ 400 from qu37 ▸ jrg_f J sg_68_3_4_1_0_1)
    try rw [vrf qu37] at D
    show jX m_X2_readFactor 21 0 0 40 [(0, .ref 95), (1, .int 0)] [.int v40] _ 0 0 _
    refine x_ifeq (tgt := 56) rfl rfl (ti_eq rfl jk_0 ⟨fun c41 => ?_, fun c41 => ?_⟩)
    ·
      rw [if_pos (by omega)] at D
      exact jX.sub jsb_n (ct_X2_readFactor_r95_c0d_56 hD hQ  u37 u36 h (jr_of rfl (by omega)) (jr_of rfl (by omega)) (by omega) qu37 qu36 J Sm D)
    ·
      rw [if_neg (by omega)] at D
      refine x_aloadn (x := 95) rfl rfl ?_
      refine x_bipush (v := 93) rfl kb_93 ?_
      refine x_inv (N := m_X2_readSign) (As := [.int 93]) (b := 95) (st := []) (dx9 := 20) (mc := 0) (ms := 0) (host := "") 2 rfl t_X2_readSign ⟨Or.inl q_2_138, i_X2_readSign.1, i_X2_readSign.2⟩ ⟨by decide, rfl⟩ (congrArg Prod.fst (J.1.1 95 (2, 6) rfl)) rfl (by decide) rfl rfl ⟨by decide, by decide⟩ (jC.of rfl k_X2_readSign rfl ?_)
      show jX m_X2_readSign 20 0 0 0 [(0, .ref 95), (1, .int 93)] [] _ 0 0 _
      refine x_aloadn (x := 95) rfl rfl ?_
      refine z_getR (N := 6) (b := 68) 2 0 rfl f_2_30 rfl J rfl 12160 ⟨rfl, rfl⟩ rfl ?_
      refine x_iloadn (x := 93) rfl rfl ?_
      refine x_inv (N := m_X9_isSign) (As := [.int 93]) (b := 68) (st := []) (dx9 := 1) (mc := 0) (ms := 0) (host := "") 9 rfl t_X9_isSign ⟨Or.inl q_2_55, i_X9_isSign.1, i_X9_isSign.2⟩ ⟨by decide, rfl⟩ (congrArg Prod.fst (J.1.1 68 (9, 6) rfl)) rfl (by decide) rfl rfl ⟨by decide, by decide⟩ (sf_X9_isSign_r68d (jr_of jk_93 (by omega)) hD J qu36 qu37 (by omega) rfl  (fun v47 h ev47 J S42 u43 u44 qu43 qu44 ru43 X45 X46 => ?_))
      have Sm := jSm_tr rfl Sm S42
      try rw [jk_93] at X45
      try rw [X45] at D
      try rw [← X46] at D
      have eu43 := (show 0 ≤ u43.toInt ∧ u43.toInt ≤ 3 from qu43 ▸ jrg_f J sg_68_5_6_1_0_1)
      have Luu43 := congrArg Int32.toInt (((jmc S42 rfl qu36)).symm.trans qu43)
      try rw [Luu43] at D
      try rw [vrf qu43] at D
      have eu44 := (show 0 ≤ u44.toInt ∧ u44.toInt ≤ 400 from qu44 ▸ jrg_f J sg_68_3_4_1_0_1)
      have Luu44 := congrArg Int32.toInt (((jmc S42 rfl qu37)).symm.trans qu44)
      try rw [Luu44] at D
      try rw [vrf qu44] at D
      show jX m_X2_readSign 20 0 0 8 [(0, .ref 95), (1, .int 93)] [.int v47] _ 0 0 _
      refine x_ifne (tgt := 19) rfl rfl (ti_ne rfl jk_0 ⟨fun c48 => ?_, fun c48 => ?_⟩)
      ·
        rw [if_neg (by omega)] at D
        refine x_aloadn (x := 95) rfl rfl ?_
        refine z_getR (N := 6) (b := 68) 2 0 rfl f_2_30 rfl J rfl 12160 ⟨rfl, rfl⟩ rfl ?_
        refine x_inv (N := m_X9_step) (As := []) (b := 68) (st := []) (dx9 := 2) (mc := 0) (ms := 0) (host := "") 9 rfl t_X9_step ⟨Or.inl q_2_62, i_X9_step.1, i_X9_step.2⟩ ⟨by decide, rfl⟩ (congrArg Prod.fst (J.1.1 68 (9, 6) rfl)) rfl (by decide) rfl rfl ⟨by decide, by decide⟩ (sf_X9_step_r68d  hD J qu43 qu44 (by omega) rfl  (fun h J S49 u50 u51 qu50 qu51 ru50 X52 => ?_))
        have Sm := jSm_tr rfl Sm S49
        rw [X52] at D
        have eu50 := (show 0 ≤ u50.toInt ∧ u50.toInt ≤ 3 from qu50 ▸ jrg_f J sg_68_5_6_1_0_1)
        try rw [vrf qu50] at D
        have eu51 := (show 0 ≤ u51.toInt ∧ u51.toInt ≤ 400 from qu51 ▸ jrg_f J sg_68_3_4_1_0_1)
        try rw [vrf qu51] at D
        show jX m_X2_readSign 20 0 0 26 [(0, .ref 95), (1, .int 93)] [] _ 0 0 _
        refine x_iconst (v := 1) rfl ki_1 ?_
        refine x_zret rfl rfl (by decide) ?_
        show jX m_X2_readFactor 21 0 0 49 [(0, .ref 95), (1, .int 0)] [.int 1] _ 0 0 _
        refine x_ifeq (tgt := 56) rfl rfl (ti_eq jk_1 jk_0 (br_f (by omega) ?_))
        refine x_iconst (v := 1) rfl ki_1 ?_
        refine x_goto (tgt := 57) rfl rfl ?_
        exact jX.sub jsb_n (ct_X2_readFactor_r95_c0d_300057 hD hQ  u51 u50 h (jr_of rfl (by omega)) (jr_of rfl (by omega)) (by omega) qu51 qu50 J Sm D)
      ·
        rw [if_pos (by omega)] at D
        refine x_aloadn (x := 95) rfl rfl ?_
        refine z_getR (N := 6) (b := 68) 2 0 rfl f_2_30 rfl J rfl 12160 ⟨rfl, rfl⟩ rfl ?_
        refine x_inv (N := m_X9_blame) (As := []) (b := 68) (st := []) (dx9 := 19) (mc := 0) (ms := 0) (host := "") 9 rfl t_X9_blame ⟨Or.inl q_2_59, i_X9_blame.1, i_X9_blame.2⟩ ⟨by decide, rfl⟩ (congrArg Prod.fst (J.1.1 68 (9, 6) rfl)) rfl (by decide) rfl rfl ⟨by decide, by decide⟩ (jC.of rfl k_X9_blame rfl ?_)
        show jX m_X9_blame 19 0 0 0 [(0, .ref 68)] [] _ 0 0 _
        refine x_aloadn (x := 68) rfl rfl ?_
        refine x_aloadn (x := 68) rfl rfl ?_
        refine z_getM (N := 6) (v := u44) 9 3 rfl f_9_22 rfl J rfl qu44 ?_
        refine z_putI (N := 6) (w := u44.toInt) 9 2 rfl f_9_19 rfl (jfin_no TX9 RX9 6 rfl rfl) hD J Sm rfl rfl rfl (pw_68_2 (by omega)) rfl (fun h w53 J Sm => ?_)
        rw [vwf w53 (show u44.toInt = u44.toInt from by omega)] at D
        refine x_iconst (v := 0) rfl ki_0 ?_
        refine x_zret rfl rfl (by decide) ?_
        show jX m_X2_readSign 20 0 0 18 [(0, .ref 95), (1, .int 93)] [.int 0] _ 0 0 _
        refine x_zret rfl rfl (by decide) ?_
        show jX m_X2_readFactor 21 0 0 49 [(0, .ref 95), (1, .int 0)] [.int 0] _ 0 0 _
        refine x_ifeq (tgt := 56) rfl rfl (ti_eq jk_0 jk_0 (br_t (by omega) ?_))
        exact jX.sub jsb_n (ct_X2_readFactor_r95_c0d_56 hD hQ  u44 u43 h (jr_of rfl (by omega)) (jr_of rfl (by omega)) (by omega) (jmo w53 rfl qu44) (jmo w53 rfl qu43) J Sm D)
def fp_X2_readSum_r95_c0d : jFp := [(68, 2, 3), (68, 3, 4), (68, 4, 5), (68, 5, 6), (95, 4, 5), (95, 5, 6), (97, 0, 1200)]
set_option maxRecDepth 100000 in
set_option maxHeartbeats 4000000 in
theorem ct_X2_readSum_r95_c0d_100148 {Dy : jH → Prop} {h0 : jH} {Q : Option Value → jH → Prop} {dr : (Int × jW)} {K4 : Int → Int → jW → (Int × jW)} {R4 : Int} (hD : jDk Dy) (hQ : ∀ (v : Int32) hx9, 0 ≤ v.toInt ∧ v.toInt ≤ 1 → jJ jSgX Dy hx9 → jSm fp_X2_readSum_r95_c0d h0 hx9 → ∀ u0 u1 : Int32, jiv hx9 68 5 = u0 → jiv hx9 68 3 = u1 → (u0.toInt ≠ 3 ∨ u1.toInt ≤ 399) → dr.1 = v.toInt → dr.2 = vw hx9 → Q (some (.int v)) hx9) (k4 : ∀ (l2 : Int32) (l3 : Int32) (g0 : Int32) (g1 : Int32) (h : jH), 400 - l3.toInt < R4 → (-1) ≤ l2.toInt ∧ l2.toInt ≤ 4 → 0 ≤ l3.toInt ∧ l3.toInt ≤ 400 → 0 ≤ g0.toInt ∧ g0.toInt ≤ 400 → 0 ≤ g1.toInt ∧ g1.toInt ≤ 3 → (g1.toInt ≠ 3 ∨ g0.toInt ≤ 399) → jiv h 68 3 = g0 → jiv h 68 5 = g1 → jJ jSgX Dy h → jSm fp_X2_readSum_r95_c0d h0 h → K4 l2.toInt l3.toInt (vw h) = dr → jX m_X2_readSum 22 0 0 4 [(0, .ref 95), (1, .int 0), (2, .int l2), (3, .int l3)] [] h 0 0 Q) : ∀ (l3 : Int32) (g0 : Int32) (g1 : Int32) (h : jH), 0 ≤ l3.toInt ∧ l3.toInt ≤ 399 → 0 ≤ g0.toInt ∧ g0.toInt ≤ 400 → 0 ≤ g1.toInt ∧ g1.toInt ≤ 3 → (g1.toInt ≠ 3 ∨ g0.toInt ≤ 399) → jiv h 68 3 = g0 → jiv h 68 5 = g1 → 400 - l3.toInt ≤ R4 → jJ jSgX Dy h → jSm fp_X2_readSum_r95_c0d h0 h → d_X2_readSum_r95_c0d_100148 K4  l3.toInt (vw h) = dr → jX m_X2_readSum 22 0 0 148 [(0, .ref 95), (1, .int 0), (3, .int l3)] [.int (-1)] h 0 0 Q := by
  intro l3 g0 g1 h y0 y1 y2 y3 z0 z1 m4 J Sm D
  unfold d_X2_readSum_r95_c0d_100148 at D
  try rw [vrf z0] at D
  try rw [vrf z1] at D
  refine x_istoren (lsx9 := [(2, .int (-1)), (0, .ref 95), (1, .int 0), (3, .int l3)]) rfl rfl rfl ?_
  refine x_iloadn (x := (-1)) rfl rfl ?_
  refine x_iconst (v := (-1)) rfl ki_m1 ?_
  refine x_icne (tgt := 156) rfl rfl (ti_ne jk_m1 jk_m1 (bn_f (by omega) ?_))
  refine x_iconst (v := 1) rfl ki_1 ?_
  refine x_zret rfl rfl (by decide) ?_
  exact hQ _ _ (jr_of jk_1 (by omega)) J Sm _ _ z1 z0 (by omega) ((congrArg Prod.fst D).symm.trans (show 1 = (1 : Int32).toInt from by have := jk_1; omega)) (congrArg Prod.snd D).symm
set_option maxRecDepth 100000 in
set_option maxHeartbeats 4000000 in
theorem ct_X2_readSum_r95_c0d_600148 {Dy : jH → Prop} {h0 : jH} {Q : Option Value → jH → Prop} {dr : (Int × jW)} {K4 : Int → Int → jW → (Int × jW)} {R4 : Int} (hD : jDk Dy) (hQ : ∀ (v : Int32) hx9, 0 ≤ v.toInt ∧ v.toInt ≤ 1 → jJ jSgX Dy hx9 → jSm fp_X2_readSum_r95_c0d h0 hx9 → ∀ u0 u1 : Int32, jiv hx9 68 5 = u0 → jiv hx9 68 3 = u1 → (u0.toInt ≠ 3 ∨ u1.toInt ≤ 399) → dr.1 = v.toInt → dr.2 = vw hx9 → Q (some (.int v)) hx9) (k4 : ∀ (l2 : Int32) (l3 : Int32) (g0 : Int32) (g1 : Int32) (h : jH), 400 - l3.toInt < R4 → (-1) ≤ l2.toInt ∧ l2.toInt ≤ 4 → 0 ≤ l3.toInt ∧ l3.toInt ≤ 400 → 0 ≤ g0.toInt ∧ g0.toInt ≤ 400 → 0 ≤ g1.toInt ∧ g1.toInt ≤ 3 → (g1.toInt ≠ 3 ∨ g0.toInt ≤ 399) → jiv h 68 3 = g0 → jiv h 68 5 = g1 → jJ jSgX Dy h → jSm fp_X2_readSum_r95_c0d h0 h → K4 l2.toInt l3.toInt (vw h) = dr → jX m_X2_readSum 22 0 0 4 [(0, .ref 95), (1, .int 0), (2, .int l2), (3, .int l3)] [] h 0 0 Q) : ∀ (l3 : Int32) (g0 : Int32) (g1 : Int32) (h : jH), 0 ≤ l3.toInt ∧ l3.toInt ≤ 399 → 0 ≤ g0.toInt ∧ g0.toInt ≤ 400 → 0 ≤ g1.toInt ∧ g1.toInt ≤ 3 → (g1.toInt ≠ 3 ∨ g0.toInt ≤ 399) → jiv h 68 3 = g0 → jiv h 68 5 = g1 → 400 - l3.toInt ≤ R4 → jJ jSgX Dy h → jSm fp_X2_readSum_r95_c0d h0 h → d_X2_readSum_r95_c0d_600148 K4  l3.toInt (vw h) = dr → jX m_X2_readSum 22 0 0 148 [(0, .ref 95), (1, .int 0), (3, .int l3)] [.int 4] h 0 0 Q := by
  intro l3 g0 g1 h y0 y1 y2 y3 z0 z1 m4 J Sm D
  unfold d_X2_readSum_r95_c0d_600148 at D
  try rw [vrf z0] at D
  try rw [vrf z1] at D
  refine x_istoren (lsx9 := [(2, .int 4), (0, .ref 95), (1, .int 0), (3, .int l3)]) rfl rfl rfl ?_
  refine x_iloadn (x := 4) rfl rfl ?_
  refine x_iconst (v := (-1)) rfl ki_m1 ?_
  refine x_icne (tgt := 156) rfl rfl (ti_ne jk_4 jk_m1 (bn_t (by omega) ?_))
  refine x_aloadn (x := 95) rfl rfl ?_
  refine z_getR (N := 6) (b := 68) 2 0 rfl f_2_30 rfl J rfl 12160 ⟨rfl, rfl⟩ rfl ?_
  refine x_inv (N := m_X9_step) (As := []) (b := 68) (st := []) (dx9 := 2) (mc := 0) (ms := 0) (host := "") 9 rfl t_X9_step ⟨Or.inl q_2_62, i_X9_step.1, i_X9_step.2⟩ ⟨by decide, rfl⟩ (congrArg Prod.fst (J.1.1 68 (9, 6) rfl)) rfl (by decide) rfl rfl ⟨by decide, by decide⟩ (sf_X9_step_r68d  hD J z1 z0 (by omega) rfl  (fun h J S1 u2 u3 qu2 qu3 ru2 X4 => ?_))
  have Sm := jSm_tr rfl Sm S1
  rw [X4] at D
  have eu2 := (show 0 ≤ u2.toInt ∧ u2.toInt ≤ 3 from qu2 ▸ jrg_f J sg_68_5_6_1_0_1)
  try rw [vrf qu2] at D
  have eu3 := (show 0 ≤ u3.toInt ∧ u3.toInt ≤ 400 from qu3 ▸ jrg_f J sg_68_3_4_1_0_1)
  try rw [vrf qu3] at D
  show jX m_X2_readSum 22 0 0 163 [(2, .int 4), (0, .ref 95), (1, .int 0), (3, .int l3)] [] _ 0 0 _
  refine z_iinc (x := l3) (lsx9 := fun v5 => [(3, .int v5), (2, .int 4), (0, .ref 95), (1, .int 0)]) rfl rfl rfl jko_1 (by omega) rfl (fun _ => rfl) (fun v5 ev5 => ?_)
  refine x_goto (tgt := 4) rfl rfl ?_
  try rw [show (l3.toInt + 1) = v5.toInt from by omega] at D
  exact jX.sub (jsb_c rfl (jsb_c rfl (jsb_c rfl (jsb_c rfl jsb_n)))) (k4 4 v5 u3 u2 h (by omega) (jr_of jk_4 (by omega)) (jr_of rfl (by omega)) (jr_of rfl (by omega)) (jr_of rfl (by omega)) (by omega) qu3 qu2 J Sm (by rw [jk_4]; exact D))
set_option maxRecDepth 100000 in
set_option maxHeartbeats 4000000 in
theorem ct_X2_readSum_r95_c0d_500148 {Dy : jH → Prop} {h0 : jH} {Q : Option Value → jH → Prop} {dr : (Int × jW)} {K4 : Int → Int → jW → (Int × jW)} {R4 : Int} (hD : jDk Dy) (hQ : ∀ (v : Int32) hx9, 0 ≤ v.toInt ∧ v.toInt ≤ 1 → jJ jSgX Dy hx9 → jSm fp_X2_readSum_r95_c0d h0 hx9 → ∀ u0 u1 : Int32, jiv hx9 68 5 = u0 → jiv hx9 68 3 = u1 → (u0.toInt ≠ 3 ∨ u1.toInt ≤ 399) → dr.1 = v.toInt → dr.2 = vw hx9 → Q (some (.int v)) hx9) (k4 : ∀ (l2 : Int32) (l3 : Int32) (g0 : Int32) (g1 : Int32) (h : jH), 400 - l3.toInt < R4 → (-1) ≤ l2.toInt ∧ l2.toInt ≤ 4 → 0 ≤ l3.toInt ∧ l3.toInt ≤ 400 → 0 ≤ g0.toInt ∧ g0.toInt ≤ 400 → 0 ≤ g1.toInt ∧ g1.toInt ≤ 3 → (g1.toInt ≠ 3 ∨ g0.toInt ≤ 399) → jiv h 68 3 = g0 → jiv h 68 5 = g1 → jJ jSgX Dy h → jSm fp_X2_readSum_r95_c0d h0 h → K4 l2.toInt l3.toInt (vw h) = dr → jX m_X2_readSum 22 0 0 4 [(0, .ref 95), (1, .int 0), (2, .int l2), (3, .int l3)] [] h 0 0 Q) : ∀ (l3 : Int32) (g0 : Int32) (g1 : Int32) (h : jH), 0 ≤ l3.toInt ∧ l3.toInt ≤ 399 → 0 ≤ g0.toInt ∧ g0.toInt ≤ 400 → 0 ≤ g1.toInt ∧ g1.toInt ≤ 3 → (g1.toInt ≠ 3 ∨ g0.toInt ≤ 399) → jiv h 68 3 = g0 → jiv h 68 5 = g1 → 400 - l3.toInt ≤ R4 → jJ jSgX Dy h → jSm fp_X2_readSum_r95_c0d h0 h → d_X2_readSum_r95_c0d_500148 K4  l3.toInt (vw h) = dr → jX m_X2_readSum 22 0 0 148 [(0, .ref 95), (1, .int 0), (3, .int l3)] [.int 3] h 0 0 Q := by
  intro l3 g0 g1 h y0 y1 y2 y3 z0 z1 m4 J Sm D
  unfold d_X2_readSum_r95_c0d_500148 at D
  try rw [vrf z0] at D
  try rw [vrf z1] at D
  refine x_istoren (lsx9 := [(2, .int 3), (0, .ref 95), (1, .int 0), (3, .int l3)]) rfl rfl rfl ?_
  refine x_iloadn (x := 3) rfl rfl ?_
  refine x_iconst (v := (-1)) rfl ki_m1 ?_
  refine x_icne (tgt := 156) rfl rfl (ti_ne jk_3 jk_m1 (bn_t (by omega) ?_))
  refine x_aloadn (x := 95) rfl rfl ?_
  refine z_getR (N := 6) (b := 68) 2 0 rfl f_2_30 rfl J rfl 12160 ⟨rfl, rfl⟩ rfl ?_
  refine x_inv (N := m_X9_step) (As := []) (b := 68) (st := []) (dx9 := 2) (mc := 0) (ms := 0) (host := "") 9 rfl t_X9_step ⟨Or.inl q_2_62, i_X9_step.1, i_X9_step.2⟩ ⟨by decide, rfl⟩ (congrArg Prod.fst (J.1.1 68 (9, 6) rfl)) rfl (by decide) rfl rfl ⟨by decide, by decide⟩ (sf_X9_step_r68d  hD J z1 z0 (by omega) rfl  (fun h J S1 u2 u3 qu2 qu3 ru2 X4 => ?_))
  have Sm := jSm_tr rfl Sm S1
  rw [X4] at D
  have eu2 := (show 0 ≤ u2.toInt ∧ u2.toInt ≤ 3 from qu2 ▸ jrg_f J sg_68_5_6_1_0_1)
  try rw [vrf qu2] at D
  have eu3 := (show 0 ≤ u3.toInt ∧ u3.toInt ≤ 400 from qu3 ▸ jrg_f J sg_68_3_4_1_0_1)
  try rw [vrf qu3] at D
  show jX m_X2_readSum 22 0 0 163 [(2, .int 3), (0, .ref 95), (1, .int 0), (3, .int l3)] [] _ 0 0 _
  refine z_iinc (x := l3) (lsx9 := fun v5 => [(3, .int v5), (2, .int 3), (0, .ref 95), (1, .int 0)]) rfl rfl rfl jko_1 (by omega) rfl (fun _ => rfl) (fun v5 ev5 => ?_)
  refine x_goto (tgt := 4) rfl rfl ?_
  try rw [show (l3.toInt + 1) = v5.toInt from by omega] at D
  exact jX.sub (jsb_c rfl (jsb_c rfl (jsb_c rfl (jsb_c rfl jsb_n)))) (k4 3 v5 u3 u2 h (by omega) (jr_of jk_3 (by omega)) (jr_of rfl (by omega)) (jr_of rfl (by omega)) (jr_of rfl (by omega)) (by omega) qu3 qu2 J Sm (by rw [jk_3]; exact D))
set_option maxRecDepth 100000 in
set_option maxHeartbeats 4000000 in
theorem ct_X2_readSum_r95_c0d_115 {Dy : jH → Prop} {h0 : jH} {Q : Option Value → jH → Prop} {dr : (Int × jW)} {K4 : Int → Int → jW → (Int × jW)} {R4 : Int} (hD : jDk Dy) (hQ : ∀ (v : Int32) hx9, 0 ≤ v.toInt ∧ v.toInt ≤ 1 → jJ jSgX Dy hx9 → jSm fp_X2_readSum_r95_c0d h0 hx9 → ∀ u0 u1 : Int32, jiv hx9 68 5 = u0 → jiv hx9 68 3 = u1 → (u0.toInt ≠ 3 ∨ u1.toInt ≤ 399) → dr.1 = v.toInt → dr.2 = vw hx9 → Q (some (.int v)) hx9) (k4 : ∀ (l2 : Int32) (l3 : Int32) (g0 : Int32) (g1 : Int32) (h : jH), 400 - l3.toInt < R4 → (-1) ≤ l2.toInt ∧ l2.toInt ≤ 4 → 0 ≤ l3.toInt ∧ l3.toInt ≤ 400 → 0 ≤ g0.toInt ∧ g0.toInt ≤ 400 → 0 ≤ g1.toInt ∧ g1.toInt ≤ 3 → (g1.toInt ≠ 3 ∨ g0.toInt ≤ 399) → jiv h 68 3 = g0 → jiv h 68 5 = g1 → jJ jSgX Dy h → jSm fp_X2_readSum_r95_c0d h0 h → K4 l2.toInt l3.toInt (vw h) = dr → jX m_X2_readSum 22 0 0 4 [(0, .ref 95), (1, .int 0), (2, .int l2), (3, .int l3)] [] h 0 0 Q) : ∀ (l3 : Int32) (g0 : Int32) (g1 : Int32) (h : jH), 0 ≤ l3.toInt ∧ l3.toInt ≤ 399 → 0 ≤ g0.toInt ∧ g0.toInt ≤ 400 → 0 ≤ g1.toInt ∧ g1.toInt ≤ 3 → (g1.toInt ≠ 3 ∨ g0.toInt ≤ 399) → jiv h 68 3 = g0 → jiv h 68 5 = g1 → 400 - l3.toInt ≤ R4 → jJ jSgX Dy h → jSm fp_X2_readSum_r95_c0d h0 h → d_X2_readSum_r95_c0d_115 K4  l3.toInt (vw h) = dr → jX m_X2_readSum 22 0 0 115 [(0, .ref 95), (1, .int 0), (3, .int l3)] [] h 0 0 Q := by
  intro l3 g0 g1 h y0 y1 y2 y3 z0 z1 m4 J Sm D
  unfold d_X2_readSum_r95_c0d_115 at D
  try rw [vrf z0] at D
  try rw [vrf z1] at D
  refine x_aloadn (x := 95) rfl rfl ?_
  refine z_getR (N := 6) (b := 68) 2 0 rfl f_2_30 rfl J rfl 12160 ⟨rfl, rfl⟩ rfl ?_
  refine x_bipush (v := 43) rfl kb_43 ?_
  refine x_inv (N := m_X9_isSign) (As := [.int 43]) (b := 68) (st := []) (dx9 := 1) (mc := 0) (ms := 0) (host := "") 9 rfl t_X9_isSign ⟨Or.inl q_2_55, i_X9_isSign.1, i_X9_isSign.2⟩ ⟨by decide, rfl⟩ (congrArg Prod.fst (J.1.1 68 (9, 6) rfl)) rfl (by decide) rfl rfl ⟨by decide, by decide⟩ (sf_X9_isSign_r68d (jr_of jk_43 (by omega)) hD J z1 z0 (by omega) rfl  (fun v6 h ev6 J S1 u2 u3 qu2 qu3 ru2 X4 X5 => ?_))
  have Sm := jSm_tr rfl Sm S1
  try rw [jk_43] at X4
  try rw [X4] at D
  try rw [← X5] at D
  have eu2 := (show 0 ≤ u2.toInt ∧ u2.toInt ≤ 3 from qu2 ▸ jrg_f J sg_68_5_6_1_0_1)
  have Luu2 := congrArg Int32.toInt (((jmc S1 rfl z1)).symm.trans qu2)
  try rw [Luu2] at D
  try rw [vrf qu2] at D
  have eu3 := (show 0 ≤ u3.toInt ∧ u3.toInt ≤ 400 from qu3 ▸ jrg_f J sg_68_3_4_1_0_1)
  have Luu3 := congrArg Int32.toInt (((jmc S1 rfl z0)).symm.trans qu3)
  try rw [Luu3] at D
  try rw [vrf qu3] at D
  show jX m_X2_readSum 22 0 0 124 [(0, .ref 95), (1, .int 0), (3, .int l3)] [.int v6] _ 0 0 _
  refine x_ifeq (tgt := 131) rfl rfl (ti_eq rfl jk_0 ⟨fun c7 => ?_, fun c7 => ?_⟩)
  ·
    rw [if_pos (by omega)] at D
    refine x_aloadn (x := 95) rfl rfl ?_
    refine z_getR (N := 6) (b := 68) 2 0 rfl f_2_30 rfl J rfl 12160 ⟨rfl, rfl⟩ rfl ?_
    refine x_bipush (v := 45) rfl kb_45 ?_
    refine x_inv (N := m_X9_isSign) (As := [.int 45]) (b := 68) (st := []) (dx9 := 1) (mc := 0) (ms := 0) (host := "") 9 rfl t_X9_isSign ⟨Or.inl q_2_55, i_X9_isSign.1, i_X9_isSign.2⟩ ⟨by decide, rfl⟩ (congrArg Prod.fst (J.1.1 68 (9, 6) rfl)) rfl (by decide) rfl rfl ⟨by decide, by decide⟩ (sf_X9_isSign_r68d (jr_of jk_45 (by omega)) hD J qu2 qu3 (by omega) rfl  (fun v13 h ev13 J S8 u9 u10 qu9 qu10 ru9 X11 X12 => ?_))
    have Sm := jSm_tr rfl Sm S8
    try rw [jk_45] at X11
    try rw [X11] at D
    try rw [← X12] at D
    have eu9 := (show 0 ≤ u9.toInt ∧ u9.toInt ≤ 3 from qu9 ▸ jrg_f J sg_68_5_6_1_0_1)
    have Luu9 := congrArg Int32.toInt (((jmc S8 rfl qu2)).symm.trans qu9)
    try rw [Luu9] at D
    try rw [vrf qu9] at D
    have eu10 := (show 0 ≤ u10.toInt ∧ u10.toInt ≤ 400 from qu10 ▸ jrg_f J sg_68_3_4_1_0_1)
    have Luu10 := congrArg Int32.toInt (((jmc S8 rfl qu3)).symm.trans qu10)
    try rw [Luu10] at D
    try rw [vrf qu10] at D
    show jX m_X2_readSum 22 0 0 140 [(0, .ref 95), (1, .int 0), (3, .int l3)] [.int v13] _ 0 0 _
    refine x_ifeq (tgt := 147) rfl rfl (ti_eq rfl jk_0 ⟨fun c14 => ?_, fun c14 => ?_⟩)
    ·
      rw [if_pos (by omega)] at D
      refine x_iconst (v := (-1)) rfl ki_m1 ?_
      exact jX.sub (jsb_c rfl (jsb_c rfl (jsb_c rfl jsb_n))) (ct_X2_readSum_r95_c0d_100148 hD hQ k4 l3 u10 u9 h (jr_of rfl (by omega)) (jr_of rfl (by omega)) (jr_of rfl (by omega)) (by omega) qu10 qu9 (by omega) J Sm D)
    ·
      rw [if_neg (by omega)] at D
      refine x_iconst (v := 4) rfl ki_4 ?_
      refine x_goto (tgt := 148) rfl rfl ?_
      exact jX.sub (jsb_c rfl (jsb_c rfl (jsb_c rfl jsb_n))) (ct_X2_readSum_r95_c0d_600148 hD hQ k4 l3 u10 u9 h (jr_of rfl (by omega)) (jr_of rfl (by omega)) (jr_of rfl (by omega)) (by omega) qu10 qu9 (by omega) J Sm D)
  ·
    rw [if_neg (by omega)] at D
    refine x_iconst (v := 3) rfl ki_3 ?_
    refine x_goto (tgt := 148) rfl rfl ?_
    exact jX.sub (jsb_c rfl (jsb_c rfl (jsb_c rfl jsb_n))) (ct_X2_readSum_r95_c0d_500148 hD hQ k4 l3 u3 u2 h (jr_of rfl (by omega)) (jr_of rfl (by omega)) (jr_of rfl (by omega)) (by omega) qu3 qu2 (by omega) J Sm D)
set_option maxRecDepth 100000 in
set_option maxHeartbeats 4000000 in
theorem ct_X2_readSum_r95_c0d_105 {Dy : jH → Prop} {h0 : jH} {Q : Option Value → jH → Prop} {dr : (Int × jW)} {K4 : Int → Int → jW → (Int × jW)} {R4 : Int} (hD : jDk Dy) (hQ : ∀ (v : Int32) hx9, 0 ≤ v.toInt ∧ v.toInt ≤ 1 → jJ jSgX Dy hx9 → jSm fp_X2_readSum_r95_c0d h0 hx9 → ∀ u0 u1 : Int32, jiv hx9 68 5 = u0 → jiv hx9 68 3 = u1 → (u0.toInt ≠ 3 ∨ u1.toInt ≤ 399) → dr.1 = v.toInt → dr.2 = vw hx9 → Q (some (.int v)) hx9) (k4 : ∀ (l2 : Int32) (l3 : Int32) (g0 : Int32) (g1 : Int32) (h : jH), 400 - l3.toInt < R4 → (-1) ≤ l2.toInt ∧ l2.toInt ≤ 4 → 0 ≤ l3.toInt ∧ l3.toInt ≤ 400 → 0 ≤ g0.toInt ∧ g0.toInt ≤ 400 → 0 ≤ g1.toInt ∧ g1.toInt ≤ 3 → (g1.toInt ≠ 3 ∨ g0.toInt ≤ 399) → jiv h 68 3 = g0 → jiv h 68 5 = g1 → jJ jSgX Dy h → jSm fp_X2_readSum_r95_c0d h0 h → K4 l2.toInt l3.toInt (vw h) = dr → jX m_X2_readSum 22 0 0 4 [(0, .ref 95), (1, .int 0), (2, .int l2), (3, .int l3)] [] h 0 0 Q) : ∀ (l2 : Int32) (l3 : Int32) (g0 : Int32) (g1 : Int32) (h : jH), (-1) ≤ l2.toInt ∧ l2.toInt ≤ 4 → 0 ≤ l3.toInt ∧ l3.toInt ≤ 399 → 0 ≤ g0.toInt ∧ g0.toInt ≤ 400 → 0 ≤ g1.toInt ∧ g1.toInt ≤ 3 → (g1.toInt ≠ 3 ∨ g0.toInt ≤ 399) → jiv h 68 3 = g0 → jiv h 68 5 = g1 → 400 - l3.toInt ≤ R4 → jJ jSgX Dy h → jSm fp_X2_readSum_r95_c0d h0 h → d_X2_readSum_r95_c0d_105 K4  l2.toInt l3.toInt (vw h) = dr → jX m_X2_readSum 22 0 0 105 [(0, .ref 95), (1, .int 0), (2, .int l2), (3, .int l3)] [] h 0 0 Q := by
  intro l2 l3 g0 g1 h y0 y1 y2 y3 y4 z0 z1 m4 J Sm D
  unfold d_X2_readSum_r95_c0d_105 at D
  try rw [vrf z0] at D
  try rw [vrf z1] at D
  refine x_iloadn (x := l2) rfl rfl ?_
  refine x_iconst (v := (-1)) rfl ki_m1 ?_
  refine x_iceq (tgt := 115) rfl rfl (ti_eq rfl jk_m1 ⟨fun c1 => ?_, fun c1 => ?_⟩)
  ·
    rw [if_pos (by omega)] at D
    exact jX.sub (jsb_c rfl (jsb_c rfl (jsb_c rfl jsb_n))) (ct_X2_readSum_r95_c0d_115 hD hQ k4 l3 g0 g1 h (jr_of rfl (by omega)) (jr_of rfl (by omega)) (jr_of rfl (by omega)) (by omega) z0 z1 (by omega) J Sm D)
  ·
    rw [if_neg (by omega)] at D
    refine x_aloadn (x := 95) rfl rfl ?_
    refine x_iloadn (x := l2) rfl rfl ?_
    refine x_inv (N := m_X2_emit) (As := [.int l2]) (b := 95) (st := []) (dx9 := 1) (mc := 0) (ms := 0) (host := "") 2 rfl t_X2_emit ⟨Or.inl q_2_89, i_X2_emit.1, i_X2_emit.2⟩ ⟨by decide, rfl⟩ (congrArg Prod.fst (J.1.1 95 (2, 6) rfl)) rfl (by decide) rfl rfl ⟨by decide, by decide⟩ (sf_X2_emit_r95d  hD J rfl  (fun h J S2 X3 => ?_))
    have Sm := jSm_tr rfl Sm S2
    rw [X3] at D
    show jX m_X2_readSum 22 0 0 115 [(0, .ref 95), (1, .int 0), (2, .int l2), (3, .int l3)] [] _ 0 0 _
    exact jX.sub (jsb_c rfl (jsb_c rfl (jsb_c rfl jsb_n))) (ct_X2_readSum_r95_c0d_115 hD hQ k4 l3 g0 g1 h (jr_of rfl (by omega)) (jr_of rfl (by omega)) (jr_of rfl (by omega)) (by omega) (jmc S2 rfl z0) (jmc S2 rfl z1) (by omega) J Sm D)
set_option maxRecDepth 100000 in
set_option maxHeartbeats 4000000 in
theorem ct_X2_readSum_r95_c0d_100081 {Dy : jH → Prop} {h0 : jH} {Q : Option Value → jH → Prop} {dr : (Int × jW)} {K4 : Int → Int → jW → (Int × jW)} {K17 : Int → Int → Int → Int → jW → (Int × jW)} {R4 : Int} {R17 : Int} (hD : jDk Dy) (hQ : ∀ (v : Int32) hx9, 0 ≤ v.toInt ∧ v.toInt ≤ 1 → jJ jSgX Dy hx9 → jSm fp_X2_readSum_r95_c0d h0 hx9 → ∀ u0 u1 : Int32, jiv hx9 68 5 = u0 → jiv hx9 68 3 = u1 → (u0.toInt ≠ 3 ∨ u1.toInt ≤ 399) → dr.1 = v.toInt → dr.2 = vw hx9 → Q (some (.int v)) hx9) (k4 : ∀ (l2 : Int32) (l3 : Int32) (g0 : Int32) (g1 : Int32) (h : jH), 400 - l3.toInt < R4 → (-1) ≤ l2.toInt ∧ l2.toInt ≤ 4 → 0 ≤ l3.toInt ∧ l3.toInt ≤ 400 → 0 ≤ g0.toInt ∧ g0.toInt ≤ 400 → 0 ≤ g1.toInt ∧ g1.toInt ≤ 3 → (g1.toInt ≠ 3 ∨ g0.toInt ≤ 399) → jiv h 68 3 = g0 → jiv h 68 5 = g1 → jJ jSgX Dy h → jSm fp_X2_readSum_r95_c0d h0 h → K4 l2.toInt l3.toInt (vw h) = dr → jX m_X2_readSum 22 0 0 4 [(0, .ref 95), (1, .int 0), (2, .int l2), (3, .int l3)] [] h 0 0 Q) (k17 : ∀ (l2 : Int32) (l3 : Int32) (l4 : Int32) (l5 : Int32) (g0 : Int32) (g1 : Int32) (h : jH), 400 - l5.toInt < R17 → (-1) ≤ l2.toInt ∧ l2.toInt ≤ 4 → 0 ≤ l3.toInt ∧ l3.toInt ≤ 399 → (-1) ≤ l4.toInt ∧ l4.toInt ≤ 6 → 0 ≤ l5.toInt ∧ l5.toInt ≤ 400 → 0 ≤ g0.toInt ∧ g0.toInt ≤ 400 → 0 ≤ g1.toInt ∧ g1.toInt ≤ 3 → (g1.toInt ≠ 3 ∨ g0.toInt ≤ 399) → jiv h 68 3 = g0 → jiv h 68 5 = g1 → 400 - l3.toInt ≤ R4 → jJ jSgX Dy h → jSm fp_X2_readSum_r95_c0d h0 h → K17 l2.toInt l3.toInt l4.toInt l5.toInt (vw h) = dr → jX m_X2_readSum 22 0 0 17 [(0, .ref 95), (1, .int 0), (2, .int l2), (3, .int l3), (4, .int l4), (5, .int l5)] [] h 0 0 Q) : ∀ (l2 : Int32) (l3 : Int32) (l5 : Int32) (g0 : Int32) (g1 : Int32) (h : jH), (-1) ≤ l2.toInt ∧ l2.toInt ≤ 4 → 0 ≤ l3.toInt ∧ l3.toInt ≤ 399 → 0 ≤ l5.toInt ∧ l5.toInt ≤ 399 → 0 ≤ g0.toInt ∧ g0.toInt ≤ 400 → 0 ≤ g1.toInt ∧ g1.toInt ≤ 3 → (g1.toInt ≠ 3 ∨ g0.toInt ≤ 399) → jiv h 68 3 = g0 → jiv h 68 5 = g1 → 400 - l3.toInt ≤ R4 → 400 - l5.toInt ≤ R17 → jJ jSgX Dy h → jSm fp_X2_readSum_r95_c0d h0 h → d_X2_readSum_r95_c0d_100081 K4 K17  l2.toInt l3.toInt l5.toInt (vw h) = dr → jX m_X2_readSum 22 0 0 81 [(0, .ref 95), (1, .int 0), (2, .int l2), (3, .int l3), (5, .int l5)] [.int (-1)] h 0 0 Q := by
  intro l2 l3 l5 g0 g1 h y0 y1 y2 y3 y4 y5 z0 z1 m4 m17 J Sm D
  unfold d_X2_readSum_r95_c0d_100081 at D
  try rw [vrf z0] at D
  try rw [vrf z1] at D
  refine x_istore (lsx9 := [(4, .int (-1)), (0, .ref 95), (1, .int 0), (2, .int l2), (3, .int l3), (5, .int l5)]) rfl rfl rfl ?_
  refine x_iload (x := (-1)) rfl rfl ?_
  refine x_iconst (v := (-1)) rfl ki_m1 ?_
  refine x_icne (tgt := 92) rfl rfl (ti_ne jk_m1 jk_m1 (bn_f (by omega) ?_))
  refine x_goto (tgt := 105) rfl rfl ?_
  exact jX.sub (jsb_c rfl (jsb_c rfl (jsb_c rfl (jsb_c rfl jsb_n)))) (ct_X2_readSum_r95_c0d_105 hD hQ k4 l2 l3 g0 g1 h (jr_of rfl (by omega)) (jr_of rfl (by omega)) (jr_of rfl (by omega)) (jr_of rfl (by omega)) (by omega) z0 z1 (by omega) J Sm D)
set_option maxRecDepth 100000 in
set_option maxHeartbeats 4000000 in
theorem ct_X2_readSum_r95_c0d_800081 {Dy : jH → Prop} {h0 : jH} {Q : Option Value → jH → Prop} {dr : (Int × jW)} {K4 : Int → Int → jW → (Int × jW)} {K17 : Int → Int → Int → Int → jW → (Int × jW)} {R4 : Int} {R17 : Int} (hD : jDk Dy) (hQ : ∀ (v : Int32) hx9, 0 ≤ v.toInt ∧ v.toInt ≤ 1 → jJ jSgX Dy hx9 → jSm fp_X2_readSum_r95_c0d h0 hx9 → ∀ u0 u1 : Int32, jiv hx9 68 5 = u0 → jiv hx9 68 3 = u1 → (u0.toInt ≠ 3 ∨ u1.toInt ≤ 399) → dr.1 = v.toInt → dr.2 = vw hx9 → Q (some (.int v)) hx9) (k4 : ∀ (l2 : Int32) (l3 : Int32) (g0 : Int32) (g1 : Int32) (h : jH), 400 - l3.toInt < R4 → (-1) ≤ l2.toInt ∧ l2.toInt ≤ 4 → 0 ≤ l3.toInt ∧ l3.toInt ≤ 400 → 0 ≤ g0.toInt ∧ g0.toInt ≤ 400 → 0 ≤ g1.toInt ∧ g1.toInt ≤ 3 → (g1.toInt ≠ 3 ∨ g0.toInt ≤ 399) → jiv h 68 3 = g0 → jiv h 68 5 = g1 → jJ jSgX Dy h → jSm fp_X2_readSum_r95_c0d h0 h → K4 l2.toInt l3.toInt (vw h) = dr → jX m_X2_readSum 22 0 0 4 [(0, .ref 95), (1, .int 0), (2, .int l2), (3, .int l3)] [] h 0 0 Q) (k17 : ∀ (l2 : Int32) (l3 : Int32) (l4 : Int32) (l5 : Int32) (g0 : Int32) (g1 : Int32) (h : jH), 400 - l5.toInt < R17 → (-1) ≤ l2.toInt ∧ l2.toInt ≤ 4 → 0 ≤ l3.toInt ∧ l3.toInt ≤ 399 → (-1) ≤ l4.toInt ∧ l4.toInt ≤ 6 → 0 ≤ l5.toInt ∧ l5.toInt ≤ 400 → 0 ≤ g0.toInt ∧ g0.toInt ≤ 400 → 0 ≤ g1.toInt ∧ g1.toInt ≤ 3 → (g1.toInt ≠ 3 ∨ g0.toInt ≤ 399) → jiv h 68 3 = g0 → jiv h 68 5 = g1 → 400 - l3.toInt ≤ R4 → jJ jSgX Dy h → jSm fp_X2_readSum_r95_c0d h0 h → K17 l2.toInt l3.toInt l4.toInt l5.toInt (vw h) = dr → jX m_X2_readSum 22 0 0 17 [(0, .ref 95), (1, .int 0), (2, .int l2), (3, .int l3), (4, .int l4), (5, .int l5)] [] h 0 0 Q) : ∀ (l2 : Int32) (l3 : Int32) (l5 : Int32) (g0 : Int32) (g1 : Int32) (h : jH), (-1) ≤ l2.toInt ∧ l2.toInt ≤ 4 → 0 ≤ l3.toInt ∧ l3.toInt ≤ 399 → 0 ≤ l5.toInt ∧ l5.toInt ≤ 399 → 0 ≤ g0.toInt ∧ g0.toInt ≤ 400 → 0 ≤ g1.toInt ∧ g1.toInt ≤ 3 → (g1.toInt ≠ 3 ∨ g0.toInt ≤ 399) → jiv h 68 3 = g0 → jiv h 68 5 = g1 → 400 - l3.toInt ≤ R4 → 400 - l5.toInt ≤ R17 → jJ jSgX Dy h → jSm fp_X2_readSum_r95_c0d h0 h → d_X2_readSum_r95_c0d_800081 K4 K17  l2.toInt l3.toInt l5.toInt (vw h) = dr → jX m_X2_readSum 22 0 0 81 [(0, .ref 95), (1, .int 0), (2, .int l2), (3, .int l3), (5, .int l5)] [.int 6] h 0 0 Q := by
  intro l2 l3 l5 g0 g1 h y0 y1 y2 y3 y4 y5 z0 z1 m4 m17 J Sm D
  unfold d_X2_readSum_r95_c0d_800081 at D
  try rw [vrf z0] at D
  try rw [vrf z1] at D
  refine x_istore (lsx9 := [(4, .int 6), (0, .ref 95), (1, .int 0), (2, .int l2), (3, .int l3), (5, .int l5)]) rfl rfl rfl ?_
  refine x_iload (x := 6) rfl rfl ?_
  refine x_iconst (v := (-1)) rfl ki_m1 ?_
  refine x_icne (tgt := 92) rfl rfl (ti_ne jk_6 jk_m1 (bn_t (by omega) ?_))
  refine x_aloadn (x := 95) rfl rfl ?_
  refine z_getR (N := 6) (b := 68) 2 0 rfl f_2_30 rfl J rfl 12160 ⟨rfl, rfl⟩ rfl ?_
  refine x_inv (N := m_X9_step) (As := []) (b := 68) (st := []) (dx9 := 2) (mc := 0) (ms := 0) (host := "") 9 rfl t_X9_step ⟨Or.inl q_2_62, i_X9_step.1, i_X9_step.2⟩ ⟨by decide, rfl⟩ (congrArg Prod.fst (J.1.1 68 (9, 6) rfl)) rfl (by decide) rfl rfl ⟨by decide, by decide⟩ (sf_X9_step_r68d  hD J z1 z0 (by omega) rfl  (fun h J S1 u2 u3 qu2 qu3 ru2 X4 => ?_))
  have Sm := jSm_tr rfl Sm S1
  rw [X4] at D
  have eu2 := (show 0 ≤ u2.toInt ∧ u2.toInt ≤ 3 from qu2 ▸ jrg_f J sg_68_5_6_1_0_1)
  try rw [vrf qu2] at D
  have eu3 := (show 0 ≤ u3.toInt ∧ u3.toInt ≤ 400 from qu3 ▸ jrg_f J sg_68_3_4_1_0_1)
  try rw [vrf qu3] at D
  show jX m_X2_readSum 22 0 0 99 [(4, .int 6), (0, .ref 95), (1, .int 0), (2, .int l2), (3, .int l3), (5, .int l5)] [] _ 0 0 _
  refine z_iinc (x := l5) (lsx9 := fun v5 => [(5, .int v5), (4, .int 6), (0, .ref 95), (1, .int 0), (2, .int l2), (3, .int l3)]) rfl rfl rfl jko_1 (by omega) rfl (fun _ => rfl) (fun v5 ev5 => ?_)
  refine x_goto (tgt := 17) rfl rfl ?_
  try rw [show (l5.toInt + 1) = v5.toInt from by omega] at D
  exact jX.sub (jsb_c rfl (jsb_c rfl (jsb_c rfl (jsb_c rfl (jsb_c rfl (jsb_c rfl jsb_n)))))) (k17 l2 l3 6 v5 u3 u2 h (by omega) (jr_of rfl (by omega)) (jr_of rfl (by omega)) (jr_of jk_6 (by omega)) (jr_of rfl (by omega)) (jr_of rfl (by omega)) (jr_of rfl (by omega)) (by omega) qu3 qu2 (by omega) J Sm (by rw [jk_6]; exact D))
set_option maxRecDepth 100000 in
set_option maxHeartbeats 4000000 in
theorem ct_X2_readSum_r95_c0d_700081 {Dy : jH → Prop} {h0 : jH} {Q : Option Value → jH → Prop} {dr : (Int × jW)} {K4 : Int → Int → jW → (Int × jW)} {K17 : Int → Int → Int → Int → jW → (Int × jW)} {R4 : Int} {R17 : Int} (hD : jDk Dy) (hQ : ∀ (v : Int32) hx9, 0 ≤ v.toInt ∧ v.toInt ≤ 1 → jJ jSgX Dy hx9 → jSm fp_X2_readSum_r95_c0d h0 hx9 → ∀ u0 u1 : Int32, jiv hx9 68 5 = u0 → jiv hx9 68 3 = u1 → (u0.toInt ≠ 3 ∨ u1.toInt ≤ 399) → dr.1 = v.toInt → dr.2 = vw hx9 → Q (some (.int v)) hx9) (k4 : ∀ (l2 : Int32) (l3 : Int32) (g0 : Int32) (g1 : Int32) (h : jH), 400 - l3.toInt < R4 → (-1) ≤ l2.toInt ∧ l2.toInt ≤ 4 → 0 ≤ l3.toInt ∧ l3.toInt ≤ 400 → 0 ≤ g0.toInt ∧ g0.toInt ≤ 400 → 0 ≤ g1.toInt ∧ g1.toInt ≤ 3 → (g1.toInt ≠ 3 ∨ g0.toInt ≤ 399) → jiv h 68 3 = g0 → jiv h 68 5 = g1 → jJ jSgX Dy h → jSm fp_X2_readSum_r95_c0d h0 h → K4 l2.toInt l3.toInt (vw h) = dr → jX m_X2_readSum 22 0 0 4 [(0, .ref 95), (1, .int 0), (2, .int l2), (3, .int l3)] [] h 0 0 Q) (k17 : ∀ (l2 : Int32) (l3 : Int32) (l4 : Int32) (l5 : Int32) (g0 : Int32) (g1 : Int32) (h : jH), 400 - l5.toInt < R17 → (-1) ≤ l2.toInt ∧ l2.toInt ≤ 4 → 0 ≤ l3.toInt ∧ l3.toInt ≤ 399 → (-1) ≤ l4.toInt ∧ l4.toInt ≤ 6 → 0 ≤ l5.toInt ∧ l5.toInt ≤ 400 → 0 ≤ g0.toInt ∧ g0.toInt ≤ 400 → 0 ≤ g1.toInt ∧ g1.toInt ≤ 3 → (g1.toInt ≠ 3 ∨ g0.toInt ≤ 399) → jiv h 68 3 = g0 → jiv h 68 5 = g1 → 400 - l3.toInt ≤ R4 → jJ jSgX Dy h → jSm fp_X2_readSum_r95_c0d h0 h → K17 l2.toInt l3.toInt l4.toInt l5.toInt (vw h) = dr → jX m_X2_readSum 22 0 0 17 [(0, .ref 95), (1, .int 0), (2, .int l2), (3, .int l3), (4, .int l4), (5, .int l5)] [] h 0 0 Q) : ∀ (l2 : Int32) (l3 : Int32) (l5 : Int32) (g0 : Int32) (g1 : Int32) (h : jH), (-1) ≤ l2.toInt ∧ l2.toInt ≤ 4 → 0 ≤ l3.toInt ∧ l3.toInt ≤ 399 → 0 ≤ l5.toInt ∧ l5.toInt ≤ 399 → 0 ≤ g0.toInt ∧ g0.toInt ≤ 400 → 0 ≤ g1.toInt ∧ g1.toInt ≤ 3 → (g1.toInt ≠ 3 ∨ g0.toInt ≤ 399) → jiv h 68 3 = g0 → jiv h 68 5 = g1 → 400 - l3.toInt ≤ R4 → 400 - l5.toInt ≤ R17 → jJ jSgX Dy h → jSm fp_X2_readSum_r95_c0d h0 h → d_X2_readSum_r95_c0d_700081 K4 K17  l2.toInt l3.toInt l5.toInt (vw h) = dr → jX m_X2_readSum 22 0 0 81 [(0, .ref 95), (1, .int 0), (2, .int l2), (3, .int l3), (5, .int l5)] [.int 5] h 0 0 Q := by
  intro l2 l3 l5 g0 g1 h y0 y1 y2 y3 y4 y5 z0 z1 m4 m17 J Sm D
  unfold d_X2_readSum_r95_c0d_700081 at D
  try rw [vrf z0] at D
  try rw [vrf z1] at D
  refine x_istore (lsx9 := [(4, .int 5), (0, .ref 95), (1, .int 0), (2, .int l2), (3, .int l3), (5, .int l5)]) rfl rfl rfl ?_
  refine x_iload (x := 5) rfl rfl ?_
  refine x_iconst (v := (-1)) rfl ki_m1 ?_
  refine x_icne (tgt := 92) rfl rfl (ti_ne jk_5 jk_m1 (bn_t (by omega) ?_))
  refine x_aloadn (x := 95) rfl rfl ?_
  refine z_getR (N := 6) (b := 68) 2 0 rfl f_2_30 rfl J rfl 12160 ⟨rfl, rfl⟩ rfl ?_
  refine x_inv (N := m_X9_step) (As := []) (b := 68) (st := []) (dx9 := 2) (mc := 0) (ms := 0) (host := "") 9 rfl t_X9_step ⟨Or.inl q_2_62, i_X9_step.1, i_X9_step.2⟩ ⟨by decide, rfl⟩ (congrArg Prod.fst (J.1.1 68 (9, 6) rfl)) rfl (by decide) rfl rfl ⟨by decide, by decide⟩ (sf_X9_step_r68d  hD J z1 z0 (by omega) rfl  (fun h J S1 u2 u3 qu2 qu3 ru2 X4 => ?_))
  have Sm := jSm_tr rfl Sm S1
  rw [X4] at D
  have eu2 := (show 0 ≤ u2.toInt ∧ u2.toInt ≤ 3 from qu2 ▸ jrg_f J sg_68_5_6_1_0_1)
  try rw [vrf qu2] at D
  have eu3 := (show 0 ≤ u3.toInt ∧ u3.toInt ≤ 400 from qu3 ▸ jrg_f J sg_68_3_4_1_0_1)
  try rw [vrf qu3] at D
  show jX m_X2_readSum 22 0 0 99 [(4, .int 5), (0, .ref 95), (1, .int 0), (2, .int l2), (3, .int l3), (5, .int l5)] [] _ 0 0 _
  refine z_iinc (x := l5) (lsx9 := fun v5 => [(5, .int v5), (4, .int 5), (0, .ref 95), (1, .int 0), (2, .int l2), (3, .int l3)]) rfl rfl rfl jko_1 (by omega) rfl (fun _ => rfl) (fun v5 ev5 => ?_)
  refine x_goto (tgt := 17) rfl rfl ?_
  try rw [show (l5.toInt + 1) = v5.toInt from by omega] at D
  exact jX.sub (jsb_c rfl (jsb_c rfl (jsb_c rfl (jsb_c rfl (jsb_c rfl (jsb_c rfl jsb_n)))))) (k17 l2 l3 5 v5 u3 u2 h (by omega) (jr_of rfl (by omega)) (jr_of rfl (by omega)) (jr_of jk_5 (by omega)) (jr_of rfl (by omega)) (jr_of rfl (by omega)) (jr_of rfl (by omega)) (by omega) qu3 qu2 (by omega) J Sm (by rw [jk_5]; exact D))
set_option maxRecDepth 100000 in
set_option maxHeartbeats 4000000 in
theorem ct_X2_readSum_r95_c0d_47 {Dy : jH → Prop} {h0 : jH} {Q : Option Value → jH → Prop} {dr : (Int × jW)} {K4 : Int → Int → jW → (Int × jW)} {K17 : Int → Int → Int → Int → jW → (Int × jW)} {R4 : Int} {R17 : Int} (hD : jDk Dy) (hQ : ∀ (v : Int32) hx9, 0 ≤ v.toInt ∧ v.toInt ≤ 1 → jJ jSgX Dy hx9 → jSm fp_X2_readSum_r95_c0d h0 hx9 → ∀ u0 u1 : Int32, jiv hx9 68 5 = u0 → jiv hx9 68 3 = u1 → (u0.toInt ≠ 3 ∨ u1.toInt ≤ 399) → dr.1 = v.toInt → dr.2 = vw hx9 → Q (some (.int v)) hx9) (k4 : ∀ (l2 : Int32) (l3 : Int32) (g0 : Int32) (g1 : Int32) (h : jH), 400 - l3.toInt < R4 → (-1) ≤ l2.toInt ∧ l2.toInt ≤ 4 → 0 ≤ l3.toInt ∧ l3.toInt ≤ 400 → 0 ≤ g0.toInt ∧ g0.toInt ≤ 400 → 0 ≤ g1.toInt ∧ g1.toInt ≤ 3 → (g1.toInt ≠ 3 ∨ g0.toInt ≤ 399) → jiv h 68 3 = g0 → jiv h 68 5 = g1 → jJ jSgX Dy h → jSm fp_X2_readSum_r95_c0d h0 h → K4 l2.toInt l3.toInt (vw h) = dr → jX m_X2_readSum 22 0 0 4 [(0, .ref 95), (1, .int 0), (2, .int l2), (3, .int l3)] [] h 0 0 Q) (k17 : ∀ (l2 : Int32) (l3 : Int32) (l4 : Int32) (l5 : Int32) (g0 : Int32) (g1 : Int32) (h : jH), 400 - l5.toInt < R17 → (-1) ≤ l2.toInt ∧ l2.toInt ≤ 4 → 0 ≤ l3.toInt ∧ l3.toInt ≤ 399 → (-1) ≤ l4.toInt ∧ l4.toInt ≤ 6 → 0 ≤ l5.toInt ∧ l5.toInt ≤ 400 → 0 ≤ g0.toInt ∧ g0.toInt ≤ 400 → 0 ≤ g1.toInt ∧ g1.toInt ≤ 3 → (g1.toInt ≠ 3 ∨ g0.toInt ≤ 399) → jiv h 68 3 = g0 → jiv h 68 5 = g1 → 400 - l3.toInt ≤ R4 → jJ jSgX Dy h → jSm fp_X2_readSum_r95_c0d h0 h → K17 l2.toInt l3.toInt l4.toInt l5.toInt (vw h) = dr → jX m_X2_readSum 22 0 0 17 [(0, .ref 95), (1, .int 0), (2, .int l2), (3, .int l3), (4, .int l4), (5, .int l5)] [] h 0 0 Q) : ∀ (l2 : Int32) (l3 : Int32) (l5 : Int32) (g0 : Int32) (g1 : Int32) (h : jH), (-1) ≤ l2.toInt ∧ l2.toInt ≤ 4 → 0 ≤ l3.toInt ∧ l3.toInt ≤ 399 → 0 ≤ l5.toInt ∧ l5.toInt ≤ 399 → 0 ≤ g0.toInt ∧ g0.toInt ≤ 400 → 0 ≤ g1.toInt ∧ g1.toInt ≤ 3 → (g1.toInt ≠ 3 ∨ g0.toInt ≤ 399) → jiv h 68 3 = g0 → jiv h 68 5 = g1 → 400 - l3.toInt ≤ R4 → 400 - l5.toInt ≤ R17 → jJ jSgX Dy h → jSm fp_X2_readSum_r95_c0d h0 h → d_X2_readSum_r95_c0d_47 K4 K17  l2.toInt l3.toInt l5.toInt (vw h) = dr → jX m_X2_readSum 22 0 0 47 [(0, .ref 95), (1, .int 0), (2, .int l2), (3, .int l3), (5, .int l5)] [] h 0 0 Q := by
  intro l2 l3 l5 g0 g1 h y0 y1 y2 y3 y4 y5 z0 z1 m4 m17 J Sm D
  unfold d_X2_readSum_r95_c0d_47 at D
  try rw [vrf z0] at D
  try rw [vrf z1] at D
  refine x_aloadn (x := 95) rfl rfl ?_
  refine z_getR (N := 6) (b := 68) 2 0 rfl f_2_30 rfl J rfl 12160 ⟨rfl, rfl⟩ rfl ?_
  refine x_bipush (v := 42) rfl kb_42 ?_
  refine x_inv (N := m_X9_isSign) (As := [.int 42]) (b := 68) (st := []) (dx9 := 1) (mc := 0) (ms := 0) (host := "") 9 rfl t_X9_isSign ⟨Or.inl q_2_55, i_X9_isSign.1, i_X9_isSign.2⟩ ⟨by decide, rfl⟩ (congrArg Prod.fst (J.1.1 68 (9, 6) rfl)) rfl (by decide) rfl rfl ⟨by decide, by decide⟩ (sf_X9_isSign_r68d (jr_of jk_42 (by omega)) hD J z1 z0 (by omega) rfl  (fun v6 h ev6 J S1 u2 u3 qu2 qu3 ru2 X4 X5 => ?_))
  have Sm := jSm_tr rfl Sm S1
  try rw [jk_42] at X4
  try rw [X4] at D
  try rw [← X5] at D
  have eu2 := (show 0 ≤ u2.toInt ∧ u2.toInt ≤ 3 from qu2 ▸ jrg_f J sg_68_5_6_1_0_1)
  have Luu2 := congrArg Int32.toInt (((jmc S1 rfl z1)).symm.trans qu2)
  try rw [Luu2] at D
  try rw [vrf qu2] at D
  have eu3 := (show 0 ≤ u3.toInt ∧ u3.toInt ≤ 400 from qu3 ▸ jrg_f J sg_68_3_4_1_0_1)
  have Luu3 := congrArg Int32.toInt (((jmc S1 rfl z0)).symm.trans qu3)
  try rw [Luu3] at D
  try rw [vrf qu3] at D
  show jX m_X2_readSum 22 0 0 56 [(0, .ref 95), (1, .int 0), (2, .int l2), (3, .int l3), (5, .int l5)] [.int v6] _ 0 0 _
  refine x_ifeq (tgt := 63) rfl rfl (ti_eq rfl jk_0 ⟨fun c7 => ?_, fun c7 => ?_⟩)
  ·
    rw [if_pos (by omega)] at D
    refine x_aloadn (x := 95) rfl rfl ?_
    refine z_getR (N := 6) (b := 68) 2 0 rfl f_2_30 rfl J rfl 12160 ⟨rfl, rfl⟩ rfl ?_
    refine x_bipush (v := 47) rfl kb_47 ?_
    refine x_inv (N := m_X9_isSign) (As := [.int 47]) (b := 68) (st := []) (dx9 := 1) (mc := 0) (ms := 0) (host := "") 9 rfl t_X9_isSign ⟨Or.inl q_2_55, i_X9_isSign.1, i_X9_isSign.2⟩ ⟨by decide, rfl⟩ (congrArg Prod.fst (J.1.1 68 (9, 6) rfl)) rfl (by decide) rfl rfl ⟨by decide, by decide⟩ (sf_X9_isSign_r68d (jr_of jk_47 (by omega)) hD J qu2 qu3 (by omega) rfl  (fun v13 h ev13 J S8 u9 u10 qu9 qu10 ru9 X11 X12 => ?_))
    have Sm := jSm_tr rfl Sm S8
    try rw [jk_47] at X11
    try rw [X11] at D
    try rw [← X12] at D
    have eu9 := (show 0 ≤ u9.toInt ∧ u9.toInt ≤ 3 from qu9 ▸ jrg_f J sg_68_5_6_1_0_1)
    have Luu9 := congrArg Int32.toInt (((jmc S8 rfl qu2)).symm.trans qu9)
    try rw [Luu9] at D
    try rw [vrf qu9] at D
    have eu10 := (show 0 ≤ u10.toInt ∧ u10.toInt ≤ 400 from qu10 ▸ jrg_f J sg_68_3_4_1_0_1)
    have Luu10 := congrArg Int32.toInt (((jmc S8 rfl qu3)).symm.trans qu10)
    try rw [Luu10] at D
    try rw [vrf qu10] at D
    show jX m_X2_readSum 22 0 0 72 [(0, .ref 95), (1, .int 0), (2, .int l2), (3, .int l3), (5, .int l5)] [.int v13] _ 0 0 _
    refine x_ifeq (tgt := 80) rfl rfl (ti_eq rfl jk_0 ⟨fun c14 => ?_, fun c14 => ?_⟩)
    ·
      rw [if_pos (by omega)] at D
      refine x_iconst (v := (-1)) rfl ki_m1 ?_
      exact jX.sub (jsb_c rfl (jsb_c rfl (jsb_c rfl (jsb_c rfl (jsb_c rfl jsb_n))))) (ct_X2_readSum_r95_c0d_100081 hD hQ k4 k17 l2 l3 l5 u10 u9 h (jr_of rfl (by omega)) (jr_of rfl (by omega)) (jr_of rfl (by omega)) (jr_of rfl (by omega)) (jr_of rfl (by omega)) (by omega) qu10 qu9 (by omega) (by omega) J Sm D)
    ·
      rw [if_neg (by omega)] at D
      refine x_bipush (v := 6) rfl kb_6 ?_
      refine x_goto (tgt := 81) rfl rfl ?_
      exact jX.sub (jsb_c rfl (jsb_c rfl (jsb_c rfl (jsb_c rfl (jsb_c rfl jsb_n))))) (ct_X2_readSum_r95_c0d_800081 hD hQ k4 k17 l2 l3 l5 u10 u9 h (jr_of rfl (by omega)) (jr_of rfl (by omega)) (jr_of rfl (by omega)) (jr_of rfl (by omega)) (jr_of rfl (by omega)) (by omega) qu10 qu9 (by omega) (by omega) J Sm D)
  ·
    rw [if_neg (by omega)] at D
    refine x_iconst (v := 5) rfl ki_5 ?_
    refine x_goto (tgt := 81) rfl rfl ?_
    exact jX.sub (jsb_c rfl (jsb_c rfl (jsb_c rfl (jsb_c rfl (jsb_c rfl jsb_n))))) (ct_X2_readSum_r95_c0d_700081 hD hQ k4 k17 l2 l3 l5 u3 u2 h (jr_of rfl (by omega)) (jr_of rfl (by omega)) (jr_of rfl (by omega)) (jr_of rfl (by omega)) (jr_of rfl (by omega)) (by omega) qu3 qu2 (by omega) (by omega) J Sm D)
set_option maxRecDepth 100000 in
set_option maxHeartbeats 4000000 in
theorem ct_X2_readSum_r95_c0d_17 {Dy : jH → Prop} {h0 : jH} {Q : Option Value → jH → Prop} {dr : (Int × jW)} {K4 : Int → Int → jW → (Int × jW)} {R4 : Int} (hD : jDk Dy) (hQ : ∀ (v : Int32) hx9, 0 ≤ v.toInt ∧ v.toInt ≤ 1 → jJ jSgX Dy hx9 → jSm fp_X2_readSum_r95_c0d h0 hx9 → ∀ u0 u1 : Int32, jiv hx9 68 5 = u0 → jiv hx9 68 3 = u1 → (u0.toInt ≠ 3 ∨ u1.toInt ≤ 399) → dr.1 = v.toInt → dr.2 = vw hx9 → Q (some (.int v)) hx9) (k4 : ∀ (l2 : Int32) (l3 : Int32) (g0 : Int32) (g1 : Int32) (h : jH), 400 - l3.toInt < R4 → (-1) ≤ l2.toInt ∧ l2.toInt ≤ 4 → 0 ≤ l3.toInt ∧ l3.toInt ≤ 400 → 0 ≤ g0.toInt ∧ g0.toInt ≤ 400 → 0 ≤ g1.toInt ∧ g1.toInt ≤ 3 → (g1.toInt ≠ 3 ∨ g0.toInt ≤ 399) → jiv h 68 3 = g0 → jiv h 68 5 = g1 → jJ jSgX Dy h → jSm fp_X2_readSum_r95_c0d h0 h → K4 l2.toInt l3.toInt (vw h) = dr → jX m_X2_readSum 22 0 0 4 [(0, .ref 95), (1, .int 0), (2, .int l2), (3, .int l3)] [] h 0 0 Q) : ∀ r : Nat, ∀ (l2 : Int32) (l3 : Int32) (l4 : Int32) (l5 : Int32) (g0 : Int32) (g1 : Int32) (h : jH), 400 - l5.toInt < (r : Int) → (-1) ≤ l2.toInt ∧ l2.toInt ≤ 4 → 0 ≤ l3.toInt ∧ l3.toInt ≤ 399 → (-1) ≤ l4.toInt ∧ l4.toInt ≤ 6 → 0 ≤ l5.toInt ∧ l5.toInt ≤ 400 → 0 ≤ g0.toInt ∧ g0.toInt ≤ 400 → 0 ≤ g1.toInt ∧ g1.toInt ≤ 3 → (g1.toInt ≠ 3 ∨ g0.toInt ≤ 399) → jiv h 68 3 = g0 → jiv h 68 5 = g1 → 400 - l3.toInt ≤ R4 → jJ jSgX Dy h → jSm fp_X2_readSum_r95_c0d h0 h → d_X2_readSum_r95_c0d_17 K4 r l2.toInt l3.toInt l4.toInt l5.toInt (vw h) = dr → jX m_X2_readSum 22 0 0 17 [(0, .ref 95), (1, .int 0), (2, .int l2), (3, .int l3), (4, .int l4), (5, .int l5)] [] h 0 0 Q := by
  intro r
  induction r with
  | zero =>
    intro l2 l3 l4 l5 g0 g1 h hm y0 y1 y2 y3 y4 y5 y6 z0 z1 m4 J Sm D
    exfalso
    omega
  | succ r ih =>
    intro l2 l3 l4 l5 g0 g1 h hm y0 y1 y2 y3 y4 y5 y6 z0 z1 m4 J Sm D
    rw [d_X2_readSum_r95_c0d_17.eq_2] at D
    try rw [vrf z0] at D
    try rw [vrf z1] at D
    refine x_iload (x := l5) rfl rfl ?_
    refine x_sipush (v := 400) rfl ks_400 ?_
    refine x_icge (tgt := 105) rfl rfl (ti_ge rfl jk_400 ⟨fun c1 => ?_, fun c1 => ?_⟩)
    ·
      rw [if_pos (by omega)] at D
      exact jX.sub (jsb_c rfl (jsb_c rfl (jsb_c rfl (jsb_c rfl jsb_n)))) (ct_X2_readSum_r95_c0d_105 hD hQ k4 l2 l3 g0 g1 h (jr_of rfl (by omega)) (jr_of rfl (by omega)) (jr_of rfl (by omega)) (jr_of rfl (by omega)) (by omega) z0 z1 (by omega) J Sm D)
    ·
      rw [if_neg (by omega)] at D
      refine x_aloadn (x := 95) rfl rfl ?_
      refine x_iloadn (x := 0) rfl rfl ?_
      refine x_inv (N := m_X2_readFactor) (As := [.int 0]) (b := 95) (st := []) (dx9 := 21) (mc := 0) (ms := 0) (host := "") 2 rfl t_X2_readFactor ⟨Or.inl q_2_144, i_X2_readFactor.1, i_X2_readFactor.2⟩ ⟨by decide, rfl⟩ (congrArg Prod.fst (J.1.1 95 (2, 6) rfl)) rfl (by decide) rfl rfl ⟨by decide, by decide⟩ (sf_X2_readFactor_r95_c0d  hD J z1 z0 (by omega) rfl  (fun v7 h ev7 J S2 u3 u4 qu3 qu4 ru3 X5 X6 => ?_))
      have Sm := jSm_tr rfl Sm S2
      try rw [X5] at D
      try rw [X6] at D
      have eu3 := (show 0 ≤ u3.toInt ∧ u3.toInt ≤ 3 from qu3 ▸ jrg_f J sg_68_5_6_1_0_1)
      try rw [vrf qu3] at D
      have eu4 := (show 0 ≤ u4.toInt ∧ u4.toInt ≤ 400 from qu4 ▸ jrg_f J sg_68_3_4_1_0_1)
      try rw [vrf qu4] at D
      show jX m_X2_readSum 22 0 0 30 [(0, .ref 95), (1, .int 0), (2, .int l2), (3, .int l3), (4, .int l4), (5, .int l5)] [.int v7] _ 0 0 _
      refine x_ifne (tgt := 35) rfl rfl (ti_ne rfl jk_0 ⟨fun c8 => ?_, fun c8 => ?_⟩)
      ·
        rw [if_neg (by omega)] at D
        refine x_iload (x := l4) rfl rfl ?_
        refine x_iconst (v := (-1)) rfl ki_m1 ?_
        refine x_iceq (tgt := 47) rfl rfl (ti_eq rfl jk_m1 ⟨fun c9 => ?_, fun c9 => ?_⟩)
        ·
          rw [if_pos (by omega)] at D
          exact jX.sub (jsb_c rfl (jsb_c rfl (jsb_c rfl (jsb_c rfl (jsb_c rfl jsb_n))))) (ct_X2_readSum_r95_c0d_47 hD hQ k4 ih l2 l3 l5 u4 u3 h (jr_of rfl (by omega)) (jr_of rfl (by omega)) (jr_of rfl (by omega)) (jr_of rfl (by omega)) (jr_of rfl (by omega)) (by omega) qu4 qu3 (by omega) (by omega) J Sm D)
        ·
          rw [if_neg (by omega)] at D
          refine x_aloadn (x := 95) rfl rfl ?_
          refine x_iload (x := l4) rfl rfl ?_
          refine x_inv (N := m_X2_emit) (As := [.int l4]) (b := 95) (st := []) (dx9 := 1) (mc := 0) (ms := 0) (host := "") 2 rfl t_X2_emit ⟨Or.inl q_2_89, i_X2_emit.1, i_X2_emit.2⟩ ⟨by decide, rfl⟩ (congrArg Prod.fst (J.1.1 95 (2, 6) rfl)) rfl (by decide) rfl rfl ⟨by decide, by decide⟩ (sf_X2_emit_r95d  hD J rfl  (fun h J S10 X11 => ?_))
          have Sm := jSm_tr rfl Sm S10
          rw [X11] at D
          show jX m_X2_readSum 22 0 0 47 [(0, .ref 95), (1, .int 0), (2, .int l2), (3, .int l3), (4, .int l4), (5, .int l5)] [] _ 0 0 _
          exact jX.sub (jsb_c rfl (jsb_c rfl (jsb_c rfl (jsb_c rfl (jsb_c rfl jsb_n))))) (ct_X2_readSum_r95_c0d_47 hD hQ k4 ih l2 l3 l5 u4 u3 h (jr_of rfl (by omega)) (jr_of rfl (by omega)) (jr_of rfl (by omega)) (jr_of rfl (by omega)) (jr_of rfl (by omega)) (by omega) (jmc S10 rfl qu4) (jmc S10 rfl qu3) (by omega) (by omega) J Sm D)
      ·
        rw [if_pos (by omega)] at D
        refine x_iconst (v := 0) rfl ki_0 ?_
        refine x_zret rfl rfl (by decide) ?_
        exact hQ _ _ (jr_of jk_0 (by omega)) J Sm _ _ qu3 qu4 (by omega) ((congrArg Prod.fst D).symm.trans (show 0 = (0 : Int32).toInt from by have := jk_0; omega)) (congrArg Prod.snd D).symm
set_option maxRecDepth 100000 in
set_option maxHeartbeats 4000000 in
theorem ct_X2_readSum_r95_c0d_4 {Dy : jH → Prop} {h0 : jH} {Q : Option Value → jH → Prop} {dr : (Int × jW)} (hD : jDk Dy) (hQ : ∀ (v : Int32) hx9, 0 ≤ v.toInt ∧ v.toInt ≤ 1 → jJ jSgX Dy hx9 → jSm fp_X2_readSum_r95_c0d h0 hx9 → ∀ u0 u1 : Int32, jiv hx9 68 5 = u0 → jiv hx9 68 3 = u1 → (u0.toInt ≠ 3 ∨ u1.toInt ≤ 399) → dr.1 = v.toInt → dr.2 = vw hx9 → Q (some (.int v)) hx9) : ∀ r : Nat, ∀ (l2 : Int32) (l3 : Int32) (g0 : Int32) (g1 : Int32) (h : jH), 400 - l3.toInt < (r : Int) → (-1) ≤ l2.toInt ∧ l2.toInt ≤ 4 → 0 ≤ l3.toInt ∧ l3.toInt ≤ 400 → 0 ≤ g0.toInt ∧ g0.toInt ≤ 400 → 0 ≤ g1.toInt ∧ g1.toInt ≤ 3 → (g1.toInt ≠ 3 ∨ g0.toInt ≤ 399) → jiv h 68 3 = g0 → jiv h 68 5 = g1 → jJ jSgX Dy h → jSm fp_X2_readSum_r95_c0d h0 h → d_X2_readSum_r95_c0d_4 r l2.toInt l3.toInt (vw h) = dr → jX m_X2_readSum 22 0 0 4 [(0, .ref 95), (1, .int 0), (2, .int l2), (3, .int l3)] [] h 0 0 Q := by
  intro r
  induction r with
  | zero =>
    intro l2 l3 g0 g1 h hm y0 y1 y2 y3 y4 z0 z1  J Sm D
    exfalso
    omega
  | succ r ih =>
    intro l2 l3 g0 g1 h hm y0 y1 y2 y3 y4 z0 z1  J Sm D
    rw [d_X2_readSum_r95_c0d_4.eq_2] at D
    try rw [vrf z0] at D
    try rw [vrf z1] at D
    refine x_iloadn (x := l3) rfl rfl ?_
    refine x_sipush (v := 400) rfl ks_400 ?_
    refine x_icge (tgt := 169) rfl rfl (ti_ge rfl jk_400 ⟨fun c1 => ?_, fun c1 => ?_⟩)
    ·
      rw [if_pos (by omega)] at D
      refine x_aloadn (x := 95) rfl rfl ?_
      refine z_getR (N := 6) (b := 68) 2 0 rfl f_2_30 rfl J rfl 12160 ⟨rfl, rfl⟩ rfl ?_
      refine x_inv (N := m_X9_blame) (As := []) (b := 68) (st := []) (dx9 := 21) (mc := 0) (ms := 0) (host := "") 9 rfl t_X9_blame ⟨Or.inl q_2_59, i_X9_blame.1, i_X9_blame.2⟩ ⟨by decide, rfl⟩ (congrArg Prod.fst (J.1.1 68 (9, 6) rfl)) rfl (by decide) rfl rfl ⟨by decide, by decide⟩ (jC.of rfl k_X9_blame rfl ?_)
      show jX m_X9_blame 21 0 0 0 [(0, .ref 68)] [] _ 0 0 _
      refine x_aloadn (x := 68) rfl rfl ?_
      refine x_aloadn (x := 68) rfl rfl ?_
      refine z_getM (N := 6) (v := g0) 9 3 rfl f_9_22 rfl J rfl z0 ?_
      refine z_putI (N := 6) (w := g0.toInt) 9 2 rfl f_9_19 rfl (jfin_no TX9 RX9 6 rfl rfl) hD J Sm rfl rfl rfl (pw_68_2 (by omega)) rfl (fun h w2 J Sm => ?_)
      rw [vwf w2 (show g0.toInt = g0.toInt from by omega)] at D
      refine x_iconst (v := 0) rfl ki_0 ?_
      refine x_zret rfl rfl (by decide) ?_
      show jX m_X2_readSum 22 0 0 176 [(0, .ref 95), (1, .int 0), (2, .int l2), (3, .int l3)] [.int 0] _ 0 0 _
      refine x_zret rfl rfl (by decide) ?_
      exact hQ _ _ (jr_of jk_0 (by omega)) J Sm _ _ (jmo w2 rfl z1) (jmo w2 rfl z0) (by omega) ((congrArg Prod.fst D).symm.trans (show 0 = (0 : Int32).toInt from by have := jk_0; omega)) (congrArg Prod.snd D).symm
    ·
      rw [if_neg (by omega)] at D
      refine x_iconst (v := (-1)) rfl ki_m1 ?_
      refine x_istore (lsx9 := [(4, .int (-1)), (0, .ref 95), (1, .int 0), (2, .int l2), (3, .int l3)]) rfl rfl rfl ?_
      refine x_iconst (v := 0) rfl ki_0 ?_
      refine x_istore (lsx9 := [(5, .int 0), (4, .int (-1)), (0, .ref 95), (1, .int 0), (2, .int l2), (3, .int l3)]) rfl rfl rfl ?_
      exact jX.sub (jsb_c rfl (jsb_c rfl (jsb_c rfl (jsb_c rfl (jsb_c rfl (jsb_c rfl jsb_n)))))) (ct_X2_readSum_r95_c0d_17 hD hQ ih 401 l2 l3 (-1) 0 g0 g1 h (by have := jk_0; omega) (jr_of rfl (by omega)) (jr_of rfl (by omega)) (jr_of jk_m1 (by omega)) (jr_of jk_0 (by omega)) (jr_of rfl (by omega)) (jr_of rfl (by omega)) (by omega) z0 z1 (by omega) J Sm (by rw [jk_m1, jk_0]; exact D))
set_option maxRecDepth 100000 in
set_option maxHeartbeats 4000000 in
theorem sf_X2_readSum_r95_c0d {Dy : jH → Prop} {h : jH} {Q : Option Value → jH → Prop} {dr : (Int × jW)} (hD : jDk Dy) (J : jJ jSgX Dy h) {p0 p1 : Int32} (zp0 : jiv h 68 5 = p0) (zp1 : jiv h 68 3 = p1) (rl_p0 : (p0.toInt ≠ 3 ∨ p1.toInt ≤ 399)) (D : d_X2_readSum_r95_c0d (vw h) = dr) (hQ : ∀ (v : Int32) hx9, 0 ≤ v.toInt ∧ v.toInt ≤ 1 → jJ jSgX Dy hx9 → jSm fp_X2_readSum_r95_c0d h hx9 → ∀ u0 u1 : Int32, jiv hx9 68 5 = u0 → jiv hx9 68 3 = u1 → (u0.toInt ≠ 3 ∨ u1.toInt ≤ 399) → dr.1 = v.toInt → dr.2 = vw hx9 → Q (some (.int v)) hx9) : jC m_X2_readSum 22 0 0 [.ref 95, .int 0] h Q := by
  refine jC.of rfl k_X2_readSum rfl ?_
  have Sm := jSm_rf fp_X2_readSum_r95_c0d h
  have ep0 := (show 0 ≤ p0.toInt ∧ p0.toInt ≤ 3 from zp0 ▸ jrg_f J sg_68_5_6_1_0_1)
  have ep1 := (show 0 ≤ p1.toInt ∧ p1.toInt ≤ 400 from zp1 ▸ jrg_f J sg_68_3_4_1_0_1)
  show jX m_X2_readSum 22 0 0 0 [(0, .ref 95), (1, .int 0)] [] _ 0 0 _
  unfold d_X2_readSum_r95_c0d at D
  try rw [vrf zp0] at D
  try rw [vrf zp1] at D
  refine x_iconst (v := (-1)) rfl ki_m1 ?_
  refine x_istoren (lsx9 := [(2, .int (-1)), (0, .ref 95), (1, .int 0)]) rfl rfl rfl ?_
  refine x_iconst (v := 0) rfl ki_0 ?_
  refine x_istoren (lsx9 := [(3, .int 0), (2, .int (-1)), (0, .ref 95), (1, .int 0)]) rfl rfl rfl ?_
  exact jX.sub (jsb_c rfl (jsb_c rfl (jsb_c rfl (jsb_c rfl jsb_n)))) (ct_X2_readSum_r95_c0d_4 hD hQ  401 (-1) 0 p1 p0 h (by have := jk_0; omega) (jr_of jk_m1 (by omega)) (jr_of jk_0 (by omega)) (jr_of rfl (by omega)) (jr_of rfl (by omega)) (by omega) zp1 zp0 J Sm (by rw [jk_m1, jk_0]; exact D))
def fp_X2_land_r95d : jFp := [(97, 0, 1200)]
set_option maxRecDepth 100000 in
set_option maxHeartbeats 4000000 in
theorem ct_X2_land_r95d_22 {Dy : jH → Prop} {h0 : jH} {Q : Option Value → jH → Prop} {dr : jW} (hD : jDk Dy) (hQ : ∀ hx9, jJ jSgX Dy hx9 → jSm fp_X2_land_r95d h0 hx9 → dr = vw hx9 → Q none hx9) : ∀ (h : jH), jJ jSgX Dy h → jSm fp_X2_land_r95d h0 h → d_X2_land_r95d_22  (vw h) = dr → jX m_X2_land 1 0 0 22 [] [] h 0 0 Q := by
  intro  h    J Sm D
  unfold d_X2_land_r95d_22 at D
  refine x_vret rfl rfl ?_
  exact hQ _ J Sm D.symm
set_option maxRecDepth 100000 in
set_option maxHeartbeats 4000000 in
theorem sf_X2_land_r95d {Dy : jH → Prop} {h : jH} {Q : Option Value → jH → Prop} {dr : jW} {a1 : Int32} (y1 : (-1) ≤ a1.toInt ∧ a1.toInt ≤ 1199) (hD : jDk Dy) (J : jJ jSgX Dy h) (D : d_X2_land_r95d a1.toInt (vw h) = dr) (hQ : ∀ hx9, jJ jSgX Dy hx9 → jSm fp_X2_land_r95d h hx9 → dr = vw hx9 → Q none hx9) : jC m_X2_land 1 0 0 [.ref 95, .int a1] h Q := by
  refine jC.of rfl k_X2_land rfl ?_
  have Sm := jSm_rf fp_X2_land_r95d h
  show jX m_X2_land 1 0 0 0 [(0, .ref 95), (1, .int a1)] [] _ 0 0 _
  unfold d_X2_land_r95d at D
  refine x_iloadn (x := a1) rfl rfl ?_
  refine x_iflt (tgt := 22) rfl rfl (ti_lt rfl jk_0 ⟨fun c1 => ?_, fun c1 => ?_⟩)
  ·
    rw [if_pos (by omega)] at D
    exact jX.sub jsb_n (ct_X2_land_r95d_22 hD hQ  h J Sm D)
  ·
    rw [if_neg (by omega)] at D
    refine x_iloadn (x := a1) rfl rfl ?_
    refine x_aloadn (x := 95) rfl rfl ?_
    refine z_getI (N := 6) 2 4 rfl f_2_24 rfl J rfl sg_95_4_5_1_0_1 (fun v2 qv2 ev2 => ?_)
    try rw [vrf qv2] at D
    refine x_icge (tgt := 22) rfl rfl (ti_ge rfl rfl ⟨fun c3 => ?_, fun c3 => ?_⟩)
    ·
      rw [if_pos (by omega)] at D
      exact jX.sub jsb_n (ct_X2_land_r95d_22 hD hQ  h J Sm D)
    ·
      rw [if_neg (by omega)] at D
      refine x_aloadn (x := 95) rfl rfl ?_
      refine z_getR (N := 6) (b := 97) 2 2 rfl f_2_17 rfl J rfl 12162 ⟨rfl, rfl⟩ rfl ?_
      refine x_iloadn (x := a1) rfl rfl ?_
      refine x_aloadn (x := 95) rfl rfl ?_
      refine z_getM (N := 6) (v := v2) 2 4 rfl f_2_24 rfl J rfl qv2 ?_
      refine z_iast (N := 1200) (l := 0) (u := 1200) (w := v2.toInt) rfl hD J Sm rfl rfl rfl (by omega) rfl (wr_97) rfl (fun h w4 J Sm => ?_)
      rw [vww w4 (show a1.toInt = a1.toInt from by omega) (show v2.toInt = v2.toInt from by omega)] at D
      exact jX.sub jsb_n (ct_X2_land_r95d_22 hD hQ  h J Sm D)
def fp_X2_leap_r95d : jFp := [(95, 4, 5), (97, 0, 1200)]
set_option maxRecDepth 100000 in
set_option maxHeartbeats 4000000 in
theorem sf_X2_leap_r95d {Dy : jH → Prop} {h : jH} {Q : Option Value → jH → Prop} {dr : (Int × jW)} {a1 : Int32} (y1 : 11 ≤ a1.toInt ∧ a1.toInt ≤ 12) (hD : jDk Dy) (J : jJ jSgX Dy h) (D : d_X2_leap_r95d a1.toInt (vw h) = dr) (hQ : ∀ (v : Int32) hx9, (-1) ≤ v.toInt ∧ v.toInt ≤ 1199 → jJ jSgX Dy hx9 → jSm fp_X2_leap_r95d h hx9 → dr.1 = v.toInt → dr.2 = vw hx9 → Q (some (.int v)) hx9) : jC m_X2_leap 2 0 0 [.ref 95, .int a1] h Q := by
  refine jC.of rfl k_X2_leap rfl ?_
  have Sm := jSm_rf fp_X2_leap_r95d h
  show jX m_X2_leap 2 0 0 0 [(0, .ref 95), (1, .int a1)] [] _ 0 0 _
  unfold d_X2_leap_r95d at D
  refine x_aloadn (x := 95) rfl rfl ?_
  refine x_iloadn (x := a1) rfl rfl ?_
  refine x_inv (N := m_X2_emit) (As := [.int a1]) (b := 95) (st := []) (dx9 := 1) (mc := 0) (ms := 0) (host := "") 2 rfl t_X2_emit ⟨Or.inl q_2_89, i_X2_emit.1, i_X2_emit.2⟩ ⟨by decide, rfl⟩ (congrArg Prod.fst (J.1.1 95 (2, 6) rfl)) rfl (by decide) rfl rfl ⟨by decide, by decide⟩ (sf_X2_emit_r95d  hD J rfl  (fun h J S1 X2 => ?_))
  have Sm := jSm_tr rfl Sm S1
  rw [X2] at D
  show jX m_X2_leap 2 0 0 5 [(0, .ref 95), (1, .int a1)] [] _ 0 0 _
  refine x_aloadn (x := 95) rfl rfl ?_
  refine x_iconst (v := 0) rfl ki_0 ?_
  refine x_inv (N := m_X2_emit) (As := [.int 0]) (b := 95) (st := []) (dx9 := 1) (mc := 0) (ms := 0) (host := "") 2 rfl t_X2_emit ⟨Or.inl q_2_89, i_X2_emit.1, i_X2_emit.2⟩ ⟨by decide, rfl⟩ (congrArg Prod.fst (J.1.1 95 (2, 6) rfl)) rfl (by decide) rfl rfl ⟨by decide, by decide⟩ (sf_X2_emit_r95d  hD J rfl  (fun h J S3 X4 => ?_))
  have Sm := jSm_tr rfl Sm S3
  try rw [jk_0] at X4
  rw [X4] at D
  show jX m_X2_leap 2 0 0 10 [(0, .ref 95), (1, .int a1)] [] _ 0 0 _
  refine x_aloadn (x := 95) rfl rfl ?_
  refine z_getI (N := 6) 2 4 rfl f_2_24 rfl J rfl sg_95_4_5_1_0_1 (fun v5 qv5 ev5 => ?_)
  try rw [vrf qv5] at D
  refine x_iconst (v := 1) rfl ki_1 ?_
  refine z_isub rfl rfl jk_1 (by omega) (fun v6 ev6 => ?_)
  refine x_iret rfl rfl ?_
  exact hQ _ _ (jr_of rfl (by omega)) J Sm ((congrArg Prod.fst D).symm.trans (show (v5.toInt - 1) = v6.toInt from by omega)) (congrArg Prod.snd D).symm
def fp_X9_wordOf_r68_r14d : jFp := []
set_option maxRecDepth 100000 in
set_option maxHeartbeats 4000000 in
theorem ct_X9_wordOf_r68_r14d_110 {Dy : jH → Prop} {h0 : jH} {Q : Option Value → jH → Prop} {dr : Int} {K23 : Int → Int → Int → Int → jW → Int} {R23 : Int} (hD : jDk Dy) (hQ : ∀ (v : Int32) hx9, jJ jSgX Dy hx9 → jSm fp_X9_wordOf_r68_r14d h0 hx9 → dr = v.toInt → vw hx9 = vw h0 → Q (some (.int v)) hx9) (k23 : ∀ (l2 : Int32) (l3 : Int32) (l4 : Int32) (l5 : Int32) (g0 : Int32) (h : jH), 4 - l5.toInt < R23 → 0 ≤ l3.toInt ∧ l3.toInt ≤ 404 → 0 ≤ l4.toInt ∧ l4.toInt ≤ 1 → 0 ≤ l5.toInt ∧ l5.toInt ≤ 4 → 0 ≤ g0.toInt ∧ g0.toInt ≤ 400 → l3.toInt - l5.toInt ≤ 400 → jiv h 68 3 = g0 → jJ jSgX Dy h → jSm fp_X9_wordOf_r68_r14d h0 h → K23 l2.toInt l3.toInt l4.toInt l5.toInt (vw h) = dr → vw h = vw h0 → jX m_X9_wordOf 4 0 0 23 [(0, .ref 68), (1, .ref 14), (2, .int l2), (3, .int l3), (4, .int l4), (5, .int l5)] [] h 0 0 Q) : ∀ (l2 : Int32) (l3 : Int32) (l4 : Int32) (l5 : Int32) (g0 : Int32) (h : jH), 0 ≤ l3.toInt ∧ l3.toInt ≤ 404 → 0 ≤ l4.toInt ∧ l4.toInt ≤ 1 → 0 ≤ l5.toInt ∧ l5.toInt ≤ 3 → 0 ≤ g0.toInt ∧ g0.toInt ≤ 400 → l3.toInt - l5.toInt ≤ 401 → jiv h 68 3 = g0 → 4 - l5.toInt ≤ R23 → jJ jSgX Dy h → jSm fp_X9_wordOf_r68_r14d h0 h → d_X9_wordOf_r68_r14d_110 K23  l2.toInt l3.toInt l4.toInt l5.toInt (vw h) = dr → vw h = vw h0 → jX m_X9_wordOf 4 0 0 110 [(0, .ref 68), (1, .ref 14), (2, .int l2), (3, .int l3), (4, .int l4), (5, .int l5)] [] h 0 0 Q := by
  intro l2 l3 l4 l5 g0 h y0 y1 y2 y3 y4 z0 m23 J Sm D EV
  have el2 := jfull l2
  unfold d_X9_wordOf_r68_r14d_110 at D
  try rw [vrf z0] at D
  refine z_iinc (x := l5) (lsx9 := fun v1 => [(5, .int v1), (0, .ref 68), (1, .ref 14), (2, .int l2), (3, .int l3), (4, .int l4)]) rfl rfl rfl jko_1 (by omega) rfl (fun _ => rfl) (fun v1 ev1 => ?_)
  refine x_goto (tgt := 23) rfl rfl ?_
  try rw [show (l5.toInt + 1) = v1.toInt from by omega] at D
  exact jX.sub (jsb_c rfl (jsb_c rfl (jsb_c rfl (jsb_c rfl (jsb_c rfl (jsb_c rfl jsb_n)))))) (k23 l2 l3 l4 v1 g0 h (by omega) (jr_of rfl (by omega)) (jr_of rfl (by omega)) (jr_of rfl (by omega)) (jr_of rfl (by omega)) (by omega) z0 J Sm D EV)
set_option maxRecDepth 100000 in
set_option maxHeartbeats 4000000 in
theorem ct_X9_wordOf_r68_r14d_300105 {Dy : jH → Prop} {h0 : jH} {Q : Option Value → jH → Prop} {dr : Int} {K23 : Int → Int → Int → Int → jW → Int} {R23 : Int} (hD : jDk Dy) (hQ : ∀ (v : Int32) hx9, jJ jSgX Dy hx9 → jSm fp_X9_wordOf_r68_r14d h0 hx9 → dr = v.toInt → vw hx9 = vw h0 → Q (some (.int v)) hx9) (k23 : ∀ (l2 : Int32) (l3 : Int32) (l4 : Int32) (l5 : Int32) (g0 : Int32) (h : jH), 4 - l5.toInt < R23 → 0 ≤ l3.toInt ∧ l3.toInt ≤ 404 → 0 ≤ l4.toInt ∧ l4.toInt ≤ 1 → 0 ≤ l5.toInt ∧ l5.toInt ≤ 4 → 0 ≤ g0.toInt ∧ g0.toInt ≤ 400 → l3.toInt - l5.toInt ≤ 400 → jiv h 68 3 = g0 → jJ jSgX Dy h → jSm fp_X9_wordOf_r68_r14d h0 h → K23 l2.toInt l3.toInt l4.toInt l5.toInt (vw h) = dr → vw h = vw h0 → jX m_X9_wordOf 4 0 0 23 [(0, .ref 68), (1, .ref 14), (2, .int l2), (3, .int l3), (4, .int l4), (5, .int l5)] [] h 0 0 Q) : ∀ (l2 : Int32) (l3 : Int32) (l5 : Int32) (g0 : Int32) (h : jH), 0 ≤ l3.toInt ∧ l3.toInt ≤ 399 → 0 ≤ l5.toInt ∧ l5.toInt ≤ 3 → 0 ≤ g0.toInt ∧ g0.toInt ≤ 400 → l3.toInt - l5.toInt ≤ 400 → jiv h 68 3 = g0 → 4 - l5.toInt ≤ R23 → jJ jSgX Dy h → jSm fp_X9_wordOf_r68_r14d h0 h → d_X9_wordOf_r68_r14d_300105 K23  l2.toInt l3.toInt l5.toInt (vw h) = dr → vw h = vw h0 → jX m_X9_wordOf 4 0 0 105 [(0, .ref 68), (1, .ref 14), (2, .int l2), (3, .int l3), (5, .int l5)] [.int 1] h 0 0 Q := by
  intro l2 l3 l5 g0 h y0 y1 y2 y3 z0 m23 J Sm D EV
  have el2 := jfull l2
  unfold d_X9_wordOf_r68_r14d_300105 at D
  try rw [vrf z0] at D
  refine x_istore (lsx9 := [(4, .int 1), (0, .ref 68), (1, .ref 14), (2, .int l2), (3, .int l3), (5, .int l5)]) rfl rfl rfl ?_
  refine z_iinc (x := l3) (lsx9 := fun v1 => [(3, .int v1), (4, .int 1), (0, .ref 68), (1, .ref 14), (2, .int l2), (5, .int l5)]) rfl rfl rfl jko_1 (by omega) rfl (fun _ => rfl) (fun v1 ev1 => ?_)
  try rw [show (l3.toInt + 1) = v1.toInt from by omega] at D
  exact jX.sub (jsb_c rfl (jsb_c rfl (jsb_c rfl (jsb_c rfl (jsb_c rfl (jsb_c rfl jsb_n)))))) (ct_X9_wordOf_r68_r14d_110 hD hQ k23 l2 v1 1 l5 g0 h (jr_of rfl (by omega)) (jr_of jk_1 (by omega)) (jr_of rfl (by omega)) (jr_of rfl (by omega)) (by omega) z0 (by omega) J Sm (by rw [jk_1]; exact D) EV)
set_option maxRecDepth 100000 in
set_option maxHeartbeats 4000000 in
theorem ct_X9_wordOf_r68_r14d_200105 {Dy : jH → Prop} {h0 : jH} {Q : Option Value → jH → Prop} {dr : Int} {K23 : Int → Int → Int → Int → jW → Int} {R23 : Int} (hD : jDk Dy) (hQ : ∀ (v : Int32) hx9, jJ jSgX Dy hx9 → jSm fp_X9_wordOf_r68_r14d h0 hx9 → dr = v.toInt → vw hx9 = vw h0 → Q (some (.int v)) hx9) (k23 : ∀ (l2 : Int32) (l3 : Int32) (l4 : Int32) (l5 : Int32) (g0 : Int32) (h : jH), 4 - l5.toInt < R23 → 0 ≤ l3.toInt ∧ l3.toInt ≤ 404 → 0 ≤ l4.toInt ∧ l4.toInt ≤ 1 → 0 ≤ l5.toInt ∧ l5.toInt ≤ 4 → 0 ≤ g0.toInt ∧ g0.toInt ≤ 400 → l3.toInt - l5.toInt ≤ 400 → jiv h 68 3 = g0 → jJ jSgX Dy h → jSm fp_X9_wordOf_r68_r14d h0 h → K23 l2.toInt l3.toInt l4.toInt l5.toInt (vw h) = dr → vw h = vw h0 → jX m_X9_wordOf 4 0 0 23 [(0, .ref 68), (1, .ref 14), (2, .int l2), (3, .int l3), (4, .int l4), (5, .int l5)] [] h 0 0 Q) : ∀ (l2 : Int32) (l3 : Int32) (l5 : Int32) (g0 : Int32) (h : jH), 0 ≤ l3.toInt ∧ l3.toInt ≤ 403 → 0 ≤ l5.toInt ∧ l5.toInt ≤ 3 → 0 ≤ g0.toInt ∧ g0.toInt ≤ 400 → l3.toInt - l5.toInt ≤ 400 → jiv h 68 3 = g0 → 4 - l5.toInt ≤ R23 → jJ jSgX Dy h → jSm fp_X9_wordOf_r68_r14d h0 h → d_X9_wordOf_r68_r14d_200105 K23  l2.toInt l3.toInt l5.toInt (vw h) = dr → vw h = vw h0 → jX m_X9_wordOf 4 0 0 105 [(0, .ref 68), (1, .ref 14), (2, .int l2), (3, .int l3), (5, .int l5)] [.int 0] h 0 0 Q := by
  intro l2 l3 l5 g0 h y0 y1 y2 y3 z0 m23 J Sm D EV
  have el2 := jfull l2
  unfold d_X9_wordOf_r68_r14d_200105 at D
  try rw [vrf z0] at D
  refine x_istore (lsx9 := [(4, .int 0), (0, .ref 68), (1, .ref 14), (2, .int l2), (3, .int l3), (5, .int l5)]) rfl rfl rfl ?_
  refine z_iinc (x := l3) (lsx9 := fun v1 => [(3, .int v1), (4, .int 0), (0, .ref 68), (1, .ref 14), (2, .int l2), (5, .int l5)]) rfl rfl rfl jko_1 (by omega) rfl (fun _ => rfl) (fun v1 ev1 => ?_)
  try rw [show (l3.toInt + 1) = v1.toInt from by omega] at D
  exact jX.sub (jsb_c rfl (jsb_c rfl (jsb_c rfl (jsb_c rfl (jsb_c rfl (jsb_c rfl jsb_n)))))) (ct_X9_wordOf_r68_r14d_110 hD hQ k23 l2 v1 0 l5 g0 h (jr_of rfl (by omega)) (jr_of jk_0 (by omega)) (jr_of rfl (by omega)) (jr_of rfl (by omega)) (by omega) z0 (by omega) J Sm (by rw [jk_0]; exact D) EV)
set_option maxRecDepth 100000 in
set_option maxHeartbeats 4000000 in
theorem ct_X9_wordOf_r68_r14d_104 {Dy : jH → Prop} {h0 : jH} {Q : Option Value → jH → Prop} {dr : Int} {K23 : Int → Int → Int → Int → jW → Int} {R23 : Int} (hD : jDk Dy) (hQ : ∀ (v : Int32) hx9, jJ jSgX Dy hx9 → jSm fp_X9_wordOf_r68_r14d h0 hx9 → dr = v.toInt → vw hx9 = vw h0 → Q (some (.int v)) hx9) (k23 : ∀ (l2 : Int32) (l3 : Int32) (l4 : Int32) (l5 : Int32) (g0 : Int32) (h : jH), 4 - l5.toInt < R23 → 0 ≤ l3.toInt ∧ l3.toInt ≤ 404 → 0 ≤ l4.toInt ∧ l4.toInt ≤ 1 → 0 ≤ l5.toInt ∧ l5.toInt ≤ 4 → 0 ≤ g0.toInt ∧ g0.toInt ≤ 400 → l3.toInt - l5.toInt ≤ 400 → jiv h 68 3 = g0 → jJ jSgX Dy h → jSm fp_X9_wordOf_r68_r14d h0 h → K23 l2.toInt l3.toInt l4.toInt l5.toInt (vw h) = dr → vw h = vw h0 → jX m_X9_wordOf 4 0 0 23 [(0, .ref 68), (1, .ref 14), (2, .int l2), (3, .int l3), (4, .int l4), (5, .int l5)] [] h 0 0 Q) : ∀ (l2 : Int32) (l3 : Int32) (l5 : Int32) (g0 : Int32) (h : jH), 0 ≤ l3.toInt ∧ l3.toInt ≤ 403 → 0 ≤ l5.toInt ∧ l5.toInt ≤ 3 → 0 ≤ g0.toInt ∧ g0.toInt ≤ 400 → l3.toInt - l5.toInt ≤ 400 → jiv h 68 3 = g0 → 4 - l5.toInt ≤ R23 → jJ jSgX Dy h → jSm fp_X9_wordOf_r68_r14d h0 h → d_X9_wordOf_r68_r14d_104 K23  l2.toInt l3.toInt l5.toInt (vw h) = dr → vw h = vw h0 → jX m_X9_wordOf 4 0 0 104 [(0, .ref 68), (1, .ref 14), (2, .int l2), (3, .int l3), (5, .int l5)] [] h 0 0 Q := by
  intro l2 l3 l5 g0 h y0 y1 y2 y3 z0 m23 J Sm D EV
  have el2 := jfull l2
  unfold d_X9_wordOf_r68_r14d_104 at D
  try rw [vrf z0] at D
  refine x_iconst (v := 0) rfl ki_0 ?_
  exact jX.sub (jsb_c rfl (jsb_c rfl (jsb_c rfl (jsb_c rfl (jsb_c rfl jsb_n))))) (ct_X9_wordOf_r68_r14d_200105 hD hQ k23 l2 l3 l5 g0 h (jr_of rfl (by omega)) (jr_of rfl (by omega)) (jr_of rfl (by omega)) (by omega) z0 (by omega) J Sm D EV)
set_option maxRecDepth 100000 in
set_option maxHeartbeats 4000000 in
theorem ct_X9_wordOf_r68_r14d_62 {Dy : jH → Prop} {h0 : jH} {Q : Option Value → jH → Prop} {dr : Int} {K23 : Int → Int → Int → Int → jW → Int} {R23 : Int} (hD : jDk Dy) (hQ : ∀ (v : Int32) hx9, jJ jSgX Dy hx9 → jSm fp_X9_wordOf_r68_r14d h0 hx9 → dr = v.toInt → vw hx9 = vw h0 → Q (some (.int v)) hx9) (k23 : ∀ (l2 : Int32) (l3 : Int32) (l4 : Int32) (l5 : Int32) (g0 : Int32) (h : jH), 4 - l5.toInt < R23 → 0 ≤ l3.toInt ∧ l3.toInt ≤ 404 → 0 ≤ l4.toInt ∧ l4.toInt ≤ 1 → 0 ≤ l5.toInt ∧ l5.toInt ≤ 4 → 0 ≤ g0.toInt ∧ g0.toInt ≤ 400 → l3.toInt - l5.toInt ≤ 400 → jiv h 68 3 = g0 → jJ jSgX Dy h → jSm fp_X9_wordOf_r68_r14d h0 h → K23 l2.toInt l3.toInt l4.toInt l5.toInt (vw h) = dr → vw h = vw h0 → jX m_X9_wordOf 4 0 0 23 [(0, .ref 68), (1, .ref 14), (2, .int l2), (3, .int l3), (4, .int l4), (5, .int l5)] [] h 0 0 Q) : ∀ (l2 : Int32) (l5 : Int32) (g0 : Int32) (h : jH), 0 ≤ l5.toInt ∧ l5.toInt ≤ 3 → 0 ≤ g0.toInt ∧ g0.toInt ≤ 400 → jiv h 68 3 = g0 → 4 - l5.toInt ≤ R23 → jJ jSgX Dy h → jSm fp_X9_wordOf_r68_r14d h0 h → d_X9_wordOf_r68_r14d_62 K23  l2.toInt l5.toInt (vw h) = dr → vw h = vw h0 → jX m_X9_wordOf 4 0 0 62 [(0, .ref 68), (1, .ref 14), (2, .int l2), (5, .int l5)] [] h 0 0 Q := by
  intro l2 l5 g0 h y0 y1 z0 m23 J Sm D EV
  have el2 := jfull l2
  unfold d_X9_wordOf_r68_r14d_62 at D
  try rw [vrf z0] at D
  refine z_iincW (x := l2) (lsx9 := fun v1 => [(2, .int v1), (0, .ref 68), (1, .ref 14), (5, .int l5)]) rfl rfl rfl jko_1 rfl (fun _ => rfl) (fun v1 ev1 => ?_)
  have fv1 := jfull v1
  try rw [← ev1] at D
  refine x_aloadn (x := 68) rfl rfl ?_
  refine z_getM (N := 6) (v := g0) 9 3 rfl f_9_22 rfl J rfl z0 ?_
  refine x_istoren (lsx9 := [(3, .int g0), (2, .int v1), (0, .ref 68), (1, .ref 14), (5, .int l5)]) rfl rfl rfl ?_
  refine x_iconst (v := 1) rfl ki_1 ?_
  refine x_istore (lsx9 := [(4, .int 1), (3, .int g0), (2, .int v1), (0, .ref 68), (1, .ref 14), (5, .int l5)]) rfl rfl rfl ?_
  refine x_goto (tgt := 110) rfl rfl ?_
  exact jX.sub (jsb_c rfl (jsb_c rfl (jsb_c rfl (jsb_c rfl (jsb_c rfl (jsb_c rfl jsb_n)))))) (ct_X9_wordOf_r68_r14d_110 hD hQ k23 v1 g0 1 l5 g0 h (jr_of rfl (by omega)) (jr_of jk_1 (by omega)) (jr_of rfl (by omega)) (jr_of rfl (by omega)) (by omega) z0 (by omega) J Sm (by rw [jk_1]; exact D) EV)
set_option maxRecDepth 100000 in
set_option maxHeartbeats 4000000 in
theorem ct_X9_wordOf_r68_r14d_23 {Dy : jH → Prop} {h0 : jH} {Q : Option Value → jH → Prop} {dr : Int} (hD : jDk Dy) (hQ : ∀ (v : Int32) hx9, jJ jSgX Dy hx9 → jSm fp_X9_wordOf_r68_r14d h0 hx9 → dr = v.toInt → vw hx9 = vw h0 → Q (some (.int v)) hx9) : ∀ r : Nat, ∀ (l2 : Int32) (l3 : Int32) (l4 : Int32) (l5 : Int32) (g0 : Int32) (h : jH), 4 - l5.toInt < (r : Int) → 0 ≤ l3.toInt ∧ l3.toInt ≤ 404 → 0 ≤ l4.toInt ∧ l4.toInt ≤ 1 → 0 ≤ l5.toInt ∧ l5.toInt ≤ 4 → 0 ≤ g0.toInt ∧ g0.toInt ≤ 400 → l3.toInt - l5.toInt ≤ 400 → jiv h 68 3 = g0 → jJ jSgX Dy h → jSm fp_X9_wordOf_r68_r14d h0 h → d_X9_wordOf_r68_r14d_23 r l2.toInt l3.toInt l4.toInt l5.toInt (vw h) = dr → vw h = vw h0 → jX m_X9_wordOf 4 0 0 23 [(0, .ref 68), (1, .ref 14), (2, .int l2), (3, .int l3), (4, .int l4), (5, .int l5)] [] h 0 0 Q := by
  intro r
  induction r with
  | zero =>
    intro l2 l3 l4 l5 g0 h hm y0 y1 y2 y3 y4 z0  J Sm D EV
    exfalso
    have el2 := jfull l2
    omega
  | succ r ih =>
    intro l2 l3 l4 l5 g0 h hm y0 y1 y2 y3 y4 z0  J Sm D EV
    have el2 := jfull l2
    rw [d_X9_wordOf_r68_r14d_23.eq_2] at D
    try rw [vrf z0] at D
    refine x_iload (x := l5) rfl rfl ?_
    refine x_aloadn (x := 14) rfl rfl ?_
    refine x_invS (N := m_J0_length_8abf5) (i := 9) (As := []) (st := [.int l5]) (dx9 := 1) (by decide) rfl t_J0_length_8abf5 ⟨q_9_38, i_J0_length_8abf5.1, i_J0_length_8abf5.2⟩ rfl rfl (by decide) rfl rfl (zc_slen (N := 4) (v := 4) rfl J rfl rfl (by decide) ?_)
    show jX m_X9_wordOf 4 0 0 29 [(0, .ref 68), (1, .ref 14), (2, .int l2), (3, .int l3), (4, .int l4), (5, .int l5)] [.int 4, .int l5] _ 0 0 _
    refine x_icge (tgt := 116) rfl rfl (ti_ge rfl jk_4 ⟨fun c1 => ?_, fun c1 => ?_⟩)
    ·
      rw [if_pos (by omega)] at D
      refine x_iconst (v := (-1)) rfl ki_m1 ?_
      refine x_iret rfl rfl ?_
      exact hQ _ _ J Sm (D.symm.trans (show (-1) = ((-1) : Int32).toInt from by have := jk_m1; omega)) EV
    ·
      rw [if_neg (by omega)] at D
      refine x_aloadn (x := 14) rfl rfl ?_
      refine x_iload (x := l5) rfl rfl ?_
      refine x_invS (N := m_J0_charAt_5068e) (i := 9) (As := [.int l5]) (st := []) (dx9 := 3) (by decide) rfl t_J0_charAt_5068e ⟨q_9_43, i_J0_charAt_5068e.1, i_J0_charAt_5068e.2⟩ rfl rfl (by decide) rfl rfl (zc_scharD (N := 4) rfl J rfl rfl rfl (by omega) (fun v2 ev2 => ?_))
      try rw [← ev2.1] at D
      show jX m_X9_wordOf 4 0 0 38 [(0, .ref 68), (1, .ref 14), (2, .int l2), (3, .int l3), (4, .int l4), (5, .int l5)] [.int v2] _ 0 0 _
      refine x_istore (lsx9 := [(6, .int v2), (0, .ref 68), (1, .ref 14), (2, .int l2), (3, .int l3), (4, .int l4), (5, .int l5)]) rfl rfl rfl ?_
      refine x_iload (x := v2) rfl rfl ?_
      refine x_bipush (v := 32) rfl kb_32 ?_
      refine x_icne (tgt := 76) rfl rfl (ti_ne rfl jk_32 ⟨fun c3 => ?_, fun c3 => ?_⟩)
      ·
        rw [if_neg (by omega)] at D
        refine x_iload (x := l4) rfl rfl ?_
        refine x_ifeq (tgt := 104) rfl rfl (ti_eq rfl jk_0 ⟨fun c4 => ?_, fun c4 => ?_⟩)
        ·
          rw [if_pos (by omega)] at D
          exact jX.sub (jsb_c rfl (jsb_c rfl (jsb_c rfl (jsb_c rfl (jsb_c rfl jsb_n))))) (ct_X9_wordOf_r68_r14d_104 hD hQ ih l2 l3 l5 g0 h (jr_of rfl (by omega)) (jr_of rfl (by omega)) (jr_of rfl (by omega)) (by omega) z0 (by omega) J Sm D EV)
        ·
          rw [if_neg (by omega)] at D
          refine x_iloadn (x := l3) rfl rfl ?_
          refine x_aloadn (x := 68) rfl rfl ?_
          refine z_getI (N := 6) 9 4 rfl f_9_25 rfl J rfl sg_68_4_5_1_0_1 (fun v5 qv5 ev5 => ?_)
          try rw [vrf qv5] at D
          refine x_icge (tgt := 104) rfl rfl (ti_ge rfl rfl ⟨fun c6 => ?_, fun c6 => ?_⟩)
          ·
            rw [if_pos (by omega)] at D
            exact jX.sub (jsb_c rfl (jsb_c rfl (jsb_c rfl (jsb_c rfl (jsb_c rfl jsb_n))))) (ct_X9_wordOf_r68_r14d_104 hD hQ ih l2 l3 l5 g0 h (jr_of rfl (by omega)) (jr_of rfl (by omega)) (jr_of rfl (by omega)) (by omega) z0 (by omega) J Sm D EV)
          ·
            rw [if_neg (by omega)] at D
            refine x_aloadn (x := 68) rfl rfl ?_
            refine z_getR (N := 6) (b := 69) 9 0 rfl f_9_11 rfl J rfl 8704 ⟨rfl, rfl⟩ rfl ?_
            refine x_iloadn (x := l3) rfl rfl ?_
            refine z_iald (N := 400) rfl J rfl sg_69_0_400_1_0_1 rfl (by omega) (fun v7 qv7 ev7 => ?_)
            try rw [vrd qv7 (show l3.toInt = l3.toInt from by omega)] at D
            refine x_iload (x := v2) rfl rfl ?_
            refine x_icne (tgt := 104) rfl rfl (ti_ne rfl rfl ⟨fun c8 => ?_, fun c8 => ?_⟩)
            ·
              rw [if_neg (by omega)] at D
              exact jX.sub (jsb_c rfl (jsb_c rfl (jsb_c rfl (jsb_c rfl (jsb_c rfl jsb_n))))) (ct_X9_wordOf_r68_r14d_104 hD hQ ih l2 l3 l5 g0 h (jr_of rfl (by omega)) (jr_of rfl (by omega)) (jr_of rfl (by omega)) (by omega) z0 (by omega) J Sm D EV)
            ·
              rw [if_pos (by omega)] at D
              refine x_iconst (v := 1) rfl ki_1 ?_
              refine x_goto (tgt := 105) rfl rfl ?_
              exact jX.sub (jsb_c rfl (jsb_c rfl (jsb_c rfl (jsb_c rfl (jsb_c rfl jsb_n))))) (ct_X9_wordOf_r68_r14d_300105 hD hQ ih l2 l3 l5 g0 h (jr_of rfl (by omega)) (jr_of rfl (by omega)) (jr_of rfl (by omega)) (by omega) z0 (by omega) J Sm D EV)
      ·
        rw [if_pos (by omega)] at D
        refine x_iload (x := l4) rfl rfl ?_
        refine x_ifeq (tgt := 62) rfl rfl (ti_eq rfl jk_0 ⟨fun c9 => ?_, fun c9 => ?_⟩)
        ·
          rw [if_pos (by omega)] at D
          exact jX.sub (jsb_c rfl (jsb_c rfl (jsb_c rfl (jsb_c rfl jsb_n)))) (ct_X9_wordOf_r68_r14d_62 hD hQ ih l2 l5 g0 h (jr_of rfl (by omega)) (jr_of rfl (by omega)) z0 (by omega) J Sm D EV)
        ·
          rw [if_neg (by omega)] at D
          refine x_iloadn (x := l3) rfl rfl ?_
          refine x_aloadn (x := 68) rfl rfl ?_
          refine z_getI (N := 6) 9 4 rfl f_9_25 rfl J rfl sg_68_4_5_1_0_1 (fun v10 qv10 ev10 => ?_)
          try rw [vrf qv10] at D
          refine x_icne (tgt := 62) rfl rfl (ti_ne rfl rfl ⟨fun c11 => ?_, fun c11 => ?_⟩)
          ·
            rw [if_neg (by omega)] at D
            exact jX.sub (jsb_c rfl (jsb_c rfl (jsb_c rfl (jsb_c rfl jsb_n)))) (ct_X9_wordOf_r68_r14d_62 hD hQ ih l2 l5 g0 h (jr_of rfl (by omega)) (jr_of rfl (by omega)) z0 (by omega) J Sm D EV)
          ·
            rw [if_pos (by omega)] at D
            refine x_iloadn (x := l2) rfl rfl ?_
            refine x_iret rfl rfl ?_
            exact hQ _ _ J Sm (D.symm.trans (show l2.toInt = l2.toInt from by omega)) EV
set_option maxRecDepth 100000 in
set_option maxHeartbeats 4000000 in
theorem sf_X9_wordOf_r68_r14d {Dy : jH → Prop} {h : jH} {Q : Option Value → jH → Prop} {dr : Int} (hD : jDk Dy) (J : jJ jSgX Dy h) (D : d_X9_wordOf_r68_r14d (vw h) = dr) (hQ : ∀ (v : Int32) hx9, jJ jSgX Dy hx9 → jSm fp_X9_wordOf_r68_r14d h hx9 → dr = v.toInt → vw hx9 = vw h → Q (some (.int v)) hx9) : jC m_X9_wordOf 4 0 0 [.ref 68, .ref 14] h Q := by
  refine jC.of rfl k_X9_wordOf rfl ?_
  have Sm := jSm_rf fp_X9_wordOf_r68_r14d h
  show jX m_X9_wordOf 4 0 0 0 [(0, .ref 68), (1, .ref 14)] [] _ 0 0 _
  unfold d_X9_wordOf_r68_r14d at D
  have EV : vw h = vw h := rfl
  refine x_aloadn (x := 68) rfl rfl ?_
  refine z_getI (N := 6) 9 5 rfl f_9_28 rfl J rfl sg_68_5_6_1_0_1 (fun v1 qv1 ev1 => ?_)
  try rw [vrf qv1] at D
  refine x_iconst (v := 1) rfl ki_1 ?_
  refine x_iceq (tgt := 10) rfl rfl (ti_eq rfl jk_1 ⟨fun c2 => ?_, fun c2 => ?_⟩)
  ·
    rw [if_pos (by omega)] at D
    refine x_iconst (v := 0) rfl ki_0 ?_
    refine x_istoren (lsx9 := [(2, .int 0), (0, .ref 68), (1, .ref 14)]) rfl rfl rfl ?_
    refine x_aloadn (x := 68) rfl rfl ?_
    refine z_getI (N := 6) 9 3 rfl f_9_22 rfl J rfl sg_68_3_4_1_0_1 (fun v3 qv3 ev3 => ?_)
    try rw [vrf qv3] at D
    refine x_istoren (lsx9 := [(3, .int v3), (2, .int 0), (0, .ref 68), (1, .ref 14)]) rfl rfl rfl ?_
    refine x_iconst (v := 1) rfl ki_1 ?_
    refine x_istore (lsx9 := [(4, .int 1), (3, .int v3), (2, .int 0), (0, .ref 68), (1, .ref 14)]) rfl rfl rfl ?_
    refine x_iconst (v := 0) rfl ki_0 ?_
    refine x_istore (lsx9 := [(5, .int 0), (4, .int 1), (3, .int v3), (2, .int 0), (0, .ref 68), (1, .ref 14)]) rfl rfl rfl ?_
    exact jX.sub (jsb_c rfl (jsb_c rfl (jsb_c rfl (jsb_c rfl (jsb_c rfl (jsb_c rfl jsb_n)))))) (ct_X9_wordOf_r68_r14d_23 hD hQ  5 0 v3 1 0 v3 h (by have := jk_0; omega) (jr_of rfl (by omega)) (jr_of jk_1 (by omega)) (jr_of jk_0 (by omega)) (jr_of rfl (by omega)) (by have := jk_0; omega) qv3 J Sm (by rw [jk_0, jk_1]; exact D) EV)
  ·
    rw [if_neg (by omega)] at D
    refine x_iconst (v := (-1)) rfl ki_m1 ?_
    refine x_iret rfl rfl ?_
    exact hQ _ _ J Sm (D.symm.trans (show (-1) = ((-1) : Int32).toInt from by have := jk_m1; omega)) EV
