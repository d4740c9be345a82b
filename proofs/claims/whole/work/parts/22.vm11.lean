def fp_X12_split_r125d : jFp := [(125, 0, 1), (125, 1, 2), (126, 7, 8), (126, 9, 10), (126, 16, 17), (126, 47660, 47900), (126, 49920, 50660)]
set_option maxRecDepth 100000 in
set_option maxHeartbeats 4000000 in
theorem ct_X12_split_r125d_46 {Dy : jH → Prop} {h0 : jH} {Q : Option Value → jH → Prop} {dr : (Int × jW)} (hD : jDk Dy) (hQ : ∀ (v : Int32) hx9, jJ jSgM Dy hx9 → jSm fp_X12_split_r125d h0 hx9 → ∀ u0 u1 u2 u3 u4 : Int32, jiv hx9 126 (16 : Int32).toNatClampNeg = u0 → jiv hx9 126 (0 : Int32).toNatClampNeg = u1 → jiv hx9 126 (4 : Int32).toNatClampNeg = u2 → jiv hx9 126 (5 : Int32).toNatClampNeg = u3 → jiv hx9 126 (7 : Int32).toNatClampNeg = u4 → u0.toInt = u1.toInt + u2.toInt + u3.toInt + u4.toInt → ∀ u5 u6 : Int32, jiv hx9 126 (9 : Int32).toNatClampNeg = u5 → jiv hx9 126 (7 : Int32).toNatClampNeg = u6 → u5.toInt ≤ u6.toInt → dr.1 = v.toInt → dr.2 = vw hx9 → Q (some (.int v)) hx9) : ∀ (g0 : Int32) (g1 : Int32) (g2 : Int32) (g3 : Int32) (g4 : Int32) (g5 : Int32) (h : jH), 0 ≤ g0.toInt ∧ g0.toInt ≤ 200 → 0 ≤ g1.toInt ∧ g1.toInt ≤ 370 → 0 ≤ g2.toInt ∧ g2.toInt ≤ 30 → 0 ≤ g3.toInt ∧ g3.toInt ≤ 100 → 0 ≤ g4.toInt ∧ g4.toInt ≤ 40 → 0 ≤ g5.toInt ∧ g5.toInt ≤ 40 → g1.toInt = g0.toInt + g2.toInt + g3.toInt + g4.toInt → g5.toInt ≤ g4.toInt → jiv h 126 (0 : Int32).toNatClampNeg = g0 → jiv h 126 (16 : Int32).toNatClampNeg = g1 → jiv h 126 (4 : Int32).toNatClampNeg = g2 → jiv h 126 (5 : Int32).toNatClampNeg = g3 → jiv h 126 (7 : Int32).toNatClampNeg = g4 → jiv h 126 (9 : Int32).toNatClampNeg = g5 → jJ jSgM Dy h → jSm fp_X12_split_r125d h0 h → d_X12_split_r125d_46  (vw h) = dr → jX m_X12_split 3 0 0 46 [(0, .ref 125)] [] h 0 0 Q := by
  intro g0 g1 g2 g3 g4 g5 h y0 y1 y2 y3 y4 y5 y6 y7 z0 z1 z2 z3 z4 z5  J Sm D
  unfold d_X12_split_r125d_46 at D
  try rw [vrn (n := 0) (by decide) z0] at D
  try rw [vrn (n := 16) (by decide) z1] at D
  try rw [vrn (n := 4) (by decide) z2] at D
  try rw [vrn (n := 5) (by decide) z3] at D
  try rw [vrn (n := 7) (by decide) z4] at D
  try rw [vrn (n := 9) (by decide) z5] at D
  refine x_aloadn (x := 125) rfl rfl ?_
  refine x_iconst (v := (-1)) rfl ki_m1 ?_
  refine x_inv (N := m_X12_told) (As := [.int (-1)]) (b := 125) (st := []) (dx9 := 1) (mc := 0) (ms := 0) (host := "") 12 rfl t_X12_told ⟨Or.inl q_12_197, i_X12_told.1, i_X12_told.2⟩ ⟨by decide, rfl⟩ (congrArg Prod.fst (J.1.1 125 (12, 92) rfl)) rfl (by decide) rfl rfl ⟨by decide, by decide⟩ (sf_X12_told_r125d  hD J rfl  (fun v4 h J S1 X2 X3 => ?_))
  have ev4 := jfull v4
  have Sm := jSm_tr rfl Sm S1
  try rw [jk_m1] at X2
  try rw [jk_m1] at X3
  try rw [X2] at D
  try rw [X3] at D
  show jX m_X12_split 3 0 0 51 [(0, .ref 125)] [.int v4] _ 0 0 _
  refine x_iret rfl rfl ?_
  exact hQ _ _ J Sm _ _ _ _ _ (jmc S1 rfl z1) (jmc S1 rfl z0) (jmc S1 rfl z2) (jmc S1 rfl z3) (jmc S1 rfl z4) (by omega) _ _ (jmc S1 rfl z5) (jmc S1 rfl z4) (by omega) ((congrArg Prod.fst D).symm.trans X2) ((congrArg Prod.snd D).symm.trans X3)
set_option maxRecDepth 100000 in
set_option maxHeartbeats 4000000 in
theorem sf_X12_split_r125d {Dy : jH → Prop} {h : jH} {Q : Option Value → jH → Prop} {dr : (Int × jW)} {a1 : Int32} {a2 : Int32} {a3 : Int32} {a4 : Int32} {a5 : Int32} (hD : jDk Dy) (J : jJ jSgM Dy h) {p0 p1 p2 p3 p4 : Int32} {p5 p6 : Int32} (zp0 : jiv h 126 (16 : Int32).toNatClampNeg = p0) (zp1 : jiv h 126 (0 : Int32).toNatClampNeg = p1) (zp2 : jiv h 126 (4 : Int32).toNatClampNeg = p2) (zp3 : jiv h 126 (5 : Int32).toNatClampNeg = p3) (zp4 : jiv h 126 (7 : Int32).toNatClampNeg = p4) (rl_p0 : p0.toInt = p1.toInt + p2.toInt + p3.toInt + p4.toInt) (zp5 : jiv h 126 (9 : Int32).toNatClampNeg = p5) (zp6 : jiv h 126 (7 : Int32).toNatClampNeg = p6) (rl_p5 : p5.toInt ≤ p6.toInt) (D : d_X12_split_r125d a1.toInt a2.toInt a3.toInt a4.toInt a5.toInt (vw h) = dr) (hQ : ∀ (v : Int32) hx9, jJ jSgM Dy hx9 → jSm fp_X12_split_r125d h hx9 → ∀ u0 u1 u2 u3 u4 : Int32, jiv hx9 126 (16 : Int32).toNatClampNeg = u0 → jiv hx9 126 (0 : Int32).toNatClampNeg = u1 → jiv hx9 126 (4 : Int32).toNatClampNeg = u2 → jiv hx9 126 (5 : Int32).toNatClampNeg = u3 → jiv hx9 126 (7 : Int32).toNatClampNeg = u4 → u0.toInt = u1.toInt + u2.toInt + u3.toInt + u4.toInt → ∀ u5 u6 : Int32, jiv hx9 126 (9 : Int32).toNatClampNeg = u5 → jiv hx9 126 (7 : Int32).toNatClampNeg = u6 → u5.toInt ≤ u6.toInt → dr.1 = v.toInt → dr.2 = vw hx9 → Q (some (.int v)) hx9) : jC m_X12_split 3 0 0 [.ref 125, .int a1, .int a2, .int a3, .int a4, .int a5] h Q := by
  refine jC.of rfl k_X12_split rfl ?_
  have Sm := jSm_rf fp_X12_split_r125d h
  have ep0 := (show 0 ≤ p0.toInt ∧ p0.toInt ≤ 370 from zp0 ▸ jrg_c J sg_126_16_17_1_0_1 jk_16 (by omega))
  have ep1 := (show 0 ≤ p1.toInt ∧ p1.toInt ≤ 200 from zp1 ▸ jrg_c J sg_126_0_1_1_0_1 jk_0 (by omega))
  have ep2 := (show 0 ≤ p2.toInt ∧ p2.toInt ≤ 30 from zp2 ▸ jrg_c J sg_126_4_5_1_0_1 jk_4 (by omega))
  have ep3 := (show 0 ≤ p3.toInt ∧ p3.toInt ≤ 100 from zp3 ▸ jrg_c J sg_126_5_6_1_0_1 jk_5 (by omega))
  have ep4 := (show 0 ≤ p4.toInt ∧ p4.toInt ≤ 40 from zp4 ▸ jrg_c J sg_126_7_8_1_0_1 jk_7 (by omega))
  have ep5 := (show 0 ≤ p5.toInt ∧ p5.toInt ≤ 40 from zp5 ▸ jrg_c J sg_126_9_10_1_0_1 jk_9 (by omega))
  have ep6 := (show 0 ≤ p6.toInt ∧ p6.toInt ≤ 40 from zp6 ▸ jrg_c J sg_126_7_8_1_0_1 jk_7 (by omega))
  obtain rfl : p4 = p6 := zp4.symm.trans zp6
  have ea1 := jfull a1
  have ea2 := jfull a2
  have ea3 := jfull a3
  have ea4 := jfull a4
  have ea5 := jfull a5
  show jX m_X12_split 3 0 0 0 [(0, .ref 125), (1, .int a1), (2, .int a2), (3, .int a3), (4, .int a4), (5, .int a5)] [] _ 0 0 _
  unfold d_X12_split_r125d at D
  try rw [vrn (n := 16) (by decide) zp0] at D
  try rw [vrn (n := 0) (by decide) zp1] at D
  try rw [vrn (n := 4) (by decide) zp2] at D
  try rw [vrn (n := 5) (by decide) zp3] at D
  try rw [vrn (n := 7) (by decide) zp4] at D
  try rw [vrn (n := 9) (by decide) zp5] at D
  try rw [vrn (n := 7) (by decide) zp6] at D
  refine x_aloadn (x := 125) rfl rfl ?_
  refine x_iconst (v := 0) rfl ki_0 ?_
  refine z_putI (N := 92) (w := 0) 12 0 rfl f_12_180 rfl (jfin_no TX12 RX12 92 rfl rfl) hD J Sm rfl rfl jk_0 (pw_125_0 (by omega)) rfl (fun h w1 J Sm => ?_)
  rw [vwf w1 (show 0 = (0 : Int32).toInt from by have := jk_0; omega)] at D
  refine x_iloadn (x := a3) rfl rfl ?_
  refine z_i2l rfl rfl (fun v2 ev2 => ?_)
  refine x_lconst (v := 1) rfl kl_1 ?_
  refine x_ldc2 (v := 100) rfl z_12_331 ?_
  refine x_inst (N := m_X12_in) (As := [.long v2, .long 1, .long 100]) (st := []) (dx9 := 1) (mc := 0) (ms := 0) (host := "") rfl t_X12_in ⟨Or.inl q_12_188, s_X12_in⟩ rfl (by decide) rfl rfl ⟨by decide, by decide⟩ (zc_X12_in rfl jkl_1 jkl_100 (fun v3 ev3 => ?_))
  show jX m_X12_split 3 0 0 14 [(0, .ref 125), (1, .int a1), (2, .int a2), (3, .int a3), (4, .int a4), (5, .int a5)] [.int v3] _ 0 0 _
  refine x_ifeq (tgt := 46) rfl rfl (ti_eq rfl jk_0 ⟨fun c4 => ?_, fun c4 => ?_⟩)
  ·
    rw [if_neg (by omega)] at D
    exact jX.sub (jsb_c rfl jsb_n) (ct_X12_split_r125d_46 hD hQ  p1 p0 p2 p3 p4 p5 h (jr_of rfl (by omega)) (jr_of rfl (by omega)) (jr_of rfl (by omega)) (jr_of rfl (by omega)) (jr_of rfl (by omega)) (jr_of rfl (by omega)) (by omega) (by omega) (jmo w1 rfl zp1) (jmo w1 rfl zp0) (jmo w1 rfl zp2) (jmo w1 rfl zp3) (jmo w1 rfl zp4) (jmo w1 rfl zp5) J Sm D)
  ·
    rw [if_pos (by omega)] at D
    refine x_iloadn (x := a2) rfl rfl ?_
    refine z_i2l rfl rfl (fun v5 ev5 => ?_)
    refine x_lconst (v := 1) rfl kl_1 ?_
    refine x_iloadn (x := a3) rfl rfl ?_
    refine z_i2l rfl rfl (fun v6 ev6 => ?_)
    refine x_lconst (v := 1) rfl kl_1 ?_
    refine z_lsub rfl rfl jkl_1 (by omega) (fun v7 ev7 => ?_)
    refine x_inst (N := m_X12_in) (As := [.long v5, .long 1, .long v7]) (st := []) (dx9 := 1) (mc := 0) (ms := 0) (host := "") rfl t_X12_in ⟨Or.inl q_12_188, s_X12_in⟩ rfl (by decide) rfl rfl ⟨by decide, by decide⟩ (zc_X12_in rfl jkl_1 rfl (fun v8 ev8 => ?_))
    show jX m_X12_split 3 0 0 27 [(0, .ref 125), (1, .int a1), (2, .int a2), (3, .int a3), (4, .int a4), (5, .int a5)] [.int v8] _ 0 0 _
    refine x_ifeq (tgt := 46) rfl rfl (ti_eq rfl jk_0 ⟨fun c9 => ?_, fun c9 => ?_⟩)
    ·
      rw [if_neg (by omega)] at D
      exact jX.sub (jsb_c rfl jsb_n) (ct_X12_split_r125d_46 hD hQ  p1 p0 p2 p3 p4 p5 h (jr_of rfl (by omega)) (jr_of rfl (by omega)) (jr_of rfl (by omega)) (jr_of rfl (by omega)) (jr_of rfl (by omega)) (jr_of rfl (by omega)) (by omega) (by omega) (jmo w1 rfl zp1) (jmo w1 rfl zp0) (jmo w1 rfl zp2) (jmo w1 rfl zp3) (jmo w1 rfl zp4) (jmo w1 rfl zp5) J Sm D)
    ·
      rw [if_pos (by omega)] at D
      refine x_iload (x := a4) rfl rfl ?_
      refine x_inst (N := m_X12_isDay) (As := [.int a4]) (st := []) (dx9 := 2) (mc := 0) (ms := 0) (host := "") rfl t_X12_isDay ⟨Or.inl q_12_273, s_X12_isDay⟩ rfl (by decide) rfl rfl ⟨by decide, by decide⟩ (zc_X12_isDay (d := 1) rfl (fun v10 ev10 => ?_))
      show jX m_X12_split 3 0 0 35 [(0, .ref 125), (1, .int a1), (2, .int a2), (3, .int a3), (4, .int a4), (5, .int a5)] [.int v10] _ 0 0 _
      refine x_ifeq (tgt := 46) rfl rfl (ti_eq rfl jk_0 ⟨fun c11 => ?_, fun c11 => ?_⟩)
      ·
        rw [if_neg (by omega)] at D
        exact jX.sub (jsb_c rfl jsb_n) (ct_X12_split_r125d_46 hD hQ  p1 p0 p2 p3 p4 p5 h (jr_of rfl (by omega)) (jr_of rfl (by omega)) (jr_of rfl (by omega)) (jr_of rfl (by omega)) (jr_of rfl (by omega)) (jr_of rfl (by omega)) (by omega) (by omega) (jmo w1 rfl zp1) (jmo w1 rfl zp0) (jmo w1 rfl zp2) (jmo w1 rfl zp3) (jmo w1 rfl zp4) (jmo w1 rfl zp5) J Sm D)
      ·
        rw [if_pos (by omega)] at D
        refine x_iload (x := a5) rfl rfl ?_
        refine x_inst (N := m_X12_isDay) (As := [.int a5]) (st := []) (dx9 := 2) (mc := 0) (ms := 0) (host := "") rfl t_X12_isDay ⟨Or.inl q_12_273, s_X12_isDay⟩ rfl (by decide) rfl rfl ⟨by decide, by decide⟩ (zc_X12_isDay (d := 1) rfl (fun v12 ev12 => ?_))
        show jX m_X12_split 3 0 0 43 [(0, .ref 125), (1, .int a1), (2, .int a2), (3, .int a3), (4, .int a4), (5, .int a5)] [.int v12] _ 0 0 _
        refine x_ifne (tgt := 52) rfl rfl (ti_ne rfl jk_0 ⟨fun c13 => ?_, fun c13 => ?_⟩)
        ·
          rw [if_pos (by omega)] at D
          refine x_aloadn (x := 125) rfl rfl ?_
          refine x_iloadn (x := a1) rfl rfl ?_
          refine x_inv (N := m_X12_isHolding) (As := [.int a1]) (b := 125) (st := []) (dx9 := 2) (mc := 0) (ms := 0) (host := "") 12 rfl t_X12_isHolding ⟨Or.inl q_12_811, i_X12_isHolding.1, i_X12_isHolding.2⟩ ⟨by decide, rfl⟩ (congrArg Prod.fst (J.1.1 125 (12, 92) rfl)) rfl (by decide) rfl rfl ⟨by decide, by decide⟩ (jC.of rfl k_X12_isHolding rfl ?_)
          show jX m_X12_isHolding 2 0 0 0 [(0, .ref 125), (1, .int a1)] [] _ 0 0 _
          refine x_iloadn (x := a1) rfl rfl ?_
          refine z_i2l rfl rfl (fun v14 ev14 => ?_)
          refine x_lconst (v := 0) rfl kl_0 ?_
          refine x_aloadn (x := 125) rfl rfl ?_
          refine z_getR (N := 92) (b := 126) 12 2 rfl f_12_8 rfl J rfl 16002 ⟨rfl, rfl⟩ rfl ?_
          refine x_bipush (v := 7) rfl kb_7 ?_
          refine z_ialdM (N := 50660) (v := p4) rfl J rfl jk_7 (by omega) (jmo w1 rfl zp4) ?_
          refine z_i2l rfl rfl (fun v15 ev15 => ?_)
          refine x_lconst (v := 1) rfl kl_1 ?_
          refine z_lsub rfl rfl jkl_1 (by omega) (fun v16 ev16 => ?_)
          refine x_inst (N := m_X12_in) (As := [.long v14, .long 0, .long v16]) (st := []) (dx9 := 1) (mc := 0) (ms := 0) (host := "") rfl t_X12_in ⟨Or.inl q_12_188, s_X12_in⟩ rfl (by decide) rfl rfl ⟨by decide, by decide⟩ (zc_X12_in rfl jkl_0 rfl (fun v17 ev17 => ?_))
          show jX m_X12_isHolding 2 0 0 16 [(0, .ref 125), (1, .int a1)] [.int v17] _ 0 0 _
          refine x_zret rfl rfl (jz01 (by omega)) ?_
          show jX m_X12_split 3 0 0 57 [(0, .ref 125), (1, .int a1), (2, .int a2), (3, .int a3), (4, .int a4), (5, .int a5)] [.int v17] _ 0 0 _
          refine x_ifne (tgt := 67) rfl rfl (ti_ne rfl jk_0 ⟨fun c18 => ?_, fun c18 => ?_⟩)
          ·
            rw [if_pos (by omega)] at D
            refine x_aloadn (x := 125) rfl rfl ?_
            refine z_getR (N := 92) (b := 126) 12 2 rfl f_12_8 rfl J rfl 16002 ⟨rfl, rfl⟩ rfl ?_
            refine x_bipush (v := 7) rfl kb_7 ?_
            refine z_ialdM (N := 50660) (v := p4) rfl J rfl jk_7 (by omega) (jmo w1 rfl zp4) ?_
            refine x_bipush (v := 40) rfl kb_40 ?_
            refine x_icne (tgt := 86) rfl rfl (ti_ne rfl jk_40 ⟨fun c19 => ?_, fun c19 => ?_⟩)
            ·
              rw [if_neg (by omega)] at D
              refine x_ldcw (v := 47660) rfl z_12_799 ?_
              refine x_bipush (v := 6) rfl kb_6 ?_
              refine x_aloadn (x := 125) rfl rfl ?_
              refine z_getR (N := 92) (b := 126) 12 2 rfl f_12_8 rfl J rfl 16002 ⟨rfl, rfl⟩ rfl ?_
              refine x_bipush (v := 9) rfl kb_9 ?_
              refine z_ialdM (N := 50660) (v := p5) rfl J rfl jk_9 (by omega) (jmo w1 rfl zp5) ?_
              refine z_imul rfl jk_6 rfl (by omega) (fun v20 ev20 => ?_)
              refine z_iadd rfl jk_47660 rfl (by omega) (fun v21 ev21 => ?_)
              refine x_istore (lsx9 := [(6, .int v21), (0, .ref 125), (1, .int a1), (2, .int a2), (3, .int a3), (4, .int a4), (5, .int a5)]) rfl rfl rfl ?_
              refine x_aloadn (x := 125) rfl rfl ?_
              refine z_getR (N := 92) (b := 126) 12 2 rfl f_12_8 rfl J rfl 16002 ⟨rfl, rfl⟩ rfl ?_
              refine x_iload (x := v21) rfl rfl ?_
              refine x_aloadn (x := 125) rfl rfl ?_
              refine z_getR (N := 92) (b := 126) 12 2 rfl f_12_8 rfl J rfl 16002 ⟨rfl, rfl⟩ rfl ?_
              refine x_bipush (v := 7) rfl kb_7 ?_
              refine z_ialdM (N := 50660) (v := p4) rfl J rfl jk_7 (by omega) (jmo w1 rfl zp4) ?_
              refine z_iastB (N := 50660) (l := 47660) (u := 47900) (w := p4.toInt) rfl hD J Sm rfl rfl (by omega) rfl (wr_126_47660 (by omega) (fun q1 q2 q3 q4 => by omega) (fun q1 q2 q3 q4 => by omega) (fun q1 q2 q3 q4 => by omega) (fun q1 q2 q3 q4 => by omega) (fun q1 q2 q3 q4 => by omega) (fun q1 q2 q3 q4 => by omega)) (jB_sp (hD.2.2.2.1 h J.2.2) (jmo w1 rfl zp5) (by omega)) rfl (fun h w22 J Sm => ?_)
              rw [vww w22 (show (47660 + (6 * p5.toInt)) = v21.toInt from by omega) (show p4.toInt = p4.toInt from by omega)] at D
              refine x_aloadn (x := 125) rfl rfl ?_
              refine z_getR (N := 92) (b := 126) 12 2 rfl f_12_8 rfl J rfl 16002 ⟨rfl, rfl⟩ rfl ?_
              refine x_iload (x := v21) rfl rfl ?_
              refine x_iconst (v := 1) rfl ki_1 ?_
              refine z_iadd rfl rfl jk_1 (by omega) (fun v23 ev23 => ?_)
              refine x_iloadn (x := a1) rfl rfl ?_
              refine z_iastB (N := 50660) (l := 47660) (u := 47900) (w := a1.toInt) rfl hD J Sm rfl rfl (by omega) rfl (wr_126_47660 (by omega) (fun q1 q2 q3 q4 => by omega) (fun q1 q2 q3 q4 => by omega) (fun q1 q2 q3 q4 => by omega) (fun q1 q2 q3 q4 => by omega) (fun q1 q2 q3 q4 => by omega) (fun q1 q2 q3 q4 => by omega)) (jB_sp (hD.2.2.2.1 h J.2.2) (jmo2 w22 rfl jk_9 (by omega) (jmo w1 rfl zp5)) (by omega)) rfl (fun h w24 J Sm => ?_)
              rw [vww w24 (show ((47660 + (6 * p5.toInt)) + 1) = v23.toInt from by omega) (show a1.toInt = a1.toInt from by omega)] at D
              refine x_aloadn (x := 125) rfl rfl ?_
              refine z_getR (N := 92) (b := 126) 12 2 rfl f_12_8 rfl J rfl 16002 ⟨rfl, rfl⟩ rfl ?_
              refine x_iload (x := v21) rfl rfl ?_
              refine x_iconst (v := 2) rfl ki_2 ?_
              refine z_iadd rfl rfl jk_2 (by omega) (fun v25 ev25 => ?_)
              refine x_iloadn (x := a2) rfl rfl ?_
              refine z_iastB (N := 50660) (l := 47660) (u := 47900) (w := a2.toInt) rfl hD J Sm rfl rfl (by omega) rfl (wr_126_47660 (by omega) (fun q1 q2 q3 q4 => by omega) (fun q1 q2 q3 q4 => by omega) (fun q1 q2 q3 q4 => by omega) (fun q1 q2 q3 q4 => by omega) (fun q1 q2 q3 q4 => by omega) (fun q1 q2 q3 q4 => by omega)) (jB_sp (hD.2.2.2.1 h J.2.2) (jmo2 w24 rfl jk_9 (by omega) (jmo2 w22 rfl jk_9 (by omega) (jmo w1 rfl zp5))) (by omega)) rfl (fun h w26 J Sm => ?_)
              rw [vww w26 (show ((47660 + (6 * p5.toInt)) + 2) = v25.toInt from by omega) (show a2.toInt = a2.toInt from by omega)] at D
              refine x_aloadn (x := 125) rfl rfl ?_
              refine z_getR (N := 92) (b := 126) 12 2 rfl f_12_8 rfl J rfl 16002 ⟨rfl, rfl⟩ rfl ?_
              refine x_iload (x := v21) rfl rfl ?_
              refine x_iconst (v := 3) rfl ki_3 ?_
              refine z_iadd rfl rfl jk_3 (by omega) (fun v27 ev27 => ?_)
              refine x_iloadn (x := a3) rfl rfl ?_
              refine z_iastB (N := 50660) (l := 47660) (u := 47900) (w := a3.toInt) rfl hD J Sm rfl rfl (by omega) rfl (wr_126_47660 (by omega) (fun q1 q2 q3 q4 => by omega) (fun q1 q2 q3 q4 => by omega) (fun q1 q2 q3 q4 => by omega) (fun q1 q2 q3 q4 => by omega) (fun q1 q2 q3 q4 => by omega) (fun q1 q2 q3 q4 => by omega)) (jB_sp (hD.2.2.2.1 h J.2.2) (jmo2 w26 rfl jk_9 (by omega) (jmo2 w24 rfl jk_9 (by omega) (jmo2 w22 rfl jk_9 (by omega) (jmo w1 rfl zp5)))) (by omega)) rfl (fun h w28 J Sm => ?_)
              rw [vww w28 (show ((47660 + (6 * p5.toInt)) + 3) = v27.toInt from by omega) (show a3.toInt = a3.toInt from by omega)] at D
              refine x_aloadn (x := 125) rfl rfl ?_
              refine z_getR (N := 92) (b := 126) 12 2 rfl f_12_8 rfl J rfl 16002 ⟨rfl, rfl⟩ rfl ?_
              refine x_iload (x := v21) rfl rfl ?_
              refine x_iconst (v := 4) rfl ki_4 ?_
              refine z_iadd rfl rfl jk_4 (by omega) (fun v29 ev29 => ?_)
              refine x_iload (x := a4) rfl rfl ?_
              refine z_iastB (N := 50660) (l := 47660) (u := 47900) (w := a4.toInt) rfl hD J Sm rfl rfl (by omega) rfl (wr_126_47660 (by omega) (fun q1 q2 q3 q4 => by omega) (fun q1 q2 q3 q4 => by omega) (fun q1 q2 q3 q4 => by omega) (fun q1 q2 q3 q4 => by omega) (fun q1 q2 q3 q4 => by omega) (fun q1 q2 q3 q4 => by omega)) (jB_sp (hD.2.2.2.1 h J.2.2) (jmo2 w28 rfl jk_9 (by omega) (jmo2 w26 rfl jk_9 (by omega) (jmo2 w24 rfl jk_9 (by omega) (jmo2 w22 rfl jk_9 (by omega) (jmo w1 rfl zp5))))) (by omega)) rfl (fun h w30 J Sm => ?_)
              rw [vww w30 (show ((47660 + (6 * p5.toInt)) + 4) = v29.toInt from by omega) (show a4.toInt = a4.toInt from by omega)] at D
              refine x_aloadn (x := 125) rfl rfl ?_
              refine z_getR (N := 92) (b := 126) 12 2 rfl f_12_8 rfl J rfl 16002 ⟨rfl, rfl⟩ rfl ?_
              refine x_iload (x := v21) rfl rfl ?_
              refine x_iconst (v := 5) rfl ki_5 ?_
              refine z_iadd rfl rfl jk_5 (by omega) (fun v31 ev31 => ?_)
              refine x_iload (x := a5) rfl rfl ?_
              refine z_iastB (N := 50660) (l := 47660) (u := 47900) (w := a5.toInt) rfl hD J Sm rfl rfl (by omega) rfl (wr_126_47660 (by omega) (fun q1 q2 q3 q4 => by omega) (fun q1 q2 q3 q4 => by omega) (fun q1 q2 q3 q4 => by omega) (fun q1 q2 q3 q4 => by omega) (fun q1 q2 q3 q4 => by omega) (fun q1 q2 q3 q4 => by omega)) (jB_sp (hD.2.2.2.1 h J.2.2) (jmo2 w30 rfl jk_9 (by omega) (jmo2 w28 rfl jk_9 (by omega) (jmo2 w26 rfl jk_9 (by omega) (jmo2 w24 rfl jk_9 (by omega) (jmo2 w22 rfl jk_9 (by omega) (jmo w1 rfl zp5)))))) (by omega)) rfl (fun h w32 J Sm => ?_)
              rw [vww w32 (show ((47660 + (6 * p5.toInt)) + 5) = v31.toInt from by omega) (show a5.toInt = a5.toInt from by omega)] at D
              refine x_aloadn (x := 125) rfl rfl ?_
              refine z_getR (N := 92) (b := 126) 12 2 rfl f_12_8 rfl J rfl 16002 ⟨rfl, rfl⟩ rfl ?_
              refine x_bipush (v := 9) rfl kb_9 ?_
              refine x_dup2 rfl rfl rfl ?_
              refine z_ialdM (N := 50660) (v := p5) rfl J rfl jk_9 (by omega) (jmo2 w32 rfl jk_9 (by omega) (jmo2 w30 rfl jk_9 (by omega) (jmo2 w28 rfl jk_9 (by omega) (jmo2 w26 rfl jk_9 (by omega) (jmo2 w24 rfl jk_9 (by omega) (jmo2 w22 rfl jk_9 (by omega) (jmo w1 rfl zp5))))))) ?_
              refine x_iconst (v := 1) rfl ki_1 ?_
              refine z_iadd rfl rfl jk_1 (by omega) (fun v33 ev33 => ?_)
              refine z_iastB (N := 50660) (l := 9) (u := 10) (w := v33.toInt) rfl hD J Sm rfl jk_9 (by omega) rfl (wr_126_9 (by omega) (fun q1 q2 q3 q4 => by omega)) (jB_s9 (hD.2.2.2.1 h J.2.2) (jmo2 w32 rfl jk_9 (by omega) (jmo2 w30 rfl jk_9 (by omega) (jmo2 w28 rfl jk_9 (by omega) (jmo2 w26 rfl jk_9 (by omega) (jmo2 w24 rfl jk_9 (by omega) (jmo2 w22 rfl jk_9 (by omega) (jmo w1 rfl zp5))))))) (by omega) (jmo2 w32 rfl rfl (by omega) (jmo2 w30 rfl rfl (by omega) (jmw w28))) (by omega) (by omega)) rfl (fun h w34 J Sm => ?_)
              rw [vwn (n := 9) (by decide) w34 (show (p5.toInt + 1) = v33.toInt from by omega)] at D
              refine x_aloadn (x := 125) rfl rfl ?_
              refine z_getR (N := 92) (b := 126) 12 2 rfl f_12_8 rfl J rfl 16002 ⟨rfl, rfl⟩ rfl ?_
              refine x_bipush (v := 7) rfl kb_7 ?_
              refine x_dup2 rfl rfl rfl ?_
              refine z_ialdM (N := 50660) (v := p4) rfl J rfl jk_7 (by omega) (jmo2 w34 jk_9 jk_7 (by omega) (jmo2 w32 rfl jk_7 (by omega) (jmo2 w30 rfl jk_7 (by omega) (jmo2 w28 rfl jk_7 (by omega) (jmo2 w26 rfl jk_7 (by omega) (jmo2 w24 rfl jk_7 (by omega) (jmo2 w22 rfl jk_7 (by omega) (jmo w1 rfl zp4)))))))) ?_
              refine x_iconst (v := 1) rfl ki_1 ?_
              refine z_iadd rfl rfl jk_1 (by omega) (fun v35 ev35 => ?_)
              refine z_iast (N := 50660) (l := 7) (u := 8) (w := v35.toInt) rfl hD J Sm rfl rfl jk_7 (by omega) rfl (wr_126_7 (by omega) (fun q1 q2 q3 q4 => by omega)) rfl (fun h w36 J Sm => ?_)
              rw [vwn (n := 7) (by decide) w36 (show (p4.toInt + 1) = v35.toInt from by omega)] at D
              refine x_aloadn (x := 125) rfl rfl ?_
              refine x_iconst (v := 3) rfl ki_3 ?_
              refine x_aloadn (x := 125) rfl rfl ?_
              refine z_getR (N := 92) (b := 126) 12 2 rfl f_12_8 rfl J rfl 16002 ⟨rfl, rfl⟩ rfl ?_
              refine x_bipush (v := 7) rfl kb_7 ?_
              refine z_ialdM (N := 50660) (v := v35) rfl J rfl jk_7 (by omega) (jmw w36) ?_
              refine x_iconst (v := 1) rfl ki_1 ?_
              refine z_isub rfl rfl jk_1 (by omega) (fun v37 ev37 => ?_)
              refine x_inv (N := m_X12_thing) (As := [.int 3, .int v37]) (b := 125) (st := []) (dx9 := 2) (mc := 0) (ms := 0) (host := "") 12 rfl t_X12_thing ⟨Or.inl q_12_289, i_X12_thing.1, i_X12_thing.2⟩ ⟨by decide, rfl⟩ (congrArg Prod.fst (J.1.1 125 (12, 92) rfl)) rfl (by decide) rfl rfl ⟨by decide, by decide⟩ (jC.of rfl k_X12_thing rfl ?_)
              show jX m_X12_thing 2 0 0 0 [(0, .ref 125), (1, .int 3), (2, .int v37)] [] _ 0 0 _
              refine x_ldc (v := 49920) rfl z_12_194 ?_
              refine x_iconst (v := 2) rfl ki_2 ?_
              refine x_aloadn (x := 125) rfl rfl ?_
              refine z_getR (N := 92) (b := 126) 12 2 rfl f_12_8 rfl J rfl 16002 ⟨rfl, rfl⟩ rfl ?_
              refine x_bipush (v := 16) rfl kb_16 ?_
              refine z_ialdM (N := 50660) (v := p0) rfl J rfl jk_16 (by omega) (jmo2 w36 jk_7 jk_16 (by omega) (jmo2 w34 jk_9 jk_16 (by omega) (jmo2 w32 rfl jk_16 (by omega) (jmo2 w30 rfl jk_16 (by omega) (jmo2 w28 rfl jk_16 (by omega) (jmo2 w26 rfl jk_16 (by omega) (jmo2 w24 rfl jk_16 (by omega) (jmo2 w22 rfl jk_16 (by omega) (jmo w1 rfl zp0))))))))) ?_
              refine z_imul rfl jk_2 rfl (by omega) (fun v38 ev38 => ?_)
              refine z_iadd rfl jk_49920 rfl (by omega) (fun v39 ev39 => ?_)
              refine x_istoren (lsx9 := [(3, .int v39), (0, .ref 125), (1, .int 3), (2, .int v37)]) rfl rfl rfl ?_
              refine x_aloadn (x := 125) rfl rfl ?_
              refine z_getR (N := 92) (b := 126) 12 2 rfl f_12_8 rfl J rfl 16002 ⟨rfl, rfl⟩ rfl ?_
              refine x_iloadn (x := v39) rfl rfl ?_
              refine x_iloadn (x := 3) rfl rfl ?_
              refine z_iast (N := 50660) (l := 49920) (u := 50660) (w := 3) rfl hD J Sm rfl rfl rfl (by omega) jk_3 (wr_126_49920 (by omega) (fun q1 q2 q3 q4 => by omega) (fun q1 q2 q3 q4 => by omega)) rfl (fun h w40 J Sm => ?_)
              rw [vww w40 (show (49920 + (2 * p0.toInt)) = v39.toInt from by omega) (show 3 = (3 : Int32).toInt from by have := jk_3; omega)] at D
              refine x_aloadn (x := 125) rfl rfl ?_
              refine z_getR (N := 92) (b := 126) 12 2 rfl f_12_8 rfl J rfl 16002 ⟨rfl, rfl⟩ rfl ?_
              refine x_iloadn (x := v39) rfl rfl ?_
              refine x_iconst (v := 1) rfl ki_1 ?_
              refine z_iadd rfl rfl jk_1 (by omega) (fun v41 ev41 => ?_)
              refine x_iloadn (x := v37) rfl rfl ?_
              refine z_iast (N := 50660) (l := 49920) (u := 50660) (w := v37.toInt) rfl hD J Sm rfl rfl rfl (by omega) rfl (wr_126_49920 (by omega) (fun q1 q2 q3 q4 => by omega) (fun q1 q2 q3 q4 => by omega)) rfl (fun h w42 J Sm => ?_)
              rw [vww w42 (show ((49920 + (2 * p0.toInt)) + 1) = v41.toInt from by omega) (show ((p4.toInt + 1) - 1) = v37.toInt from by omega)] at D
              refine x_aloadn (x := 125) rfl rfl ?_
              refine z_getR (N := 92) (b := 126) 12 2 rfl f_12_8 rfl J rfl 16002 ⟨rfl, rfl⟩ rfl ?_
              refine x_bipush (v := 16) rfl kb_16 ?_
              refine x_dup2 rfl rfl rfl ?_
              refine z_ialdM (N := 50660) (v := p0) rfl J rfl jk_16 (by omega) (jmo2 w42 rfl jk_16 (by omega) (jmo2 w40 rfl jk_16 (by omega) (jmo2 w36 jk_7 jk_16 (by omega) (jmo2 w34 jk_9 jk_16 (by omega) (jmo2 w32 rfl jk_16 (by omega) (jmo2 w30 rfl jk_16 (by omega) (jmo2 w28 rfl jk_16 (by omega) (jmo2 w26 rfl jk_16 (by omega) (jmo2 w24 rfl jk_16 (by omega) (jmo2 w22 rfl jk_16 (by omega) (jmo w1 rfl zp0))))))))))) ?_
              refine x_iconst (v := 1) rfl ki_1 ?_
              refine z_iadd rfl rfl jk_1 (by omega) (fun v43 ev43 => ?_)
              refine z_iast (N := 50660) (l := 16) (u := 17) (w := v43.toInt) rfl hD J Sm rfl rfl jk_16 (by omega) rfl (wr_126_16 (by omega) (fun q1 q2 q3 q4 => by omega)) rfl (fun h w44 J Sm => ?_)
              rw [vwn (n := 16) (by decide) w44 (show (p0.toInt + 1) = v43.toInt from by omega)] at D
              refine x_vret rfl rfl ?_
              show jX m_X12_split 3 0 0 204 [(6, .int v21), (0, .ref 125), (1, .int a1), (2, .int a2), (3, .int a3), (4, .int a4), (5, .int a5)] [] _ 0 0 _
              refine x_aloadn (x := 125) rfl rfl ?_
              refine x_aloadn (x := 125) rfl rfl ?_
              refine z_getR (N := 92) (b := 126) 12 2 rfl f_12_8 rfl J rfl 16002 ⟨rfl, rfl⟩ rfl ?_
              refine x_bipush (v := 7) rfl kb_7 ?_
              refine z_ialdM (N := 50660) (v := v35) rfl J rfl jk_7 (by omega) (jmo2 w44 jk_16 jk_7 (by omega) (jmo2 w42 rfl jk_7 (by omega) (jmo2 w40 rfl jk_7 (by omega) (jmw w36)))) ?_
              refine x_iconst (v := 1) rfl ki_1 ?_
              refine z_isub rfl rfl jk_1 (by omega) (fun v45 ev45 => ?_)
              try rw [show ((p4.toInt + 1) - 1) = v45.toInt from by omega] at D
              refine x_inv (N := m_X12_told) (As := [.int v45]) (b := 125) (st := []) (dx9 := 1) (mc := 0) (ms := 0) (host := "") 12 rfl t_X12_told ⟨Or.inl q_12_197, i_X12_told.1, i_X12_told.2⟩ ⟨by decide, rfl⟩ (congrArg Prod.fst (J.1.1 125 (12, 92) rfl)) rfl (by decide) rfl rfl ⟨by decide, by decide⟩ (sf_X12_told_r125d  hD J rfl  (fun v49 h J S46 X47 X48 => ?_))
              have ev49 := jfull v49
              have Sm := jSm_tr rfl Sm S46
              try rw [X47] at D
              try rw [X48] at D
              show jX m_X12_split 3 0 0 217 [(6, .int v21), (0, .ref 125), (1, .int a1), (2, .int a2), (3, .int a3), (4, .int a4), (5, .int a5)] [.int v49] _ 0 0 _
              refine x_iret rfl rfl ?_
              exact hQ _ _ J Sm _ _ _ _ _ (jmc S46 rfl (jmw w44)) (jmc S46 rfl (jmo2 w44 jk_16 jk_0 (by omega) (jmo2 w42 rfl jk_0 (by omega) (jmo2 w40 rfl jk_0 (by omega) (jmo2 w36 jk_7 jk_0 (by omega) (jmo2 w34 jk_9 jk_0 (by omega) (jmo2 w32 rfl jk_0 (by omega) (jmo2 w30 rfl jk_0 (by omega) (jmo2 w28 rfl jk_0 (by omega) (jmo2 w26 rfl jk_0 (by omega) (jmo2 w24 rfl jk_0 (by omega) (jmo2 w22 rfl jk_0 (by omega) (jmo w1 rfl zp1))))))))))))) (jmc S46 rfl (jmo2 w44 jk_16 jk_4 (by omega) (jmo2 w42 rfl jk_4 (by omega) (jmo2 w40 rfl jk_4 (by omega) (jmo2 w36 jk_7 jk_4 (by omega) (jmo2 w34 jk_9 jk_4 (by omega) (jmo2 w32 rfl jk_4 (by omega) (jmo2 w30 rfl jk_4 (by omega) (jmo2 w28 rfl jk_4 (by omega) (jmo2 w26 rfl jk_4 (by omega) (jmo2 w24 rfl jk_4 (by omega) (jmo2 w22 rfl jk_4 (by omega) (jmo w1 rfl zp2))))))))))))) (jmc S46 rfl (jmo2 w44 jk_16 jk_5 (by omega) (jmo2 w42 rfl jk_5 (by omega) (jmo2 w40 rfl jk_5 (by omega) (jmo2 w36 jk_7 jk_5 (by omega) (jmo2 w34 jk_9 jk_5 (by omega) (jmo2 w32 rfl jk_5 (by omega) (jmo2 w30 rfl jk_5 (by omega) (jmo2 w28 rfl jk_5 (by omega) (jmo2 w26 rfl jk_5 (by omega) (jmo2 w24 rfl jk_5 (by omega) (jmo2 w22 rfl jk_5 (by omega) (jmo w1 rfl zp3))))))))))))) (jmc S46 rfl (jmo2 w44 jk_16 jk_7 (by omega) (jmo2 w42 rfl jk_7 (by omega) (jmo2 w40 rfl jk_7 (by omega) (jmw w36))))) (by omega) _ _ (jmc S46 rfl (jmo2 w44 jk_16 jk_9 (by omega) (jmo2 w42 rfl jk_9 (by omega) (jmo2 w40 rfl jk_9 (by omega) (jmo2 w36 jk_7 jk_9 (by omega) (jmw w34)))))) (jmc S46 rfl (jmo2 w44 jk_16 jk_7 (by omega) (jmo2 w42 rfl jk_7 (by omega) (jmo2 w40 rfl jk_7 (by omega) (jmw w36))))) (by omega) ((congrArg Prod.fst D).symm.trans X47) ((congrArg Prod.snd D).symm.trans X48)
            ·
              rw [if_pos (by omega)] at D
              refine x_aloadn (x := 125) rfl rfl ?_
              refine x_bipush (v := (-5)) rfl kb_m5 ?_
              refine x_inv (N := m_X12_told) (As := [.int (-5)]) (b := 125) (st := []) (dx9 := 1) (mc := 0) (ms := 0) (host := "") 12 rfl t_X12_told ⟨Or.inl q_12_197, i_X12_told.1, i_X12_told.2⟩ ⟨by decide, rfl⟩ (congrArg Prod.fst (J.1.1 125 (12, 92) rfl)) rfl (by decide) rfl rfl ⟨by decide, by decide⟩ (sf_X12_told_r125d  hD J rfl  (fun v53 h J S50 X51 X52 => ?_))
              have ev53 := jfull v53
              have Sm := jSm_tr rfl Sm S50
              try rw [jk_m5] at X51
              try rw [jk_m5] at X52
              try rw [X51] at D
              try rw [X52] at D
              show jX m_X12_split 3 0 0 85 [(0, .ref 125), (1, .int a1), (2, .int a2), (3, .int a3), (4, .int a4), (5, .int a5)] [.int v53] _ 0 0 _
              refine x_iret rfl rfl ?_
              exact hQ _ _ J Sm _ _ _ _ _ (jmc S50 rfl (jmo w1 rfl zp0)) (jmc S50 rfl (jmo w1 rfl zp1)) (jmc S50 rfl (jmo w1 rfl zp2)) (jmc S50 rfl (jmo w1 rfl zp3)) (jmc S50 rfl (jmo w1 rfl zp4)) (by omega) _ _ (jmc S50 rfl (jmo w1 rfl zp5)) (jmc S50 rfl (jmo w1 rfl zp4)) (by omega) ((congrArg Prod.fst D).symm.trans X51) ((congrArg Prod.snd D).symm.trans X52)
          ·
            rw [if_neg (by omega)] at D
            refine x_aloadn (x := 125) rfl rfl ?_
            refine x_bipush (v := (-2)) rfl kb_m2 ?_
            refine x_inv (N := m_X12_told) (As := [.int (-2)]) (b := 125) (st := []) (dx9 := 1) (mc := 0) (ms := 0) (host := "") 12 rfl t_X12_told ⟨Or.inl q_12_197, i_X12_told.1, i_X12_told.2⟩ ⟨by decide, rfl⟩ (congrArg Prod.fst (J.1.1 125 (12, 92) rfl)) rfl (by decide) rfl rfl ⟨by decide, by decide⟩ (sf_X12_told_r125d  hD J rfl  (fun v57 h J S54 X55 X56 => ?_))
            have ev57 := jfull v57
            have Sm := jSm_tr rfl Sm S54
            try rw [jk_m2] at X55
            try rw [jk_m2] at X56
            try rw [X55] at D
            try rw [X56] at D
            show jX m_X12_split 3 0 0 66 [(0, .ref 125), (1, .int a1), (2, .int a2), (3, .int a3), (4, .int a4), (5, .int a5)] [.int v57] _ 0 0 _
            refine x_iret rfl rfl ?_
            exact hQ _ _ J Sm _ _ _ _ _ (jmc S54 rfl (jmo w1 rfl zp0)) (jmc S54 rfl (jmo w1 rfl zp1)) (jmc S54 rfl (jmo w1 rfl zp2)) (jmc S54 rfl (jmo w1 rfl zp3)) (jmc S54 rfl (jmo w1 rfl zp4)) (by omega) _ _ (jmc S54 rfl (jmo w1 rfl zp5)) (jmc S54 rfl (jmo w1 rfl zp4)) (by omega) ((congrArg Prod.fst D).symm.trans X55) ((congrArg Prod.snd D).symm.trans X56)
        ·
          rw [if_neg (by omega)] at D
          exact jX.sub (jsb_c rfl jsb_n) (ct_X12_split_r125d_46 hD hQ  p1 p0 p2 p3 p4 p5 h (jr_of rfl (by omega)) (jr_of rfl (by omega)) (jr_of rfl (by omega)) (jr_of rfl (by omega)) (jr_of rfl (by omega)) (jr_of rfl (by omega)) (by omega) (by omega) (jmo w1 rfl zp1) (jmo w1 rfl zp0) (jmo w1 rfl zp2) (jmo w1 rfl zp3) (jmo w1 rfl zp4) (jmo w1 rfl zp5) J Sm D)
def fp_X12_status_r125d : jFp := [(125, 0, 1)]
set_option maxRecDepth 100000 in
set_option maxHeartbeats 4000000 in
theorem sf_X12_status_r125d {Dy : jH → Prop} {h : jH} {Q : Option Value → jH → Prop} {dr : (Int × jW)} (hD : jDk Dy) (J : jJ jSgM Dy h) (D : d_X12_status_r125d (vw h) = dr) (hQ : ∀ (v : Int32) hx9, (-2147483648) ≤ v.toInt ∧ v.toInt ≤ 0 → jJ jSgM Dy hx9 → jSm fp_X12_status_r125d h hx9 → dr.1 = v.toInt → dr.2 = vw hx9 → Q (some (.int v)) hx9) : jC m_X12_status 1 0 0 [.ref 125] h Q := by
  refine jC.of rfl k_X12_status rfl ?_
  have Sm := jSm_rf fp_X12_status_r125d h
  show jX m_X12_status 1 0 0 0 [(0, .ref 125)] [] _ 0 0 _
  unfold d_X12_status_r125d at D
  refine x_aloadn (x := 125) rfl rfl ?_
  refine x_iconst (v := 0) rfl ki_0 ?_
  refine z_putI (N := 92) (w := 0) 12 0 rfl f_12_180 rfl (jfin_no TX12 RX12 92 rfl rfl) hD J Sm rfl rfl jk_0 (pw_125_0 (by omega)) rfl (fun h w1 J Sm => ?_)
  rw [vwf w1 (show 0 = (0 : Int32).toInt from by have := jk_0; omega)] at D
  refine x_aloadn (x := 125) rfl rfl ?_
  refine z_getI (N := 92) 12 1 rfl f_12_183 rfl J rfl sg_125_1_2_1_0_1 (fun v2 qv2 ev2 => ?_)
  try rw [vrf (jmb_w w1 qv2 rfl)] at D
  refine x_iret rfl rfl ?_
  exact hQ _ _ (jr_of rfl (by omega)) J Sm ((congrArg Prod.fst D).symm.trans (show v2.toInt = v2.toInt from by omega)) (congrArg Prod.snd D).symm
def fp_X12_terms_r125d : jFp := [(125, 0, 1), (125, 1, 2), (125, 23, 24), (125, 24, 25), (125, 25, 26), (125, 26, 27), (125, 27, 28)]
set_option maxRecDepth 100000 in
set_option maxHeartbeats 4000000 in
theorem ct_X12_terms_r125d_67 {Dy : jH → Prop} {h0 : jH} {Q : Option Value → jH → Prop} {dr : (Int × jW)} (hD : jDk Dy) (hQ : ∀ (v : Int32) hx9, jJ jSgM Dy hx9 → jSm fp_X12_terms_r125d h0 hx9 → dr.1 = v.toInt → dr.2 = vw hx9 → Q (some (.int v)) hx9) : ∀ (h : jH), jJ jSgM Dy h → jSm fp_X12_terms_r125d h0 h → d_X12_terms_r125d_67  (vw h) = dr → jX m_X12_terms 2 0 0 67 [(0, .ref 125)] [] h 0 0 Q := by
  intro  h    J Sm D
  unfold d_X12_terms_r125d_67 at D
  refine x_aloadn (x := 125) rfl rfl ?_
  refine x_iconst (v := (-1)) rfl ki_m1 ?_
  refine x_inv (N := m_X12_told) (As := [.int (-1)]) (b := 125) (st := []) (dx9 := 1) (mc := 0) (ms := 0) (host := "") 12 rfl t_X12_told ⟨Or.inl q_12_197, i_X12_told.1, i_X12_told.2⟩ ⟨by decide, rfl⟩ (congrArg Prod.fst (J.1.1 125 (12, 92) rfl)) rfl (by decide) rfl rfl ⟨by decide, by decide⟩ (sf_X12_told_r125d  hD J rfl  (fun v4 h J S1 X2 X3 => ?_))
  have ev4 := jfull v4
  have Sm := jSm_tr rfl Sm S1
  try rw [jk_m1] at X2
  try rw [jk_m1] at X3
  try rw [X2] at D
  try rw [X3] at D
  show jX m_X12_terms 2 0 0 72 [(0, .ref 125)] [.int v4] _ 0 0 _
  refine x_iret rfl rfl ?_
  exact hQ _ _ J Sm ((congrArg Prod.fst D).symm.trans X2) ((congrArg Prod.snd D).symm.trans X3)
set_option maxRecDepth 100000 in
set_option maxHeartbeats 4000000 in
theorem sf_X12_terms_r125d {Dy : jH → Prop} {h : jH} {Q : Option Value → jH → Prop} {dr : (Int × jW)} {a1 : Int32} {a2 : Int32} {a3 : Int32} {a4 : Int32} {a5 : Int32} (hD : jDk Dy) (J : jJ jSgM Dy h) (D : d_X12_terms_r125d a1.toInt a2.toInt a3.toInt a4.toInt a5.toInt (vw h) = dr) (hQ : ∀ (v : Int32) hx9, jJ jSgM Dy hx9 → jSm fp_X12_terms_r125d h hx9 → dr.1 = v.toInt → dr.2 = vw hx9 → Q (some (.int v)) hx9) : jC m_X12_terms 2 0 0 [.ref 125, .int a1, .int a2, .int a3, .int a4, .int a5] h Q := by
  refine jC.of rfl k_X12_terms rfl ?_
  have Sm := jSm_rf fp_X12_terms_r125d h
  have ea1 := jfull a1
  have ea2 := jfull a2
  have ea3 := jfull a3
  have ea4 := jfull a4
  have ea5 := jfull a5
  show jX m_X12_terms 2 0 0 0 [(0, .ref 125), (1, .int a1), (2, .int a2), (3, .int a3), (4, .int a4), (5, .int a5)] [] _ 0 0 _
  unfold d_X12_terms_r125d at D
  refine x_aloadn (x := 125) rfl rfl ?_
  refine x_iconst (v := 0) rfl ki_0 ?_
  refine z_putI (N := 92) (w := 0) 12 0 rfl f_12_180 rfl (jfin_no TX12 RX12 92 rfl rfl) hD J Sm rfl rfl jk_0 (pw_125_0 (by omega)) rfl (fun h w1 J Sm => ?_)
  rw [vwf w1 (show 0 = (0 : Int32).toInt from by have := jk_0; omega)] at D
  refine x_iloadn (x := a1) rfl rfl ?_
  refine z_i2l rfl rfl (fun v2 ev2 => ?_)
  refine x_lconst (v := 0) rfl kl_0 ?_
  refine x_ldc2 (v := 100) rfl z_12_331 ?_
  refine x_inst (N := m_X12_in) (As := [.long v2, .long 0, .long 100]) (st := []) (dx9 := 1) (mc := 0) (ms := 0) (host := "") rfl t_X12_in ⟨Or.inl q_12_188, s_X12_in⟩ rfl (by decide) rfl rfl ⟨by decide, by decide⟩ (zc_X12_in rfl jkl_0 jkl_100 (fun v3 ev3 => ?_))
  show jX m_X12_terms 2 0 0 14 [(0, .ref 125), (1, .int a1), (2, .int a2), (3, .int a3), (4, .int a4), (5, .int a5)] [.int v3] _ 0 0 _
  refine x_ifeq (tgt := 67) rfl rfl (ti_eq rfl jk_0 ⟨fun c4 => ?_, fun c4 => ?_⟩)
  ·
    rw [if_neg (by omega)] at D
    exact jX.sub (jsb_c rfl jsb_n) (ct_X12_terms_r125d_67 hD hQ  h J Sm D)
  ·
    rw [if_pos (by omega)] at D
    refine x_iloadn (x := a2) rfl rfl ?_
    refine z_i2l rfl rfl (fun v5 ev5 => ?_)
    refine x_lconst (v := 0) rfl kl_0 ?_
    refine x_ldc2 (v := 100) rfl z_12_331 ?_
    refine x_inst (N := m_X12_in) (As := [.long v5, .long 0, .long 100]) (st := []) (dx9 := 1) (mc := 0) (ms := 0) (host := "") rfl t_X12_in ⟨Or.inl q_12_188, s_X12_in⟩ rfl (by decide) rfl rfl ⟨by decide, by decide⟩ (zc_X12_in rfl jkl_0 jkl_100 (fun v6 ev6 => ?_))
    show jX m_X12_terms 2 0 0 26 [(0, .ref 125), (1, .int a1), (2, .int a2), (3, .int a3), (4, .int a4), (5, .int a5)] [.int v6] _ 0 0 _
    refine x_ifeq (tgt := 67) rfl rfl (ti_eq rfl jk_0 ⟨fun c7 => ?_, fun c7 => ?_⟩)
    ·
      rw [if_neg (by omega)] at D
      exact jX.sub (jsb_c rfl jsb_n) (ct_X12_terms_r125d_67 hD hQ  h J Sm D)
    ·
      rw [if_pos (by omega)] at D
      refine x_iloadn (x := a3) rfl rfl ?_
      refine z_i2l rfl rfl (fun v8 ev8 => ?_)
      refine x_lconst (v := 0) rfl kl_0 ?_
      refine x_ldc2 (v := 100) rfl z_12_331 ?_
      refine x_inst (N := m_X12_in) (As := [.long v8, .long 0, .long 100]) (st := []) (dx9 := 1) (mc := 0) (ms := 0) (host := "") rfl t_X12_in ⟨Or.inl q_12_188, s_X12_in⟩ rfl (by decide) rfl rfl ⟨by decide, by decide⟩ (zc_X12_in rfl jkl_0 jkl_100 (fun v9 ev9 => ?_))
      show jX m_X12_terms 2 0 0 38 [(0, .ref 125), (1, .int a1), (2, .int a2), (3, .int a3), (4, .int a4), (5, .int a5)] [.int v9] _ 0 0 _
      refine x_ifeq (tgt := 67) rfl rfl (ti_eq rfl jk_0 ⟨fun c10 => ?_, fun c10 => ?_⟩)
      ·
        rw [if_neg (by omega)] at D
        exact jX.sub (jsb_c rfl jsb_n) (ct_X12_terms_r125d_67 hD hQ  h J Sm D)
      ·
        rw [if_pos (by omega)] at D
        refine x_iload (x := a4) rfl rfl ?_
        refine z_i2l rfl rfl (fun v11 ev11 => ?_)
        refine x_lconst (v := 0) rfl kl_0 ?_
        refine x_ldc2 (v := 100) rfl z_12_331 ?_
        refine x_inst (N := m_X12_in) (As := [.long v11, .long 0, .long 100]) (st := []) (dx9 := 1) (mc := 0) (ms := 0) (host := "") rfl t_X12_in ⟨Or.inl q_12_188, s_X12_in⟩ rfl (by decide) rfl rfl ⟨by decide, by decide⟩ (zc_X12_in rfl jkl_0 jkl_100 (fun v12 ev12 => ?_))
        show jX m_X12_terms 2 0 0 51 [(0, .ref 125), (1, .int a1), (2, .int a2), (3, .int a3), (4, .int a4), (5, .int a5)] [.int v12] _ 0 0 _
        refine x_ifeq (tgt := 67) rfl rfl (ti_eq rfl jk_0 ⟨fun c13 => ?_, fun c13 => ?_⟩)
        ·
          rw [if_neg (by omega)] at D
          exact jX.sub (jsb_c rfl jsb_n) (ct_X12_terms_r125d_67 hD hQ  h J Sm D)
        ·
          rw [if_pos (by omega)] at D
          refine x_iload (x := a5) rfl rfl ?_
          refine z_i2l rfl rfl (fun v14 ev14 => ?_)
          refine x_lconst (v := 0) rfl kl_0 ?_
          refine x_ldc2 (v := 20) rfl z_12_333 ?_
          refine x_inst (N := m_X12_in) (As := [.long v14, .long 0, .long 20]) (st := []) (dx9 := 1) (mc := 0) (ms := 0) (host := "") rfl t_X12_in ⟨Or.inl q_12_188, s_X12_in⟩ rfl (by decide) rfl rfl ⟨by decide, by decide⟩ (zc_X12_in rfl jkl_0 jkl_20 (fun v15 ev15 => ?_))
          show jX m_X12_terms 2 0 0 64 [(0, .ref 125), (1, .int a1), (2, .int a2), (3, .int a3), (4, .int a4), (5, .int a5)] [.int v15] _ 0 0 _
          refine x_ifne (tgt := 73) rfl rfl (ti_ne rfl jk_0 ⟨fun c16 => ?_, fun c16 => ?_⟩)
          ·
            rw [if_pos (by omega)] at D
            refine x_aloadn (x := 125) rfl rfl ?_
            refine x_iloadn (x := a1) rfl rfl ?_
            refine z_putI (N := 92) (w := a1.toInt) 12 23 rfl f_12_57 rfl (jfin_no TX12 RX12 92 rfl rfl) hD J Sm rfl rfl rfl (pw_125_23 (by omega)) rfl (fun h w17 J Sm => ?_)
            rw [vwf w17 (show a1.toInt = a1.toInt from by omega)] at D
            refine x_aloadn (x := 125) rfl rfl ?_
            refine x_iloadn (x := a2) rfl rfl ?_
            refine z_putI (N := 92) (w := a2.toInt) 12 24 rfl f_12_60 rfl (jfin_no TX12 RX12 92 rfl rfl) hD J Sm rfl rfl rfl (pw_125_24 (by omega)) rfl (fun h w18 J Sm => ?_)
            rw [vwf w18 (show a2.toInt = a2.toInt from by omega)] at D
            refine x_aloadn (x := 125) rfl rfl ?_
            refine x_iloadn (x := a3) rfl rfl ?_
            refine z_putI (N := 92) (w := a3.toInt) 12 25 rfl f_12_63 rfl (jfin_no TX12 RX12 92 rfl rfl) hD J Sm rfl rfl rfl (pw_125_25 (by omega)) rfl (fun h w19 J Sm => ?_)
            rw [vwf w19 (show a3.toInt = a3.toInt from by omega)] at D
            refine x_aloadn (x := 125) rfl rfl ?_
            refine x_iload (x := a4) rfl rfl ?_
            refine z_putI (N := 92) (w := a4.toInt) 12 26 rfl f_12_66 rfl (jfin_no TX12 RX12 92 rfl rfl) hD J Sm rfl rfl rfl (pw_125_26 (by omega)) rfl (fun h w20 J Sm => ?_)
            rw [vwf w20 (show a4.toInt = a4.toInt from by omega)] at D
            refine x_aloadn (x := 125) rfl rfl ?_
            refine x_iload (x := a5) rfl rfl ?_
            refine z_putI (N := 92) (w := a5.toInt) 12 27 rfl f_12_69 rfl (jfin_no TX12 RX12 92 rfl rfl) hD J Sm rfl rfl rfl (pw_125_27 (by omega)) rfl (fun h w21 J Sm => ?_)
            rw [vwf w21 (show a5.toInt = a5.toInt from by omega)] at D
            refine x_aloadn (x := 125) rfl rfl ?_
            refine x_iconst (v := 0) rfl ki_0 ?_
            refine x_inv (N := m_X12_told) (As := [.int 0]) (b := 125) (st := []) (dx9 := 1) (mc := 0) (ms := 0) (host := "") 12 rfl t_X12_told ⟨Or.inl q_12_197, i_X12_told.1, i_X12_told.2⟩ ⟨by decide, rfl⟩ (congrArg Prod.fst (J.1.1 125 (12, 92) rfl)) rfl (by decide) rfl rfl ⟨by decide, by decide⟩ (sf_X12_told_r125d  hD J rfl  (fun v25 h J S22 X23 X24 => ?_))
            have ev25 := jfull v25
            have Sm := jSm_tr rfl Sm S22
            try rw [jk_0] at X23
            try rw [jk_0] at X24
            try rw [X23] at D
            try rw [X24] at D
            show jX m_X12_terms 2 0 0 105 [(0, .ref 125), (1, .int a1), (2, .int a2), (3, .int a3), (4, .int a4), (5, .int a5)] [.int v25] _ 0 0 _
            refine x_iret rfl rfl ?_
            exact hQ _ _ J Sm ((congrArg Prod.fst D).symm.trans X23) ((congrArg Prod.snd D).symm.trans X24)
          ·
            rw [if_neg (by omega)] at D
            exact jX.sub (jsb_c rfl jsb_n) (ct_X12_terms_r125d_67 hD hQ  h J Sm D)
def fp_X12_together_r125d : jFp := [(125, 0, 1), (125, 1, 2), (125, 28, 29), (125, 31, 32), (125, 57, 58), (126, 2, 3), (126, 18140, 18740), (137, 0, 80), (138, 0, 2), (139, 0, 600), (140, 0, 200)]
set_option maxRecDepth 100000 in
set_option maxHeartbeats 4000000 in
theorem ct_X12_together_r125d_34 {Dy : jH → Prop} {h0 : jH} {Q : Option Value → jH → Prop} {dr : (Int × jW)} (hD : jDk Dy) (hQ : ∀ (v : Int32) hx9, jJ jSgM Dy hx9 → jSm fp_X12_together_r125d h0 hx9 → dr.1 = v.toInt → dr.2 = vw hx9 → Q (some (.int v)) hx9) : ∀ (h : jH), jJ jSgM Dy h → jSm fp_X12_together_r125d h0 h → d_X12_together_r125d_34  (vw h) = dr → jX m_X12_together 9 0 0 34 [(0, .ref 125)] [] h 0 0 Q := by
  intro  h    J Sm D
  unfold d_X12_together_r125d_34 at D
  refine x_aloadn (x := 125) rfl rfl ?_
  refine x_bipush (v := (-2)) rfl kb_m2 ?_
  refine x_inv (N := m_X12_told) (As := [.int (-2)]) (b := 125) (st := []) (dx9 := 1) (mc := 0) (ms := 0) (host := "") 12 rfl t_X12_told ⟨Or.inl q_12_197, i_X12_told.1, i_X12_told.2⟩ ⟨by decide, rfl⟩ (congrArg Prod.fst (J.1.1 125 (12, 92) rfl)) rfl (by decide) rfl rfl ⟨by decide, by decide⟩ (sf_X12_told_r125d  hD J rfl  (fun v4 h J S1 X2 X3 => ?_))
  have ev4 := jfull v4
  have Sm := jSm_tr rfl Sm S1
  try rw [jk_m2] at X2
  try rw [jk_m2] at X3
  try rw [X2] at D
  try rw [X3] at D
  show jX m_X12_together 9 0 0 40 [(0, .ref 125)] [.int v4] _ 0 0 _
  refine x_iret rfl rfl ?_
  exact hQ _ _ J Sm ((congrArg Prod.fst D).symm.trans X2) ((congrArg Prod.snd D).symm.trans X3)
set_option maxRecDepth 100000 in
set_option maxHeartbeats 4000000 in
theorem sf_X12_together_r125d {Dy : jH → Prop} {h : jH} {Q : Option Value → jH → Prop} {dr : (Int × jW)} {a1 : Int32} {a2 : Int32} {a3 : Int32} (hD : jDk Dy) (J : jJ jSgM Dy h) (D : d_X12_together_r125d a1.toInt a2.toInt a3.toInt (vw h) = dr) (hQ : ∀ (v : Int32) hx9, jJ jSgM Dy hx9 → jSm fp_X12_together_r125d h hx9 → dr.1 = v.toInt → dr.2 = vw hx9 → Q (some (.int v)) hx9) : jC m_X12_together 9 0 0 [.ref 125, .int a1, .int a2, .int a3] h Q := by
  refine jC.of rfl k_X12_together rfl ?_
  have Sm := jSm_rf fp_X12_together_r125d h
  have ea1 := jfull a1
  have ea2 := jfull a2
  have ea3 := jfull a3
  show jX m_X12_together 9 0 0 0 [(0, .ref 125), (1, .int a1), (2, .int a2), (3, .int a3)] [] _ 0 0 _
  unfold d_X12_together_r125d at D
  refine x_aloadn (x := 125) rfl rfl ?_
  refine x_iconst (v := 0) rfl ki_0 ?_
  refine z_putI (N := 92) (w := 0) 12 0 rfl f_12_180 rfl (jfin_no TX12 RX12 92 rfl rfl) hD J Sm rfl rfl jk_0 (pw_125_0 (by omega)) rfl (fun h w1 J Sm => ?_)
  rw [vwf w1 (show 0 = (0 : Int32).toInt from by have := jk_0; omega)] at D
  refine x_iloadn (x := a3) rfl rfl ?_
  refine x_inst (N := m_X12_isDay) (As := [.int a3]) (st := []) (dx9 := 2) (mc := 0) (ms := 0) (host := "") rfl t_X12_isDay ⟨Or.inl q_12_273, s_X12_isDay⟩ rfl (by decide) rfl rfl ⟨by decide, by decide⟩ (zc_X12_isDay (d := 1) rfl (fun v2 ev2 => ?_))
  show jX m_X12_together 9 0 0 9 [(0, .ref 125), (1, .int a1), (2, .int a2), (3, .int a3)] [.int v2] _ 0 0 _
  refine x_ifne (tgt := 18) rfl rfl (ti_ne rfl jk_0 ⟨fun c3 => ?_, fun c3 => ?_⟩)
  ·
    rw [if_pos (by omega)] at D
    refine x_aloadn (x := 125) rfl rfl ?_
    refine x_iloadn (x := a1) rfl rfl ?_
    refine x_inv (N := m_X12_isMention) (As := [.int a1]) (b := 125) (st := []) (dx9 := 8) (mc := 0) (ms := 0) (host := "") 12 rfl t_X12_isMention ⟨Or.inl q_12_322, i_X12_isMention.1, i_X12_isMention.2⟩ ⟨by decide, rfl⟩ (congrArg Prod.fst (J.1.1 125 (12, 92) rfl)) rfl (by decide) rfl rfl ⟨by decide, by decide⟩ (jC.of rfl k_X12_isMention rfl ?_)
    show jX m_X12_isMention 8 0 0 0 [(0, .ref 125), (1, .int a1)] [] _ 0 0 _
    refine x_iloadn (x := a1) rfl rfl ?_
    refine x_iflt (tgt := 34) rfl rfl (ti_lt rfl jk_0 ⟨fun c4 => ?_, fun c4 => ?_⟩)
    ·
      rw [if_pos (by omega)] at D
      refine x_iconst (v := 0) rfl ki_0 ?_
      refine x_zret rfl rfl (by decide) ?_
      show jX m_X12_together 9 0 0 23 [(0, .ref 125), (1, .int a1), (2, .int a2), (3, .int a3)] [.int 0] _ 0 0 _
      refine x_ifeq (tgt := 34) rfl rfl (ti_eq jk_0 jk_0 (br_t (by omega) ?_))
      exact jX.sub (jsb_c rfl jsb_n) (ct_X12_together_r125d_34 hD hQ  h J Sm D)
    ·
      rw [if_neg (by omega)] at D
      refine x_aloadn (x := 125) rfl rfl ?_
      refine x_iloadn (x := a1) rfl rfl ?_
      refine x_iconst (v := 3) rfl ki_3 ?_
      refine z_idiv rfl rfl jk_3 (by omega) (by omega) (fun v5 ev5 => ?_)
      refine x_inv (N := m_X12_isLine) (As := [.int v5]) (b := 125) (st := []) (dx9 := 7) (mc := 0) (ms := 0) (host := "") 12 rfl t_X12_isLine ⟨Or.inl q_12_293, i_X12_isLine.1, i_X12_isLine.2⟩ ⟨by decide, rfl⟩ (congrArg Prod.fst (J.1.1 125 (12, 92) rfl)) rfl (by decide) rfl rfl ⟨by decide, by decide⟩ (jC.of rfl k_X12_isLine rfl ?_)
      show jX m_X12_isLine 7 0 0 0 [(0, .ref 125), (1, .int v5)] [] _ 0 0 _
      refine x_iloadn (x := v5) rfl rfl ?_
      refine z_i2l rfl rfl (fun v6 ev6 => ?_)
      refine x_lconst (v := 0) rfl kl_0 ?_
      refine x_aloadn (x := 125) rfl rfl ?_
      refine z_getR (N := 92) (b := 126) 12 2 rfl f_12_8 rfl J rfl 16002 ⟨rfl, rfl⟩ rfl ?_
      refine x_iconst (v := 0) rfl ki_0 ?_
      refine z_iald (N := 50660) rfl J rfl sg_126_0_1_1_0_1 jk_0 (by omega) (fun v7 qv7 ev7 => ?_)
      try rw [vrn (n := 0) (by decide) (jmb_w w1 qv7 rfl)] at D
      refine z_i2l rfl rfl (fun v8 ev8 => ?_)
      refine x_lconst (v := 1) rfl kl_1 ?_
      refine z_lsub rfl rfl jkl_1 (by omega) (fun v9 ev9 => ?_)
      refine x_inst (N := m_X12_in) (As := [.long v6, .long 0, .long v9]) (st := []) (dx9 := 1) (mc := 0) (ms := 0) (host := "") rfl t_X12_in ⟨Or.inl q_12_188, s_X12_in⟩ rfl (by decide) rfl rfl ⟨by decide, by decide⟩ (zc_X12_in rfl jkl_0 rfl (fun v10 ev10 => ?_))
      show jX m_X12_isLine 7 0 0 15 [(0, .ref 125), (1, .int v5)] [.int v10] _ 0 0 _
      refine x_zret rfl rfl (jz01 (by omega)) ?_
      show jX m_X12_isMention 8 0 0 11 [(0, .ref 125), (1, .int a1)] [.int v10] _ 0 0 _
      refine x_ifeq (tgt := 34) rfl rfl (ti_eq rfl jk_0 ⟨fun c11 => ?_, fun c11 => ?_⟩)
      ·
        rw [if_neg (by omega)] at D
        refine x_iconst (v := 0) rfl ki_0 ?_
        refine x_zret rfl rfl (by decide) ?_
        show jX m_X12_together 9 0 0 23 [(0, .ref 125), (1, .int a1), (2, .int a2), (3, .int a3)] [.int 0] _ 0 0 _
        refine x_ifeq (tgt := 34) rfl rfl (ti_eq jk_0 jk_0 (br_t (by omega) ?_))
        exact jX.sub (jsb_c rfl jsb_n) (ct_X12_together_r125d_34 hD hQ  h J Sm D)
      ·
        rw [if_pos (by omega)] at D
        refine x_iloadn (x := a1) rfl rfl ?_
        refine x_iconst (v := 3) rfl ki_3 ?_
        refine z_irem rfl rfl jk_3 (by omega) (by omega) (fun v12 ev12 => ?_)
        refine x_aloadn (x := 125) rfl rfl ?_
        refine x_iloadn (x := a1) rfl rfl ?_
        refine x_iconst (v := 3) rfl ki_3 ?_
        refine z_idiv rfl rfl jk_3 (by omega) (by omega) (fun v13 ev13 => ?_)
        refine x_inv (N := m_X12_bookOf) (As := [.int v13]) (b := 125) (st := [.int v12]) (dx9 := 7) (mc := 0) (ms := 0) (host := "") 12 rfl t_X12_bookOf ⟨Or.inl q_12_299, i_X12_bookOf.1, i_X12_bookOf.2⟩ ⟨by decide, rfl⟩ (congrArg Prod.fst (J.1.1 125 (12, 92) rfl)) rfl (by decide) rfl rfl ⟨by decide, by decide⟩ (jC.of rfl k_X12_bookOf rfl ?_)
        show jX m_X12_bookOf 7 0 0 0 [(0, .ref 125), (1, .int v13)] [] _ 0 0 _
        refine x_aloadn (x := 125) rfl rfl ?_
        refine z_getR (N := 92) (b := 126) 12 2 rfl f_12_8 rfl J rfl 16002 ⟨rfl, rfl⟩ rfl ?_
        refine x_aloadn (x := 125) rfl rfl ?_
        refine x_iloadn (x := v13) rfl rfl ?_
        refine x_inv (N := m_X12_at) (As := [.int v13]) (b := 125) (st := [.ref 126]) (dx9 := 6) (mc := 0) (ms := 0) (host := "") 12 rfl t_X12_at ⟨Or.inl q_12_254, i_X12_at.1, i_X12_at.2⟩ ⟨by decide, rfl⟩ (congrArg Prod.fst (J.1.1 125 (12, 92) rfl)) rfl (by decide) rfl rfl ⟨by decide, by decide⟩ (jC.of rfl k_X12_at rfl ?_)
        show jX m_X12_at 6 0 0 0 [(0, .ref 125), (1, .int v13)] [] _ 0 0 _
        refine x_bipush (v := 20) rfl kb_20 ?_
        refine x_bipush (v := 90) rfl kb_90 ?_
        refine x_iloadn (x := v13) rfl rfl ?_
        refine z_imul rfl jk_90 rfl (by omega) (fun v14 ev14 => ?_)
        refine z_iadd rfl jk_20 rfl (by omega) (fun v15 ev15 => ?_)
        refine x_iret rfl rfl ?_
        show jX m_X12_bookOf 7 0 0 9 [(0, .ref 125), (1, .int v13)] [.int v15, .ref 126] _ 0 0 _
        refine z_iald (N := 50660) rfl J rfl sg_126_20_18020_90_0_1 rfl (by omega) (fun v16 qv16 ev16 => ?_)
        try rw [vrd (jmb_w w1 qv16 rfl) (show (20 + (90 * (a1.toInt / 3))) = v15.toInt from by omega)] at D
        refine x_iret rfl rfl ?_
        show jX m_X12_isMention 8 0 0 24 [(0, .ref 125), (1, .int a1)] [.int v16, .int v12] _ 0 0 _
        refine x_inst (N := m_X12_rolesOf) (As := [.int v16]) (st := [.int v12]) (dx9 := 7) (mc := 0) (ms := 0) (host := "") rfl t_X12_rolesOf ⟨Or.inl q_12_286, s_X12_rolesOf⟩ rfl (by decide) rfl rfl ⟨by decide, by decide⟩ (jC.of rfl k_X12_rolesOf rfl ?_)
        show jX m_X12_rolesOf 7 0 0 0 [(0, .int v16)] [] _ 0 0 _
        refine x_iloadn (x := v16) rfl rfl ?_
        refine x_ifne (tgt := 8) rfl rfl (ti_ne rfl jk_0 ⟨fun c17 => ?_, fun c17 => ?_⟩)
        ·
          rw [if_neg (by omega)] at D
          refine x_iloadn (x := v16) rfl rfl ?_
          refine x_iconst (v := 1) rfl ki_1 ?_
          refine x_icne (tgt := 17) rfl rfl (ti_ne rfl jk_1 ⟨fun c18 => ?_, fun c18 => ?_⟩)
          ·
            rw [if_neg (by omega)] at D
            refine x_iconst (v := 1) rfl ki_1 ?_
            refine x_iret rfl rfl ?_
            show jX m_X12_isMention 8 0 0 27 [(0, .ref 125), (1, .int a1)] [.int 1, .int v12] _ 0 0 _
            refine x_icge (tgt := 34) rfl rfl (ti_ge rfl jk_1 ⟨fun c19 => ?_, fun c19 => ?_⟩)
            ·
              rw [if_pos (by omega)] at D
              refine x_iconst (v := 0) rfl ki_0 ?_
              refine x_zret rfl rfl (by decide) ?_
              show jX m_X12_together 9 0 0 23 [(0, .ref 125), (1, .int a1), (2, .int a2), (3, .int a3)] [.int 0] _ 0 0 _
              refine x_ifeq (tgt := 34) rfl rfl (ti_eq jk_0 jk_0 (br_t (by omega) ?_))
              exact jX.sub (jsb_c rfl jsb_n) (ct_X12_together_r125d_34 hD hQ  h J Sm D)
            ·
              rw [if_neg (by omega)] at D
              refine x_iconst (v := 1) rfl ki_1 ?_
              refine x_goto (tgt := 35) rfl rfl ?_
              refine x_zret rfl rfl (by decide) ?_
              show jX m_X12_together 9 0 0 23 [(0, .ref 125), (1, .int a1), (2, .int a2), (3, .int a3)] [.int 1] _ 0 0 _
              refine x_ifeq (tgt := 34) rfl rfl (ti_eq jk_1 jk_0 (br_f (by omega) ?_))
              refine x_aloadn (x := 125) rfl rfl ?_
              refine x_iloadn (x := a2) rfl rfl ?_
              refine x_inv (N := m_X12_isMention) (As := [.int a2]) (b := 125) (st := []) (dx9 := 8) (mc := 0) (ms := 0) (host := "") 12 rfl t_X12_isMention ⟨Or.inl q_12_322, i_X12_isMention.1, i_X12_isMention.2⟩ ⟨by decide, rfl⟩ (congrArg Prod.fst (J.1.1 125 (12, 92) rfl)) rfl (by decide) rfl rfl ⟨by decide, by decide⟩ (jC.of rfl k_X12_isMention rfl ?_)
              show jX m_X12_isMention 8 0 0 0 [(0, .ref 125), (1, .int a2)] [] _ 0 0 _
              refine x_iloadn (x := a2) rfl rfl ?_
              refine x_iflt (tgt := 34) rfl rfl (ti_lt rfl jk_0 ⟨fun c20 => ?_, fun c20 => ?_⟩)
              ·
                rw [if_pos (by omega)] at D
                refine x_iconst (v := 0) rfl ki_0 ?_
                refine x_zret rfl rfl (by decide) ?_
                show jX m_X12_together 9 0 0 31 [(0, .ref 125), (1, .int a1), (2, .int a2), (3, .int a3)] [.int 0] _ 0 0 _
                refine x_ifne (tgt := 41) rfl rfl (ti_ne jk_0 jk_0 (bn_f (by omega) ?_))
                exact jX.sub (jsb_c rfl jsb_n) (ct_X12_together_r125d_34 hD hQ  h J Sm D)
              ·
                rw [if_neg (by omega)] at D
                refine x_aloadn (x := 125) rfl rfl ?_
                refine x_iloadn (x := a2) rfl rfl ?_
                refine x_iconst (v := 3) rfl ki_3 ?_
                refine z_idiv rfl rfl jk_3 (by omega) (by omega) (fun v21 ev21 => ?_)
                refine x_inv (N := m_X12_isLine) (As := [.int v21]) (b := 125) (st := []) (dx9 := 7) (mc := 0) (ms := 0) (host := "") 12 rfl t_X12_isLine ⟨Or.inl q_12_293, i_X12_isLine.1, i_X12_isLine.2⟩ ⟨by decide, rfl⟩ (congrArg Prod.fst (J.1.1 125 (12, 92) rfl)) rfl (by decide) rfl rfl ⟨by decide, by decide⟩ (jC.of rfl k_X12_isLine rfl ?_)
                show jX m_X12_isLine 7 0 0 0 [(0, .ref 125), (1, .int v21)] [] _ 0 0 _
                refine x_iloadn (x := v21) rfl rfl ?_
                refine z_i2l rfl rfl (fun v22 ev22 => ?_)
                refine x_lconst (v := 0) rfl kl_0 ?_
                refine x_aloadn (x := 125) rfl rfl ?_
                refine z_getR (N := 92) (b := 126) 12 2 rfl f_12_8 rfl J rfl 16002 ⟨rfl, rfl⟩ rfl ?_
                refine x_iconst (v := 0) rfl ki_0 ?_
                refine z_ialdM (N := 50660) (v := v7) rfl J rfl jk_0 (by omega) qv7 ?_
                refine z_i2l rfl rfl (fun v23 ev23 => ?_)
                refine x_lconst (v := 1) rfl kl_1 ?_
                refine z_lsub rfl rfl jkl_1 (by omega) (fun v24 ev24 => ?_)
                refine x_inst (N := m_X12_in) (As := [.long v22, .long 0, .long v24]) (st := []) (dx9 := 1) (mc := 0) (ms := 0) (host := "") rfl t_X12_in ⟨Or.inl q_12_188, s_X12_in⟩ rfl (by decide) rfl rfl ⟨by decide, by decide⟩ (zc_X12_in rfl jkl_0 rfl (fun v25 ev25 => ?_))
                show jX m_X12_isLine 7 0 0 15 [(0, .ref 125), (1, .int v21)] [.int v25] _ 0 0 _
                refine x_zret rfl rfl (jz01 (by omega)) ?_
                show jX m_X12_isMention 8 0 0 11 [(0, .ref 125), (1, .int a2)] [.int v25] _ 0 0 _
                refine x_ifeq (tgt := 34) rfl rfl (ti_eq rfl jk_0 ⟨fun c26 => ?_, fun c26 => ?_⟩)
                ·
                  rw [if_neg (by omega)] at D
                  refine x_iconst (v := 0) rfl ki_0 ?_
                  refine x_zret rfl rfl (by decide) ?_
                  show jX m_X12_together 9 0 0 31 [(0, .ref 125), (1, .int a1), (2, .int a2), (3, .int a3)] [.int 0] _ 0 0 _
                  refine x_ifne (tgt := 41) rfl rfl (ti_ne jk_0 jk_0 (bn_f (by omega) ?_))
                  exact jX.sub (jsb_c rfl jsb_n) (ct_X12_together_r125d_34 hD hQ  h J Sm D)
                ·
                  rw [if_pos (by omega)] at D
                  refine x_iloadn (x := a2) rfl rfl ?_
                  refine x_iconst (v := 3) rfl ki_3 ?_
                  refine z_irem rfl rfl jk_3 (by omega) (by omega) (fun v27 ev27 => ?_)
                  refine x_aloadn (x := 125) rfl rfl ?_
                  refine x_iloadn (x := a2) rfl rfl ?_
                  refine x_iconst (v := 3) rfl ki_3 ?_
                  refine z_idiv rfl rfl jk_3 (by omega) (by omega) (fun v28 ev28 => ?_)
                  refine x_inv (N := m_X12_bookOf) (As := [.int v28]) (b := 125) (st := [.int v27]) (dx9 := 7) (mc := 0) (ms := 0) (host := "") 12 rfl t_X12_bookOf ⟨Or.inl q_12_299, i_X12_bookOf.1, i_X12_bookOf.2⟩ ⟨by decide, rfl⟩ (congrArg Prod.fst (J.1.1 125 (12, 92) rfl)) rfl (by decide) rfl rfl ⟨by decide, by decide⟩ (jC.of rfl k_X12_bookOf rfl ?_)
                  show jX m_X12_bookOf 7 0 0 0 [(0, .ref 125), (1, .int v28)] [] _ 0 0 _
                  refine x_aloadn (x := 125) rfl rfl ?_
                  refine z_getR (N := 92) (b := 126) 12 2 rfl f_12_8 rfl J rfl 16002 ⟨rfl, rfl⟩ rfl ?_
                  refine x_aloadn (x := 125) rfl rfl ?_
                  refine x_iloadn (x := v28) rfl rfl ?_
                  refine x_inv (N := m_X12_at) (As := [.int v28]) (b := 125) (st := [.ref 126]) (dx9 := 6) (mc := 0) (ms := 0) (host := "") 12 rfl t_X12_at ⟨Or.inl q_12_254, i_X12_at.1, i_X12_at.2⟩ ⟨by decide, rfl⟩ (congrArg Prod.fst (J.1.1 125 (12, 92) rfl)) rfl (by decide) rfl rfl ⟨by decide, by decide⟩ (jC.of rfl k_X12_at rfl ?_)
                  show jX m_X12_at 6 0 0 0 [(0, .ref 125), (1, .int v28)] [] _ 0 0 _
                  refine x_bipush (v := 20) rfl kb_20 ?_
                  refine x_bipush (v := 90) rfl kb_90 ?_
                  refine x_iloadn (x := v28) rfl rfl ?_
                  refine z_imul rfl jk_90 rfl (by omega) (fun v29 ev29 => ?_)
                  refine z_iadd rfl jk_20 rfl (by omega) (fun v30 ev30 => ?_)
                  refine x_iret rfl rfl ?_
                  show jX m_X12_bookOf 7 0 0 9 [(0, .ref 125), (1, .int v28)] [.int v30, .ref 126] _ 0 0 _
                  refine z_iald (N := 50660) rfl J rfl sg_126_20_18020_90_0_1 rfl (by omega) (fun v31 qv31 ev31 => ?_)
                  try rw [vrd (jmb_w w1 qv31 rfl) (show (20 + (90 * (a2.toInt / 3))) = v30.toInt from by omega)] at D
                  refine x_iret rfl rfl ?_
                  show jX m_X12_isMention 8 0 0 24 [(0, .ref 125), (1, .int a2)] [.int v31, .int v27] _ 0 0 _
                  refine x_inst (N := m_X12_rolesOf) (As := [.int v31]) (st := [.int v27]) (dx9 := 7) (mc := 0) (ms := 0) (host := "") rfl t_X12_rolesOf ⟨Or.inl q_12_286, s_X12_rolesOf⟩ rfl (by decide) rfl rfl ⟨by decide, by decide⟩ (jC.of rfl k_X12_rolesOf rfl ?_)
                  show jX m_X12_rolesOf 7 0 0 0 [(0, .int v31)] [] _ 0 0 _
                  refine x_iloadn (x := v31) rfl rfl ?_
                  refine x_ifne (tgt := 8) rfl rfl (ti_ne rfl jk_0 ⟨fun c32 => ?_, fun c32 => ?_⟩)
                  ·
                    rw [if_neg (by omega)] at D
                    refine x_iloadn (x := v31) rfl rfl ?_
                    refine x_iconst (v := 1) rfl ki_1 ?_
                    refine x_icne (tgt := 17) rfl rfl (ti_ne rfl jk_1 ⟨fun c33 => ?_, fun c33 => ?_⟩)
                    ·
                      rw [if_neg (by omega)] at D
                      refine x_iconst (v := 1) rfl ki_1 ?_
                      refine x_iret rfl rfl ?_
                      show jX m_X12_isMention 8 0 0 27 [(0, .ref 125), (1, .int a2)] [.int 1, .int v27] _ 0 0 _
                      refine x_icge (tgt := 34) rfl rfl (ti_ge rfl jk_1 ⟨fun c34 => ?_, fun c34 => ?_⟩)
                      ·
                        rw [if_pos (by omega)] at D
                        refine x_iconst (v := 0) rfl ki_0 ?_
                        refine x_zret rfl rfl (by decide) ?_
                        show jX m_X12_together 9 0 0 31 [(0, .ref 125), (1, .int a1), (2, .int a2), (3, .int a3)] [.int 0] _ 0 0 _
                        refine x_ifne (tgt := 41) rfl rfl (ti_ne jk_0 jk_0 (bn_f (by omega) ?_))
                        exact jX.sub (jsb_c rfl jsb_n) (ct_X12_together_r125d_34 hD hQ  h J Sm D)
                      ·
                        rw [if_neg (by omega)] at D
                        refine x_iconst (v := 1) rfl ki_1 ?_
                        refine x_goto (tgt := 35) rfl rfl ?_
                        refine x_zret rfl rfl (by decide) ?_
                        show jX m_X12_together 9 0 0 31 [(0, .ref 125), (1, .int a1), (2, .int a2), (3, .int a3)] [.int 1] _ 0 0 _
                        refine x_ifne (tgt := 41) rfl rfl (ti_ne jk_1 jk_0 (bn_t (by omega) ?_))
                        refine x_aloadn (x := 125) rfl rfl ?_
                        refine x_ldcw (v := 146399) rfl z_12_392 ?_
                        refine x_inv (N := m_X12_find) (As := [.int 146399]) (b := 125) (st := []) (dx9 := 8) (mc := 0) (ms := 0) (host := "") 12 rfl t_X12_find ⟨Or.inl q_12_393, i_X12_find.1, i_X12_find.2⟩ ⟨by decide, rfl⟩ (congrArg Prod.fst (J.1.1 125 (12, 92) rfl)) rfl (by decide) rfl rfl ⟨by decide, by decide⟩ (sf_X12_find_r125d (jr_of jk_146399 (by omega)) hD J rfl  (fun h J S35 X36 => ?_))
                        have Sm := jSm_tr rfl Sm S35
                        try rw [jk_146399] at X36
                        rw [X36] at D
                        show jX m_X12_together 9 0 0 48 [(0, .ref 125), (1, .int a1), (2, .int a2), (3, .int a3)] [] _ 0 0 _
                        refine x_aloadn (x := 125) rfl rfl ?_
                        refine z_getR (N := 92) (b := 139) 12 29 rfl f_12_72 rfl J rfl 16029 ⟨rfl, rfl⟩ rfl ?_
                        refine x_iloadn (x := a1) rfl rfl ?_
                        refine z_iald (N := 600) rfl J rfl sg_139_0_600_1_0_1 rfl (by omega) (fun v37 qv37 ev37 => ?_)
                        try rw [vrd qv37 (show a1.toInt = a1.toInt from by omega)] at D
                        refine x_aloadn (x := 125) rfl rfl ?_
                        refine z_getR (N := 92) (b := 139) 12 29 rfl f_12_72 rfl J rfl 16029 ⟨rfl, rfl⟩ rfl ?_
                        refine x_iloadn (x := a2) rfl rfl ?_
                        refine z_iald (N := 600) rfl J rfl sg_139_0_600_1_0_1 rfl (by omega) (fun v38 qv38 ev38 => ?_)
                        try rw [vrd qv38 (show a2.toInt = a2.toInt from by omega)] at D
                        refine x_icne (tgt := 70) rfl rfl (ti_ne rfl rfl ⟨fun c39 => ?_, fun c39 => ?_⟩)
                        ·
                          rw [if_neg (by omega)] at D
                          refine x_aloadn (x := 125) rfl rfl ?_
                          refine z_getR (N := 92) (b := 126) 12 2 rfl f_12_8 rfl J rfl 16002 ⟨rfl, rfl⟩ rfl ?_
                          refine x_iconst (v := 2) rfl ki_2 ?_
                          refine z_iald (N := 50660) rfl J rfl sg_126_2_3_1_0_1 jk_2 (by omega) (fun v40 qv40 ev40 => ?_)
                          try rw [vrn (n := 2) (by decide) (jmb_w w1 (jmb_c S35 qv40 rfl) rfl)] at D
                          refine x_sipush (v := 200) rfl ks_200 ?_
                          refine x_icne (tgt := 89) rfl rfl (ti_ne rfl jk_200 ⟨fun c41 => ?_, fun c41 => ?_⟩)
                          ·
                            rw [if_neg (by omega)] at D
                            refine x_aloadn (x := 125) rfl rfl ?_
                            refine x_iloadn (x := a1) rfl rfl ?_
                            refine x_iloadn (x := a2) rfl rfl ?_
                            refine x_iloadn (x := a3) rfl rfl ?_
                            refine x_inv (N := m_X12_addJoined) (As := [.int a1, .int a2, .int a3]) (b := 125) (st := []) (dx9 := 8) (mc := 0) (ms := 0) (host := "") 12 rfl t_X12_addJoined ⟨Or.inl q_12_396, i_X12_addJoined.1, i_X12_addJoined.2⟩ ⟨by decide, rfl⟩ (congrArg Prod.fst (J.1.1 125 (12, 92) rfl)) rfl (by decide) rfl rfl ⟨by decide, by decide⟩ (jC.of rfl k_X12_addJoined rfl ?_)
                            show jX m_X12_addJoined 8 0 0 0 [(0, .ref 125), (1, .int a1), (2, .int a2), (3, .int a3)] [] _ 0 0 _
                            refine x_sipush (v := 18140) rfl ks_18140 ?_
                            refine x_iconst (v := 3) rfl ki_3 ?_
                            refine x_aloadn (x := 125) rfl rfl ?_
                            refine z_getR (N := 92) (b := 126) 12 2 rfl f_12_8 rfl J rfl 16002 ⟨rfl, rfl⟩ rfl ?_
                            refine x_iconst (v := 2) rfl ki_2 ?_
                            refine z_ialdM (N := 50660) (v := v40) rfl J rfl jk_2 (by omega) qv40 ?_
                            refine z_imul rfl jk_3 rfl (by omega) (fun v42 ev42 => ?_)
                            refine z_iadd rfl jk_18140 rfl (by omega) (fun v43 ev43 => ?_)
                            refine x_istore (lsx9 := [(4, .int v43), (0, .ref 125), (1, .int a1), (2, .int a2), (3, .int a3)]) rfl rfl rfl ?_
                            refine x_aloadn (x := 125) rfl rfl ?_
                            refine z_getR (N := 92) (b := 126) 12 2 rfl f_12_8 rfl J rfl 16002 ⟨rfl, rfl⟩ rfl ?_
                            refine x_iload (x := v43) rfl rfl ?_
                            refine x_iloadn (x := a1) rfl rfl ?_
                            refine z_iast (N := 50660) (l := 18140) (u := 18740) (w := a1.toInt) rfl hD J Sm rfl rfl rfl (by omega) rfl (wr_126_18140 (by omega) (fun q1 q2 q3 q4 => by omega) (fun q1 q2 q3 q4 => by omega) (fun q1 q2 q3 q4 => by omega)) rfl (fun h w44 J Sm => ?_)
                            rw [vww w44 (show (18140 + (3 * v40.toInt)) = v43.toInt from by omega) (show a1.toInt = a1.toInt from by omega)] at D
                            refine x_aloadn (x := 125) rfl rfl ?_
                            refine z_getR (N := 92) (b := 126) 12 2 rfl f_12_8 rfl J rfl 16002 ⟨rfl, rfl⟩ rfl ?_
                            refine x_iload (x := v43) rfl rfl ?_
                            refine x_iconst (v := 1) rfl ki_1 ?_
                            refine z_iadd rfl rfl jk_1 (by omega) (fun v45 ev45 => ?_)
                            refine x_iloadn (x := a2) rfl rfl ?_
                            refine z_iast (N := 50660) (l := 18140) (u := 18740) (w := a2.toInt) rfl hD J Sm rfl rfl rfl (by omega) rfl (wr_126_18140 (by omega) (fun q1 q2 q3 q4 => by omega) (fun q1 q2 q3 q4 => by omega) (fun q1 q2 q3 q4 => by omega)) rfl (fun h w46 J Sm => ?_)
                            rw [vww w46 (show ((18140 + (3 * v40.toInt)) + 1) = v45.toInt from by omega) (show a2.toInt = a2.toInt from by omega)] at D
                            refine x_aloadn (x := 125) rfl rfl ?_
                            refine z_getR (N := 92) (b := 126) 12 2 rfl f_12_8 rfl J rfl 16002 ⟨rfl, rfl⟩ rfl ?_
                            refine x_iload (x := v43) rfl rfl ?_
                            refine x_iconst (v := 2) rfl ki_2 ?_
                            refine z_iadd rfl rfl jk_2 (by omega) (fun v47 ev47 => ?_)
                            refine x_iloadn (x := a3) rfl rfl ?_
                            refine z_iast (N := 50660) (l := 18140) (u := 18740) (w := a3.toInt) rfl hD J Sm rfl rfl rfl (by omega) rfl (wr_126_18140 (by omega) (fun q1 q2 q3 q4 => by omega) (fun q1 q2 q3 q4 => by omega) (fun q1 q2 q3 q4 => by omega)) rfl (fun h w48 J Sm => ?_)
                            rw [vww w48 (show ((18140 + (3 * v40.toInt)) + 2) = v47.toInt from by omega) (show a3.toInt = a3.toInt from by omega)] at D
                            refine x_aloadn (x := 125) rfl rfl ?_
                            refine z_getR (N := 92) (b := 126) 12 2 rfl f_12_8 rfl J rfl 16002 ⟨rfl, rfl⟩ rfl ?_
                            refine x_iconst (v := 2) rfl ki_2 ?_
                            refine x_dup2 rfl rfl rfl ?_
                            refine z_ialdM (N := 50660) (v := v40) rfl J rfl jk_2 (by omega) (jmo2 w48 rfl jk_2 (by omega) (jmo2 w46 rfl jk_2 (by omega) (jmo2 w44 rfl jk_2 (by omega) qv40))) ?_
                            refine x_iconst (v := 1) rfl ki_1 ?_
                            refine z_iadd rfl rfl jk_1 (by omega) (fun v49 ev49 => ?_)
                            refine z_iast (N := 50660) (l := 2) (u := 3) (w := v49.toInt) rfl hD J Sm rfl rfl jk_2 (by omega) rfl (wr_126_2 (by omega) (fun q1 q2 q3 q4 => by omega)) rfl (fun h w50 J Sm => ?_)
                            rw [vwn (n := 2) (by decide) w50 (show (v40.toInt + 1) = v49.toInt from by omega)] at D
                            refine x_vret rfl rfl ?_
                            show jX m_X12_together 9 0 0 96 [(0, .ref 125), (1, .int a1), (2, .int a2), (3, .int a3)] [] _ 0 0 _
                            refine x_aloadn (x := 125) rfl rfl ?_
                            refine x_aloadn (x := 125) rfl rfl ?_
                            refine z_getR (N := 92) (b := 126) 12 2 rfl f_12_8 rfl J rfl 16002 ⟨rfl, rfl⟩ rfl ?_
                            refine x_iconst (v := 2) rfl ki_2 ?_
                            refine z_ialdM (N := 50660) (v := v49) rfl J rfl jk_2 (by omega) (jmw w50) ?_
                            try rw [show (v40.toInt + 1) = v49.toInt from by omega] at D
                            refine x_inv (N := m_X12_told) (As := [.int v49]) (b := 125) (st := []) (dx9 := 1) (mc := 0) (ms := 0) (host := "") 12 rfl t_X12_told ⟨Or.inl q_12_197, i_X12_told.1, i_X12_told.2⟩ ⟨by decide, rfl⟩ (congrArg Prod.fst (J.1.1 125 (12, 92) rfl)) rfl (by decide) rfl rfl ⟨by decide, by decide⟩ (sf_X12_told_r125d  hD J rfl  (fun v54 h J S51 X52 X53 => ?_))
                            have ev54 := jfull v54
                            have Sm := jSm_tr rfl Sm S51
                            try rw [X52] at D
                            try rw [X53] at D
                            show jX m_X12_together 9 0 0 106 [(0, .ref 125), (1, .int a1), (2, .int a2), (3, .int a3)] [.int v54] _ 0 0 _
                            refine x_iret rfl rfl ?_
                            exact hQ _ _ J Sm ((congrArg Prod.fst D).symm.trans X52) ((congrArg Prod.snd D).symm.trans X53)
                          ·
                            rw [if_pos (by omega)] at D
                            refine x_aloadn (x := 125) rfl rfl ?_
                            refine x_bipush (v := (-5)) rfl kb_m5 ?_
                            refine x_inv (N := m_X12_told) (As := [.int (-5)]) (b := 125) (st := []) (dx9 := 1) (mc := 0) (ms := 0) (host := "") 12 rfl t_X12_told ⟨Or.inl q_12_197, i_X12_told.1, i_X12_told.2⟩ ⟨by decide, rfl⟩ (congrArg Prod.fst (J.1.1 125 (12, 92) rfl)) rfl (by decide) rfl rfl ⟨by decide, by decide⟩ (sf_X12_told_r125d  hD J rfl  (fun v58 h J S55 X56 X57 => ?_))
                            have ev58 := jfull v58
                            have Sm := jSm_tr rfl Sm S55
                            try rw [jk_m5] at X56
                            try rw [jk_m5] at X57
                            try rw [X56] at D
                            try rw [X57] at D
                            show jX m_X12_together 9 0 0 88 [(0, .ref 125), (1, .int a1), (2, .int a2), (3, .int a3)] [.int v58] _ 0 0 _
                            refine x_iret rfl rfl ?_
                            exact hQ _ _ J Sm ((congrArg Prod.fst D).symm.trans X56) ((congrArg Prod.snd D).symm.trans X57)
                        ·
                          rw [if_pos (by omega)] at D
                          refine x_aloadn (x := 125) rfl rfl ?_
                          refine x_bipush (v := (-4)) rfl kb_m4 ?_
                          refine x_inv (N := m_X12_told) (As := [.int (-4)]) (b := 125) (st := []) (dx9 := 1) (mc := 0) (ms := 0) (host := "") 12 rfl t_X12_told ⟨Or.inl q_12_197, i_X12_told.1, i_X12_told.2⟩ ⟨by decide, rfl⟩ (congrArg Prod.fst (J.1.1 125 (12, 92) rfl)) rfl (by decide) rfl rfl ⟨by decide, by decide⟩ (sf_X12_told_r125d  hD J rfl  (fun v62 h J S59 X60 X61 => ?_))
                          have ev62 := jfull v62
                          have Sm := jSm_tr rfl Sm S59
                          try rw [jk_m4] at X60
                          try rw [jk_m4] at X61
                          try rw [X60] at D
                          try rw [X61] at D
                          show jX m_X12_together 9 0 0 69 [(0, .ref 125), (1, .int a1), (2, .int a2), (3, .int a3)] [.int v62] _ 0 0 _
                          refine x_iret rfl rfl ?_
                          exact hQ _ _ J Sm ((congrArg Prod.fst D).symm.trans X60) ((congrArg Prod.snd D).symm.trans X61)
                    ·
                      rw [if_pos (by omega)] at D
                      refine x_iconst (v := 2) rfl ki_2 ?_
                      refine x_goto (tgt := 18) rfl rfl ?_
                      refine x_iret rfl rfl ?_
                      show jX m_X12_isMention 8 0 0 27 [(0, .ref 125), (1, .int a2)] [.int 2, .int v27] _ 0 0 _
                      refine x_icge (tgt := 34) rfl rfl (ti_ge rfl jk_2 ⟨fun c63 => ?_, fun c63 => ?_⟩)
                      ·
                        rw [if_pos (by omega)] at D
                        refine x_iconst (v := 0) rfl ki_0 ?_
                        refine x_zret rfl rfl (by decide) ?_
                        show jX m_X12_together 9 0 0 31 [(0, .ref 125), (1, .int a1), (2, .int a2), (3, .int a3)] [.int 0] _ 0 0 _
                        refine x_ifne (tgt := 41) rfl rfl (ti_ne jk_0 jk_0 (bn_f (by omega) ?_))
                        exact jX.sub (jsb_c rfl jsb_n) (ct_X12_together_r125d_34 hD hQ  h J Sm D)
                      ·
                        rw [if_neg (by omega)] at D
                        refine x_iconst (v := 1) rfl ki_1 ?_
                        refine x_goto (tgt := 35) rfl rfl ?_
                        refine x_zret rfl rfl (by decide) ?_
                        show jX m_X12_together 9 0 0 31 [(0, .ref 125), (1, .int a1), (2, .int a2), (3, .int a3)] [.int 1] _ 0 0 _
                        refine x_ifne (tgt := 41) rfl rfl (ti_ne jk_1 jk_0 (bn_t (by omega) ?_))
                        refine x_aloadn (x := 125) rfl rfl ?_
                        refine x_ldcw (v := 146399) rfl z_12_392 ?_
                        refine x_inv (N := m_X12_find) (As := [.int 146399]) (b := 125) (st := []) (dx9 := 8) (mc := 0) (ms := 0) (host := "") 12 rfl t_X12_find ⟨Or.inl q_12_393, i_X12_find.1, i_X12_find.2⟩ ⟨by decide, rfl⟩ (congrArg Prod.fst (J.1.1 125 (12, 92) rfl)) rfl (by decide) rfl rfl ⟨by decide, by decide⟩ (sf_X12_find_r125d (jr_of jk_146399 (by omega)) hD J rfl  (fun h J S64 X65 => ?_))
                        have Sm := jSm_tr rfl Sm S64
                        try rw [jk_146399] at X65
                        rw [X65] at D
                        show jX m_X12_together 9 0 0 48 [(0, .ref 125), (1, .int a1), (2, .int a2), (3, .int a3)] [] _ 0 0 _
                        refine x_aloadn (x := 125) rfl rfl ?_
                        refine z_getR (N := 92) (b := 139) 12 29 rfl f_12_72 rfl J rfl 16029 ⟨rfl, rfl⟩ rfl ?_
                        refine x_iloadn (x := a1) rfl rfl ?_
                        refine z_iald (N := 600) rfl J rfl sg_139_0_600_1_0_1 rfl (by omega) (fun v66 qv66 ev66 => ?_)
                        try rw [vrd qv66 (show a1.toInt = a1.toInt from by omega)] at D
                        refine x_aloadn (x := 125) rfl rfl ?_
                        refine z_getR (N := 92) (b := 139) 12 29 rfl f_12_72 rfl J rfl 16029 ⟨rfl, rfl⟩ rfl ?_
                        refine x_iloadn (x := a2) rfl rfl ?_
                        refine z_iald (N := 600) rfl J rfl sg_139_0_600_1_0_1 rfl (by omega) (fun v67 qv67 ev67 => ?_)
                        try rw [vrd qv67 (show a2.toInt = a2.toInt from by omega)] at D
                        refine x_icne (tgt := 70) rfl rfl (ti_ne rfl rfl ⟨fun c68 => ?_, fun c68 => ?_⟩)
                        ·
                          rw [if_neg (by omega)] at D
                          refine x_aloadn (x := 125) rfl rfl ?_
                          refine z_getR (N := 92) (b := 126) 12 2 rfl f_12_8 rfl J rfl 16002 ⟨rfl, rfl⟩ rfl ?_
                          refine x_iconst (v := 2) rfl ki_2 ?_
                          refine z_iald (N := 50660) rfl J rfl sg_126_2_3_1_0_1 jk_2 (by omega) (fun v69 qv69 ev69 => ?_)
                          try rw [vrn (n := 2) (by decide) (jmb_w w1 (jmb_c S64 qv69 rfl) rfl)] at D
                          refine x_sipush (v := 200) rfl ks_200 ?_
                          refine x_icne (tgt := 89) rfl rfl (ti_ne rfl jk_200 ⟨fun c70 => ?_, fun c70 => ?_⟩)
                          ·
                            rw [if_neg (by omega)] at D
                            refine x_aloadn (x := 125) rfl rfl ?_
                            refine x_iloadn (x := a1) rfl rfl ?_
                            refine x_iloadn (x := a2) rfl rfl ?_
                            refine x_iloadn (x := a3) rfl rfl ?_
                            refine x_inv (N := m_X12_addJoined) (As := [.int a1, .int a2, .int a3]) (b := 125) (st := []) (dx9 := 8) (mc := 0) (ms := 0) (host := "") 12 rfl t_X12_addJoined ⟨Or.inl q_12_396, i_X12_addJoined.1, i_X12_addJoined.2⟩ ⟨by decide, rfl⟩ (congrArg Prod.fst (J.1.1 125 (12, 92) rfl)) rfl (by decide) rfl rfl ⟨by decide, by decide⟩ (jC.of rfl k_X12_addJoined rfl ?_)
                            show jX m_X12_addJoined 8 0 0 0 [(0, .ref 125), (1, .int a1), (2, .int a2), (3, .int a3)] [] _ 0 0 _
                            refine x_sipush (v := 18140) rfl ks_18140 ?_
                            refine x_iconst (v := 3) rfl ki_3 ?_
                            refine x_aloadn (x := 125) rfl rfl ?_
                            refine z_getR (N := 92) (b := 126) 12 2 rfl f_12_8 rfl J rfl 16002 ⟨rfl, rfl⟩ rfl ?_
                            refine x_iconst (v := 2) rfl ki_2 ?_
                            refine z_ialdM (N := 50660) (v := v69) rfl J rfl jk_2 (by omega) qv69 ?_
                            refine z_imul rfl jk_3 rfl (by omega) (fun v71 ev71 => ?_)
                            refine z_iadd rfl jk_18140 rfl (by omega) (fun v72 ev72 => ?_)
                            refine x_istore (lsx9 := [(4, .int v72), (0, .ref 125), (1, .int a1), (2, .int a2), (3, .int a3)]) rfl rfl rfl ?_
                            refine x_aloadn (x := 125) rfl rfl ?_
                            refine z_getR (N := 92) (b := 126) 12 2 rfl f_12_8 rfl J rfl 16002 ⟨rfl, rfl⟩ rfl ?_
                            refine x_iload (x := v72) rfl rfl ?_
                            refine x_iloadn (x := a1) rfl rfl ?_
                            refine z_iast (N := 50660) (l := 18140) (u := 18740) (w := a1.toInt) rfl hD J Sm rfl rfl rfl (by omega) rfl (wr_126_18140 (by omega) (fun q1 q2 q3 q4 => by omega) (fun q1 q2 q3 q4 => by omega) (fun q1 q2 q3 q4 => by omega)) rfl (fun h w73 J Sm => ?_)
                            rw [vww w73 (show (18140 + (3 * v69.toInt)) = v72.toInt from by omega) (show a1.toInt = a1.toInt from by omega)] at D
                            refine x_aloadn (x := 125) rfl rfl ?_
                            refine z_getR (N := 92) (b := 126) 12 2 rfl f_12_8 rfl J rfl 16002 ⟨rfl, rfl⟩ rfl ?_
                            refine x_iload (x := v72) rfl rfl ?_
                            refine x_iconst (v := 1) rfl ki_1 ?_
                            refine z_iadd rfl rfl jk_1 (by omega) (fun v74 ev74 => ?_)
                            refine x_iloadn (x := a2) rfl rfl ?_
                            refine z_iast (N := 50660) (l := 18140) (u := 18740) (w := a2.toInt) rfl hD J Sm rfl rfl rfl (by omega) rfl (wr_126_18140 (by omega) (fun q1 q2 q3 q4 => by omega) (fun q1 q2 q3 q4 => by omega) (fun q1 q2 q3 q4 => by omega)) rfl (fun h w75 J Sm => ?_)
                            rw [vww w75 (show ((18140 + (3 * v69.toInt)) + 1) = v74.toInt from by omega) (show a2.toInt = a2.toInt from by omega)] at D
                            refine x_aloadn (x := 125) rfl rfl ?_
                            refine z_getR (N := 92) (b := 126) 12 2 rfl f_12_8 rfl J rfl 16002 ⟨rfl, rfl⟩ rfl ?_
                            refine x_iload (x := v72) rfl rfl ?_
                            refine x_iconst (v := 2) rfl ki_2 ?_
                            refine z_iadd rfl rfl jk_2 (by omega) (fun v76 ev76 => ?_)
                            refine x_iloadn (x := a3) rfl rfl ?_
                            refine z_iast (N := 50660) (l := 18140) (u := 18740) (w := a3.toInt) rfl hD J Sm rfl rfl rfl (by omega) rfl (wr_126_18140 (by omega) (fun q1 q2 q3 q4 => by omega) (fun q1 q2 q3 q4 => by omega) (fun q1 q2 q3 q4 => by omega)) rfl (fun h w77 J Sm => ?_)
                            rw [vww w77 (show ((18140 + (3 * v69.toInt)) + 2) = v76.toInt from by omega) (show a3.toInt = a3.toInt from by omega)] at D
                            refine x_aloadn (x := 125) rfl rfl ?_
                            refine z_getR (N := 92) (b := 126) 12 2 rfl f_12_8 rfl J rfl 16002 ⟨rfl, rfl⟩ rfl ?_
                            refine x_iconst (v := 2) rfl ki_2 ?_
                            refine x_dup2 rfl rfl rfl ?_
                            refine z_ialdM (N := 50660) (v := v69) rfl J rfl jk_2 (by omega) (jmo2 w77 rfl jk_2 (by omega) (jmo2 w75 rfl jk_2 (by omega) (jmo2 w73 rfl jk_2 (by omega) qv69))) ?_
                            refine x_iconst (v := 1) rfl ki_1 ?_
                            refine z_iadd rfl rfl jk_1 (by omega) (fun v78 ev78 => ?_)
                            refine z_iast (N := 50660) (l := 2) (u := 3) (w := v78.toInt) rfl hD J Sm rfl rfl jk_2 (by omega) rfl (wr_126_2 (by omega) (fun q1 q2 q3 q4 => by omega)) rfl (fun h w79 J Sm => ?_)
                            rw [vwn (n := 2) (by decide) w79 (show (v69.toInt + 1) = v78.toInt from by omega)] at D
                            refine x_vret rfl rfl ?_
                            show jX m_X12_together 9 0 0 96 [(0, .ref 125), (1, .int a1), (2, .int a2), (3, .int a3)] [] _ 0 0 _
                            refine x_aloadn (x := 125) rfl rfl ?_
                            refine x_aloadn (x := 125) rfl rfl ?_
                            refine z_getR (N := 92) (b := 126) 12 2 rfl f_12_8 rfl J rfl 16002 ⟨rfl, rfl⟩ rfl ?_
                            refine x_iconst (v := 2) rfl ki_2 ?_
                            refine z_ialdM (N := 50660) (v := v78) rfl J rfl jk_2 (by omega) (jmw w79) ?_
                            try rw [show (v69.toInt + 1) = v78.toInt from by omega] at D
                            refine x_inv (N := m_X12_told) (As := [.int v78]) (b := 125) (st := []) (dx9 := 1) (mc := 0) (ms := 0) (host := "") 12 rfl t_X12_told ⟨Or.inl q_12_197, i_X12_told.1, i_X12_told.2⟩ ⟨by decide, rfl⟩ (congrArg Prod.fst (J.1.1 125 (12, 92) rfl)) rfl (by decide) rfl rfl ⟨by decide, by decide⟩ (sf_X12_told_r125d  hD J rfl  (fun v83 h J S80 X81 X82 => ?_))
                            have ev83 := jfull v83
                            have Sm := jSm_tr rfl Sm S80
                            try rw [X81] at D
                            try rw [X82] at D
                            show jX m_X12_together 9 0 0 106 [(0, .ref 125), (1, .int a1), (2, .int a2), (3, .int a3)] [.int v83] _ 0 0 _
                            refine x_iret rfl rfl ?_
                            exact hQ _ _ J Sm ((congrArg Prod.fst D).symm.trans X81) ((congrArg Prod.snd D).symm.trans X82)
                          ·
                            rw [if_pos (by omega)] at D
                            refine x_aloadn (x := 125) rfl rfl ?_
                            refine x_bipush (v := (-5)) rfl kb_m5 ?_
                            refine x_inv (N := m_X12_told) (As := [.int (-5)]) (b := 125) (st := []) (dx9 := 1) (mc := 0) (ms := 0) (host := "") 12 rfl t_X12_told ⟨Or.inl q_12_197, i_X12_told.1, i_X12_told.2⟩ ⟨by decide, rfl⟩ (congrArg Prod.fst (J.1.1 125 (12, 92) rfl)) rfl (by decide) rfl rfl ⟨by decide, by decide⟩ (sf_X12_told_r125d  hD J rfl  (fun v87 h J S84 X85 X86 => ?_))
                            have ev87 := jfull v87
                            have Sm := jSm_tr rfl Sm S84
                            try rw [jk_m5] at X85
                            try rw [jk_m5] at X86
                            try rw [X85] at D
                            try rw [X86] at D
                            show jX m_X12_together 9 0 0 88 [(0, .ref 125), (1, .int a1), (2, .int a2), (3, .int a3)] [.int v87] _ 0 0 _
                            refine x_iret rfl rfl ?_
                            exact hQ _ _ J Sm ((congrArg Prod.fst D).symm.trans X85) ((congrArg Prod.snd D).symm.trans X86)
                        ·
                          rw [if_pos (by omega)] at D
                          refine x_aloadn (x := 125) rfl rfl ?_
                          refine x_bipush (v := (-4)) rfl kb_m4 ?_
                          refine x_inv (N := m_X12_told) (As := [.int (-4)]) (b := 125) (st := []) (dx9 := 1) (mc := 0) (ms := 0) (host := "") 12 rfl t_X12_told ⟨Or.inl q_12_197, i_X12_told.1, i_X12_told.2⟩ ⟨by decide, rfl⟩ (congrArg Prod.fst (J.1.1 125 (12, 92) rfl)) rfl (by decide) rfl rfl ⟨by decide, by decide⟩ (sf_X12_told_r125d  hD J rfl  (fun v91 h J S88 X89 X90 => ?_))
                          have ev91 := jfull v91
                          have Sm := jSm_tr rfl Sm S88
                          try rw [jk_m4] at X89
                          try rw [jk_m4] at X90
                          try rw [X89] at D
                          try rw [X90] at D
                          show jX m_X12_together 9 0 0 69 [(0, .ref 125), (1, .int a1), (2, .int a2), (3, .int a3)] [.int v91] _ 0 0 _
                          refine x_iret rfl rfl ?_
                          exact hQ _ _ J Sm ((congrArg Prod.fst D).symm.trans X89) ((congrArg Prod.snd D).symm.trans X90)
                  ·
                    rw [if_pos (by omega)] at D
                    refine x_iconst (v := 3) rfl ki_3 ?_
                    refine x_goto (tgt := 18) rfl rfl ?_
                    refine x_iret rfl rfl ?_
                    show jX m_X12_isMention 8 0 0 27 [(0, .ref 125), (1, .int a2)] [.int 3, .int v27] _ 0 0 _
                    refine x_icge (tgt := 34) rfl rfl (ti_ge rfl jk_3 (br_f (by omega) ?_))
                    refine x_iconst (v := 1) rfl ki_1 ?_
                    refine x_goto (tgt := 35) rfl rfl ?_
                    refine x_zret rfl rfl (by decide) ?_
                    show jX m_X12_together 9 0 0 31 [(0, .ref 125), (1, .int a1), (2, .int a2), (3, .int a3)] [.int 1] _ 0 0 _
                    refine x_ifne (tgt := 41) rfl rfl (ti_ne jk_1 jk_0 (bn_t (by omega) ?_))
                    refine x_aloadn (x := 125) rfl rfl ?_
                    refine x_ldcw (v := 146399) rfl z_12_392 ?_
                    refine x_inv (N := m_X12_find) (As := [.int 146399]) (b := 125) (st := []) (dx9 := 8) (mc := 0) (ms := 0) (host := "") 12 rfl t_X12_find ⟨Or.inl q_12_393, i_X12_find.1, i_X12_find.2⟩ ⟨by decide, rfl⟩ (congrArg Prod.fst (J.1.1 125 (12, 92) rfl)) rfl (by decide) rfl rfl ⟨by decide, by decide⟩ (sf_X12_find_r125d (jr_of jk_146399 (by omega)) hD J rfl  (fun h J S92 X93 => ?_))
                    have Sm := jSm_tr rfl Sm S92
                    try rw [jk_146399] at X93
                    rw [X93] at D
                    show jX m_X12_together 9 0 0 48 [(0, .ref 125), (1, .int a1), (2, .int a2), (3, .int a3)] [] _ 0 0 _
                    refine x_aloadn (x := 125) rfl rfl ?_
                    refine z_getR (N := 92) (b := 139) 12 29 rfl f_12_72 rfl J rfl 16029 ⟨rfl, rfl⟩ rfl ?_
                    refine x_iloadn (x := a1) rfl rfl ?_
                    refine z_iald (N := 600) rfl J rfl sg_139_0_600_1_0_1 rfl (by omega) (fun v94 qv94 ev94 => ?_)
                    try rw [vrd qv94 (show a1.toInt = a1.toInt from by omega)] at D
                    refine x_aloadn (x := 125) rfl rfl ?_
                    refine z_getR (N := 92) (b := 139) 12 29 rfl f_12_72 rfl J rfl 16029 ⟨rfl, rfl⟩ rfl ?_
                    refine x_iloadn (x := a2) rfl rfl ?_
                    refine z_iald (N := 600) rfl J rfl sg_139_0_600_1_0_1 rfl (by omega) (fun v95 qv95 ev95 => ?_)
                    try rw [vrd qv95 (show a2.toInt = a2.toInt from by omega)] at D
                    refine x_icne (tgt := 70) rfl rfl (ti_ne rfl rfl ⟨fun c96 => ?_, fun c96 => ?_⟩)
                    ·
                      rw [if_neg (by omega)] at D
                      refine x_aloadn (x := 125) rfl rfl ?_
                      refine z_getR (N := 92) (b := 126) 12 2 rfl f_12_8 rfl J rfl 16002 ⟨rfl, rfl⟩ rfl ?_
                      refine x_iconst (v := 2) rfl ki_2 ?_
                      refine z_iald (N := 50660) rfl J rfl sg_126_2_3_1_0_1 jk_2 (by omega) (fun v97 qv97 ev97 => ?_)
                      try rw [vrn (n := 2) (by decide) (jmb_w w1 (jmb_c S92 qv97 rfl) rfl)] at D
                      refine x_sipush (v := 200) rfl ks_200 ?_
                      refine x_icne (tgt := 89) rfl rfl (ti_ne rfl jk_200 ⟨fun c98 => ?_, fun c98 => ?_⟩)
                      ·
                        rw [if_neg (by omega)] at D
                        refine x_aloadn (x := 125) rfl rfl ?_
                        refine x_iloadn (x := a1) rfl rfl ?_
                        refine x_iloadn (x := a2) rfl rfl ?_
                        refine x_iloadn (x := a3) rfl rfl ?_
                        refine x_inv (N := m_X12_addJoined) (As := [.int a1, .int a2, .int a3]) (b := 125) (st := []) (dx9 := 8) (mc := 0) (ms := 0) (host := "") 12 rfl t_X12_addJoined ⟨Or.inl q_12_396, i_X12_addJoined.1, i_X12_addJoined.2⟩ ⟨by decide, rfl⟩ (congrArg Prod.fst (J.1.1 125 (12, 92) rfl)) rfl (by decide) rfl rfl ⟨by decide, by decide⟩ (jC.of rfl k_X12_addJoined rfl ?_)
                        show jX m_X12_addJoined 8 0 0 0 [(0, .ref 125), (1, .int a1), (2, .int a2), (3, .int a3)] [] _ 0 0 _
                        refine x_sipush (v := 18140) rfl ks_18140 ?_
                        refine x_iconst (v := 3) rfl ki_3 ?_
                        refine x_aloadn (x := 125) rfl rfl ?_
                        refine z_getR (N := 92) (b := 126) 12 2 rfl f_12_8 rfl J rfl 16002 ⟨rfl, rfl⟩ rfl ?_
                        refine x_iconst (v := 2) rfl ki_2 ?_
                        refine z_ialdM (N := 50660) (v := v97) rfl J rfl jk_2 (by omega) qv97 ?_
                        refine z_imul rfl jk_3 rfl (by omega) (fun v99 ev99 => ?_)
                        refine z_iadd rfl jk_18140 rfl (by omega) (fun v100 ev100 => ?_)
                        refine x_istore (lsx9 := [(4, .int v100), (0, .ref 125), (1, .int a1), (2, .int a2), (3, .int a3)]) rfl rfl rfl ?_
                        refine x_aloadn (x := 125) rfl rfl ?_
                        refine z_getR (N := 92) (b := 126) 12 2 rfl f_12_8 rfl J rfl 16002 ⟨rfl, rfl⟩ rfl ?_
                        refine x_iload (x := v100) rfl rfl ?_
                        refine x_iloadn (x := a1) rfl rfl ?_
                        refine z_iast (N := 50660) (l := 18140) (u := 18740) (w := a1.toInt) rfl hD J Sm rfl rfl rfl (by omega) rfl (wr_126_18140 (by omega) (fun q1 q2 q3 q4 => by omega) (fun q1 q2 q3 q4 => by omega) (fun q1 q2 q3 q4 => by omega)) rfl (fun h w101 J Sm => ?_)
                        rw [vww w101 (show (18140 + (3 * v97.toInt)) = v100.toInt from by omega) (show a1.toInt = a1.toInt from by omega)] at D
                        refine x_aloadn (x := 125) rfl rfl ?_
                        refine z_getR (N := 92) (b := 126) 12 2 rfl f_12_8 rfl J rfl 16002 ⟨rfl, rfl⟩ rfl ?_
                        refine x_iload (x := v100) rfl rfl ?_
                        refine x_iconst (v := 1) rfl ki_1 ?_
                        refine z_iadd rfl rfl jk_1 (by omega) (fun v102 ev102 => ?_)
                        refine x_iloadn (x := a2) rfl rfl ?_
                        refine z_iast (N := 50660) (l := 18140) (u := 18740) (w := a2.toInt) rfl hD J Sm rfl rfl rfl (by omega) rfl (wr_126_18140 (by omega) (fun q1 q2 q3 q4 => by omega) (fun q1 q2 q3 q4 => by omega) (fun q1 q2 q3 q4 => by omega)) rfl (fun h w103 J Sm => ?_)
                        rw [vww w103 (show ((18140 + (3 * v97.toInt)) + 1) = v102.toInt from by omega) (show a2.toInt = a2.toInt from by omega)] at D
                        refine x_aloadn (x := 125) rfl rfl ?_
                        refine z_getR (N := 92) (b := 126) 12 2 rfl f_12_8 rfl J rfl 16002 ⟨rfl, rfl⟩ rfl ?_
                        refine x_iload (x := v100) rfl rfl ?_
                        refine x_iconst (v := 2) rfl ki_2 ?_
                        refine z_iadd rfl rfl jk_2 (by omega) (fun v104 ev104 => ?_)
                        refine x_iloadn (x := a3) rfl rfl ?_
                        refine z_iast (N := 50660) (l := 18140) (u := 18740) (w := a3.toInt) rfl hD J Sm rfl rfl rfl (by omega) rfl (wr_126_18140 (by omega) (fun q1 q2 q3 q4 => by omega) (fun q1 q2 q3 q4 => by omega) (fun q1 q2 q3 q4 => by omega)) rfl (fun h w105 J Sm => ?_)
                        rw [vww w105 (show ((18140 + (3 * v97.toInt)) + 2) = v104.toInt from by omega) (show a3.toInt = a3.toInt from by omega)] at D
                        refine x_aloadn (x := 125) rfl rfl ?_
                        refine z_getR (N := 92) (b := 126) 12 2 rfl f_12_8 rfl J rfl 16002 ⟨rfl, rfl⟩ rfl ?_
                        refine x_iconst (v := 2) rfl ki_2 ?_
                        refine x_dup2 rfl rfl rfl ?_
                        refine z_ialdM (N := 50660) (v := v97) rfl J rfl jk_2 (by omega) (jmo2 w105 rfl jk_2 (by omega) (jmo2 w103 rfl jk_2 (by omega) (jmo2 w101 rfl jk_2 (by omega) qv97))) ?_
                        refine x_iconst (v := 1) rfl ki_1 ?_
                        refine z_iadd rfl rfl jk_1 (by omega) (fun v106 ev106 => ?_)
                        refine z_iast (N := 50660) (l := 2) (u := 3) (w := v106.toInt) rfl hD J Sm rfl rfl jk_2 (by omega) rfl (wr_126_2 (by omega) (fun q1 q2 q3 q4 => by omega)) rfl (fun h w107 J Sm => ?_)
                        rw [vwn (n := 2) (by decide) w107 (show (v97.toInt + 1) = v106.toInt from by omega)] at D
                        refine x_vret rfl rfl ?_
                        show jX m_X12_together 9 0 0 96 [(0, .ref 125), (1, .int a1), (2, .int a2), (3, .int a3)] [] _ 0 0 _
                        refine x_aloadn (x := 125) rfl rfl ?_
                        refine x_aloadn (x := 125) rfl rfl ?_
                        refine z_getR (N := 92) (b := 126) 12 2 rfl f_12_8 rfl J rfl 16002 ⟨rfl, rfl⟩ rfl ?_
                        refine x_iconst (v := 2) rfl ki_2 ?_
                        refine z_ialdM (N := 50660) (v := v106) rfl J rfl jk_2 (by omega) (jmw w107) ?_
                        try rw [show (v97.toInt + 1) = v106.toInt from by omega] at D
                        refine x_inv (N := m_X12_told) (As := [.int v106]) (b := 125) (st := []) (dx9 := 1) (mc := 0) (ms := 0) (host := "") 12 rfl t_X12_told ⟨Or.inl q_12_197, i_X12_told.1, i_X12_told.2⟩ ⟨by decide, rfl⟩ (congrArg Prod.fst (J.1.1 125 (12, 92) rfl)) rfl (by decide) rfl rfl ⟨by decide, by decide⟩ (sf_X12_told_r125d  hD J rfl  (fun v111 h J S108 X109 X110 => ?_))
                        have ev111 := jfull v111
                        have Sm := jSm_tr rfl Sm S108
                        try rw [X109] at D
                        try rw [X110] at D
                        show jX m_X12_together 9 0 0 106 [(0, .ref 125), (1, .int a1), (2, .int a2), (3, .int a3)] [.int v111] _ 0 0 _
                        refine x_iret rfl rfl ?_
                        exact hQ _ _ J Sm ((congrArg Prod.fst D).symm.trans X109) ((congrArg Prod.snd D).symm.trans X110)
                      ·
                        rw [if_pos (by omega)] at D
                        refine x_aloadn (x := 125) rfl rfl ?_
                        refine x_bipush (v := (-5)) rfl kb_m5 ?_
                        refine x_inv (N := m_X12_told) (As := [.int (-5)]) (b := 125) (st := []) (dx9 := 1) (mc := 0) (ms := 0) (host := "") 12 rfl t_X12_told ⟨Or.inl q_12_197, i_X12_told.1, i_X12_told.2⟩ ⟨by decide, rfl⟩ (congrArg Prod.fst (J.1.1 125 (12, 92) rfl)) rfl (by decide) rfl rfl ⟨by decide, by decide⟩ (sf_X12_told_r125d  hD J rfl  (fun v115 h J S112 X113 X114 => ?_))
                        have ev115 := jfull v115
                        have Sm := jSm_tr rfl Sm S112
                        try rw [jk_m5] at X113
                        try rw [jk_m5] at X114
                        try rw [X113] at D
                        try rw [X114] at D
                        show jX m_X12_together 9 0 0 88 [(0, .ref 125), (1, .int a1), (2, .int a2), (3, .int a3)] [.int v115] _ 0 0 _
                        refine x_iret rfl rfl ?_
                        exact hQ _ _ J Sm ((congrArg Prod.fst D).symm.trans X113) ((congrArg Prod.snd D).symm.trans X114)
                    ·
                      rw [if_pos (by omega)] at D
                      refine x_aloadn (x := 125) rfl rfl ?_
                      refine x_bipush (v := (-4)) rfl kb_m4 ?_
                      refine x_inv (N := m_X12_told) (As := [.int (-4)]) (b := 125) (st := []) (dx9 := 1) (mc := 0) (ms := 0) (host := "") 12 rfl t_X12_told ⟨Or.inl q_12_197, i_X12_told.1, i_X12_told.2⟩ ⟨by decide, rfl⟩ (congrArg Prod.fst (J.1.1 125 (12, 92) rfl)) rfl (by decide) rfl rfl ⟨by decide, by decide⟩ (sf_X12_told_r125d  hD J rfl  (fun v119 h J S116 X117 X118 => ?_))
                      have ev119 := jfull v119
                      have Sm := jSm_tr rfl Sm S116
                      try rw [jk_m4] at X117
                      try rw [jk_m4] at X118
                      try rw [X117] at D
                      try rw [X118] at D
                      show jX m_X12_together 9 0 0 69 [(0, .ref 125), (1, .int a1), (2, .int a2), (3, .int a3)] [.int v119] _ 0 0 _
                      refine x_iret rfl rfl ?_
                      exact hQ _ _ J Sm ((congrArg Prod.fst D).symm.trans X117) ((congrArg Prod.snd D).symm.trans X118)
          ·
            rw [if_pos (by omega)] at D
            refine x_iconst (v := 2) rfl ki_2 ?_
            refine x_goto (tgt := 18) rfl rfl ?_
            refine x_iret rfl rfl ?_
            show jX m_X12_isMention 8 0 0 27 [(0, .ref 125), (1, .int a1)] [.int 2, .int v12] _ 0 0 _
            refine x_icge (tgt := 34) rfl rfl (ti_ge rfl jk_2 ⟨fun c120 => ?_, fun c120 => ?_⟩)
            ·
              rw [if_pos (by omega)] at D
              refine x_iconst (v := 0) rfl ki_0 ?_
              refine x_zret rfl rfl (by decide) ?_
              show jX m_X12_together 9 0 0 23 [(0, .ref 125), (1, .int a1), (2, .int a2), (3, .int a3)] [.int 0] _ 0 0 _
              refine x_ifeq (tgt := 34) rfl rfl (ti_eq jk_0 jk_0 (br_t (by omega) ?_))
              exact jX.sub (jsb_c rfl jsb_n) (ct_X12_together_r125d_34 hD hQ  h J Sm D)
            ·
              rw [if_neg (by omega)] at D
              refine x_iconst (v := 1) rfl ki_1 ?_
              refine x_goto (tgt := 35) rfl rfl ?_
              refine x_zret rfl rfl (by decide) ?_
              show jX m_X12_together 9 0 0 23 [(0, .ref 125), (1, .int a1), (2, .int a2), (3, .int a3)] [.int 1] _ 0 0 _
              refine x_ifeq (tgt := 34) rfl rfl (ti_eq jk_1 jk_0 (br_f (by omega) ?_))
              refine x_aloadn (x := 125) rfl rfl ?_
              refine x_iloadn (x := a2) rfl rfl ?_
              refine x_inv (N := m_X12_isMention) (As := [.int a2]) (b := 125) (st := []) (dx9 := 8) (mc := 0) (ms := 0) (host := "") 12 rfl t_X12_isMention ⟨Or.inl q_12_322, i_X12_isMention.1, i_X12_isMention.2⟩ ⟨by decide, rfl⟩ (congrArg Prod.fst (J.1.1 125 (12, 92) rfl)) rfl (by decide) rfl rfl ⟨by decide, by decide⟩ (jC.of rfl k_X12_isMention rfl ?_)
              show jX m_X12_isMention 8 0 0 0 [(0, .ref 125), (1, .int a2)] [] _ 0 0 _
              refine x_iloadn (x := a2) rfl rfl ?_
              refine x_iflt (tgt := 34) rfl rfl (ti_lt rfl jk_0 ⟨fun c121 => ?_, fun c121 => ?_⟩)
              ·
                rw [if_pos (by omega)] at D
                refine x_iconst (v := 0) rfl ki_0 ?_
                refine x_zret rfl rfl (by decide) ?_
                show jX m_X12_together 9 0 0 31 [(0, .ref 125), (1, .int a1), (2, .int a2), (3, .int a3)] [.int 0] _ 0 0 _
                refine x_ifne (tgt := 41) rfl rfl (ti_ne jk_0 jk_0 (bn_f (by omega) ?_))
                exact jX.sub (jsb_c rfl jsb_n) (ct_X12_together_r125d_34 hD hQ  h J Sm D)
              ·
                rw [if_neg (by omega)] at D
                refine x_aloadn (x := 125) rfl rfl ?_
                refine x_iloadn (x := a2) rfl rfl ?_
                refine x_iconst (v := 3) rfl ki_3 ?_
                refine z_idiv rfl rfl jk_3 (by omega) (by omega) (fun v122 ev122 => ?_)
                refine x_inv (N := m_X12_isLine) (As := [.int v122]) (b := 125) (st := []) (dx9 := 7) (mc := 0) (ms := 0) (host := "") 12 rfl t_X12_isLine ⟨Or.inl q_12_293, i_X12_isLine.1, i_X12_isLine.2⟩ ⟨by decide, rfl⟩ (congrArg Prod.fst (J.1.1 125 (12, 92) rfl)) rfl (by decide) rfl rfl ⟨by decide, by decide⟩ (jC.of rfl k_X12_isLine rfl ?_)
                show jX m_X12_isLine 7 0 0 0 [(0, .ref 125), (1, .int v122)] [] _ 0 0 _
                refine x_iloadn (x := v122) rfl rfl ?_
                refine z_i2l rfl rfl (fun v123 ev123 => ?_)
                refine x_lconst (v := 0) rfl kl_0 ?_
                refine x_aloadn (x := 125) rfl rfl ?_
                refine z_getR (N := 92) (b := 126) 12 2 rfl f_12_8 rfl J rfl 16002 ⟨rfl, rfl⟩ rfl ?_
                refine x_iconst (v := 0) rfl ki_0 ?_
                refine z_ialdM (N := 50660) (v := v7) rfl J rfl jk_0 (by omega) qv7 ?_
                refine z_i2l rfl rfl (fun v124 ev124 => ?_)
                refine x_lconst (v := 1) rfl kl_1 ?_
                refine z_lsub rfl rfl jkl_1 (by omega) (fun v125 ev125 => ?_)
                refine x_inst (N := m_X12_in) (As := [.long v123, .long 0, .long v125]) (st := []) (dx9 := 1) (mc := 0) (ms := 0) (host := "") rfl t_X12_in ⟨Or.inl q_12_188, s_X12_in⟩ rfl (by decide) rfl rfl ⟨by decide, by decide⟩ (zc_X12_in rfl jkl_0 rfl (fun v126 ev126 => ?_))
                show jX m_X12_isLine 7 0 0 15 [(0, .ref 125), (1, .int v122)] [.int v126] _ 0 0 _
                refine x_zret rfl rfl (jz01 (by omega)) ?_
                show jX m_X12_isMention 8 0 0 11 [(0, .ref 125), (1, .int a2)] [.int v126] _ 0 0 _
                refine x_ifeq (tgt := 34) rfl rfl (ti_eq rfl jk_0 ⟨fun c127 => ?_, fun c127 => ?_⟩)
                ·
                  rw [if_neg (by omega)] at D
                  refine x_iconst (v := 0) rfl ki_0 ?_
                  refine x_zret rfl rfl (by decide) ?_
                  show jX m_X12_together 9 0 0 31 [(0, .ref 125), (1, .int a1), (2, .int a2), (3, .int a3)] [.int 0] _ 0 0 _
                  refine x_ifne (tgt := 41) rfl rfl (ti_ne jk_0 jk_0 (bn_f (by omega) ?_))
                  exact jX.sub (jsb_c rfl jsb_n) (ct_X12_together_r125d_34 hD hQ  h J Sm D)
                ·
                  rw [if_pos (by omega)] at D
                  refine x_iloadn (x := a2) rfl rfl ?_
                  refine x_iconst (v := 3) rfl ki_3 ?_
                  refine z_irem rfl rfl jk_3 (by omega) (by omega) (fun v128 ev128 => ?_)
                  refine x_aloadn (x := 125) rfl rfl ?_
                  refine x_iloadn (x := a2) rfl rfl ?_
                  refine x_iconst (v := 3) rfl ki_3 ?_
                  refine z_idiv rfl rfl jk_3 (by omega) (by omega) (fun v129 ev129 => ?_)
                  refine x_inv (N := m_X12_bookOf) (As := [.int v129]) (b := 125) (st := [.int v128]) (dx9 := 7) (mc := 0) (ms := 0) (host := "") 12 rfl t_X12_bookOf ⟨Or.inl q_12_299, i_X12_bookOf.1, i_X12_bookOf.2⟩ ⟨by decide, rfl⟩ (congrArg Prod.fst (J.1.1 125 (12, 92) rfl)) rfl (by decide) rfl rfl ⟨by decide, by decide⟩ (jC.of rfl k_X12_bookOf rfl ?_)
                  show jX m_X12_bookOf 7 0 0 0 [(0, .ref 125), (1, .int v129)] [] _ 0 0 _
                  refine x_aloadn (x := 125) rfl rfl ?_
                  refine z_getR (N := 92) (b := 126) 12 2 rfl f_12_8 rfl J rfl 16002 ⟨rfl, rfl⟩ rfl ?_
                  refine x_aloadn (x := 125) rfl rfl ?_
                  refine x_iloadn (x := v129) rfl rfl ?_
                  refine x_inv (N := m_X12_at) (As := [.int v129]) (b := 125) (st := [.ref 126]) (dx9 := 6) (mc := 0) (ms := 0) (host := "") 12 rfl t_X12_at ⟨Or.inl q_12_254, i_X12_at.1, i_X12_at.2⟩ ⟨by decide, rfl⟩ (congrArg Prod.fst (J.1.1 125 (12, 92) rfl)) rfl (by decide) rfl rfl ⟨by decide, by decide⟩ (jC.of rfl k_X12_at rfl ?_)
                  show jX m_X12_at 6 0 0 0 [(0, .ref 125), (1, .int v129)] [] _ 0 0 _
                  refine x_bipush (v := 20) rfl kb_20 ?_
                  refine x_bipush (v := 90) rfl kb_90 ?_
                  refine x_iloadn (x := v129) rfl rfl ?_
                  refine z_imul rfl jk_90 rfl (by omega) (fun v130 ev130 => ?_)
                  refine z_iadd rfl jk_20 rfl (by omega) (fun v131 ev131 => ?_)
                  refine x_iret rfl rfl ?_
                  show jX m_X12_bookOf 7 0 0 9 [(0, .ref 125), (1, .int v129)] [.int v131, .ref 126] _ 0 0 _
                  refine z_iald (N := 50660) rfl J rfl sg_126_20_18020_90_0_1 rfl (by omega) (fun v132 qv132 ev132 => ?_)
                  try rw [vrd (jmb_w w1 qv132 rfl) (show (20 + (90 * (a2.toInt / 3))) = v131.toInt from by omega)] at D
                  refine x_iret rfl rfl ?_
                  show jX m_X12_isMention 8 0 0 24 [(0, .ref 125), (1, .int a2)] [.int v132, .int v128] _ 0 0 _
                  refine x_inst (N := m_X12_rolesOf) (As := [.int v132]) (st := [.int v128]) (dx9 := 7) (mc := 0) (ms := 0) (host := "") rfl t_X12_rolesOf ⟨Or.inl q_12_286, s_X12_rolesOf⟩ rfl (by decide) rfl rfl ⟨by decide, by decide⟩ (jC.of rfl k_X12_rolesOf rfl ?_)
                  show jX m_X12_rolesOf 7 0 0 0 [(0, .int v132)] [] _ 0 0 _
                  refine x_iloadn (x := v132) rfl rfl ?_
                  refine x_ifne (tgt := 8) rfl rfl (ti_ne rfl jk_0 ⟨fun c133 => ?_, fun c133 => ?_⟩)
                  ·
                    rw [if_neg (by omega)] at D
                    refine x_iloadn (x := v132) rfl rfl ?_
                    refine x_iconst (v := 1) rfl ki_1 ?_
                    refine x_icne (tgt := 17) rfl rfl (ti_ne rfl jk_1 ⟨fun c134 => ?_, fun c134 => ?_⟩)
                    ·
                      rw [if_neg (by omega)] at D
                      refine x_iconst (v := 1) rfl ki_1 ?_
                      refine x_iret rfl rfl ?_
                      show jX m_X12_isMention 8 0 0 27 [(0, .ref 125), (1, .int a2)] [.int 1, .int v128] _ 0 0 _
                      refine x_icge (tgt := 34) rfl rfl (ti_ge rfl jk_1 ⟨fun c135 => ?_, fun c135 => ?_⟩)
                      ·
                        rw [if_pos (by omega)] at D
                        refine x_iconst (v := 0) rfl ki_0 ?_
                        refine x_zret rfl rfl (by decide) ?_
                        show jX m_X12_together 9 0 0 31 [(0, .ref 125), (1, .int a1), (2, .int a2), (3, .int a3)] [.int 0] _ 0 0 _
                        refine x_ifne (tgt := 41) rfl rfl (ti_ne jk_0 jk_0 (bn_f (by omega) ?_))
                        exact jX.sub (jsb_c rfl jsb_n) (ct_X12_together_r125d_34 hD hQ  h J Sm D)
                      ·
                        rw [if_neg (by omega)] at D
                        refine x_iconst (v := 1) rfl ki_1 ?_
                        refine x_goto (tgt := 35) rfl rfl ?_
                        refine x_zret rfl rfl (by decide) ?_
                        show jX m_X12_together 9 0 0 31 [(0, .ref 125), (1, .int a1), (2, .int a2), (3, .int a3)] [.int 1] _ 0 0 _
                        refine x_ifne (tgt := 41) rfl rfl (ti_ne jk_1 jk_0 (bn_t (by omega) ?_))
                        refine x_aloadn (x := 125) rfl rfl ?_
                        refine x_ldcw (v := 146399) rfl z_12_392 ?_
                        refine x_inv (N := m_X12_find) (As := [.int 146399]) (b := 125) (st := []) (dx9 := 8) (mc := 0) (ms := 0) (host := "") 12 rfl t_X12_find ⟨Or.inl q_12_393, i_X12_find.1, i_X12_find.2⟩ ⟨by decide, rfl⟩ (congrArg Prod.fst (J.1.1 125 (12, 92) rfl)) rfl (by decide) rfl rfl ⟨by decide, by decide⟩ (sf_X12_find_r125d (jr_of jk_146399 (by omega)) hD J rfl  (fun h J S136 X137 => ?_))
                        have Sm := jSm_tr rfl Sm S136
                        try rw [jk_146399] at X137
                        rw [X137] at D
                        show jX m_X12_together 9 0 0 48 [(0, .ref 125), (1, .int a1), (2, .int a2), (3, .int a3)] [] _ 0 0 _
                        refine x_aloadn (x := 125) rfl rfl ?_
                        refine z_getR (N := 92) (b := 139) 12 29 rfl f_12_72 rfl J rfl 16029 ⟨rfl, rfl⟩ rfl ?_
                        refine x_iloadn (x := a1) rfl rfl ?_
                        refine z_iald (N := 600) rfl J rfl sg_139_0_600_1_0_1 rfl (by omega) (fun v138 qv138 ev138 => ?_)
                        try rw [vrd qv138 (show a1.toInt = a1.toInt from by omega)] at D
                        refine x_aloadn (x := 125) rfl rfl ?_
                        refine z_getR (N := 92) (b := 139) 12 29 rfl f_12_72 rfl J rfl 16029 ⟨rfl, rfl⟩ rfl ?_
                        refine x_iloadn (x := a2) rfl rfl ?_
                        refine z_iald (N := 600) rfl J rfl sg_139_0_600_1_0_1 rfl (by omega) (fun v139 qv139 ev139 => ?_)
                        try rw [vrd qv139 (show a2.toInt = a2.toInt from by omega)] at D
                        refine x_icne (tgt := 70) rfl rfl (ti_ne rfl rfl ⟨fun c140 => ?_, fun c140 => ?_⟩)
                        ·
                          rw [if_neg (by omega)] at D
                          refine x_aloadn (x := 125) rfl rfl ?_
                          refine z_getR (N := 92) (b := 126) 12 2 rfl f_12_8 rfl J rfl 16002 ⟨rfl, rfl⟩ rfl ?_
                          refine x_iconst (v := 2) rfl ki_2 ?_
                          refine z_iald (N := 50660) rfl J rfl sg_126_2_3_1_0_1 jk_2 (by omega) (fun v141 qv141 ev141 => ?_)
                          try rw [vrn (n := 2) (by decide) (jmb_w w1 (jmb_c S136 qv141 rfl) rfl)] at D
                          refine x_sipush (v := 200) rfl ks_200 ?_
                          refine x_icne (tgt := 89) rfl rfl (ti_ne rfl jk_200 ⟨fun c142 => ?_, fun c142 => ?_⟩)
                          ·
                            rw [if_neg (by omega)] at D
                            refine x_aloadn (x := 125) rfl rfl ?_
                            refine x_iloadn (x := a1) rfl rfl ?_
                            refine x_iloadn (x := a2) rfl rfl ?_
                            refine x_iloadn (x := a3) rfl rfl ?_
                            refine x_inv (N := m_X12_addJoined) (As := [.int a1, .int a2, .int a3]) (b := 125) (st := []) (dx9 := 8) (mc := 0) (ms := 0) (host := "") 12 rfl t_X12_addJoined ⟨Or.inl q_12_396, i_X12_addJoined.1, i_X12_addJoined.2⟩ ⟨by decide, rfl⟩ (congrArg Prod.fst (J.1.1 125 (12, 92) rfl)) rfl (by decide) rfl rfl ⟨by decide, by decide⟩ (jC.of rfl k_X12_addJoined rfl ?_)
                            show jX m_X12_addJoined 8 0 0 0 [(0, .ref 125), (1, .int a1), (2, .int a2), (3, .int a3)] [] _ 0 0 _
                            refine x_sipush (v := 18140) rfl ks_18140 ?_
                            refine x_iconst (v := 3) rfl ki_3 ?_
                            refine x_aloadn (x := 125) rfl rfl ?_
                            refine z_getR (N := 92) (b := 126) 12 2 rfl f_12_8 rfl J rfl 16002 ⟨rfl, rfl⟩ rfl ?_
                            refine x_iconst (v := 2) rfl ki_2 ?_
                            refine z_ialdM (N := 50660) (v := v141) rfl J rfl jk_2 (by omega) qv141 ?_
                            refine z_imul rfl jk_3 rfl (by omega) (fun v143 ev143 => ?_)
                            refine z_iadd rfl jk_18140 rfl (by omega) (fun v144 ev144 => ?_)
                            refine x_istore (lsx9 := [(4, .int v144), (0, .ref 125), (1, .int a1), (2, .int a2), (3, .int a3)]) rfl rfl rfl ?_
                            refine x_aloadn (x := 125) rfl rfl ?_
                            refine z_getR (N := 92) (b := 126) 12 2 rfl f_12_8 rfl J rfl 16002 ⟨rfl, rfl⟩ rfl ?_
                            refine x_iload (x := v144) rfl rfl ?_
                            refine x_iloadn (x := a1) rfl rfl ?_
                            refine z_iast (N := 50660) (l := 18140) (u := 18740) (w := a1.toInt) rfl hD J Sm rfl rfl rfl (by omega) rfl (wr_126_18140 (by omega) (fun q1 q2 q3 q4 => by omega) (fun q1 q2 q3 q4 => by omega) (fun q1 q2 q3 q4 => by omega)) rfl (fun h w145 J Sm => ?_)
                            rw [vww w145 (show (18140 + (3 * v141.toInt)) = v144.toInt from by omega) (show a1.toInt = a1.toInt from by omega)] at D
                            refine x_aloadn (x := 125) rfl rfl ?_
                            refine z_getR (N := 92) (b := 126) 12 2 rfl f_12_8 rfl J rfl 16002 ⟨rfl, rfl⟩ rfl ?_
                            refine x_iload (x := v144) rfl rfl ?_
                            refine x_iconst (v := 1) rfl ki_1 ?_
                            refine z_iadd rfl rfl jk_1 (by omega) (fun v146 ev146 => ?_)
                            refine x_iloadn (x := a2) rfl rfl ?_
                            refine z_iast (N := 50660) (l := 18140) (u := 18740) (w := a2.toInt) rfl hD J Sm rfl rfl rfl (by omega) rfl (wr_126_18140 (by omega) (fun q1 q2 q3 q4 => by omega) (fun q1 q2 q3 q4 => by omega) (fun q1 q2 q3 q4 => by omega)) rfl (fun h w147 J Sm => ?_)
                            rw [vww w147 (show ((18140 + (3 * v141.toInt)) + 1) = v146.toInt from by omega) (show a2.toInt = a2.toInt from by omega)] at D
                            refine x_aloadn (x := 125) rfl rfl ?_
                            refine z_getR (N := 92) (b := 126) 12 2 rfl f_12_8 rfl J rfl 16002 ⟨rfl, rfl⟩ rfl ?_
                            refine x_iload (x := v144) rfl rfl ?_
                            refine x_iconst (v := 2) rfl ki_2 ?_
                            refine z_iadd rfl rfl jk_2 (by omega) (fun v148 ev148 => ?_)
                            refine x_iloadn (x := a3) rfl rfl ?_
                            refine z_iast (N := 50660) (l := 18140) (u := 18740) (w := a3.toInt) rfl hD J Sm rfl rfl rfl (by omega) rfl (wr_126_18140 (by omega) (fun q1 q2 q3 q4 => by omega) (fun q1 q2 q3 q4 => by omega) (fun q1 q2 q3 q4 => by omega)) rfl (fun h w149 J Sm => ?_)
                            rw [vww w149 (show ((18140 + (3 * v141.toInt)) + 2) = v148.toInt from by omega) (show a3.toInt = a3.toInt from by omega)] at D
                            refine x_aloadn (x := 125) rfl rfl ?_
                            refine z_getR (N := 92) (b := 126) 12 2 rfl f_12_8 rfl J rfl 16002 ⟨rfl, rfl⟩ rfl ?_
                            refine x_iconst (v := 2) rfl ki_2 ?_
                            refine x_dup2 rfl rfl rfl ?_
                            refine z_ialdM (N := 50660) (v := v141) rfl J rfl jk_2 (by omega) (jmo2 w149 rfl jk_2 (by omega) (jmo2 w147 rfl jk_2 (by omega) (jmo2 w145 rfl jk_2 (by omega) qv141))) ?_
                            refine x_iconst (v := 1) rfl ki_1 ?_
                            refine z_iadd rfl rfl jk_1 (by omega) (fun v150 ev150 => ?_)
                            refine z_iast (N := 50660) (l := 2) (u := 3) (w := v150.toInt) rfl hD J Sm rfl rfl jk_2 (by omega) rfl (wr_126_2 (by omega) (fun q1 q2 q3 q4 => by omega)) rfl (fun h w151 J Sm => ?_)
                            rw [vwn (n := 2) (by decide) w151 (show (v141.toInt + 1) = v150.toInt from by omega)] at D
                            refine x_vret rfl rfl ?_
                            show jX m_X12_together 9 0 0 96 [(0, .ref 125), (1, .int a1), (2, .int a2), (3, .int a3)] [] _ 0 0 _
                            refine x_aloadn (x := 125) rfl rfl ?_
                            refine x_aloadn (x := 125) rfl rfl ?_
                            refine z_getR (N := 92) (b := 126) 12 2 rfl f_12_8 rfl J rfl 16002 ⟨rfl, rfl⟩ rfl ?_
                            refine x_iconst (v := 2) rfl ki_2 ?_
                            refine z_ialdM (N := 50660) (v := v150) rfl J rfl jk_2 (by omega) (jmw w151) ?_
                            try rw [show (v141.toInt + 1) = v150.toInt from by omega] at D
                            refine x_inv (N := m_X12_told) (As := [.int v150]) (b := 125) (st := []) (dx9 := 1) (mc := 0) (ms := 0) (host := "") 12 rfl t_X12_told ⟨Or.inl q_12_197, i_X12_told.1, i_X12_told.2⟩ ⟨by decide, rfl⟩ (congrArg Prod.fst (J.1.1 125 (12, 92) rfl)) rfl (by decide) rfl rfl ⟨by decide, by decide⟩ (sf_X12_told_r125d  hD J rfl  (fun v155 h J S152 X153 X154 => ?_))
                            have ev155 := jfull v155
                            have Sm := jSm_tr rfl Sm S152
                            try rw [X153] at D
                            try rw [X154] at D
                            show jX m_X12_together 9 0 0 106 [(0, .ref 125), (1, .int a1), (2, .int a2), (3, .int a3)] [.int v155] _ 0 0 _
                            refine x_iret rfl rfl ?_
                            exact hQ _ _ J Sm ((congrArg Prod.fst D).symm.trans X153) ((congrArg Prod.snd D).symm.trans X154)
                          ·
                            rw [if_pos (by omega)] at D
                            refine x_aloadn (x := 125) rfl rfl ?_
                            refine x_bipush (v := (-5)) rfl kb_m5 ?_
                            refine x_inv (N := m_X12_told) (As := [.int (-5)]) (b := 125) (st := []) (dx9 := 1) (mc := 0) (ms := 0) (host := "") 12 rfl t_X12_told ⟨Or.inl q_12_197, i_X12_told.1, i_X12_told.2⟩ ⟨by decide, rfl⟩ (congrArg Prod.fst (J.1.1 125 (12, 92) rfl)) rfl (by decide) rfl rfl ⟨by decide, by decide⟩ (sf_X12_told_r125d  hD J rfl  (fun v159 h J S156 X157 X158 => ?_))
                            have ev159 := jfull v159
                            have Sm := jSm_tr rfl Sm S156
                            try rw [jk_m5] at X157
                            try rw [jk_m5] at X158
                            try rw [X157] at D
                            try rw [X158] at D
                            show jX m_X12_together 9 0 0 88 [(0, .ref 125), (1, .int a1), (2, .int a2), (3, .int a3)] [.int v159] _ 0 0 _
                            refine x_iret rfl rfl ?_
                            exact hQ _ _ J Sm ((congrArg Prod.fst D).symm.trans X157) ((congrArg Prod.snd D).symm.trans X158)
                        ·
                          rw [if_pos (by omega)] at D
                          refine x_aloadn (x := 125) rfl rfl ?_
                          refine x_bipush (v := (-4)) rfl kb_m4 ?_
                          refine x_inv (N := m_X12_told) (As := [.int (-4)]) (b := 125) (st := []) (dx9 := 1) (mc := 0) (ms := 0) (host := "") 12 rfl t_X12_told ⟨Or.inl q_12_197, i_X12_told.1, i_X12_told.2⟩ ⟨by decide, rfl⟩ (congrArg Prod.fst (J.1.1 125 (12, 92) rfl)) rfl (by decide) rfl rfl ⟨by decide, by decide⟩ (sf_X12_told_r125d  hD J rfl  (fun v163 h J S160 X161 X162 => ?_))
                          have ev163 := jfull v163
                          have Sm := jSm_tr rfl Sm S160
                          try rw [jk_m4] at X161
                          try rw [jk_m4] at X162
                          try rw [X161] at D
                          try rw [X162] at D
                          show jX m_X12_together 9 0 0 69 [(0, .ref 125), (1, .int a1), (2, .int a2), (3, .int a3)] [.int v163] _ 0 0 _
                          refine x_iret rfl rfl ?_
                          exact hQ _ _ J Sm ((congrArg Prod.fst D).symm.trans X161) ((congrArg Prod.snd D).symm.trans X162)
                    ·
                      rw [if_pos (by omega)] at D
                      refine x_iconst (v := 2) rfl ki_2 ?_
                      refine x_goto (tgt := 18) rfl rfl ?_
                      refine x_iret rfl rfl ?_
                      show jX m_X12_isMention 8 0 0 27 [(0, .ref 125), (1, .int a2)] [.int 2, .int v128] _ 0 0 _
                      refine x_icge (tgt := 34) rfl rfl (ti_ge rfl jk_2 ⟨fun c164 => ?_, fun c164 => ?_⟩)
                      ·
                        rw [if_pos (by omega)] at D
                        refine x_iconst (v := 0) rfl ki_0 ?_
                        refine x_zret rfl rfl (by decide) ?_
                        show jX m_X12_together 9 0 0 31 [(0, .ref 125), (1, .int a1), (2, .int a2), (3, .int a3)] [.int 0] _ 0 0 _
                        refine x_ifne (tgt := 41) rfl rfl (ti_ne jk_0 jk_0 (bn_f (by omega) ?_))
                        exact jX.sub (jsb_c rfl jsb_n) (ct_X12_together_r125d_34 hD hQ  h J Sm D)
                      ·
                        rw [if_neg (by omega)] at D
                        refine x_iconst (v := 1) rfl ki_1 ?_
                        refine x_goto (tgt := 35) rfl rfl ?_
                        refine x_zret rfl rfl (by decide) ?_
                        show jX m_X12_together 9 0 0 31 [(0, .ref 125), (1, .int a1), (2, .int a2), (3, .int a3)] [.int 1] _ 0 0 _
                        refine x_ifne (tgt := 41) rfl rfl (ti_ne jk_1 jk_0 (bn_t (by omega) ?_))
                        refine x_aloadn (x := 125) rfl rfl ?_
                        refine x_ldcw (v := 146399) rfl z_12_392 ?_
                        refine x_inv (N := m_X12_find) (As := [.int 146399]) (b := 125) (st := []) (dx9 := 8) (mc := 0) (ms := 0) (host := "") 12 rfl t_X12_find ⟨Or.inl q_12_393, i_X12_find.1, i_X12_find.2⟩ ⟨by decide, rfl⟩ (congrArg Prod.fst (J.1.1 125 (12, 92) rfl)) rfl (by decide) rfl rfl ⟨by decide, by decide⟩ (sf_X12_find_r125d (jr_of jk_146399 (by omega)) hD J rfl  (fun h J S165 X166 => ?_))
                        have Sm := jSm_tr rfl Sm S165
                        try rw [jk_146399] at X166
                        rw [X166] at D
                        show jX m_X12_together 9 0 0 48 [(0, .ref 125), (1, .int a1), (2, .int a2), (3, .int a3)] [] _ 0 0 _
                        refine x_aloadn (x := 125) rfl rfl ?_
                        refine z_getR (N := 92) (b := 139) 12 29 rfl f_12_72 rfl J rfl 16029 ⟨rfl, rfl⟩ rfl ?_
                        refine x_iloadn (x := a1) rfl rfl ?_
                        refine z_iald (N := 600) rfl J rfl sg_139_0_600_1_0_1 rfl (by omega) (fun v167 qv167 ev167 => ?_)
                        try rw [vrd qv167 (show a1.toInt = a1.toInt from by omega)] at D
                        refine x_aloadn (x := 125) rfl rfl ?_
                        refine z_getR (N := 92) (b := 139) 12 29 rfl f_12_72 rfl J rfl 16029 ⟨rfl, rfl⟩ rfl ?_
                        refine x_iloadn (x := a2) rfl rfl ?_
                        refine z_iald (N := 600) rfl J rfl sg_139_0_600_1_0_1 rfl (by omega) (fun v168 qv168 ev168 => ?_)
                        try rw [vrd qv168 (show a2.toInt = a2.toInt from by omega)] at D
                        refine x_icne (tgt := 70) rfl rfl (ti_ne rfl rfl ⟨fun c169 => ?_, fun c169 => ?_⟩)
                        ·
                          rw [if_neg (by omega)] at D
                          refine x_aloadn (x := 125) rfl rfl ?_
                          refine z_getR (N := 92) (b := 126) 12 2 rfl f_12_8 rfl J rfl 16002 ⟨rfl, rfl⟩ rfl ?_
                          refine x_iconst (v := 2) rfl ki_2 ?_
                          refine z_iald (N := 50660) rfl J rfl sg_126_2_3_1_0_1 jk_2 (by omega) (fun v170 qv170 ev170 => ?_)
                          try rw [vrn (n := 2) (by decide) (jmb_w w1 (jmb_c S165 qv170 rfl) rfl)] at D
                          refine x_sipush (v := 200) rfl ks_200 ?_
                          refine x_icne (tgt := 89) rfl rfl (ti_ne rfl jk_200 ⟨fun c171 => ?_, fun c171 => ?_⟩)
                          ·
                            rw [if_neg (by omega)] at D
                            refine x_aloadn (x := 125) rfl rfl ?_
                            refine x_iloadn (x := a1) rfl rfl ?_
                            refine x_iloadn (x := a2) rfl rfl ?_
                            refine x_iloadn (x := a3) rfl rfl ?_
                            refine x_inv (N := m_X12_addJoined) (As := [.int a1, .int a2, .int a3]) (b := 125) (st := []) (dx9 := 8) (mc := 0) (ms := 0) (host := "") 12 rfl t_X12_addJoined ⟨Or.inl q_12_396, i_X12_addJoined.1, i_X12_addJoined.2⟩ ⟨by decide, rfl⟩ (congrArg Prod.fst (J.1.1 125 (12, 92) rfl)) rfl (by decide) rfl rfl ⟨by decide, by decide⟩ (jC.of rfl k_X12_addJoined rfl ?_)
                            show jX m_X12_addJoined 8 0 0 0 [(0, .ref 125), (1, .int a1), (2, .int a2), (3, .int a3)] [] _ 0 0 _
                            refine x_sipush (v := 18140) rfl ks_18140 ?_
                            refine x_iconst (v := 3) rfl ki_3 ?_
                            refine x_aloadn (x := 125) rfl rfl ?_
                            refine z_getR (N := 92) (b := 126) 12 2 rfl f_12_8 rfl J rfl 16002 ⟨rfl, rfl⟩ rfl ?_
                            refine x_iconst (v := 2) rfl ki_2 ?_
                            refine z_ialdM (N := 50660) (v := v170) rfl J rfl jk_2 (by omega) qv170 ?_
                            refine z_imul rfl jk_3 rfl (by omega) (fun v172 ev172 => ?_)
                            refine z_iadd rfl jk_18140 rfl (by omega) (fun v173 ev173 => ?_)
                            refine x_istore (lsx9 := [(4, .int v173), (0, .ref 125), (1, .int a1), (2, .int a2), (3, .int a3)]) rfl rfl rfl ?_
                            refine x_aloadn (x := 125) rfl rfl ?_
                            refine z_getR (N := 92) (b := 126) 12 2 rfl f_12_8 rfl J rfl 16002 ⟨rfl, rfl⟩ rfl ?_
                            refine x_iload (x := v173) rfl rfl ?_
                            refine x_iloadn (x := a1) rfl rfl ?_
                            refine z_iast (N := 50660) (l := 18140) (u := 18740) (w := a1.toInt) rfl hD J Sm rfl rfl rfl (by omega) rfl (wr_126_18140 (by omega) (fun q1 q2 q3 q4 => by omega) (fun q1 q2 q3 q4 => by omega) (fun q1 q2 q3 q4 => by omega)) rfl (fun h w174 J Sm => ?_)
                            rw [vww w174 (show (18140 + (3 * v170.toInt)) = v173.toInt from by omega) (show a1.toInt = a1.toInt from by omega)] at D
                            refine x_aloadn (x := 125) rfl rfl ?_
                            refine z_getR (N := 92) (b := 126) 12 2 rfl f_12_8 rfl J rfl 16002 ⟨rfl, rfl⟩ rfl ?_
                            refine x_iload (x := v173) rfl rfl ?_
                            refine x_iconst (v := 1) rfl ki_1 ?_
                            refine z_iadd rfl rfl jk_1 (by omega) (fun v175 ev175 => ?_)
                            refine x_iloadn (x := a2) rfl rfl ?_
                            refine z_iast (N := 50660) (l := 18140) (u := 18740) (w := a2.toInt) rfl hD J Sm rfl rfl rfl (by omega) rfl (wr_126_18140 (by omega) (fun q1 q2 q3 q4 => by omega) (fun q1 q2 q3 q4 => by omega) (fun q1 q2 q3 q4 => by omega)) rfl (fun h w176 J Sm => ?_)
                            rw [vww w176 (show ((18140 + (3 * v170.toInt)) + 1) = v175.toInt from by omega) (show a2.toInt = a2.toInt from by omega)] at D
                            refine x_aloadn (x := 125) rfl rfl ?_
                            refine z_getR (N := 92) (b := 126) 12 2 rfl f_12_8 rfl J rfl 16002 ⟨rfl, rfl⟩ rfl ?_
                            refine x_iload (x := v173) rfl rfl ?_
                            refine x_iconst (v := 2) rfl ki_2 ?_
                            refine z_iadd rfl rfl jk_2 (by omega) (fun v177 ev177 => ?_)
                            refine x_iloadn (x := a3) rfl rfl ?_
                            refine z_iast (N := 50660) (l := 18140) (u := 18740) (w := a3.toInt) rfl hD J Sm rfl rfl rfl (by omega) rfl (wr_126_18140 (by omega) (fun q1 q2 q3 q4 => by omega) (fun q1 q2 q3 q4 => by omega) (fun q1 q2 q3 q4 => by omega)) rfl (fun h w178 J Sm => ?_)
                            rw [vww w178 (show ((18140 + (3 * v170.toInt)) + 2) = v177.toInt from by omega) (show a3.toInt = a3.toInt from by omega)] at D
                            refine x_aloadn (x := 125) rfl rfl ?_
                            refine z_getR (N := 92) (b := 126) 12 2 rfl f_12_8 rfl J rfl 16002 ⟨rfl, rfl⟩ rfl ?_
                            refine x_iconst (v := 2) rfl ki_2 ?_
                            refine x_dup2 rfl rfl rfl ?_
                            refine z_ialdM (N := 50660) (v := v170) rfl J rfl jk_2 (by omega) (jmo2 w178 rfl jk_2 (by omega) (jmo2 w176 rfl jk_2 (by omega) (jmo2 w174 rfl jk_2 (by omega) qv170))) ?_
                            refine x_iconst (v := 1) rfl ki_1 ?_
                            refine z_iadd rfl rfl jk_1 (by omega) (fun v179 ev179 => ?_)
                            refine z_iast (N := 50660) (l := 2) (u := 3) (w := v179.toInt) rfl hD J Sm rfl rfl jk_2 (by omega) rfl (wr_126_2 (by omega) (fun q1 q2 q3 q4 => by omega)) rfl (fun h w180 J Sm => ?_)
                            rw [vwn (n := 2) (by decide) w180 (show (v170.toInt + 1) = v179.toInt from by omega)] at D
                            refine x_vret rfl rfl ?_
                            show jX m_X12_together 9 0 0 96 [(0, .ref 125), (1, .int a1), (2, .int a2), (3, .int a3)] [] _ 0 0 _
                            refine x_aloadn (x := 125) rfl rfl ?_
                            refine x_aloadn (x := 125) rfl rfl ?_
                            refine z_getR (N := 92) (b := 126) 12 2 rfl f_12_8 rfl J rfl 16002 ⟨rfl, rfl⟩ rfl ?_
                            refine x_iconst (v := 2) rfl ki_2 ?_
                            refine z_ialdM (N := 50660) (v := v179) rfl J rfl jk_2 (by omega) (jmw w180) ?_
                            try rw [show (v170.toInt + 1) = v179.toInt from by omega] at D
                            refine x_inv (N := m_X12_told) (As := [.int v179]) (b := 125) (st := []) (dx9 := 1) (mc := 0) (ms := 0) (host := "") 12 rfl t_X12_told ⟨Or.inl q_12_197, i_X12_told.1, i_X12_told.2⟩ ⟨by decide, rfl⟩ (congrArg Prod.fst (J.1.1 125 (12, 92) rfl)) rfl (by decide) rfl rfl ⟨by decide, by decide⟩ (sf_X12_told_r125d  hD J rfl  (fun v184 h J S181 X182 X183 => ?_))
                            have ev184 := jfull v184
                            have Sm := jSm_tr rfl Sm S181
                            try rw [X182] at D
                            try rw [X183] at D
                            show jX m_X12_together 9 0 0 106 [(0, .ref 125), (1, .int a1), (2, .int a2), (3, .int a3)] [.int v184] _ 0 0 _
                            refine x_iret rfl rfl ?_
                            exact hQ _ _ J Sm ((congrArg Prod.fst D).symm.trans X182) ((congrArg Prod.snd D).symm.trans X183)
                          ·
                            rw [if_pos (by omega)] at D
                            refine x_aloadn (x := 125) rfl rfl ?_
                            refine x_bipush (v := (-5)) rfl kb_m5 ?_
                            refine x_inv (N := m_X12_told) (As := [.int (-5)]) (b := 125) (st := []) (dx9 := 1) (mc := 0) (ms := 0) (host := "") 12 rfl t_X12_told ⟨Or.inl q_12_197, i_X12_told.1, i_X12_told.2⟩ ⟨by decide, rfl⟩ (congrArg Prod.fst (J.1.1 125 (12, 92) rfl)) rfl (by decide) rfl rfl ⟨by decide, by decide⟩ (sf_X12_told_r125d  hD J rfl  (fun v188 h J S185 X186 X187 => ?_))
                            have ev188 := jfull v188
                            have Sm := jSm_tr rfl Sm S185
                            try rw [jk_m5] at X186
                            try rw [jk_m5] at X187
                            try rw [X186] at D
                            try rw [X187] at D
                            show jX m_X12_together 9 0 0 88 [(0, .ref 125), (1, .int a1), (2, .int a2), (3, .int a3)] [.int v188] _ 0 0 _
                            refine x_iret rfl rfl ?_
                            exact hQ _ _ J Sm ((congrArg Prod.fst D).symm.trans X186) ((congrArg Prod.snd D).symm.trans X187)
                        ·
                          rw [if_pos (by omega)] at D
                          refine x_aloadn (x := 125) rfl rfl ?_
                          refine x_bipush (v := (-4)) rfl kb_m4 ?_
                          refine x_inv (N := m_X12_told) (As := [.int (-4)]) (b := 125) (st := []) (dx9 := 1) (mc := 0) (ms := 0) (host := "") 12 rfl t_X12_told ⟨Or.inl q_12_197, i_X12_told.1, i_X12_told.2⟩ ⟨by decide, rfl⟩ (congrArg Prod.fst (J.1.1 125 (12, 92) rfl)) rfl (by decide) rfl rfl ⟨by decide, by decide⟩ (sf_X12_told_r125d  hD J rfl  (fun v192 h J S189 X190 X191 => ?_))
                          have ev192 := jfull v192
                          have Sm := jSm_tr rfl Sm S189
                          try rw [jk_m4] at X190
                          try rw [jk_m4] at X191
                          try rw [X190] at D
                          try rw [X191] at D
                          show jX m_X12_together 9 0 0 69 [(0, .ref 125), (1, .int a1), (2, .int a2), (3, .int a3)] [.int v192] _ 0 0 _
                          refine x_iret rfl rfl ?_
                          exact hQ _ _ J Sm ((congrArg Prod.fst D).symm.trans X190) ((congrArg Prod.snd D).symm.trans X191)
                  ·
                    rw [if_pos (by omega)] at D
                    refine x_iconst (v := 3) rfl ki_3 ?_
                    refine x_goto (tgt := 18) rfl rfl ?_
                    refine x_iret rfl rfl ?_
                    show jX m_X12_isMention 8 0 0 27 [(0, .ref 125), (1, .int a2)] [.int 3, .int v128] _ 0 0 _
                    refine x_icge (tgt := 34) rfl rfl (ti_ge rfl jk_3 (br_f (by omega) ?_))
                    refine x_iconst (v := 1) rfl ki_1 ?_
                    refine x_goto (tgt := 35) rfl rfl ?_
                    refine x_zret rfl rfl (by decide) ?_
                    show jX m_X12_together 9 0 0 31 [(0, .ref 125), (1, .int a1), (2, .int a2), (3, .int a3)] [.int 1] _ 0 0 _
                    refine x_ifne (tgt := 41) rfl rfl (ti_ne jk_1 jk_0 (bn_t (by omega) ?_))
                    refine x_aloadn (x := 125) rfl rfl ?_
                    refine x_ldcw (v := 146399) rfl z_12_392 ?_
                    refine x_inv (N := m_X12_find) (As := [.int 146399]) (b := 125) (st := []) (dx9 := 8) (mc := 0) (ms := 0) (host := "") 12 rfl t_X12_find ⟨Or.inl q_12_393, i_X12_find.1, i_X12_find.2⟩ ⟨by decide, rfl⟩ (congrArg Prod.fst (J.1.1 125 (12, 92) rfl)) rfl (by decide) rfl rfl ⟨by decide, by decide⟩ (sf_X12_find_r125d (jr_of jk_146399 (by omega)) hD J rfl  (fun h J S193 X194 => ?_))
                    have Sm := jSm_tr rfl Sm S193
                    try rw [jk_146399] at X194
                    rw [X194] at D
                    show jX m_X12_together 9 0 0 48 [(0, .ref 125), (1, .int a1), (2, .int a2), (3, .int a3)] [] _ 0 0 _
                    refine x_aloadn (x := 125) rfl rfl ?_
                    refine z_getR (N := 92) (b := 139) 12 29 rfl f_12_72 rfl J rfl 16029 ⟨rfl, rfl⟩ rfl ?_
                    refine x_iloadn (x := a1) rfl rfl ?_
                    refine z_iald (N := 600) rfl J rfl sg_139_0_600_1_0_1 rfl (by omega) (fun v195 qv195 ev195 => ?_)
                    try rw [vrd qv195 (show a1.toInt = a1.toInt from by omega)] at D
                    refine x_aloadn (x := 125) rfl rfl ?_
                    refine z_getR (N := 92) (b := 139) 12 29 rfl f_12_72 rfl J rfl 16029 ⟨rfl, rfl⟩ rfl ?_
                    refine x_iloadn (x := a2) rfl rfl ?_
                    refine z_iald (N := 600) rfl J rfl sg_139_0_600_1_0_1 rfl (by omega) (fun v196 qv196 ev196 => ?_)
                    try rw [vrd qv196 (show a2.toInt = a2.toInt from by omega)] at D
                    refine x_icne (tgt := 70) rfl rfl (ti_ne rfl rfl ⟨fun c197 => ?_, fun c197 => ?_⟩)
                    ·
                      rw [if_neg (by omega)] at D
                      refine x_aloadn (x := 125) rfl rfl ?_
                      refine z_getR (N := 92) (b := 126) 12 2 rfl f_12_8 rfl J rfl 16002 ⟨rfl, rfl⟩ rfl ?_
                      refine x_iconst (v := 2) rfl ki_2 ?_
                      refine z_iald (N := 50660) rfl J rfl sg_126_2_3_1_0_1 jk_2 (by omega) (fun v198 qv198 ev198 => ?_)
                      try rw [vrn (n := 2) (by decide) (jmb_w w1 (jmb_c S193 qv198 rfl) rfl)] at D
                      refine x_sipush (v := 200) rfl ks_200 ?_
                      refine x_icne (tgt := 89) rfl rfl (ti_ne rfl jk_200 ⟨fun c199 => ?_, fun c199 => ?_⟩)
                      ·
                        rw [if_neg (by omega)] at D
                        refine x_aloadn (x := 125) rfl rfl ?_
                        refine x_iloadn (x := a1) rfl rfl ?_
                        refine x_iloadn (x := a2) rfl rfl ?_
                        refine x_iloadn (x := a3) rfl rfl ?_
                        refine x_inv (N := m_X12_addJoined) (As := [.int a1, .int a2, .int a3]) (b := 125) (st := []) (dx9 := 8) (mc := 0) (ms := 0) (host := "") 12 rfl t_X12_addJoined ⟨Or.inl q_12_396, i_X12_addJoined.1, i_X12_addJoined.2⟩ ⟨by decide, rfl⟩ (congrArg Prod.fst (J.1.1 125 (12, 92) rfl)) rfl (by decide) rfl rfl ⟨by decide, by decide⟩ (jC.of rfl k_X12_addJoined rfl ?_)
                        show jX m_X12_addJoined 8 0 0 0 [(0, .ref 125), (1, .int a1), (2, .int a2), (3, .int a3)] [] _ 0 0 _
                        refine x_sipush (v := 18140) rfl ks_18140 ?_
                        refine x_iconst (v := 3) rfl ki_3 ?_
                        refine x_aloadn (x := 125) rfl rfl ?_
                        refine z_getR (N := 92) (b := 126) 12 2 rfl f_12_8 rfl J rfl 16002 ⟨rfl, rfl⟩ rfl ?_
                        refine x_iconst (v := 2) rfl ki_2 ?_
                        refine z_ialdM (N := 50660) (v := v198) rfl J rfl jk_2 (by omega) qv198 ?_
                        refine z_imul rfl jk_3 rfl (by omega) (fun v200 ev200 => ?_)
                        refine z_iadd rfl jk_18140 rfl (by omega) (fun v201 ev201 => ?_)
                        refine x_istore (lsx9 := [(4, .int v201), (0, .ref 125), (1, .int a1), (2, .int a2), (3, .int a3)]) rfl rfl rfl ?_
                        refine x_aloadn (x := 125) rfl rfl ?_
                        refine z_getR (N := 92) (b := 126) 12 2 rfl f_12_8 rfl J rfl 16002 ⟨rfl, rfl⟩ rfl ?_
                        refine x_iload (x := v201) rfl rfl ?_
                        refine x_iloadn (x := a1) rfl rfl ?_
                        refine z_iast (N := 50660) (l := 18140) (u := 18740) (w := a1.toInt) rfl hD J Sm rfl rfl rfl (by omega) rfl (wr_126_18140 (by omega) (fun q1 q2 q3 q4 => by omega) (fun q1 q2 q3 q4 => by omega) (fun q1 q2 q3 q4 => by omega)) rfl (fun h w202 J Sm => ?_)
                        rw [vww w202 (show (18140 + (3 * v198.toInt)) = v201.toInt from by omega) (show a1.toInt = a1.toInt from by omega)] at D
                        refine x_aloadn (x := 125) rfl rfl ?_
                        refine z_getR (N := 92) (b := 126) 12 2 rfl f_12_8 rfl J rfl 16002 ⟨rfl, rfl⟩ rfl ?_
                        refine x_iload (x := v201) rfl rfl ?_
                        refine x_iconst (v := 1) rfl ki_1 ?_
                        refine z_iadd rfl rfl jk_1 (by omega) (fun v203 ev203 => ?_)
                        refine x_iloadn (x := a2) rfl rfl ?_
                        refine z_iast (N := 50660) (l := 18140) (u := 18740) (w := a2.toInt) rfl hD J Sm rfl rfl rfl (by omega) rfl (wr_126_18140 (by omega) (fun q1 q2 q3 q4 => by omega) (fun q1 q2 q3 q4 => by omega) (fun q1 q2 q3 q4 => by omega)) rfl (fun h w204 J Sm => ?_)
                        rw [vww w204 (show ((18140 + (3 * v198.toInt)) + 1) = v203.toInt from by omega) (show a2.toInt = a2.toInt from by omega)] at D
                        refine x_aloadn (x := 125) rfl rfl ?_
                        refine z_getR (N := 92) (b := 126) 12 2 rfl f_12_8 rfl J rfl 16002 ⟨rfl, rfl⟩ rfl ?_
                        refine x_iload (x := v201) rfl rfl ?_
                        refine x_iconst (v := 2) rfl ki_2 ?_
                        refine z_iadd rfl rfl jk_2 (by omega) (fun v205 ev205 => ?_)
                        refine x_iloadn (x := a3) rfl rfl ?_
                        refine z_iast (N := 50660) (l := 18140) (u := 18740) (w := a3.toInt) rfl hD J Sm rfl rfl rfl (by omega) rfl (wr_126_18140 (by omega) (fun q1 q2 q3 q4 => by omega) (fun q1 q2 q3 q4 => by omega) (fun q1 q2 q3 q4 => by omega)) rfl (fun h w206 J Sm => ?_)
                        rw [vww w206 (show ((18140 + (3 * v198.toInt)) + 2) = v205.toInt from by omega) (show a3.toInt = a3.toInt from by omega)] at D
                        refine x_aloadn (x := 125) rfl rfl ?_
                        refine z_getR (N := 92) (b := 126) 12 2 rfl f_12_8 rfl J rfl 16002 ⟨rfl, rfl⟩ rfl ?_
                        refine x_iconst (v := 2) rfl ki_2 ?_
                        refine x_dup2 rfl rfl rfl ?_
                        refine z_ialdM (N := 50660) (v := v198) rfl J rfl jk_2 (by omega) (jmo2 w206 rfl jk_2 (by omega) (jmo2 w204 rfl jk_2 (by omega) (jmo2 w202 rfl jk_2 (by omega) qv198))) ?_
                        refine x_iconst (v := 1) rfl ki_1 ?_
                        refine z_iadd rfl rfl jk_1 (by omega) (fun v207 ev207 => ?_)
                        refine z_iast (N := 50660) (l := 2) (u := 3) (w := v207.toInt) rfl hD J Sm rfl rfl jk_2 (by omega) rfl (wr_126_2 (by omega) (fun q1 q2 q3 q4 => by omega)) rfl (fun h w208 J Sm => ?_)
                        rw [vwn (n := 2) (by decide) w208 (show (v198.toInt + 1) = v207.toInt from by omega)] at D
                        refine x_vret rfl rfl ?_
                        show jX m_X12_together 9 0 0 96 [(0, .ref 125), (1, .int a1), (2, .int a2), (3, .int a3)] [] _ 0 0 _
                        refine x_aloadn (x := 125) rfl rfl ?_
                        refine x_aloadn (x := 125) rfl rfl ?_
                        refine z_getR (N := 92) (b := 126) 12 2 rfl f_12_8 rfl J rfl 16002 ⟨rfl, rfl⟩ rfl ?_
                        refine x_iconst (v := 2) rfl ki_2 ?_
                        refine z_ialdM (N := 50660) (v := v207) rfl J rfl jk_2 (by omega) (jmw w208) ?_
                        try rw [show (v198.toInt + 1) = v207.toInt from by omega] at D
                        refine x_inv (N := m_X12_told) (As := [.int v207]) (b := 125) (st := []) (dx9 := 1) (mc := 0) (ms := 0) (host := "") 12 rfl t_X12_told ⟨Or.inl q_12_197, i_X12_told.1, i_X12_told.2⟩ ⟨by decide, rfl⟩ (congrArg Prod.fst (J.1.1 125 (12, 92) rfl)) rfl (by decide) rfl rfl ⟨by decide, by decide⟩ (sf_X12_told_r125d  hD J rfl  (fun v212 h J S209 X210 X211 => ?_))
                        have ev212 := jfull v212
                        have Sm := jSm_tr rfl Sm S209
                        try rw [X210] at D
                        try rw [X211] at D
                        show jX m_X12_together 9 0 0 106 [(0, .ref 125), (1, .int a1), (2, .int a2), (3, .int a3)] [.int v212] _ 0 0 _
                        refine x_iret rfl rfl ?_
                        exact hQ _ _ J Sm ((congrArg Prod.fst D).symm.trans X210) ((congrArg Prod.snd D).symm.trans X211)
                      ·
                        rw [if_pos (by omega)] at D
                        refine x_aloadn (x := 125) rfl rfl ?_
                        refine x_bipush (v := (-5)) rfl kb_m5 ?_
                        refine x_inv (N := m_X12_told) (As := [.int (-5)]) (b := 125) (st := []) (dx9 := 1) (mc := 0) (ms := 0) (host := "") 12 rfl t_X12_told ⟨Or.inl q_12_197, i_X12_told.1, i_X12_told.2⟩ ⟨by decide, rfl⟩ (congrArg Prod.fst (J.1.1 125 (12, 92) rfl)) rfl (by decide) rfl rfl ⟨by decide, by decide⟩ (sf_X12_told_r125d  hD J rfl  (fun v216 h J S213 X214 X215 => ?_))
                        have ev216 := jfull v216
                        have Sm := jSm_tr rfl Sm S213
                        try rw [jk_m5] at X214
                        try rw [jk_m5] at X215
                        try rw [X214] at D
                        try rw [X215] at D
                        show jX m_X12_together 9 0 0 88 [(0, .ref 125), (1, .int a1), (2, .int a2), (3, .int a3)] [.int v216] _ 0 0 _
                        refine x_iret rfl rfl ?_
                        exact hQ _ _ J Sm ((congrArg Prod.fst D).symm.trans X214) ((congrArg Prod.snd D).symm.trans X215)
                    ·
                      rw [if_pos (by omega)] at D
                      refine x_aloadn (x := 125) rfl rfl ?_
                      refine x_bipush (v := (-4)) rfl kb_m4 ?_
                      refine x_inv (N := m_X12_told) (As := [.int (-4)]) (b := 125) (st := []) (dx9 := 1) (mc := 0) (ms := 0) (host := "") 12 rfl t_X12_told ⟨Or.inl q_12_197, i_X12_told.1, i_X12_told.2⟩ ⟨by decide, rfl⟩ (congrArg Prod.fst (J.1.1 125 (12, 92) rfl)) rfl (by decide) rfl rfl ⟨by decide, by decide⟩ (sf_X12_told_r125d  hD J rfl  (fun v220 h J S217 X218 X219 => ?_))
                      have ev220 := jfull v220
                      have Sm := jSm_tr rfl Sm S217
                      try rw [jk_m4] at X218
                      try rw [jk_m4] at X219
                      try rw [X218] at D
                      try rw [X219] at D
                      show jX m_X12_together 9 0 0 69 [(0, .ref 125), (1, .int a1), (2, .int a2), (3, .int a3)] [.int v220] _ 0 0 _
                      refine x_iret rfl rfl ?_
                      exact hQ _ _ J Sm ((congrArg Prod.fst D).symm.trans X218) ((congrArg Prod.snd D).symm.trans X219)
        ·
          rw [if_pos (by omega)] at D
          refine x_iconst (v := 3) rfl ki_3 ?_
          refine x_goto (tgt := 18) rfl rfl ?_
          refine x_iret rfl rfl ?_
          show jX m_X12_isMention 8 0 0 27 [(0, .ref 125), (1, .int a1)] [.int 3, .int v12] _ 0 0 _
          refine x_icge (tgt := 34) rfl rfl (ti_ge rfl jk_3 (br_f (by omega) ?_))
          refine x_iconst (v := 1) rfl ki_1 ?_
          refine x_goto (tgt := 35) rfl rfl ?_
          refine x_zret rfl rfl (by decide) ?_
          show jX m_X12_together 9 0 0 23 [(0, .ref 125), (1, .int a1), (2, .int a2), (3, .int a3)] [.int 1] _ 0 0 _
          refine x_ifeq (tgt := 34) rfl rfl (ti_eq jk_1 jk_0 (br_f (by omega) ?_))
          refine x_aloadn (x := 125) rfl rfl ?_
          refine x_iloadn (x := a2) rfl rfl ?_
          refine x_inv (N := m_X12_isMention) (As := [.int a2]) (b := 125) (st := []) (dx9 := 8) (mc := 0) (ms := 0) (host := "") 12 rfl t_X12_isMention ⟨Or.inl q_12_322, i_X12_isMention.1, i_X12_isMention.2⟩ ⟨by decide, rfl⟩ (congrArg Prod.fst (J.1.1 125 (12, 92) rfl)) rfl (by decide) rfl rfl ⟨by decide, by decide⟩ (jC.of rfl k_X12_isMention rfl ?_)
          show jX m_X12_isMention 8 0 0 0 [(0, .ref 125), (1, .int a2)] [] _ 0 0 _
          refine x_iloadn (x := a2) rfl rfl ?_
          refine x_iflt (tgt := 34) rfl rfl (ti_lt rfl jk_0 ⟨fun c221 => ?_, fun c221 => ?_⟩)
          ·
            rw [if_pos (by omega)] at D
            refine x_iconst (v := 0) rfl ki_0 ?_
            refine x_zret rfl rfl (by decide) ?_
            show jX m_X12_together 9 0 0 31 [(0, .ref 125), (1, .int a1), (2, .int a2), (3, .int a3)] [.int 0] _ 0 0 _
            refine x_ifne (tgt := 41) rfl rfl (ti_ne jk_0 jk_0 (bn_f (by omega) ?_))
            exact jX.sub (jsb_c rfl jsb_n) (ct_X12_together_r125d_34 hD hQ  h J Sm D)
          ·
            rw [if_neg (by omega)] at D
            refine x_aloadn (x := 125) rfl rfl ?_
            refine x_iloadn (x := a2) rfl rfl ?_
            refine x_iconst (v := 3) rfl ki_3 ?_
            refine z_idiv rfl rfl jk_3 (by omega) (by omega) (fun v222 ev222 => ?_)
            refine x_inv (N := m_X12_isLine) (As := [.int v222]) (b := 125) (st := []) (dx9 := 7) (mc := 0) (ms := 0) (host := "") 12 rfl t_X12_isLine ⟨Or.inl q_12_293, i_X12_isLine.1, i_X12_isLine.2⟩ ⟨by decide, rfl⟩ (congrArg Prod.fst (J.1.1 125 (12, 92) rfl)) rfl (by decide) rfl rfl ⟨by decide, by decide⟩ (jC.of rfl k_X12_isLine rfl ?_)
            show jX m_X12_isLine 7 0 0 0 [(0, .ref 125), (1, .int v222)] [] _ 0 0 _
            refine x_iloadn (x := v222) rfl rfl ?_
            refine z_i2l rfl rfl (fun v223 ev223 => ?_)
            refine x_lconst (v := 0) rfl kl_0 ?_
            refine x_aloadn (x := 125) rfl rfl ?_
            refine z_getR (N := 92) (b := 126) 12 2 rfl f_12_8 rfl J rfl 16002 ⟨rfl, rfl⟩ rfl ?_
            refine x_iconst (v := 0) rfl ki_0 ?_
            refine z_ialdM (N := 50660) (v := v7) rfl J rfl jk_0 (by omega) qv7 ?_
            refine z_i2l rfl rfl (fun v224 ev224 => ?_)
            refine x_lconst (v := 1) rfl kl_1 ?_
            refine z_lsub rfl rfl jkl_1 (by omega) (fun v225 ev225 => ?_)
            refine x_inst (N := m_X12_in) (As := [.long v223, .long 0, .long v225]) (st := []) (dx9 := 1) (mc := 0) (ms := 0) (host := "") rfl t_X12_in ⟨Or.inl q_12_188, s_X12_in⟩ rfl (by decide) rfl rfl ⟨by decide, by decide⟩ (zc_X12_in rfl jkl_0 rfl (fun v226 ev226 => ?_))
            show jX m_X12_isLine 7 0 0 15 [(0, .ref 125), (1, .int v222)] [.int v226] _ 0 0 _
            refine x_zret rfl rfl (jz01 (by omega)) ?_
            show jX m_X12_isMention 8 0 0 11 [(0, .ref 125), (1, .int a2)] [.int v226] _ 0 0 _
            refine x_ifeq (tgt := 34) rfl rfl (ti_eq rfl jk_0 ⟨fun c227 => ?_, fun c227 => ?_⟩)
            ·
              rw [if_neg (by omega)] at D
              refine x_iconst (v := 0) rfl ki_0 ?_
              refine x_zret rfl rfl (by decide) ?_
              show jX m_X12_together 9 0 0 31 [(0, .ref 125), (1, .int a1), (2, .int a2), (3, .int a3)] [.int 0] _ 0 0 _
              refine x_ifne (tgt := 41) rfl rfl (ti_ne jk_0 jk_0 (bn_f (by omega) ?_))
              exact jX.sub (jsb_c rfl jsb_n) (ct_X12_together_r125d_34 hD hQ  h J Sm D)
            ·
              rw [if_pos (by omega)] at D
              refine x_iloadn (x := a2) rfl rfl ?_
              refine x_iconst (v := 3) rfl ki_3 ?_
              refine z_irem rfl rfl jk_3 (by omega) (by omega) (fun v228 ev228 => ?_)
              refine x_aloadn (x := 125) rfl rfl ?_
              refine x_iloadn (x := a2) rfl rfl ?_
              refine x_iconst (v := 3) rfl ki_3 ?_
              refine z_idiv rfl rfl jk_3 (by omega) (by omega) (fun v229 ev229 => ?_)
              refine x_inv (N := m_X12_bookOf) (As := [.int v229]) (b := 125) (st := [.int v228]) (dx9 := 7) (mc := 0) (ms := 0) (host := "") 12 rfl t_X12_bookOf ⟨Or.inl q_12_299, i_X12_bookOf.1, i_X12_bookOf.2⟩ ⟨by decide, rfl⟩ (congrArg Prod.fst (J.1.1 125 (12, 92) rfl)) rfl (by decide) rfl rfl ⟨by decide, by decide⟩ (jC.of rfl k_X12_bookOf rfl ?_)
              show jX m_X12_bookOf 7 0 0 0 [(0, .ref 125), (1, .int v229)] [] _ 0 0 _
              refine x_aloadn (x := 125) rfl rfl ?_
              refine z_getR (N := 92) (b := 126) 12 2 rfl f_12_8 rfl J rfl 16002 ⟨rfl, rfl⟩ rfl ?_
              refine x_aloadn (x := 125) rfl rfl ?_
              refine x_iloadn (x := v229) rfl rfl ?_
              refine x_inv (N := m_X12_at) (As := [.int v229]) (b := 125) (st := [.ref 126]) (dx9 := 6) (mc := 0) (ms := 0) (host := "") 12 rfl t_X12_at ⟨Or.inl q_12_254, i_X12_at.1, i_X12_at.2⟩ ⟨by decide, rfl⟩ (congrArg Prod.fst (J.1.1 125 (12, 92) rfl)) rfl (by decide) rfl rfl ⟨by decide, by decide⟩ (jC.of rfl k_X12_at rfl ?_)
              show jX m_X12_at 6 0 0 0 [(0, .ref 125), (1, .int v229)] [] _ 0 0 _
              refine x_bipush (v := 20) rfl kb_20 ?_
              refine x_bipush (v := 90) rfl kb_90 ?_
              refine x_iloadn (x := v229) rfl rfl ?_
              refine z_imul rfl jk_90 rfl (by omega) (fun v230 ev230 => ?_)
              refine z_iadd rfl jk_20 rfl (by omega) (fun v231 ev231 => ?_)
              refine x_iret rfl rfl ?_
              show jX m_X12_bookOf 7 0 0 9 [(0, .ref 125), (1, .int v229)] [.int v231, .ref 126] _ 0 0 _
              refine z_iald (N := 50660) rfl J rfl sg_126_20_18020_90_0_1 rfl (by omega) (fun v232 qv232 ev232 => ?_)
              try rw [vrd (jmb_w w1 qv232 rfl) (show (20 + (90 * (a2.toInt / 3))) = v231.toInt from by omega)] at D
              refine x_iret rfl rfl ?_
              show jX m_X12_isMention 8 0 0 24 [(0, .ref 125), (1, .int a2)] [.int v232, .int v228] _ 0 0 _
              refine x_inst (N := m_X12_rolesOf) (As := [.int v232]) (st := [.int v228]) (dx9 := 7) (mc := 0) (ms := 0) (host := "") rfl t_X12_rolesOf ⟨Or.inl q_12_286, s_X12_rolesOf⟩ rfl (by decide) rfl rfl ⟨by decide, by decide⟩ (jC.of rfl k_X12_rolesOf rfl ?_)
              show jX m_X12_rolesOf 7 0 0 0 [(0, .int v232)] [] _ 0 0 _
              refine x_iloadn (x := v232) rfl rfl ?_
              refine x_ifne (tgt := 8) rfl rfl (ti_ne rfl jk_0 ⟨fun c233 => ?_, fun c233 => ?_⟩)
              ·
                rw [if_neg (by omega)] at D
                refine x_iloadn (x := v232) rfl rfl ?_
                refine x_iconst (v := 1) rfl ki_1 ?_
                refine x_icne (tgt := 17) rfl rfl (ti_ne rfl jk_1 ⟨fun c234 => ?_, fun c234 => ?_⟩)
                ·
                  rw [if_neg (by omega)] at D
                  refine x_iconst (v := 1) rfl ki_1 ?_
                  refine x_iret rfl rfl ?_
                  show jX m_X12_isMention 8 0 0 27 [(0, .ref 125), (1, .int a2)] [.int 1, .int v228] _ 0 0 _
                  refine x_icge (tgt := 34) rfl rfl (ti_ge rfl jk_1 ⟨fun c235 => ?_, fun c235 => ?_⟩)
                  ·
                    rw [if_pos (by omega)] at D
                    refine x_iconst (v := 0) rfl ki_0 ?_
                    refine x_zret rfl rfl (by decide) ?_
                    show jX m_X12_together 9 0 0 31 [(0, .ref 125), (1, .int a1), (2, .int a2), (3, .int a3)] [.int 0] _ 0 0 _
                    refine x_ifne (tgt := 41) rfl rfl (ti_ne jk_0 jk_0 (bn_f (by omega) ?_))
                    exact jX.sub (jsb_c rfl jsb_n) (ct_X12_together_r125d_34 hD hQ  h J Sm D)
                  ·
                    rw [if_neg (by omega)] at D
                    refine x_iconst (v := 1) rfl ki_1 ?_
                    refine x_goto (tgt := 35) rfl rfl ?_
                    refine x_zret rfl rfl (by decide) ?_
                    show jX m_X12_together 9 0 0 31 [(0, .ref 125), (1, .int a1), (2, .int a2), (3, .int a3)] [.int 1] _ 0 0 _
                    refine x_ifne (tgt := 41) rfl rfl (ti_ne jk_1 jk_0 (bn_t (by omega) ?_))
                    refine x_aloadn (x := 125) rfl rfl ?_
                    refine x_ldcw (v := 146399) rfl z_12_392 ?_
                    refine x_inv (N := m_X12_find) (As := [.int 146399]) (b := 125) (st := []) (dx9 := 8) (mc := 0) (ms := 0) (host := "") 12 rfl t_X12_find ⟨Or.inl q_12_393, i_X12_find.1, i_X12_find.2⟩ ⟨by decide, rfl⟩ (congrArg Prod.fst (J.1.1 125 (12, 92) rfl)) rfl (by decide) rfl rfl ⟨by decide, by decide⟩ (sf_X12_find_r125d (jr_of jk_146399 (by omega)) hD J rfl  (fun h J S236 X237 => ?_))
                    have Sm := jSm_tr rfl Sm S236
                    try rw [jk_146399] at X237
                    rw [X237] at D
                    show jX m_X12_together 9 0 0 48 [(0, .ref 125), (1, .int a1), (2, .int a2), (3, .int a3)] [] _ 0 0 _
                    refine x_aloadn (x := 125) rfl rfl ?_
                    refine z_getR (N := 92) (b := 139) 12 29 rfl f_12_72 rfl J rfl 16029 ⟨rfl, rfl⟩ rfl ?_
                    refine x_iloadn (x := a1) rfl rfl ?_
                    refine z_iald (N := 600) rfl J rfl sg_139_0_600_1_0_1 rfl (by omega) (fun v238 qv238 ev238 => ?_)
                    try rw [vrd qv238 (show a1.toInt = a1.toInt from by omega)] at D
                    refine x_aloadn (x := 125) rfl rfl ?_
                    refine z_getR (N := 92) (b := 139) 12 29 rfl f_12_72 rfl J rfl 16029 ⟨rfl, rfl⟩ rfl ?_
                    refine x_iloadn (x := a2) rfl rfl ?_
                    refine z_iald (N := 600) rfl J rfl sg_139_0_600_1_0_1 rfl (by omega) (fun v239 qv239 ev239 => ?_)
                    try rw [vrd qv239 (show a2.toInt = a2.toInt from by omega)] at D
                    refine x_icne (tgt := 70) rfl rfl (ti_ne rfl rfl ⟨fun c240 => ?_, fun c240 => ?_⟩)
                    ·
                      rw [if_neg (by omega)] at D
                      refine x_aloadn (x := 125) rfl rfl ?_
                      refine z_getR (N := 92) (b := 126) 12 2 rfl f_12_8 rfl J rfl 16002 ⟨rfl, rfl⟩ rfl ?_
                      refine x_iconst (v := 2) rfl ki_2 ?_
                      refine z_iald (N := 50660) rfl J rfl sg_126_2_3_1_0_1 jk_2 (by omega) (fun v241 qv241 ev241 => ?_)
                      try rw [vrn (n := 2) (by decide) (jmb_w w1 (jmb_c S236 qv241 rfl) rfl)] at D
                      refine x_sipush (v := 200) rfl ks_200 ?_
                      refine x_icne (tgt := 89) rfl rfl (ti_ne rfl jk_200 ⟨fun c242 => ?_, fun c242 => ?_⟩)
                      ·
                        rw [if_neg (by omega)] at D
                        refine x_aloadn (x := 125) rfl rfl ?_
                        refine x_iloadn (x := a1) rfl rfl ?_
                        refine x_iloadn (x := a2) rfl rfl ?_
                        refine x_iloadn (x := a3) rfl rfl ?_
                        refine x_inv (N := m_X12_addJoined) (As := [.int a1, .int a2, .int a3]) (b := 125) (st := []) (dx9 := 8) (mc := 0) (ms := 0) (host := "") 12 rfl t_X12_addJoined ⟨Or.inl q_12_396, i_X12_addJoined.1, i_X12_addJoined.2⟩ ⟨by decide, rfl⟩ (congrArg Prod.fst (J.1.1 125 (12, 92) rfl)) rfl (by decide) rfl rfl ⟨by decide, by decide⟩ (jC.of rfl k_X12_addJoined rfl ?_)
                        show jX m_X12_addJoined 8 0 0 0 [(0, .ref 125), (1, .int a1), (2, .int a2), (3, .int a3)] [] _ 0 0 _
                        refine x_sipush (v := 18140) rfl ks_18140 ?_
                        refine x_iconst (v := 3) rfl ki_3 ?_
                        refine x_aloadn (x := 125) rfl rfl ?_
                        refine z_getR (N := 92) (b := 126) 12 2 rfl f_12_8 rfl J rfl 16002 ⟨rfl, rfl⟩ rfl ?_
                        refine x_iconst (v := 2) rfl ki_2 ?_
                        refine z_ialdM (N := 50660) (v := v241) rfl J rfl jk_2 (by omega) qv241 ?_
                        refine z_imul rfl jk_3 rfl (by omega) (fun v243 ev243 => ?_)
                        refine z_iadd rfl jk_18140 rfl (by omega) (fun v244 ev244 => ?_)
                        refine x_istore (lsx9 := [(4, .int v244), (0, .ref 125), (1, .int a1), (2, .int a2), (3, .int a3)]) rfl rfl rfl ?_
                        refine x_aloadn (x := 125) rfl rfl ?_
                        refine z_getR (N := 92) (b := 126) 12 2 rfl f_12_8 rfl J rfl 16002 ⟨rfl, rfl⟩ rfl ?_
                        refine x_iload (x := v244) rfl rfl ?_
                        refine x_iloadn (x := a1) rfl rfl ?_
                        refine z_iast (N := 50660) (l := 18140) (u := 18740) (w := a1.toInt) rfl hD J Sm rfl rfl rfl (by omega) rfl (wr_126_18140 (by omega) (fun q1 q2 q3 q4 => by omega) (fun q1 q2 q3 q4 => by omega) (fun q1 q2 q3 q4 => by omega)) rfl (fun h w245 J Sm => ?_)
                        rw [vww w245 (show (18140 + (3 * v241.toInt)) = v244.toInt from by omega) (show a1.toInt = a1.toInt from by omega)] at D
                        refine x_aloadn (x := 125) rfl rfl ?_
                        refine z_getR (N := 92) (b := 126) 12 2 rfl f_12_8 rfl J rfl 16002 ⟨rfl, rfl⟩ rfl ?_
                        refine x_iload (x := v244) rfl rfl ?_
                        refine x_iconst (v := 1) rfl ki_1 ?_
                        refine z_iadd rfl rfl jk_1 (by omega) (fun v246 ev246 => ?_)
                        refine x_iloadn (x := a2) rfl rfl ?_
                        refine z_iast (N := 50660) (l := 18140) (u := 18740) (w := a2.toInt) rfl hD J Sm rfl rfl rfl (by omega) rfl (wr_126_18140 (by omega) (fun q1 q2 q3 q4 => by omega) (fun q1 q2 q3 q4 => by omega) (fun q1 q2 q3 q4 => by omega)) rfl (fun h w247 J Sm => ?_)
                        rw [vww w247 (show ((18140 + (3 * v241.toInt)) + 1) = v246.toInt from by omega) (show a2.toInt = a2.toInt from by omega)] at D
                        refine x_aloadn (x := 125) rfl rfl ?_
                        refine z_getR (N := 92) (b := 126) 12 2 rfl f_12_8 rfl J rfl 16002 ⟨rfl, rfl⟩ rfl ?_
                        refine x_iload (x := v244) rfl rfl ?_
                        refine x_iconst (v := 2) rfl ki_2 ?_
                        refine z_iadd rfl rfl jk_2 (by omega) (fun v248 ev248 => ?_)
                        refine x_iloadn (x := a3) rfl rfl ?_
                        refine z_iast (N := 50660) (l := 18140) (u := 18740) (w := a3.toInt) rfl hD J Sm rfl rfl rfl (by omega) rfl (wr_126_18140 (by omega) (fun q1 q2 q3 q4 => by omega) (fun q1 q2 q3 q4 => by omega) (fun q1 q2 q3 q4 => by omega)) rfl (fun h w249 J Sm => ?_)
                        rw [vww w249 (show ((18140 + (3 * v241.toInt)) + 2) = v248.toInt from by omega) (show a3.toInt = a3.toInt from by omega)] at D
                        refine x_aloadn (x := 125) rfl rfl ?_
                        refine z_getR (N := 92) (b := 126) 12 2 rfl f_12_8 rfl J rfl 16002 ⟨rfl, rfl⟩ rfl ?_
                        refine x_iconst (v := 2) rfl ki_2 ?_
                        refine x_dup2 rfl rfl rfl ?_
                        refine z_ialdM (N := 50660) (v := v241) rfl J rfl jk_2 (by omega) (jmo2 w249 rfl jk_2 (by omega) (jmo2 w247 rfl jk_2 (by omega) (jmo2 w245 rfl jk_2 (by omega) qv241))) ?_
                        refine x_iconst (v := 1) rfl ki_1 ?_
                        refine z_iadd rfl rfl jk_1 (by omega) (fun v250 ev250 => ?_)
                        refine z_iast (N := 50660) (l := 2) (u := 3) (w := v250.toInt) rfl hD J Sm rfl rfl jk_2 (by omega) rfl (wr_126_2 (by omega) (fun q1 q2 q3 q4 => by omega)) rfl (fun h w251 J Sm => ?_)
                        rw [vwn (n := 2) (by decide) w251 (show (v241.toInt + 1) = v250.toInt from by omega)] at D
                        refine x_vret rfl rfl ?_
                        show jX m_X12_together 9 0 0 96 [(0, .ref 125), (1, .int a1), (2, .int a2), (3, .int a3)] [] _ 0 0 _
                        refine x_aloadn (x := 125) rfl rfl ?_
                        refine x_aloadn (x := 125) rfl rfl ?_
                        refine z_getR (N := 92) (b := 126) 12 2 rfl f_12_8 rfl J rfl 16002 ⟨rfl, rfl⟩ rfl ?_
                        refine x_iconst (v := 2) rfl ki_2 ?_
                        refine z_ialdM (N := 50660) (v := v250) rfl J rfl jk_2 (by omega) (jmw w251) ?_
                        try rw [show (v241.toInt + 1) = v250.toInt from by omega] at D
                        refine x_inv (N := m_X12_told) (As := [.int v250]) (b := 125) (st := []) (dx9 := 1) (mc := 0) (ms := 0) (host := "") 12 rfl t_X12_told ⟨Or.inl q_12_197, i_X12_told.1, i_X12_told.2⟩ ⟨by decide, rfl⟩ (congrArg Prod.fst (J.1.1 125 (12, 92) rfl)) rfl (by decide) rfl rfl ⟨by decide, by decide⟩ (sf_X12_told_r125d  hD J rfl  (fun v255 h J S252 X253 X254 => ?_))
                        have ev255 := jfull v255
                        have Sm := jSm_tr rfl Sm S252
                        try rw [X253] at D
                        try rw [X254] at D
                        show jX m_X12_together 9 0 0 106 [(0, .ref 125), (1, .int a1), (2, .int a2), (3, .int a3)] [.int v255] _ 0 0 _
                        refine x_iret rfl rfl ?_
                        exact hQ _ _ J Sm ((congrArg Prod.fst D).symm.trans X253) ((congrArg Prod.snd D).symm.trans X254)
                      ·
                        rw [if_pos (by omega)] at D
                        refine x_aloadn (x := 125) rfl rfl ?_
                        refine x_bipush (v := (-5)) rfl kb_m5 ?_
                        refine x_inv (N := m_X12_told) (As := [.int (-5)]) (b := 125) (st := []) (dx9 := 1) (mc := 0) (ms := 0) (host := "") 12 rfl t_X12_told ⟨Or.inl q_12_197, i_X12_told.1, i_X12_told.2⟩ ⟨by decide, rfl⟩ (congrArg Prod.fst (J.1.1 125 (12, 92) rfl)) rfl (by decide) rfl rfl ⟨by decide, by decide⟩ (sf_X12_told_r125d  hD J rfl  (fun v259 h J S256 X257 X258 => ?_))
                        have ev259 := jfull v259
                        have Sm := jSm_tr rfl Sm S256
                        try rw [jk_m5] at X257
                        try rw [jk_m5] at X258
                        try rw [X257] at D
                        try rw [X258] at D
                        show jX m_X12_together 9 0 0 88 [(0, .ref 125), (1, .int a1), (2, .int a2), (3, .int a3)] [.int v259] _ 0 0 _
                        refine x_iret rfl rfl ?_
                        exact hQ _ _ J Sm ((congrArg Prod.fst D).symm.trans X257) ((congrArg Prod.snd D).symm.trans X258)
                    ·
                      rw [if_pos (by omega)] at D
                      refine x_aloadn (x := 125) rfl rfl ?_
                      refine x_bipush (v := (-4)) rfl kb_m4 ?_
                      refine x_inv (N := m_X12_told) (As := [.int (-4)]) (b := 125) (st := []) (dx9 := 1) (mc := 0) (ms := 0) (host := "") 12 rfl t_X12_told ⟨Or.inl q_12_197, i_X12_told.1, i_X12_told.2⟩ ⟨by decide, rfl⟩ (congrArg Prod.fst (J.1.1 125 (12, 92) rfl)) rfl (by decide) rfl rfl ⟨by decide, by decide⟩ (sf_X12_told_r125d  hD J rfl  (fun v263 h J S260 X261 X262 => ?_))
                      have ev263 := jfull v263
                      have Sm := jSm_tr rfl Sm S260
                      try rw [jk_m4] at X261
                      try rw [jk_m4] at X262
                      try rw [X261] at D
                      try rw [X262] at D
                      show jX m_X12_together 9 0 0 69 [(0, .ref 125), (1, .int a1), (2, .int a2), (3, .int a3)] [.int v263] _ 0 0 _
                      refine x_iret rfl rfl ?_
                      exact hQ _ _ J Sm ((congrArg Prod.fst D).symm.trans X261) ((congrArg Prod.snd D).symm.trans X262)
                ·
                  rw [if_pos (by omega)] at D
                  refine x_iconst (v := 2) rfl ki_2 ?_
                  refine x_goto (tgt := 18) rfl rfl ?_
                  refine x_iret rfl rfl ?_
                  show jX m_X12_isMention 8 0 0 27 [(0, .ref 125), (1, .int a2)] [.int 2, .int v228] _ 0 0 _
                  refine x_icge (tgt := 34) rfl rfl (ti_ge rfl jk_2 ⟨fun c264 => ?_, fun c264 => ?_⟩)
                  ·
                    rw [if_pos (by omega)] at D
                    refine x_iconst (v := 0) rfl ki_0 ?_
                    refine x_zret rfl rfl (by decide) ?_
                    show jX m_X12_together 9 0 0 31 [(0, .ref 125), (1, .int a1), (2, .int a2), (3, .int a3)] [.int 0] _ 0 0 _
                    refine x_ifne (tgt := 41) rfl rfl (ti_ne jk_0 jk_0 (bn_f (by omega) ?_))
                    exact jX.sub (jsb_c rfl jsb_n) (ct_X12_together_r125d_34 hD hQ  h J Sm D)
                  ·
                    rw [if_neg (by omega)] at D
                    refine x_iconst (v := 1) rfl ki_1 ?_
                    refine x_goto (tgt := 35) rfl rfl ?_
                    refine x_zret rfl rfl (by decide) ?_
                    show jX m_X12_together 9 0 0 31 [(0, .ref 125), (1, .int a1), (2, .int a2), (3, .int a3)] [.int 1] _ 0 0 _
                    refine x_ifne (tgt := 41) rfl rfl (ti_ne jk_1 jk_0 (bn_t (by omega) ?_))
                    refine x_aloadn (x := 125) rfl rfl ?_
                    refine x_ldcw (v := 146399) rfl z_12_392 ?_
                    refine x_inv (N := m_X12_find) (As := [.int 146399]) (b := 125) (st := []) (dx9 := 8) (mc := 0) (ms := 0) (host := "") 12 rfl t_X12_find ⟨Or.inl q_12_393, i_X12_find.1, i_X12_find.2⟩ ⟨by decide, rfl⟩ (congrArg Prod.fst (J.1.1 125 (12, 92) rfl)) rfl (by decide) rfl rfl ⟨by decide, by decide⟩ (sf_X12_find_r125d (jr_of jk_146399 (by omega)) hD J rfl  (fun h J S265 X266 => ?_))
                    have Sm := jSm_tr rfl Sm S265
                    try rw [jk_146399] at X266
                    rw [X266] at D
                    show jX m_X12_together 9 0 0 48 [(0, .ref 125), (1, .int a1), (2, .int a2), (3, .int a3)] [] _ 0 0 _
                    refine x_aloadn (x := 125) rfl rfl ?_
                    refine z_getR (N := 92) (b := 139) 12 29 rfl f_12_72 rfl J rfl 16029 ⟨rfl, rfl⟩ rfl ?_
                    refine x_iloadn (x := a1) rfl rfl ?_
                    refine z_iald (N := 600) rfl J rfl sg_139_0_600_1_0_1 rfl (by omega) (fun v267 qv267 ev267 => ?_)
                    try rw [vrd qv267 (show a1.toInt = a1.toInt from by omega)] at D
                    refine x_aloadn (x := 125) rfl rfl ?_
                    refine z_getR (N := 92) (b := 139) 12 29 rfl f_12_72 rfl J rfl 16029 ⟨rfl, rfl⟩ rfl ?_
                    refine x_iloadn (x := a2) rfl rfl ?_
                    refine z_iald (N := 600) rfl J rfl sg_139_0_600_1_0_1 rfl (by omega) (fun v268 qv268 ev268 => ?_)
                    try rw [vrd qv268 (show a2.toInt = a2.toInt from by omega)] at D
                    refine x_icne (tgt := 70) rfl rfl (ti_ne rfl rfl ⟨fun c269 => ?_, fun c269 => ?_⟩)
                    ·
                      rw [if_neg (by omega)] at D
                      refine x_aloadn (x := 125) rfl rfl ?_
                      refine z_getR (N := 92) (b := 126) 12 2 rfl f_12_8 rfl J rfl 16002 ⟨rfl, rfl⟩ rfl ?_
                      refine x_iconst (v := 2) rfl ki_2 ?_
                      refine z_iald (N := 50660) rfl J rfl sg_126_2_3_1_0_1 jk_2 (by omega) (fun v270 qv270 ev270 => ?_)
                      try rw [vrn (n := 2) (by decide) (jmb_w w1 (jmb_c S265 qv270 rfl) rfl)] at D
                      refine x_sipush (v := 200) rfl ks_200 ?_
                      refine x_icne (tgt := 89) rfl rfl (ti_ne rfl jk_200 ⟨fun c271 => ?_, fun c271 => ?_⟩)
                      ·
                        rw [if_neg (by omega)] at D
                        refine x_aloadn (x := 125) rfl rfl ?_
                        refine x_iloadn (x := a1) rfl rfl ?_
                        refine x_iloadn (x := a2) rfl rfl ?_
                        refine x_iloadn (x := a3) rfl rfl ?_
                        refine x_inv (N := m_X12_addJoined) (As := [.int a1, .int a2, .int a3]) (b := 125) (st := []) (dx9 := 8) (mc := 0) (ms := 0) (host := "") 12 rfl t_X12_addJoined ⟨Or.inl q_12_396, i_X12_addJoined.1, i_X12_addJoined.2⟩ ⟨by decide, rfl⟩ (congrArg Prod.fst (J.1.1 125 (12, 92) rfl)) rfl (by decide) rfl rfl ⟨by decide, by decide⟩ (jC.of rfl k_X12_addJoined rfl ?_)
                        show jX m_X12_addJoined 8 0 0 0 [(0, .ref 125), (1, .int a1), (2, .int a2), (3, .int a3)] [] _ 0 0 _
                        refine x_sipush (v := 18140) rfl ks_18140 ?_
                        refine x_iconst (v := 3) rfl ki_3 ?_
                        refine x_aloadn (x := 125) rfl rfl ?_
                        refine z_getR (N := 92) (b := 126) 12 2 rfl f_12_8 rfl J rfl 16002 ⟨rfl, rfl⟩ rfl ?_
                        refine x_iconst (v := 2) rfl ki_2 ?_
                        refine z_ialdM (N := 50660) (v := v270) rfl J rfl jk_2 (by omega) qv270 ?_
                        refine z_imul rfl jk_3 rfl (by omega) (fun v272 ev272 => ?_)
                        refine z_iadd rfl jk_18140 rfl (by omega) (fun v273 ev273 => ?_)
                        refine x_istore (lsx9 := [(4, .int v273), (0, .ref 125), (1, .int a1), (2, .int a2), (3, .int a3)]) rfl rfl rfl ?_
                        refine x_aloadn (x := 125) rfl rfl ?_
                        refine z_getR (N := 92) (b := 126) 12 2 rfl f_12_8 rfl J rfl 16002 ⟨rfl, rfl⟩ rfl ?_
                        refine x_iload (x := v273) rfl rfl ?_
                        refine x_iloadn (x := a1) rfl rfl ?_
                        refine z_iast (N := 50660) (l := 18140) (u := 18740) (w := a1.toInt) rfl hD J Sm rfl rfl rfl (by omega) rfl (wr_126_18140 (by omega) (fun q1 q2 q3 q4 => by omega) (fun q1 q2 q3 q4 => by omega) (fun q1 q2 q3 q4 => by omega)) rfl (fun h w274 J Sm => ?_)
                        rw [vww w274 (show (18140 + (3 * v270.toInt)) = v273.toInt from by omega) (show a1.toInt = a1.toInt from by omega)] at D
                        refine x_aloadn (x := 125) rfl rfl ?_
                        refine z_getR (N := 92) (b := 126) 12 2 rfl f_12_8 rfl J rfl 16002 ⟨rfl, rfl⟩ rfl ?_
                        refine x_iload (x := v273) rfl rfl ?_
                        refine x_iconst (v := 1) rfl ki_1 ?_
                        refine z_iadd rfl rfl jk_1 (by omega) (fun v275 ev275 => ?_)
                        refine x_iloadn (x := a2) rfl rfl ?_
                        refine z_iast (N := 50660) (l := 18140) (u := 18740) (w := a2.toInt) rfl hD J Sm rfl rfl rfl (by omega) rfl (wr_126_18140 (by omega) (fun q1 q2 q3 q4 => by omega) (fun q1 q2 q3 q4 => by omega) (fun q1 q2 q3 q4 => by omega)) rfl (fun h w276 J Sm => ?_)
                        rw [vww w276 (show ((18140 + (3 * v270.toInt)) + 1) = v275.toInt from by omega) (show a2.toInt = a2.toInt from by omega)] at D
                        refine x_aloadn (x := 125) rfl rfl ?_
                        refine z_getR (N := 92) (b := 126) 12 2 rfl f_12_8 rfl J rfl 16002 ⟨rfl, rfl⟩ rfl ?_
                        refine x_iload (x := v273) rfl rfl ?_
                        refine x_iconst (v := 2) rfl ki_2 ?_
                        refine z_iadd rfl rfl jk_2 (by omega) (fun v277 ev277 => ?_)
                        refine x_iloadn (x := a3) rfl rfl ?_
                        refine z_iast (N := 50660) (l := 18140) (u := 18740) (w := a3.toInt) rfl hD J Sm rfl rfl rfl (by omega) rfl (wr_126_18140 (by omega) (fun q1 q2 q3 q4 => by omega) (fun q1 q2 q3 q4 => by omega) (fun q1 q2 q3 q4 => by omega)) rfl (fun h w278 J Sm => ?_)
                        rw [vww w278 (show ((18140 + (3 * v270.toInt)) + 2) = v277.toInt from by omega) (show a3.toInt = a3.toInt from by omega)] at D
                        refine x_aloadn (x := 125) rfl rfl ?_
                        refine z_getR (N := 92) (b := 126) 12 2 rfl f_12_8 rfl J rfl 16002 ⟨rfl, rfl⟩ rfl ?_
                        refine x_iconst (v := 2) rfl ki_2 ?_
                        refine x_dup2 rfl rfl rfl ?_
                        refine z_ialdM (N := 50660) (v := v270) rfl J rfl jk_2 (by omega) (jmo2 w278 rfl jk_2 (by omega) (jmo2 w276 rfl jk_2 (by omega) (jmo2 w274 rfl jk_2 (by omega) qv270))) ?_
                        refine x_iconst (v := 1) rfl ki_1 ?_
                        refine z_iadd rfl rfl jk_1 (by omega) (fun v279 ev279 => ?_)
                        refine z_iast (N := 50660) (l := 2) (u := 3) (w := v279.toInt) rfl hD J Sm rfl rfl jk_2 (by omega) rfl (wr_126_2 (by omega) (fun q1 q2 q3 q4 => by omega)) rfl (fun h w280 J Sm => ?_)
                        rw [vwn (n := 2) (by decide) w280 (show (v270.toInt + 1) = v279.toInt from by omega)] at D
                        refine x_vret rfl rfl ?_
                        show jX m_X12_together 9 0 0 96 [(0, .ref 125), (1, .int a1), (2, .int a2), (3, .int a3)] [] _ 0 0 _
                        refine x_aloadn (x := 125) rfl rfl ?_
                        refine x_aloadn (x := 125) rfl rfl ?_
                        refine z_getR (N := 92) (b := 126) 12 2 rfl f_12_8 rfl J rfl 16002 ⟨rfl, rfl⟩ rfl ?_
                        refine x_iconst (v := 2) rfl ki_2 ?_
                        refine z_ialdM (N := 50660) (v := v279) rfl J rfl jk_2 (by omega) (jmw w280) ?_
                        try rw [show (v270.toInt + 1) = v279.toInt from by omega] at D
                        refine x_inv (N := m_X12_told) (As := [.int v279]) (b := 125) (st := []) (dx9 := 1) (mc := 0) (ms := 0) (host := "") 12 rfl t_X12_told ⟨Or.inl q_12_197, i_X12_told.1, i_X12_told.2⟩ ⟨by decide, rfl⟩ (congrArg Prod.fst (J.1.1 125 (12, 92) rfl)) rfl (by decide) rfl rfl ⟨by decide, by decide⟩ (sf_X12_told_r125d  hD J rfl  (fun v284 h J S281 X282 X283 => ?_))
                        have ev284 := jfull v284
                        have Sm := jSm_tr rfl Sm S281
                        try rw [X282] at D
                        try rw [X283] at D
                        show jX m_X12_together 9 0 0 106 [(0, .ref 125), (1, .int a1), (2, .int a2), (3, .int a3)] [.int v284] _ 0 0 _
                        refine x_iret rfl rfl ?_
                        exact hQ _ _ J Sm ((congrArg Prod.fst D).symm.trans X282) ((congrArg Prod.snd D).symm.trans X283)
                      ·
                        rw [if_pos (by omega)] at D
                        refine x_aloadn (x := 125) rfl rfl ?_
                        refine x_bipush (v := (-5)) rfl kb_m5 ?_
                        refine x_inv (N := m_X12_told) (As := [.int (-5)]) (b := 125) (st := []) (dx9 := 1) (mc := 0) (ms := 0) (host := "") 12 rfl t_X12_told ⟨Or.inl q_12_197, i_X12_told.1, i_X12_told.2⟩ ⟨by decide, rfl⟩ (congrArg Prod.fst (J.1.1 125 (12, 92) rfl)) rfl (by decide) rfl rfl ⟨by decide, by decide⟩ (sf_X12_told_r125d  hD J rfl  (fun v288 h J S285 X286 X287 => ?_))
                        have ev288 := jfull v288
                        have Sm := jSm_tr rfl Sm S285
                        try rw [jk_m5] at X286
                        try rw [jk_m5] at X287
                        try rw [X286] at D
                        try rw [X287] at D
                        show jX m_X12_together 9 0 0 88 [(0, .ref 125), (1, .int a1), (2, .int a2), (3, .int a3)] [.int v288] _ 0 0 _
                        refine x_iret rfl rfl ?_
                        exact hQ _ _ J Sm ((congrArg Prod.fst D).symm.trans X286) ((congrArg Prod.snd D).symm.trans X287)
                    ·
                      rw [if_pos (by omega)] at D
                      refine x_aloadn (x := 125) rfl rfl ?_
                      refine x_bipush (v := (-4)) rfl kb_m4 ?_
                      refine x_inv (N := m_X12_told) (As := [.int (-4)]) (b := 125) (st := []) (dx9 := 1) (mc := 0) (ms := 0) (host := "") 12 rfl t_X12_told ⟨Or.inl q_12_197, i_X12_told.1, i_X12_told.2⟩ ⟨by decide, rfl⟩ (congrArg Prod.fst (J.1.1 125 (12, 92) rfl)) rfl (by decide) rfl rfl ⟨by decide, by decide⟩ (sf_X12_told_r125d  hD J rfl  (fun v292 h J S289 X290 X291 => ?_))
                      have ev292 := jfull v292
                      have Sm := jSm_tr rfl Sm S289
                      try rw [jk_m4] at X290
                      try rw [jk_m4] at X291
                      try rw [X290] at D
                      try rw [X291] at D
                      show jX m_X12_together 9 0 0 69 [(0, .ref 125), (1, .int a1), (2, .int a2), (3, .int a3)] [.int v292] _ 0 0 _
                      refine x_iret rfl rfl ?_
                      exact hQ _ _ J Sm ((congrArg Prod.fst D).symm.trans X290) ((congrArg Prod.snd D).symm.trans X291)
              ·
                rw [if_pos (by omega)] at D
                refine x_iconst (v := 3) rfl ki_3 ?_
                refine x_goto (tgt := 18) rfl rfl ?_
                refine x_iret rfl rfl ?_
                show jX m_X12_isMention 8 0 0 27 [(0, .ref 125), (1, .int a2)] [.int 3, .int v228] _ 0 0 _
                refine x_icge (tgt := 34) rfl rfl (ti_ge rfl jk_3 (br_f (by omega) ?_))
                refine x_iconst (v := 1) rfl ki_1 ?_
                refine x_goto (tgt := 35) rfl rfl ?_
                refine x_zret rfl rfl (by decide) ?_
                show jX m_X12_together 9 0 0 31 [(0, .ref 125), (1, .int a1), (2, .int a2), (3, .int a3)] [.int 1] _ 0 0 _
                refine x_ifne (tgt := 41) rfl rfl (ti_ne jk_1 jk_0 (bn_t (by omega) ?_))
                refine x_aloadn (x := 125) rfl rfl ?_
                refine x_ldcw (v := 146399) rfl z_12_392 ?_
                refine x_inv (N := m_X12_find) (As := [.int 146399]) (b := 125) (st := []) (dx9 := 8) (mc := 0) (ms := 0) (host := "") 12 rfl t_X12_find ⟨Or.inl q_12_393, i_X12_find.1, i_X12_find.2⟩ ⟨by decide, rfl⟩ (congrArg Prod.fst (J.1.1 125 (12, 92) rfl)) rfl (by decide) rfl rfl ⟨by decide, by decide⟩ (sf_X12_find_r125d (jr_of jk_146399 (by omega)) hD J rfl  (fun h J S293 X294 => ?_))
                have Sm := jSm_tr rfl Sm S293
                try rw [jk_146399] at X294
                rw [X294] at D
                show jX m_X12_together 9 0 0 48 [(0, .ref 125), (1, .int a1), (2, .int a2), (3, .int a3)] [] _ 0 0 _
                refine x_aloadn (x := 125) rfl rfl ?_
                refine z_getR (N := 92) (b := 139) 12 29 rfl f_12_72 rfl J rfl 16029 ⟨rfl, rfl⟩ rfl ?_
                refine x_iloadn (x := a1) rfl rfl ?_
                refine z_iald (N := 600) rfl J rfl sg_139_0_600_1_0_1 rfl (by omega) (fun v295 qv295 ev295 => ?_)
                try rw [vrd qv295 (show a1.toInt = a1.toInt from by omega)] at D
                refine x_aloadn (x := 125) rfl rfl ?_
                refine z_getR (N := 92) (b := 139) 12 29 rfl f_12_72 rfl J rfl 16029 ⟨rfl, rfl⟩ rfl ?_
                refine x_iloadn (x := a2) rfl rfl ?_
                refine z_iald (N := 600) rfl J rfl sg_139_0_600_1_0_1 rfl (by omega) (fun v296 qv296 ev296 => ?_)
                try rw [vrd qv296 (show a2.toInt = a2.toInt from by omega)] at D
                refine x_icne (tgt := 70) rfl rfl (ti_ne rfl rfl ⟨fun c297 => ?_, fun c297 => ?_⟩)
                ·
                  rw [if_neg (by omega)] at D
                  refine x_aloadn (x := 125) rfl rfl ?_
                  refine z_getR (N := 92) (b := 126) 12 2 rfl f_12_8 rfl J rfl 16002 ⟨rfl, rfl⟩ rfl ?_
                  refine x_iconst (v := 2) rfl ki_2 ?_
                  refine z_iald (N := 50660) rfl J rfl sg_126_2_3_1_0_1 jk_2 (by omega) (fun v298 qv298 ev298 => ?_)
                  try rw [vrn (n := 2) (by decide) (jmb_w w1 (jmb_c S293 qv298 rfl) rfl)] at D
                  refine x_sipush (v := 200) rfl ks_200 ?_
                  refine x_icne (tgt := 89) rfl rfl (ti_ne rfl jk_200 ⟨fun c299 => ?_, fun c299 => ?_⟩)
                  ·
                    rw [if_neg (by omega)] at D
                    refine x_aloadn (x := 125) rfl rfl ?_
                    refine x_iloadn (x := a1) rfl rfl ?_
                    refine x_iloadn (x := a2) rfl rfl ?_
                    refine x_iloadn (x := a3) rfl rfl ?_
                    refine x_inv (N := m_X12_addJoined) (As := [.int a1, .int a2, .int a3]) (b := 125) (st := []) (dx9 := 8) (mc := 0) (ms := 0) (host := "") 12 rfl t_X12_addJoined ⟨Or.inl q_12_396, i_X12_addJoined.1, i_X12_addJoined.2⟩ ⟨by decide, rfl⟩ (congrArg Prod.fst (J.1.1 125 (12, 92) rfl)) rfl (by decide) rfl rfl ⟨by decide, by decide⟩ (jC.of rfl k_X12_addJoined rfl ?_)
                    show jX m_X12_addJoined 8 0 0 0 [(0, .ref 125), (1, .int a1), (2, .int a2), (3, .int a3)] [] _ 0 0 _
                    refine x_sipush (v := 18140) rfl ks_18140 ?_
                    refine x_iconst (v := 3) rfl ki_3 ?_
                    refine x_aloadn (x := 125) rfl rfl ?_
                    refine z_getR (N := 92) (b := 126) 12 2 rfl f_12_8 rfl J rfl 16002 ⟨rfl, rfl⟩ rfl ?_
                    refine x_iconst (v := 2) rfl ki_2 ?_
                    refine z_ialdM (N := 50660) (v := v298) rfl J rfl jk_2 (by omega) qv298 ?_
                    refine z_imul rfl jk_3 rfl (by omega) (fun v300 ev300 => ?_)
                    refine z_iadd rfl jk_18140 rfl (by omega) (fun v301 ev301 => ?_)
                    refine x_istore (lsx9 := [(4, .int v301), (0, .ref 125), (1, .int a1), (2, .int a2), (3, .int a3)]) rfl rfl rfl ?_
                    refine x_aloadn (x := 125) rfl rfl ?_
                    refine z_getR (N := 92) (b := 126) 12 2 rfl f_12_8 rfl J rfl 16002 ⟨rfl, rfl⟩ rfl ?_
                    refine x_iload (x := v301) rfl rfl ?_
                    refine x_iloadn (x := a1) rfl rfl ?_
                    refine z_iast (N := 50660) (l := 18140) (u := 18740) (w := a1.toInt) rfl hD J Sm rfl rfl rfl (by omega) rfl (wr_126_18140 (by omega) (fun q1 q2 q3 q4 => by omega) (fun q1 q2 q3 q4 => by omega) (fun q1 q2 q3 q4 => by omega)) rfl (fun h w302 J Sm => ?_)
                    rw [vww w302 (show (18140 + (3 * v298.toInt)) = v301.toInt from by omega) (show a1.toInt = a1.toInt from by omega)] at D
                    refine x_aloadn (x := 125) rfl rfl ?_
                    refine z_getR (N := 92) (b := 126) 12 2 rfl f_12_8 rfl J rfl 16002 ⟨rfl, rfl⟩ rfl ?_
                    refine x_iload (x := v301) rfl rfl ?_
                    refine x_iconst (v := 1) rfl ki_1 ?_
                    refine z_iadd rfl rfl jk_1 (by omega) (fun v303 ev303 => ?_)
                    refine x_iloadn (x := a2) rfl rfl ?_
                    refine z_iast (N := 50660) (l := 18140) (u := 18740) (w := a2.toInt) rfl hD J Sm rfl rfl rfl (by omega) rfl (wr_126_18140 (by omega) (fun q1 q2 q3 q4 => by omega) (fun q1 q2 q3 q4 => by omega) (fun q1 q2 q3 q4 => by omega)) rfl (fun h w304 J Sm => ?_)
                    rw [vww w304 (show ((18140 + (3 * v298.toInt)) + 1) = v303.toInt from by omega) (show a2.toInt = a2.toInt from by omega)] at D
                    refine x_aloadn (x := 125) rfl rfl ?_
                    refine z_getR (N := 92) (b := 126) 12 2 rfl f_12_8 rfl J rfl 16002 ⟨rfl, rfl⟩ rfl ?_
                    refine x_iload (x := v301) rfl rfl ?_
                    refine x_iconst (v := 2) rfl ki_2 ?_
                    refine z_iadd rfl rfl jk_2 (by omega) (fun v305 ev305 => ?_)
                    refine x_iloadn (x := a3) rfl rfl ?_
                    refine z_iast (N := 50660) (l := 18140) (u := 18740) (w := a3.toInt) rfl hD J Sm rfl rfl rfl (by omega) rfl (wr_126_18140 (by omega) (fun q1 q2 q3 q4 => by omega) (fun q1 q2 q3 q4 => by omega) (fun q1 q2 q3 q4 => by omega)) rfl (fun h w306 J Sm => ?_)
                    rw [vww w306 (show ((18140 + (3 * v298.toInt)) + 2) = v305.toInt from by omega) (show a3.toInt = a3.toInt from by omega)] at D
                    refine x_aloadn (x := 125) rfl rfl ?_
                    refine z_getR (N := 92) (b := 126) 12 2 rfl f_12_8 rfl J rfl 16002 ⟨rfl, rfl⟩ rfl ?_
                    refine x_iconst (v := 2) rfl ki_2 ?_
                    refine x_dup2 rfl rfl rfl ?_
                    refine z_ialdM (N := 50660) (v := v298) rfl J rfl jk_2 (by omega) (jmo2 w306 rfl jk_2 (by omega) (jmo2 w304 rfl jk_2 (by omega) (jmo2 w302 rfl jk_2 (by omega) qv298))) ?_
                    refine x_iconst (v := 1) rfl ki_1 ?_
                    refine z_iadd rfl rfl jk_1 (by omega) (fun v307 ev307 => ?_)
                    refine z_iast (N := 50660) (l := 2) (u := 3) (w := v307.toInt) rfl hD J Sm rfl rfl jk_2 (by omega) rfl (wr_126_2 (by omega) (fun q1 q2 q3 q4 => by omega)) rfl (fun h w308 J Sm => ?_)
                    rw [vwn (n := 2) (by decide) w308 (show (v298.toInt + 1) = v307.toInt from by omega)] at D
                    refine x_vret rfl rfl ?_
                    show jX m_X12_together 9 0 0 96 [(0, .ref 125), (1, .int a1), (2, .int a2), (3, .int a3)] [] _ 0 0 _
                    refine x_aloadn (x := 125) rfl rfl ?_
                    refine x_aloadn (x := 125) rfl rfl ?_
                    refine z_getR (N := 92) (b := 126) 12 2 rfl f_12_8 rfl J rfl 16002 ⟨rfl, rfl⟩ rfl ?_
                    refine x_iconst (v := 2) rfl ki_2 ?_
                    refine z_ialdM (N := 50660) (v := v307) rfl J rfl jk_2 (by omega) (jmw w308) ?_
                    try rw [show (v298.toInt + 1) = v307.toInt from by omega] at D
                    refine x_inv (N := m_X12_told) (As := [.int v307]) (b := 125) (st := []) (dx9 := 1) (mc := 0) (ms := 0) (host := "") 12 rfl t_X12_told ⟨Or.inl q_12_197, i_X12_told.1, i_X12_told.2⟩ ⟨by decide, rfl⟩ (congrArg Prod.fst (J.1.1 125 (12, 92) rfl)) rfl (by decide) rfl rfl ⟨by decide, by decide⟩ (sf_X12_told_r125d  hD J rfl  (fun v312 h J S309 X310 X311 => ?_))
                    have ev312 := jfull v312
                    have Sm := jSm_tr rfl Sm S309
                    try rw [X310] at D
                    try rw [X311] at D
                    show jX m_X12_together 9 0 0 106 [(0, .ref 125), (1, .int a1), (2, .int a2), (3, .int a3)] [.int v312] _ 0 0 _
                    refine x_iret rfl rfl ?_
                    exact hQ _ _ J Sm ((congrArg Prod.fst D).symm.trans X310) ((congrArg Prod.snd D).symm.trans X311)
                  ·
                    rw [if_pos (by omega)] at D
                    refine x_aloadn (x := 125) rfl rfl ?_
                    refine x_bipush (v := (-5)) rfl kb_m5 ?_
                    refine x_inv (N := m_X12_told) (As := [.int (-5)]) (b := 125) (st := []) (dx9 := 1) (mc := 0) (ms := 0) (host := "") 12 rfl t_X12_told ⟨Or.inl q_12_197, i_X12_told.1, i_X12_told.2⟩ ⟨by decide, rfl⟩ (congrArg Prod.fst (J.1.1 125 (12, 92) rfl)) rfl (by decide) rfl rfl ⟨by decide, by decide⟩ (sf_X12_told_r125d  hD J rfl  (fun v316 h J S313 X314 X315 => ?_))
                    have ev316 := jfull v316
                    have Sm := jSm_tr rfl Sm S313
                    try rw [jk_m5] at X314
                    try rw [jk_m5] at X315
                    try rw [X314] at D
                    try rw [X315] at D
                    show jX m_X12_together 9 0 0 88 [(0, .ref 125), (1, .int a1), (2, .int a2), (3, .int a3)] [.int v316] _ 0 0 _
                    refine x_iret rfl rfl ?_
                    exact hQ _ _ J Sm ((congrArg Prod.fst D).symm.trans X314) ((congrArg Prod.snd D).symm.trans X315)
                ·
                  rw [if_pos (by omega)] at D
                  refine x_aloadn (x := 125) rfl rfl ?_
                  refine x_bipush (v := (-4)) rfl kb_m4 ?_
                  refine x_inv (N := m_X12_told) (As := [.int (-4)]) (b := 125) (st := []) (dx9 := 1) (mc := 0) (ms := 0) (host := "") 12 rfl t_X12_told ⟨Or.inl q_12_197, i_X12_told.1, i_X12_told.2⟩ ⟨by decide, rfl⟩ (congrArg Prod.fst (J.1.1 125 (12, 92) rfl)) rfl (by decide) rfl rfl ⟨by decide, by decide⟩ (sf_X12_told_r125d  hD J rfl  (fun v320 h J S317 X318 X319 => ?_))
                  have ev320 := jfull v320
                  have Sm := jSm_tr rfl Sm S317
                  try rw [jk_m4] at X318
                  try rw [jk_m4] at X319
                  try rw [X318] at D
                  try rw [X319] at D
                  show jX m_X12_together 9 0 0 69 [(0, .ref 125), (1, .int a1), (2, .int a2), (3, .int a3)] [.int v320] _ 0 0 _
                  refine x_iret rfl rfl ?_
                  exact hQ _ _ J Sm ((congrArg Prod.fst D).symm.trans X318) ((congrArg Prod.snd D).symm.trans X319)
  ·
    rw [if_neg (by omega)] at D
    refine x_aloadn (x := 125) rfl rfl ?_
    refine x_iconst (v := (-1)) rfl ki_m1 ?_
    refine x_inv (N := m_X12_told) (As := [.int (-1)]) (b := 125) (st := []) (dx9 := 1) (mc := 0) (ms := 0) (host := "") 12 rfl t_X12_told ⟨Or.inl q_12_197, i_X12_told.1, i_X12_told.2⟩ ⟨by decide, rfl⟩ (congrArg Prod.fst (J.1.1 125 (12, 92) rfl)) rfl (by decide) rfl rfl ⟨by decide, by decide⟩ (sf_X12_told_r125d  hD J rfl  (fun v324 h J S321 X322 X323 => ?_))
    have ev324 := jfull v324
    have Sm := jSm_tr rfl Sm S321
    try rw [jk_m1] at X322
    try rw [jk_m1] at X323
    try rw [X322] at D
    try rw [X323] at D
    show jX m_X12_together 9 0 0 17 [(0, .ref 125), (1, .int a1), (2, .int a2), (3, .int a3)] [.int v324] _ 0 0 _
    refine x_iret rfl rfl ?_
    exact hQ _ _ J Sm ((congrArg Prod.fst D).symm.trans X322) ((congrArg Prod.snd D).symm.trans X323)
def fp_X12_torn_r125d : jFp := [(125, 0, 1), (125, 1, 2), (126, 3, 4), (126, 18740, 18820)]
set_option maxRecDepth 100000 in
set_option maxHeartbeats 4000000 in
theorem ct_X12_torn_r125d_43 {Dy : jH → Prop} {h0 : jH} {Q : Option Value → jH → Prop} {dr : (Int × jW)} (hD : jDk Dy) (hQ : ∀ (v : Int32) hx9, jJ jSgM Dy hx9 → jSm fp_X12_torn_r125d h0 hx9 → dr.1 = v.toInt → dr.2 = vw hx9 → Q (some (.int v)) hx9) : ∀ (h : jH), jJ jSgM Dy h → jSm fp_X12_torn_r125d h0 h → d_X12_torn_r125d_43  (vw h) = dr → jX m_X12_torn 3 0 0 43 [(0, .ref 125)] [] h 0 0 Q := by
  intro  h    J Sm D
  unfold d_X12_torn_r125d_43 at D
  refine x_aloadn (x := 125) rfl rfl ?_
  refine x_iconst (v := (-1)) rfl ki_m1 ?_
  refine x_inv (N := m_X12_told) (As := [.int (-1)]) (b := 125) (st := []) (dx9 := 1) (mc := 0) (ms := 0) (host := "") 12 rfl t_X12_told ⟨Or.inl q_12_197, i_X12_told.1, i_X12_told.2⟩ ⟨by decide, rfl⟩ (congrArg Prod.fst (J.1.1 125 (12, 92) rfl)) rfl (by decide) rfl rfl ⟨by decide, by decide⟩ (sf_X12_told_r125d  hD J rfl  (fun v4 h J S1 X2 X3 => ?_))
  have ev4 := jfull v4
  have Sm := jSm_tr rfl Sm S1
  try rw [jk_m1] at X2
  try rw [jk_m1] at X3
  try rw [X2] at D
  try rw [X3] at D
  show jX m_X12_torn 3 0 0 48 [(0, .ref 125)] [.int v4] _ 0 0 _
  refine x_iret rfl rfl ?_
  exact hQ _ _ J Sm ((congrArg Prod.fst D).symm.trans X2) ((congrArg Prod.snd D).symm.trans X3)
set_option maxRecDepth 100000 in
set_option maxHeartbeats 4000000 in
theorem sf_X12_torn_r125d {Dy : jH → Prop} {h : jH} {Q : Option Value → jH → Prop} {dr : (Int × jW)} {a1 : Int32} {a2 : Int32} {a3 : Int32} {a4 : Int32} (hD : jDk Dy) (J : jJ jSgM Dy h) (D : d_X12_torn_r125d a1.toInt a2.toInt a3.toInt a4.toInt (vw h) = dr) (hQ : ∀ (v : Int32) hx9, jJ jSgM Dy hx9 → jSm fp_X12_torn_r125d h hx9 → dr.1 = v.toInt → dr.2 = vw hx9 → Q (some (.int v)) hx9) : jC m_X12_torn 3 0 0 [.ref 125, .int a1, .int a2, .int a3, .int a4] h Q := by
  refine jC.of rfl k_X12_torn rfl ?_
  have Sm := jSm_rf fp_X12_torn_r125d h
  have ea1 := jfull a1
  have ea2 := jfull a2
  have ea3 := jfull a3
  have ea4 := jfull a4
  show jX m_X12_torn 3 0 0 0 [(0, .ref 125), (1, .int a1), (2, .int a2), (3, .int a3), (4, .int a4)] [] _ 0 0 _
  unfold d_X12_torn_r125d at D
  refine x_aloadn (x := 125) rfl rfl ?_
  refine x_iconst (v := 0) rfl ki_0 ?_
  refine z_putI (N := 92) (w := 0) 12 0 rfl f_12_180 rfl (jfin_no TX12 RX12 92 rfl rfl) hD J Sm rfl rfl jk_0 (pw_125_0 (by omega)) rfl (fun h w1 J Sm => ?_)
  rw [vwf w1 (show 0 = (0 : Int32).toInt from by have := jk_0; omega)] at D
  refine x_iloadn (x := a1) rfl rfl ?_
  refine z_i2l rfl rfl (fun v2 ev2 => ?_)
  refine x_lconst (v := 0) rfl kl_0 ?_
  refine x_ldc2 (v := 5) rfl z_12_269 ?_
  refine x_inst (N := m_X12_in) (As := [.long v2, .long 0, .long 5]) (st := []) (dx9 := 1) (mc := 0) (ms := 0) (host := "") rfl t_X12_in ⟨Or.inl q_12_188, s_X12_in⟩ rfl (by decide) rfl rfl ⟨by decide, by decide⟩ (zc_X12_in rfl jkl_0 jkl_5 (fun v3 ev3 => ?_))
  show jX m_X12_torn 3 0 0 14 [(0, .ref 125), (1, .int a1), (2, .int a2), (3, .int a3), (4, .int a4)] [.int v3] _ 0 0 _
  refine x_ifeq (tgt := 43) rfl rfl (ti_eq rfl jk_0 ⟨fun c4 => ?_, fun c4 => ?_⟩)
  ·
    rw [if_neg (by omega)] at D
    exact jX.sub (jsb_c rfl jsb_n) (ct_X12_torn_r125d_43 hD hQ  h J Sm D)
  ·
    rw [if_pos (by omega)] at D
    refine x_iloadn (x := a3) rfl rfl ?_
    refine x_inst (N := m_X12_isDay) (As := [.int a3]) (st := []) (dx9 := 2) (mc := 0) (ms := 0) (host := "") rfl t_X12_isDay ⟨Or.inl q_12_273, s_X12_isDay⟩ rfl (by decide) rfl rfl ⟨by decide, by decide⟩ (zc_X12_isDay (d := 1) rfl (fun v5 ev5 => ?_))
    show jX m_X12_torn 3 0 0 21 [(0, .ref 125), (1, .int a1), (2, .int a2), (3, .int a3), (4, .int a4)] [.int v5] _ 0 0 _
    refine x_ifeq (tgt := 43) rfl rfl (ti_eq rfl jk_0 ⟨fun c6 => ?_, fun c6 => ?_⟩)
    ·
      rw [if_neg (by omega)] at D
      exact jX.sub (jsb_c rfl jsb_n) (ct_X12_torn_r125d_43 hD hQ  h J Sm D)
    ·
      rw [if_pos (by omega)] at D
      refine x_iloadn (x := a2) rfl rfl ?_
      refine z_i2l rfl rfl (fun v7 ev7 => ?_)
      refine x_lconst (v := 0) rfl kl_0 ?_
      refine x_iloadn (x := a3) rfl rfl ?_
      refine z_i2l rfl rfl (fun v8 ev8 => ?_)
      refine x_inst (N := m_X12_in) (As := [.long v7, .long 0, .long v8]) (st := []) (dx9 := 1) (mc := 0) (ms := 0) (host := "") rfl t_X12_in ⟨Or.inl q_12_188, s_X12_in⟩ rfl (by decide) rfl rfl ⟨by decide, by decide⟩ (zc_X12_in rfl jkl_0 rfl (fun v9 ev9 => ?_))
      show jX m_X12_torn 3 0 0 32 [(0, .ref 125), (1, .int a1), (2, .int a2), (3, .int a3), (4, .int a4)] [.int v9] _ 0 0 _
      refine x_ifeq (tgt := 43) rfl rfl (ti_eq rfl jk_0 ⟨fun c10 => ?_, fun c10 => ?_⟩)
      ·
        rw [if_neg (by omega)] at D
        exact jX.sub (jsb_c rfl jsb_n) (ct_X12_torn_r125d_43 hD hQ  h J Sm D)
      ·
        rw [if_pos (by omega)] at D
        refine x_iload (x := a4) rfl rfl ?_
        refine x_inst (N := m_X12_isDay) (As := [.int a4]) (st := []) (dx9 := 2) (mc := 0) (ms := 0) (host := "") rfl t_X12_isDay ⟨Or.inl q_12_273, s_X12_isDay⟩ rfl (by decide) rfl rfl ⟨by decide, by decide⟩ (zc_X12_isDay (d := 1) rfl (fun v11 ev11 => ?_))
        show jX m_X12_torn 3 0 0 40 [(0, .ref 125), (1, .int a1), (2, .int a2), (3, .int a3), (4, .int a4)] [.int v11] _ 0 0 _
        refine x_ifne (tgt := 49) rfl rfl (ti_ne rfl jk_0 ⟨fun c12 => ?_, fun c12 => ?_⟩)
        ·
          rw [if_pos (by omega)] at D
          refine x_aloadn (x := 125) rfl rfl ?_
          refine z_getR (N := 92) (b := 126) 12 2 rfl f_12_8 rfl J rfl 16002 ⟨rfl, rfl⟩ rfl ?_
          refine x_iconst (v := 3) rfl ki_3 ?_
          refine z_iald (N := 50660) rfl J rfl sg_126_3_4_1_0_1 jk_3 (by omega) (fun v13 qv13 ev13 => ?_)
          try rw [vrn (n := 3) (by decide) (jmb_w w1 qv13 rfl)] at D
          refine x_bipush (v := 20) rfl kb_20 ?_
          refine x_icne (tgt := 67) rfl rfl (ti_ne rfl jk_20 ⟨fun c14 => ?_, fun c14 => ?_⟩)
          ·
            rw [if_neg (by omega)] at D
            refine x_sipush (v := 18740) rfl ks_18740 ?_
            refine x_iconst (v := 4) rfl ki_4 ?_
            refine x_aloadn (x := 125) rfl rfl ?_
            refine z_getR (N := 92) (b := 126) 12 2 rfl f_12_8 rfl J rfl 16002 ⟨rfl, rfl⟩ rfl ?_
            refine x_iconst (v := 3) rfl ki_3 ?_
            refine z_ialdM (N := 50660) (v := v13) rfl J rfl jk_3 (by omega) qv13 ?_
            refine z_imul rfl jk_4 rfl (by omega) (fun v15 ev15 => ?_)
            refine z_iadd rfl jk_18740 rfl (by omega) (fun v16 ev16 => ?_)
            refine x_istore (lsx9 := [(5, .int v16), (0, .ref 125), (1, .int a1), (2, .int a2), (3, .int a3), (4, .int a4)]) rfl rfl rfl ?_
            refine x_aloadn (x := 125) rfl rfl ?_
            refine z_getR (N := 92) (b := 126) 12 2 rfl f_12_8 rfl J rfl 16002 ⟨rfl, rfl⟩ rfl ?_
            refine x_iload (x := v16) rfl rfl ?_
            refine x_iloadn (x := a1) rfl rfl ?_
            refine z_iast (N := 50660) (l := 18740) (u := 18820) (w := a1.toInt) rfl hD J Sm rfl rfl rfl (by omega) rfl (wr_126_18740 (by omega) (fun q1 q2 q3 q4 => by omega) (fun q1 q2 q3 q4 => by omega) (fun q1 q2 q3 q4 => by omega) (fun q1 q2 q3 q4 => by omega)) rfl (fun h w17 J Sm => ?_)
            rw [vww w17 (show (18740 + (4 * v13.toInt)) = v16.toInt from by omega) (show a1.toInt = a1.toInt from by omega)] at D
            refine x_aloadn (x := 125) rfl rfl ?_
            refine z_getR (N := 92) (b := 126) 12 2 rfl f_12_8 rfl J rfl 16002 ⟨rfl, rfl⟩ rfl ?_
            refine x_iload (x := v16) rfl rfl ?_
            refine x_iconst (v := 1) rfl ki_1 ?_
            refine z_iadd rfl rfl jk_1 (by omega) (fun v18 ev18 => ?_)
            refine x_iloadn (x := a2) rfl rfl ?_
            refine z_iast (N := 50660) (l := 18740) (u := 18820) (w := a2.toInt) rfl hD J Sm rfl rfl rfl (by omega) rfl (wr_126_18740 (by omega) (fun q1 q2 q3 q4 => by omega) (fun q1 q2 q3 q4 => by omega) (fun q1 q2 q3 q4 => by omega) (fun q1 q2 q3 q4 => by omega)) rfl (fun h w19 J Sm => ?_)
            rw [vww w19 (show ((18740 + (4 * v13.toInt)) + 1) = v18.toInt from by omega) (show a2.toInt = a2.toInt from by omega)] at D
            refine x_aloadn (x := 125) rfl rfl ?_
            refine z_getR (N := 92) (b := 126) 12 2 rfl f_12_8 rfl J rfl 16002 ⟨rfl, rfl⟩ rfl ?_
            refine x_iload (x := v16) rfl rfl ?_
            refine x_iconst (v := 2) rfl ki_2 ?_
            refine z_iadd rfl rfl jk_2 (by omega) (fun v20 ev20 => ?_)
            refine x_iloadn (x := a3) rfl rfl ?_
            refine z_iast (N := 50660) (l := 18740) (u := 18820) (w := a3.toInt) rfl hD J Sm rfl rfl rfl (by omega) rfl (wr_126_18740 (by omega) (fun q1 q2 q3 q4 => by omega) (fun q1 q2 q3 q4 => by omega) (fun q1 q2 q3 q4 => by omega) (fun q1 q2 q3 q4 => by omega)) rfl (fun h w21 J Sm => ?_)
            rw [vww w21 (show ((18740 + (4 * v13.toInt)) + 2) = v20.toInt from by omega) (show a3.toInt = a3.toInt from by omega)] at D
            refine x_aloadn (x := 125) rfl rfl ?_
            refine z_getR (N := 92) (b := 126) 12 2 rfl f_12_8 rfl J rfl 16002 ⟨rfl, rfl⟩ rfl ?_
            refine x_iload (x := v16) rfl rfl ?_
            refine x_iconst (v := 3) rfl ki_3 ?_
            refine z_iadd rfl rfl jk_3 (by omega) (fun v22 ev22 => ?_)
            refine x_iload (x := a4) rfl rfl ?_
            refine z_iast (N := 50660) (l := 18740) (u := 18820) (w := a4.toInt) rfl hD J Sm rfl rfl rfl (by omega) rfl (wr_126_18740 (by omega) (fun q1 q2 q3 q4 => by omega) (fun q1 q2 q3 q4 => by omega) (fun q1 q2 q3 q4 => by omega) (fun q1 q2 q3 q4 => by omega)) rfl (fun h w23 J Sm => ?_)
            rw [vww w23 (show ((18740 + (4 * v13.toInt)) + 3) = v22.toInt from by omega) (show a4.toInt = a4.toInt from by omega)] at D
            refine x_aloadn (x := 125) rfl rfl ?_
            refine z_getR (N := 92) (b := 126) 12 2 rfl f_12_8 rfl J rfl 16002 ⟨rfl, rfl⟩ rfl ?_
            refine x_iconst (v := 3) rfl ki_3 ?_
            refine x_dup2 rfl rfl rfl ?_
            refine z_ialdM (N := 50660) (v := v13) rfl J rfl jk_3 (by omega) (jmo2 w23 rfl jk_3 (by omega) (jmo2 w21 rfl jk_3 (by omega) (jmo2 w19 rfl jk_3 (by omega) (jmo2 w17 rfl jk_3 (by omega) qv13)))) ?_
            refine x_iconst (v := 1) rfl ki_1 ?_
            refine z_iadd rfl rfl jk_1 (by omega) (fun v24 ev24 => ?_)
            refine z_iast (N := 50660) (l := 3) (u := 4) (w := v24.toInt) rfl hD J Sm rfl rfl jk_3 (by omega) rfl (wr_126_3 (by omega) (fun q1 q2 q3 q4 => by omega)) rfl (fun h w25 J Sm => ?_)
            rw [vwn (n := 3) (by decide) w25 (show (v13.toInt + 1) = v24.toInt from by omega)] at D
            refine x_aloadn (x := 125) rfl rfl ?_
            refine x_aloadn (x := 125) rfl rfl ?_
            refine z_getR (N := 92) (b := 126) 12 2 rfl f_12_8 rfl J rfl 16002 ⟨rfl, rfl⟩ rfl ?_
            refine x_iconst (v := 3) rfl ki_3 ?_
            refine z_ialdM (N := 50660) (v := v24) rfl J rfl jk_3 (by omega) (jmw w25) ?_
            try rw [show (v13.toInt + 1) = v24.toInt from by omega] at D
            refine x_inv (N := m_X12_told) (As := [.int v24]) (b := 125) (st := []) (dx9 := 1) (mc := 0) (ms := 0) (host := "") 12 rfl t_X12_told ⟨Or.inl q_12_197, i_X12_told.1, i_X12_told.2⟩ ⟨by decide, rfl⟩ (congrArg Prod.fst (J.1.1 125 (12, 92) rfl)) rfl (by decide) rfl rfl ⟨by decide, by decide⟩ (sf_X12_told_r125d  hD J rfl  (fun v29 h J S26 X27 X28 => ?_))
            have ev29 := jfull v29
            have Sm := jSm_tr rfl Sm S26
            try rw [X27] at D
            try rw [X28] at D
            show jX m_X12_torn 3 0 0 140 [(5, .int v16), (0, .ref 125), (1, .int a1), (2, .int a2), (3, .int a3), (4, .int a4)] [.int v29] _ 0 0 _
            refine x_iret rfl rfl ?_
            exact hQ _ _ J Sm ((congrArg Prod.fst D).symm.trans X27) ((congrArg Prod.snd D).symm.trans X28)
          ·
            rw [if_pos (by omega)] at D
            refine x_aloadn (x := 125) rfl rfl ?_
            refine x_bipush (v := (-5)) rfl kb_m5 ?_
            refine x_inv (N := m_X12_told) (As := [.int (-5)]) (b := 125) (st := []) (dx9 := 1) (mc := 0) (ms := 0) (host := "") 12 rfl t_X12_told ⟨Or.inl q_12_197, i_X12_told.1, i_X12_told.2⟩ ⟨by decide, rfl⟩ (congrArg Prod.fst (J.1.1 125 (12, 92) rfl)) rfl (by decide) rfl rfl ⟨by decide, by decide⟩ (sf_X12_told_r125d  hD J rfl  (fun v33 h J S30 X31 X32 => ?_))
            have ev33 := jfull v33
            have Sm := jSm_tr rfl Sm S30
            try rw [jk_m5] at X31
            try rw [jk_m5] at X32
            try rw [X31] at D
            try rw [X32] at D
            show jX m_X12_torn 3 0 0 66 [(0, .ref 125), (1, .int a1), (2, .int a2), (3, .int a3), (4, .int a4)] [.int v33] _ 0 0 _
            refine x_iret rfl rfl ?_
            exact hQ _ _ J Sm ((congrArg Prod.fst D).symm.trans X31) ((congrArg Prod.snd D).symm.trans X32)
        ·
          rw [if_neg (by omega)] at D
          exact jX.sub (jsb_c rfl jsb_n) (ct_X12_torn_r125d_43 hD hQ  h J Sm D)
def fp_X12_turn_r125d : jFp := [(125, 0, 1), (125, 28, 29), (125, 31, 32), (125, 32, 33), (125, 33, 34), (125, 34, 35), (125, 35, 36), (125, 57, 58), (125, 61, 62), (125, 62, 63), (125, 63, 64), (137, 0, 80), (138, 0, 2), (139, 0, 600), (140, 0, 200), (152, 0, 360), (153, 0, 30), (154, 0, 400), (162, 0, 40), (162, 40, 80), (163, 0, 40), (163, 40, 80), (164, 0, 40), (168, 0, 400), (169, 0, 400)]
set_option maxRecDepth 100000 in
set_option maxHeartbeats 4000000 in
theorem ct_X12_turn_r125d_44 {Dy : jH → Prop} {h0 : jH} {Q : Option Value → jH → Prop} {dr : (Int × jW)} (hD : jDk Dy) (hQ : ∀ (v : Int32) hx9, jJ jSgM Dy hx9 → jSm fp_X12_turn_r125d h0 hx9 → dr.1 = v.toInt → dr.2 = vw hx9 → Q (some (.int v)) hx9) : ∀ (h : jH), jJ jSgM Dy h → jSm fp_X12_turn_r125d h0 h → d_X12_turn_r125d_44  (vw h) = dr → jX m_X12_turn 12 0 0 44 [] [] h 0 0 Q := by
  intro  h    J Sm D
  unfold d_X12_turn_r125d_44 at D
  refine x_iconst (v := (-1)) rfl ki_m1 ?_
  refine x_iret rfl rfl ?_
  exact hQ _ _ J Sm ((congrArg Prod.fst D).symm.trans (show (-1) = ((-1) : Int32).toInt from by have := jk_m1; omega)) (congrArg Prod.snd D).symm
set_option maxRecDepth 100000 in
set_option maxHeartbeats 4000000 in
theorem ct_X12_turn_r125d_200190 {Dy : jH → Prop} {h0 : jH} {Q : Option Value → jH → Prop} {dr : (Int × jW)} (hD : jDk Dy) (hQ : ∀ (v : Int32) hx9, jJ jSgM Dy hx9 → jSm fp_X12_turn_r125d h0 hx9 → dr.1 = v.toInt → dr.2 = vw hx9 → Q (some (.int v)) hx9) : ∀ (h : jH), jJ jSgM Dy h → jSm fp_X12_turn_r125d h0 h → d_X12_turn_r125d_200190  (vw h) = dr → jX m_X12_turn 12 0 0 190 [] [.int 0] h 0 0 Q := by
  intro  h    J Sm D
  unfold d_X12_turn_r125d_200190 at D
  refine x_iret rfl rfl ?_
  exact hQ _ _ J Sm ((congrArg Prod.fst D).symm.trans (show 0 = (0 : Int32).toInt from by have := jk_0; omega)) (congrArg Prod.snd D).symm
set_option maxRecDepth 100000 in
set_option maxHeartbeats 4000000 in
theorem ct_X12_turn_r125d_190 {Dy : jH → Prop} {h0 : jH} {Q : Option Value → jH → Prop} {dr : (Int × jW)} (hD : jDk Dy) (hQ : ∀ (v : Int32) hx9, jJ jSgM Dy hx9 → jSm fp_X12_turn_r125d h0 hx9 → dr.1 = v.toInt → dr.2 = vw hx9 → Q (some (.int v)) hx9) : ∀ (s0 : Int32) (h : jH), jJ jSgM Dy h → jSm fp_X12_turn_r125d h0 h → d_X12_turn_r125d_190  s0.toInt (vw h) = dr → jX m_X12_turn 12 0 0 190 [] [.int s0] h 0 0 Q := by
  intro s0 h    J Sm D
  have es0 := jfull s0
  unfold d_X12_turn_r125d_190 at D
  refine x_iret rfl rfl ?_
  exact hQ _ _ J Sm ((congrArg Prod.fst D).symm.trans (show s0.toInt = s0.toInt from by omega)) (congrArg Prod.snd D).symm
set_option maxRecDepth 100000 in
set_option maxHeartbeats 4000000 in
theorem ct_X12_turn_r125d_200138 {Dy : jH → Prop} {h0 : jH} {Q : Option Value → jH → Prop} {dr : (Int × jW)} {K95 : Int → Int → Int → Int → jW → (Int × jW)} {K113 : Int → Int → Int → Int → Int → Int → jW → (Int × jW)} {R95 : Int} {R113 : Int} (hD : jDk Dy) (hQ : ∀ (v : Int32) hx9, jJ jSgM Dy hx9 → jSm fp_X12_turn_r125d h0 hx9 → dr.1 = v.toInt → dr.2 = vw hx9 → Q (some (.int v)) hx9) (k95 : ∀ (l2 : Int32) (l5 : Int32) (l6 : Int32) (l7 : Int32) (h : jH), 40 - l7.toInt < R95 → 0 ≤ l2.toInt ∧ l2.toInt ≤ 399 → 0 ≤ l5.toInt ∧ l5.toInt ≤ 2147483647 → (-2147483648) ≤ l6.toInt ∧ l6.toInt ≤ 1000 → 0 ≤ l7.toInt ∧ l7.toInt ≤ 40 → jJ jSgM Dy h → jSm fp_X12_turn_r125d h0 h → K95 l2.toInt l5.toInt l6.toInt l7.toInt (vw h) = dr → jX m_X12_turn 12 0 0 95 [(0, .ref 125), (2, .int l2), (5, .int l5), (6, .int l6), (7, .int l7)] [] h 0 0 Q) (k113 : ∀ (l2 : Int32) (l5 : Int32) (l6 : Int32) (l7 : Int32) (l8 : Int32) (l9 : Int32) (h : jH), 400 - l9.toInt < R113 → 0 ≤ l2.toInt ∧ l2.toInt ≤ 399 → 0 ≤ l5.toInt ∧ l5.toInt ≤ 2147483647 → (-2147483648) ≤ l6.toInt ∧ l6.toInt ≤ 1000 → 0 ≤ l7.toInt ∧ l7.toInt ≤ 39 → 0 ≤ l9.toInt ∧ l9.toInt ≤ 400 → 40 - l7.toInt ≤ R95 → jJ jSgM Dy h → jSm fp_X12_turn_r125d h0 h → K113 l2.toInt l5.toInt l6.toInt l7.toInt l8.toInt l9.toInt (vw h) = dr → jX m_X12_turn 12 0 0 113 [(0, .ref 125), (2, .int l2), (5, .int l5), (6, .int l6), (7, .int l7), (8, .int l8), (9, .int l9)] [] h 0 0 Q) : ∀ (l2 : Int32) (l5 : Int32) (l6 : Int32) (l7 : Int32) (l9 : Int32) (s1 : Int32) (h : jH), 0 ≤ l2.toInt ∧ l2.toInt ≤ 399 → 0 ≤ l5.toInt ∧ l5.toInt ≤ 2147483647 → (-2147483648) ≤ l6.toInt ∧ l6.toInt ≤ 1000 → 0 ≤ l7.toInt ∧ l7.toInt ≤ 39 → 0 ≤ l9.toInt ∧ l9.toInt ≤ 399 → 40 - l7.toInt ≤ R95 → 400 - l9.toInt ≤ R113 → jJ jSgM Dy h → jSm fp_X12_turn_r125d h0 h → d_X12_turn_r125d_200138 K95 K113  l2.toInt l5.toInt l6.toInt l7.toInt l9.toInt s1.toInt (vw h) = dr → jX m_X12_turn 12 0 0 138 [(0, .ref 125), (2, .int l2), (5, .int l5), (6, .int l6), (7, .int l7), (9, .int l9)] [.int 0, .int s1] h 0 0 Q := by
  intro l2 l5 l6 l7 l9 s1 h y0 y1 y2 y3 y4  m95 m113 J Sm D
  have es1 := jfull s1
  unfold d_X12_turn_r125d_200138 at D
  refine z_iadd rfl rfl jk_0 (by omega) (fun v1 ev1 => ?_)
  refine x_istore (lsx9 := [(8, .int v1), (0, .ref 125), (2, .int l2), (5, .int l5), (6, .int l6), (7, .int l7), (9, .int l9)]) rfl rfl rfl ?_
  refine z_iinc (x := l9) (lsx9 := fun v2 => [(9, .int v2), (8, .int v1), (0, .ref 125), (2, .int l2), (5, .int l5), (6, .int l6), (7, .int l7)]) rfl rfl rfl jko_1 (by omega) rfl (fun _ => rfl) (fun v2 ev2 => ?_)
  refine x_goto (tgt := 113) rfl rfl ?_
  try rw [show (s1.toInt + 0) = v1.toInt from by omega] at D
  try rw [show (l9.toInt + 1) = v2.toInt from by omega] at D
  exact jX.sub (jsb_c rfl (jsb_c rfl (jsb_c rfl (jsb_c rfl (jsb_c rfl (jsb_c rfl (jsb_c rfl jsb_n))))))) (k113 l2 l5 l6 l7 v1 v2 h (by omega) (jr_of rfl (by omega)) (jr_of rfl (by omega)) (jr_of rfl (by omega)) (jr_of rfl (by omega)) (jr_of rfl (by omega)) (by omega) J Sm D)
set_option maxRecDepth 100000 in
set_option maxHeartbeats 4000000 in
theorem ct_X12_turn_r125d_300138 {Dy : jH → Prop} {h0 : jH} {Q : Option Value → jH → Prop} {dr : (Int × jW)} {K95 : Int → Int → Int → Int → jW → (Int × jW)} {K113 : Int → Int → Int → Int → Int → Int → jW → (Int × jW)} {R95 : Int} {R113 : Int} (hD : jDk Dy) (hQ : ∀ (v : Int32) hx9, jJ jSgM Dy hx9 → jSm fp_X12_turn_r125d h0 hx9 → dr.1 = v.toInt → dr.2 = vw hx9 → Q (some (.int v)) hx9) (k95 : ∀ (l2 : Int32) (l5 : Int32) (l6 : Int32) (l7 : Int32) (h : jH), 40 - l7.toInt < R95 → 0 ≤ l2.toInt ∧ l2.toInt ≤ 399 → 0 ≤ l5.toInt ∧ l5.toInt ≤ 2147483647 → (-2147483648) ≤ l6.toInt ∧ l6.toInt ≤ 1000 → 0 ≤ l7.toInt ∧ l7.toInt ≤ 40 → jJ jSgM Dy h → jSm fp_X12_turn_r125d h0 h → K95 l2.toInt l5.toInt l6.toInt l7.toInt (vw h) = dr → jX m_X12_turn 12 0 0 95 [(0, .ref 125), (2, .int l2), (5, .int l5), (6, .int l6), (7, .int l7)] [] h 0 0 Q) (k113 : ∀ (l2 : Int32) (l5 : Int32) (l6 : Int32) (l7 : Int32) (l8 : Int32) (l9 : Int32) (h : jH), 400 - l9.toInt < R113 → 0 ≤ l2.toInt ∧ l2.toInt ≤ 399 → 0 ≤ l5.toInt ∧ l5.toInt ≤ 2147483647 → (-2147483648) ≤ l6.toInt ∧ l6.toInt ≤ 1000 → 0 ≤ l7.toInt ∧ l7.toInt ≤ 39 → 0 ≤ l9.toInt ∧ l9.toInt ≤ 400 → 40 - l7.toInt ≤ R95 → jJ jSgM Dy h → jSm fp_X12_turn_r125d h0 h → K113 l2.toInt l5.toInt l6.toInt l7.toInt l8.toInt l9.toInt (vw h) = dr → jX m_X12_turn 12 0 0 113 [(0, .ref 125), (2, .int l2), (5, .int l5), (6, .int l6), (7, .int l7), (8, .int l8), (9, .int l9)] [] h 0 0 Q) : ∀ (l2 : Int32) (l5 : Int32) (l6 : Int32) (l7 : Int32) (l9 : Int32) (s1 : Int32) (h : jH), 0 ≤ l2.toInt ∧ l2.toInt ≤ 399 → 0 ≤ l5.toInt ∧ l5.toInt ≤ 2147483647 → (-2147483648) ≤ l6.toInt ∧ l6.toInt ≤ 1000 → 0 ≤ l7.toInt ∧ l7.toInt ≤ 39 → 0 ≤ l9.toInt ∧ l9.toInt ≤ 399 → 40 - l7.toInt ≤ R95 → 400 - l9.toInt ≤ R113 → jJ jSgM Dy h → jSm fp_X12_turn_r125d h0 h → d_X12_turn_r125d_300138 K95 K113  l2.toInt l5.toInt l6.toInt l7.toInt l9.toInt s1.toInt (vw h) = dr → jX m_X12_turn 12 0 0 138 [(0, .ref 125), (2, .int l2), (5, .int l5), (6, .int l6), (7, .int l7), (9, .int l9)] [.int 1, .int s1] h 0 0 Q := by
  intro l2 l5 l6 l7 l9 s1 h y0 y1 y2 y3 y4  m95 m113 J Sm D
  have es1 := jfull s1
  unfold d_X12_turn_r125d_300138 at D
  refine z_iaddW rfl rfl jk_1 (fun v1 ev1 => ?_)
  have fv1 := jfull v1
  try rw [← ev1] at D
  refine x_istore (lsx9 := [(8, .int v1), (0, .ref 125), (2, .int l2), (5, .int l5), (6, .int l6), (7, .int l7), (9, .int l9)]) rfl rfl rfl ?_
  refine z_iinc (x := l9) (lsx9 := fun v2 => [(9, .int v2), (8, .int v1), (0, .ref 125), (2, .int l2), (5, .int l5), (6, .int l6), (7, .int l7)]) rfl rfl rfl jko_1 (by omega) rfl (fun _ => rfl) (fun v2 ev2 => ?_)
  refine x_goto (tgt := 113) rfl rfl ?_
  try rw [show (l9.toInt + 1) = v2.toInt from by omega] at D
  exact jX.sub (jsb_c rfl (jsb_c rfl (jsb_c rfl (jsb_c rfl (jsb_c rfl (jsb_c rfl (jsb_c rfl jsb_n))))))) (k113 l2 l5 l6 l7 v1 v2 h (by omega) (jr_of rfl (by omega)) (jr_of rfl (by omega)) (jr_of rfl (by omega)) (jr_of rfl (by omega)) (jr_of rfl (by omega)) (by omega) J Sm D)
set_option maxRecDepth 100000 in
set_option maxHeartbeats 4000000 in
theorem ct_X12_turn_r125d_113 {Dy : jH → Prop} {h0 : jH} {Q : Option Value → jH → Prop} {dr : (Int × jW)} {K95 : Int → Int → Int → Int → jW → (Int × jW)} {R95 : Int} (hD : jDk Dy) (hQ : ∀ (v : Int32) hx9, jJ jSgM Dy hx9 → jSm fp_X12_turn_r125d h0 hx9 → dr.1 = v.toInt → dr.2 = vw hx9 → Q (some (.int v)) hx9) (k95 : ∀ (l2 : Int32) (l5 : Int32) (l6 : Int32) (l7 : Int32) (h : jH), 40 - l7.toInt < R95 → 0 ≤ l2.toInt ∧ l2.toInt ≤ 399 → 0 ≤ l5.toInt ∧ l5.toInt ≤ 2147483647 → (-2147483648) ≤ l6.toInt ∧ l6.toInt ≤ 1000 → 0 ≤ l7.toInt ∧ l7.toInt ≤ 40 → jJ jSgM Dy h → jSm fp_X12_turn_r125d h0 h → K95 l2.toInt l5.toInt l6.toInt l7.toInt (vw h) = dr → jX m_X12_turn 12 0 0 95 [(0, .ref 125), (2, .int l2), (5, .int l5), (6, .int l6), (7, .int l7)] [] h 0 0 Q) : ∀ r : Nat, ∀ (l2 : Int32) (l5 : Int32) (l6 : Int32) (l7 : Int32) (l8 : Int32) (l9 : Int32) (h : jH), 400 - l9.toInt < (r : Int) → 0 ≤ l2.toInt ∧ l2.toInt ≤ 399 → 0 ≤ l5.toInt ∧ l5.toInt ≤ 2147483647 → (-2147483648) ≤ l6.toInt ∧ l6.toInt ≤ 1000 → 0 ≤ l7.toInt ∧ l7.toInt ≤ 39 → 0 ≤ l9.toInt ∧ l9.toInt ≤ 400 → 40 - l7.toInt ≤ R95 → jJ jSgM Dy h → jSm fp_X12_turn_r125d h0 h → d_X12_turn_r125d_113 K95 r l2.toInt l5.toInt l6.toInt l7.toInt l8.toInt l9.toInt (vw h) = dr → jX m_X12_turn 12 0 0 113 [(0, .ref 125), (2, .int l2), (5, .int l5), (6, .int l6), (7, .int l7), (8, .int l8), (9, .int l9)] [] h 0 0 Q := by
  intro r
  induction r with
  | zero =>
    intro l2 l5 l6 l7 l8 l9 h hm y0 y1 y2 y3 y4  m95 J Sm D
    exfalso
    have el8 := jfull l8
    omega
  | succ r ih =>
    intro l2 l5 l6 l7 l8 l9 h hm y0 y1 y2 y3 y4  m95 J Sm D
    have el8 := jfull l8
    rw [d_X12_turn_r125d_113.eq_2] at D
    refine x_iload (x := l9) rfl rfl ?_
    refine x_iloadn (x := l2) rfl rfl ?_
    refine x_icgt (tgt := 147) rfl rfl (ti_gt rfl rfl ⟨fun c1 => ?_, fun c1 => ?_⟩)
    ·
      rw [if_pos (by omega)] at D
      refine x_iload (x := l5) rfl rfl ?_
      refine x_iload (x := l8) rfl rfl ?_
      refine x_inst (N := m_X12_more) (As := [.int l5, .int l8]) (st := []) (dx9 := 11) (mc := 0) (ms := 0) (host := "") rfl t_X12_more ⟨Or.inl q_12_431, s_X12_more⟩ rfl (by decide) rfl rfl ⟨by decide, by decide⟩ (jC.of rfl k_X12_more rfl ?_)
      show jX m_X12_more 11 0 0 0 [(0, .int l5), (1, .int l8)] [] _ 0 0 _
      refine x_iloadn (x := l5) rfl rfl ?_
      refine x_iloadn (x := l8) rfl rfl ?_
      refine x_icle (tgt := 9) rfl rfl (ti_le rfl rfl ⟨fun c2 => ?_, fun c2 => ?_⟩)
      ·
        rw [if_pos (by omega)] at D
        refine x_iloadn (x := l8) rfl rfl ?_
        refine x_iret rfl rfl ?_
        show jX m_X12_turn 12 0 0 154 [(0, .ref 125), (2, .int l2), (5, .int l5), (6, .int l6), (7, .int l7), (8, .int l8), (9, .int l9)] [.int l8] _ 0 0 _
        refine x_istore (lsx9 := [(5, .int l8), (0, .ref 125), (2, .int l2), (6, .int l6), (7, .int l7), (8, .int l8), (9, .int l9)]) rfl rfl rfl ?_
        refine x_iload (x := l6) rfl rfl ?_
        refine x_iload (x := l8) rfl rfl ?_
        refine x_inst (N := m_X12_less) (As := [.int l6, .int l8]) (st := []) (dx9 := 11) (mc := 0) (ms := 0) (host := "") rfl t_X12_less ⟨Or.inl q_12_428, s_X12_less⟩ rfl (by decide) rfl rfl ⟨by decide, by decide⟩ (jC.of rfl k_X12_less rfl ?_)
        show jX m_X12_less 11 0 0 0 [(0, .int l6), (1, .int l8)] [] _ 0 0 _
        refine x_iloadn (x := l6) rfl rfl ?_
        refine x_iloadn (x := l8) rfl rfl ?_
        refine x_icge (tgt := 9) rfl rfl (ti_ge rfl rfl ⟨fun c3 => ?_, fun c3 => ?_⟩)
        ·
          rw [if_pos (by omega)] at D
          refine x_iloadn (x := l8) rfl rfl ?_
          refine x_iret rfl rfl ?_
          show jX m_X12_turn 12 0 0 163 [(5, .int l8), (0, .ref 125), (2, .int l2), (6, .int l6), (7, .int l7), (8, .int l8), (9, .int l9)] [.int l8] _ 0 0 _
          refine x_istore (lsx9 := [(6, .int l8), (5, .int l8), (0, .ref 125), (2, .int l2), (7, .int l7), (8, .int l8), (9, .int l9)]) rfl rfl rfl ?_
          refine z_iinc (x := l7) (lsx9 := fun v4 => [(7, .int v4), (6, .int l8), (5, .int l8), (0, .ref 125), (2, .int l2), (8, .int l8), (9, .int l9)]) rfl rfl rfl jko_1 (by omega) rfl (fun _ => rfl) (fun v4 ev4 => ?_)
          refine x_goto (tgt := 95) rfl rfl ?_
          try rw [show (l7.toInt + 1) = v4.toInt from by omega] at D
          exact jX.sub (jsb_c rfl (jsb_c rfl (jsb_c rfl (jsb_c rfl (jsb_c rfl jsb_n))))) (k95 l2 l8 l8 v4 h (by omega) (jr_of rfl (by omega)) (jr_of rfl (by omega)) (jr_of rfl (by omega)) (jr_of rfl (by omega)) J Sm D)
        ·
          rw [if_neg (by omega)] at D
          refine x_iloadn (x := l6) rfl rfl ?_
          refine x_goto (tgt := 10) rfl rfl ?_
          refine x_iret rfl rfl ?_
          show jX m_X12_turn 12 0 0 163 [(5, .int l8), (0, .ref 125), (2, .int l2), (6, .int l6), (7, .int l7), (8, .int l8), (9, .int l9)] [.int l6] _ 0 0 _
          refine x_istore (lsx9 := [(6, .int l6), (5, .int l8), (0, .ref 125), (2, .int l2), (7, .int l7), (8, .int l8), (9, .int l9)]) rfl rfl rfl ?_
          refine z_iinc (x := l7) (lsx9 := fun v5 => [(7, .int v5), (6, .int l6), (5, .int l8), (0, .ref 125), (2, .int l2), (8, .int l8), (9, .int l9)]) rfl rfl rfl jko_1 (by omega) rfl (fun _ => rfl) (fun v5 ev5 => ?_)
          refine x_goto (tgt := 95) rfl rfl ?_
          try rw [show (l7.toInt + 1) = v5.toInt from by omega] at D
          exact jX.sub (jsb_c rfl (jsb_c rfl (jsb_c rfl (jsb_c rfl (jsb_c rfl jsb_n))))) (k95 l2 l8 l6 v5 h (by omega) (jr_of rfl (by omega)) (jr_of rfl (by omega)) (jr_of rfl (by omega)) (jr_of rfl (by omega)) J Sm D)
      ·
        rw [if_neg (by omega)] at D
        refine x_iloadn (x := l5) rfl rfl ?_
        refine x_goto (tgt := 10) rfl rfl ?_
        refine x_iret rfl rfl ?_
        show jX m_X12_turn 12 0 0 154 [(0, .ref 125), (2, .int l2), (5, .int l5), (6, .int l6), (7, .int l7), (8, .int l8), (9, .int l9)] [.int l5] _ 0 0 _
        refine x_istore (lsx9 := [(5, .int l5), (0, .ref 125), (2, .int l2), (6, .int l6), (7, .int l7), (8, .int l8), (9, .int l9)]) rfl rfl rfl ?_
        refine x_iload (x := l6) rfl rfl ?_
        refine x_iload (x := l8) rfl rfl ?_
        refine x_inst (N := m_X12_less) (As := [.int l6, .int l8]) (st := []) (dx9 := 11) (mc := 0) (ms := 0) (host := "") rfl t_X12_less ⟨Or.inl q_12_428, s_X12_less⟩ rfl (by decide) rfl rfl ⟨by decide, by decide⟩ (jC.of rfl k_X12_less rfl ?_)
        show jX m_X12_less 11 0 0 0 [(0, .int l6), (1, .int l8)] [] _ 0 0 _
        refine x_iloadn (x := l6) rfl rfl ?_
        refine x_iloadn (x := l8) rfl rfl ?_
        refine x_icge (tgt := 9) rfl rfl (ti_ge rfl rfl ⟨fun c6 => ?_, fun c6 => ?_⟩)
        ·
          rw [if_pos (by omega)] at D
          refine x_iloadn (x := l8) rfl rfl ?_
          refine x_iret rfl rfl ?_
          show jX m_X12_turn 12 0 0 163 [(5, .int l5), (0, .ref 125), (2, .int l2), (6, .int l6), (7, .int l7), (8, .int l8), (9, .int l9)] [.int l8] _ 0 0 _
          refine x_istore (lsx9 := [(6, .int l8), (5, .int l5), (0, .ref 125), (2, .int l2), (7, .int l7), (8, .int l8), (9, .int l9)]) rfl rfl rfl ?_
          refine z_iinc (x := l7) (lsx9 := fun v7 => [(7, .int v7), (6, .int l8), (5, .int l5), (0, .ref 125), (2, .int l2), (8, .int l8), (9, .int l9)]) rfl rfl rfl jko_1 (by omega) rfl (fun _ => rfl) (fun v7 ev7 => ?_)
          refine x_goto (tgt := 95) rfl rfl ?_
          try rw [show (l7.toInt + 1) = v7.toInt from by omega] at D
          exact jX.sub (jsb_c rfl (jsb_c rfl (jsb_c rfl (jsb_c rfl (jsb_c rfl jsb_n))))) (k95 l2 l5 l8 v7 h (by omega) (jr_of rfl (by omega)) (jr_of rfl (by omega)) (jr_of rfl (by omega)) (jr_of rfl (by omega)) J Sm D)
        ·
          rw [if_neg (by omega)] at D
          refine x_iloadn (x := l6) rfl rfl ?_
          refine x_goto (tgt := 10) rfl rfl ?_
          refine x_iret rfl rfl ?_
          show jX m_X12_turn 12 0 0 163 [(5, .int l5), (0, .ref 125), (2, .int l2), (6, .int l6), (7, .int l7), (8, .int l8), (9, .int l9)] [.int l6] _ 0 0 _
          refine x_istore (lsx9 := [(6, .int l6), (5, .int l5), (0, .ref 125), (2, .int l2), (7, .int l7), (8, .int l8), (9, .int l9)]) rfl rfl rfl ?_
          refine z_iinc (x := l7) (lsx9 := fun v8 => [(7, .int v8), (6, .int l6), (5, .int l5), (0, .ref 125), (2, .int l2), (8, .int l8), (9, .int l9)]) rfl rfl rfl jko_1 (by omega) rfl (fun _ => rfl) (fun v8 ev8 => ?_)
          refine x_goto (tgt := 95) rfl rfl ?_
          try rw [show (l7.toInt + 1) = v8.toInt from by omega] at D
          exact jX.sub (jsb_c rfl (jsb_c rfl (jsb_c rfl (jsb_c rfl (jsb_c rfl jsb_n))))) (k95 l2 l5 l6 v8 h (by omega) (jr_of rfl (by omega)) (jr_of rfl (by omega)) (jr_of rfl (by omega)) (jr_of rfl (by omega)) J Sm D)
    ·
      rw [if_neg (by omega)] at D
      refine x_iload (x := l8) rfl rfl ?_
      refine x_aloadn (x := 125) rfl rfl ?_
      refine z_getR (N := 92) (b := 168) 12 83 rfl f_12_162 rfl J rfl 16083 ⟨rfl, rfl⟩ rfl ?_
      refine x_iload (x := l9) rfl rfl ?_
      refine z_iald (N := 400) rfl J rfl sg_168_0_400_1_0_1 rfl (by omega) (fun v9 qv9 ev9 => ?_)
      try rw [vrd qv9 (show l9.toInt = l9.toInt from by omega)] at D
      refine x_iload (x := l7) rfl rfl ?_
      refine x_icne (tgt := 137) rfl rfl (ti_ne rfl rfl ⟨fun c10 => ?_, fun c10 => ?_⟩)
      ·
        rw [if_neg (by omega)] at D
        refine x_iconst (v := 0) rfl ki_0 ?_
        exact jX.sub (jsb_c rfl (jsb_c rfl (jsb_c rfl (jsb_c rfl (jsb_c rfl (jsb_c rfl jsb_n)))))) (ct_X12_turn_r125d_200138 hD hQ k95 ih l2 l5 l6 l7 l9 l8 h (jr_of rfl (by omega)) (jr_of rfl (by omega)) (jr_of rfl (by omega)) (jr_of rfl (by omega)) (jr_of rfl (by omega)) (by omega) (by omega) J Sm D)
      ·
        rw [if_pos (by omega)] at D
        refine x_iconst (v := 1) rfl ki_1 ?_
        refine x_goto (tgt := 138) rfl rfl ?_
        exact jX.sub (jsb_c rfl (jsb_c rfl (jsb_c rfl (jsb_c rfl (jsb_c rfl (jsb_c rfl jsb_n)))))) (ct_X12_turn_r125d_300138 hD hQ k95 ih l2 l5 l6 l7 l9 l8 h (jr_of rfl (by omega)) (jr_of rfl (by omega)) (jr_of rfl (by omega)) (jr_of rfl (by omega)) (jr_of rfl (by omega)) (by omega) (by omega) J Sm D)
set_option maxRecDepth 100000 in
set_option maxHeartbeats 4000000 in
theorem ct_X12_turn_r125d_95 {Dy : jH → Prop} {h0 : jH} {Q : Option Value → jH → Prop} {dr : (Int × jW)} (hD : jDk Dy) (hQ : ∀ (v : Int32) hx9, jJ jSgM Dy hx9 → jSm fp_X12_turn_r125d h0 hx9 → dr.1 = v.toInt → dr.2 = vw hx9 → Q (some (.int v)) hx9) : ∀ r : Nat, ∀ (l2 : Int32) (l5 : Int32) (l6 : Int32) (l7 : Int32) (h : jH), 40 - l7.toInt < (r : Int) → 0 ≤ l2.toInt ∧ l2.toInt ≤ 399 → 0 ≤ l5.toInt ∧ l5.toInt ≤ 2147483647 → (-2147483648) ≤ l6.toInt ∧ l6.toInt ≤ 1000 → 0 ≤ l7.toInt ∧ l7.toInt ≤ 40 → jJ jSgM Dy h → jSm fp_X12_turn_r125d h0 h → d_X12_turn_r125d_95 r l2.toInt l5.toInt l6.toInt l7.toInt (vw h) = dr → jX m_X12_turn 12 0 0 95 [(0, .ref 125), (2, .int l2), (5, .int l5), (6, .int l6), (7, .int l7)] [] h 0 0 Q := by
  intro r
  induction r with
  | zero =>
    intro l2 l5 l6 l7 h hm y0 y1 y2 y3   J Sm D
    exfalso
    omega
  | succ r ih =>
    intro l2 l5 l6 l7 h hm y0 y1 y2 y3   J Sm D
    rw [d_X12_turn_r125d_95.eq_2] at D
    refine x_iload (x := l7) rfl rfl ?_
    refine x_aloadn (x := 125) rfl rfl ?_
    refine z_getR (N := 92) (b := 126) 12 2 rfl f_12_8 rfl J rfl 16002 ⟨rfl, rfl⟩ rfl ?_
    refine x_bipush (v := 7) rfl kb_7 ?_
    refine z_iald (N := 50660) rfl J rfl sg_126_7_8_1_0_1 jk_7 (by omega) (fun v1 qv1 ev1 => ?_)
    try rw [vrn (n := 7) (by decide) qv1] at D
    refine x_icge (tgt := 171) rfl rfl (ti_ge rfl rfl ⟨fun c2 => ?_, fun c2 => ?_⟩)
    ·
      rw [if_pos (by omega)] at D
      refine x_aloadn (x := 125) rfl rfl ?_
      refine z_getR (N := 92) (b := 126) 12 2 rfl f_12_8 rfl J rfl 16002 ⟨rfl, rfl⟩ rfl ?_
      refine x_bipush (v := 7) rfl kb_7 ?_
      refine z_ialdM (N := 50660) (v := v1) rfl J rfl jk_7 (by omega) qv1 ?_
      refine x_ifne (tgt := 185) rfl rfl (ti_ne rfl jk_0 ⟨fun c3 => ?_, fun c3 => ?_⟩)
      ·
        rw [if_neg (by omega)] at D
        refine x_iload (x := l5) rfl rfl ?_
        refine x_iload (x := l6) rfl rfl ?_
        refine z_isubW rfl rfl rfl (fun v4 ev4 => ?_)
        have fv4 := jfull v4
        try rw [← ev4] at D
        exact jX.sub jsb_n (ct_X12_turn_r125d_190 hD hQ  v4 h J Sm D)
      ·
        rw [if_pos (by omega)] at D
        refine x_iconst (v := 0) rfl ki_0 ?_
        refine x_goto (tgt := 190) rfl rfl ?_
        exact jX.sub jsb_n (ct_X12_turn_r125d_200190 hD hQ  h J Sm D)
    ·
      rw [if_neg (by omega)] at D
      refine x_iconst (v := 0) rfl ki_0 ?_
      refine x_istore (lsx9 := [(8, .int 0), (0, .ref 125), (2, .int l2), (5, .int l5), (6, .int l6), (7, .int l7)]) rfl rfl rfl ?_
      refine x_iconst (v := 0) rfl ki_0 ?_
      refine x_istore (lsx9 := [(9, .int 0), (8, .int 0), (0, .ref 125), (2, .int l2), (5, .int l5), (6, .int l6), (7, .int l7)]) rfl rfl rfl ?_
      exact jX.sub (jsb_c rfl (jsb_c rfl (jsb_c rfl (jsb_c rfl (jsb_c rfl (jsb_c rfl (jsb_c rfl jsb_n))))))) (ct_X12_turn_r125d_113 hD hQ ih 401 l2 l5 l6 l7 0 0 h (by have := jk_0; omega) (jr_of rfl (by omega)) (jr_of rfl (by omega)) (jr_of rfl (by omega)) (jr_of rfl (by omega)) (jr_of jk_0 (by omega)) (by omega) J Sm (by rw [jk_0]; exact D))
set_option maxRecDepth 100000 in
set_option maxHeartbeats 4000000 in
theorem ct_X12_turn_r125d_83 {Dy : jH → Prop} {h0 : jH} {Q : Option Value → jH → Prop} {dr : (Int × jW)} (hD : jDk Dy) (hQ : ∀ (v : Int32) hx9, jJ jSgM Dy hx9 → jSm fp_X12_turn_r125d h0 hx9 → dr.1 = v.toInt → dr.2 = vw hx9 → Q (some (.int v)) hx9) : ∀ (s0 : Int32) (h : jH), jJ jSgM Dy h → jSm fp_X12_turn_r125d h0 h → d_X12_turn_r125d_83  s0.toInt (vw h) = dr → jX m_X12_turn 12 0 0 83 [] [.int s0] h 0 0 Q := by
  intro s0 h    J Sm D
  have es0 := jfull s0
  unfold d_X12_turn_r125d_83 at D
  refine x_iret rfl rfl ?_
  exact hQ _ _ J Sm ((congrArg Prod.fst D).symm.trans (show s0.toInt = s0.toInt from by omega)) (congrArg Prod.snd D).symm
set_option maxRecDepth 100000 in
set_option maxHeartbeats 4000000 in
theorem sf_X12_turn_r125d {Dy : jH → Prop} {h : jH} {Q : Option Value → jH → Prop} {dr : (Int × jW)} {a1 : Int32} {a2 : Int32} {a3 : Int32} {a4 : Int32} (hD : jDk Dy) (J : jJ jSgM Dy h) (D : d_X12_turn_r125d a1.toInt a2.toInt a3.toInt a4.toInt (vw h) = dr) (hQ : ∀ (v : Int32) hx9, jJ jSgM Dy hx9 → jSm fp_X12_turn_r125d h hx9 → dr.1 = v.toInt → dr.2 = vw hx9 → Q (some (.int v)) hx9) : jC m_X12_turn 12 0 0 [.ref 125, .int a1, .int a2, .int a3, .int a4] h Q := by
  refine jC.of rfl k_X12_turn rfl ?_
  have Sm := jSm_rf fp_X12_turn_r125d h
  have ea1 := jfull a1
  have ea2 := jfull a2
  have ea3 := jfull a3
  have ea4 := jfull a4
  show jX m_X12_turn 12 0 0 0 [(0, .ref 125), (1, .int a1), (2, .int a2), (3, .int a3), (4, .int a4)] [] _ 0 0 _
  unfold d_X12_turn_r125d at D
  refine x_aloadn (x := 125) rfl rfl ?_
  refine x_iconst (v := 0) rfl ki_0 ?_
  refine z_putI (N := 92) (w := 0) 12 0 rfl f_12_180 rfl (jfin_no TX12 RX12 92 rfl rfl) hD J Sm rfl rfl jk_0 (pw_125_0 (by omega)) rfl (fun h w1 J Sm => ?_)
  rw [vwf w1 (show 0 = (0 : Int32).toInt from by have := jk_0; omega)] at D
  refine x_iloadn (x := a1) rfl rfl ?_
  refine z_i2l rfl rfl (fun v2 ev2 => ?_)
  refine x_lconst (v := 0) rfl kl_0 ?_
  refine x_ldc2 (v := 3) rfl z_12_195 ?_
  refine x_inst (N := m_X12_in) (As := [.long v2, .long 0, .long 3]) (st := []) (dx9 := 1) (mc := 0) (ms := 0) (host := "") rfl t_X12_in ⟨Or.inl q_12_188, s_X12_in⟩ rfl (by decide) rfl rfl ⟨by decide, by decide⟩ (zc_X12_in rfl jkl_0 jkl_3 (fun v3 ev3 => ?_))
  show jX m_X12_turn 12 0 0 14 [(0, .ref 125), (1, .int a1), (2, .int a2), (3, .int a3), (4, .int a4)] [.int v3] _ 0 0 _
  refine x_ifeq (tgt := 44) rfl rfl (ti_eq rfl jk_0 ⟨fun c4 => ?_, fun c4 => ?_⟩)
  ·
    rw [if_neg (by omega)] at D
    exact jX.sub jsb_n (ct_X12_turn_r125d_44 hD hQ  h J Sm D)
  ·
    rw [if_pos (by omega)] at D
    refine x_iloadn (x := a2) rfl rfl ?_
    refine x_inst (N := m_X12_isYear) (As := [.int a2]) (st := []) (dx9 := 2) (mc := 0) (ms := 0) (host := "") rfl t_X12_isYear ⟨Or.inl q_12_817, s_X12_isYear⟩ rfl (by decide) rfl rfl ⟨by decide, by decide⟩ (zc_X12_isYear (d := 1) rfl (fun v5 ev5 => ?_))
    show jX m_X12_turn 12 0 0 21 [(0, .ref 125), (1, .int a1), (2, .int a2), (3, .int a3), (4, .int a4)] [.int v5] _ 0 0 _
    refine x_ifeq (tgt := 44) rfl rfl (ti_eq rfl jk_0 ⟨fun c6 => ?_, fun c6 => ?_⟩)
    ·
      rw [if_neg (by omega)] at D
      exact jX.sub jsb_n (ct_X12_turn_r125d_44 hD hQ  h J Sm D)
    ·
      rw [if_pos (by omega)] at D
      refine x_iloadn (x := a3) rfl rfl ?_
      refine x_inst (N := m_X12_isDay) (As := [.int a3]) (st := []) (dx9 := 2) (mc := 0) (ms := 0) (host := "") rfl t_X12_isDay ⟨Or.inl q_12_273, s_X12_isDay⟩ rfl (by decide) rfl rfl ⟨by decide, by decide⟩ (zc_X12_isDay (d := 1) rfl (fun v7 ev7 => ?_))
      show jX m_X12_turn 12 0 0 28 [(0, .ref 125), (1, .int a1), (2, .int a2), (3, .int a3), (4, .int a4)] [.int v7] _ 0 0 _
      refine x_ifeq (tgt := 44) rfl rfl (ti_eq rfl jk_0 ⟨fun c8 => ?_, fun c8 => ?_⟩)
      ·
        rw [if_neg (by omega)] at D
        exact jX.sub jsb_n (ct_X12_turn_r125d_44 hD hQ  h J Sm D)
      ·
        rw [if_pos (by omega)] at D
        refine x_iload (x := a4) rfl rfl ?_
        refine z_i2l rfl rfl (fun v9 ev9 => ?_)
        refine x_lconst (v := 0) rfl kl_0 ?_
        refine x_ldc2 (v := 2) rfl z_12_482 ?_
        refine x_inst (N := m_X12_in) (As := [.long v9, .long 0, .long 2]) (st := []) (dx9 := 1) (mc := 0) (ms := 0) (host := "") rfl t_X12_in ⟨Or.inl q_12_188, s_X12_in⟩ rfl (by decide) rfl rfl ⟨by decide, by decide⟩ (zc_X12_in rfl jkl_0 jkl_2 (fun v10 ev10 => ?_))
        show jX m_X12_turn 12 0 0 41 [(0, .ref 125), (1, .int a1), (2, .int a2), (3, .int a3), (4, .int a4)] [.int v10] _ 0 0 _
        refine x_ifne (tgt := 46) rfl rfl (ti_ne rfl jk_0 ⟨fun c11 => ?_, fun c11 => ?_⟩)
        ·
          rw [if_pos (by omega)] at D
          refine x_aloadn (x := 125) rfl rfl ?_
          refine x_iloadn (x := a3) rfl rfl ?_
          refine x_inv (N := m_X12_find) (As := [.int a3]) (b := 125) (st := []) (dx9 := 8) (mc := 0) (ms := 0) (host := "") 12 rfl t_X12_find ⟨Or.inl q_12_393, i_X12_find.1, i_X12_find.2⟩ ⟨by decide, rfl⟩ (congrArg Prod.fst (J.1.1 125 (12, 92) rfl)) rfl (by decide) rfl rfl ⟨by decide, by decide⟩ (sf_X12_find_r125d (jr_of rfl (by omega)) hD J rfl  (fun h J S12 X13 => ?_))
          have Sm := jSm_tr rfl Sm S12
          rw [X13] at D
          show jX m_X12_turn 12 0 0 51 [(0, .ref 125), (1, .int a1), (2, .int a2), (3, .int a3), (4, .int a4)] [] _ 0 0 _
          refine x_aloadn (x := 125) rfl rfl ?_
          refine x_iloadn (x := a1) rfl rfl ?_
          refine x_iloadn (x := a2) rfl rfl ?_
          refine x_inv (N := m_X12_findTurns) (As := [.int a1, .int a2]) (b := 125) (st := []) (dx9 := 11) (mc := 0) (ms := 0) (host := "") 12 rfl t_X12_findTurns ⟨Or.inl q_12_838, i_X12_findTurns.1, i_X12_findTurns.2⟩ ⟨by decide, rfl⟩ (congrArg Prod.fst (J.1.1 125 (12, 92) rfl)) rfl (by decide) rfl rfl ⟨by decide, by decide⟩ (sf_X12_findTurns_r125d (jr_of rfl (by omega)) (jr_of rfl (by omega)) hD J rfl  (fun h J S14 X15 => ?_))
          have Sm := jSm_tr rfl Sm S14
          rw [X15] at D
          show jX m_X12_turn 12 0 0 57 [(0, .ref 125), (1, .int a1), (2, .int a2), (3, .int a3), (4, .int a4)] [] _ 0 0 _
          refine x_iload (x := a4) rfl rfl ?_
          refine x_iconst (v := 2) rfl ki_2 ?_
          refine x_icge (tgt := 84) rfl rfl (ti_ge rfl jk_2 ⟨fun c16 => ?_, fun c16 => ?_⟩)
          ·
            rw [if_pos (by omega)] at D
            refine x_iconst (v := 0) rfl ki_0 ?_
            refine x_istore (lsx9 := [(5, .int 0), (0, .ref 125), (1, .int a1), (2, .int a2), (3, .int a3), (4, .int a4)]) rfl rfl rfl ?_
            refine x_sipush (v := 1000) rfl ks_1000 ?_
            refine x_istore (lsx9 := [(6, .int 1000), (5, .int 0), (0, .ref 125), (1, .int a1), (2, .int a2), (3, .int a3), (4, .int a4)]) rfl rfl rfl ?_
            refine x_iconst (v := 0) rfl ki_0 ?_
            refine x_istore (lsx9 := [(7, .int 0), (6, .int 1000), (5, .int 0), (0, .ref 125), (1, .int a1), (2, .int a2), (3, .int a3), (4, .int a4)]) rfl rfl rfl ?_
            exact jX.sub (jsb_c rfl (jsb_c rfl (jsb_c rfl (jsb_c rfl (jsb_c rfl jsb_n))))) (ct_X12_turn_r125d_95 hD hQ  41 a2 0 1000 0 h (by have := jk_0; omega) (jr_of rfl (by omega)) (jr_of jk_0 (by omega)) (jr_of jk_1000 (by omega)) (jr_of jk_0 (by omega)) J Sm (by rw [jk_0, jk_1000]; exact D))
          ·
            rw [if_neg (by omega)] at D
            refine x_iload (x := a4) rfl rfl ?_
            refine x_ifne (tgt := 77) rfl rfl (ti_ne rfl jk_0 ⟨fun c17 => ?_, fun c17 => ?_⟩)
            ·
              rw [if_neg (by omega)] at D
              refine x_aloadn (x := 125) rfl rfl ?_
              refine z_getR (N := 92) (b := 169) 12 84 rfl f_12_165 rfl J rfl 16084 ⟨rfl, rfl⟩ rfl ?_
              refine x_iloadn (x := a2) rfl rfl ?_
              refine z_iald0 (N := 400) rfl J rfl rfl (by omega) (fun v18 qv18 => ?_)
              have ev18 := jfull v18
              try rw [vrd qv18 (show a2.toInt = a2.toInt from by omega)] at D
              exact jX.sub jsb_n (ct_X12_turn_r125d_83 hD hQ  v18 h J Sm D)
            ·
              rw [if_pos (by omega)] at D
              refine x_aloadn (x := 125) rfl rfl ?_
              refine z_getR (N := 92) (b := 168) 12 83 rfl f_12_162 rfl J rfl 16083 ⟨rfl, rfl⟩ rfl ?_
              refine x_iloadn (x := a2) rfl rfl ?_
              refine z_iald (N := 400) rfl J rfl sg_168_0_400_1_0_1 rfl (by omega) (fun v19 qv19 ev19 => ?_)
              try rw [vrd qv19 (show a2.toInt = a2.toInt from by omega)] at D
              refine x_goto (tgt := 83) rfl rfl ?_
              exact jX.sub jsb_n (ct_X12_turn_r125d_83 hD hQ  v19 h J Sm D)
        ·
          rw [if_neg (by omega)] at D
          exact jX.sub jsb_n (ct_X12_turn_r125d_44 hD hQ  h J Sm D)
def fp_X12_value_r125d : jFp := [(125, 0, 1), (125, 1, 2), (126, 8, 9), (126, 47260, 47660)]
set_option maxRecDepth 100000 in
set_option maxHeartbeats 4000000 in
theorem ct_X12_value_r125d_32 {Dy : jH → Prop} {h0 : jH} {Q : Option Value → jH → Prop} {dr : (Int × jW)} (hD : jDk Dy) (hQ : ∀ (v : Int32) hx9, jJ jSgM Dy hx9 → jSm fp_X12_value_r125d h0 hx9 → dr.1 = v.toInt → dr.2 = vw hx9 → Q (some (.int v)) hx9) : ∀ (h : jH), jJ jSgM Dy h → jSm fp_X12_value_r125d h0 h → d_X12_value_r125d_32  (vw h) = dr → jX m_X12_value 3 0 0 32 [(0, .ref 125)] [] h 0 0 Q := by
  intro  h    J Sm D
  unfold d_X12_value_r125d_32 at D
  refine x_aloadn (x := 125) rfl rfl ?_
  refine x_iconst (v := (-1)) rfl ki_m1 ?_
  refine x_inv (N := m_X12_told) (As := [.int (-1)]) (b := 125) (st := []) (dx9 := 1) (mc := 0) (ms := 0) (host := "") 12 rfl t_X12_told ⟨Or.inl q_12_197, i_X12_told.1, i_X12_told.2⟩ ⟨by decide, rfl⟩ (congrArg Prod.fst (J.1.1 125 (12, 92) rfl)) rfl (by decide) rfl rfl ⟨by decide, by decide⟩ (sf_X12_told_r125d  hD J rfl  (fun v4 h J S1 X2 X3 => ?_))
  have ev4 := jfull v4
  have Sm := jSm_tr rfl Sm S1
  try rw [jk_m1] at X2
  try rw [jk_m1] at X3
  try rw [X2] at D
  try rw [X3] at D
  show jX m_X12_value 3 0 0 37 [(0, .ref 125)] [.int v4] _ 0 0 _
  refine x_iret rfl rfl ?_
  exact hQ _ _ J Sm ((congrArg Prod.fst D).symm.trans X2) ((congrArg Prod.snd D).symm.trans X3)
set_option maxRecDepth 100000 in
set_option maxHeartbeats 4000000 in
theorem sf_X12_value_r125d {Dy : jH → Prop} {h : jH} {Q : Option Value → jH → Prop} {dr : (Int × jW)} {a1 : Int32} {a2 : Int32} {a3 : Int32} {a4 : Int32} (hD : jDk Dy) (J : jJ jSgM Dy h) (D : d_X12_value_r125d a1.toInt a2.toInt a3.toInt a4.toInt (vw h) = dr) (hQ : ∀ (v : Int32) hx9, jJ jSgM Dy hx9 → jSm fp_X12_value_r125d h hx9 → dr.1 = v.toInt → dr.2 = vw hx9 → Q (some (.int v)) hx9) : jC m_X12_value 3 0 0 [.ref 125, .int a1, .int a2, .int a3, .int a4] h Q := by
  refine jC.of rfl k_X12_value rfl ?_
  have Sm := jSm_rf fp_X12_value_r125d h
  have ea1 := jfull a1
  have ea2 := jfull a2
  have ea3 := jfull a3
  have ea4 := jfull a4
  show jX m_X12_value 3 0 0 0 [(0, .ref 125), (1, .int a1), (2, .int a2), (3, .int a3), (4, .int a4)] [] _ 0 0 _
  unfold d_X12_value_r125d at D
  refine x_aloadn (x := 125) rfl rfl ?_
  refine x_iconst (v := 0) rfl ki_0 ?_
  refine z_putI (N := 92) (w := 0) 12 0 rfl f_12_180 rfl (jfin_no TX12 RX12 92 rfl rfl) hD J Sm rfl rfl jk_0 (pw_125_0 (by omega)) rfl (fun h w1 J Sm => ?_)
  rw [vwf w1 (show 0 = (0 : Int32).toInt from by have := jk_0; omega)] at D
  refine x_iloadn (x := a2) rfl rfl ?_
  refine z_i2l rfl rfl (fun v2 ev2 => ?_)
  refine x_lconst (v := 0) rfl kl_0 ?_
  refine x_ldc2 (v := 10000) rfl z_12_809 ?_
  refine x_inst (N := m_X12_in) (As := [.long v2, .long 0, .long 10000]) (st := []) (dx9 := 1) (mc := 0) (ms := 0) (host := "") rfl t_X12_in ⟨Or.inl q_12_188, s_X12_in⟩ rfl (by decide) rfl rfl ⟨by decide, by decide⟩ (zc_X12_in rfl jkl_0 jkl_10000 (fun v3 ev3 => ?_))
  show jX m_X12_value 3 0 0 14 [(0, .ref 125), (1, .int a1), (2, .int a2), (3, .int a3), (4, .int a4)] [.int v3] _ 0 0 _
  refine x_ifeq (tgt := 32) rfl rfl (ti_eq rfl jk_0 ⟨fun c4 => ?_, fun c4 => ?_⟩)
  ·
    rw [if_neg (by omega)] at D
    exact jX.sub (jsb_c rfl jsb_n) (ct_X12_value_r125d_32 hD hQ  h J Sm D)
  ·
    rw [if_pos (by omega)] at D
    refine x_iloadn (x := a3) rfl rfl ?_
    refine x_inst (N := m_X12_isDay) (As := [.int a3]) (st := []) (dx9 := 2) (mc := 0) (ms := 0) (host := "") rfl t_X12_isDay ⟨Or.inl q_12_273, s_X12_isDay⟩ rfl (by decide) rfl rfl ⟨by decide, by decide⟩ (zc_X12_isDay (d := 1) rfl (fun v5 ev5 => ?_))
    show jX m_X12_value 3 0 0 21 [(0, .ref 125), (1, .int a1), (2, .int a2), (3, .int a3), (4, .int a4)] [.int v5] _ 0 0 _
    refine x_ifeq (tgt := 32) rfl rfl (ti_eq rfl jk_0 ⟨fun c6 => ?_, fun c6 => ?_⟩)
    ·
      rw [if_neg (by omega)] at D
      exact jX.sub (jsb_c rfl jsb_n) (ct_X12_value_r125d_32 hD hQ  h J Sm D)
    ·
      rw [if_pos (by omega)] at D
      refine x_iload (x := a4) rfl rfl ?_
      refine x_inst (N := m_X12_isDay) (As := [.int a4]) (st := []) (dx9 := 2) (mc := 0) (ms := 0) (host := "") rfl t_X12_isDay ⟨Or.inl q_12_273, s_X12_isDay⟩ rfl (by decide) rfl rfl ⟨by decide, by decide⟩ (zc_X12_isDay (d := 1) rfl (fun v7 ev7 => ?_))
      show jX m_X12_value 3 0 0 29 [(0, .ref 125), (1, .int a1), (2, .int a2), (3, .int a3), (4, .int a4)] [.int v7] _ 0 0 _
      refine x_ifne (tgt := 38) rfl rfl (ti_ne rfl jk_0 ⟨fun c8 => ?_, fun c8 => ?_⟩)
      ·
        rw [if_pos (by omega)] at D
        refine x_aloadn (x := 125) rfl rfl ?_
        refine x_iloadn (x := a1) rfl rfl ?_
        refine x_inv (N := m_X12_isHolding) (As := [.int a1]) (b := 125) (st := []) (dx9 := 2) (mc := 0) (ms := 0) (host := "") 12 rfl t_X12_isHolding ⟨Or.inl q_12_811, i_X12_isHolding.1, i_X12_isHolding.2⟩ ⟨by decide, rfl⟩ (congrArg Prod.fst (J.1.1 125 (12, 92) rfl)) rfl (by decide) rfl rfl ⟨by decide, by decide⟩ (jC.of rfl k_X12_isHolding rfl ?_)
        show jX m_X12_isHolding 2 0 0 0 [(0, .ref 125), (1, .int a1)] [] _ 0 0 _
        refine x_iloadn (x := a1) rfl rfl ?_
        refine z_i2l rfl rfl (fun v9 ev9 => ?_)
        refine x_lconst (v := 0) rfl kl_0 ?_
        refine x_aloadn (x := 125) rfl rfl ?_
        refine z_getR (N := 92) (b := 126) 12 2 rfl f_12_8 rfl J rfl 16002 ⟨rfl, rfl⟩ rfl ?_
        refine x_bipush (v := 7) rfl kb_7 ?_
        refine z_iald (N := 50660) rfl J rfl sg_126_7_8_1_0_1 jk_7 (by omega) (fun v10 qv10 ev10 => ?_)
        try rw [vrn (n := 7) (by decide) (jmb_w w1 qv10 rfl)] at D
        refine z_i2l rfl rfl (fun v11 ev11 => ?_)
        refine x_lconst (v := 1) rfl kl_1 ?_
        refine z_lsub rfl rfl jkl_1 (by omega) (fun v12 ev12 => ?_)
        refine x_inst (N := m_X12_in) (As := [.long v9, .long 0, .long v12]) (st := []) (dx9 := 1) (mc := 0) (ms := 0) (host := "") rfl t_X12_in ⟨Or.inl q_12_188, s_X12_in⟩ rfl (by decide) rfl rfl ⟨by decide, by decide⟩ (zc_X12_in rfl jkl_0 rfl (fun v13 ev13 => ?_))
        show jX m_X12_isHolding 2 0 0 16 [(0, .ref 125), (1, .int a1)] [.int v13] _ 0 0 _
        refine x_zret rfl rfl (jz01 (by omega)) ?_
        show jX m_X12_value 3 0 0 43 [(0, .ref 125), (1, .int a1), (2, .int a2), (3, .int a3), (4, .int a4)] [.int v13] _ 0 0 _
        refine x_ifne (tgt := 53) rfl rfl (ti_ne rfl jk_0 ⟨fun c14 => ?_, fun c14 => ?_⟩)
        ·
          rw [if_pos (by omega)] at D
          refine x_aloadn (x := 125) rfl rfl ?_
          refine x_iloadn (x := a1) rfl rfl ?_
          refine x_inv (N := m_X12_splitOf) (As := [.int a1]) (b := 125) (st := []) (dx9 := 1) (mc := 0) (ms := 0) (host := "") 12 rfl t_X12_splitOf ⟨Or.inl q_12_805, i_X12_splitOf.1, i_X12_splitOf.2⟩ ⟨by decide, rfl⟩ (congrArg Prod.fst (J.1.1 125 (12, 92) rfl)) rfl (by decide) rfl rfl ⟨by decide, by decide⟩ (sf_X12_splitOf_r125d (jr_of rfl (by omega)) hD J rfl  (fun v18 h ev18 xv18 J S15 X16 X17 => ?_))
          have Sm := jSm_tr rfl Sm S15
          try rw [X16] at D
          try rw [← X17] at D
          show jX m_X12_value 3 0 0 58 [(0, .ref 125), (1, .int a1), (2, .int a2), (3, .int a3), (4, .int a4)] [.int v18] _ 0 0 _
          refine x_iconst (v := (-1)) rfl ki_m1 ?_
          refine x_iceq (tgt := 69) rfl rfl (ti_eq rfl jk_m1 ⟨fun c19 => ?_, fun c19 => ?_⟩)
          ·
            rw [if_pos (by omega)] at D
            refine x_aloadn (x := 125) rfl rfl ?_
            refine z_getR (N := 92) (b := 126) 12 2 rfl f_12_8 rfl J rfl 16002 ⟨rfl, rfl⟩ rfl ?_
            refine x_bipush (v := 8) rfl kb_8 ?_
            refine z_iald (N := 50660) rfl J rfl sg_126_8_9_1_0_1 jk_8 (by omega) (fun v20 qv20 ev20 => ?_)
            try rw [vrn (n := 8) (by decide) (jmb_w w1 (jmb_c S15 qv20 rfl) rfl)] at D
            refine x_bipush (v := 100) rfl kb_100 ?_
            refine x_icne (tgt := 88) rfl rfl (ti_ne rfl jk_100 ⟨fun c21 => ?_, fun c21 => ?_⟩)
            ·
              rw [if_neg (by omega)] at D
              refine x_aloadn (x := 125) rfl rfl ?_
              refine x_ldcw (v := 47260) rfl z_12_800 ?_
              refine x_iconst (v := 4) rfl ki_4 ?_
              refine x_aloadn (x := 125) rfl rfl ?_
              refine z_getR (N := 92) (b := 126) 12 2 rfl f_12_8 rfl J rfl 16002 ⟨rfl, rfl⟩ rfl ?_
              refine x_bipush (v := 8) rfl kb_8 ?_
              refine z_ialdM (N := 50660) (v := v20) rfl J rfl jk_8 (by omega) qv20 ?_
              refine z_imul rfl jk_4 rfl (by omega) (fun v22 ev22 => ?_)
              refine z_iadd rfl jk_47260 rfl (by omega) (fun v23 ev23 => ?_)
              refine x_iloadn (x := a1) rfl rfl ?_
              refine x_iloadn (x := a2) rfl rfl ?_
              refine x_iloadn (x := a3) rfl rfl ?_
              refine x_iload (x := a4) rfl rfl ?_
              refine x_inv (N := m_X12_addFour) (As := [.int v23, .int a1, .int a2, .int a3, .int a4]) (b := 125) (st := []) (dx9 := 2) (mc := 0) (ms := 0) (host := "") 12 rfl t_X12_addFour ⟨Or.inl q_12_814, i_X12_addFour.1, i_X12_addFour.2⟩ ⟨by decide, rfl⟩ (congrArg Prod.fst (J.1.1 125 (12, 92) rfl)) rfl (by decide) rfl rfl ⟨by decide, by decide⟩ (jC.of rfl k_X12_addFour rfl ?_)
              show jX m_X12_addFour 2 0 0 0 [(0, .ref 125), (1, .int v23), (2, .int a1), (3, .int a2), (4, .int a3), (5, .int a4)] [] _ 0 0 _
              refine x_aloadn (x := 125) rfl rfl ?_
              refine z_getR (N := 92) (b := 126) 12 2 rfl f_12_8 rfl J rfl 16002 ⟨rfl, rfl⟩ rfl ?_
              refine x_iloadn (x := v23) rfl rfl ?_
              refine x_iloadn (x := a1) rfl rfl ?_
              refine z_iast (N := 50660) (l := 47260) (u := 47660) (w := a1.toInt) rfl hD J Sm rfl rfl rfl (by omega) rfl (wr_126_47260 (by omega) (fun q1 q2 q3 q4 => by omega) (fun q1 q2 q3 q4 => by omega) (fun q1 q2 q3 q4 => by omega) (fun q1 q2 q3 q4 => by omega)) rfl (fun h w24 J Sm => ?_)
              rw [vww w24 (show (47260 + (4 * v20.toInt)) = v23.toInt from by omega) (show a1.toInt = a1.toInt from by omega)] at D
              refine x_aloadn (x := 125) rfl rfl ?_
              refine z_getR (N := 92) (b := 126) 12 2 rfl f_12_8 rfl J rfl 16002 ⟨rfl, rfl⟩ rfl ?_
              refine x_iloadn (x := v23) rfl rfl ?_
              refine x_iconst (v := 1) rfl ki_1 ?_
              refine z_iadd rfl rfl jk_1 (by omega) (fun v25 ev25 => ?_)
              refine x_iloadn (x := a2) rfl rfl ?_
              refine z_iast (N := 50660) (l := 47260) (u := 47660) (w := a2.toInt) rfl hD J Sm rfl rfl rfl (by omega) rfl (wr_126_47260 (by omega) (fun q1 q2 q3 q4 => by omega) (fun q1 q2 q3 q4 => by omega) (fun q1 q2 q3 q4 => by omega) (fun q1 q2 q3 q4 => by omega)) rfl (fun h w26 J Sm => ?_)
              rw [vww w26 (show ((47260 + (4 * v20.toInt)) + 1) = v25.toInt from by omega) (show a2.toInt = a2.toInt from by omega)] at D
              refine x_aloadn (x := 125) rfl rfl ?_
              refine z_getR (N := 92) (b := 126) 12 2 rfl f_12_8 rfl J rfl 16002 ⟨rfl, rfl⟩ rfl ?_
              refine x_iloadn (x := v23) rfl rfl ?_
              refine x_iconst (v := 2) rfl ki_2 ?_
              refine z_iadd rfl rfl jk_2 (by omega) (fun v27 ev27 => ?_)
              refine x_iload (x := a3) rfl rfl ?_
              refine z_iast (N := 50660) (l := 47260) (u := 47660) (w := a3.toInt) rfl hD J Sm rfl rfl rfl (by omega) rfl (wr_126_47260 (by omega) (fun q1 q2 q3 q4 => by omega) (fun q1 q2 q3 q4 => by omega) (fun q1 q2 q3 q4 => by omega) (fun q1 q2 q3 q4 => by omega)) rfl (fun h w28 J Sm => ?_)
              rw [vww w28 (show ((47260 + (4 * v20.toInt)) + 2) = v27.toInt from by omega) (show a3.toInt = a3.toInt from by omega)] at D
              refine x_aloadn (x := 125) rfl rfl ?_
              refine z_getR (N := 92) (b := 126) 12 2 rfl f_12_8 rfl J rfl 16002 ⟨rfl, rfl⟩ rfl ?_
              refine x_iloadn (x := v23) rfl rfl ?_
              refine x_iconst (v := 3) rfl ki_3 ?_
              refine z_iadd rfl rfl jk_3 (by omega) (fun v29 ev29 => ?_)
              refine x_iload (x := a4) rfl rfl ?_
              refine z_iast (N := 50660) (l := 47260) (u := 47660) (w := a4.toInt) rfl hD J Sm rfl rfl rfl (by omega) rfl (wr_126_47260 (by omega) (fun q1 q2 q3 q4 => by omega) (fun q1 q2 q3 q4 => by omega) (fun q1 q2 q3 q4 => by omega) (fun q1 q2 q3 q4 => by omega)) rfl (fun h w30 J Sm => ?_)
              rw [vww w30 (show ((47260 + (4 * v20.toInt)) + 3) = v29.toInt from by omega) (show a4.toInt = a4.toInt from by omega)] at D
              refine x_vret rfl rfl ?_
              show jX m_X12_value 3 0 0 110 [(0, .ref 125), (1, .int a1), (2, .int a2), (3, .int a3), (4, .int a4)] [] _ 0 0 _
              refine x_aloadn (x := 125) rfl rfl ?_
              refine z_getR (N := 92) (b := 126) 12 2 rfl f_12_8 rfl J rfl 16002 ⟨rfl, rfl⟩ rfl ?_
              refine x_bipush (v := 8) rfl kb_8 ?_
              refine x_dup2 rfl rfl rfl ?_
              refine z_ialdM (N := 50660) (v := v20) rfl J rfl jk_8 (by omega) (jmo2 w30 rfl jk_8 (by omega) (jmo2 w28 rfl jk_8 (by omega) (jmo2 w26 rfl jk_8 (by omega) (jmo2 w24 rfl jk_8 (by omega) qv20)))) ?_
              refine x_iconst (v := 1) rfl ki_1 ?_
              refine z_iadd rfl rfl jk_1 (by omega) (fun v31 ev31 => ?_)
              refine z_iast (N := 50660) (l := 8) (u := 9) (w := v31.toInt) rfl hD J Sm rfl rfl jk_8 (by omega) rfl (wr_126_8 (by omega) (fun q1 q2 q3 q4 => by omega)) rfl (fun h w32 J Sm => ?_)
              rw [vwn (n := 8) (by decide) w32 (show (v20.toInt + 1) = v31.toInt from by omega)] at D
              refine x_aloadn (x := 125) rfl rfl ?_
              refine x_aloadn (x := 125) rfl rfl ?_
              refine z_getR (N := 92) (b := 126) 12 2 rfl f_12_8 rfl J rfl 16002 ⟨rfl, rfl⟩ rfl ?_
              refine x_bipush (v := 8) rfl kb_8 ?_
              refine z_ialdM (N := 50660) (v := v31) rfl J rfl jk_8 (by omega) (jmw w32) ?_
              try rw [show (v20.toInt + 1) = v31.toInt from by omega] at D
              refine x_inv (N := m_X12_told) (As := [.int v31]) (b := 125) (st := []) (dx9 := 1) (mc := 0) (ms := 0) (host := "") 12 rfl t_X12_told ⟨Or.inl q_12_197, i_X12_told.1, i_X12_told.2⟩ ⟨by decide, rfl⟩ (congrArg Prod.fst (J.1.1 125 (12, 92) rfl)) rfl (by decide) rfl rfl ⟨by decide, by decide⟩ (sf_X12_told_r125d  hD J rfl  (fun v36 h J S33 X34 X35 => ?_))
              have ev36 := jfull v36
              have Sm := jSm_tr rfl Sm S33
              try rw [X34] at D
              try rw [X35] at D
              show jX m_X12_value 3 0 0 132 [(0, .ref 125), (1, .int a1), (2, .int a2), (3, .int a3), (4, .int a4)] [.int v36] _ 0 0 _
              refine x_iret rfl rfl ?_
              exact hQ _ _ J Sm ((congrArg Prod.fst D).symm.trans X34) ((congrArg Prod.snd D).symm.trans X35)
            ·
              rw [if_pos (by omega)] at D
              refine x_aloadn (x := 125) rfl rfl ?_
              refine x_bipush (v := (-5)) rfl kb_m5 ?_
              refine x_inv (N := m_X12_told) (As := [.int (-5)]) (b := 125) (st := []) (dx9 := 1) (mc := 0) (ms := 0) (host := "") 12 rfl t_X12_told ⟨Or.inl q_12_197, i_X12_told.1, i_X12_told.2⟩ ⟨by decide, rfl⟩ (congrArg Prod.fst (J.1.1 125 (12, 92) rfl)) rfl (by decide) rfl rfl ⟨by decide, by decide⟩ (sf_X12_told_r125d  hD J rfl  (fun v40 h J S37 X38 X39 => ?_))
              have ev40 := jfull v40
              have Sm := jSm_tr rfl Sm S37
              try rw [jk_m5] at X38
              try rw [jk_m5] at X39
              try rw [X38] at D
              try rw [X39] at D
              show jX m_X12_value 3 0 0 87 [(0, .ref 125), (1, .int a1), (2, .int a2), (3, .int a3), (4, .int a4)] [.int v40] _ 0 0 _
              refine x_iret rfl rfl ?_
              exact hQ _ _ J Sm ((congrArg Prod.fst D).symm.trans X38) ((congrArg Prod.snd D).symm.trans X39)
          ·
            rw [if_neg (by omega)] at D
            refine x_aloadn (x := 125) rfl rfl ?_
            refine x_bipush (v := (-3)) rfl kb_m3 ?_
            refine x_inv (N := m_X12_told) (As := [.int (-3)]) (b := 125) (st := []) (dx9 := 1) (mc := 0) (ms := 0) (host := "") 12 rfl t_X12_told ⟨Or.inl q_12_197, i_X12_told.1, i_X12_told.2⟩ ⟨by decide, rfl⟩ (congrArg Prod.fst (J.1.1 125 (12, 92) rfl)) rfl (by decide) rfl rfl ⟨by decide, by decide⟩ (sf_X12_told_r125d  hD J rfl  (fun v44 h J S41 X42 X43 => ?_))
            have ev44 := jfull v44
            have Sm := jSm_tr rfl Sm S41
            try rw [jk_m3] at X42
            try rw [jk_m3] at X43
            try rw [X42] at D
            try rw [X43] at D
            show jX m_X12_value 3 0 0 68 [(0, .ref 125), (1, .int a1), (2, .int a2), (3, .int a3), (4, .int a4)] [.int v44] _ 0 0 _
            refine x_iret rfl rfl ?_
            exact hQ _ _ J Sm ((congrArg Prod.fst D).symm.trans X42) ((congrArg Prod.snd D).symm.trans X43)
        ·
          rw [if_neg (by omega)] at D
          refine x_aloadn (x := 125) rfl rfl ?_
          refine x_bipush (v := (-2)) rfl kb_m2 ?_
          refine x_inv (N := m_X12_told) (As := [.int (-2)]) (b := 125) (st := []) (dx9 := 1) (mc := 0) (ms := 0) (host := "") 12 rfl t_X12_told ⟨Or.inl q_12_197, i_X12_told.1, i_X12_told.2⟩ ⟨by decide, rfl⟩ (congrArg Prod.fst (J.1.1 125 (12, 92) rfl)) rfl (by decide) rfl rfl ⟨by decide, by decide⟩ (sf_X12_told_r125d  hD J rfl  (fun v48 h J S45 X46 X47 => ?_))
          have ev48 := jfull v48
          have Sm := jSm_tr rfl Sm S45
          try rw [jk_m2] at X46
          try rw [jk_m2] at X47
          try rw [X46] at D
          try rw [X47] at D
          show jX m_X12_value 3 0 0 52 [(0, .ref 125), (1, .int a1), (2, .int a2), (3, .int a3), (4, .int a4)] [.int v48] _ 0 0 _
          refine x_iret rfl rfl ?_
          exact hQ _ _ J Sm ((congrArg Prod.fst D).symm.trans X46) ((congrArg Prod.snd D).symm.trans X47)
      ·
        rw [if_neg (by omega)] at D
        exact jX.sub (jsb_c rfl jsb_n) (ct_X12_value_r125d_32 hD hQ  h J Sm D)
def fp_X12_waits_r125d : jFp := [(125, 0, 1), (125, 28, 29), (125, 31, 32), (125, 57, 58), (137, 0, 80), (138, 0, 2), (139, 0, 600), (140, 0, 200)]
set_option maxRecDepth 100000 in
set_option maxHeartbeats 4000000 in
theorem ct_X12_waits_r125d_100057 {Dy : jH → Prop} {h0 : jH} {Q : Option Value → jH → Prop} {dr : (Int × jW)} (hD : jDk Dy) (hQ : ∀ (v : Int32) hx9, (-1) ≤ v.toInt ∧ v.toInt ≤ 200 → jJ jSgM Dy hx9 → jSm fp_X12_waits_r125d h0 hx9 → dr.1 = v.toInt → dr.2 = vw hx9 → Q (some (.int v)) hx9) : ∀ (h : jH), jJ jSgM Dy h → jSm fp_X12_waits_r125d h0 h → d_X12_waits_r125d_100057  (vw h) = dr → jX m_X12_waits 9 0 0 57 [] [.int (-1)] h 0 0 Q := by
  intro  h    J Sm D
  unfold d_X12_waits_r125d_100057 at D
  refine x_iret rfl rfl ?_
  exact hQ _ _ (jr_of jk_m1 (by omega)) J Sm ((congrArg Prod.fst D).symm.trans (show (-1) = ((-1) : Int32).toInt from by have := jk_m1; omega)) (congrArg Prod.snd D).symm
set_option maxRecDepth 100000 in
set_option maxHeartbeats 4000000 in
theorem ct_X12_waits_r125d_57 {Dy : jH → Prop} {h0 : jH} {Q : Option Value → jH → Prop} {dr : (Int × jW)} (hD : jDk Dy) (hQ : ∀ (v : Int32) hx9, (-1) ≤ v.toInt ∧ v.toInt ≤ 200 → jJ jSgM Dy hx9 → jSm fp_X12_waits_r125d h0 hx9 → dr.1 = v.toInt → dr.2 = vw hx9 → Q (some (.int v)) hx9) : ∀ (s0 : Int32) (h : jH), 0 ≤ s0.toInt ∧ s0.toInt ≤ 200 → jJ jSgM Dy h → jSm fp_X12_waits_r125d h0 h → d_X12_waits_r125d_57  s0.toInt (vw h) = dr → jX m_X12_waits 9 0 0 57 [] [.int s0] h 0 0 Q := by
  intro s0 h y0   J Sm D
  unfold d_X12_waits_r125d_57 at D
  refine x_iret rfl rfl ?_
  exact hQ _ _ (jr_of rfl (by omega)) J Sm ((congrArg Prod.fst D).symm.trans (show s0.toInt = s0.toInt from by omega)) (congrArg Prod.snd D).symm
set_option maxRecDepth 100000 in
set_option maxHeartbeats 4000000 in
theorem sf_X12_waits_r125d {Dy : jH → Prop} {h : jH} {Q : Option Value → jH → Prop} {dr : (Int × jW)} {a1 : Int32} {a2 : Int32} (hD : jDk Dy) (J : jJ jSgM Dy h) (D : d_X12_waits_r125d a1.toInt a2.toInt (vw h) = dr) (hQ : ∀ (v : Int32) hx9, (-1) ≤ v.toInt ∧ v.toInt ≤ 200 → jJ jSgM Dy hx9 → jSm fp_X12_waits_r125d h hx9 → dr.1 = v.toInt → dr.2 = vw hx9 → Q (some (.int v)) hx9) : jC m_X12_waits 9 0 0 [.ref 125, .int a1, .int a2] h Q := by
  refine jC.of rfl k_X12_waits rfl ?_
  have Sm := jSm_rf fp_X12_waits_r125d h
  have ea1 := jfull a1
  have ea2 := jfull a2
  show jX m_X12_waits 9 0 0 0 [(0, .ref 125), (1, .int a1), (2, .int a2)] [] _ 0 0 _
  unfold d_X12_waits_r125d at D
  refine x_aloadn (x := 125) rfl rfl ?_
  refine x_iconst (v := 0) rfl ki_0 ?_
  refine z_putI (N := 92) (w := 0) 12 0 rfl f_12_180 rfl (jfin_no TX12 RX12 92 rfl rfl) hD J Sm rfl rfl jk_0 (pw_125_0 (by omega)) rfl (fun h w1 J Sm => ?_)
  rw [vwf w1 (show 0 = (0 : Int32).toInt from by have := jk_0; omega)] at D
  refine x_iloadn (x := a1) rfl rfl ?_
  refine x_inst (N := m_X12_isDay) (As := [.int a1]) (st := []) (dx9 := 2) (mc := 0) (ms := 0) (host := "") rfl t_X12_isDay ⟨Or.inl q_12_273, s_X12_isDay⟩ rfl (by decide) rfl rfl ⟨by decide, by decide⟩ (zc_X12_isDay (d := 1) rfl (fun v2 ev2 => ?_))
  show jX m_X12_waits 9 0 0 9 [(0, .ref 125), (1, .int a1), (2, .int a2)] [.int v2] _ 0 0 _
  refine x_ifne (tgt := 14) rfl rfl (ti_ne rfl jk_0 ⟨fun c3 => ?_, fun c3 => ?_⟩)
  ·
    rw [if_pos (by omega)] at D
    refine x_aloadn (x := 125) rfl rfl ?_
    refine x_iloadn (x := a1) rfl rfl ?_
    refine x_inv (N := m_X12_find) (As := [.int a1]) (b := 125) (st := []) (dx9 := 8) (mc := 0) (ms := 0) (host := "") 12 rfl t_X12_find ⟨Or.inl q_12_393, i_X12_find.1, i_X12_find.2⟩ ⟨by decide, rfl⟩ (congrArg Prod.fst (J.1.1 125 (12, 92) rfl)) rfl (by decide) rfl rfl ⟨by decide, by decide⟩ (sf_X12_find_r125d (jr_of rfl (by omega)) hD J rfl  (fun h J S4 X5 => ?_))
    have Sm := jSm_tr rfl Sm S4
    rw [X5] at D
    show jX m_X12_waits 9 0 0 19 [(0, .ref 125), (1, .int a1), (2, .int a2)] [] _ 0 0 _
    refine x_iloadn (x := a2) rfl rfl ?_
    refine x_iconst (v := (-1)) rfl ki_m1 ?_
    refine x_icne (tgt := 31) rfl rfl (ti_ne rfl jk_m1 ⟨fun c6 => ?_, fun c6 => ?_⟩)
    ·
      rw [if_neg (by omega)] at D
      refine x_iloadn (x := a2) rfl rfl ?_
      refine z_i2l rfl rfl (fun v7 ev7 => ?_)
      refine x_lconst (v := 0) rfl kl_0 ?_
      refine x_aloadn (x := 125) rfl rfl ?_
      refine z_getI (N := 92) 12 31 rfl f_12_380 rfl J rfl sg_125_31_32_1_0_1 (fun v8 qv8 ev8 => ?_)
      try rw [vrf qv8] at D
      refine z_i2l rfl rfl (fun v9 ev9 => ?_)
      refine x_lconst (v := 1) rfl kl_1 ?_
      refine z_lsub rfl rfl jkl_1 (by omega) (fun v10 ev10 => ?_)
      refine x_inst (N := m_X12_in) (As := [.long v7, .long 0, .long v10]) (st := []) (dx9 := 1) (mc := 0) (ms := 0) (host := "") rfl t_X12_in ⟨Or.inl q_12_188, s_X12_in⟩ rfl (by decide) rfl rfl ⟨by decide, by decide⟩ (zc_X12_in rfl jkl_0 rfl (fun v11 ev11 => ?_))
      show jX m_X12_waits 9 0 0 44 [(0, .ref 125), (1, .int a1), (2, .int a2)] [.int v11] _ 0 0 _
      refine x_ifeq (tgt := 56) rfl rfl (ti_eq rfl jk_0 ⟨fun c12 => ?_, fun c12 => ?_⟩)
      ·
        rw [if_neg (by omega)] at D
        refine x_iconst (v := (-1)) rfl ki_m1 ?_
        exact jX.sub jsb_n (ct_X12_waits_r125d_100057 hD hQ  h J Sm D)
      ·
        rw [if_pos (by omega)] at D
        refine x_aloadn (x := 125) rfl rfl ?_
        refine z_getR (N := 92) (b := 140) 12 30 rfl f_12_75 rfl J rfl 16030 ⟨rfl, rfl⟩ rfl ?_
        refine x_iloadn (x := a2) rfl rfl ?_
        refine z_iald (N := 200) rfl J rfl sg_140_0_200_1_0_1 rfl (by omega) (fun v13 qv13 ev13 => ?_)
        try rw [vrd qv13 (show a2.toInt = a2.toInt from by omega)] at D
        refine x_goto (tgt := 57) rfl rfl ?_
        exact jX.sub jsb_n (ct_X12_waits_r125d_57 hD hQ  v13 h (jr_of rfl (by omega)) J Sm D)
    ·
      rw [if_pos (by omega)] at D
      refine x_aloadn (x := 125) rfl rfl ?_
      refine z_getI (N := 92) 12 31 rfl f_12_380 rfl J rfl sg_125_31_32_1_0_1 (fun v14 qv14 ev14 => ?_)
      try rw [vrf qv14] at D
      refine x_goto (tgt := 57) rfl rfl ?_
      exact jX.sub jsb_n (ct_X12_waits_r125d_57 hD hQ  v14 h (jr_of rfl (by omega)) J Sm D)
  ·
    rw [if_neg (by omega)] at D
    refine x_iconst (v := (-1)) rfl ki_m1 ?_
    refine x_iret rfl rfl ?_
    exact hQ _ _ (jr_of jk_m1 (by omega)) J Sm ((congrArg Prod.fst D).symm.trans (show (-1) = ((-1) : Int32).toInt from by have := jk_m1; omega)) (congrArg Prod.snd D).symm
def fp_X12_wish_r125d : jFp := [(125, 0, 1), (125, 1, 2), (125, 36, 37), (141, 0, 9)]
set_option maxRecDepth 100000 in
set_option maxHeartbeats 4000000 in
theorem ct_X12_wish_r125d_22 {Dy : jH → Prop} {h0 : jH} {Q : Option Value → jH → Prop} {dr : (Int × jW)} (hD : jDk Dy) (hQ : ∀ (v : Int32) hx9, jJ jSgM Dy hx9 → jSm fp_X12_wish_r125d h0 hx9 → dr.1 = v.toInt → dr.2 = vw hx9 → Q (some (.int v)) hx9) : ∀ r : Nat, ∀ (l1 : Int32) (l2 : Int32) (h : jH), 9 - l2.toInt < (r : Int) → 0 ≤ l1.toInt ∧ l1.toInt ≤ 599 → 0 ≤ l2.toInt ∧ l2.toInt ≤ 9 → jJ jSgM Dy h → jSm fp_X12_wish_r125d h0 h → d_X12_wish_r125d_22 r l1.toInt l2.toInt (vw h) = dr → jX m_X12_wish 4 0 0 22 [(0, .ref 125), (1, .int l1), (2, .int l2)] [] h 0 0 Q := by
  intro r
  induction r with
  | zero =>
    intro l1 l2 h hm y0 y1   J Sm D
    exfalso
    omega
  | succ r ih =>
    intro l1 l2 h hm y0 y1   J Sm D
    rw [d_X12_wish_r125d_22.eq_2] at D
    refine x_iloadn (x := l2) rfl rfl ?_
    refine x_aloadn (x := 125) rfl rfl ?_
    refine z_getI (N := 92) 12 36 rfl f_12_204 rfl J rfl sg_125_36_37_1_0_1 (fun v1 qv1 ev1 => ?_)
    try rw [vrf qv1] at D
    refine x_icge (tgt := 53) rfl rfl (ti_ge rfl rfl ⟨fun c2 => ?_, fun c2 => ?_⟩)
    ·
      rw [if_pos (by omega)] at D
      refine x_aloadn (x := 125) rfl rfl ?_
      refine z_getM (N := 92) (v := v1) 12 36 rfl f_12_204 rfl J rfl qv1 ?_
      refine x_bipush (v := 9) rfl kb_9 ?_
      refine x_icne (tgt := 69) rfl rfl (ti_ne rfl jk_9 ⟨fun c3 => ?_, fun c3 => ?_⟩)
      ·
        rw [if_neg (by omega)] at D
        refine x_aloadn (x := 125) rfl rfl ?_
        refine z_getR (N := 92) (b := 141) 12 37 rfl f_12_78 rfl J rfl 16037 ⟨rfl, rfl⟩ rfl ?_
        refine x_aloadn (x := 125) rfl rfl ?_
        refine z_getM (N := 92) (v := v1) 12 36 rfl f_12_204 rfl J rfl qv1 ?_
        refine x_iloadn (x := l1) rfl rfl ?_
        refine z_iast (N := 9) (l := 0) (u := 9) (w := l1.toInt) rfl hD J Sm rfl rfl rfl (by omega) rfl (wr_141 (fun q1 q2 q3 q4 => by omega)) rfl (fun h w4 J Sm => ?_)
        rw [vww w4 (show v1.toInt = v1.toInt from by omega) (show l1.toInt = l1.toInt from by omega)] at D
        refine x_aloadn (x := 125) rfl rfl ?_
        refine x_dup rfl rfl ?_
        refine z_getM (N := 92) (v := v1) 12 36 rfl f_12_204 rfl J rfl (jmo w4 rfl qv1) ?_
        refine x_iconst (v := 1) rfl ki_1 ?_
        refine z_iadd rfl rfl jk_1 (by omega) (fun v5 ev5 => ?_)
        refine z_putI (N := 92) (w := v5.toInt) 12 36 rfl f_12_204 rfl (jfin_no TX12 RX12 92 rfl rfl) hD J Sm rfl rfl rfl (pw_125_36 (by omega)) rfl (fun h w6 J Sm => ?_)
        rw [vwf w6 (show (v1.toInt + 1) = v5.toInt from by omega)] at D
        refine x_aloadn (x := 125) rfl rfl ?_
        refine x_aloadn (x := 125) rfl rfl ?_
        refine z_getM (N := 92) (v := v5) 12 36 rfl f_12_204 rfl J rfl (jmw w6) ?_
        try rw [show (v1.toInt + 1) = v5.toInt from by omega] at D
        refine x_inv (N := m_X12_told) (As := [.int v5]) (b := 125) (st := []) (dx9 := 1) (mc := 0) (ms := 0) (host := "") 12 rfl t_X12_told ⟨Or.inl q_12_197, i_X12_told.1, i_X12_told.2⟩ ⟨by decide, rfl⟩ (congrArg Prod.fst (J.1.1 125 (12, 92) rfl)) rfl (by decide) rfl rfl ⟨by decide, by decide⟩ (sf_X12_told_r125d  hD J rfl  (fun v10 h J S7 X8 X9 => ?_))
        have ev10 := jfull v10
        have Sm := jSm_tr rfl Sm S7
        try rw [X8] at D
        try rw [X9] at D
        show jX m_X12_wish 4 0 0 97 [(0, .ref 125), (1, .int l1), (2, .int l2)] [.int v10] _ 0 0 _
        refine x_iret rfl rfl ?_
        exact hQ _ _ J Sm ((congrArg Prod.fst D).symm.trans X8) ((congrArg Prod.snd D).symm.trans X9)
      ·
        rw [if_pos (by omega)] at D
        refine x_aloadn (x := 125) rfl rfl ?_
        refine x_bipush (v := (-5)) rfl kb_m5 ?_
        refine x_inv (N := m_X12_told) (As := [.int (-5)]) (b := 125) (st := []) (dx9 := 1) (mc := 0) (ms := 0) (host := "") 12 rfl t_X12_told ⟨Or.inl q_12_197, i_X12_told.1, i_X12_told.2⟩ ⟨by decide, rfl⟩ (congrArg Prod.fst (J.1.1 125 (12, 92) rfl)) rfl (by decide) rfl rfl ⟨by decide, by decide⟩ (sf_X12_told_r125d  hD J rfl  (fun v14 h J S11 X12 X13 => ?_))
        have ev14 := jfull v14
        have Sm := jSm_tr rfl Sm S11
        try rw [jk_m5] at X12
        try rw [jk_m5] at X13
        try rw [X12] at D
        try rw [X13] at D
        show jX m_X12_wish 4 0 0 68 [(0, .ref 125), (1, .int l1), (2, .int l2)] [.int v14] _ 0 0 _
        refine x_iret rfl rfl ?_
        exact hQ _ _ J Sm ((congrArg Prod.fst D).symm.trans X12) ((congrArg Prod.snd D).symm.trans X13)
    ·
      rw [if_neg (by omega)] at D
      refine x_aloadn (x := 125) rfl rfl ?_
      refine z_getR (N := 92) (b := 141) 12 37 rfl f_12_78 rfl J rfl 16037 ⟨rfl, rfl⟩ rfl ?_
      refine x_iloadn (x := l2) rfl rfl ?_
      refine z_iald (N := 9) rfl J rfl sg_141_0_9_1_0_1 rfl (by omega) (fun v15 qv15 ev15 => ?_)
      try rw [vrd qv15 (show l2.toInt = l2.toInt from by omega)] at D
      refine x_iloadn (x := l1) rfl rfl ?_
      refine x_icne (tgt := 47) rfl rfl (ti_ne rfl rfl ⟨fun c16 => ?_, fun c16 => ?_⟩)
      ·
        rw [if_neg (by omega)] at D
        refine z_iinc (x := l2) (lsx9 := fun v17 => [(2, .int v17), (0, .ref 125), (1, .int l1)]) rfl rfl rfl jko_1 (by omega) rfl (fun _ => rfl) (fun v17 ev17 => ?_)
        refine x_goto (tgt := 22) rfl rfl ?_
        try rw [show (l2.toInt + 1) = v17.toInt from by omega] at D
        exact jX.sub (jsb_c rfl (jsb_c rfl (jsb_c rfl jsb_n))) (ih l1 v17 h (by omega) (jr_of rfl (by omega)) (jr_of rfl (by omega)) J Sm D)
      ·
        rw [if_pos (by omega)] at D
        refine x_aloadn (x := 125) rfl rfl ?_
        refine x_bipush (v := (-4)) rfl kb_m4 ?_
        refine x_inv (N := m_X12_told) (As := [.int (-4)]) (b := 125) (st := []) (dx9 := 1) (mc := 0) (ms := 0) (host := "") 12 rfl t_X12_told ⟨Or.inl q_12_197, i_X12_told.1, i_X12_told.2⟩ ⟨by decide, rfl⟩ (congrArg Prod.fst (J.1.1 125 (12, 92) rfl)) rfl (by decide) rfl rfl ⟨by decide, by decide⟩ (sf_X12_told_r125d  hD J rfl  (fun v21 h J S18 X19 X20 => ?_))
        have ev21 := jfull v21
        have Sm := jSm_tr rfl Sm S18
        try rw [jk_m4] at X19
        try rw [jk_m4] at X20
        try rw [X19] at D
        try rw [X20] at D
        show jX m_X12_wish 4 0 0 46 [(0, .ref 125), (1, .int l1), (2, .int l2)] [.int v21] _ 0 0 _
        refine x_iret rfl rfl ?_
        exact hQ _ _ J Sm ((congrArg Prod.fst D).symm.trans X19) ((congrArg Prod.snd D).symm.trans X20)
set_option maxRecDepth 100000 in
set_option maxHeartbeats 4000000 in
theorem sf_X12_wish_r125d {Dy : jH → Prop} {h : jH} {Q : Option Value → jH → Prop} {dr : (Int × jW)} {a1 : Int32} (hD : jDk Dy) (J : jJ jSgM Dy h) (D : d_X12_wish_r125d a1.toInt (vw h) = dr) (hQ : ∀ (v : Int32) hx9, jJ jSgM Dy hx9 → jSm fp_X12_wish_r125d h hx9 → dr.1 = v.toInt → dr.2 = vw hx9 → Q (some (.int v)) hx9) : jC m_X12_wish 4 0 0 [.ref 125, .int a1] h Q := by
  refine jC.of rfl k_X12_wish rfl ?_
  have Sm := jSm_rf fp_X12_wish_r125d h
  have ea1 := jfull a1
  show jX m_X12_wish 4 0 0 0 [(0, .ref 125), (1, .int a1)] [] _ 0 0 _
  unfold d_X12_wish_r125d at D
  refine x_aloadn (x := 125) rfl rfl ?_
  refine x_iconst (v := 0) rfl ki_0 ?_
  refine z_putI (N := 92) (w := 0) 12 0 rfl f_12_180 rfl (jfin_no TX12 RX12 92 rfl rfl) hD J Sm rfl rfl jk_0 (pw_125_0 (by omega)) rfl (fun h w1 J Sm => ?_)
  rw [vwf w1 (show 0 = (0 : Int32).toInt from by have := jk_0; omega)] at D
  refine x_aloadn (x := 125) rfl rfl ?_
  refine x_iloadn (x := a1) rfl rfl ?_
  refine x_inv (N := m_X12_isMention) (As := [.int a1]) (b := 125) (st := []) (dx9 := 3) (mc := 0) (ms := 0) (host := "") 12 rfl t_X12_isMention ⟨Or.inl q_12_322, i_X12_isMention.1, i_X12_isMention.2⟩ ⟨by decide, rfl⟩ (congrArg Prod.fst (J.1.1 125 (12, 92) rfl)) rfl (by decide) rfl rfl ⟨by decide, by decide⟩ (jC.of rfl k_X12_isMention rfl ?_)
  show jX m_X12_isMention 3 0 0 0 [(0, .ref 125), (1, .int a1)] [] _ 0 0 _
  refine x_iloadn (x := a1) rfl rfl ?_
  refine x_iflt (tgt := 34) rfl rfl (ti_lt rfl jk_0 ⟨fun c2 => ?_, fun c2 => ?_⟩)
  ·
    rw [if_pos (by omega)] at D
    refine x_iconst (v := 0) rfl ki_0 ?_
    refine x_zret rfl rfl (by decide) ?_
    show jX m_X12_wish 4 0 0 10 [(0, .ref 125), (1, .int a1)] [.int 0] _ 0 0 _
    refine x_ifne (tgt := 20) rfl rfl (ti_ne jk_0 jk_0 (bn_f (by omega) ?_))
    refine x_aloadn (x := 125) rfl rfl ?_
    refine x_bipush (v := (-2)) rfl kb_m2 ?_
    refine x_inv (N := m_X12_told) (As := [.int (-2)]) (b := 125) (st := []) (dx9 := 1) (mc := 0) (ms := 0) (host := "") 12 rfl t_X12_told ⟨Or.inl q_12_197, i_X12_told.1, i_X12_told.2⟩ ⟨by decide, rfl⟩ (congrArg Prod.fst (J.1.1 125 (12, 92) rfl)) rfl (by decide) rfl rfl ⟨by decide, by decide⟩ (sf_X12_told_r125d  hD J rfl  (fun v6 h J S3 X4 X5 => ?_))
    have ev6 := jfull v6
    have Sm := jSm_tr rfl Sm S3
    try rw [jk_m2] at X4
    try rw [jk_m2] at X5
    try rw [X4] at D
    try rw [X5] at D
    show jX m_X12_wish 4 0 0 19 [(0, .ref 125), (1, .int a1)] [.int v6] _ 0 0 _
    refine x_iret rfl rfl ?_
    exact hQ _ _ J Sm ((congrArg Prod.fst D).symm.trans X4) ((congrArg Prod.snd D).symm.trans X5)
  ·
    rw [if_neg (by omega)] at D
    refine x_aloadn (x := 125) rfl rfl ?_
    refine x_iloadn (x := a1) rfl rfl ?_
    refine x_iconst (v := 3) rfl ki_3 ?_
    refine z_idiv rfl rfl jk_3 (by omega) (by omega) (fun v7 ev7 => ?_)
    refine x_inv (N := m_X12_isLine) (As := [.int v7]) (b := 125) (st := []) (dx9 := 2) (mc := 0) (ms := 0) (host := "") 12 rfl t_X12_isLine ⟨Or.inl q_12_293, i_X12_isLine.1, i_X12_isLine.2⟩ ⟨by decide, rfl⟩ (congrArg Prod.fst (J.1.1 125 (12, 92) rfl)) rfl (by decide) rfl rfl ⟨by decide, by decide⟩ (jC.of rfl k_X12_isLine rfl ?_)
    show jX m_X12_isLine 2 0 0 0 [(0, .ref 125), (1, .int v7)] [] _ 0 0 _
    refine x_iloadn (x := v7) rfl rfl ?_
    refine z_i2l rfl rfl (fun v8 ev8 => ?_)
    refine x_lconst (v := 0) rfl kl_0 ?_
    refine x_aloadn (x := 125) rfl rfl ?_
    refine z_getR (N := 92) (b := 126) 12 2 rfl f_12_8 rfl J rfl 16002 ⟨rfl, rfl⟩ rfl ?_
    refine x_iconst (v := 0) rfl ki_0 ?_
    refine z_iald (N := 50660) rfl J rfl sg_126_0_1_1_0_1 jk_0 (by omega) (fun v9 qv9 ev9 => ?_)
    try rw [vrn (n := 0) (by decide) (jmb_w w1 qv9 rfl)] at D
    refine z_i2l rfl rfl (fun v10 ev10 => ?_)
    refine x_lconst (v := 1) rfl kl_1 ?_
    refine z_lsub rfl rfl jkl_1 (by omega) (fun v11 ev11 => ?_)
    refine x_inst (N := m_X12_in) (As := [.long v8, .long 0, .long v11]) (st := []) (dx9 := 1) (mc := 0) (ms := 0) (host := "") rfl t_X12_in ⟨Or.inl q_12_188, s_X12_in⟩ rfl (by decide) rfl rfl ⟨by decide, by decide⟩ (zc_X12_in rfl jkl_0 rfl (fun v12 ev12 => ?_))
    show jX m_X12_isLine 2 0 0 15 [(0, .ref 125), (1, .int v7)] [.int v12] _ 0 0 _
    refine x_zret rfl rfl (jz01 (by omega)) ?_
    show jX m_X12_isMention 3 0 0 11 [(0, .ref 125), (1, .int a1)] [.int v12] _ 0 0 _
    refine x_ifeq (tgt := 34) rfl rfl (ti_eq rfl jk_0 ⟨fun c13 => ?_, fun c13 => ?_⟩)
    ·
      rw [if_neg (by omega)] at D
      refine x_iconst (v := 0) rfl ki_0 ?_
      refine x_zret rfl rfl (by decide) ?_
      show jX m_X12_wish 4 0 0 10 [(0, .ref 125), (1, .int a1)] [.int 0] _ 0 0 _
      refine x_ifne (tgt := 20) rfl rfl (ti_ne jk_0 jk_0 (bn_f (by omega) ?_))
      refine x_aloadn (x := 125) rfl rfl ?_
      refine x_bipush (v := (-2)) rfl kb_m2 ?_
      refine x_inv (N := m_X12_told) (As := [.int (-2)]) (b := 125) (st := []) (dx9 := 1) (mc := 0) (ms := 0) (host := "") 12 rfl t_X12_told ⟨Or.inl q_12_197, i_X12_told.1, i_X12_told.2⟩ ⟨by decide, rfl⟩ (congrArg Prod.fst (J.1.1 125 (12, 92) rfl)) rfl (by decide) rfl rfl ⟨by decide, by decide⟩ (sf_X12_told_r125d  hD J rfl  (fun v17 h J S14 X15 X16 => ?_))
      have ev17 := jfull v17
      have Sm := jSm_tr rfl Sm S14
      try rw [jk_m2] at X15
      try rw [jk_m2] at X16
      try rw [X15] at D
      try rw [X16] at D
      show jX m_X12_wish 4 0 0 19 [(0, .ref 125), (1, .int a1)] [.int v17] _ 0 0 _
      refine x_iret rfl rfl ?_
      exact hQ _ _ J Sm ((congrArg Prod.fst D).symm.trans X15) ((congrArg Prod.snd D).symm.trans X16)
    ·
      rw [if_pos (by omega)] at D
      refine x_iloadn (x := a1) rfl rfl ?_
      refine x_iconst (v := 3) rfl ki_3 ?_
      refine z_irem rfl rfl jk_3 (by omega) (by omega) (fun v18 ev18 => ?_)
      refine x_aloadn (x := 125) rfl rfl ?_
      refine x_iloadn (x := a1) rfl rfl ?_
      refine x_iconst (v := 3) rfl ki_3 ?_
      refine z_idiv rfl rfl jk_3 (by omega) (by omega) (fun v19 ev19 => ?_)
      refine x_inv (N := m_X12_bookOf) (As := [.int v19]) (b := 125) (st := [.int v18]) (dx9 := 2) (mc := 0) (ms := 0) (host := "") 12 rfl t_X12_bookOf ⟨Or.inl q_12_299, i_X12_bookOf.1, i_X12_bookOf.2⟩ ⟨by decide, rfl⟩ (congrArg Prod.fst (J.1.1 125 (12, 92) rfl)) rfl (by decide) rfl rfl ⟨by decide, by decide⟩ (jC.of rfl k_X12_bookOf rfl ?_)
      show jX m_X12_bookOf 2 0 0 0 [(0, .ref 125), (1, .int v19)] [] _ 0 0 _
      refine x_aloadn (x := 125) rfl rfl ?_
      refine z_getR (N := 92) (b := 126) 12 2 rfl f_12_8 rfl J rfl 16002 ⟨rfl, rfl⟩ rfl ?_
      refine x_aloadn (x := 125) rfl rfl ?_
      refine x_iloadn (x := v19) rfl rfl ?_
      refine x_inv (N := m_X12_at) (As := [.int v19]) (b := 125) (st := [.ref 126]) (dx9 := 1) (mc := 0) (ms := 0) (host := "") 12 rfl t_X12_at ⟨Or.inl q_12_254, i_X12_at.1, i_X12_at.2⟩ ⟨by decide, rfl⟩ (congrArg Prod.fst (J.1.1 125 (12, 92) rfl)) rfl (by decide) rfl rfl ⟨by decide, by decide⟩ (jC.of rfl k_X12_at rfl ?_)
      show jX m_X12_at 1 0 0 0 [(0, .ref 125), (1, .int v19)] [] _ 0 0 _
      refine x_bipush (v := 20) rfl kb_20 ?_
      refine x_bipush (v := 90) rfl kb_90 ?_
      refine x_iloadn (x := v19) rfl rfl ?_
      refine z_imul rfl jk_90 rfl (by omega) (fun v20 ev20 => ?_)
      refine z_iadd rfl jk_20 rfl (by omega) (fun v21 ev21 => ?_)
      refine x_iret rfl rfl ?_
      show jX m_X12_bookOf 2 0 0 9 [(0, .ref 125), (1, .int v19)] [.int v21, .ref 126] _ 0 0 _
      refine z_iald (N := 50660) rfl J rfl sg_126_20_18020_90_0_1 rfl (by omega) (fun v22 qv22 ev22 => ?_)
      try rw [vrd (jmb_w w1 qv22 rfl) (show (20 + (90 * (a1.toInt / 3))) = v21.toInt from by omega)] at D
      refine x_iret rfl rfl ?_
      show jX m_X12_isMention 3 0 0 24 [(0, .ref 125), (1, .int a1)] [.int v22, .int v18] _ 0 0 _
      refine x_inst (N := m_X12_rolesOf) (As := [.int v22]) (st := [.int v18]) (dx9 := 2) (mc := 0) (ms := 0) (host := "") rfl t_X12_rolesOf ⟨Or.inl q_12_286, s_X12_rolesOf⟩ rfl (by decide) rfl rfl ⟨by decide, by decide⟩ (jC.of rfl k_X12_rolesOf rfl ?_)
      show jX m_X12_rolesOf 2 0 0 0 [(0, .int v22)] [] _ 0 0 _
      refine x_iloadn (x := v22) rfl rfl ?_
      refine x_ifne (tgt := 8) rfl rfl (ti_ne rfl jk_0 ⟨fun c23 => ?_, fun c23 => ?_⟩)
      ·
        rw [if_neg (by omega)] at D
        refine x_iloadn (x := v22) rfl rfl ?_
        refine x_iconst (v := 1) rfl ki_1 ?_
        refine x_icne (tgt := 17) rfl rfl (ti_ne rfl jk_1 ⟨fun c24 => ?_, fun c24 => ?_⟩)
        ·
          rw [if_neg (by omega)] at D
          refine x_iconst (v := 1) rfl ki_1 ?_
          refine x_iret rfl rfl ?_
          show jX m_X12_isMention 3 0 0 27 [(0, .ref 125), (1, .int a1)] [.int 1, .int v18] _ 0 0 _
          refine x_icge (tgt := 34) rfl rfl (ti_ge rfl jk_1 ⟨fun c25 => ?_, fun c25 => ?_⟩)
          ·
            rw [if_pos (by omega)] at D
            refine x_iconst (v := 0) rfl ki_0 ?_
            refine x_zret rfl rfl (by decide) ?_
            show jX m_X12_wish 4 0 0 10 [(0, .ref 125), (1, .int a1)] [.int 0] _ 0 0 _
            refine x_ifne (tgt := 20) rfl rfl (ti_ne jk_0 jk_0 (bn_f (by omega) ?_))
            refine x_aloadn (x := 125) rfl rfl ?_
            refine x_bipush (v := (-2)) rfl kb_m2 ?_
            refine x_inv (N := m_X12_told) (As := [.int (-2)]) (b := 125) (st := []) (dx9 := 1) (mc := 0) (ms := 0) (host := "") 12 rfl t_X12_told ⟨Or.inl q_12_197, i_X12_told.1, i_X12_told.2⟩ ⟨by decide, rfl⟩ (congrArg Prod.fst (J.1.1 125 (12, 92) rfl)) rfl (by decide) rfl rfl ⟨by decide, by decide⟩ (sf_X12_told_r125d  hD J rfl  (fun v29 h J S26 X27 X28 => ?_))
            have ev29 := jfull v29
            have Sm := jSm_tr rfl Sm S26
            try rw [jk_m2] at X27
            try rw [jk_m2] at X28
            try rw [X27] at D
            try rw [X28] at D
            show jX m_X12_wish 4 0 0 19 [(0, .ref 125), (1, .int a1)] [.int v29] _ 0 0 _
            refine x_iret rfl rfl ?_
            exact hQ _ _ J Sm ((congrArg Prod.fst D).symm.trans X27) ((congrArg Prod.snd D).symm.trans X28)
          ·
            rw [if_neg (by omega)] at D
            refine x_iconst (v := 1) rfl ki_1 ?_
            refine x_goto (tgt := 35) rfl rfl ?_
            refine x_zret rfl rfl (by decide) ?_
            show jX m_X12_wish 4 0 0 10 [(0, .ref 125), (1, .int a1)] [.int 1] _ 0 0 _
            refine x_ifne (tgt := 20) rfl rfl (ti_ne jk_1 jk_0 (bn_t (by omega) ?_))
            refine x_iconst (v := 0) rfl ki_0 ?_
            refine x_istoren (lsx9 := [(2, .int 0), (0, .ref 125), (1, .int a1)]) rfl rfl rfl ?_
            exact jX.sub (jsb_c rfl (jsb_c rfl (jsb_c rfl jsb_n))) (ct_X12_wish_r125d_22 hD hQ  10 a1 0 h (by have := jk_0; omega) (jr_of rfl (by omega)) (jr_of jk_0 (by omega)) J Sm (by rw [jk_0]; exact D))
        ·
          rw [if_pos (by omega)] at D
          refine x_iconst (v := 2) rfl ki_2 ?_
          refine x_goto (tgt := 18) rfl rfl ?_
          refine x_iret rfl rfl ?_
          show jX m_X12_isMention 3 0 0 27 [(0, .ref 125), (1, .int a1)] [.int 2, .int v18] _ 0 0 _
          refine x_icge (tgt := 34) rfl rfl (ti_ge rfl jk_2 ⟨fun c30 => ?_, fun c30 => ?_⟩)
          ·
            rw [if_pos (by omega)] at D
            refine x_iconst (v := 0) rfl ki_0 ?_
            refine x_zret rfl rfl (by decide) ?_
            show jX m_X12_wish 4 0 0 10 [(0, .ref 125), (1, .int a1)] [.int 0] _ 0 0 _
            refine x_ifne (tgt := 20) rfl rfl (ti_ne jk_0 jk_0 (bn_f (by omega) ?_))
            refine x_aloadn (x := 125) rfl rfl ?_
            refine x_bipush (v := (-2)) rfl kb_m2 ?_
            refine x_inv (N := m_X12_told) (As := [.int (-2)]) (b := 125) (st := []) (dx9 := 1) (mc := 0) (ms := 0) (host := "") 12 rfl t_X12_told ⟨Or.inl q_12_197, i_X12_told.1, i_X12_told.2⟩ ⟨by decide, rfl⟩ (congrArg Prod.fst (J.1.1 125 (12, 92) rfl)) rfl (by decide) rfl rfl ⟨by decide, by decide⟩ (sf_X12_told_r125d  hD J rfl  (fun v34 h J S31 X32 X33 => ?_))
            have ev34 := jfull v34
            have Sm := jSm_tr rfl Sm S31
            try rw [jk_m2] at X32
            try rw [jk_m2] at X33
            try rw [X32] at D
            try rw [X33] at D
            show jX m_X12_wish 4 0 0 19 [(0, .ref 125), (1, .int a1)] [.int v34] _ 0 0 _
            refine x_iret rfl rfl ?_
            exact hQ _ _ J Sm ((congrArg Prod.fst D).symm.trans X32) ((congrArg Prod.snd D).symm.trans X33)
          ·
            rw [if_neg (by omega)] at D
            refine x_iconst (v := 1) rfl ki_1 ?_
            refine x_goto (tgt := 35) rfl rfl ?_
            refine x_zret rfl rfl (by decide) ?_
            show jX m_X12_wish 4 0 0 10 [(0, .ref 125), (1, .int a1)] [.int 1] _ 0 0 _
            refine x_ifne (tgt := 20) rfl rfl (ti_ne jk_1 jk_0 (bn_t (by omega) ?_))
            refine x_iconst (v := 0) rfl ki_0 ?_
            refine x_istoren (lsx9 := [(2, .int 0), (0, .ref 125), (1, .int a1)]) rfl rfl rfl ?_
            exact jX.sub (jsb_c rfl (jsb_c rfl (jsb_c rfl jsb_n))) (ct_X12_wish_r125d_22 hD hQ  10 a1 0 h (by have := jk_0; omega) (jr_of rfl (by omega)) (jr_of jk_0 (by omega)) J Sm (by rw [jk_0]; exact D))
      ·
        rw [if_pos (by omega)] at D
        refine x_iconst (v := 3) rfl ki_3 ?_
        refine x_goto (tgt := 18) rfl rfl ?_
        refine x_iret rfl rfl ?_
        show jX m_X12_isMention 3 0 0 27 [(0, .ref 125), (1, .int a1)] [.int 3, .int v18] _ 0 0 _
        refine x_icge (tgt := 34) rfl rfl (ti_ge rfl jk_3 (br_f (by omega) ?_))
        refine x_iconst (v := 1) rfl ki_1 ?_
        refine x_goto (tgt := 35) rfl rfl ?_
        refine x_zret rfl rfl (by decide) ?_
        show jX m_X12_wish 4 0 0 10 [(0, .ref 125), (1, .int a1)] [.int 1] _ 0 0 _
        refine x_ifne (tgt := 20) rfl rfl (ti_ne jk_1 jk_0 (bn_t (by omega) ?_))
        refine x_iconst (v := 0) rfl ki_0 ?_
        refine x_istoren (lsx9 := [(2, .int 0), (0, .ref 125), (1, .int a1)]) rfl rfl rfl ?_
        exact jX.sub (jsb_c rfl (jsb_c rfl (jsb_c rfl jsb_n))) (ct_X12_wish_r125d_22 hD hQ  10 a1 0 h (by have := jk_0; omega) (jr_of rfl (by omega)) (jr_of jk_0 (by omega)) J Sm (by rw [jk_0]; exact D))
def fp_X12_worth_r125d : jFp := [(125, 0, 1), (137, 0, 80), (138, 0, 2)]
set_option maxRecDepth 100000 in
set_option maxHeartbeats 4000000 in
theorem ct_X12_worth_r125d_100040 {Dy : jH → Prop} {h0 : jH} {Q : Option Value → jH → Prop} {dr : (Int × jW)} (hD : jDk Dy) (hQ : ∀ (v : Int32) hx9, (-1) ≤ v.toInt ∧ v.toInt ≤ 400 → jJ jSgM Dy hx9 → jSm fp_X12_worth_r125d h0 hx9 → dr.1 = v.toInt → dr.2 = vw hx9 → Q (some (.int v)) hx9) : ∀ (h : jH), jJ jSgM Dy h → jSm fp_X12_worth_r125d h0 h → d_X12_worth_r125d_100040  (vw h) = dr → jX m_X12_worth 9 0 0 40 [] [.int (-1)] h 0 0 Q := by
  intro  h    J Sm D
  unfold d_X12_worth_r125d_100040 at D
  refine x_iret rfl rfl ?_
  exact hQ _ _ (jr_of jk_m1 (by omega)) J Sm ((congrArg Prod.fst D).symm.trans (show (-1) = ((-1) : Int32).toInt from by have := jk_m1; omega)) (congrArg Prod.snd D).symm
set_option maxRecDepth 100000 in
set_option maxHeartbeats 4000000 in
theorem ct_X12_worth_r125d_40 {Dy : jH → Prop} {h0 : jH} {Q : Option Value → jH → Prop} {dr : (Int × jW)} (hD : jDk Dy) (hQ : ∀ (v : Int32) hx9, (-1) ≤ v.toInt ∧ v.toInt ≤ 400 → jJ jSgM Dy hx9 → jSm fp_X12_worth_r125d h0 hx9 → dr.1 = v.toInt → dr.2 = vw hx9 → Q (some (.int v)) hx9) : ∀ (s0 : Int32) (h : jH), 0 ≤ s0.toInt ∧ s0.toInt ≤ 400 → jJ jSgM Dy h → jSm fp_X12_worth_r125d h0 h → d_X12_worth_r125d_40  s0.toInt (vw h) = dr → jX m_X12_worth 9 0 0 40 [] [.int s0] h 0 0 Q := by
  intro s0 h y0   J Sm D
  unfold d_X12_worth_r125d_40 at D
  refine x_iret rfl rfl ?_
  exact hQ _ _ (jr_of rfl (by omega)) J Sm ((congrArg Prod.fst D).symm.trans (show s0.toInt = s0.toInt from by omega)) (congrArg Prod.snd D).symm
set_option maxRecDepth 100000 in
set_option maxHeartbeats 4000000 in
theorem ct_X12_worth_r125d_39 {Dy : jH → Prop} {h0 : jH} {Q : Option Value → jH → Prop} {dr : (Int × jW)} (hD : jDk Dy) (hQ : ∀ (v : Int32) hx9, (-1) ≤ v.toInt ∧ v.toInt ≤ 400 → jJ jSgM Dy hx9 → jSm fp_X12_worth_r125d h0 hx9 → dr.1 = v.toInt → dr.2 = vw hx9 → Q (some (.int v)) hx9) : ∀ (h : jH), jJ jSgM Dy h → jSm fp_X12_worth_r125d h0 h → d_X12_worth_r125d_39  (vw h) = dr → jX m_X12_worth 9 0 0 39 [] [] h 0 0 Q := by
  intro  h    J Sm D
  unfold d_X12_worth_r125d_39 at D
  refine x_iconst (v := (-1)) rfl ki_m1 ?_
  exact jX.sub jsb_n (ct_X12_worth_r125d_100040 hD hQ  h J Sm D)
set_option maxRecDepth 100000 in
set_option maxHeartbeats 4000000 in
theorem sf_X12_worth_r125d {Dy : jH → Prop} {h : jH} {Q : Option Value → jH → Prop} {dr : (Int × jW)} {a1 : Int32} {a2 : Int32} (hD : jDk Dy) (J : jJ jSgM Dy h) (D : d_X12_worth_r125d a1.toInt a2.toInt (vw h) = dr) (hQ : ∀ (v : Int32) hx9, (-1) ≤ v.toInt ∧ v.toInt ≤ 400 → jJ jSgM Dy hx9 → jSm fp_X12_worth_r125d h hx9 → dr.1 = v.toInt → dr.2 = vw hx9 → Q (some (.int v)) hx9) : jC m_X12_worth 9 0 0 [.ref 125, .int a1, .int a2] h Q := by
  refine jC.of rfl k_X12_worth rfl ?_
  have Sm := jSm_rf fp_X12_worth_r125d h
  have ea1 := jfull a1
  have ea2 := jfull a2
  show jX m_X12_worth 9 0 0 0 [(0, .ref 125), (1, .int a1), (2, .int a2)] [] _ 0 0 _
  unfold d_X12_worth_r125d at D
  refine x_aloadn (x := 125) rfl rfl ?_
  refine x_iconst (v := 0) rfl ki_0 ?_
  refine z_putI (N := 92) (w := 0) 12 0 rfl f_12_180 rfl (jfin_no TX12 RX12 92 rfl rfl) hD J Sm rfl rfl jk_0 (pw_125_0 (by omega)) rfl (fun h w1 J Sm => ?_)
  rw [vwf w1 (show 0 = (0 : Int32).toInt from by have := jk_0; omega)] at D
  refine x_aloadn (x := 125) rfl rfl ?_
  refine x_iloadn (x := a1) rfl rfl ?_
  refine x_inv (N := m_X12_isMention) (As := [.int a1]) (b := 125) (st := []) (dx9 := 8) (mc := 0) (ms := 0) (host := "") 12 rfl t_X12_isMention ⟨Or.inl q_12_322, i_X12_isMention.1, i_X12_isMention.2⟩ ⟨by decide, rfl⟩ (congrArg Prod.fst (J.1.1 125 (12, 92) rfl)) rfl (by decide) rfl rfl ⟨by decide, by decide⟩ (jC.of rfl k_X12_isMention rfl ?_)
  show jX m_X12_isMention 8 0 0 0 [(0, .ref 125), (1, .int a1)] [] _ 0 0 _
  refine x_iloadn (x := a1) rfl rfl ?_
  refine x_iflt (tgt := 34) rfl rfl (ti_lt rfl jk_0 ⟨fun c2 => ?_, fun c2 => ?_⟩)
  ·
    rw [if_pos (by omega)] at D
    refine x_iconst (v := 0) rfl ki_0 ?_
    refine x_zret rfl rfl (by decide) ?_
    show jX m_X12_worth 9 0 0 10 [(0, .ref 125), (1, .int a1), (2, .int a2)] [.int 0] _ 0 0 _
    refine x_ifeq (tgt := 39) rfl rfl (ti_eq jk_0 jk_0 (br_t (by omega) ?_))
    exact jX.sub jsb_n (ct_X12_worth_r125d_39 hD hQ  h J Sm D)
  ·
    rw [if_neg (by omega)] at D
    refine x_aloadn (x := 125) rfl rfl ?_
    refine x_iloadn (x := a1) rfl rfl ?_
    refine x_iconst (v := 3) rfl ki_3 ?_
    refine z_idiv rfl rfl jk_3 (by omega) (by omega) (fun v3 ev3 => ?_)
    refine x_inv (N := m_X12_isLine) (As := [.int v3]) (b := 125) (st := []) (dx9 := 7) (mc := 0) (ms := 0) (host := "") 12 rfl t_X12_isLine ⟨Or.inl q_12_293, i_X12_isLine.1, i_X12_isLine.2⟩ ⟨by decide, rfl⟩ (congrArg Prod.fst (J.1.1 125 (12, 92) rfl)) rfl (by decide) rfl rfl ⟨by decide, by decide⟩ (jC.of rfl k_X12_isLine rfl ?_)
    show jX m_X12_isLine 7 0 0 0 [(0, .ref 125), (1, .int v3)] [] _ 0 0 _
    refine x_iloadn (x := v3) rfl rfl ?_
    refine z_i2l rfl rfl (fun v4 ev4 => ?_)
    refine x_lconst (v := 0) rfl kl_0 ?_
    refine x_aloadn (x := 125) rfl rfl ?_
    refine z_getR (N := 92) (b := 126) 12 2 rfl f_12_8 rfl J rfl 16002 ⟨rfl, rfl⟩ rfl ?_
    refine x_iconst (v := 0) rfl ki_0 ?_
    refine z_iald (N := 50660) rfl J rfl sg_126_0_1_1_0_1 jk_0 (by omega) (fun v5 qv5 ev5 => ?_)
    try rw [vrn (n := 0) (by decide) (jmb_w w1 qv5 rfl)] at D
    refine z_i2l rfl rfl (fun v6 ev6 => ?_)
    refine x_lconst (v := 1) rfl kl_1 ?_
    refine z_lsub rfl rfl jkl_1 (by omega) (fun v7 ev7 => ?_)
    refine x_inst (N := m_X12_in) (As := [.long v4, .long 0, .long v7]) (st := []) (dx9 := 1) (mc := 0) (ms := 0) (host := "") rfl t_X12_in ⟨Or.inl q_12_188, s_X12_in⟩ rfl (by decide) rfl rfl ⟨by decide, by decide⟩ (zc_X12_in rfl jkl_0 rfl (fun v8 ev8 => ?_))
    show jX m_X12_isLine 7 0 0 15 [(0, .ref 125), (1, .int v3)] [.int v8] _ 0 0 _
    refine x_zret rfl rfl (jz01 (by omega)) ?_
    show jX m_X12_isMention 8 0 0 11 [(0, .ref 125), (1, .int a1)] [.int v8] _ 0 0 _
    refine x_ifeq (tgt := 34) rfl rfl (ti_eq rfl jk_0 ⟨fun c9 => ?_, fun c9 => ?_⟩)
    ·
      rw [if_neg (by omega)] at D
      refine x_iconst (v := 0) rfl ki_0 ?_
      refine x_zret rfl rfl (by decide) ?_
      show jX m_X12_worth 9 0 0 10 [(0, .ref 125), (1, .int a1), (2, .int a2)] [.int 0] _ 0 0 _
      refine x_ifeq (tgt := 39) rfl rfl (ti_eq jk_0 jk_0 (br_t (by omega) ?_))
      exact jX.sub jsb_n (ct_X12_worth_r125d_39 hD hQ  h J Sm D)
    ·
      rw [if_pos (by omega)] at D
      refine x_iloadn (x := a1) rfl rfl ?_
      refine x_iconst (v := 3) rfl ki_3 ?_
      refine z_irem rfl rfl jk_3 (by omega) (by omega) (fun v10 ev10 => ?_)
      refine x_aloadn (x := 125) rfl rfl ?_
      refine x_iloadn (x := a1) rfl rfl ?_
      refine x_iconst (v := 3) rfl ki_3 ?_
      refine z_idiv rfl rfl jk_3 (by omega) (by omega) (fun v11 ev11 => ?_)
      refine x_inv (N := m_X12_bookOf) (As := [.int v11]) (b := 125) (st := [.int v10]) (dx9 := 7) (mc := 0) (ms := 0) (host := "") 12 rfl t_X12_bookOf ⟨Or.inl q_12_299, i_X12_bookOf.1, i_X12_bookOf.2⟩ ⟨by decide, rfl⟩ (congrArg Prod.fst (J.1.1 125 (12, 92) rfl)) rfl (by decide) rfl rfl ⟨by decide, by decide⟩ (jC.of rfl k_X12_bookOf rfl ?_)
      show jX m_X12_bookOf 7 0 0 0 [(0, .ref 125), (1, .int v11)] [] _ 0 0 _
      refine x_aloadn (x := 125) rfl rfl ?_
      refine z_getR (N := 92) (b := 126) 12 2 rfl f_12_8 rfl J rfl 16002 ⟨rfl, rfl⟩ rfl ?_
      refine x_aloadn (x := 125) rfl rfl ?_
      refine x_iloadn (x := v11) rfl rfl ?_
      refine x_inv (N := m_X12_at) (As := [.int v11]) (b := 125) (st := [.ref 126]) (dx9 := 6) (mc := 0) (ms := 0) (host := "") 12 rfl t_X12_at ⟨Or.inl q_12_254, i_X12_at.1, i_X12_at.2⟩ ⟨by decide, rfl⟩ (congrArg Prod.fst (J.1.1 125 (12, 92) rfl)) rfl (by decide) rfl rfl ⟨by decide, by decide⟩ (jC.of rfl k_X12_at rfl ?_)
      show jX m_X12_at 6 0 0 0 [(0, .ref 125), (1, .int v11)] [] _ 0 0 _
      refine x_bipush (v := 20) rfl kb_20 ?_
      refine x_bipush (v := 90) rfl kb_90 ?_
      refine x_iloadn (x := v11) rfl rfl ?_
      refine z_imul rfl jk_90 rfl (by omega) (fun v12 ev12 => ?_)
      refine z_iadd rfl jk_20 rfl (by omega) (fun v13 ev13 => ?_)
      refine x_iret rfl rfl ?_
      show jX m_X12_bookOf 7 0 0 9 [(0, .ref 125), (1, .int v11)] [.int v13, .ref 126] _ 0 0 _
      refine z_iald (N := 50660) rfl J rfl sg_126_20_18020_90_0_1 rfl (by omega) (fun v14 qv14 ev14 => ?_)
      try rw [vrd (jmb_w w1 qv14 rfl) (show (20 + (90 * (a1.toInt / 3))) = v13.toInt from by omega)] at D
      refine x_iret rfl rfl ?_
      show jX m_X12_isMention 8 0 0 24 [(0, .ref 125), (1, .int a1)] [.int v14, .int v10] _ 0 0 _
      refine x_inst (N := m_X12_rolesOf) (As := [.int v14]) (st := [.int v10]) (dx9 := 7) (mc := 0) (ms := 0) (host := "") rfl t_X12_rolesOf ⟨Or.inl q_12_286, s_X12_rolesOf⟩ rfl (by decide) rfl rfl ⟨by decide, by decide⟩ (jC.of rfl k_X12_rolesOf rfl ?_)
      show jX m_X12_rolesOf 7 0 0 0 [(0, .int v14)] [] _ 0 0 _
      refine x_iloadn (x := v14) rfl rfl ?_
      refine x_ifne (tgt := 8) rfl rfl (ti_ne rfl jk_0 ⟨fun c15 => ?_, fun c15 => ?_⟩)
      ·
        rw [if_neg (by omega)] at D
        refine x_iloadn (x := v14) rfl rfl ?_
        refine x_iconst (v := 1) rfl ki_1 ?_
        refine x_icne (tgt := 17) rfl rfl (ti_ne rfl jk_1 ⟨fun c16 => ?_, fun c16 => ?_⟩)
        ·
          rw [if_neg (by omega)] at D
          refine x_iconst (v := 1) rfl ki_1 ?_
          refine x_iret rfl rfl ?_
          show jX m_X12_isMention 8 0 0 27 [(0, .ref 125), (1, .int a1)] [.int 1, .int v10] _ 0 0 _
          refine x_icge (tgt := 34) rfl rfl (ti_ge rfl jk_1 ⟨fun c17 => ?_, fun c17 => ?_⟩)
          ·
            rw [if_pos (by omega)] at D
            refine x_iconst (v := 0) rfl ki_0 ?_
            refine x_zret rfl rfl (by decide) ?_
            show jX m_X12_worth 9 0 0 10 [(0, .ref 125), (1, .int a1), (2, .int a2)] [.int 0] _ 0 0 _
            refine x_ifeq (tgt := 39) rfl rfl (ti_eq jk_0 jk_0 (br_t (by omega) ?_))
            exact jX.sub jsb_n (ct_X12_worth_r125d_39 hD hQ  h J Sm D)
          ·
            rw [if_neg (by omega)] at D
            refine x_iconst (v := 1) rfl ki_1 ?_
            refine x_goto (tgt := 35) rfl rfl ?_
            refine x_zret rfl rfl (by decide) ?_
            show jX m_X12_worth 9 0 0 10 [(0, .ref 125), (1, .int a1), (2, .int a2)] [.int 1] _ 0 0 _
            refine x_ifeq (tgt := 39) rfl rfl (ti_eq jk_1 jk_0 (br_f (by omega) ?_))
            refine x_aloadn (x := 125) rfl rfl ?_
            refine x_iloadn (x := a2) rfl rfl ?_
            refine x_inv (N := m_X12_isMention) (As := [.int a2]) (b := 125) (st := []) (dx9 := 8) (mc := 0) (ms := 0) (host := "") 12 rfl t_X12_isMention ⟨Or.inl q_12_322, i_X12_isMention.1, i_X12_isMention.2⟩ ⟨by decide, rfl⟩ (congrArg Prod.fst (J.1.1 125 (12, 92) rfl)) rfl (by decide) rfl rfl ⟨by decide, by decide⟩ (jC.of rfl k_X12_isMention rfl ?_)
            show jX m_X12_isMention 8 0 0 0 [(0, .ref 125), (1, .int a2)] [] _ 0 0 _
            refine x_iloadn (x := a2) rfl rfl ?_
            refine x_iflt (tgt := 34) rfl rfl (ti_lt rfl jk_0 ⟨fun c18 => ?_, fun c18 => ?_⟩)
            ·
              rw [if_pos (by omega)] at D
              refine x_iconst (v := 0) rfl ki_0 ?_
              refine x_zret rfl rfl (by decide) ?_
              show jX m_X12_worth 9 0 0 18 [(0, .ref 125), (1, .int a1), (2, .int a2)] [.int 0] _ 0 0 _
              refine x_ifeq (tgt := 39) rfl rfl (ti_eq jk_0 jk_0 (br_t (by omega) ?_))
              exact jX.sub jsb_n (ct_X12_worth_r125d_39 hD hQ  h J Sm D)
            ·
              rw [if_neg (by omega)] at D
              refine x_aloadn (x := 125) rfl rfl ?_
              refine x_iloadn (x := a2) rfl rfl ?_
              refine x_iconst (v := 3) rfl ki_3 ?_
              refine z_idiv rfl rfl jk_3 (by omega) (by omega) (fun v19 ev19 => ?_)
              refine x_inv (N := m_X12_isLine) (As := [.int v19]) (b := 125) (st := []) (dx9 := 7) (mc := 0) (ms := 0) (host := "") 12 rfl t_X12_isLine ⟨Or.inl q_12_293, i_X12_isLine.1, i_X12_isLine.2⟩ ⟨by decide, rfl⟩ (congrArg Prod.fst (J.1.1 125 (12, 92) rfl)) rfl (by decide) rfl rfl ⟨by decide, by decide⟩ (jC.of rfl k_X12_isLine rfl ?_)
              show jX m_X12_isLine 7 0 0 0 [(0, .ref 125), (1, .int v19)] [] _ 0 0 _
              refine x_iloadn (x := v19) rfl rfl ?_
              refine z_i2l rfl rfl (fun v20 ev20 => ?_)
              refine x_lconst (v := 0) rfl kl_0 ?_
              refine x_aloadn (x := 125) rfl rfl ?_
              refine z_getR (N := 92) (b := 126) 12 2 rfl f_12_8 rfl J rfl 16002 ⟨rfl, rfl⟩ rfl ?_
              refine x_iconst (v := 0) rfl ki_0 ?_
              refine z_ialdM (N := 50660) (v := v5) rfl J rfl jk_0 (by omega) qv5 ?_
              refine z_i2l rfl rfl (fun v21 ev21 => ?_)
              refine x_lconst (v := 1) rfl kl_1 ?_
              refine z_lsub rfl rfl jkl_1 (by omega) (fun v22 ev22 => ?_)
              refine x_inst (N := m_X12_in) (As := [.long v20, .long 0, .long v22]) (st := []) (dx9 := 1) (mc := 0) (ms := 0) (host := "") rfl t_X12_in ⟨Or.inl q_12_188, s_X12_in⟩ rfl (by decide) rfl rfl ⟨by decide, by decide⟩ (zc_X12_in rfl jkl_0 rfl (fun v23 ev23 => ?_))
              show jX m_X12_isLine 7 0 0 15 [(0, .ref 125), (1, .int v19)] [.int v23] _ 0 0 _
              refine x_zret rfl rfl (jz01 (by omega)) ?_
              show jX m_X12_isMention 8 0 0 11 [(0, .ref 125), (1, .int a2)] [.int v23] _ 0 0 _
              refine x_ifeq (tgt := 34) rfl rfl (ti_eq rfl jk_0 ⟨fun c24 => ?_, fun c24 => ?_⟩)
              ·
                rw [if_neg (by omega)] at D
                refine x_iconst (v := 0) rfl ki_0 ?_
                refine x_zret rfl rfl (by decide) ?_
                show jX m_X12_worth 9 0 0 18 [(0, .ref 125), (1, .int a1), (2, .int a2)] [.int 0] _ 0 0 _
                refine x_ifeq (tgt := 39) rfl rfl (ti_eq jk_0 jk_0 (br_t (by omega) ?_))
                exact jX.sub jsb_n (ct_X12_worth_r125d_39 hD hQ  h J Sm D)
              ·
                rw [if_pos (by omega)] at D
                refine x_iloadn (x := a2) rfl rfl ?_
                refine x_iconst (v := 3) rfl ki_3 ?_
                refine z_irem rfl rfl jk_3 (by omega) (by omega) (fun v25 ev25 => ?_)
                refine x_aloadn (x := 125) rfl rfl ?_
                refine x_iloadn (x := a2) rfl rfl ?_
                refine x_iconst (v := 3) rfl ki_3 ?_
                refine z_idiv rfl rfl jk_3 (by omega) (by omega) (fun v26 ev26 => ?_)
                refine x_inv (N := m_X12_bookOf) (As := [.int v26]) (b := 125) (st := [.int v25]) (dx9 := 7) (mc := 0) (ms := 0) (host := "") 12 rfl t_X12_bookOf ⟨Or.inl q_12_299, i_X12_bookOf.1, i_X12_bookOf.2⟩ ⟨by decide, rfl⟩ (congrArg Prod.fst (J.1.1 125 (12, 92) rfl)) rfl (by decide) rfl rfl ⟨by decide, by decide⟩ (jC.of rfl k_X12_bookOf rfl ?_)
                show jX m_X12_bookOf 7 0 0 0 [(0, .ref 125), (1, .int v26)] [] _ 0 0 _
                refine x_aloadn (x := 125) rfl rfl ?_
                refine z_getR (N := 92) (b := 126) 12 2 rfl f_12_8 rfl J rfl 16002 ⟨rfl, rfl⟩ rfl ?_
                refine x_aloadn (x := 125) rfl rfl ?_
                refine x_iloadn (x := v26) rfl rfl ?_
                refine x_inv (N := m_X12_at) (As := [.int v26]) (b := 125) (st := [.ref 126]) (dx9 := 6) (mc := 0) (ms := 0) (host := "") 12 rfl t_X12_at ⟨Or.inl q_12_254, i_X12_at.1, i_X12_at.2⟩ ⟨by decide, rfl⟩ (congrArg Prod.fst (J.1.1 125 (12, 92) rfl)) rfl (by decide) rfl rfl ⟨by decide, by decide⟩ (jC.of rfl k_X12_at rfl ?_)
                show jX m_X12_at 6 0 0 0 [(0, .ref 125), (1, .int v26)] [] _ 0 0 _
                refine x_bipush (v := 20) rfl kb_20 ?_
                refine x_bipush (v := 90) rfl kb_90 ?_
                refine x_iloadn (x := v26) rfl rfl ?_
                refine z_imul rfl jk_90 rfl (by omega) (fun v27 ev27 => ?_)
                refine z_iadd rfl jk_20 rfl (by omega) (fun v28 ev28 => ?_)
                refine x_iret rfl rfl ?_
                show jX m_X12_bookOf 7 0 0 9 [(0, .ref 125), (1, .int v26)] [.int v28, .ref 126] _ 0 0 _
                refine z_iald (N := 50660) rfl J rfl sg_126_20_18020_90_0_1 rfl (by omega) (fun v29 qv29 ev29 => ?_)
                try rw [vrd (jmb_w w1 qv29 rfl) (show (20 + (90 * (a2.toInt / 3))) = v28.toInt from by omega)] at D
                refine x_iret rfl rfl ?_
                show jX m_X12_isMention 8 0 0 24 [(0, .ref 125), (1, .int a2)] [.int v29, .int v25] _ 0 0 _
                refine x_inst (N := m_X12_rolesOf) (As := [.int v29]) (st := [.int v25]) (dx9 := 7) (mc := 0) (ms := 0) (host := "") rfl t_X12_rolesOf ⟨Or.inl q_12_286, s_X12_rolesOf⟩ rfl (by decide) rfl rfl ⟨by decide, by decide⟩ (jC.of rfl k_X12_rolesOf rfl ?_)
                show jX m_X12_rolesOf 7 0 0 0 [(0, .int v29)] [] _ 0 0 _
                refine x_iloadn (x := v29) rfl rfl ?_
                refine x_ifne (tgt := 8) rfl rfl (ti_ne rfl jk_0 ⟨fun c30 => ?_, fun c30 => ?_⟩)
                ·
                  rw [if_neg (by omega)] at D
                  refine x_iloadn (x := v29) rfl rfl ?_
                  refine x_iconst (v := 1) rfl ki_1 ?_
                  refine x_icne (tgt := 17) rfl rfl (ti_ne rfl jk_1 ⟨fun c31 => ?_, fun c31 => ?_⟩)
                  ·
                    rw [if_neg (by omega)] at D
                    refine x_iconst (v := 1) rfl ki_1 ?_
                    refine x_iret rfl rfl ?_
                    show jX m_X12_isMention 8 0 0 27 [(0, .ref 125), (1, .int a2)] [.int 1, .int v25] _ 0 0 _
                    refine x_icge (tgt := 34) rfl rfl (ti_ge rfl jk_1 ⟨fun c32 => ?_, fun c32 => ?_⟩)
                    ·
                      rw [if_pos (by omega)] at D
                      refine x_iconst (v := 0) rfl ki_0 ?_
                      refine x_zret rfl rfl (by decide) ?_
                      show jX m_X12_worth 9 0 0 18 [(0, .ref 125), (1, .int a1), (2, .int a2)] [.int 0] _ 0 0 _
                      refine x_ifeq (tgt := 39) rfl rfl (ti_eq jk_0 jk_0 (br_t (by omega) ?_))
                      exact jX.sub jsb_n (ct_X12_worth_r125d_39 hD hQ  h J Sm D)
                    ·
                      rw [if_neg (by omega)] at D
                      refine x_iconst (v := 1) rfl ki_1 ?_
                      refine x_goto (tgt := 35) rfl rfl ?_
                      refine x_zret rfl rfl (by decide) ?_
                      show jX m_X12_worth 9 0 0 18 [(0, .ref 125), (1, .int a1), (2, .int a2)] [.int 1] _ 0 0 _
                      refine x_ifeq (tgt := 39) rfl rfl (ti_eq jk_1 jk_0 (br_f (by omega) ?_))
                      refine x_aloadn (x := 125) rfl rfl ?_
                      refine x_iloadn (x := a1) rfl rfl ?_
                      refine x_iloadn (x := a2) rfl rfl ?_
                      refine x_inv (N := m_X12_why) (As := [.int a1, .int a2]) (b := 125) (st := []) (dx9 := 6) (mc := 0) (ms := 0) (host := "") 12 rfl t_X12_why ⟨Or.inl q_12_368, i_X12_why.1, i_X12_why.2⟩ ⟨by decide, rfl⟩ (congrArg Prod.fst (J.1.1 125 (12, 92) rfl)) rfl (by decide) rfl rfl ⟨by decide, by decide⟩ (sf_X12_why_r125d (jr_of rfl (by omega)) (jr_of rfl (by omega)) hD J rfl  (fun v36 h ev36 J S33 X34 X35 => ?_))
                      have Sm := jSm_tr rfl Sm S33
                      try rw [X34] at D
                      try rw [X35] at D
                      show jX m_X12_worth 9 0 0 27 [(0, .ref 125), (1, .int a1), (2, .int a2)] [.int v36] _ 0 0 _
                      refine x_ifne (tgt := 39) rfl rfl (ti_ne rfl jk_0 ⟨fun c37 => ?_, fun c37 => ?_⟩)
                      ·
                        rw [if_neg (by omega)] at D
                        exact jX.sub jsb_n (ct_X12_worth_r125d_39 hD hQ  h J Sm D)
                      ·
                        rw [if_pos (by omega)] at D
                        refine x_aloadn (x := 125) rfl rfl ?_
                        refine x_iloadn (x := a1) rfl rfl ?_
                        refine x_iloadn (x := a2) rfl rfl ?_
                        refine x_inv (N := m_X12_worthOf) (As := [.int a1, .int a2]) (b := 125) (st := []) (dx9 := 8) (mc := 0) (ms := 0) (host := "") 12 rfl t_X12_worthOf ⟨Or.inl q_12_374, i_X12_worthOf.1, i_X12_worthOf.2⟩ ⟨by decide, rfl⟩ (congrArg Prod.fst (J.1.1 125 (12, 92) rfl)) rfl (by decide) rfl rfl ⟨by decide, by decide⟩ (sf_X12_worthOf_r125d (jr_of rfl (by omega)) (jr_of rfl (by omega)) hD J rfl  (fun v41 h ev41 J S38 X39 X40 => ?_))
                        have Sm := jSm_tr rfl Sm S38
                        try rw [X39] at D
                        try rw [X40] at D
                        show jX m_X12_worth 9 0 0 36 [(0, .ref 125), (1, .int a1), (2, .int a2)] [.int v41] _ 0 0 _
                        refine x_goto (tgt := 40) rfl rfl ?_
                        exact jX.sub jsb_n (ct_X12_worth_r125d_40 hD hQ  v41 h (jr_of rfl (by omega)) J Sm D)
                  ·
                    rw [if_pos (by omega)] at D
                    refine x_iconst (v := 2) rfl ki_2 ?_
                    refine x_goto (tgt := 18) rfl rfl ?_
                    refine x_iret rfl rfl ?_
                    show jX m_X12_isMention 8 0 0 27 [(0, .ref 125), (1, .int a2)] [.int 2, .int v25] _ 0 0 _
                    refine x_icge (tgt := 34) rfl rfl (ti_ge rfl jk_2 ⟨fun c42 => ?_, fun c42 => ?_⟩)
                    ·
                      rw [if_pos (by omega)] at D
                      refine x_iconst (v := 0) rfl ki_0 ?_
                      refine x_zret rfl rfl (by decide) ?_
                      show jX m_X12_worth 9 0 0 18 [(0, .ref 125), (1, .int a1), (2, .int a2)] [.int 0] _ 0 0 _
                      refine x_ifeq (tgt := 39) rfl rfl (ti_eq jk_0 jk_0 (br_t (by omega) ?_))
                      exact jX.sub jsb_n (ct_X12_worth_r125d_39 hD hQ  h J Sm D)
                    ·
                      rw [if_neg (by omega)] at D
                      refine x_iconst (v := 1) rfl ki_1 ?_
                      refine x_goto (tgt := 35) rfl rfl ?_
                      refine x_zret rfl rfl (by decide) ?_
                      show jX m_X12_worth 9 0 0 18 [(0, .ref 125), (1, .int a1), (2, .int a2)] [.int 1] _ 0 0 _
                      refine x_ifeq (tgt := 39) rfl rfl (ti_eq jk_1 jk_0 (br_f (by omega) ?_))
                      refine x_aloadn (x := 125) rfl rfl ?_
                      refine x_iloadn (x := a1) rfl rfl ?_
                      refine x_iloadn (x := a2) rfl rfl ?_
                      refine x_inv (N := m_X12_why) (As := [.int a1, .int a2]) (b := 125) (st := []) (dx9 := 6) (mc := 0) (ms := 0) (host := "") 12 rfl t_X12_why ⟨Or.inl q_12_368, i_X12_why.1, i_X12_why.2⟩ ⟨by decide, rfl⟩ (congrArg Prod.fst (J.1.1 125 (12, 92) rfl)) rfl (by decide) rfl rfl ⟨by decide, by decide⟩ (sf_X12_why_r125d (jr_of rfl (by omega)) (jr_of rfl (by omega)) hD J rfl  (fun v46 h ev46 J S43 X44 X45 => ?_))
                      have Sm := jSm_tr rfl Sm S43
                      try rw [X44] at D
                      try rw [X45] at D
                      show jX m_X12_worth 9 0 0 27 [(0, .ref 125), (1, .int a1), (2, .int a2)] [.int v46] _ 0 0 _
                      refine x_ifne (tgt := 39) rfl rfl (ti_ne rfl jk_0 ⟨fun c47 => ?_, fun c47 => ?_⟩)
                      ·
                        rw [if_neg (by omega)] at D
                        exact jX.sub jsb_n (ct_X12_worth_r125d_39 hD hQ  h J Sm D)
                      ·
                        rw [if_pos (by omega)] at D
                        refine x_aloadn (x := 125) rfl rfl ?_
                        refine x_iloadn (x := a1) rfl rfl ?_
                        refine x_iloadn (x := a2) rfl rfl ?_
                        refine x_inv (N := m_X12_worthOf) (As := [.int a1, .int a2]) (b := 125) (st := []) (dx9 := 8) (mc := 0) (ms := 0) (host := "") 12 rfl t_X12_worthOf ⟨Or.inl q_12_374, i_X12_worthOf.1, i_X12_worthOf.2⟩ ⟨by decide, rfl⟩ (congrArg Prod.fst (J.1.1 125 (12, 92) rfl)) rfl (by decide) rfl rfl ⟨by decide, by decide⟩ (sf_X12_worthOf_r125d (jr_of rfl (by omega)) (jr_of rfl (by omega)) hD J rfl  (fun v51 h ev51 J S48 X49 X50 => ?_))
                        have Sm := jSm_tr rfl Sm S48
                        try rw [X49] at D
                        try rw [X50] at D
                        show jX m_X12_worth 9 0 0 36 [(0, .ref 125), (1, .int a1), (2, .int a2)] [.int v51] _ 0 0 _
                        refine x_goto (tgt := 40) rfl rfl ?_
                        exact jX.sub jsb_n (ct_X12_worth_r125d_40 hD hQ  v51 h (jr_of rfl (by omega)) J Sm D)
                ·
                  rw [if_pos (by omega)] at D
                  refine x_iconst (v := 3) rfl ki_3 ?_
                  refine x_goto (tgt := 18) rfl rfl ?_
                  refine x_iret rfl rfl ?_
                  show jX m_X12_isMention 8 0 0 27 [(0, .ref 125), (1, .int a2)] [.int 3, .int v25] _ 0 0 _
                  refine x_icge (tgt := 34) rfl rfl (ti_ge rfl jk_3 (br_f (by omega) ?_))
                  refine x_iconst (v := 1) rfl ki_1 ?_
                  refine x_goto (tgt := 35) rfl rfl ?_
                  refine x_zret rfl rfl (by decide) ?_
                  show jX m_X12_worth 9 0 0 18 [(0, .ref 125), (1, .int a1), (2, .int a2)] [.int 1] _ 0 0 _
                  refine x_ifeq (tgt := 39) rfl rfl (ti_eq jk_1 jk_0 (br_f (by omega) ?_))
                  refine x_aloadn (x := 125) rfl rfl ?_
                  refine x_iloadn (x := a1) rfl rfl ?_
                  refine x_iloadn (x := a2) rfl rfl ?_
                  refine x_inv (N := m_X12_why) (As := [.int a1, .int a2]) (b := 125) (st := []) (dx9 := 6) (mc := 0) (ms := 0) (host := "") 12 rfl t_X12_why ⟨Or.inl q_12_368, i_X12_why.1, i_X12_why.2⟩ ⟨by decide, rfl⟩ (congrArg Prod.fst (J.1.1 125 (12, 92) rfl)) rfl (by decide) rfl rfl ⟨by decide, by decide⟩ (sf_X12_why_r125d (jr_of rfl (by omega)) (jr_of rfl (by omega)) hD J rfl  (fun v55 h ev55 J S52 X53 X54 => ?_))
                  have Sm := jSm_tr rfl Sm S52
                  try rw [X53] at D
                  try rw [X54] at D
                  show jX m_X12_worth 9 0 0 27 [(0, .ref 125), (1, .int a1), (2, .int a2)] [.int v55] _ 0 0 _
                  refine x_ifne (tgt := 39) rfl rfl (ti_ne rfl jk_0 ⟨fun c56 => ?_, fun c56 => ?_⟩)
                  ·
                    rw [if_neg (by omega)] at D
                    exact jX.sub jsb_n (ct_X12_worth_r125d_39 hD hQ  h J Sm D)
                  ·
                    rw [if_pos (by omega)] at D
                    refine x_aloadn (x := 125) rfl rfl ?_
                    refine x_iloadn (x := a1) rfl rfl ?_
                    refine x_iloadn (x := a2) rfl rfl ?_
                    refine x_inv (N := m_X12_worthOf) (As := [.int a1, .int a2]) (b := 125) (st := []) (dx9 := 8) (mc := 0) (ms := 0) (host := "") 12 rfl t_X12_worthOf ⟨Or.inl q_12_374, i_X12_worthOf.1, i_X12_worthOf.2⟩ ⟨by decide, rfl⟩ (congrArg Prod.fst (J.1.1 125 (12, 92) rfl)) rfl (by decide) rfl rfl ⟨by decide, by decide⟩ (sf_X12_worthOf_r125d (jr_of rfl (by omega)) (jr_of rfl (by omega)) hD J rfl  (fun v60 h ev60 J S57 X58 X59 => ?_))
                    have Sm := jSm_tr rfl Sm S57
                    try rw [X58] at D
                    try rw [X59] at D
                    show jX m_X12_worth 9 0 0 36 [(0, .ref 125), (1, .int a1), (2, .int a2)] [.int v60] _ 0 0 _
                    refine x_goto (tgt := 40) rfl rfl ?_
                    exact jX.sub jsb_n (ct_X12_worth_r125d_40 hD hQ  v60 h (jr_of rfl (by omega)) J Sm D)
        ·
          rw [if_pos (by omega)] at D
          refine x_iconst (v := 2) rfl ki_2 ?_
          refine x_goto (tgt := 18) rfl rfl ?_
          refine x_iret rfl rfl ?_
          show jX m_X12_isMention 8 0 0 27 [(0, .ref 125), (1, .int a1)] [.int 2, .int v10] _ 0 0 _
          refine x_icge (tgt := 34) rfl rfl (ti_ge rfl jk_2 ⟨fun c61 => ?_, fun c61 => ?_⟩)
          ·
            rw [if_pos (by omega)] at D
            refine x_iconst (v := 0) rfl ki_0 ?_
            refine x_zret rfl rfl (by decide) ?_
            show jX m_X12_worth 9 0 0 10 [(0, .ref 125), (1, .int a1), (2, .int a2)] [.int 0] _ 0 0 _
            refine x_ifeq (tgt := 39) rfl rfl (ti_eq jk_0 jk_0 (br_t (by omega) ?_))
            exact jX.sub jsb_n (ct_X12_worth_r125d_39 hD hQ  h J Sm D)
          ·
            rw [if_neg (by omega)] at D
            refine x_iconst (v := 1) rfl ki_1 ?_
            refine x_goto (tgt := 35) rfl rfl ?_
            refine x_zret rfl rfl (by decide) ?_
            show jX m_X12_worth 9 0 0 10 [(0, .ref 125), (1, .int a1), (2, .int a2)] [.int 1] _ 0 0 _
            refine x_ifeq (tgt := 39) rfl rfl (ti_eq jk_1 jk_0 (br_f (by omega) ?_))
            refine x_aloadn (x := 125) rfl rfl ?_
            refine x_iloadn (x := a2) rfl rfl ?_
            refine x_inv (N := m_X12_isMention) (As := [.int a2]) (b := 125) (st := []) (dx9 := 8) (mc := 0) (ms := 0) (host := "") 12 rfl t_X12_isMention ⟨Or.inl q_12_322, i_X12_isMention.1, i_X12_isMention.2⟩ ⟨by decide, rfl⟩ (congrArg Prod.fst (J.1.1 125 (12, 92) rfl)) rfl (by decide) rfl rfl ⟨by decide, by decide⟩ (jC.of rfl k_X12_isMention rfl ?_)
            show jX m_X12_isMention 8 0 0 0 [(0, .ref 125), (1, .int a2)] [] _ 0 0 _
            refine x_iloadn (x := a2) rfl rfl ?_
            refine x_iflt (tgt := 34) rfl rfl (ti_lt rfl jk_0 ⟨fun c62 => ?_, fun c62 => ?_⟩)
            ·
              rw [if_pos (by omega)] at D
              refine x_iconst (v := 0) rfl ki_0 ?_
              refine x_zret rfl rfl (by decide) ?_
              show jX m_X12_worth 9 0 0 18 [(0, .ref 125), (1, .int a1), (2, .int a2)] [.int 0] _ 0 0 _
              refine x_ifeq (tgt := 39) rfl rfl (ti_eq jk_0 jk_0 (br_t (by omega) ?_))
              exact jX.sub jsb_n (ct_X12_worth_r125d_39 hD hQ  h J Sm D)
            ·
              rw [if_neg (by omega)] at D
              refine x_aloadn (x := 125) rfl rfl ?_
              refine x_iloadn (x := a2) rfl rfl ?_
              refine x_iconst (v := 3) rfl ki_3 ?_
              refine z_idiv rfl rfl jk_3 (by omega) (by omega) (fun v63 ev63 => ?_)
              refine x_inv (N := m_X12_isLine) (As := [.int v63]) (b := 125) (st := []) (dx9 := 7) (mc := 0) (ms := 0) (host := "") 12 rfl t_X12_isLine ⟨Or.inl q_12_293, i_X12_isLine.1, i_X12_isLine.2⟩ ⟨by decide, rfl⟩ (congrArg Prod.fst (J.1.1 125 (12, 92) rfl)) rfl (by decide) rfl rfl ⟨by decide, by decide⟩ (jC.of rfl k_X12_isLine rfl ?_)
              show jX m_X12_isLine 7 0 0 0 [(0, .ref 125), (1, .int v63)] [] _ 0 0 _
              refine x_iloadn (x := v63) rfl rfl ?_
              refine z_i2l rfl rfl (fun v64 ev64 => ?_)
              refine x_lconst (v := 0) rfl kl_0 ?_
              refine x_aloadn (x := 125) rfl rfl ?_
              refine z_getR (N := 92) (b := 126) 12 2 rfl f_12_8 rfl J rfl 16002 ⟨rfl, rfl⟩ rfl ?_
              refine x_iconst (v := 0) rfl ki_0 ?_
              refine z_ialdM (N := 50660) (v := v5) rfl J rfl jk_0 (by omega) qv5 ?_
              refine z_i2l rfl rfl (fun v65 ev65 => ?_)
              refine x_lconst (v := 1) rfl kl_1 ?_
              refine z_lsub rfl rfl jkl_1 (by omega) (fun v66 ev66 => ?_)
              refine x_inst (N := m_X12_in) (As := [.long v64, .long 0, .long v66]) (st := []) (dx9 := 1) (mc := 0) (ms := 0) (host := "") rfl t_X12_in ⟨Or.inl q_12_188, s_X12_in⟩ rfl (by decide) rfl rfl ⟨by decide, by decide⟩ (zc_X12_in rfl jkl_0 rfl (fun v67 ev67 => ?_))
              show jX m_X12_isLine 7 0 0 15 [(0, .ref 125), (1, .int v63)] [.int v67] _ 0 0 _
              refine x_zret rfl rfl (jz01 (by omega)) ?_
              show jX m_X12_isMention 8 0 0 11 [(0, .ref 125), (1, .int a2)] [.int v67] _ 0 0 _
              refine x_ifeq (tgt := 34) rfl rfl (ti_eq rfl jk_0 ⟨fun c68 => ?_, fun c68 => ?_⟩)
              ·
                rw [if_neg (by omega)] at D
                refine x_iconst (v := 0) rfl ki_0 ?_
                refine x_zret rfl rfl (by decide) ?_
                show jX m_X12_worth 9 0 0 18 [(0, .ref 125), (1, .int a1), (2, .int a2)] [.int 0] _ 0 0 _
                refine x_ifeq (tgt := 39) rfl rfl (ti_eq jk_0 jk_0 (br_t (by omega) ?_))
                exact jX.sub jsb_n (ct_X12_worth_r125d_39 hD hQ  h J Sm D)
              ·
                rw [if_pos (by omega)] at D
                refine x_iloadn (x := a2) rfl rfl ?_
                refine x_iconst (v := 3) rfl ki_3 ?_
                refine z_irem rfl rfl jk_3 (by omega) (by omega) (fun v69 ev69 => ?_)
                refine x_aloadn (x := 125) rfl rfl ?_
                refine x_iloadn (x := a2) rfl rfl ?_
                refine x_iconst (v := 3) rfl ki_3 ?_
                refine z_idiv rfl rfl jk_3 (by omega) (by omega) (fun v70 ev70 => ?_)
                refine x_inv (N := m_X12_bookOf) (As := [.int v70]) (b := 125) (st := [.int v69]) (dx9 := 7) (mc := 0) (ms := 0) (host := "") 12 rfl t_X12_bookOf ⟨Or.inl q_12_299, i_X12_bookOf.1, i_X12_bookOf.2⟩ ⟨by decide, rfl⟩ (congrArg Prod.fst (J.1.1 125 (12, 92) rfl)) rfl (by decide) rfl rfl ⟨by decide, by decide⟩ (jC.of rfl k_X12_bookOf rfl ?_)
                show jX m_X12_bookOf 7 0 0 0 [(0, .ref 125), (1, .int v70)] [] _ 0 0 _
                refine x_aloadn (x := 125) rfl rfl ?_
                refine z_getR (N := 92) (b := 126) 12 2 rfl f_12_8 rfl J rfl 16002 ⟨rfl, rfl⟩ rfl ?_
                refine x_aloadn (x := 125) rfl rfl ?_
                refine x_iloadn (x := v70) rfl rfl ?_
                refine x_inv (N := m_X12_at) (As := [.int v70]) (b := 125) (st := [.ref 126]) (dx9 := 6) (mc := 0) (ms := 0) (host := "") 12 rfl t_X12_at ⟨Or.inl q_12_254, i_X12_at.1, i_X12_at.2⟩ ⟨by decide, rfl⟩ (congrArg Prod.fst (J.1.1 125 (12, 92) rfl)) rfl (by decide) rfl rfl ⟨by decide, by decide⟩ (jC.of rfl k_X12_at rfl ?_)
                show jX m_X12_at 6 0 0 0 [(0, .ref 125), (1, .int v70)] [] _ 0 0 _
                refine x_bipush (v := 20) rfl kb_20 ?_
                refine x_bipush (v := 90) rfl kb_90 ?_
                refine x_iloadn (x := v70) rfl rfl ?_
                refine z_imul rfl jk_90 rfl (by omega) (fun v71 ev71 => ?_)
                refine z_iadd rfl jk_20 rfl (by omega) (fun v72 ev72 => ?_)
                refine x_iret rfl rfl ?_
                show jX m_X12_bookOf 7 0 0 9 [(0, .ref 125), (1, .int v70)] [.int v72, .ref 126] _ 0 0 _
                refine z_iald (N := 50660) rfl J rfl sg_126_20_18020_90_0_1 rfl (by omega) (fun v73 qv73 ev73 => ?_)
                try rw [vrd (jmb_w w1 qv73 rfl) (show (20 + (90 * (a2.toInt / 3))) = v72.toInt from by omega)] at D
                refine x_iret rfl rfl ?_
                show jX m_X12_isMention 8 0 0 24 [(0, .ref 125), (1, .int a2)] [.int v73, .int v69] _ 0 0 _
                refine x_inst (N := m_X12_rolesOf) (As := [.int v73]) (st := [.int v69]) (dx9 := 7) (mc := 0) (ms := 0) (host := "") rfl t_X12_rolesOf ⟨Or.inl q_12_286, s_X12_rolesOf⟩ rfl (by decide) rfl rfl ⟨by decide, by decide⟩ (jC.of rfl k_X12_rolesOf rfl ?_)
                show jX m_X12_rolesOf 7 0 0 0 [(0, .int v73)] [] _ 0 0 _
                refine x_iloadn (x := v73) rfl rfl ?_
                refine x_ifne (tgt := 8) rfl rfl (ti_ne rfl jk_0 ⟨fun c74 => ?_, fun c74 => ?_⟩)
                ·
                  rw [if_neg (by omega)] at D
                  refine x_iloadn (x := v73) rfl rfl ?_
                  refine x_iconst (v := 1) rfl ki_1 ?_
                  refine x_icne (tgt := 17) rfl rfl (ti_ne rfl jk_1 ⟨fun c75 => ?_, fun c75 => ?_⟩)
                  ·
                    rw [if_neg (by omega)] at D
                    refine x_iconst (v := 1) rfl ki_1 ?_
                    refine x_iret rfl rfl ?_
                    show jX m_X12_isMention 8 0 0 27 [(0, .ref 125), (1, .int a2)] [.int 1, .int v69] _ 0 0 _
                    refine x_icge (tgt := 34) rfl rfl (ti_ge rfl jk_1 ⟨fun c76 => ?_, fun c76 => ?_⟩)
                    ·
                      rw [if_pos (by omega)] at D
                      refine x_iconst (v := 0) rfl ki_0 ?_
                      refine x_zret rfl rfl (by decide) ?_
                      show jX m_X12_worth 9 0 0 18 [(0, .ref 125), (1, .int a1), (2, .int a2)] [.int 0] _ 0 0 _
                      refine x_ifeq (tgt := 39) rfl rfl (ti_eq jk_0 jk_0 (br_t (by omega) ?_))
                      exact jX.sub jsb_n (ct_X12_worth_r125d_39 hD hQ  h J Sm D)
                    ·
                      rw [if_neg (by omega)] at D
                      refine x_iconst (v := 1) rfl ki_1 ?_
                      refine x_goto (tgt := 35) rfl rfl ?_
                      refine x_zret rfl rfl (by decide) ?_
                      show jX m_X12_worth 9 0 0 18 [(0, .ref 125), (1, .int a1), (2, .int a2)] [.int 1] _ 0 0 _
                      refine x_ifeq (tgt := 39) rfl rfl (ti_eq jk_1 jk_0 (br_f (by omega) ?_))
                      refine x_aloadn (x := 125) rfl rfl ?_
                      refine x_iloadn (x := a1) rfl rfl ?_
                      refine x_iloadn (x := a2) rfl rfl ?_
                      refine x_inv (N := m_X12_why) (As := [.int a1, .int a2]) (b := 125) (st := []) (dx9 := 6) (mc := 0) (ms := 0) (host := "") 12 rfl t_X12_why ⟨Or.inl q_12_368, i_X12_why.1, i_X12_why.2⟩ ⟨by decide, rfl⟩ (congrArg Prod.fst (J.1.1 125 (12, 92) rfl)) rfl (by decide) rfl rfl ⟨by decide, by decide⟩ (sf_X12_why_r125d (jr_of rfl (by omega)) (jr_of rfl (by omega)) hD J rfl  (fun v80 h ev80 J S77 X78 X79 => ?_))
                      have Sm := jSm_tr rfl Sm S77
                      try rw [X78] at D
                      try rw [X79] at D
                      show jX m_X12_worth 9 0 0 27 [(0, .ref 125), (1, .int a1), (2, .int a2)] [.int v80] _ 0 0 _
                      refine x_ifne (tgt := 39) rfl rfl (ti_ne rfl jk_0 ⟨fun c81 => ?_, fun c81 => ?_⟩)
                      ·
                        rw [if_neg (by omega)] at D
                        exact jX.sub jsb_n (ct_X12_worth_r125d_39 hD hQ  h J Sm D)
                      ·
                        rw [if_pos (by omega)] at D
                        refine x_aloadn (x := 125) rfl rfl ?_
                        refine x_iloadn (x := a1) rfl rfl ?_
                        refine x_iloadn (x := a2) rfl rfl ?_
                        refine x_inv (N := m_X12_worthOf) (As := [.int a1, .int a2]) (b := 125) (st := []) (dx9 := 8) (mc := 0) (ms := 0) (host := "") 12 rfl t_X12_worthOf ⟨Or.inl q_12_374, i_X12_worthOf.1, i_X12_worthOf.2⟩ ⟨by decide, rfl⟩ (congrArg Prod.fst (J.1.1 125 (12, 92) rfl)) rfl (by decide) rfl rfl ⟨by decide, by decide⟩ (sf_X12_worthOf_r125d (jr_of rfl (by omega)) (jr_of rfl (by omega)) hD J rfl  (fun v85 h ev85 J S82 X83 X84 => ?_))
                        have Sm := jSm_tr rfl Sm S82
                        try rw [X83] at D
                        try rw [X84] at D
                        show jX m_X12_worth 9 0 0 36 [(0, .ref 125), (1, .int a1), (2, .int a2)] [.int v85] _ 0 0 _
                        refine x_goto (tgt := 40) rfl rfl ?_
                        exact jX.sub jsb_n (ct_X12_worth_r125d_40 hD hQ  v85 h (jr_of rfl (by omega)) J Sm D)
                  ·
                    rw [if_pos (by omega)] at D
                    refine x_iconst (v := 2) rfl ki_2 ?_
                    refine x_goto (tgt := 18) rfl rfl ?_
                    refine x_iret rfl rfl ?_
                    show jX m_X12_isMention 8 0 0 27 [(0, .ref 125), (1, .int a2)] [.int 2, .int v69] _ 0 0 _
                    refine x_icge (tgt := 34) rfl rfl (ti_ge rfl jk_2 ⟨fun c86 => ?_, fun c86 => ?_⟩)
                    ·
                      rw [if_pos (by omega)] at D
                      refine x_iconst (v := 0) rfl ki_0 ?_
                      refine x_zret rfl rfl (by decide) ?_
                      show jX m_X12_worth 9 0 0 18 [(0, .ref 125), (1, .int a1), (2, .int a2)] [.int 0] _ 0 0 _
                      refine x_ifeq (tgt := 39) rfl rfl (ti_eq jk_0 jk_0 (br_t (by omega) ?_))
                      exact jX.sub jsb_n (ct_X12_worth_r125d_39 hD hQ  h J Sm D)
                    ·
                      rw [if_neg (by omega)] at D
                      refine x_iconst (v := 1) rfl ki_1 ?_
                      refine x_goto (tgt := 35) rfl rfl ?_
                      refine x_zret rfl rfl (by decide) ?_
                      show jX m_X12_worth 9 0 0 18 [(0, .ref 125), (1, .int a1), (2, .int a2)] [.int 1] _ 0 0 _
                      refine x_ifeq (tgt := 39) rfl rfl (ti_eq jk_1 jk_0 (br_f (by omega) ?_))
                      refine x_aloadn (x := 125) rfl rfl ?_
                      refine x_iloadn (x := a1) rfl rfl ?_
                      refine x_iloadn (x := a2) rfl rfl ?_
                      refine x_inv (N := m_X12_why) (As := [.int a1, .int a2]) (b := 125) (st := []) (dx9 := 6) (mc := 0) (ms := 0) (host := "") 12 rfl t_X12_why ⟨Or.inl q_12_368, i_X12_why.1, i_X12_why.2⟩ ⟨by decide, rfl⟩ (congrArg Prod.fst (J.1.1 125 (12, 92) rfl)) rfl (by decide) rfl rfl ⟨by decide, by decide⟩ (sf_X12_why_r125d (jr_of rfl (by omega)) (jr_of rfl (by omega)) hD J rfl  (fun v90 h ev90 J S87 X88 X89 => ?_))
                      have Sm := jSm_tr rfl Sm S87
                      try rw [X88] at D
                      try rw [X89] at D
                      show jX m_X12_worth 9 0 0 27 [(0, .ref 125), (1, .int a1), (2, .int a2)] [.int v90] _ 0 0 _
                      refine x_ifne (tgt := 39) rfl rfl (ti_ne rfl jk_0 ⟨fun c91 => ?_, fun c91 => ?_⟩)
                      ·
                        rw [if_neg (by omega)] at D
                        exact jX.sub jsb_n (ct_X12_worth_r125d_39 hD hQ  h J Sm D)
                      ·
                        rw [if_pos (by omega)] at D
                        refine x_aloadn (x := 125) rfl rfl ?_
                        refine x_iloadn (x := a1) rfl rfl ?_
                        refine x_iloadn (x := a2) rfl rfl ?_
                        refine x_inv (N := m_X12_worthOf) (As := [.int a1, .int a2]) (b := 125) (st := []) (dx9 := 8) (mc := 0) (ms := 0) (host := "") 12 rfl t_X12_worthOf ⟨Or.inl q_12_374, i_X12_worthOf.1, i_X12_worthOf.2⟩ ⟨by decide, rfl⟩ (congrArg Prod.fst (J.1.1 125 (12, 92) rfl)) rfl (by decide) rfl rfl ⟨by decide, by decide⟩ (sf_X12_worthOf_r125d (jr_of rfl (by omega)) (jr_of rfl (by omega)) hD J rfl  (fun v95 h ev95 J S92 X93 X94 => ?_))
                        have Sm := jSm_tr rfl Sm S92
                        try rw [X93] at D
                        try rw [X94] at D
                        show jX m_X12_worth 9 0 0 36 [(0, .ref 125), (1, .int a1), (2, .int a2)] [.int v95] _ 0 0 _
                        refine x_goto (tgt := 40) rfl rfl ?_
                        exact jX.sub jsb_n (ct_X12_worth_r125d_40 hD hQ  v95 h (jr_of rfl (by omega)) J Sm D)
                ·
                  rw [if_pos (by omega)] at D
                  refine x_iconst (v := 3) rfl ki_3 ?_
                  refine x_goto (tgt := 18) rfl rfl ?_
                  refine x_iret rfl rfl ?_
                  show jX m_X12_isMention 8 0 0 27 [(0, .ref 125), (1, .int a2)] [.int 3, .int v69] _ 0 0 _
                  refine x_icge (tgt := 34) rfl rfl (ti_ge rfl jk_3 (br_f (by omega) ?_))
                  refine x_iconst (v := 1) rfl ki_1 ?_
                  refine x_goto (tgt := 35) rfl rfl ?_
                  refine x_zret rfl rfl (by decide) ?_
                  show jX m_X12_worth 9 0 0 18 [(0, .ref 125), (1, .int a1), (2, .int a2)] [.int 1] _ 0 0 _
                  refine x_ifeq (tgt := 39) rfl rfl (ti_eq jk_1 jk_0 (br_f (by omega) ?_))
                  refine x_aloadn (x := 125) rfl rfl ?_
                  refine x_iloadn (x := a1) rfl rfl ?_
                  refine x_iloadn (x := a2) rfl rfl ?_
                  refine x_inv (N := m_X12_why) (As := [.int a1, .int a2]) (b := 125) (st := []) (dx9 := 6) (mc := 0) (ms := 0) (host := "") 12 rfl t_X12_why ⟨Or.inl q_12_368, i_X12_why.1, i_X12_why.2⟩ ⟨by decide, rfl⟩ (congrArg Prod.fst (J.1.1 125 (12, 92) rfl)) rfl (by decide) rfl rfl ⟨by decide, by decide⟩ (sf_X12_why_r125d (jr_of rfl (by omega)) (jr_of rfl (by omega)) hD J rfl  (fun v99 h ev99 J S96 X97 X98 => ?_))
                  have Sm := jSm_tr rfl Sm S96
                  try rw [X97] at D
                  try rw [X98] at D
                  show jX m_X12_worth 9 0 0 27 [(0, .ref 125), (1, .int a1), (2, .int a2)] [.int v99] _ 0 0 _
                  refine x_ifne (tgt := 39) rfl rfl (ti_ne rfl jk_0 ⟨fun c100 => ?_, fun c100 => ?_⟩)
                  ·
                    rw [if_neg (by omega)] at D
                    exact jX.sub jsb_n (ct_X12_worth_r125d_39 hD hQ  h J Sm D)
                  ·
                    rw [if_pos (by omega)] at D
                    refine x_aloadn (x := 125) rfl rfl ?_
                    refine x_iloadn (x := a1) rfl rfl ?_
                    refine x_iloadn (x := a2) rfl rfl ?_
                    refine x_inv (N := m_X12_worthOf) (As := [.int a1, .int a2]) (b := 125) (st := []) (dx9 := 8) (mc := 0) (ms := 0) (host := "") 12 rfl t_X12_worthOf ⟨Or.inl q_12_374, i_X12_worthOf.1, i_X12_worthOf.2⟩ ⟨by decide, rfl⟩ (congrArg Prod.fst (J.1.1 125 (12, 92) rfl)) rfl (by decide) rfl rfl ⟨by decide, by decide⟩ (sf_X12_worthOf_r125d (jr_of rfl (by omega)) (jr_of rfl (by omega)) hD J rfl  (fun v104 h ev104 J S101 X102 X103 => ?_))
                    have Sm := jSm_tr rfl Sm S101
                    try rw [X102] at D
                    try rw [X103] at D
                    show jX m_X12_worth 9 0 0 36 [(0, .ref 125), (1, .int a1), (2, .int a2)] [.int v104] _ 0 0 _
                    refine x_goto (tgt := 40) rfl rfl ?_
                    exact jX.sub jsb_n (ct_X12_worth_r125d_40 hD hQ  v104 h (jr_of rfl (by omega)) J Sm D)
      ·
        rw [if_pos (by omega)] at D
        refine x_iconst (v := 3) rfl ki_3 ?_
        refine x_goto (tgt := 18) rfl rfl ?_
        refine x_iret rfl rfl ?_
        show jX m_X12_isMention 8 0 0 27 [(0, .ref 125), (1, .int a1)] [.int 3, .int v10] _ 0 0 _
        refine x_icge (tgt := 34) rfl rfl (ti_ge rfl jk_3 (br_f (by omega) ?_))
        refine x_iconst (v := 1) rfl ki_1 ?_
        refine x_goto (tgt := 35) rfl rfl ?_
        refine x_zret rfl rfl (by decide) ?_
        show jX m_X12_worth 9 0 0 10 [(0, .ref 125), (1, .int a1), (2, .int a2)] [.int 1] _ 0 0 _
        refine x_ifeq (tgt := 39) rfl rfl (ti_eq jk_1 jk_0 (br_f (by omega) ?_))
        refine x_aloadn (x := 125) rfl rfl ?_
        refine x_iloadn (x := a2) rfl rfl ?_
        refine x_inv (N := m_X12_isMention) (As := [.int a2]) (b := 125) (st := []) (dx9 := 8) (mc := 0) (ms := 0) (host := "") 12 rfl t_X12_isMention ⟨Or.inl q_12_322, i_X12_isMention.1, i_X12_isMention.2⟩ ⟨by decide, rfl⟩ (congrArg Prod.fst (J.1.1 125 (12, 92) rfl)) rfl (by decide) rfl rfl ⟨by decide, by decide⟩ (jC.of rfl k_X12_isMention rfl ?_)
        show jX m_X12_isMention 8 0 0 0 [(0, .ref 125), (1, .int a2)] [] _ 0 0 _
        refine x_iloadn (x := a2) rfl rfl ?_
        refine x_iflt (tgt := 34) rfl rfl (ti_lt rfl jk_0 ⟨fun c105 => ?_, fun c105 => ?_⟩)
        ·
          rw [if_pos (by omega)] at D
          refine x_iconst (v := 0) rfl ki_0 ?_
          refine x_zret rfl rfl (by decide) ?_
          show jX m_X12_worth 9 0 0 18 [(0, .ref 125), (1, .int a1), (2, .int a2)] [.int 0] _ 0 0 _
          refine x_ifeq (tgt := 39) rfl rfl (ti_eq jk_0 jk_0 (br_t (by omega) ?_))
          exact jX.sub jsb_n (ct_X12_worth_r125d_39 hD hQ  h J Sm D)
        ·
          rw [if_neg (by omega)] at D
          refine x_aloadn (x := 125) rfl rfl ?_
          refine x_iloadn (x := a2) rfl rfl ?_
          refine x_iconst (v := 3) rfl ki_3 ?_
          refine z_idiv rfl rfl jk_3 (by omega) (by omega) (fun v106 ev106 => ?_)
          refine x_inv (N := m_X12_isLine) (As := [.int v106]) (b := 125) (st := []) (dx9 := 7) (mc := 0) (ms := 0) (host := "") 12 rfl t_X12_isLine ⟨Or.inl q_12_293, i_X12_isLine.1, i_X12_isLine.2⟩ ⟨by decide, rfl⟩ (congrArg Prod.fst (J.1.1 125 (12, 92) rfl)) rfl (by decide) rfl rfl ⟨by decide, by decide⟩ (jC.of rfl k_X12_isLine rfl ?_)
          show jX m_X12_isLine 7 0 0 0 [(0, .ref 125), (1, .int v106)] [] _ 0 0 _
          refine x_iloadn (x := v106) rfl rfl ?_
          refine z_i2l rfl rfl (fun v107 ev107 => ?_)
          refine x_lconst (v := 0) rfl kl_0 ?_
          refine x_aloadn (x := 125) rfl rfl ?_
          refine z_getR (N := 92) (b := 126) 12 2 rfl f_12_8 rfl J rfl 16002 ⟨rfl, rfl⟩ rfl ?_
          refine x_iconst (v := 0) rfl ki_0 ?_
          refine z_ialdM (N := 50660) (v := v5) rfl J rfl jk_0 (by omega) qv5 ?_
          refine z_i2l rfl rfl (fun v108 ev108 => ?_)
          refine x_lconst (v := 1) rfl kl_1 ?_
          refine z_lsub rfl rfl jkl_1 (by omega) (fun v109 ev109 => ?_)
          refine x_inst (N := m_X12_in) (As := [.long v107, .long 0, .long v109]) (st := []) (dx9 := 1) (mc := 0) (ms := 0) (host := "") rfl t_X12_in ⟨Or.inl q_12_188, s_X12_in⟩ rfl (by decide) rfl rfl ⟨by decide, by decide⟩ (zc_X12_in rfl jkl_0 rfl (fun v110 ev110 => ?_))
          show jX m_X12_isLine 7 0 0 15 [(0, .ref 125), (1, .int v106)] [.int v110] _ 0 0 _
          refine x_zret rfl rfl (jz01 (by omega)) ?_
          show jX m_X12_isMention 8 0 0 11 [(0, .ref 125), (1, .int a2)] [.int v110] _ 0 0 _
          refine x_ifeq (tgt := 34) rfl rfl (ti_eq rfl jk_0 ⟨fun c111 => ?_, fun c111 => ?_⟩)
          ·
            rw [if_neg (by omega)] at D
            refine x_iconst (v := 0) rfl ki_0 ?_
            refine x_zret rfl rfl (by decide) ?_
            show jX m_X12_worth 9 0 0 18 [(0, .ref 125), (1, .int a1), (2, .int a2)] [.int 0] _ 0 0 _
            refine x_ifeq (tgt := 39) rfl rfl (ti_eq jk_0 jk_0 (br_t (by omega) ?_))
            exact jX.sub jsb_n (ct_X12_worth_r125d_39 hD hQ  h J Sm D)
          ·
            rw [if_pos (by omega)] at D
            refine x_iloadn (x := a2) rfl rfl ?_
            refine x_iconst (v := 3) rfl ki_3 ?_
            refine z_irem rfl rfl jk_3 (by omega) (by omega) (fun v112 ev112 => ?_)
            refine x_aloadn (x := 125) rfl rfl ?_
            refine x_iloadn (x := a2) rfl rfl ?_
            refine x_iconst (v := 3) rfl ki_3 ?_
            refine z_idiv rfl rfl jk_3 (by omega) (by omega) (fun v113 ev113 => ?_)
            refine x_inv (N := m_X12_bookOf) (As := [.int v113]) (b := 125) (st := [.int v112]) (dx9 := 7) (mc := 0) (ms := 0) (host := "") 12 rfl t_X12_bookOf ⟨Or.inl q_12_299, i_X12_bookOf.1, i_X12_bookOf.2⟩ ⟨by decide, rfl⟩ (congrArg Prod.fst (J.1.1 125 (12, 92) rfl)) rfl (by decide) rfl rfl ⟨by decide, by decide⟩ (jC.of rfl k_X12_bookOf rfl ?_)
            show jX m_X12_bookOf 7 0 0 0 [(0, .ref 125), (1, .int v113)] [] _ 0 0 _
            refine x_aloadn (x := 125) rfl rfl ?_
            refine z_getR (N := 92) (b := 126) 12 2 rfl f_12_8 rfl J rfl 16002 ⟨rfl, rfl⟩ rfl ?_
            refine x_aloadn (x := 125) rfl rfl ?_
            refine x_iloadn (x := v113) rfl rfl ?_
            refine x_inv (N := m_X12_at) (As := [.int v113]) (b := 125) (st := [.ref 126]) (dx9 := 6) (mc := 0) (ms := 0) (host := "") 12 rfl t_X12_at ⟨Or.inl q_12_254, i_X12_at.1, i_X12_at.2⟩ ⟨by decide, rfl⟩ (congrArg Prod.fst (J.1.1 125 (12, 92) rfl)) rfl (by decide) rfl rfl ⟨by decide, by decide⟩ (jC.of rfl k_X12_at rfl ?_)
            show jX m_X12_at 6 0 0 0 [(0, .ref 125), (1, .int v113)] [] _ 0 0 _
            refine x_bipush (v := 20) rfl kb_20 ?_
            refine x_bipush (v := 90) rfl kb_90 ?_
            refine x_iloadn (x := v113) rfl rfl ?_
            refine z_imul rfl jk_90 rfl (by omega) (fun v114 ev114 => ?_)
            refine z_iadd rfl jk_20 rfl (by omega) (fun v115 ev115 => ?_)
            refine x_iret rfl rfl ?_
            show jX m_X12_bookOf 7 0 0 9 [(0, .ref 125), (1, .int v113)] [.int v115, .ref 126] _ 0 0 _
            refine z_iald (N := 50660) rfl J rfl sg_126_20_18020_90_0_1 rfl (by omega) (fun v116 qv116 ev116 => ?_)
            try rw [vrd (jmb_w w1 qv116 rfl) (show (20 + (90 * (a2.toInt / 3))) = v115.toInt from by omega)] at D
            refine x_iret rfl rfl ?_
            show jX m_X12_isMention 8 0 0 24 [(0, .ref 125), (1, .int a2)] [.int v116, .int v112] _ 0 0 _
            refine x_inst (N := m_X12_rolesOf) (As := [.int v116]) (st := [.int v112]) (dx9 := 7) (mc := 0) (ms := 0) (host := "") rfl t_X12_rolesOf ⟨Or.inl q_12_286, s_X12_rolesOf⟩ rfl (by decide) rfl rfl ⟨by decide, by decide⟩ (jC.of rfl k_X12_rolesOf rfl ?_)
            show jX m_X12_rolesOf 7 0 0 0 [(0, .int v116)] [] _ 0 0 _
            refine x_iloadn (x := v116) rfl rfl ?_
            refine x_ifne (tgt := 8) rfl rfl (ti_ne rfl jk_0 ⟨fun c117 => ?_, fun c117 => ?_⟩)
            ·
              rw [if_neg (by omega)] at D
              refine x_iloadn (x := v116) rfl rfl ?_
              refine x_iconst (v := 1) rfl ki_1 ?_
              refine x_icne (tgt := 17) rfl rfl (ti_ne rfl jk_1 ⟨fun c118 => ?_, fun c118 => ?_⟩)
              ·
                rw [if_neg (by omega)] at D
                refine x_iconst (v := 1) rfl ki_1 ?_
                refine x_iret rfl rfl ?_
                show jX m_X12_isMention 8 0 0 27 [(0, .ref 125), (1, .int a2)] [.int 1, .int v112] _ 0 0 _
                refine x_icge (tgt := 34) rfl rfl (ti_ge rfl jk_1 ⟨fun c119 => ?_, fun c119 => ?_⟩)
                ·
                  rw [if_pos (by omega)] at D
                  refine x_iconst (v := 0) rfl ki_0 ?_
                  refine x_zret rfl rfl (by decide) ?_
                  show jX m_X12_worth 9 0 0 18 [(0, .ref 125), (1, .int a1), (2, .int a2)] [.int 0] _ 0 0 _
                  refine x_ifeq (tgt := 39) rfl rfl (ti_eq jk_0 jk_0 (br_t (by omega) ?_))
                  exact jX.sub jsb_n (ct_X12_worth_r125d_39 hD hQ  h J Sm D)
                ·
                  rw [if_neg (by omega)] at D
                  refine x_iconst (v := 1) rfl ki_1 ?_
                  refine x_goto (tgt := 35) rfl rfl ?_
                  refine x_zret rfl rfl (by decide) ?_
                  show jX m_X12_worth 9 0 0 18 [(0, .ref 125), (1, .int a1), (2, .int a2)] [.int 1] _ 0 0 _
                  refine x_ifeq (tgt := 39) rfl rfl (ti_eq jk_1 jk_0 (br_f (by omega) ?_))
                  refine x_aloadn (x := 125) rfl rfl ?_
                  refine x_iloadn (x := a1) rfl rfl ?_
                  refine x_iloadn (x := a2) rfl rfl ?_
                  refine x_inv (N := m_X12_why) (As := [.int a1, .int a2]) (b := 125) (st := []) (dx9 := 6) (mc := 0) (ms := 0) (host := "") 12 rfl t_X12_why ⟨Or.inl q_12_368, i_X12_why.1, i_X12_why.2⟩ ⟨by decide, rfl⟩ (congrArg Prod.fst (J.1.1 125 (12, 92) rfl)) rfl (by decide) rfl rfl ⟨by decide, by decide⟩ (sf_X12_why_r125d (jr_of rfl (by omega)) (jr_of rfl (by omega)) hD J rfl  (fun v123 h ev123 J S120 X121 X122 => ?_))
                  have Sm := jSm_tr rfl Sm S120
                  try rw [X121] at D
                  try rw [X122] at D
                  show jX m_X12_worth 9 0 0 27 [(0, .ref 125), (1, .int a1), (2, .int a2)] [.int v123] _ 0 0 _
                  refine x_ifne (tgt := 39) rfl rfl (ti_ne rfl jk_0 ⟨fun c124 => ?_, fun c124 => ?_⟩)
                  ·
                    rw [if_neg (by omega)] at D
                    exact jX.sub jsb_n (ct_X12_worth_r125d_39 hD hQ  h J Sm D)
                  ·
                    rw [if_pos (by omega)] at D
                    refine x_aloadn (x := 125) rfl rfl ?_
                    refine x_iloadn (x := a1) rfl rfl ?_
                    refine x_iloadn (x := a2) rfl rfl ?_
                    refine x_inv (N := m_X12_worthOf) (As := [.int a1, .int a2]) (b := 125) (st := []) (dx9 := 8) (mc := 0) (ms := 0) (host := "") 12 rfl t_X12_worthOf ⟨Or.inl q_12_374, i_X12_worthOf.1, i_X12_worthOf.2⟩ ⟨by decide, rfl⟩ (congrArg Prod.fst (J.1.1 125 (12, 92) rfl)) rfl (by decide) rfl rfl ⟨by decide, by decide⟩ (sf_X12_worthOf_r125d (jr_of rfl (by omega)) (jr_of rfl (by omega)) hD J rfl  (fun v128 h ev128 J S125 X126 X127 => ?_))
                    have Sm := jSm_tr rfl Sm S125
                    try rw [X126] at D
                    try rw [X127] at D
                    show jX m_X12_worth 9 0 0 36 [(0, .ref 125), (1, .int a1), (2, .int a2)] [.int v128] _ 0 0 _
                    refine x_goto (tgt := 40) rfl rfl ?_
                    exact jX.sub jsb_n (ct_X12_worth_r125d_40 hD hQ  v128 h (jr_of rfl (by omega)) J Sm D)
              ·
                rw [if_pos (by omega)] at D
                refine x_iconst (v := 2) rfl ki_2 ?_
                refine x_goto (tgt := 18) rfl rfl ?_
                refine x_iret rfl rfl ?_
                show jX m_X12_isMention 8 0 0 27 [(0, .ref 125), (1, .int a2)] [.int 2, .int v112] _ 0 0 _
                refine x_icge (tgt := 34) rfl rfl (ti_ge rfl jk_2 ⟨fun c129 => ?_, fun c129 => ?_⟩)
                ·
                  rw [if_pos (by omega)] at D
                  refine x_iconst (v := 0) rfl ki_0 ?_
                  refine x_zret rfl rfl (by decide) ?_
                  show jX m_X12_worth 9 0 0 18 [(0, .ref 125), (1, .int a1), (2, .int a2)] [.int 0] _ 0 0 _
                  refine x_ifeq (tgt := 39) rfl rfl (ti_eq jk_0 jk_0 (br_t (by omega) ?_))
                  exact jX.sub jsb_n (ct_X12_worth_r125d_39 hD hQ  h J Sm D)
                ·
                  rw [if_neg (by omega)] at D
                  refine x_iconst (v := 1) rfl ki_1 ?_
                  refine x_goto (tgt := 35) rfl rfl ?_
                  refine x_zret rfl rfl (by decide) ?_
                  show jX m_X12_worth 9 0 0 18 [(0, .ref 125), (1, .int a1), (2, .int a2)] [.int 1] _ 0 0 _
                  refine x_ifeq (tgt := 39) rfl rfl (ti_eq jk_1 jk_0 (br_f (by omega) ?_))
                  refine x_aloadn (x := 125) rfl rfl ?_
                  refine x_iloadn (x := a1) rfl rfl ?_
                  refine x_iloadn (x := a2) rfl rfl ?_
                  refine x_inv (N := m_X12_why) (As := [.int a1, .int a2]) (b := 125) (st := []) (dx9 := 6) (mc := 0) (ms := 0) (host := "") 12 rfl t_X12_why ⟨Or.inl q_12_368, i_X12_why.1, i_X12_why.2⟩ ⟨by decide, rfl⟩ (congrArg Prod.fst (J.1.1 125 (12, 92) rfl)) rfl (by decide) rfl rfl ⟨by decide, by decide⟩ (sf_X12_why_r125d (jr_of rfl (by omega)) (jr_of rfl (by omega)) hD J rfl  (fun v133 h ev133 J S130 X131 X132 => ?_))
                  have Sm := jSm_tr rfl Sm S130
                  try rw [X131] at D
                  try rw [X132] at D
                  show jX m_X12_worth 9 0 0 27 [(0, .ref 125), (1, .int a1), (2, .int a2)] [.int v133] _ 0 0 _
                  refine x_ifne (tgt := 39) rfl rfl (ti_ne rfl jk_0 ⟨fun c134 => ?_, fun c134 => ?_⟩)
                  ·
                    rw [if_neg (by omega)] at D
                    exact jX.sub jsb_n (ct_X12_worth_r125d_39 hD hQ  h J Sm D)
                  ·
                    rw [if_pos (by omega)] at D
                    refine x_aloadn (x := 125) rfl rfl ?_
                    refine x_iloadn (x := a1) rfl rfl ?_
                    refine x_iloadn (x := a2) rfl rfl ?_
                    refine x_inv (N := m_X12_worthOf) (As := [.int a1, .int a2]) (b := 125) (st := []) (dx9 := 8) (mc := 0) (ms := 0) (host := "") 12 rfl t_X12_worthOf ⟨Or.inl q_12_374, i_X12_worthOf.1, i_X12_worthOf.2⟩ ⟨by decide, rfl⟩ (congrArg Prod.fst (J.1.1 125 (12, 92) rfl)) rfl (by decide) rfl rfl ⟨by decide, by decide⟩ (sf_X12_worthOf_r125d (jr_of rfl (by omega)) (jr_of rfl (by omega)) hD J rfl  (fun v138 h ev138 J S135 X136 X137 => ?_))
                    have Sm := jSm_tr rfl Sm S135
                    try rw [X136] at D
                    try rw [X137] at D
                    show jX m_X12_worth 9 0 0 36 [(0, .ref 125), (1, .int a1), (2, .int a2)] [.int v138] _ 0 0 _
                    refine x_goto (tgt := 40) rfl rfl ?_
                    exact jX.sub jsb_n (ct_X12_worth_r125d_40 hD hQ  v138 h (jr_of rfl (by omega)) J Sm D)
            ·
              rw [if_pos (by omega)] at D
              refine x_iconst (v := 3) rfl ki_3 ?_
              refine x_goto (tgt := 18) rfl rfl ?_
              refine x_iret rfl rfl ?_
              show jX m_X12_isMention 8 0 0 27 [(0, .ref 125), (1, .int a2)] [.int 3, .int v112] _ 0 0 _
              refine x_icge (tgt := 34) rfl rfl (ti_ge rfl jk_3 (br_f (by omega) ?_))
              refine x_iconst (v := 1) rfl ki_1 ?_
              refine x_goto (tgt := 35) rfl rfl ?_
              refine x_zret rfl rfl (by decide) ?_
              show jX m_X12_worth 9 0 0 18 [(0, .ref 125), (1, .int a1), (2, .int a2)] [.int 1] _ 0 0 _
              refine x_ifeq (tgt := 39) rfl rfl (ti_eq jk_1 jk_0 (br_f (by omega) ?_))
              refine x_aloadn (x := 125) rfl rfl ?_
              refine x_iloadn (x := a1) rfl rfl ?_
              refine x_iloadn (x := a2) rfl rfl ?_
              refine x_inv (N := m_X12_why) (As := [.int a1, .int a2]) (b := 125) (st := []) (dx9 := 6) (mc := 0) (ms := 0) (host := "") 12 rfl t_X12_why ⟨Or.inl q_12_368, i_X12_why.1, i_X12_why.2⟩ ⟨by decide, rfl⟩ (congrArg Prod.fst (J.1.1 125 (12, 92) rfl)) rfl (by decide) rfl rfl ⟨by decide, by decide⟩ (sf_X12_why_r125d (jr_of rfl (by omega)) (jr_of rfl (by omega)) hD J rfl  (fun v142 h ev142 J S139 X140 X141 => ?_))
              have Sm := jSm_tr rfl Sm S139
              try rw [X140] at D
              try rw [X141] at D
              show jX m_X12_worth 9 0 0 27 [(0, .ref 125), (1, .int a1), (2, .int a2)] [.int v142] _ 0 0 _
              refine x_ifne (tgt := 39) rfl rfl (ti_ne rfl jk_0 ⟨fun c143 => ?_, fun c143 => ?_⟩)
              ·
                rw [if_neg (by omega)] at D
                exact jX.sub jsb_n (ct_X12_worth_r125d_39 hD hQ  h J Sm D)
              ·
                rw [if_pos (by omega)] at D
                refine x_aloadn (x := 125) rfl rfl ?_
                refine x_iloadn (x := a1) rfl rfl ?_
                refine x_iloadn (x := a2) rfl rfl ?_
                refine x_inv (N := m_X12_worthOf) (As := [.int a1, .int a2]) (b := 125) (st := []) (dx9 := 8) (mc := 0) (ms := 0) (host := "") 12 rfl t_X12_worthOf ⟨Or.inl q_12_374, i_X12_worthOf.1, i_X12_worthOf.2⟩ ⟨by decide, rfl⟩ (congrArg Prod.fst (J.1.1 125 (12, 92) rfl)) rfl (by decide) rfl rfl ⟨by decide, by decide⟩ (sf_X12_worthOf_r125d (jr_of rfl (by omega)) (jr_of rfl (by omega)) hD J rfl  (fun v147 h ev147 J S144 X145 X146 => ?_))
                have Sm := jSm_tr rfl Sm S144
                try rw [X145] at D
                try rw [X146] at D
                show jX m_X12_worth 9 0 0 36 [(0, .ref 125), (1, .int a1), (2, .int a2)] [.int v147] _ 0 0 _
                refine x_goto (tgt := 40) rfl rfl ?_
                exact jX.sub jsb_n (ct_X12_worth_r125d_40 hD hQ  v147 h (jr_of rfl (by omega)) J Sm D)
