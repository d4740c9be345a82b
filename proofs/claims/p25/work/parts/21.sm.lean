def fp_X12_split_r125 : jFp := [(125, 0, 1), (125, 1, 2), (126, 7, 8), (126, 9, 10), (126, 16, 17), (126, 47660, 47900), (126, 49920, 50660)]
set_option maxRecDepth 100000 in
set_option maxHeartbeats 4000000 in
theorem ct_X12_split_r125_46 {Dy : jH → Prop} {h0 : jH} {Q : Option Value → jH → Prop} (hD : jDk Dy) (hQ : ∀ (v : Int32) hx9, jJ jSgM Dy hx9 → jSm fp_X12_split_r125 h0 hx9 → ∀ u0 u1 u2 u3 u4 : Int32, jiv hx9 126 (16 : Int32).toNatClampNeg = u0 → jiv hx9 126 (0 : Int32).toNatClampNeg = u1 → jiv hx9 126 (4 : Int32).toNatClampNeg = u2 → jiv hx9 126 (5 : Int32).toNatClampNeg = u3 → jiv hx9 126 (7 : Int32).toNatClampNeg = u4 → u0.toInt = u1.toInt + u2.toInt + u3.toInt + u4.toInt → ∀ u5 u6 : Int32, jiv hx9 126 (9 : Int32).toNatClampNeg = u5 → jiv hx9 126 (7 : Int32).toNatClampNeg = u6 → u5.toInt ≤ u6.toInt → Q (some (.int v)) hx9) : ∀ (g0 : Int32) (g1 : Int32) (g2 : Int32) (g3 : Int32) (g4 : Int32) (g5 : Int32) (h : jH), 0 ≤ g0.toInt ∧ g0.toInt ≤ 200 → 0 ≤ g1.toInt ∧ g1.toInt ≤ 370 → 0 ≤ g2.toInt ∧ g2.toInt ≤ 30 → 0 ≤ g3.toInt ∧ g3.toInt ≤ 100 → 0 ≤ g4.toInt ∧ g4.toInt ≤ 40 → 0 ≤ g5.toInt ∧ g5.toInt ≤ 40 → g1.toInt = g0.toInt + g2.toInt + g3.toInt + g4.toInt → g5.toInt ≤ g4.toInt → jiv h 126 (0 : Int32).toNatClampNeg = g0 → jiv h 126 (16 : Int32).toNatClampNeg = g1 → jiv h 126 (4 : Int32).toNatClampNeg = g2 → jiv h 126 (5 : Int32).toNatClampNeg = g3 → jiv h 126 (7 : Int32).toNatClampNeg = g4 → jiv h 126 (9 : Int32).toNatClampNeg = g5 → jJ jSgM Dy h → jSm fp_X12_split_r125 h0 h → jX m_X12_split 3 0 0 46 [(0, .ref 125)] [] h 0 0 Q := by
  intro g0 g1 g2 g3 g4 g5 h y0 y1 y2 y3 y4 y5 y6 y7 z0 z1 z2 z3 z4 z5  J Sm
  refine x_aloadn (x := 125) rfl rfl ?_
  refine x_iconst (v := (-1)) rfl ki_m1 ?_
  refine x_inv (N := m_X12_told) (As := [.int (-1)]) (b := 125) (st := []) (dx9 := 1) (mc := 0) (ms := 0) (host := "") 12 rfl t_X12_told ⟨Or.inl q_12_197, i_X12_told.1, i_X12_told.2⟩ ⟨by decide, rfl⟩ (congrArg Prod.fst (J.1.1 125 (12, 92) rfl)) rfl (by decide) rfl rfl ⟨by decide, by decide⟩ (sf_X12_told_r125  hD J  (fun v2 h J S1 => ?_))
  have ev2 := jfull v2
  have Sm := jSm_tr rfl Sm S1
  show jX m_X12_split 3 0 0 51 [(0, .ref 125)] [.int v2] _ 0 0 _
  refine x_iret rfl rfl ?_
  exact hQ _ _ J Sm _ _ _ _ _ (jmc S1 rfl z1) (jmc S1 rfl z0) (jmc S1 rfl z2) (jmc S1 rfl z3) (jmc S1 rfl z4) (by omega) _ _ (jmc S1 rfl z5) (jmc S1 rfl z4) (by omega)
set_option maxRecDepth 100000 in
set_option maxHeartbeats 4000000 in
theorem sf_X12_split_r125 {Dy : jH → Prop} {h : jH} {Q : Option Value → jH → Prop} {a1 : Int32} {a2 : Int32} {a3 : Int32} {a4 : Int32} {a5 : Int32} (hD : jDk Dy) (J : jJ jSgM Dy h) {p0 p1 p2 p3 p4 : Int32} {p5 p6 : Int32} (zp0 : jiv h 126 (16 : Int32).toNatClampNeg = p0) (zp1 : jiv h 126 (0 : Int32).toNatClampNeg = p1) (zp2 : jiv h 126 (4 : Int32).toNatClampNeg = p2) (zp3 : jiv h 126 (5 : Int32).toNatClampNeg = p3) (zp4 : jiv h 126 (7 : Int32).toNatClampNeg = p4) (rl_p0 : p0.toInt = p1.toInt + p2.toInt + p3.toInt + p4.toInt) (zp5 : jiv h 126 (9 : Int32).toNatClampNeg = p5) (zp6 : jiv h 126 (7 : Int32).toNatClampNeg = p6) (rl_p5 : p5.toInt ≤ p6.toInt) (hQ : ∀ (v : Int32) hx9, jJ jSgM Dy hx9 → jSm fp_X12_split_r125 h hx9 → ∀ u0 u1 u2 u3 u4 : Int32, jiv hx9 126 (16 : Int32).toNatClampNeg = u0 → jiv hx9 126 (0 : Int32).toNatClampNeg = u1 → jiv hx9 126 (4 : Int32).toNatClampNeg = u2 → jiv hx9 126 (5 : Int32).toNatClampNeg = u3 → jiv hx9 126 (7 : Int32).toNatClampNeg = u4 → u0.toInt = u1.toInt + u2.toInt + u3.toInt + u4.toInt → ∀ u5 u6 : Int32, jiv hx9 126 (9 : Int32).toNatClampNeg = u5 → jiv hx9 126 (7 : Int32).toNatClampNeg = u6 → u5.toInt ≤ u6.toInt → Q (some (.int v)) hx9) : jC m_X12_split 3 0 0 [.ref 125, .int a1, .int a2, .int a3, .int a4, .int a5] h Q := by
  refine jC.of rfl k_X12_split rfl ?_
  have Sm := jSm_rf fp_X12_split_r125 h
  have ep0 := (show 0 ≤ p0.toInt ∧ p0.toInt ≤ 370 from zp0 ▸ jrg_c J sg_126_16_17_1_0_1 jk_16 (by omega))
  have ep1 := (show 0 ≤ p1.toInt ∧ p1.toInt ≤ 200 from zp1 ▸ jrg_c J sg_126_0_1_1_0_1 jk_0 (by omega))
  have ep2 := (show 0 ≤ p2.toInt ∧ p2.toInt ≤ 30 from zp2 ▸ jrg_c J sg_126_4_5_1_0_1 jk_4 (by omega))
  have ep3 := (show 0 ≤ p3.toInt ∧ p3.toInt ≤ 100 from zp3 ▸ jrg_c J sg_126_5_6_1_0_1 jk_5 (by omega))
  have ep4 := (show 0 ≤ p4.toInt ∧ p4.toInt ≤ 40 from zp4 ▸ jrg_c J sg_126_7_8_1_0_1 jk_7 (by omega))
  have ep5 := (show 0 ≤ p5.toInt ∧ p5.toInt ≤ 40 from zp5 ▸ jrg_c J sg_126_9_10_1_0_1 jk_9 (by omega))
  have ep6 := (show 0 ≤ p6.toInt ∧ p6.toInt ≤ 40 from zp6 ▸ jrg_c J sg_126_7_8_1_0_1 jk_7 (by omega))
  obtain rfl : p4 = p6 := zp4.symm.trans zp6
  have ea1 := jfull a1
  have ea2 := jfull a2
  have ea3 := jfull a3
  have ea4 := jfull a4
  have ea5 := jfull a5
  show jX m_X12_split 3 0 0 0 [(0, .ref 125), (1, .int a1), (2, .int a2), (3, .int a3), (4, .int a4), (5, .int a5)] [] _ 0 0 _
  refine x_aloadn (x := 125) rfl rfl ?_
  refine x_iconst (v := 0) rfl ki_0 ?_
  refine z_putI (N := 92) (w := 0) 12 0 rfl f_12_180 rfl (jfin_no TX12 RX12 92 rfl rfl) hD J Sm rfl rfl jk_0 (pw_125_0 (by omega)) rfl (fun h w1 J Sm => ?_)
  refine x_iloadn (x := a3) rfl rfl ?_
  refine z_i2l rfl rfl (fun v2 ev2 => ?_)
  refine x_lconst (v := 1) rfl kl_1 ?_
  refine x_ldc2 (v := 100) rfl z_12_331 ?_
  refine x_inst (N := m_X12_in) (As := [.long v2, .long 1, .long 100]) (st := []) (dx9 := 1) (mc := 0) (ms := 0) (host := "") rfl t_X12_in ⟨Or.inl q_12_188, s_X12_in⟩ rfl (by decide) rfl rfl ⟨by decide, by decide⟩ (zc_X12_in rfl jkl_1 jkl_100 (fun v3 ev3 => ?_))
  show jX m_X12_split 3 0 0 14 [(0, .ref 125), (1, .int a1), (2, .int a2), (3, .int a3), (4, .int a4), (5, .int a5)] [.int v3] _ 0 0 _
  refine x_ifeq (tgt := 46) rfl rfl (ti_eq rfl jk_0 ⟨fun c4 => ?_, fun c4 => ?_⟩)
  ·
    exact jX.sub (jsb_c rfl jsb_n) (ct_X12_split_r125_46 hD hQ  p1 p0 p2 p3 p4 p5 h (jr_of rfl (by omega)) (jr_of rfl (by omega)) (jr_of rfl (by omega)) (jr_of rfl (by omega)) (jr_of rfl (by omega)) (jr_of rfl (by omega)) (by omega) (by omega) (jmo w1 rfl zp1) (jmo w1 rfl zp0) (jmo w1 rfl zp2) (jmo w1 rfl zp3) (jmo w1 rfl zp4) (jmo w1 rfl zp5) J Sm)
  ·
    refine x_iloadn (x := a2) rfl rfl ?_
    refine z_i2l rfl rfl (fun v5 ev5 => ?_)
    refine x_lconst (v := 1) rfl kl_1 ?_
    refine x_iloadn (x := a3) rfl rfl ?_
    refine z_i2l rfl rfl (fun v6 ev6 => ?_)
    refine x_lconst (v := 1) rfl kl_1 ?_
    refine z_lsub rfl rfl jkl_1 (by omega) (fun v7 ev7 => ?_)
    refine x_inst (N := m_X12_in) (As := [.long v5, .long 1, .long v7]) (st := []) (dx9 := 1) (mc := 0) (ms := 0) (host := "") rfl t_X12_in ⟨Or.inl q_12_188, s_X12_in⟩ rfl (by decide) rfl rfl ⟨by decide, by decide⟩ (zc_X12_in rfl jkl_1 rfl (fun v8 ev8 => ?_))
    show jX m_X12_split 3 0 0 27 [(0, .ref 125), (1, .int a1), (2, .int a2), (3, .int a3), (4, .int a4), (5, .int a5)] [.int v8] _ 0 0 _
    refine x_ifeq (tgt := 46) rfl rfl (ti_eq rfl jk_0 ⟨fun c9 => ?_, fun c9 => ?_⟩)
    ·
      exact jX.sub (jsb_c rfl jsb_n) (ct_X12_split_r125_46 hD hQ  p1 p0 p2 p3 p4 p5 h (jr_of rfl (by omega)) (jr_of rfl (by omega)) (jr_of rfl (by omega)) (jr_of rfl (by omega)) (jr_of rfl (by omega)) (jr_of rfl (by omega)) (by omega) (by omega) (jmo w1 rfl zp1) (jmo w1 rfl zp0) (jmo w1 rfl zp2) (jmo w1 rfl zp3) (jmo w1 rfl zp4) (jmo w1 rfl zp5) J Sm)
    ·
      refine x_iload (x := a4) rfl rfl ?_
      refine x_inst (N := m_X12_isDay) (As := [.int a4]) (st := []) (dx9 := 2) (mc := 0) (ms := 0) (host := "") rfl t_X12_isDay ⟨Or.inl q_12_273, s_X12_isDay⟩ rfl (by decide) rfl rfl ⟨by decide, by decide⟩ (zc_X12_isDay (d := 1) rfl (fun v10 ev10 => ?_))
      show jX m_X12_split 3 0 0 35 [(0, .ref 125), (1, .int a1), (2, .int a2), (3, .int a3), (4, .int a4), (5, .int a5)] [.int v10] _ 0 0 _
      refine x_ifeq (tgt := 46) rfl rfl (ti_eq rfl jk_0 ⟨fun c11 => ?_, fun c11 => ?_⟩)
      ·
        exact jX.sub (jsb_c rfl jsb_n) (ct_X12_split_r125_46 hD hQ  p1 p0 p2 p3 p4 p5 h (jr_of rfl (by omega)) (jr_of rfl (by omega)) (jr_of rfl (by omega)) (jr_of rfl (by omega)) (jr_of rfl (by omega)) (jr_of rfl (by omega)) (by omega) (by omega) (jmo w1 rfl zp1) (jmo w1 rfl zp0) (jmo w1 rfl zp2) (jmo w1 rfl zp3) (jmo w1 rfl zp4) (jmo w1 rfl zp5) J Sm)
      ·
        refine x_iload (x := a5) rfl rfl ?_
        refine x_inst (N := m_X12_isDay) (As := [.int a5]) (st := []) (dx9 := 2) (mc := 0) (ms := 0) (host := "") rfl t_X12_isDay ⟨Or.inl q_12_273, s_X12_isDay⟩ rfl (by decide) rfl rfl ⟨by decide, by decide⟩ (zc_X12_isDay (d := 1) rfl (fun v12 ev12 => ?_))
        show jX m_X12_split 3 0 0 43 [(0, .ref 125), (1, .int a1), (2, .int a2), (3, .int a3), (4, .int a4), (5, .int a5)] [.int v12] _ 0 0 _
        refine x_ifne (tgt := 52) rfl rfl (ti_ne rfl jk_0 ⟨fun c13 => ?_, fun c13 => ?_⟩)
        ·
          refine x_aloadn (x := 125) rfl rfl ?_
          refine x_iloadn (x := a1) rfl rfl ?_
          refine x_inv (N := m_X12_isHolding) (As := [.int a1]) (b := 125) (st := []) (dx9 := 2) (mc := 0) (ms := 0) (host := "") 12 rfl t_X12_isHolding ⟨Or.inl q_12_811, i_X12_isHolding.1, i_X12_isHolding.2⟩ ⟨by decide, rfl⟩ (congrArg Prod.fst (J.1.1 125 (12, 92) rfl)) rfl (by decide) rfl rfl ⟨by decide, by decide⟩ (jC.of rfl k_X12_isHolding rfl ?_)
          show jX m_X12_isHolding 2 0 0 0 [(0, .ref 125), (1, .int a1)] [] _ 0 0 _
          refine x_iloadn (x := a1) rfl rfl ?_
          refine z_i2l rfl rfl (fun v14 ev14 => ?_)
          refine x_lconst (v := 0) rfl kl_0 ?_
          refine x_aloadn (x := 125) rfl rfl ?_
          refine z_getR (N := 92) (b := 126) 12 2 rfl f_12_8 rfl J rfl 16002 ⟨rfl, rfl⟩ rfl ?_
          refine x_bipush (v := 7) rfl kb_7 ?_
          refine z_ialdM (N := 50660) (v := p4) rfl J rfl jk_7 (by omega) (jmo w1 rfl zp4) ?_
          refine z_i2l rfl rfl (fun v15 ev15 => ?_)
          refine x_lconst (v := 1) rfl kl_1 ?_
          refine z_lsub rfl rfl jkl_1 (by omega) (fun v16 ev16 => ?_)
          refine x_inst (N := m_X12_in) (As := [.long v14, .long 0, .long v16]) (st := []) (dx9 := 1) (mc := 0) (ms := 0) (host := "") rfl t_X12_in ⟨Or.inl q_12_188, s_X12_in⟩ rfl (by decide) rfl rfl ⟨by decide, by decide⟩ (zc_X12_in rfl jkl_0 rfl (fun v17 ev17 => ?_))
          show jX m_X12_isHolding 2 0 0 16 [(0, .ref 125), (1, .int a1)] [.int v17] _ 0 0 _
          refine x_zret rfl rfl (jz01 (by omega)) ?_
          show jX m_X12_split 3 0 0 57 [(0, .ref 125), (1, .int a1), (2, .int a2), (3, .int a3), (4, .int a4), (5, .int a5)] [.int v17] _ 0 0 _
          refine x_ifne (tgt := 67) rfl rfl (ti_ne rfl jk_0 ⟨fun c18 => ?_, fun c18 => ?_⟩)
          ·
            refine x_aloadn (x := 125) rfl rfl ?_
            refine z_getR (N := 92) (b := 126) 12 2 rfl f_12_8 rfl J rfl 16002 ⟨rfl, rfl⟩ rfl ?_
            refine x_bipush (v := 7) rfl kb_7 ?_
            refine z_ialdM (N := 50660) (v := p4) rfl J rfl jk_7 (by omega) (jmo w1 rfl zp4) ?_
            refine x_bipush (v := 40) rfl kb_40 ?_
            refine x_icne (tgt := 86) rfl rfl (ti_ne rfl jk_40 ⟨fun c19 => ?_, fun c19 => ?_⟩)
            ·
              refine x_ldcw (v := 47660) rfl z_12_799 ?_
              refine x_bipush (v := 6) rfl kb_6 ?_
              refine x_aloadn (x := 125) rfl rfl ?_
              refine z_getR (N := 92) (b := 126) 12 2 rfl f_12_8 rfl J rfl 16002 ⟨rfl, rfl⟩ rfl ?_
              refine x_bipush (v := 9) rfl kb_9 ?_
              refine z_ialdM (N := 50660) (v := p5) rfl J rfl jk_9 (by omega) (jmo w1 rfl zp5) ?_
              refine z_imul rfl jk_6 rfl (by omega) (fun v20 ev20 => ?_)
              refine z_iadd rfl jk_47660 rfl (by omega) (fun v21 ev21 => ?_)
              refine x_istore (lsx9 := [(6, .int v21), (0, .ref 125), (1, .int a1), (2, .int a2), (3, .int a3), (4, .int a4), (5, .int a5)]) rfl rfl rfl ?_
              refine x_aloadn (x := 125) rfl rfl ?_
              refine z_getR (N := 92) (b := 126) 12 2 rfl f_12_8 rfl J rfl 16002 ⟨rfl, rfl⟩ rfl ?_
              refine x_iload (x := v21) rfl rfl ?_
              refine x_aloadn (x := 125) rfl rfl ?_
              refine z_getR (N := 92) (b := 126) 12 2 rfl f_12_8 rfl J rfl 16002 ⟨rfl, rfl⟩ rfl ?_
              refine x_bipush (v := 7) rfl kb_7 ?_
              refine z_ialdM (N := 50660) (v := p4) rfl J rfl jk_7 (by omega) (jmo w1 rfl zp4) ?_
              refine z_iastB (N := 50660) (l := 47660) (u := 47900) (w := p4.toInt) rfl hD J Sm rfl rfl (by omega) rfl (wr_126_47660 (by omega) (fun q1 q2 q3 q4 => by omega) (fun q1 q2 q3 q4 => by omega) (fun q1 q2 q3 q4 => by omega) (fun q1 q2 q3 q4 => by omega) (fun q1 q2 q3 q4 => by omega) (fun q1 q2 q3 q4 => by omega)) (jB_sp (hD.2.2.2.1 h J.2.2) (jmo w1 rfl zp5) (by omega)) rfl (fun h w22 J Sm => ?_)
              refine x_aloadn (x := 125) rfl rfl ?_
              refine z_getR (N := 92) (b := 126) 12 2 rfl f_12_8 rfl J rfl 16002 ⟨rfl, rfl⟩ rfl ?_
              refine x_iload (x := v21) rfl rfl ?_
              refine x_iconst (v := 1) rfl ki_1 ?_
              refine z_iadd rfl rfl jk_1 (by omega) (fun v23 ev23 => ?_)
              refine x_iloadn (x := a1) rfl rfl ?_
              refine z_iastB (N := 50660) (l := 47660) (u := 47900) (w := a1.toInt) rfl hD J Sm rfl rfl (by omega) rfl (wr_126_47660 (by omega) (fun q1 q2 q3 q4 => by omega) (fun q1 q2 q3 q4 => by omega) (fun q1 q2 q3 q4 => by omega) (fun q1 q2 q3 q4 => by omega) (fun q1 q2 q3 q4 => by omega) (fun q1 q2 q3 q4 => by omega)) (jB_sp (hD.2.2.2.1 h J.2.2) (jmo2 w22 rfl jk_9 (by omega) (jmo w1 rfl zp5)) (by omega)) rfl (fun h w24 J Sm => ?_)
              refine x_aloadn (x := 125) rfl rfl ?_
              refine z_getR (N := 92) (b := 126) 12 2 rfl f_12_8 rfl J rfl 16002 ⟨rfl, rfl⟩ rfl ?_
              refine x_iload (x := v21) rfl rfl ?_
              refine x_iconst (v := 2) rfl ki_2 ?_
              refine z_iadd rfl rfl jk_2 (by omega) (fun v25 ev25 => ?_)
              refine x_iloadn (x := a2) rfl rfl ?_
              refine z_iastB (N := 50660) (l := 47660) (u := 47900) (w := a2.toInt) rfl hD J Sm rfl rfl (by omega) rfl (wr_126_47660 (by omega) (fun q1 q2 q3 q4 => by omega) (fun q1 q2 q3 q4 => by omega) (fun q1 q2 q3 q4 => by omega) (fun q1 q2 q3 q4 => by omega) (fun q1 q2 q3 q4 => by omega) (fun q1 q2 q3 q4 => by omega)) (jB_sp (hD.2.2.2.1 h J.2.2) (jmo2 w24 rfl jk_9 (by omega) (jmo2 w22 rfl jk_9 (by omega) (jmo w1 rfl zp5))) (by omega)) rfl (fun h w26 J Sm => ?_)
              refine x_aloadn (x := 125) rfl rfl ?_
              refine z_getR (N := 92) (b := 126) 12 2 rfl f_12_8 rfl J rfl 16002 ⟨rfl, rfl⟩ rfl ?_
              refine x_iload (x := v21) rfl rfl ?_
              refine x_iconst (v := 3) rfl ki_3 ?_
              refine z_iadd rfl rfl jk_3 (by omega) (fun v27 ev27 => ?_)
              refine x_iloadn (x := a3) rfl rfl ?_
              refine z_iastB (N := 50660) (l := 47660) (u := 47900) (w := a3.toInt) rfl hD J Sm rfl rfl (by omega) rfl (wr_126_47660 (by omega) (fun q1 q2 q3 q4 => by omega) (fun q1 q2 q3 q4 => by omega) (fun q1 q2 q3 q4 => by omega) (fun q1 q2 q3 q4 => by omega) (fun q1 q2 q3 q4 => by omega) (fun q1 q2 q3 q4 => by omega)) (jB_sp (hD.2.2.2.1 h J.2.2) (jmo2 w26 rfl jk_9 (by omega) (jmo2 w24 rfl jk_9 (by omega) (jmo2 w22 rfl jk_9 (by omega) (jmo w1 rfl zp5)))) (by omega)) rfl (fun h w28 J Sm => ?_)
              refine x_aloadn (x := 125) rfl rfl ?_
              refine z_getR (N := 92) (b := 126) 12 2 rfl f_12_8 rfl J rfl 16002 ⟨rfl, rfl⟩ rfl ?_
              refine x_iload (x := v21) rfl rfl ?_
              refine x_iconst (v := 4) rfl ki_4 ?_
              refine z_iadd rfl rfl jk_4 (by omega) (fun v29 ev29 => ?_)
              refine x_iload (x := a4) rfl rfl ?_
              refine z_iastB (N := 50660) (l := 47660) (u := 47900) (w := a4.toInt) rfl hD J Sm rfl rfl (by omega) rfl (wr_126_47660 (by omega) (fun q1 q2 q3 q4 => by omega) (fun q1 q2 q3 q4 => by omega) (fun q1 q2 q3 q4 => by omega) (fun q1 q2 q3 q4 => by omega) (fun q1 q2 q3 q4 => by omega) (fun q1 q2 q3 q4 => by omega)) (jB_sp (hD.2.2.2.1 h J.2.2) (jmo2 w28 rfl jk_9 (by omega) (jmo2 w26 rfl jk_9 (by omega) (jmo2 w24 rfl jk_9 (by omega) (jmo2 w22 rfl jk_9 (by omega) (jmo w1 rfl zp5))))) (by omega)) rfl (fun h w30 J Sm => ?_)
              refine x_aloadn (x := 125) rfl rfl ?_
              refine z_getR (N := 92) (b := 126) 12 2 rfl f_12_8 rfl J rfl 16002 ⟨rfl, rfl⟩ rfl ?_
              refine x_iload (x := v21) rfl rfl ?_
              refine x_iconst (v := 5) rfl ki_5 ?_
              refine z_iadd rfl rfl jk_5 (by omega) (fun v31 ev31 => ?_)
              refine x_iload (x := a5) rfl rfl ?_
              refine z_iastB (N := 50660) (l := 47660) (u := 47900) (w := a5.toInt) rfl hD J Sm rfl rfl (by omega) rfl (wr_126_47660 (by omega) (fun q1 q2 q3 q4 => by omega) (fun q1 q2 q3 q4 => by omega) (fun q1 q2 q3 q4 => by omega) (fun q1 q2 q3 q4 => by omega) (fun q1 q2 q3 q4 => by omega) (fun q1 q2 q3 q4 => by omega)) (jB_sp (hD.2.2.2.1 h J.2.2) (jmo2 w30 rfl jk_9 (by omega) (jmo2 w28 rfl jk_9 (by omega) (jmo2 w26 rfl jk_9 (by omega) (jmo2 w24 rfl jk_9 (by omega) (jmo2 w22 rfl jk_9 (by omega) (jmo w1 rfl zp5)))))) (by omega)) rfl (fun h w32 J Sm => ?_)
              refine x_aloadn (x := 125) rfl rfl ?_
              refine z_getR (N := 92) (b := 126) 12 2 rfl f_12_8 rfl J rfl 16002 ⟨rfl, rfl⟩ rfl ?_
              refine x_bipush (v := 9) rfl kb_9 ?_
              refine x_dup2 rfl rfl rfl ?_
              refine z_ialdM (N := 50660) (v := p5) rfl J rfl jk_9 (by omega) (jmo2 w32 rfl jk_9 (by omega) (jmo2 w30 rfl jk_9 (by omega) (jmo2 w28 rfl jk_9 (by omega) (jmo2 w26 rfl jk_9 (by omega) (jmo2 w24 rfl jk_9 (by omega) (jmo2 w22 rfl jk_9 (by omega) (jmo w1 rfl zp5))))))) ?_
              refine x_iconst (v := 1) rfl ki_1 ?_
              refine z_iadd rfl rfl jk_1 (by omega) (fun v33 ev33 => ?_)
              refine z_iastB (N := 50660) (l := 9) (u := 10) (w := v33.toInt) rfl hD J Sm rfl jk_9 (by omega) rfl (wr_126_9 (by omega) (fun q1 q2 q3 q4 => by omega)) (jB_s9 (hD.2.2.2.1 h J.2.2) (jmo2 w32 rfl jk_9 (by omega) (jmo2 w30 rfl jk_9 (by omega) (jmo2 w28 rfl jk_9 (by omega) (jmo2 w26 rfl jk_9 (by omega) (jmo2 w24 rfl jk_9 (by omega) (jmo2 w22 rfl jk_9 (by omega) (jmo w1 rfl zp5))))))) (by omega) (jmo2 w32 rfl rfl (by omega) (jmo2 w30 rfl rfl (by omega) (jmw w28))) (by omega) (by omega)) rfl (fun h w34 J Sm => ?_)
              refine x_aloadn (x := 125) rfl rfl ?_
              refine z_getR (N := 92) (b := 126) 12 2 rfl f_12_8 rfl J rfl 16002 ⟨rfl, rfl⟩ rfl ?_
              refine x_bipush (v := 7) rfl kb_7 ?_
              refine x_dup2 rfl rfl rfl ?_
              refine z_ialdM (N := 50660) (v := p4) rfl J rfl jk_7 (by omega) (jmo2 w34 jk_9 jk_7 (by omega) (jmo2 w32 rfl jk_7 (by omega) (jmo2 w30 rfl jk_7 (by omega) (jmo2 w28 rfl jk_7 (by omega) (jmo2 w26 rfl jk_7 (by omega) (jmo2 w24 rfl jk_7 (by omega) (jmo2 w22 rfl jk_7 (by omega) (jmo w1 rfl zp4)))))))) ?_
              refine x_iconst (v := 1) rfl ki_1 ?_
              refine z_iadd rfl rfl jk_1 (by omega) (fun v35 ev35 => ?_)
              refine z_iast (N := 50660) (l := 7) (u := 8) (w := v35.toInt) rfl hD J Sm rfl rfl jk_7 (by omega) rfl (wr_126_7 (by omega) (fun q1 q2 q3 q4 => by omega)) rfl (fun h w36 J Sm => ?_)
              refine x_aloadn (x := 125) rfl rfl ?_
              refine x_iconst (v := 3) rfl ki_3 ?_
              refine x_aloadn (x := 125) rfl rfl ?_
              refine z_getR (N := 92) (b := 126) 12 2 rfl f_12_8 rfl J rfl 16002 ⟨rfl, rfl⟩ rfl ?_
              refine x_bipush (v := 7) rfl kb_7 ?_
              refine z_ialdM (N := 50660) (v := v35) rfl J rfl jk_7 (by omega) (jmw w36) ?_
              refine x_iconst (v := 1) rfl ki_1 ?_
              refine z_isub rfl rfl jk_1 (by omega) (fun v37 ev37 => ?_)
              refine x_inv (N := m_X12_thing) (As := [.int 3, .int v37]) (b := 125) (st := []) (dx9 := 2) (mc := 0) (ms := 0) (host := "") 12 rfl t_X12_thing ⟨Or.inl q_12_289, i_X12_thing.1, i_X12_thing.2⟩ ⟨by decide, rfl⟩ (congrArg Prod.fst (J.1.1 125 (12, 92) rfl)) rfl (by decide) rfl rfl ⟨by decide, by decide⟩ (jC.of rfl k_X12_thing rfl ?_)
              show jX m_X12_thing 2 0 0 0 [(0, .ref 125), (1, .int 3), (2, .int v37)] [] _ 0 0 _
              refine x_ldc (v := 49920) rfl z_12_194 ?_
              refine x_iconst (v := 2) rfl ki_2 ?_
              refine x_aloadn (x := 125) rfl rfl ?_
              refine z_getR (N := 92) (b := 126) 12 2 rfl f_12_8 rfl J rfl 16002 ⟨rfl, rfl⟩ rfl ?_
              refine x_bipush (v := 16) rfl kb_16 ?_
              refine z_ialdM (N := 50660) (v := p0) rfl J rfl jk_16 (by omega) (jmo2 w36 jk_7 jk_16 (by omega) (jmo2 w34 jk_9 jk_16 (by omega) (jmo2 w32 rfl jk_16 (by omega) (jmo2 w30 rfl jk_16 (by omega) (jmo2 w28 rfl jk_16 (by omega) (jmo2 w26 rfl jk_16 (by omega) (jmo2 w24 rfl jk_16 (by omega) (jmo2 w22 rfl jk_16 (by omega) (jmo w1 rfl zp0))))))))) ?_
              refine z_imul rfl jk_2 rfl (by omega) (fun v38 ev38 => ?_)
              refine z_iadd rfl jk_49920 rfl (by omega) (fun v39 ev39 => ?_)
              refine x_istoren (lsx9 := [(3, .int v39), (0, .ref 125), (1, .int 3), (2, .int v37)]) rfl rfl rfl ?_
              refine x_aloadn (x := 125) rfl rfl ?_
              refine z_getR (N := 92) (b := 126) 12 2 rfl f_12_8 rfl J rfl 16002 ⟨rfl, rfl⟩ rfl ?_
              refine x_iloadn (x := v39) rfl rfl ?_
              refine x_iloadn (x := 3) rfl rfl ?_
              refine z_iast (N := 50660) (l := 49920) (u := 50660) (w := 3) rfl hD J Sm rfl rfl rfl (by omega) jk_3 (wr_126_49920 (by omega) (fun q1 q2 q3 q4 => by omega) (fun q1 q2 q3 q4 => by omega)) rfl (fun h w40 J Sm => ?_)
              refine x_aloadn (x := 125) rfl rfl ?_
              refine z_getR (N := 92) (b := 126) 12 2 rfl f_12_8 rfl J rfl 16002 ⟨rfl, rfl⟩ rfl ?_
              refine x_iloadn (x := v39) rfl rfl ?_
              refine x_iconst (v := 1) rfl ki_1 ?_
              refine z_iadd rfl rfl jk_1 (by omega) (fun v41 ev41 => ?_)
              refine x_iloadn (x := v37) rfl rfl ?_
              refine z_iast (N := 50660) (l := 49920) (u := 50660) (w := v37.toInt) rfl hD J Sm rfl rfl rfl (by omega) rfl (wr_126_49920 (by omega) (fun q1 q2 q3 q4 => by omega) (fun q1 q2 q3 q4 => by omega)) rfl (fun h w42 J Sm => ?_)
              refine x_aloadn (x := 125) rfl rfl ?_
              refine z_getR (N := 92) (b := 126) 12 2 rfl f_12_8 rfl J rfl 16002 ⟨rfl, rfl⟩ rfl ?_
              refine x_bipush (v := 16) rfl kb_16 ?_
              refine x_dup2 rfl rfl rfl ?_
              refine z_ialdM (N := 50660) (v := p0) rfl J rfl jk_16 (by omega) (jmo2 w42 rfl jk_16 (by omega) (jmo2 w40 rfl jk_16 (by omega) (jmo2 w36 jk_7 jk_16 (by omega) (jmo2 w34 jk_9 jk_16 (by omega) (jmo2 w32 rfl jk_16 (by omega) (jmo2 w30 rfl jk_16 (by omega) (jmo2 w28 rfl jk_16 (by omega) (jmo2 w26 rfl jk_16 (by omega) (jmo2 w24 rfl jk_16 (by omega) (jmo2 w22 rfl jk_16 (by omega) (jmo w1 rfl zp0))))))))))) ?_
              refine x_iconst (v := 1) rfl ki_1 ?_
              refine z_iadd rfl rfl jk_1 (by omega) (fun v43 ev43 => ?_)
              refine z_iast (N := 50660) (l := 16) (u := 17) (w := v43.toInt) rfl hD J Sm rfl rfl jk_16 (by omega) rfl (wr_126_16 (by omega) (fun q1 q2 q3 q4 => by omega)) rfl (fun h w44 J Sm => ?_)
              refine x_vret rfl rfl ?_
              show jX m_X12_split 3 0 0 204 [(6, .int v21), (0, .ref 125), (1, .int a1), (2, .int a2), (3, .int a3), (4, .int a4), (5, .int a5)] [] _ 0 0 _
              refine x_aloadn (x := 125) rfl rfl ?_
              refine x_aloadn (x := 125) rfl rfl ?_
              refine z_getR (N := 92) (b := 126) 12 2 rfl f_12_8 rfl J rfl 16002 ⟨rfl, rfl⟩ rfl ?_
              refine x_bipush (v := 7) rfl kb_7 ?_
              refine z_ialdM (N := 50660) (v := v35) rfl J rfl jk_7 (by omega) (jmo2 w44 jk_16 jk_7 (by omega) (jmo2 w42 rfl jk_7 (by omega) (jmo2 w40 rfl jk_7 (by omega) (jmw w36)))) ?_
              refine x_iconst (v := 1) rfl ki_1 ?_
              refine z_isub rfl rfl jk_1 (by omega) (fun v45 ev45 => ?_)
              refine x_inv (N := m_X12_told) (As := [.int v45]) (b := 125) (st := []) (dx9 := 1) (mc := 0) (ms := 0) (host := "") 12 rfl t_X12_told ⟨Or.inl q_12_197, i_X12_told.1, i_X12_told.2⟩ ⟨by decide, rfl⟩ (congrArg Prod.fst (J.1.1 125 (12, 92) rfl)) rfl (by decide) rfl rfl ⟨by decide, by decide⟩ (sf_X12_told_r125  hD J  (fun v47 h J S46 => ?_))
              have ev47 := jfull v47
              have Sm := jSm_tr rfl Sm S46
              show jX m_X12_split 3 0 0 217 [(6, .int v21), (0, .ref 125), (1, .int a1), (2, .int a2), (3, .int a3), (4, .int a4), (5, .int a5)] [.int v47] _ 0 0 _
              refine x_iret rfl rfl ?_
              exact hQ _ _ J Sm _ _ _ _ _ (jmc S46 rfl (jmw w44)) (jmc S46 rfl (jmo2 w44 jk_16 jk_0 (by omega) (jmo2 w42 rfl jk_0 (by omega) (jmo2 w40 rfl jk_0 (by omega) (jmo2 w36 jk_7 jk_0 (by omega) (jmo2 w34 jk_9 jk_0 (by omega) (jmo2 w32 rfl jk_0 (by omega) (jmo2 w30 rfl jk_0 (by omega) (jmo2 w28 rfl jk_0 (by omega) (jmo2 w26 rfl jk_0 (by omega) (jmo2 w24 rfl jk_0 (by omega) (jmo2 w22 rfl jk_0 (by omega) (jmo w1 rfl zp1))))))))))))) (jmc S46 rfl (jmo2 w44 jk_16 jk_4 (by omega) (jmo2 w42 rfl jk_4 (by omega) (jmo2 w40 rfl jk_4 (by omega) (jmo2 w36 jk_7 jk_4 (by omega) (jmo2 w34 jk_9 jk_4 (by omega) (jmo2 w32 rfl jk_4 (by omega) (jmo2 w30 rfl jk_4 (by omega) (jmo2 w28 rfl jk_4 (by omega) (jmo2 w26 rfl jk_4 (by omega) (jmo2 w24 rfl jk_4 (by omega) (jmo2 w22 rfl jk_4 (by omega) (jmo w1 rfl zp2))))))))))))) (jmc S46 rfl (jmo2 w44 jk_16 jk_5 (by omega) (jmo2 w42 rfl jk_5 (by omega) (jmo2 w40 rfl jk_5 (by omega) (jmo2 w36 jk_7 jk_5 (by omega) (jmo2 w34 jk_9 jk_5 (by omega) (jmo2 w32 rfl jk_5 (by omega) (jmo2 w30 rfl jk_5 (by omega) (jmo2 w28 rfl jk_5 (by omega) (jmo2 w26 rfl jk_5 (by omega) (jmo2 w24 rfl jk_5 (by omega) (jmo2 w22 rfl jk_5 (by omega) (jmo w1 rfl zp3))))))))))))) (jmc S46 rfl (jmo2 w44 jk_16 jk_7 (by omega) (jmo2 w42 rfl jk_7 (by omega) (jmo2 w40 rfl jk_7 (by omega) (jmw w36))))) (by omega) _ _ (jmc S46 rfl (jmo2 w44 jk_16 jk_9 (by omega) (jmo2 w42 rfl jk_9 (by omega) (jmo2 w40 rfl jk_9 (by omega) (jmo2 w36 jk_7 jk_9 (by omega) (jmw w34)))))) (jmc S46 rfl (jmo2 w44 jk_16 jk_7 (by omega) (jmo2 w42 rfl jk_7 (by omega) (jmo2 w40 rfl jk_7 (by omega) (jmw w36))))) (by omega)
            ·
              refine x_aloadn (x := 125) rfl rfl ?_
              refine x_bipush (v := (-5)) rfl kb_m5 ?_
              refine x_inv (N := m_X12_told) (As := [.int (-5)]) (b := 125) (st := []) (dx9 := 1) (mc := 0) (ms := 0) (host := "") 12 rfl t_X12_told ⟨Or.inl q_12_197, i_X12_told.1, i_X12_told.2⟩ ⟨by decide, rfl⟩ (congrArg Prod.fst (J.1.1 125 (12, 92) rfl)) rfl (by decide) rfl rfl ⟨by decide, by decide⟩ (sf_X12_told_r125  hD J  (fun v49 h J S48 => ?_))
              have ev49 := jfull v49
              have Sm := jSm_tr rfl Sm S48
              show jX m_X12_split 3 0 0 85 [(0, .ref 125), (1, .int a1), (2, .int a2), (3, .int a3), (4, .int a4), (5, .int a5)] [.int v49] _ 0 0 _
              refine x_iret rfl rfl ?_
              exact hQ _ _ J Sm _ _ _ _ _ (jmc S48 rfl (jmo w1 rfl zp0)) (jmc S48 rfl (jmo w1 rfl zp1)) (jmc S48 rfl (jmo w1 rfl zp2)) (jmc S48 rfl (jmo w1 rfl zp3)) (jmc S48 rfl (jmo w1 rfl zp4)) (by omega) _ _ (jmc S48 rfl (jmo w1 rfl zp5)) (jmc S48 rfl (jmo w1 rfl zp4)) (by omega)
          ·
            refine x_aloadn (x := 125) rfl rfl ?_
            refine x_bipush (v := (-2)) rfl kb_m2 ?_
            refine x_inv (N := m_X12_told) (As := [.int (-2)]) (b := 125) (st := []) (dx9 := 1) (mc := 0) (ms := 0) (host := "") 12 rfl t_X12_told ⟨Or.inl q_12_197, i_X12_told.1, i_X12_told.2⟩ ⟨by decide, rfl⟩ (congrArg Prod.fst (J.1.1 125 (12, 92) rfl)) rfl (by decide) rfl rfl ⟨by decide, by decide⟩ (sf_X12_told_r125  hD J  (fun v51 h J S50 => ?_))
            have ev51 := jfull v51
            have Sm := jSm_tr rfl Sm S50
            show jX m_X12_split 3 0 0 66 [(0, .ref 125), (1, .int a1), (2, .int a2), (3, .int a3), (4, .int a4), (5, .int a5)] [.int v51] _ 0 0 _
            refine x_iret rfl rfl ?_
            exact hQ _ _ J Sm _ _ _ _ _ (jmc S50 rfl (jmo w1 rfl zp0)) (jmc S50 rfl (jmo w1 rfl zp1)) (jmc S50 rfl (jmo w1 rfl zp2)) (jmc S50 rfl (jmo w1 rfl zp3)) (jmc S50 rfl (jmo w1 rfl zp4)) (by omega) _ _ (jmc S50 rfl (jmo w1 rfl zp5)) (jmc S50 rfl (jmo w1 rfl zp4)) (by omega)
        ·
          exact jX.sub (jsb_c rfl jsb_n) (ct_X12_split_r125_46 hD hQ  p1 p0 p2 p3 p4 p5 h (jr_of rfl (by omega)) (jr_of rfl (by omega)) (jr_of rfl (by omega)) (jr_of rfl (by omega)) (jr_of rfl (by omega)) (jr_of rfl (by omega)) (by omega) (by omega) (jmo w1 rfl zp1) (jmo w1 rfl zp0) (jmo w1 rfl zp2) (jmo w1 rfl zp3) (jmo w1 rfl zp4) (jmo w1 rfl zp5) J Sm)
def fp_X12_status_r125 : jFp := [(125, 0, 1)]
set_option maxRecDepth 100000 in
set_option maxHeartbeats 4000000 in
theorem sf_X12_status_r125 {Dy : jH → Prop} {h : jH} {Q : Option Value → jH → Prop} (hD : jDk Dy) (J : jJ jSgM Dy h) (hQ : ∀ (v : Int32) hx9, (-2147483648) ≤ v.toInt ∧ v.toInt ≤ 0 → jJ jSgM Dy hx9 → jSm fp_X12_status_r125 h hx9 → Q (some (.int v)) hx9) : jC m_X12_status 1 0 0 [.ref 125] h Q := by
  refine jC.of rfl k_X12_status rfl ?_
  have Sm := jSm_rf fp_X12_status_r125 h
  show jX m_X12_status 1 0 0 0 [(0, .ref 125)] [] _ 0 0 _
  refine x_aloadn (x := 125) rfl rfl ?_
  refine x_iconst (v := 0) rfl ki_0 ?_
  refine z_putI (N := 92) (w := 0) 12 0 rfl f_12_180 rfl (jfin_no TX12 RX12 92 rfl rfl) hD J Sm rfl rfl jk_0 (pw_125_0 (by omega)) rfl (fun h w1 J Sm => ?_)
  refine x_aloadn (x := 125) rfl rfl ?_
  refine z_getI (N := 92) 12 1 rfl f_12_183 rfl J rfl sg_125_1_2_1_0_1 (fun v2 qv2 ev2 => ?_)
  refine x_iret rfl rfl ?_
  exact hQ _ _ (jr_of rfl (by omega)) J Sm
def fp_X12_terms_r125 : jFp := [(125, 0, 1), (125, 1, 2), (125, 23, 24), (125, 24, 25), (125, 25, 26), (125, 26, 27), (125, 27, 28)]
set_option maxRecDepth 100000 in
set_option maxHeartbeats 4000000 in
theorem ct_X12_terms_r125_67 {Dy : jH → Prop} {h0 : jH} {Q : Option Value → jH → Prop} (hD : jDk Dy) (hQ : ∀ (v : Int32) hx9, jJ jSgM Dy hx9 → jSm fp_X12_terms_r125 h0 hx9 → Q (some (.int v)) hx9) : ∀ (h : jH), jJ jSgM Dy h → jSm fp_X12_terms_r125 h0 h → jX m_X12_terms 2 0 0 67 [(0, .ref 125)] [] h 0 0 Q := by
  intro  h    J Sm
  refine x_aloadn (x := 125) rfl rfl ?_
  refine x_iconst (v := (-1)) rfl ki_m1 ?_
  refine x_inv (N := m_X12_told) (As := [.int (-1)]) (b := 125) (st := []) (dx9 := 1) (mc := 0) (ms := 0) (host := "") 12 rfl t_X12_told ⟨Or.inl q_12_197, i_X12_told.1, i_X12_told.2⟩ ⟨by decide, rfl⟩ (congrArg Prod.fst (J.1.1 125 (12, 92) rfl)) rfl (by decide) rfl rfl ⟨by decide, by decide⟩ (sf_X12_told_r125  hD J  (fun v2 h J S1 => ?_))
  have ev2 := jfull v2
  have Sm := jSm_tr rfl Sm S1
  show jX m_X12_terms 2 0 0 72 [(0, .ref 125)] [.int v2] _ 0 0 _
  refine x_iret rfl rfl ?_
  exact hQ _ _ J Sm
set_option maxRecDepth 100000 in
set_option maxHeartbeats 4000000 in
theorem sf_X12_terms_r125 {Dy : jH → Prop} {h : jH} {Q : Option Value → jH → Prop} {a1 : Int32} {a2 : Int32} {a3 : Int32} {a4 : Int32} {a5 : Int32} (hD : jDk Dy) (J : jJ jSgM Dy h) (hQ : ∀ (v : Int32) hx9, jJ jSgM Dy hx9 → jSm fp_X12_terms_r125 h hx9 → Q (some (.int v)) hx9) : jC m_X12_terms 2 0 0 [.ref 125, .int a1, .int a2, .int a3, .int a4, .int a5] h Q := by
  refine jC.of rfl k_X12_terms rfl ?_
  have Sm := jSm_rf fp_X12_terms_r125 h
  have ea1 := jfull a1
  have ea2 := jfull a2
  have ea3 := jfull a3
  have ea4 := jfull a4
  have ea5 := jfull a5
  show jX m_X12_terms 2 0 0 0 [(0, .ref 125), (1, .int a1), (2, .int a2), (3, .int a3), (4, .int a4), (5, .int a5)] [] _ 0 0 _
  refine x_aloadn (x := 125) rfl rfl ?_
  refine x_iconst (v := 0) rfl ki_0 ?_
  refine z_putI (N := 92) (w := 0) 12 0 rfl f_12_180 rfl (jfin_no TX12 RX12 92 rfl rfl) hD J Sm rfl rfl jk_0 (pw_125_0 (by omega)) rfl (fun h w1 J Sm => ?_)
  refine x_iloadn (x := a1) rfl rfl ?_
  refine z_i2l rfl rfl (fun v2 ev2 => ?_)
  refine x_lconst (v := 0) rfl kl_0 ?_
  refine x_ldc2 (v := 100) rfl z_12_331 ?_
  refine x_inst (N := m_X12_in) (As := [.long v2, .long 0, .long 100]) (st := []) (dx9 := 1) (mc := 0) (ms := 0) (host := "") rfl t_X12_in ⟨Or.inl q_12_188, s_X12_in⟩ rfl (by decide) rfl rfl ⟨by decide, by decide⟩ (zc_X12_in rfl jkl_0 jkl_100 (fun v3 ev3 => ?_))
  show jX m_X12_terms 2 0 0 14 [(0, .ref 125), (1, .int a1), (2, .int a2), (3, .int a3), (4, .int a4), (5, .int a5)] [.int v3] _ 0 0 _
  refine x_ifeq (tgt := 67) rfl rfl (ti_eq rfl jk_0 ⟨fun c4 => ?_, fun c4 => ?_⟩)
  ·
    exact jX.sub (jsb_c rfl jsb_n) (ct_X12_terms_r125_67 hD hQ  h J Sm)
  ·
    refine x_iloadn (x := a2) rfl rfl ?_
    refine z_i2l rfl rfl (fun v5 ev5 => ?_)
    refine x_lconst (v := 0) rfl kl_0 ?_
    refine x_ldc2 (v := 100) rfl z_12_331 ?_
    refine x_inst (N := m_X12_in) (As := [.long v5, .long 0, .long 100]) (st := []) (dx9 := 1) (mc := 0) (ms := 0) (host := "") rfl t_X12_in ⟨Or.inl q_12_188, s_X12_in⟩ rfl (by decide) rfl rfl ⟨by decide, by decide⟩ (zc_X12_in rfl jkl_0 jkl_100 (fun v6 ev6 => ?_))
    show jX m_X12_terms 2 0 0 26 [(0, .ref 125), (1, .int a1), (2, .int a2), (3, .int a3), (4, .int a4), (5, .int a5)] [.int v6] _ 0 0 _
    refine x_ifeq (tgt := 67) rfl rfl (ti_eq rfl jk_0 ⟨fun c7 => ?_, fun c7 => ?_⟩)
    ·
      exact jX.sub (jsb_c rfl jsb_n) (ct_X12_terms_r125_67 hD hQ  h J Sm)
    ·
      refine x_iloadn (x := a3) rfl rfl ?_
      refine z_i2l rfl rfl (fun v8 ev8 => ?_)
      refine x_lconst (v := 0) rfl kl_0 ?_
      refine x_ldc2 (v := 100) rfl z_12_331 ?_
      refine x_inst (N := m_X12_in) (As := [.long v8, .long 0, .long 100]) (st := []) (dx9 := 1) (mc := 0) (ms := 0) (host := "") rfl t_X12_in ⟨Or.inl q_12_188, s_X12_in⟩ rfl (by decide) rfl rfl ⟨by decide, by decide⟩ (zc_X12_in rfl jkl_0 jkl_100 (fun v9 ev9 => ?_))
      show jX m_X12_terms 2 0 0 38 [(0, .ref 125), (1, .int a1), (2, .int a2), (3, .int a3), (4, .int a4), (5, .int a5)] [.int v9] _ 0 0 _
      refine x_ifeq (tgt := 67) rfl rfl (ti_eq rfl jk_0 ⟨fun c10 => ?_, fun c10 => ?_⟩)
      ·
        exact jX.sub (jsb_c rfl jsb_n) (ct_X12_terms_r125_67 hD hQ  h J Sm)
      ·
        refine x_iload (x := a4) rfl rfl ?_
        refine z_i2l rfl rfl (fun v11 ev11 => ?_)
        refine x_lconst (v := 0) rfl kl_0 ?_
        refine x_ldc2 (v := 100) rfl z_12_331 ?_
        refine x_inst (N := m_X12_in) (As := [.long v11, .long 0, .long 100]) (st := []) (dx9 := 1) (mc := 0) (ms := 0) (host := "") rfl t_X12_in ⟨Or.inl q_12_188, s_X12_in⟩ rfl (by decide) rfl rfl ⟨by decide, by decide⟩ (zc_X12_in rfl jkl_0 jkl_100 (fun v12 ev12 => ?_))
        show jX m_X12_terms 2 0 0 51 [(0, .ref 125), (1, .int a1), (2, .int a2), (3, .int a3), (4, .int a4), (5, .int a5)] [.int v12] _ 0 0 _
        refine x_ifeq (tgt := 67) rfl rfl (ti_eq rfl jk_0 ⟨fun c13 => ?_, fun c13 => ?_⟩)
        ·
          exact jX.sub (jsb_c rfl jsb_n) (ct_X12_terms_r125_67 hD hQ  h J Sm)
        ·
          refine x_iload (x := a5) rfl rfl ?_
          refine z_i2l rfl rfl (fun v14 ev14 => ?_)
          refine x_lconst (v := 0) rfl kl_0 ?_
          refine x_ldc2 (v := 20) rfl z_12_333 ?_
          refine x_inst (N := m_X12_in) (As := [.long v14, .long 0, .long 20]) (st := []) (dx9 := 1) (mc := 0) (ms := 0) (host := "") rfl t_X12_in ⟨Or.inl q_12_188, s_X12_in⟩ rfl (by decide) rfl rfl ⟨by decide, by decide⟩ (zc_X12_in rfl jkl_0 jkl_20 (fun v15 ev15 => ?_))
          show jX m_X12_terms 2 0 0 64 [(0, .ref 125), (1, .int a1), (2, .int a2), (3, .int a3), (4, .int a4), (5, .int a5)] [.int v15] _ 0 0 _
          refine x_ifne (tgt := 73) rfl rfl (ti_ne rfl jk_0 ⟨fun c16 => ?_, fun c16 => ?_⟩)
          ·
            refine x_aloadn (x := 125) rfl rfl ?_
            refine x_iloadn (x := a1) rfl rfl ?_
            refine z_putI (N := 92) (w := a1.toInt) 12 23 rfl f_12_57 rfl (jfin_no TX12 RX12 92 rfl rfl) hD J Sm rfl rfl rfl (pw_125_23 (by omega)) rfl (fun h w17 J Sm => ?_)
            refine x_aloadn (x := 125) rfl rfl ?_
            refine x_iloadn (x := a2) rfl rfl ?_
            refine z_putI (N := 92) (w := a2.toInt) 12 24 rfl f_12_60 rfl (jfin_no TX12 RX12 92 rfl rfl) hD J Sm rfl rfl rfl (pw_125_24 (by omega)) rfl (fun h w18 J Sm => ?_)
            refine x_aloadn (x := 125) rfl rfl ?_
            refine x_iloadn (x := a3) rfl rfl ?_
            refine z_putI (N := 92) (w := a3.toInt) 12 25 rfl f_12_63 rfl (jfin_no TX12 RX12 92 rfl rfl) hD J Sm rfl rfl rfl (pw_125_25 (by omega)) rfl (fun h w19 J Sm => ?_)
            refine x_aloadn (x := 125) rfl rfl ?_
            refine x_iload (x := a4) rfl rfl ?_
            refine z_putI (N := 92) (w := a4.toInt) 12 26 rfl f_12_66 rfl (jfin_no TX12 RX12 92 rfl rfl) hD J Sm rfl rfl rfl (pw_125_26 (by omega)) rfl (fun h w20 J Sm => ?_)
            refine x_aloadn (x := 125) rfl rfl ?_
            refine x_iload (x := a5) rfl rfl ?_
            refine z_putI (N := 92) (w := a5.toInt) 12 27 rfl f_12_69 rfl (jfin_no TX12 RX12 92 rfl rfl) hD J Sm rfl rfl rfl (pw_125_27 (by omega)) rfl (fun h w21 J Sm => ?_)
            refine x_aloadn (x := 125) rfl rfl ?_
            refine x_iconst (v := 0) rfl ki_0 ?_
            refine x_inv (N := m_X12_told) (As := [.int 0]) (b := 125) (st := []) (dx9 := 1) (mc := 0) (ms := 0) (host := "") 12 rfl t_X12_told ⟨Or.inl q_12_197, i_X12_told.1, i_X12_told.2⟩ ⟨by decide, rfl⟩ (congrArg Prod.fst (J.1.1 125 (12, 92) rfl)) rfl (by decide) rfl rfl ⟨by decide, by decide⟩ (sf_X12_told_r125  hD J  (fun v23 h J S22 => ?_))
            have ev23 := jfull v23
            have Sm := jSm_tr rfl Sm S22
            show jX m_X12_terms 2 0 0 105 [(0, .ref 125), (1, .int a1), (2, .int a2), (3, .int a3), (4, .int a4), (5, .int a5)] [.int v23] _ 0 0 _
            refine x_iret rfl rfl ?_
            exact hQ _ _ J Sm
          ·
            exact jX.sub (jsb_c rfl jsb_n) (ct_X12_terms_r125_67 hD hQ  h J Sm)
def fp_X12_together_r125 : jFp := [(125, 0, 1), (125, 1, 2), (125, 28, 29), (125, 31, 32), (125, 57, 58), (126, 2, 3), (126, 18140, 18740), (137, 0, 80), (138, 0, 2), (139, 0, 600), (140, 0, 200)]
set_option maxRecDepth 100000 in
set_option maxHeartbeats 4000000 in
theorem ct_X12_together_r125_34 {Dy : jH → Prop} {h0 : jH} {Q : Option Value → jH → Prop} (hD : jDk Dy) (hQ : ∀ (v : Int32) hx9, jJ jSgM Dy hx9 → jSm fp_X12_together_r125 h0 hx9 → Q (some (.int v)) hx9) : ∀ (h : jH), jJ jSgM Dy h → jSm fp_X12_together_r125 h0 h → jX m_X12_together 9 0 0 34 [(0, .ref 125)] [] h 0 0 Q := by
  intro  h    J Sm
  refine x_aloadn (x := 125) rfl rfl ?_
  refine x_bipush (v := (-2)) rfl kb_m2 ?_
  refine x_inv (N := m_X12_told) (As := [.int (-2)]) (b := 125) (st := []) (dx9 := 1) (mc := 0) (ms := 0) (host := "") 12 rfl t_X12_told ⟨Or.inl q_12_197, i_X12_told.1, i_X12_told.2⟩ ⟨by decide, rfl⟩ (congrArg Prod.fst (J.1.1 125 (12, 92) rfl)) rfl (by decide) rfl rfl ⟨by decide, by decide⟩ (sf_X12_told_r125  hD J  (fun v2 h J S1 => ?_))
  have ev2 := jfull v2
  have Sm := jSm_tr rfl Sm S1
  show jX m_X12_together 9 0 0 40 [(0, .ref 125)] [.int v2] _ 0 0 _
  refine x_iret rfl rfl ?_
  exact hQ _ _ J Sm
set_option maxRecDepth 100000 in
set_option maxHeartbeats 4000000 in
theorem sf_X12_together_r125 {Dy : jH → Prop} {h : jH} {Q : Option Value → jH → Prop} {a1 : Int32} {a2 : Int32} {a3 : Int32} (hD : jDk Dy) (J : jJ jSgM Dy h) (hQ : ∀ (v : Int32) hx9, jJ jSgM Dy hx9 → jSm fp_X12_together_r125 h hx9 → Q (some (.int v)) hx9) : jC m_X12_together 9 0 0 [.ref 125, .int a1, .int a2, .int a3] h Q := by
  refine jC.of rfl k_X12_together rfl ?_
  have Sm := jSm_rf fp_X12_together_r125 h
  have ea1 := jfull a1
  have ea2 := jfull a2
  have ea3 := jfull a3
  show jX m_X12_together 9 0 0 0 [(0, .ref 125), (1, .int a1), (2, .int a2), (3, .int a3)] [] _ 0 0 _
  refine x_aloadn (x := 125) rfl rfl ?_
  refine x_iconst (v := 0) rfl ki_0 ?_
  refine z_putI (N := 92) (w := 0) 12 0 rfl f_12_180 rfl (jfin_no TX12 RX12 92 rfl rfl) hD J Sm rfl rfl jk_0 (pw_125_0 (by omega)) rfl (fun h w1 J Sm => ?_)
  refine x_iloadn (x := a3) rfl rfl ?_
  refine x_inst (N := m_X12_isDay) (As := [.int a3]) (st := []) (dx9 := 2) (mc := 0) (ms := 0) (host := "") rfl t_X12_isDay ⟨Or.inl q_12_273, s_X12_isDay⟩ rfl (by decide) rfl rfl ⟨by decide, by decide⟩ (zc_X12_isDay (d := 1) rfl (fun v2 ev2 => ?_))
  show jX m_X12_together 9 0 0 9 [(0, .ref 125), (1, .int a1), (2, .int a2), (3, .int a3)] [.int v2] _ 0 0 _
  refine x_ifne (tgt := 18) rfl rfl (ti_ne rfl jk_0 ⟨fun c3 => ?_, fun c3 => ?_⟩)
  ·
    refine x_aloadn (x := 125) rfl rfl ?_
    refine x_iloadn (x := a1) rfl rfl ?_
    refine x_inv (N := m_X12_isMention) (As := [.int a1]) (b := 125) (st := []) (dx9 := 8) (mc := 0) (ms := 0) (host := "") 12 rfl t_X12_isMention ⟨Or.inl q_12_322, i_X12_isMention.1, i_X12_isMention.2⟩ ⟨by decide, rfl⟩ (congrArg Prod.fst (J.1.1 125 (12, 92) rfl)) rfl (by decide) rfl rfl ⟨by decide, by decide⟩ (jC.of rfl k_X12_isMention rfl ?_)
    show jX m_X12_isMention 8 0 0 0 [(0, .ref 125), (1, .int a1)] [] _ 0 0 _
    refine x_iloadn (x := a1) rfl rfl ?_
    refine x_iflt (tgt := 34) rfl rfl (ti_lt rfl jk_0 ⟨fun c4 => ?_, fun c4 => ?_⟩)
    ·
      refine x_iconst (v := 0) rfl ki_0 ?_
      refine x_zret rfl rfl (by decide) ?_
      show jX m_X12_together 9 0 0 23 [(0, .ref 125), (1, .int a1), (2, .int a2), (3, .int a3)] [.int 0] _ 0 0 _
      refine x_ifeq (tgt := 34) rfl rfl (ti_eq jk_0 jk_0 (br_t (by omega) ?_))
      exact jX.sub (jsb_c rfl jsb_n) (ct_X12_together_r125_34 hD hQ  h J Sm)
    ·
      refine x_aloadn (x := 125) rfl rfl ?_
      refine x_iloadn (x := a1) rfl rfl ?_
      refine x_iconst (v := 3) rfl ki_3 ?_
      refine z_idiv rfl rfl jk_3 (by omega) (by omega) (fun v5 ev5 => ?_)
      refine x_inv (N := m_X12_isLine) (As := [.int v5]) (b := 125) (st := []) (dx9 := 7) (mc := 0) (ms := 0) (host := "") 12 rfl t_X12_isLine ⟨Or.inl q_12_293, i_X12_isLine.1, i_X12_isLine.2⟩ ⟨by decide, rfl⟩ (congrArg Prod.fst (J.1.1 125 (12, 92) rfl)) rfl (by decide) rfl rfl ⟨by decide, by decide⟩ (jC.of rfl k_X12_isLine rfl ?_)
      show jX m_X12_isLine 7 0 0 0 [(0, .ref 125), (1, .int v5)] [] _ 0 0 _
      refine x_iloadn (x := v5) rfl rfl ?_
      refine z_i2l rfl rfl (fun v6 ev6 => ?_)
      refine x_lconst (v := 0) rfl kl_0 ?_
      refine x_aloadn (x := 125) rfl rfl ?_
      refine z_getR (N := 92) (b := 126) 12 2 rfl f_12_8 rfl J rfl 16002 ⟨rfl, rfl⟩ rfl ?_
      refine x_iconst (v := 0) rfl ki_0 ?_
      refine z_iald (N := 50660) rfl J rfl sg_126_0_1_1_0_1 jk_0 (by omega) (fun v7 qv7 ev7 => ?_)
      refine z_i2l rfl rfl (fun v8 ev8 => ?_)
      refine x_lconst (v := 1) rfl kl_1 ?_
      refine z_lsub rfl rfl jkl_1 (by omega) (fun v9 ev9 => ?_)
      refine x_inst (N := m_X12_in) (As := [.long v6, .long 0, .long v9]) (st := []) (dx9 := 1) (mc := 0) (ms := 0) (host := "") rfl t_X12_in ⟨Or.inl q_12_188, s_X12_in⟩ rfl (by decide) rfl rfl ⟨by decide, by decide⟩ (zc_X12_in rfl jkl_0 rfl (fun v10 ev10 => ?_))
      show jX m_X12_isLine 7 0 0 15 [(0, .ref 125), (1, .int v5)] [.int v10] _ 0 0 _
      refine x_zret rfl rfl (jz01 (by omega)) ?_
      show jX m_X12_isMention 8 0 0 11 [(0, .ref 125), (1, .int a1)] [.int v10] _ 0 0 _
      refine x_ifeq (tgt := 34) rfl rfl (ti_eq rfl jk_0 ⟨fun c11 => ?_, fun c11 => ?_⟩)
      ·
        refine x_iconst (v := 0) rfl ki_0 ?_
        refine x_zret rfl rfl (by decide) ?_
        show jX m_X12_together 9 0 0 23 [(0, .ref 125), (1, .int a1), (2, .int a2), (3, .int a3)] [.int 0] _ 0 0 _
        refine x_ifeq (tgt := 34) rfl rfl (ti_eq jk_0 jk_0 (br_t (by omega) ?_))
        exact jX.sub (jsb_c rfl jsb_n) (ct_X12_together_r125_34 hD hQ  h J Sm)
      ·
        refine x_iloadn (x := a1) rfl rfl ?_
        refine x_iconst (v := 3) rfl ki_3 ?_
        refine z_irem rfl rfl jk_3 (by omega) (by omega) (fun v12 ev12 => ?_)
        refine x_aloadn (x := 125) rfl rfl ?_
        refine x_iloadn (x := a1) rfl rfl ?_
        refine x_iconst (v := 3) rfl ki_3 ?_
        refine z_idiv rfl rfl jk_3 (by omega) (by omega) (fun v13 ev13 => ?_)
        refine x_inv (N := m_X12_bookOf) (As := [.int v13]) (b := 125) (st := [.int v12]) (dx9 := 7) (mc := 0) (ms := 0) (host := "") 12 rfl t_X12_bookOf ⟨Or.inl q_12_299, i_X12_bookOf.1, i_X12_bookOf.2⟩ ⟨by decide, rfl⟩ (congrArg Prod.fst (J.1.1 125 (12, 92) rfl)) rfl (by decide) rfl rfl ⟨by decide, by decide⟩ (jC.of rfl k_X12_bookOf rfl ?_)
        show jX m_X12_bookOf 7 0 0 0 [(0, .ref 125), (1, .int v13)] [] _ 0 0 _
        refine x_aloadn (x := 125) rfl rfl ?_
        refine z_getR (N := 92) (b := 126) 12 2 rfl f_12_8 rfl J rfl 16002 ⟨rfl, rfl⟩ rfl ?_
        refine x_aloadn (x := 125) rfl rfl ?_
        refine x_iloadn (x := v13) rfl rfl ?_
        refine x_inv (N := m_X12_at) (As := [.int v13]) (b := 125) (st := [.ref 126]) (dx9 := 6) (mc := 0) (ms := 0) (host := "") 12 rfl t_X12_at ⟨Or.inl q_12_254, i_X12_at.1, i_X12_at.2⟩ ⟨by decide, rfl⟩ (congrArg Prod.fst (J.1.1 125 (12, 92) rfl)) rfl (by decide) rfl rfl ⟨by decide, by decide⟩ (jC.of rfl k_X12_at rfl ?_)
        show jX m_X12_at 6 0 0 0 [(0, .ref 125), (1, .int v13)] [] _ 0 0 _
        refine x_bipush (v := 20) rfl kb_20 ?_
        refine x_bipush (v := 90) rfl kb_90 ?_
        refine x_iloadn (x := v13) rfl rfl ?_
        refine z_imul rfl jk_90 rfl (by omega) (fun v14 ev14 => ?_)
        refine z_iadd rfl jk_20 rfl (by omega) (fun v15 ev15 => ?_)
        refine x_iret rfl rfl ?_
        show jX m_X12_bookOf 7 0 0 9 [(0, .ref 125), (1, .int v13)] [.int v15, .ref 126] _ 0 0 _
        refine z_iald (N := 50660) rfl J rfl sg_126_20_18020_90_0_1 rfl (by omega) (fun v16 qv16 ev16 => ?_)
        refine x_iret rfl rfl ?_
        show jX m_X12_isMention 8 0 0 24 [(0, .ref 125), (1, .int a1)] [.int v16, .int v12] _ 0 0 _
        refine x_inst (N := m_X12_rolesOf) (As := [.int v16]) (st := [.int v12]) (dx9 := 7) (mc := 0) (ms := 0) (host := "") rfl t_X12_rolesOf ⟨Or.inl q_12_286, s_X12_rolesOf⟩ rfl (by decide) rfl rfl ⟨by decide, by decide⟩ (jC.of rfl k_X12_rolesOf rfl ?_)
        show jX m_X12_rolesOf 7 0 0 0 [(0, .int v16)] [] _ 0 0 _
        refine x_iloadn (x := v16) rfl rfl ?_
        refine x_ifne (tgt := 8) rfl rfl (ti_ne rfl jk_0 ⟨fun c17 => ?_, fun c17 => ?_⟩)
        ·
          refine x_iloadn (x := v16) rfl rfl ?_
          refine x_iconst (v := 1) rfl ki_1 ?_
          refine x_icne (tgt := 17) rfl rfl (ti_ne rfl jk_1 ⟨fun c18 => ?_, fun c18 => ?_⟩)
          ·
            refine x_iconst (v := 1) rfl ki_1 ?_
            refine x_iret rfl rfl ?_
            show jX m_X12_isMention 8 0 0 27 [(0, .ref 125), (1, .int a1)] [.int 1, .int v12] _ 0 0 _
            refine x_icge (tgt := 34) rfl rfl (ti_ge rfl jk_1 ⟨fun c19 => ?_, fun c19 => ?_⟩)
            ·
              refine x_iconst (v := 0) rfl ki_0 ?_
              refine x_zret rfl rfl (by decide) ?_
              show jX m_X12_together 9 0 0 23 [(0, .ref 125), (1, .int a1), (2, .int a2), (3, .int a3)] [.int 0] _ 0 0 _
              refine x_ifeq (tgt := 34) rfl rfl (ti_eq jk_0 jk_0 (br_t (by omega) ?_))
              exact jX.sub (jsb_c rfl jsb_n) (ct_X12_together_r125_34 hD hQ  h J Sm)
            ·
              refine x_iconst (v := 1) rfl ki_1 ?_
              refine x_goto (tgt := 35) rfl rfl ?_
              refine x_zret rfl rfl (by decide) ?_
              show jX m_X12_together 9 0 0 23 [(0, .ref 125), (1, .int a1), (2, .int a2), (3, .int a3)] [.int 1] _ 0 0 _
              refine x_ifeq (tgt := 34) rfl rfl (ti_eq jk_1 jk_0 (br_f (by omega) ?_))
              refine x_aloadn (x := 125) rfl rfl ?_
              refine x_iloadn (x := a2) rfl rfl ?_
              refine x_inv (N := m_X12_isMention) (As := [.int a2]) (b := 125) (st := []) (dx9 := 8) (mc := 0) (ms := 0) (host := "") 12 rfl t_X12_isMention ⟨Or.inl q_12_322, i_X12_isMention.1, i_X12_isMention.2⟩ ⟨by decide, rfl⟩ (congrArg Prod.fst (J.1.1 125 (12, 92) rfl)) rfl (by decide) rfl rfl ⟨by decide, by decide⟩ (jC.of rfl k_X12_isMention rfl ?_)
              show jX m_X12_isMention 8 0 0 0 [(0, .ref 125), (1, .int a2)] [] _ 0 0 _
              refine x_iloadn (x := a2) rfl rfl ?_
              refine x_iflt (tgt := 34) rfl rfl (ti_lt rfl jk_0 ⟨fun c20 => ?_, fun c20 => ?_⟩)
              ·
                refine x_iconst (v := 0) rfl ki_0 ?_
                refine x_zret rfl rfl (by decide) ?_
                show jX m_X12_together 9 0 0 31 [(0, .ref 125), (1, .int a1), (2, .int a2), (3, .int a3)] [.int 0] _ 0 0 _
                refine x_ifne (tgt := 41) rfl rfl (ti_ne jk_0 jk_0 (bn_f (by omega) ?_))
                exact jX.sub (jsb_c rfl jsb_n) (ct_X12_together_r125_34 hD hQ  h J Sm)
              ·
                refine x_aloadn (x := 125) rfl rfl ?_
                refine x_iloadn (x := a2) rfl rfl ?_
                refine x_iconst (v := 3) rfl ki_3 ?_
                refine z_idiv rfl rfl jk_3 (by omega) (by omega) (fun v21 ev21 => ?_)
                refine x_inv (N := m_X12_isLine) (As := [.int v21]) (b := 125) (st := []) (dx9 := 7) (mc := 0) (ms := 0) (host := "") 12 rfl t_X12_isLine ⟨Or.inl q_12_293, i_X12_isLine.1, i_X12_isLine.2⟩ ⟨by decide, rfl⟩ (congrArg Prod.fst (J.1.1 125 (12, 92) rfl)) rfl (by decide) rfl rfl ⟨by decide, by decide⟩ (jC.of rfl k_X12_isLine rfl ?_)
                show jX m_X12_isLine 7 0 0 0 [(0, .ref 125), (1, .int v21)] [] _ 0 0 _
                refine x_iloadn (x := v21) rfl rfl ?_
                refine z_i2l rfl rfl (fun v22 ev22 => ?_)
                refine x_lconst (v := 0) rfl kl_0 ?_
                refine x_aloadn (x := 125) rfl rfl ?_
                refine z_getR (N := 92) (b := 126) 12 2 rfl f_12_8 rfl J rfl 16002 ⟨rfl, rfl⟩ rfl ?_
                refine x_iconst (v := 0) rfl ki_0 ?_
                refine z_ialdM (N := 50660) (v := v7) rfl J rfl jk_0 (by omega) qv7 ?_
                refine z_i2l rfl rfl (fun v23 ev23 => ?_)
                refine x_lconst (v := 1) rfl kl_1 ?_
                refine z_lsub rfl rfl jkl_1 (by omega) (fun v24 ev24 => ?_)
                refine x_inst (N := m_X12_in) (As := [.long v22, .long 0, .long v24]) (st := []) (dx9 := 1) (mc := 0) (ms := 0) (host := "") rfl t_X12_in ⟨Or.inl q_12_188, s_X12_in⟩ rfl (by decide) rfl rfl ⟨by decide, by decide⟩ (zc_X12_in rfl jkl_0 rfl (fun v25 ev25 => ?_))
                show jX m_X12_isLine 7 0 0 15 [(0, .ref 125), (1, .int v21)] [.int v25] _ 0 0 _
                refine x_zret rfl rfl (jz01 (by omega)) ?_
                show jX m_X12_isMention 8 0 0 11 [(0, .ref 125), (1, .int a2)] [.int v25] _ 0 0 _
                refine x_ifeq (tgt := 34) rfl rfl (ti_eq rfl jk_0 ⟨fun c26 => ?_, fun c26 => ?_⟩)
                ·
                  refine x_iconst (v := 0) rfl ki_0 ?_
                  refine x_zret rfl rfl (by decide) ?_
                  show jX m_X12_together 9 0 0 31 [(0, .ref 125), (1, .int a1), (2, .int a2), (3, .int a3)] [.int 0] _ 0 0 _
                  refine x_ifne (tgt := 41) rfl rfl (ti_ne jk_0 jk_0 (bn_f (by omega) ?_))
                  exact jX.sub (jsb_c rfl jsb_n) (ct_X12_together_r125_34 hD hQ  h J Sm)
                ·
                  refine x_iloadn (x := a2) rfl rfl ?_
                  refine x_iconst (v := 3) rfl ki_3 ?_
                  refine z_irem rfl rfl jk_3 (by omega) (by omega) (fun v27 ev27 => ?_)
                  refine x_aloadn (x := 125) rfl rfl ?_
                  refine x_iloadn (x := a2) rfl rfl ?_
                  refine x_iconst (v := 3) rfl ki_3 ?_
                  refine z_idiv rfl rfl jk_3 (by omega) (by omega) (fun v28 ev28 => ?_)
                  refine x_inv (N := m_X12_bookOf) (As := [.int v28]) (b := 125) (st := [.int v27]) (dx9 := 7) (mc := 0) (ms := 0) (host := "") 12 rfl t_X12_bookOf ⟨Or.inl q_12_299, i_X12_bookOf.1, i_X12_bookOf.2⟩ ⟨by decide, rfl⟩ (congrArg Prod.fst (J.1.1 125 (12, 92) rfl)) rfl (by decide) rfl rfl ⟨by decide, by decide⟩ (jC.of rfl k_X12_bookOf rfl ?_)
                  show jX m_X12_bookOf 7 0 0 0 [(0, .ref 125), (1, .int v28)] [] _ 0 0 _
                  refine x_aloadn (x := 125) rfl rfl ?_
                  refine z_getR (N := 92) (b := 126) 12 2 rfl f_12_8 rfl J rfl 16002 ⟨rfl, rfl⟩ rfl ?_
                  refine x_aloadn (x := 125) rfl rfl ?_
                  refine x_iloadn (x := v28) rfl rfl ?_
                  refine x_inv (N := m_X12_at) (As := [.int v28]) (b := 125) (st := [.ref 126]) (dx9 := 6) (mc := 0) (ms := 0) (host := "") 12 rfl t_X12_at ⟨Or.inl q_12_254, i_X12_at.1, i_X12_at.2⟩ ⟨by decide, rfl⟩ (congrArg Prod.fst (J.1.1 125 (12, 92) rfl)) rfl (by decide) rfl rfl ⟨by decide, by decide⟩ (jC.of rfl k_X12_at rfl ?_)
                  show jX m_X12_at 6 0 0 0 [(0, .ref 125), (1, .int v28)] [] _ 0 0 _
                  refine x_bipush (v := 20) rfl kb_20 ?_
                  refine x_bipush (v := 90) rfl kb_90 ?_
                  refine x_iloadn (x := v28) rfl rfl ?_
                  refine z_imul rfl jk_90 rfl (by omega) (fun v29 ev29 => ?_)
                  refine z_iadd rfl jk_20 rfl (by omega) (fun v30 ev30 => ?_)
                  refine x_iret rfl rfl ?_
                  show jX m_X12_bookOf 7 0 0 9 [(0, .ref 125), (1, .int v28)] [.int v30, .ref 126] _ 0 0 _
                  refine z_iald (N := 50660) rfl J rfl sg_126_20_18020_90_0_1 rfl (by omega) (fun v31 qv31 ev31 => ?_)
                  refine x_iret rfl rfl ?_
                  show jX m_X12_isMention 8 0 0 24 [(0, .ref 125), (1, .int a2)] [.int v31, .int v27] _ 0 0 _
                  refine x_inst (N := m_X12_rolesOf) (As := [.int v31]) (st := [.int v27]) (dx9 := 7) (mc := 0) (ms := 0) (host := "") rfl t_X12_rolesOf ⟨Or.inl q_12_286, s_X12_rolesOf⟩ rfl (by decide) rfl rfl ⟨by decide, by decide⟩ (jC.of rfl k_X12_rolesOf rfl ?_)
                  show jX m_X12_rolesOf 7 0 0 0 [(0, .int v31)] [] _ 0 0 _
                  refine x_iloadn (x := v31) rfl rfl ?_
                  refine x_ifne (tgt := 8) rfl rfl (ti_ne rfl jk_0 ⟨fun c32 => ?_, fun c32 => ?_⟩)
                  ·
                    refine x_iloadn (x := v31) rfl rfl ?_
                    refine x_iconst (v := 1) rfl ki_1 ?_
                    refine x_icne (tgt := 17) rfl rfl (ti_ne rfl jk_1 ⟨fun c33 => ?_, fun c33 => ?_⟩)
                    ·
                      refine x_iconst (v := 1) rfl ki_1 ?_
                      refine x_iret rfl rfl ?_
                      show jX m_X12_isMention 8 0 0 27 [(0, .ref 125), (1, .int a2)] [.int 1, .int v27] _ 0 0 _
                      refine x_icge (tgt := 34) rfl rfl (ti_ge rfl jk_1 ⟨fun c34 => ?_, fun c34 => ?_⟩)
                      ·
                        refine x_iconst (v := 0) rfl ki_0 ?_
                        refine x_zret rfl rfl (by decide) ?_
                        show jX m_X12_together 9 0 0 31 [(0, .ref 125), (1, .int a1), (2, .int a2), (3, .int a3)] [.int 0] _ 0 0 _
                        refine x_ifne (tgt := 41) rfl rfl (ti_ne jk_0 jk_0 (bn_f (by omega) ?_))
                        exact jX.sub (jsb_c rfl jsb_n) (ct_X12_together_r125_34 hD hQ  h J Sm)
                      ·
                        refine x_iconst (v := 1) rfl ki_1 ?_
                        refine x_goto (tgt := 35) rfl rfl ?_
                        refine x_zret rfl rfl (by decide) ?_
                        show jX m_X12_together 9 0 0 31 [(0, .ref 125), (1, .int a1), (2, .int a2), (3, .int a3)] [.int 1] _ 0 0 _
                        refine x_ifne (tgt := 41) rfl rfl (ti_ne jk_1 jk_0 (bn_t (by omega) ?_))
                        refine x_aloadn (x := 125) rfl rfl ?_
                        refine x_ldcw (v := 146399) rfl z_12_392 ?_
                        refine x_inv (N := m_X12_find) (As := [.int 146399]) (b := 125) (st := []) (dx9 := 8) (mc := 0) (ms := 0) (host := "") 12 rfl t_X12_find ⟨Or.inl q_12_393, i_X12_find.1, i_X12_find.2⟩ ⟨by decide, rfl⟩ (congrArg Prod.fst (J.1.1 125 (12, 92) rfl)) rfl (by decide) rfl rfl ⟨by decide, by decide⟩ (sf_X12_find_r125 (jr_of jk_146399 (by omega)) hD J  (fun h J S35 => ?_))
                        have Sm := jSm_tr rfl Sm S35
                        show jX m_X12_together 9 0 0 48 [(0, .ref 125), (1, .int a1), (2, .int a2), (3, .int a3)] [] _ 0 0 _
                        refine x_aloadn (x := 125) rfl rfl ?_
                        refine z_getR (N := 92) (b := 139) 12 29 rfl f_12_72 rfl J rfl 16029 ⟨rfl, rfl⟩ rfl ?_
                        refine x_iloadn (x := a1) rfl rfl ?_
                        refine z_iald (N := 600) rfl J rfl sg_139_0_600_1_0_1 rfl (by omega) (fun v36 qv36 ev36 => ?_)
                        refine x_aloadn (x := 125) rfl rfl ?_
                        refine z_getR (N := 92) (b := 139) 12 29 rfl f_12_72 rfl J rfl 16029 ⟨rfl, rfl⟩ rfl ?_
                        refine x_iloadn (x := a2) rfl rfl ?_
                        refine z_iald (N := 600) rfl J rfl sg_139_0_600_1_0_1 rfl (by omega) (fun v37 qv37 ev37 => ?_)
                        refine x_icne (tgt := 70) rfl rfl (ti_ne rfl rfl ⟨fun c38 => ?_, fun c38 => ?_⟩)
                        ·
                          refine x_aloadn (x := 125) rfl rfl ?_
                          refine z_getR (N := 92) (b := 126) 12 2 rfl f_12_8 rfl J rfl 16002 ⟨rfl, rfl⟩ rfl ?_
                          refine x_iconst (v := 2) rfl ki_2 ?_
                          refine z_iald (N := 50660) rfl J rfl sg_126_2_3_1_0_1 jk_2 (by omega) (fun v39 qv39 ev39 => ?_)
                          refine x_sipush (v := 200) rfl ks_200 ?_
                          refine x_icne (tgt := 89) rfl rfl (ti_ne rfl jk_200 ⟨fun c40 => ?_, fun c40 => ?_⟩)
                          ·
                            refine x_aloadn (x := 125) rfl rfl ?_
                            refine x_iloadn (x := a1) rfl rfl ?_
                            refine x_iloadn (x := a2) rfl rfl ?_
                            refine x_iloadn (x := a3) rfl rfl ?_
                            refine x_inv (N := m_X12_addJoined) (As := [.int a1, .int a2, .int a3]) (b := 125) (st := []) (dx9 := 8) (mc := 0) (ms := 0) (host := "") 12 rfl t_X12_addJoined ⟨Or.inl q_12_396, i_X12_addJoined.1, i_X12_addJoined.2⟩ ⟨by decide, rfl⟩ (congrArg Prod.fst (J.1.1 125 (12, 92) rfl)) rfl (by decide) rfl rfl ⟨by decide, by decide⟩ (jC.of rfl k_X12_addJoined rfl ?_)
                            show jX m_X12_addJoined 8 0 0 0 [(0, .ref 125), (1, .int a1), (2, .int a2), (3, .int a3)] [] _ 0 0 _
                            refine x_sipush (v := 18140) rfl ks_18140 ?_
                            refine x_iconst (v := 3) rfl ki_3 ?_
                            refine x_aloadn (x := 125) rfl rfl ?_
                            refine z_getR (N := 92) (b := 126) 12 2 rfl f_12_8 rfl J rfl 16002 ⟨rfl, rfl⟩ rfl ?_
                            refine x_iconst (v := 2) rfl ki_2 ?_
                            refine z_ialdM (N := 50660) (v := v39) rfl J rfl jk_2 (by omega) qv39 ?_
                            refine z_imul rfl jk_3 rfl (by omega) (fun v41 ev41 => ?_)
                            refine z_iadd rfl jk_18140 rfl (by omega) (fun v42 ev42 => ?_)
                            refine x_istore (lsx9 := [(4, .int v42), (0, .ref 125), (1, .int a1), (2, .int a2), (3, .int a3)]) rfl rfl rfl ?_
                            refine x_aloadn (x := 125) rfl rfl ?_
                            refine z_getR (N := 92) (b := 126) 12 2 rfl f_12_8 rfl J rfl 16002 ⟨rfl, rfl⟩ rfl ?_
                            refine x_iload (x := v42) rfl rfl ?_
                            refine x_iloadn (x := a1) rfl rfl ?_
                            refine z_iast (N := 50660) (l := 18140) (u := 18740) (w := a1.toInt) rfl hD J Sm rfl rfl rfl (by omega) rfl (wr_126_18140 (by omega) (fun q1 q2 q3 q4 => by omega) (fun q1 q2 q3 q4 => by omega) (fun q1 q2 q3 q4 => by omega)) rfl (fun h w43 J Sm => ?_)
                            refine x_aloadn (x := 125) rfl rfl ?_
                            refine z_getR (N := 92) (b := 126) 12 2 rfl f_12_8 rfl J rfl 16002 ⟨rfl, rfl⟩ rfl ?_
                            refine x_iload (x := v42) rfl rfl ?_
                            refine x_iconst (v := 1) rfl ki_1 ?_
                            refine z_iadd rfl rfl jk_1 (by omega) (fun v44 ev44 => ?_)
                            refine x_iloadn (x := a2) rfl rfl ?_
                            refine z_iast (N := 50660) (l := 18140) (u := 18740) (w := a2.toInt) rfl hD J Sm rfl rfl rfl (by omega) rfl (wr_126_18140 (by omega) (fun q1 q2 q3 q4 => by omega) (fun q1 q2 q3 q4 => by omega) (fun q1 q2 q3 q4 => by omega)) rfl (fun h w45 J Sm => ?_)
                            refine x_aloadn (x := 125) rfl rfl ?_
                            refine z_getR (N := 92) (b := 126) 12 2 rfl f_12_8 rfl J rfl 16002 ⟨rfl, rfl⟩ rfl ?_
                            refine x_iload (x := v42) rfl rfl ?_
                            refine x_iconst (v := 2) rfl ki_2 ?_
                            refine z_iadd rfl rfl jk_2 (by omega) (fun v46 ev46 => ?_)
                            refine x_iloadn (x := a3) rfl rfl ?_
                            refine z_iast (N := 50660) (l := 18140) (u := 18740) (w := a3.toInt) rfl hD J Sm rfl rfl rfl (by omega) rfl (wr_126_18140 (by omega) (fun q1 q2 q3 q4 => by omega) (fun q1 q2 q3 q4 => by omega) (fun q1 q2 q3 q4 => by omega)) rfl (fun h w47 J Sm => ?_)
                            refine x_aloadn (x := 125) rfl rfl ?_
                            refine z_getR (N := 92) (b := 126) 12 2 rfl f_12_8 rfl J rfl 16002 ⟨rfl, rfl⟩ rfl ?_
                            refine x_iconst (v := 2) rfl ki_2 ?_
                            refine x_dup2 rfl rfl rfl ?_
                            refine z_ialdM (N := 50660) (v := v39) rfl J rfl jk_2 (by omega) (jmo2 w47 rfl jk_2 (by omega) (jmo2 w45 rfl jk_2 (by omega) (jmo2 w43 rfl jk_2 (by omega) qv39))) ?_
                            refine x_iconst (v := 1) rfl ki_1 ?_
                            refine z_iadd rfl rfl jk_1 (by omega) (fun v48 ev48 => ?_)
                            refine z_iast (N := 50660) (l := 2) (u := 3) (w := v48.toInt) rfl hD J Sm rfl rfl jk_2 (by omega) rfl (wr_126_2 (by omega) (fun q1 q2 q3 q4 => by omega)) rfl (fun h w49 J Sm => ?_)
                            refine x_vret rfl rfl ?_
                            show jX m_X12_together 9 0 0 96 [(0, .ref 125), (1, .int a1), (2, .int a2), (3, .int a3)] [] _ 0 0 _
                            refine x_aloadn (x := 125) rfl rfl ?_
                            refine x_aloadn (x := 125) rfl rfl ?_
                            refine z_getR (N := 92) (b := 126) 12 2 rfl f_12_8 rfl J rfl 16002 ⟨rfl, rfl⟩ rfl ?_
                            refine x_iconst (v := 2) rfl ki_2 ?_
                            refine z_ialdM (N := 50660) (v := v48) rfl J rfl jk_2 (by omega) (jmw w49) ?_
                            refine x_inv (N := m_X12_told) (As := [.int v48]) (b := 125) (st := []) (dx9 := 1) (mc := 0) (ms := 0) (host := "") 12 rfl t_X12_told ⟨Or.inl q_12_197, i_X12_told.1, i_X12_told.2⟩ ⟨by decide, rfl⟩ (congrArg Prod.fst (J.1.1 125 (12, 92) rfl)) rfl (by decide) rfl rfl ⟨by decide, by decide⟩ (sf_X12_told_r125  hD J  (fun v51 h J S50 => ?_))
                            have ev51 := jfull v51
                            have Sm := jSm_tr rfl Sm S50
                            show jX m_X12_together 9 0 0 106 [(0, .ref 125), (1, .int a1), (2, .int a2), (3, .int a3)] [.int v51] _ 0 0 _
                            refine x_iret rfl rfl ?_
                            exact hQ _ _ J Sm
                          ·
                            refine x_aloadn (x := 125) rfl rfl ?_
                            refine x_bipush (v := (-5)) rfl kb_m5 ?_
                            refine x_inv (N := m_X12_told) (As := [.int (-5)]) (b := 125) (st := []) (dx9 := 1) (mc := 0) (ms := 0) (host := "") 12 rfl t_X12_told ⟨Or.inl q_12_197, i_X12_told.1, i_X12_told.2⟩ ⟨by decide, rfl⟩ (congrArg Prod.fst (J.1.1 125 (12, 92) rfl)) rfl (by decide) rfl rfl ⟨by decide, by decide⟩ (sf_X12_told_r125  hD J  (fun v53 h J S52 => ?_))
                            have ev53 := jfull v53
                            have Sm := jSm_tr rfl Sm S52
                            show jX m_X12_together 9 0 0 88 [(0, .ref 125), (1, .int a1), (2, .int a2), (3, .int a3)] [.int v53] _ 0 0 _
                            refine x_iret rfl rfl ?_
                            exact hQ _ _ J Sm
                        ·
                          refine x_aloadn (x := 125) rfl rfl ?_
                          refine x_bipush (v := (-4)) rfl kb_m4 ?_
                          refine x_inv (N := m_X12_told) (As := [.int (-4)]) (b := 125) (st := []) (dx9 := 1) (mc := 0) (ms := 0) (host := "") 12 rfl t_X12_told ⟨Or.inl q_12_197, i_X12_told.1, i_X12_told.2⟩ ⟨by decide, rfl⟩ (congrArg Prod.fst (J.1.1 125 (12, 92) rfl)) rfl (by decide) rfl rfl ⟨by decide, by decide⟩ (sf_X12_told_r125  hD J  (fun v55 h J S54 => ?_))
                          have ev55 := jfull v55
                          have Sm := jSm_tr rfl Sm S54
                          show jX m_X12_together 9 0 0 69 [(0, .ref 125), (1, .int a1), (2, .int a2), (3, .int a3)] [.int v55] _ 0 0 _
                          refine x_iret rfl rfl ?_
                          exact hQ _ _ J Sm
                    ·
                      refine x_iconst (v := 2) rfl ki_2 ?_
                      refine x_goto (tgt := 18) rfl rfl ?_
                      refine x_iret rfl rfl ?_
                      show jX m_X12_isMention 8 0 0 27 [(0, .ref 125), (1, .int a2)] [.int 2, .int v27] _ 0 0 _
                      refine x_icge (tgt := 34) rfl rfl (ti_ge rfl jk_2 ⟨fun c56 => ?_, fun c56 => ?_⟩)
                      ·
                        refine x_iconst (v := 0) rfl ki_0 ?_
                        refine x_zret rfl rfl (by decide) ?_
                        show jX m_X12_together 9 0 0 31 [(0, .ref 125), (1, .int a1), (2, .int a2), (3, .int a3)] [.int 0] _ 0 0 _
                        refine x_ifne (tgt := 41) rfl rfl (ti_ne jk_0 jk_0 (bn_f (by omega) ?_))
                        exact jX.sub (jsb_c rfl jsb_n) (ct_X12_together_r125_34 hD hQ  h J Sm)
                      ·
                        refine x_iconst (v := 1) rfl ki_1 ?_
                        refine x_goto (tgt := 35) rfl rfl ?_
                        refine x_zret rfl rfl (by decide) ?_
                        show jX m_X12_together 9 0 0 31 [(0, .ref 125), (1, .int a1), (2, .int a2), (3, .int a3)] [.int 1] _ 0 0 _
                        refine x_ifne (tgt := 41) rfl rfl (ti_ne jk_1 jk_0 (bn_t (by omega) ?_))
                        refine x_aloadn (x := 125) rfl rfl ?_
                        refine x_ldcw (v := 146399) rfl z_12_392 ?_
                        refine x_inv (N := m_X12_find) (As := [.int 146399]) (b := 125) (st := []) (dx9 := 8) (mc := 0) (ms := 0) (host := "") 12 rfl t_X12_find ⟨Or.inl q_12_393, i_X12_find.1, i_X12_find.2⟩ ⟨by decide, rfl⟩ (congrArg Prod.fst (J.1.1 125 (12, 92) rfl)) rfl (by decide) rfl rfl ⟨by decide, by decide⟩ (sf_X12_find_r125 (jr_of jk_146399 (by omega)) hD J  (fun h J S57 => ?_))
                        have Sm := jSm_tr rfl Sm S57
                        show jX m_X12_together 9 0 0 48 [(0, .ref 125), (1, .int a1), (2, .int a2), (3, .int a3)] [] _ 0 0 _
                        refine x_aloadn (x := 125) rfl rfl ?_
                        refine z_getR (N := 92) (b := 139) 12 29 rfl f_12_72 rfl J rfl 16029 ⟨rfl, rfl⟩ rfl ?_
                        refine x_iloadn (x := a1) rfl rfl ?_
                        refine z_iald (N := 600) rfl J rfl sg_139_0_600_1_0_1 rfl (by omega) (fun v58 qv58 ev58 => ?_)
                        refine x_aloadn (x := 125) rfl rfl ?_
                        refine z_getR (N := 92) (b := 139) 12 29 rfl f_12_72 rfl J rfl 16029 ⟨rfl, rfl⟩ rfl ?_
                        refine x_iloadn (x := a2) rfl rfl ?_
                        refine z_iald (N := 600) rfl J rfl sg_139_0_600_1_0_1 rfl (by omega) (fun v59 qv59 ev59 => ?_)
                        refine x_icne (tgt := 70) rfl rfl (ti_ne rfl rfl ⟨fun c60 => ?_, fun c60 => ?_⟩)
                        ·
                          refine x_aloadn (x := 125) rfl rfl ?_
                          refine z_getR (N := 92) (b := 126) 12 2 rfl f_12_8 rfl J rfl 16002 ⟨rfl, rfl⟩ rfl ?_
                          refine x_iconst (v := 2) rfl ki_2 ?_
                          refine z_iald (N := 50660) rfl J rfl sg_126_2_3_1_0_1 jk_2 (by omega) (fun v61 qv61 ev61 => ?_)
                          refine x_sipush (v := 200) rfl ks_200 ?_
                          refine x_icne (tgt := 89) rfl rfl (ti_ne rfl jk_200 ⟨fun c62 => ?_, fun c62 => ?_⟩)
                          ·
                            refine x_aloadn (x := 125) rfl rfl ?_
                            refine x_iloadn (x := a1) rfl rfl ?_
                            refine x_iloadn (x := a2) rfl rfl ?_
                            refine x_iloadn (x := a3) rfl rfl ?_
                            refine x_inv (N := m_X12_addJoined) (As := [.int a1, .int a2, .int a3]) (b := 125) (st := []) (dx9 := 8) (mc := 0) (ms := 0) (host := "") 12 rfl t_X12_addJoined ⟨Or.inl q_12_396, i_X12_addJoined.1, i_X12_addJoined.2⟩ ⟨by decide, rfl⟩ (congrArg Prod.fst (J.1.1 125 (12, 92) rfl)) rfl (by decide) rfl rfl ⟨by decide, by decide⟩ (jC.of rfl k_X12_addJoined rfl ?_)
                            show jX m_X12_addJoined 8 0 0 0 [(0, .ref 125), (1, .int a1), (2, .int a2), (3, .int a3)] [] _ 0 0 _
                            refine x_sipush (v := 18140) rfl ks_18140 ?_
                            refine x_iconst (v := 3) rfl ki_3 ?_
                            refine x_aloadn (x := 125) rfl rfl ?_
                            refine z_getR (N := 92) (b := 126) 12 2 rfl f_12_8 rfl J rfl 16002 ⟨rfl, rfl⟩ rfl ?_
                            refine x_iconst (v := 2) rfl ki_2 ?_
                            refine z_ialdM (N := 50660) (v := v61) rfl J rfl jk_2 (by omega) qv61 ?_
                            refine z_imul rfl jk_3 rfl (by omega) (fun v63 ev63 => ?_)
                            refine z_iadd rfl jk_18140 rfl (by omega) (fun v64 ev64 => ?_)
                            refine x_istore (lsx9 := [(4, .int v64), (0, .ref 125), (1, .int a1), (2, .int a2), (3, .int a3)]) rfl rfl rfl ?_
                            refine x_aloadn (x := 125) rfl rfl ?_
                            refine z_getR (N := 92) (b := 126) 12 2 rfl f_12_8 rfl J rfl 16002 ⟨rfl, rfl⟩ rfl ?_
                            refine x_iload (x := v64) rfl rfl ?_
                            refine x_iloadn (x := a1) rfl rfl ?_
                            refine z_iast (N := 50660) (l := 18140) (u := 18740) (w := a1.toInt) rfl hD J Sm rfl rfl rfl (by omega) rfl (wr_126_18140 (by omega) (fun q1 q2 q3 q4 => by omega) (fun q1 q2 q3 q4 => by omega) (fun q1 q2 q3 q4 => by omega)) rfl (fun h w65 J Sm => ?_)
                            refine x_aloadn (x := 125) rfl rfl ?_
                            refine z_getR (N := 92) (b := 126) 12 2 rfl f_12_8 rfl J rfl 16002 ⟨rfl, rfl⟩ rfl ?_
                            refine x_iload (x := v64) rfl rfl ?_
                            refine x_iconst (v := 1) rfl ki_1 ?_
                            refine z_iadd rfl rfl jk_1 (by omega) (fun v66 ev66 => ?_)
                            refine x_iloadn (x := a2) rfl rfl ?_
                            refine z_iast (N := 50660) (l := 18140) (u := 18740) (w := a2.toInt) rfl hD J Sm rfl rfl rfl (by omega) rfl (wr_126_18140 (by omega) (fun q1 q2 q3 q4 => by omega) (fun q1 q2 q3 q4 => by omega) (fun q1 q2 q3 q4 => by omega)) rfl (fun h w67 J Sm => ?_)
                            refine x_aloadn (x := 125) rfl rfl ?_
                            refine z_getR (N := 92) (b := 126) 12 2 rfl f_12_8 rfl J rfl 16002 ⟨rfl, rfl⟩ rfl ?_
                            refine x_iload (x := v64) rfl rfl ?_
                            refine x_iconst (v := 2) rfl ki_2 ?_
                            refine z_iadd rfl rfl jk_2 (by omega) (fun v68 ev68 => ?_)
                            refine x_iloadn (x := a3) rfl rfl ?_
                            refine z_iast (N := 50660) (l := 18140) (u := 18740) (w := a3.toInt) rfl hD J Sm rfl rfl rfl (by omega) rfl (wr_126_18140 (by omega) (fun q1 q2 q3 q4 => by omega) (fun q1 q2 q3 q4 => by omega) (fun q1 q2 q3 q4 => by omega)) rfl (fun h w69 J Sm => ?_)
                            refine x_aloadn (x := 125) rfl rfl ?_
                            refine z_getR (N := 92) (b := 126) 12 2 rfl f_12_8 rfl J rfl 16002 ⟨rfl, rfl⟩ rfl ?_
                            refine x_iconst (v := 2) rfl ki_2 ?_
                            refine x_dup2 rfl rfl rfl ?_
                            refine z_ialdM (N := 50660) (v := v61) rfl J rfl jk_2 (by omega) (jmo2 w69 rfl jk_2 (by omega) (jmo2 w67 rfl jk_2 (by omega) (jmo2 w65 rfl jk_2 (by omega) qv61))) ?_
                            refine x_iconst (v := 1) rfl ki_1 ?_
                            refine z_iadd rfl rfl jk_1 (by omega) (fun v70 ev70 => ?_)
                            refine z_iast (N := 50660) (l := 2) (u := 3) (w := v70.toInt) rfl hD J Sm rfl rfl jk_2 (by omega) rfl (wr_126_2 (by omega) (fun q1 q2 q3 q4 => by omega)) rfl (fun h w71 J Sm => ?_)
                            refine x_vret rfl rfl ?_
                            show jX m_X12_together 9 0 0 96 [(0, .ref 125), (1, .int a1), (2, .int a2), (3, .int a3)] [] _ 0 0 _
                            refine x_aloadn (x := 125) rfl rfl ?_
                            refine x_aloadn (x := 125) rfl rfl ?_
                            refine z_getR (N := 92) (b := 126) 12 2 rfl f_12_8 rfl J rfl 16002 ⟨rfl, rfl⟩ rfl ?_
                            refine x_iconst (v := 2) rfl ki_2 ?_
                            refine z_ialdM (N := 50660) (v := v70) rfl J rfl jk_2 (by omega) (jmw w71) ?_
                            refine x_inv (N := m_X12_told) (As := [.int v70]) (b := 125) (st := []) (dx9 := 1) (mc := 0) (ms := 0) (host := "") 12 rfl t_X12_told ⟨Or.inl q_12_197, i_X12_told.1, i_X12_told.2⟩ ⟨by decide, rfl⟩ (congrArg Prod.fst (J.1.1 125 (12, 92) rfl)) rfl (by decide) rfl rfl ⟨by decide, by decide⟩ (sf_X12_told_r125  hD J  (fun v73 h J S72 => ?_))
                            have ev73 := jfull v73
                            have Sm := jSm_tr rfl Sm S72
                            show jX m_X12_together 9 0 0 106 [(0, .ref 125), (1, .int a1), (2, .int a2), (3, .int a3)] [.int v73] _ 0 0 _
                            refine x_iret rfl rfl ?_
                            exact hQ _ _ J Sm
                          ·
                            refine x_aloadn (x := 125) rfl rfl ?_
                            refine x_bipush (v := (-5)) rfl kb_m5 ?_
                            refine x_inv (N := m_X12_told) (As := [.int (-5)]) (b := 125) (st := []) (dx9 := 1) (mc := 0) (ms := 0) (host := "") 12 rfl t_X12_told ⟨Or.inl q_12_197, i_X12_told.1, i_X12_told.2⟩ ⟨by decide, rfl⟩ (congrArg Prod.fst (J.1.1 125 (12, 92) rfl)) rfl (by decide) rfl rfl ⟨by decide, by decide⟩ (sf_X12_told_r125  hD J  (fun v75 h J S74 => ?_))
                            have ev75 := jfull v75
                            have Sm := jSm_tr rfl Sm S74
                            show jX m_X12_together 9 0 0 88 [(0, .ref 125), (1, .int a1), (2, .int a2), (3, .int a3)] [.int v75] _ 0 0 _
                            refine x_iret rfl rfl ?_
                            exact hQ _ _ J Sm
                        ·
                          refine x_aloadn (x := 125) rfl rfl ?_
                          refine x_bipush (v := (-4)) rfl kb_m4 ?_
                          refine x_inv (N := m_X12_told) (As := [.int (-4)]) (b := 125) (st := []) (dx9 := 1) (mc := 0) (ms := 0) (host := "") 12 rfl t_X12_told ⟨Or.inl q_12_197, i_X12_told.1, i_X12_told.2⟩ ⟨by decide, rfl⟩ (congrArg Prod.fst (J.1.1 125 (12, 92) rfl)) rfl (by decide) rfl rfl ⟨by decide, by decide⟩ (sf_X12_told_r125  hD J  (fun v77 h J S76 => ?_))
                          have ev77 := jfull v77
                          have Sm := jSm_tr rfl Sm S76
                          show jX m_X12_together 9 0 0 69 [(0, .ref 125), (1, .int a1), (2, .int a2), (3, .int a3)] [.int v77] _ 0 0 _
                          refine x_iret rfl rfl ?_
                          exact hQ _ _ J Sm
                  ·
                    refine x_iconst (v := 3) rfl ki_3 ?_
                    refine x_goto (tgt := 18) rfl rfl ?_
                    refine x_iret rfl rfl ?_
                    show jX m_X12_isMention 8 0 0 27 [(0, .ref 125), (1, .int a2)] [.int 3, .int v27] _ 0 0 _
                    refine x_icge (tgt := 34) rfl rfl (ti_ge rfl jk_3 (br_f (by omega) ?_))
                    refine x_iconst (v := 1) rfl ki_1 ?_
                    refine x_goto (tgt := 35) rfl rfl ?_
                    refine x_zret rfl rfl (by decide) ?_
                    show jX m_X12_together 9 0 0 31 [(0, .ref 125), (1, .int a1), (2, .int a2), (3, .int a3)] [.int 1] _ 0 0 _
                    refine x_ifne (tgt := 41) rfl rfl (ti_ne jk_1 jk_0 (bn_t (by omega) ?_))
                    refine x_aloadn (x := 125) rfl rfl ?_
                    refine x_ldcw (v := 146399) rfl z_12_392 ?_
                    refine x_inv (N := m_X12_find) (As := [.int 146399]) (b := 125) (st := []) (dx9 := 8) (mc := 0) (ms := 0) (host := "") 12 rfl t_X12_find ⟨Or.inl q_12_393, i_X12_find.1, i_X12_find.2⟩ ⟨by decide, rfl⟩ (congrArg Prod.fst (J.1.1 125 (12, 92) rfl)) rfl (by decide) rfl rfl ⟨by decide, by decide⟩ (sf_X12_find_r125 (jr_of jk_146399 (by omega)) hD J  (fun h J S78 => ?_))
                    have Sm := jSm_tr rfl Sm S78
                    show jX m_X12_together 9 0 0 48 [(0, .ref 125), (1, .int a1), (2, .int a2), (3, .int a3)] [] _ 0 0 _
                    refine x_aloadn (x := 125) rfl rfl ?_
                    refine z_getR (N := 92) (b := 139) 12 29 rfl f_12_72 rfl J rfl 16029 ⟨rfl, rfl⟩ rfl ?_
                    refine x_iloadn (x := a1) rfl rfl ?_
                    refine z_iald (N := 600) rfl J rfl sg_139_0_600_1_0_1 rfl (by omega) (fun v79 qv79 ev79 => ?_)
                    refine x_aloadn (x := 125) rfl rfl ?_
                    refine z_getR (N := 92) (b := 139) 12 29 rfl f_12_72 rfl J rfl 16029 ⟨rfl, rfl⟩ rfl ?_
                    refine x_iloadn (x := a2) rfl rfl ?_
                    refine z_iald (N := 600) rfl J rfl sg_139_0_600_1_0_1 rfl (by omega) (fun v80 qv80 ev80 => ?_)
                    refine x_icne (tgt := 70) rfl rfl (ti_ne rfl rfl ⟨fun c81 => ?_, fun c81 => ?_⟩)
                    ·
                      refine x_aloadn (x := 125) rfl rfl ?_
                      refine z_getR (N := 92) (b := 126) 12 2 rfl f_12_8 rfl J rfl 16002 ⟨rfl, rfl⟩ rfl ?_
                      refine x_iconst (v := 2) rfl ki_2 ?_
                      refine z_iald (N := 50660) rfl J rfl sg_126_2_3_1_0_1 jk_2 (by omega) (fun v82 qv82 ev82 => ?_)
                      refine x_sipush (v := 200) rfl ks_200 ?_
                      refine x_icne (tgt := 89) rfl rfl (ti_ne rfl jk_200 ⟨fun c83 => ?_, fun c83 => ?_⟩)
                      ·
                        refine x_aloadn (x := 125) rfl rfl ?_
                        refine x_iloadn (x := a1) rfl rfl ?_
                        refine x_iloadn (x := a2) rfl rfl ?_
                        refine x_iloadn (x := a3) rfl rfl ?_
                        refine x_inv (N := m_X12_addJoined) (As := [.int a1, .int a2, .int a3]) (b := 125) (st := []) (dx9 := 8) (mc := 0) (ms := 0) (host := "") 12 rfl t_X12_addJoined ⟨Or.inl q_12_396, i_X12_addJoined.1, i_X12_addJoined.2⟩ ⟨by decide, rfl⟩ (congrArg Prod.fst (J.1.1 125 (12, 92) rfl)) rfl (by decide) rfl rfl ⟨by decide, by decide⟩ (jC.of rfl k_X12_addJoined rfl ?_)
                        show jX m_X12_addJoined 8 0 0 0 [(0, .ref 125), (1, .int a1), (2, .int a2), (3, .int a3)] [] _ 0 0 _
                        refine x_sipush (v := 18140) rfl ks_18140 ?_
                        refine x_iconst (v := 3) rfl ki_3 ?_
                        refine x_aloadn (x := 125) rfl rfl ?_
                        refine z_getR (N := 92) (b := 126) 12 2 rfl f_12_8 rfl J rfl 16002 ⟨rfl, rfl⟩ rfl ?_
                        refine x_iconst (v := 2) rfl ki_2 ?_
                        refine z_ialdM (N := 50660) (v := v82) rfl J rfl jk_2 (by omega) qv82 ?_
                        refine z_imul rfl jk_3 rfl (by omega) (fun v84 ev84 => ?_)
                        refine z_iadd rfl jk_18140 rfl (by omega) (fun v85 ev85 => ?_)
                        refine x_istore (lsx9 := [(4, .int v85), (0, .ref 125), (1, .int a1), (2, .int a2), (3, .int a3)]) rfl rfl rfl ?_
                        refine x_aloadn (x := 125) rfl rfl ?_
                        refine z_getR (N := 92) (b := 126) 12 2 rfl f_12_8 rfl J rfl 16002 ⟨rfl, rfl⟩ rfl ?_
                        refine x_iload (x := v85) rfl rfl ?_
                        refine x_iloadn (x := a1) rfl rfl ?_
                        refine z_iast (N := 50660) (l := 18140) (u := 18740) (w := a1.toInt) rfl hD J Sm rfl rfl rfl (by omega) rfl (wr_126_18140 (by omega) (fun q1 q2 q3 q4 => by omega) (fun q1 q2 q3 q4 => by omega) (fun q1 q2 q3 q4 => by omega)) rfl (fun h w86 J Sm => ?_)
                        refine x_aloadn (x := 125) rfl rfl ?_
                        refine z_getR (N := 92) (b := 126) 12 2 rfl f_12_8 rfl J rfl 16002 ⟨rfl, rfl⟩ rfl ?_
                        refine x_iload (x := v85) rfl rfl ?_
                        refine x_iconst (v := 1) rfl ki_1 ?_
                        refine z_iadd rfl rfl jk_1 (by omega) (fun v87 ev87 => ?_)
                        refine x_iloadn (x := a2) rfl rfl ?_
                        refine z_iast (N := 50660) (l := 18140) (u := 18740) (w := a2.toInt) rfl hD J Sm rfl rfl rfl (by omega) rfl (wr_126_18140 (by omega) (fun q1 q2 q3 q4 => by omega) (fun q1 q2 q3 q4 => by omega) (fun q1 q2 q3 q4 => by omega)) rfl (fun h w88 J Sm => ?_)
                        refine x_aloadn (x := 125) rfl rfl ?_
                        refine z_getR (N := 92) (b := 126) 12 2 rfl f_12_8 rfl J rfl 16002 ⟨rfl, rfl⟩ rfl ?_
                        refine x_iload (x := v85) rfl rfl ?_
                        refine x_iconst (v := 2) rfl ki_2 ?_
                        refine z_iadd rfl rfl jk_2 (by omega) (fun v89 ev89 => ?_)
                        refine x_iloadn (x := a3) rfl rfl ?_
                        refine z_iast (N := 50660) (l := 18140) (u := 18740) (w := a3.toInt) rfl hD J Sm rfl rfl rfl (by omega) rfl (wr_126_18140 (by omega) (fun q1 q2 q3 q4 => by omega) (fun q1 q2 q3 q4 => by omega) (fun q1 q2 q3 q4 => by omega)) rfl (fun h w90 J Sm => ?_)
                        refine x_aloadn (x := 125) rfl rfl ?_
                        refine z_getR (N := 92) (b := 126) 12 2 rfl f_12_8 rfl J rfl 16002 ⟨rfl, rfl⟩ rfl ?_
                        refine x_iconst (v := 2) rfl ki_2 ?_
                        refine x_dup2 rfl rfl rfl ?_
                        refine z_ialdM (N := 50660) (v := v82) rfl J rfl jk_2 (by omega) (jmo2 w90 rfl jk_2 (by omega) (jmo2 w88 rfl jk_2 (by omega) (jmo2 w86 rfl jk_2 (by omega) qv82))) ?_
                        refine x_iconst (v := 1) rfl ki_1 ?_
                        refine z_iadd rfl rfl jk_1 (by omega) (fun v91 ev91 => ?_)
                        refine z_iast (N := 50660) (l := 2) (u := 3) (w := v91.toInt) rfl hD J Sm rfl rfl jk_2 (by omega) rfl (wr_126_2 (by omega) (fun q1 q2 q3 q4 => by omega)) rfl (fun h w92 J Sm => ?_)
                        refine x_vret rfl rfl ?_
                        show jX m_X12_together 9 0 0 96 [(0, .ref 125), (1, .int a1), (2, .int a2), (3, .int a3)] [] _ 0 0 _
                        refine x_aloadn (x := 125) rfl rfl ?_
                        refine x_aloadn (x := 125) rfl rfl ?_
                        refine z_getR (N := 92) (b := 126) 12 2 rfl f_12_8 rfl J rfl 16002 ⟨rfl, rfl⟩ rfl ?_
                        refine x_iconst (v := 2) rfl ki_2 ?_
                        refine z_ialdM (N := 50660) (v := v91) rfl J rfl jk_2 (by omega) (jmw w92) ?_
                        refine x_inv (N := m_X12_told) (As := [.int v91]) (b := 125) (st := []) (dx9 := 1) (mc := 0) (ms := 0) (host := "") 12 rfl t_X12_told ⟨Or.inl q_12_197, i_X12_told.1, i_X12_told.2⟩ ⟨by decide, rfl⟩ (congrArg Prod.fst (J.1.1 125 (12, 92) rfl)) rfl (by decide) rfl rfl ⟨by decide, by decide⟩ (sf_X12_told_r125  hD J  (fun v94 h J S93 => ?_))
                        have ev94 := jfull v94
                        have Sm := jSm_tr rfl Sm S93
                        show jX m_X12_together 9 0 0 106 [(0, .ref 125), (1, .int a1), (2, .int a2), (3, .int a3)] [.int v94] _ 0 0 _
                        refine x_iret rfl rfl ?_
                        exact hQ _ _ J Sm
                      ·
                        refine x_aloadn (x := 125) rfl rfl ?_
                        refine x_bipush (v := (-5)) rfl kb_m5 ?_
                        refine x_inv (N := m_X12_told) (As := [.int (-5)]) (b := 125) (st := []) (dx9 := 1) (mc := 0) (ms := 0) (host := "") 12 rfl t_X12_told ⟨Or.inl q_12_197, i_X12_told.1, i_X12_told.2⟩ ⟨by decide, rfl⟩ (congrArg Prod.fst (J.1.1 125 (12, 92) rfl)) rfl (by decide) rfl rfl ⟨by decide, by decide⟩ (sf_X12_told_r125  hD J  (fun v96 h J S95 => ?_))
                        have ev96 := jfull v96
                        have Sm := jSm_tr rfl Sm S95
                        show jX m_X12_together 9 0 0 88 [(0, .ref 125), (1, .int a1), (2, .int a2), (3, .int a3)] [.int v96] _ 0 0 _
                        refine x_iret rfl rfl ?_
                        exact hQ _ _ J Sm
                    ·
                      refine x_aloadn (x := 125) rfl rfl ?_
                      refine x_bipush (v := (-4)) rfl kb_m4 ?_
                      refine x_inv (N := m_X12_told) (As := [.int (-4)]) (b := 125) (st := []) (dx9 := 1) (mc := 0) (ms := 0) (host := "") 12 rfl t_X12_told ⟨Or.inl q_12_197, i_X12_told.1, i_X12_told.2⟩ ⟨by decide, rfl⟩ (congrArg Prod.fst (J.1.1 125 (12, 92) rfl)) rfl (by decide) rfl rfl ⟨by decide, by decide⟩ (sf_X12_told_r125  hD J  (fun v98 h J S97 => ?_))
                      have ev98 := jfull v98
                      have Sm := jSm_tr rfl Sm S97
                      show jX m_X12_together 9 0 0 69 [(0, .ref 125), (1, .int a1), (2, .int a2), (3, .int a3)] [.int v98] _ 0 0 _
                      refine x_iret rfl rfl ?_
                      exact hQ _ _ J Sm
          ·
            refine x_iconst (v := 2) rfl ki_2 ?_
            refine x_goto (tgt := 18) rfl rfl ?_
            refine x_iret rfl rfl ?_
            show jX m_X12_isMention 8 0 0 27 [(0, .ref 125), (1, .int a1)] [.int 2, .int v12] _ 0 0 _
            refine x_icge (tgt := 34) rfl rfl (ti_ge rfl jk_2 ⟨fun c99 => ?_, fun c99 => ?_⟩)
            ·
              refine x_iconst (v := 0) rfl ki_0 ?_
              refine x_zret rfl rfl (by decide) ?_
              show jX m_X12_together 9 0 0 23 [(0, .ref 125), (1, .int a1), (2, .int a2), (3, .int a3)] [.int 0] _ 0 0 _
              refine x_ifeq (tgt := 34) rfl rfl (ti_eq jk_0 jk_0 (br_t (by omega) ?_))
              exact jX.sub (jsb_c rfl jsb_n) (ct_X12_together_r125_34 hD hQ  h J Sm)
            ·
              refine x_iconst (v := 1) rfl ki_1 ?_
              refine x_goto (tgt := 35) rfl rfl ?_
              refine x_zret rfl rfl (by decide) ?_
              show jX m_X12_together 9 0 0 23 [(0, .ref 125), (1, .int a1), (2, .int a2), (3, .int a3)] [.int 1] _ 0 0 _
              refine x_ifeq (tgt := 34) rfl rfl (ti_eq jk_1 jk_0 (br_f (by omega) ?_))
              refine x_aloadn (x := 125) rfl rfl ?_
              refine x_iloadn (x := a2) rfl rfl ?_
              refine x_inv (N := m_X12_isMention) (As := [.int a2]) (b := 125) (st := []) (dx9 := 8) (mc := 0) (ms := 0) (host := "") 12 rfl t_X12_isMention ⟨Or.inl q_12_322, i_X12_isMention.1, i_X12_isMention.2⟩ ⟨by decide, rfl⟩ (congrArg Prod.fst (J.1.1 125 (12, 92) rfl)) rfl (by decide) rfl rfl ⟨by decide, by decide⟩ (jC.of rfl k_X12_isMention rfl ?_)
              show jX m_X12_isMention 8 0 0 0 [(0, .ref 125), (1, .int a2)] [] _ 0 0 _
              refine x_iloadn (x := a2) rfl rfl ?_
              refine x_iflt (tgt := 34) rfl rfl (ti_lt rfl jk_0 ⟨fun c100 => ?_, fun c100 => ?_⟩)
              ·
                refine x_iconst (v := 0) rfl ki_0 ?_
                refine x_zret rfl rfl (by decide) ?_
                show jX m_X12_together 9 0 0 31 [(0, .ref 125), (1, .int a1), (2, .int a2), (3, .int a3)] [.int 0] _ 0 0 _
                refine x_ifne (tgt := 41) rfl rfl (ti_ne jk_0 jk_0 (bn_f (by omega) ?_))
                exact jX.sub (jsb_c rfl jsb_n) (ct_X12_together_r125_34 hD hQ  h J Sm)
              ·
                refine x_aloadn (x := 125) rfl rfl ?_
                refine x_iloadn (x := a2) rfl rfl ?_
                refine x_iconst (v := 3) rfl ki_3 ?_
                refine z_idiv rfl rfl jk_3 (by omega) (by omega) (fun v101 ev101 => ?_)
                refine x_inv (N := m_X12_isLine) (As := [.int v101]) (b := 125) (st := []) (dx9 := 7) (mc := 0) (ms := 0) (host := "") 12 rfl t_X12_isLine ⟨Or.inl q_12_293, i_X12_isLine.1, i_X12_isLine.2⟩ ⟨by decide, rfl⟩ (congrArg Prod.fst (J.1.1 125 (12, 92) rfl)) rfl (by decide) rfl rfl ⟨by decide, by decide⟩ (jC.of rfl k_X12_isLine rfl ?_)
                show jX m_X12_isLine 7 0 0 0 [(0, .ref 125), (1, .int v101)] [] _ 0 0 _
                refine x_iloadn (x := v101) rfl rfl ?_
                refine z_i2l rfl rfl (fun v102 ev102 => ?_)
                refine x_lconst (v := 0) rfl kl_0 ?_
                refine x_aloadn (x := 125) rfl rfl ?_
                refine z_getR (N := 92) (b := 126) 12 2 rfl f_12_8 rfl J rfl 16002 ⟨rfl, rfl⟩ rfl ?_
                refine x_iconst (v := 0) rfl ki_0 ?_
                refine z_ialdM (N := 50660) (v := v7) rfl J rfl jk_0 (by omega) qv7 ?_
                refine z_i2l rfl rfl (fun v103 ev103 => ?_)
                refine x_lconst (v := 1) rfl kl_1 ?_
                refine z_lsub rfl rfl jkl_1 (by omega) (fun v104 ev104 => ?_)
                refine x_inst (N := m_X12_in) (As := [.long v102, .long 0, .long v104]) (st := []) (dx9 := 1) (mc := 0) (ms := 0) (host := "") rfl t_X12_in ⟨Or.inl q_12_188, s_X12_in⟩ rfl (by decide) rfl rfl ⟨by decide, by decide⟩ (zc_X12_in rfl jkl_0 rfl (fun v105 ev105 => ?_))
                show jX m_X12_isLine 7 0 0 15 [(0, .ref 125), (1, .int v101)] [.int v105] _ 0 0 _
                refine x_zret rfl rfl (jz01 (by omega)) ?_
                show jX m_X12_isMention 8 0 0 11 [(0, .ref 125), (1, .int a2)] [.int v105] _ 0 0 _
                refine x_ifeq (tgt := 34) rfl rfl (ti_eq rfl jk_0 ⟨fun c106 => ?_, fun c106 => ?_⟩)
                ·
                  refine x_iconst (v := 0) rfl ki_0 ?_
                  refine x_zret rfl rfl (by decide) ?_
                  show jX m_X12_together 9 0 0 31 [(0, .ref 125), (1, .int a1), (2, .int a2), (3, .int a3)] [.int 0] _ 0 0 _
                  refine x_ifne (tgt := 41) rfl rfl (ti_ne jk_0 jk_0 (bn_f (by omega) ?_))
                  exact jX.sub (jsb_c rfl jsb_n) (ct_X12_together_r125_34 hD hQ  h J Sm)
                ·
                  refine x_iloadn (x := a2) rfl rfl ?_
                  refine x_iconst (v := 3) rfl ki_3 ?_
                  refine z_irem rfl rfl jk_3 (by omega) (by omega) (fun v107 ev107 => ?_)
                  refine x_aloadn (x := 125) rfl rfl ?_
                  refine x_iloadn (x := a2) rfl rfl ?_
                  refine x_iconst (v := 3) rfl ki_3 ?_
                  refine z_idiv rfl rfl jk_3 (by omega) (by omega) (fun v108 ev108 => ?_)
                  refine x_inv (N := m_X12_bookOf) (As := [.int v108]) (b := 125) (st := [.int v107]) (dx9 := 7) (mc := 0) (ms := 0) (host := "") 12 rfl t_X12_bookOf ⟨Or.inl q_12_299, i_X12_bookOf.1, i_X12_bookOf.2⟩ ⟨by decide, rfl⟩ (congrArg Prod.fst (J.1.1 125 (12, 92) rfl)) rfl (by decide) rfl rfl ⟨by decide, by decide⟩ (jC.of rfl k_X12_bookOf rfl ?_)
                  show jX m_X12_bookOf 7 0 0 0 [(0, .ref 125), (1, .int v108)] [] _ 0 0 _
                  refine x_aloadn (x := 125) rfl rfl ?_
                  refine z_getR (N := 92) (b := 126) 12 2 rfl f_12_8 rfl J rfl 16002 ⟨rfl, rfl⟩ rfl ?_
                  refine x_aloadn (x := 125) rfl rfl ?_
                  refine x_iloadn (x := v108) rfl rfl ?_
                  refine x_inv (N := m_X12_at) (As := [.int v108]) (b := 125) (st := [.ref 126]) (dx9 := 6) (mc := 0) (ms := 0) (host := "") 12 rfl t_X12_at ⟨Or.inl q_12_254, i_X12_at.1, i_X12_at.2⟩ ⟨by decide, rfl⟩ (congrArg Prod.fst (J.1.1 125 (12, 92) rfl)) rfl (by decide) rfl rfl ⟨by decide, by decide⟩ (jC.of rfl k_X12_at rfl ?_)
                  show jX m_X12_at 6 0 0 0 [(0, .ref 125), (1, .int v108)] [] _ 0 0 _
                  refine x_bipush (v := 20) rfl kb_20 ?_
                  refine x_bipush (v := 90) rfl kb_90 ?_
                  refine x_iloadn (x := v108) rfl rfl ?_
                  refine z_imul rfl jk_90 rfl (by omega) (fun v109 ev109 => ?_)
                  refine z_iadd rfl jk_20 rfl (by omega) (fun v110 ev110 => ?_)
                  refine x_iret rfl rfl ?_
                  show jX m_X12_bookOf 7 0 0 9 [(0, .ref 125), (1, .int v108)] [.int v110, .ref 126] _ 0 0 _
                  refine z_iald (N := 50660) rfl J rfl sg_126_20_18020_90_0_1 rfl (by omega) (fun v111 qv111 ev111 => ?_)
                  refine x_iret rfl rfl ?_
                  show jX m_X12_isMention 8 0 0 24 [(0, .ref 125), (1, .int a2)] [.int v111, .int v107] _ 0 0 _
                  refine x_inst (N := m_X12_rolesOf) (As := [.int v111]) (st := [.int v107]) (dx9 := 7) (mc := 0) (ms := 0) (host := "") rfl t_X12_rolesOf ⟨Or.inl q_12_286, s_X12_rolesOf⟩ rfl (by decide) rfl rfl ⟨by decide, by decide⟩ (jC.of rfl k_X12_rolesOf rfl ?_)
                  show jX m_X12_rolesOf 7 0 0 0 [(0, .int v111)] [] _ 0 0 _
                  refine x_iloadn (x := v111) rfl rfl ?_
                  refine x_ifne (tgt := 8) rfl rfl (ti_ne rfl jk_0 ⟨fun c112 => ?_, fun c112 => ?_⟩)
                  ·
                    refine x_iloadn (x := v111) rfl rfl ?_
                    refine x_iconst (v := 1) rfl ki_1 ?_
                    refine x_icne (tgt := 17) rfl rfl (ti_ne rfl jk_1 ⟨fun c113 => ?_, fun c113 => ?_⟩)
                    ·
                      refine x_iconst (v := 1) rfl ki_1 ?_
                      refine x_iret rfl rfl ?_
                      show jX m_X12_isMention 8 0 0 27 [(0, .ref 125), (1, .int a2)] [.int 1, .int v107] _ 0 0 _
                      refine x_icge (tgt := 34) rfl rfl (ti_ge rfl jk_1 ⟨fun c114 => ?_, fun c114 => ?_⟩)
                      ·
                        refine x_iconst (v := 0) rfl ki_0 ?_
                        refine x_zret rfl rfl (by decide) ?_
                        show jX m_X12_together 9 0 0 31 [(0, .ref 125), (1, .int a1), (2, .int a2), (3, .int a3)] [.int 0] _ 0 0 _
                        refine x_ifne (tgt := 41) rfl rfl (ti_ne jk_0 jk_0 (bn_f (by omega) ?_))
                        exact jX.sub (jsb_c rfl jsb_n) (ct_X12_together_r125_34 hD hQ  h J Sm)
                      ·
                        refine x_iconst (v := 1) rfl ki_1 ?_
                        refine x_goto (tgt := 35) rfl rfl ?_
                        refine x_zret rfl rfl (by decide) ?_
                        show jX m_X12_together 9 0 0 31 [(0, .ref 125), (1, .int a1), (2, .int a2), (3, .int a3)] [.int 1] _ 0 0 _
                        refine x_ifne (tgt := 41) rfl rfl (ti_ne jk_1 jk_0 (bn_t (by omega) ?_))
                        refine x_aloadn (x := 125) rfl rfl ?_
                        refine x_ldcw (v := 146399) rfl z_12_392 ?_
                        refine x_inv (N := m_X12_find) (As := [.int 146399]) (b := 125) (st := []) (dx9 := 8) (mc := 0) (ms := 0) (host := "") 12 rfl t_X12_find ⟨Or.inl q_12_393, i_X12_find.1, i_X12_find.2⟩ ⟨by decide, rfl⟩ (congrArg Prod.fst (J.1.1 125 (12, 92) rfl)) rfl (by decide) rfl rfl ⟨by decide, by decide⟩ (sf_X12_find_r125 (jr_of jk_146399 (by omega)) hD J  (fun h J S115 => ?_))
                        have Sm := jSm_tr rfl Sm S115
                        show jX m_X12_together 9 0 0 48 [(0, .ref 125), (1, .int a1), (2, .int a2), (3, .int a3)] [] _ 0 0 _
                        refine x_aloadn (x := 125) rfl rfl ?_
                        refine z_getR (N := 92) (b := 139) 12 29 rfl f_12_72 rfl J rfl 16029 ⟨rfl, rfl⟩ rfl ?_
                        refine x_iloadn (x := a1) rfl rfl ?_
                        refine z_iald (N := 600) rfl J rfl sg_139_0_600_1_0_1 rfl (by omega) (fun v116 qv116 ev116 => ?_)
                        refine x_aloadn (x := 125) rfl rfl ?_
                        refine z_getR (N := 92) (b := 139) 12 29 rfl f_12_72 rfl J rfl 16029 ⟨rfl, rfl⟩ rfl ?_
                        refine x_iloadn (x := a2) rfl rfl ?_
                        refine z_iald (N := 600) rfl J rfl sg_139_0_600_1_0_1 rfl (by omega) (fun v117 qv117 ev117 => ?_)
                        refine x_icne (tgt := 70) rfl rfl (ti_ne rfl rfl ⟨fun c118 => ?_, fun c118 => ?_⟩)
                        ·
                          refine x_aloadn (x := 125) rfl rfl ?_
                          refine z_getR (N := 92) (b := 126) 12 2 rfl f_12_8 rfl J rfl 16002 ⟨rfl, rfl⟩ rfl ?_
                          refine x_iconst (v := 2) rfl ki_2 ?_
                          refine z_iald (N := 50660) rfl J rfl sg_126_2_3_1_0_1 jk_2 (by omega) (fun v119 qv119 ev119 => ?_)
                          refine x_sipush (v := 200) rfl ks_200 ?_
                          refine x_icne (tgt := 89) rfl rfl (ti_ne rfl jk_200 ⟨fun c120 => ?_, fun c120 => ?_⟩)
                          ·
                            refine x_aloadn (x := 125) rfl rfl ?_
                            refine x_iloadn (x := a1) rfl rfl ?_
                            refine x_iloadn (x := a2) rfl rfl ?_
                            refine x_iloadn (x := a3) rfl rfl ?_
                            refine x_inv (N := m_X12_addJoined) (As := [.int a1, .int a2, .int a3]) (b := 125) (st := []) (dx9 := 8) (mc := 0) (ms := 0) (host := "") 12 rfl t_X12_addJoined ⟨Or.inl q_12_396, i_X12_addJoined.1, i_X12_addJoined.2⟩ ⟨by decide, rfl⟩ (congrArg Prod.fst (J.1.1 125 (12, 92) rfl)) rfl (by decide) rfl rfl ⟨by decide, by decide⟩ (jC.of rfl k_X12_addJoined rfl ?_)
                            show jX m_X12_addJoined 8 0 0 0 [(0, .ref 125), (1, .int a1), (2, .int a2), (3, .int a3)] [] _ 0 0 _
                            refine x_sipush (v := 18140) rfl ks_18140 ?_
                            refine x_iconst (v := 3) rfl ki_3 ?_
                            refine x_aloadn (x := 125) rfl rfl ?_
                            refine z_getR (N := 92) (b := 126) 12 2 rfl f_12_8 rfl J rfl 16002 ⟨rfl, rfl⟩ rfl ?_
                            refine x_iconst (v := 2) rfl ki_2 ?_
                            refine z_ialdM (N := 50660) (v := v119) rfl J rfl jk_2 (by omega) qv119 ?_
                            refine z_imul rfl jk_3 rfl (by omega) (fun v121 ev121 => ?_)
                            refine z_iadd rfl jk_18140 rfl (by omega) (fun v122 ev122 => ?_)
                            refine x_istore (lsx9 := [(4, .int v122), (0, .ref 125), (1, .int a1), (2, .int a2), (3, .int a3)]) rfl rfl rfl ?_
                            refine x_aloadn (x := 125) rfl rfl ?_
                            refine z_getR (N := 92) (b := 126) 12 2 rfl f_12_8 rfl J rfl 16002 ⟨rfl, rfl⟩ rfl ?_
                            refine x_iload (x := v122) rfl rfl ?_
                            refine x_iloadn (x := a1) rfl rfl ?_
                            refine z_iast (N := 50660) (l := 18140) (u := 18740) (w := a1.toInt) rfl hD J Sm rfl rfl rfl (by omega) rfl (wr_126_18140 (by omega) (fun q1 q2 q3 q4 => by omega) (fun q1 q2 q3 q4 => by omega) (fun q1 q2 q3 q4 => by omega)) rfl (fun h w123 J Sm => ?_)
                            refine x_aloadn (x := 125) rfl rfl ?_
                            refine z_getR (N := 92) (b := 126) 12 2 rfl f_12_8 rfl J rfl 16002 ⟨rfl, rfl⟩ rfl ?_
                            refine x_iload (x := v122) rfl rfl ?_
                            refine x_iconst (v := 1) rfl ki_1 ?_
                            refine z_iadd rfl rfl jk_1 (by omega) (fun v124 ev124 => ?_)
                            refine x_iloadn (x := a2) rfl rfl ?_
                            refine z_iast (N := 50660) (l := 18140) (u := 18740) (w := a2.toInt) rfl hD J Sm rfl rfl rfl (by omega) rfl (wr_126_18140 (by omega) (fun q1 q2 q3 q4 => by omega) (fun q1 q2 q3 q4 => by omega) (fun q1 q2 q3 q4 => by omega)) rfl (fun h w125 J Sm => ?_)
                            refine x_aloadn (x := 125) rfl rfl ?_
                            refine z_getR (N := 92) (b := 126) 12 2 rfl f_12_8 rfl J rfl 16002 ⟨rfl, rfl⟩ rfl ?_
                            refine x_iload (x := v122) rfl rfl ?_
                            refine x_iconst (v := 2) rfl ki_2 ?_
                            refine z_iadd rfl rfl jk_2 (by omega) (fun v126 ev126 => ?_)
                            refine x_iloadn (x := a3) rfl rfl ?_
                            refine z_iast (N := 50660) (l := 18140) (u := 18740) (w := a3.toInt) rfl hD J Sm rfl rfl rfl (by omega) rfl (wr_126_18140 (by omega) (fun q1 q2 q3 q4 => by omega) (fun q1 q2 q3 q4 => by omega) (fun q1 q2 q3 q4 => by omega)) rfl (fun h w127 J Sm => ?_)
                            refine x_aloadn (x := 125) rfl rfl ?_
                            refine z_getR (N := 92) (b := 126) 12 2 rfl f_12_8 rfl J rfl 16002 ⟨rfl, rfl⟩ rfl ?_
                            refine x_iconst (v := 2) rfl ki_2 ?_
                            refine x_dup2 rfl rfl rfl ?_
                            refine z_ialdM (N := 50660) (v := v119) rfl J rfl jk_2 (by omega) (jmo2 w127 rfl jk_2 (by omega) (jmo2 w125 rfl jk_2 (by omega) (jmo2 w123 rfl jk_2 (by omega) qv119))) ?_
                            refine x_iconst (v := 1) rfl ki_1 ?_
                            refine z_iadd rfl rfl jk_1 (by omega) (fun v128 ev128 => ?_)
                            refine z_iast (N := 50660) (l := 2) (u := 3) (w := v128.toInt) rfl hD J Sm rfl rfl jk_2 (by omega) rfl (wr_126_2 (by omega) (fun q1 q2 q3 q4 => by omega)) rfl (fun h w129 J Sm => ?_)
                            refine x_vret rfl rfl ?_
                            show jX m_X12_together 9 0 0 96 [(0, .ref 125), (1, .int a1), (2, .int a2), (3, .int a3)] [] _ 0 0 _
                            refine x_aloadn (x := 125) rfl rfl ?_
                            refine x_aloadn (x := 125) rfl rfl ?_
                            refine z_getR (N := 92) (b := 126) 12 2 rfl f_12_8 rfl J rfl 16002 ⟨rfl, rfl⟩ rfl ?_
                            refine x_iconst (v := 2) rfl ki_2 ?_
                            refine z_ialdM (N := 50660) (v := v128) rfl J rfl jk_2 (by omega) (jmw w129) ?_
                            refine x_inv (N := m_X12_told) (As := [.int v128]) (b := 125) (st := []) (dx9 := 1) (mc := 0) (ms := 0) (host := "") 12 rfl t_X12_told ⟨Or.inl q_12_197, i_X12_told.1, i_X12_told.2⟩ ⟨by decide, rfl⟩ (congrArg Prod.fst (J.1.1 125 (12, 92) rfl)) rfl (by decide) rfl rfl ⟨by decide, by decide⟩ (sf_X12_told_r125  hD J  (fun v131 h J S130 => ?_))
                            have ev131 := jfull v131
                            have Sm := jSm_tr rfl Sm S130
                            show jX m_X12_together 9 0 0 106 [(0, .ref 125), (1, .int a1), (2, .int a2), (3, .int a3)] [.int v131] _ 0 0 _
                            refine x_iret rfl rfl ?_
                            exact hQ _ _ J Sm
                          ·
                            refine x_aloadn (x := 125) rfl rfl ?_
                            refine x_bipush (v := (-5)) rfl kb_m5 ?_
                            refine x_inv (N := m_X12_told) (As := [.int (-5)]) (b := 125) (st := []) (dx9 := 1) (mc := 0) (ms := 0) (host := "") 12 rfl t_X12_told ⟨Or.inl q_12_197, i_X12_told.1, i_X12_told.2⟩ ⟨by decide, rfl⟩ (congrArg Prod.fst (J.1.1 125 (12, 92) rfl)) rfl (by decide) rfl rfl ⟨by decide, by decide⟩ (sf_X12_told_r125  hD J  (fun v133 h J S132 => ?_))
                            have ev133 := jfull v133
                            have Sm := jSm_tr rfl Sm S132
                            show jX m_X12_together 9 0 0 88 [(0, .ref 125), (1, .int a1), (2, .int a2), (3, .int a3)] [.int v133] _ 0 0 _
                            refine x_iret rfl rfl ?_
                            exact hQ _ _ J Sm
                        ·
                          refine x_aloadn (x := 125) rfl rfl ?_
                          refine x_bipush (v := (-4)) rfl kb_m4 ?_
                          refine x_inv (N := m_X12_told) (As := [.int (-4)]) (b := 125) (st := []) (dx9 := 1) (mc := 0) (ms := 0) (host := "") 12 rfl t_X12_told ⟨Or.inl q_12_197, i_X12_told.1, i_X12_told.2⟩ ⟨by decide, rfl⟩ (congrArg Prod.fst (J.1.1 125 (12, 92) rfl)) rfl (by decide) rfl rfl ⟨by decide, by decide⟩ (sf_X12_told_r125  hD J  (fun v135 h J S134 => ?_))
                          have ev135 := jfull v135
                          have Sm := jSm_tr rfl Sm S134
                          show jX m_X12_together 9 0 0 69 [(0, .ref 125), (1, .int a1), (2, .int a2), (3, .int a3)] [.int v135] _ 0 0 _
                          refine x_iret rfl rfl ?_
                          exact hQ _ _ J Sm
                    ·
                      refine x_iconst (v := 2) rfl ki_2 ?_
                      refine x_goto (tgt := 18) rfl rfl ?_
                      refine x_iret rfl rfl ?_
                      show jX m_X12_isMention 8 0 0 27 [(0, .ref 125), (1, .int a2)] [.int 2, .int v107] _ 0 0 _
                      refine x_icge (tgt := 34) rfl rfl (ti_ge rfl jk_2 ⟨fun c136 => ?_, fun c136 => ?_⟩)
                      ·
                        refine x_iconst (v := 0) rfl ki_0 ?_
                        refine x_zret rfl rfl (by decide) ?_
                        show jX m_X12_together 9 0 0 31 [(0, .ref 125), (1, .int a1), (2, .int a2), (3, .int a3)] [.int 0] _ 0 0 _
                        refine x_ifne (tgt := 41) rfl rfl (ti_ne jk_0 jk_0 (bn_f (by omega) ?_))
                        exact jX.sub (jsb_c rfl jsb_n) (ct_X12_together_r125_34 hD hQ  h J Sm)
                      ·
                        refine x_iconst (v := 1) rfl ki_1 ?_
                        refine x_goto (tgt := 35) rfl rfl ?_
                        refine x_zret rfl rfl (by decide) ?_
                        show jX m_X12_together 9 0 0 31 [(0, .ref 125), (1, .int a1), (2, .int a2), (3, .int a3)] [.int 1] _ 0 0 _
                        refine x_ifne (tgt := 41) rfl rfl (ti_ne jk_1 jk_0 (bn_t (by omega) ?_))
                        refine x_aloadn (x := 125) rfl rfl ?_
                        refine x_ldcw (v := 146399) rfl z_12_392 ?_
                        refine x_inv (N := m_X12_find) (As := [.int 146399]) (b := 125) (st := []) (dx9 := 8) (mc := 0) (ms := 0) (host := "") 12 rfl t_X12_find ⟨Or.inl q_12_393, i_X12_find.1, i_X12_find.2⟩ ⟨by decide, rfl⟩ (congrArg Prod.fst (J.1.1 125 (12, 92) rfl)) rfl (by decide) rfl rfl ⟨by decide, by decide⟩ (sf_X12_find_r125 (jr_of jk_146399 (by omega)) hD J  (fun h J S137 => ?_))
                        have Sm := jSm_tr rfl Sm S137
                        show jX m_X12_together 9 0 0 48 [(0, .ref 125), (1, .int a1), (2, .int a2), (3, .int a3)] [] _ 0 0 _
                        refine x_aloadn (x := 125) rfl rfl ?_
                        refine z_getR (N := 92) (b := 139) 12 29 rfl f_12_72 rfl J rfl 16029 ⟨rfl, rfl⟩ rfl ?_
                        refine x_iloadn (x := a1) rfl rfl ?_
                        refine z_iald (N := 600) rfl J rfl sg_139_0_600_1_0_1 rfl (by omega) (fun v138 qv138 ev138 => ?_)
                        refine x_aloadn (x := 125) rfl rfl ?_
                        refine z_getR (N := 92) (b := 139) 12 29 rfl f_12_72 rfl J rfl 16029 ⟨rfl, rfl⟩ rfl ?_
                        refine x_iloadn (x := a2) rfl rfl ?_
                        refine z_iald (N := 600) rfl J rfl sg_139_0_600_1_0_1 rfl (by omega) (fun v139 qv139 ev139 => ?_)
                        refine x_icne (tgt := 70) rfl rfl (ti_ne rfl rfl ⟨fun c140 => ?_, fun c140 => ?_⟩)
                        ·
                          refine x_aloadn (x := 125) rfl rfl ?_
                          refine z_getR (N := 92) (b := 126) 12 2 rfl f_12_8 rfl J rfl 16002 ⟨rfl, rfl⟩ rfl ?_
                          refine x_iconst (v := 2) rfl ki_2 ?_
                          refine z_iald (N := 50660) rfl J rfl sg_126_2_3_1_0_1 jk_2 (by omega) (fun v141 qv141 ev141 => ?_)
                          refine x_sipush (v := 200) rfl ks_200 ?_
                          refine x_icne (tgt := 89) rfl rfl (ti_ne rfl jk_200 ⟨fun c142 => ?_, fun c142 => ?_⟩)
                          ·
                            refine x_aloadn (x := 125) rfl rfl ?_
                            refine x_iloadn (x := a1) rfl rfl ?_
                            refine x_iloadn (x := a2) rfl rfl ?_
                            refine x_iloadn (x := a3) rfl rfl ?_
                            refine x_inv (N := m_X12_addJoined) (As := [.int a1, .int a2, .int a3]) (b := 125) (st := []) (dx9 := 8) (mc := 0) (ms := 0) (host := "") 12 rfl t_X12_addJoined ⟨Or.inl q_12_396, i_X12_addJoined.1, i_X12_addJoined.2⟩ ⟨by decide, rfl⟩ (congrArg Prod.fst (J.1.1 125 (12, 92) rfl)) rfl (by decide) rfl rfl ⟨by decide, by decide⟩ (jC.of rfl k_X12_addJoined rfl ?_)
                            show jX m_X12_addJoined 8 0 0 0 [(0, .ref 125), (1, .int a1), (2, .int a2), (3, .int a3)] [] _ 0 0 _
                            refine x_sipush (v := 18140) rfl ks_18140 ?_
                            refine x_iconst (v := 3) rfl ki_3 ?_
                            refine x_aloadn (x := 125) rfl rfl ?_
                            refine z_getR (N := 92) (b := 126) 12 2 rfl f_12_8 rfl J rfl 16002 ⟨rfl, rfl⟩ rfl ?_
                            refine x_iconst (v := 2) rfl ki_2 ?_
                            refine z_ialdM (N := 50660) (v := v141) rfl J rfl jk_2 (by omega) qv141 ?_
                            refine z_imul rfl jk_3 rfl (by omega) (fun v143 ev143 => ?_)
                            refine z_iadd rfl jk_18140 rfl (by omega) (fun v144 ev144 => ?_)
                            refine x_istore (lsx9 := [(4, .int v144), (0, .ref 125), (1, .int a1), (2, .int a2), (3, .int a3)]) rfl rfl rfl ?_
                            refine x_aloadn (x := 125) rfl rfl ?_
                            refine z_getR (N := 92) (b := 126) 12 2 rfl f_12_8 rfl J rfl 16002 ⟨rfl, rfl⟩ rfl ?_
                            refine x_iload (x := v144) rfl rfl ?_
                            refine x_iloadn (x := a1) rfl rfl ?_
                            refine z_iast (N := 50660) (l := 18140) (u := 18740) (w := a1.toInt) rfl hD J Sm rfl rfl rfl (by omega) rfl (wr_126_18140 (by omega) (fun q1 q2 q3 q4 => by omega) (fun q1 q2 q3 q4 => by omega) (fun q1 q2 q3 q4 => by omega)) rfl (fun h w145 J Sm => ?_)
                            refine x_aloadn (x := 125) rfl rfl ?_
                            refine z_getR (N := 92) (b := 126) 12 2 rfl f_12_8 rfl J rfl 16002 ⟨rfl, rfl⟩ rfl ?_
                            refine x_iload (x := v144) rfl rfl ?_
                            refine x_iconst (v := 1) rfl ki_1 ?_
                            refine z_iadd rfl rfl jk_1 (by omega) (fun v146 ev146 => ?_)
                            refine x_iloadn (x := a2) rfl rfl ?_
                            refine z_iast (N := 50660) (l := 18140) (u := 18740) (w := a2.toInt) rfl hD J Sm rfl rfl rfl (by omega) rfl (wr_126_18140 (by omega) (fun q1 q2 q3 q4 => by omega) (fun q1 q2 q3 q4 => by omega) (fun q1 q2 q3 q4 => by omega)) rfl (fun h w147 J Sm => ?_)
                            refine x_aloadn (x := 125) rfl rfl ?_
                            refine z_getR (N := 92) (b := 126) 12 2 rfl f_12_8 rfl J rfl 16002 ⟨rfl, rfl⟩ rfl ?_
                            refine x_iload (x := v144) rfl rfl ?_
                            refine x_iconst (v := 2) rfl ki_2 ?_
                            refine z_iadd rfl rfl jk_2 (by omega) (fun v148 ev148 => ?_)
                            refine x_iloadn (x := a3) rfl rfl ?_
                            refine z_iast (N := 50660) (l := 18140) (u := 18740) (w := a3.toInt) rfl hD J Sm rfl rfl rfl (by omega) rfl (wr_126_18140 (by omega) (fun q1 q2 q3 q4 => by omega) (fun q1 q2 q3 q4 => by omega) (fun q1 q2 q3 q4 => by omega)) rfl (fun h w149 J Sm => ?_)
                            refine x_aloadn (x := 125) rfl rfl ?_
                            refine z_getR (N := 92) (b := 126) 12 2 rfl f_12_8 rfl J rfl 16002 ⟨rfl, rfl⟩ rfl ?_
                            refine x_iconst (v := 2) rfl ki_2 ?_
                            refine x_dup2 rfl rfl rfl ?_
                            refine z_ialdM (N := 50660) (v := v141) rfl J rfl jk_2 (by omega) (jmo2 w149 rfl jk_2 (by omega) (jmo2 w147 rfl jk_2 (by omega) (jmo2 w145 rfl jk_2 (by omega) qv141))) ?_
                            refine x_iconst (v := 1) rfl ki_1 ?_
                            refine z_iadd rfl rfl jk_1 (by omega) (fun v150 ev150 => ?_)
                            refine z_iast (N := 50660) (l := 2) (u := 3) (w := v150.toInt) rfl hD J Sm rfl rfl jk_2 (by omega) rfl (wr_126_2 (by omega) (fun q1 q2 q3 q4 => by omega)) rfl (fun h w151 J Sm => ?_)
                            refine x_vret rfl rfl ?_
                            show jX m_X12_together 9 0 0 96 [(0, .ref 125), (1, .int a1), (2, .int a2), (3, .int a3)] [] _ 0 0 _
                            refine x_aloadn (x := 125) rfl rfl ?_
                            refine x_aloadn (x := 125) rfl rfl ?_
                            refine z_getR (N := 92) (b := 126) 12 2 rfl f_12_8 rfl J rfl 16002 ⟨rfl, rfl⟩ rfl ?_
                            refine x_iconst (v := 2) rfl ki_2 ?_
                            refine z_ialdM (N := 50660) (v := v150) rfl J rfl jk_2 (by omega) (jmw w151) ?_
                            refine x_inv (N := m_X12_told) (As := [.int v150]) (b := 125) (st := []) (dx9 := 1) (mc := 0) (ms := 0) (host := "") 12 rfl t_X12_told ⟨Or.inl q_12_197, i_X12_told.1, i_X12_told.2⟩ ⟨by decide, rfl⟩ (congrArg Prod.fst (J.1.1 125 (12, 92) rfl)) rfl (by decide) rfl rfl ⟨by decide, by decide⟩ (sf_X12_told_r125  hD J  (fun v153 h J S152 => ?_))
                            have ev153 := jfull v153
                            have Sm := jSm_tr rfl Sm S152
                            show jX m_X12_together 9 0 0 106 [(0, .ref 125), (1, .int a1), (2, .int a2), (3, .int a3)] [.int v153] _ 0 0 _
                            refine x_iret rfl rfl ?_
                            exact hQ _ _ J Sm
                          ·
                            refine x_aloadn (x := 125) rfl rfl ?_
                            refine x_bipush (v := (-5)) rfl kb_m5 ?_
                            refine x_inv (N := m_X12_told) (As := [.int (-5)]) (b := 125) (st := []) (dx9 := 1) (mc := 0) (ms := 0) (host := "") 12 rfl t_X12_told ⟨Or.inl q_12_197, i_X12_told.1, i_X12_told.2⟩ ⟨by decide, rfl⟩ (congrArg Prod.fst (J.1.1 125 (12, 92) rfl)) rfl (by decide) rfl rfl ⟨by decide, by decide⟩ (sf_X12_told_r125  hD J  (fun v155 h J S154 => ?_))
                            have ev155 := jfull v155
                            have Sm := jSm_tr rfl Sm S154
                            show jX m_X12_together 9 0 0 88 [(0, .ref 125), (1, .int a1), (2, .int a2), (3, .int a3)] [.int v155] _ 0 0 _
                            refine x_iret rfl rfl ?_
                            exact hQ _ _ J Sm
                        ·
                          refine x_aloadn (x := 125) rfl rfl ?_
                          refine x_bipush (v := (-4)) rfl kb_m4 ?_
                          refine x_inv (N := m_X12_told) (As := [.int (-4)]) (b := 125) (st := []) (dx9 := 1) (mc := 0) (ms := 0) (host := "") 12 rfl t_X12_told ⟨Or.inl q_12_197, i_X12_told.1, i_X12_told.2⟩ ⟨by decide, rfl⟩ (congrArg Prod.fst (J.1.1 125 (12, 92) rfl)) rfl (by decide) rfl rfl ⟨by decide, by decide⟩ (sf_X12_told_r125  hD J  (fun v157 h J S156 => ?_))
                          have ev157 := jfull v157
                          have Sm := jSm_tr rfl Sm S156
                          show jX m_X12_together 9 0 0 69 [(0, .ref 125), (1, .int a1), (2, .int a2), (3, .int a3)] [.int v157] _ 0 0 _
                          refine x_iret rfl rfl ?_
                          exact hQ _ _ J Sm
                  ·
                    refine x_iconst (v := 3) rfl ki_3 ?_
                    refine x_goto (tgt := 18) rfl rfl ?_
                    refine x_iret rfl rfl ?_
                    show jX m_X12_isMention 8 0 0 27 [(0, .ref 125), (1, .int a2)] [.int 3, .int v107] _ 0 0 _
                    refine x_icge (tgt := 34) rfl rfl (ti_ge rfl jk_3 (br_f (by omega) ?_))
                    refine x_iconst (v := 1) rfl ki_1 ?_
                    refine x_goto (tgt := 35) rfl rfl ?_
                    refine x_zret rfl rfl (by decide) ?_
                    show jX m_X12_together 9 0 0 31 [(0, .ref 125), (1, .int a1), (2, .int a2), (3, .int a3)] [.int 1] _ 0 0 _
                    refine x_ifne (tgt := 41) rfl rfl (ti_ne jk_1 jk_0 (bn_t (by omega) ?_))
                    refine x_aloadn (x := 125) rfl rfl ?_
                    refine x_ldcw (v := 146399) rfl z_12_392 ?_
                    refine x_inv (N := m_X12_find) (As := [.int 146399]) (b := 125) (st := []) (dx9 := 8) (mc := 0) (ms := 0) (host := "") 12 rfl t_X12_find ⟨Or.inl q_12_393, i_X12_find.1, i_X12_find.2⟩ ⟨by decide, rfl⟩ (congrArg Prod.fst (J.1.1 125 (12, 92) rfl)) rfl (by decide) rfl rfl ⟨by decide, by decide⟩ (sf_X12_find_r125 (jr_of jk_146399 (by omega)) hD J  (fun h J S158 => ?_))
                    have Sm := jSm_tr rfl Sm S158
                    show jX m_X12_together 9 0 0 48 [(0, .ref 125), (1, .int a1), (2, .int a2), (3, .int a3)] [] _ 0 0 _
                    refine x_aloadn (x := 125) rfl rfl ?_
                    refine z_getR (N := 92) (b := 139) 12 29 rfl f_12_72 rfl J rfl 16029 ⟨rfl, rfl⟩ rfl ?_
                    refine x_iloadn (x := a1) rfl rfl ?_
                    refine z_iald (N := 600) rfl J rfl sg_139_0_600_1_0_1 rfl (by omega) (fun v159 qv159 ev159 => ?_)
                    refine x_aloadn (x := 125) rfl rfl ?_
                    refine z_getR (N := 92) (b := 139) 12 29 rfl f_12_72 rfl J rfl 16029 ⟨rfl, rfl⟩ rfl ?_
                    refine x_iloadn (x := a2) rfl rfl ?_
                    refine z_iald (N := 600) rfl J rfl sg_139_0_600_1_0_1 rfl (by omega) (fun v160 qv160 ev160 => ?_)
                    refine x_icne (tgt := 70) rfl rfl (ti_ne rfl rfl ⟨fun c161 => ?_, fun c161 => ?_⟩)
                    ·
                      refine x_aloadn (x := 125) rfl rfl ?_
                      refine z_getR (N := 92) (b := 126) 12 2 rfl f_12_8 rfl J rfl 16002 ⟨rfl, rfl⟩ rfl ?_
                      refine x_iconst (v := 2) rfl ki_2 ?_
                      refine z_iald (N := 50660) rfl J rfl sg_126_2_3_1_0_1 jk_2 (by omega) (fun v162 qv162 ev162 => ?_)
                      refine x_sipush (v := 200) rfl ks_200 ?_
                      refine x_icne (tgt := 89) rfl rfl (ti_ne rfl jk_200 ⟨fun c163 => ?_, fun c163 => ?_⟩)
                      ·
                        refine x_aloadn (x := 125) rfl rfl ?_
                        refine x_iloadn (x := a1) rfl rfl ?_
                        refine x_iloadn (x := a2) rfl rfl ?_
                        refine x_iloadn (x := a3) rfl rfl ?_
                        refine x_inv (N := m_X12_addJoined) (As := [.int a1, .int a2, .int a3]) (b := 125) (st := []) (dx9 := 8) (mc := 0) (ms := 0) (host := "") 12 rfl t_X12_addJoined ⟨Or.inl q_12_396, i_X12_addJoined.1, i_X12_addJoined.2⟩ ⟨by decide, rfl⟩ (congrArg Prod.fst (J.1.1 125 (12, 92) rfl)) rfl (by decide) rfl rfl ⟨by decide, by decide⟩ (jC.of rfl k_X12_addJoined rfl ?_)
                        show jX m_X12_addJoined 8 0 0 0 [(0, .ref 125), (1, .int a1), (2, .int a2), (3, .int a3)] [] _ 0 0 _
                        refine x_sipush (v := 18140) rfl ks_18140 ?_
                        refine x_iconst (v := 3) rfl ki_3 ?_
                        refine x_aloadn (x := 125) rfl rfl ?_
                        refine z_getR (N := 92) (b := 126) 12 2 rfl f_12_8 rfl J rfl 16002 ⟨rfl, rfl⟩ rfl ?_
                        refine x_iconst (v := 2) rfl ki_2 ?_
                        refine z_ialdM (N := 50660) (v := v162) rfl J rfl jk_2 (by omega) qv162 ?_
                        refine z_imul rfl jk_3 rfl (by omega) (fun v164 ev164 => ?_)
                        refine z_iadd rfl jk_18140 rfl (by omega) (fun v165 ev165 => ?_)
                        refine x_istore (lsx9 := [(4, .int v165), (0, .ref 125), (1, .int a1), (2, .int a2), (3, .int a3)]) rfl rfl rfl ?_
                        refine x_aloadn (x := 125) rfl rfl ?_
                        refine z_getR (N := 92) (b := 126) 12 2 rfl f_12_8 rfl J rfl 16002 ⟨rfl, rfl⟩ rfl ?_
                        refine x_iload (x := v165) rfl rfl ?_
                        refine x_iloadn (x := a1) rfl rfl ?_
                        refine z_iast (N := 50660) (l := 18140) (u := 18740) (w := a1.toInt) rfl hD J Sm rfl rfl rfl (by omega) rfl (wr_126_18140 (by omega) (fun q1 q2 q3 q4 => by omega) (fun q1 q2 q3 q4 => by omega) (fun q1 q2 q3 q4 => by omega)) rfl (fun h w166 J Sm => ?_)
                        refine x_aloadn (x := 125) rfl rfl ?_
                        refine z_getR (N := 92) (b := 126) 12 2 rfl f_12_8 rfl J rfl 16002 ⟨rfl, rfl⟩ rfl ?_
                        refine x_iload (x := v165) rfl rfl ?_
                        refine x_iconst (v := 1) rfl ki_1 ?_
                        refine z_iadd rfl rfl jk_1 (by omega) (fun v167 ev167 => ?_)
                        refine x_iloadn (x := a2) rfl rfl ?_
                        refine z_iast (N := 50660) (l := 18140) (u := 18740) (w := a2.toInt) rfl hD J Sm rfl rfl rfl (by omega) rfl (wr_126_18140 (by omega) (fun q1 q2 q3 q4 => by omega) (fun q1 q2 q3 q4 => by omega) (fun q1 q2 q3 q4 => by omega)) rfl (fun h w168 J Sm => ?_)
                        refine x_aloadn (x := 125) rfl rfl ?_
                        refine z_getR (N := 92) (b := 126) 12 2 rfl f_12_8 rfl J rfl 16002 ⟨rfl, rfl⟩ rfl ?_
                        refine x_iload (x := v165) rfl rfl ?_
                        refine x_iconst (v := 2) rfl ki_2 ?_
                        refine z_iadd rfl rfl jk_2 (by omega) (fun v169 ev169 => ?_)
                        refine x_iloadn (x := a3) rfl rfl ?_
                        refine z_iast (N := 50660) (l := 18140) (u := 18740) (w := a3.toInt) rfl hD J Sm rfl rfl rfl (by omega) rfl (wr_126_18140 (by omega) (fun q1 q2 q3 q4 => by omega) (fun q1 q2 q3 q4 => by omega) (fun q1 q2 q3 q4 => by omega)) rfl (fun h w170 J Sm => ?_)
                        refine x_aloadn (x := 125) rfl rfl ?_
                        refine z_getR (N := 92) (b := 126) 12 2 rfl f_12_8 rfl J rfl 16002 ⟨rfl, rfl⟩ rfl ?_
                        refine x_iconst (v := 2) rfl ki_2 ?_
                        refine x_dup2 rfl rfl rfl ?_
                        refine z_ialdM (N := 50660) (v := v162) rfl J rfl jk_2 (by omega) (jmo2 w170 rfl jk_2 (by omega) (jmo2 w168 rfl jk_2 (by omega) (jmo2 w166 rfl jk_2 (by omega) qv162))) ?_
                        refine x_iconst (v := 1) rfl ki_1 ?_
                        refine z_iadd rfl rfl jk_1 (by omega) (fun v171 ev171 => ?_)
                        refine z_iast (N := 50660) (l := 2) (u := 3) (w := v171.toInt) rfl hD J Sm rfl rfl jk_2 (by omega) rfl (wr_126_2 (by omega) (fun q1 q2 q3 q4 => by omega)) rfl (fun h w172 J Sm => ?_)
                        refine x_vret rfl rfl ?_
                        show jX m_X12_together 9 0 0 96 [(0, .ref 125), (1, .int a1), (2, .int a2), (3, .int a3)] [] _ 0 0 _
                        refine x_aloadn (x := 125) rfl rfl ?_
                        refine x_aloadn (x := 125) rfl rfl ?_
                        refine z_getR (N := 92) (b := 126) 12 2 rfl f_12_8 rfl J rfl 16002 ⟨rfl, rfl⟩ rfl ?_
                        refine x_iconst (v := 2) rfl ki_2 ?_
                        refine z_ialdM (N := 50660) (v := v171) rfl J rfl jk_2 (by omega) (jmw w172) ?_
                        refine x_inv (N := m_X12_told) (As := [.int v171]) (b := 125) (st := []) (dx9 := 1) (mc := 0) (ms := 0) (host := "") 12 rfl t_X12_told ⟨Or.inl q_12_197, i_X12_told.1, i_X12_told.2⟩ ⟨by decide, rfl⟩ (congrArg Prod.fst (J.1.1 125 (12, 92) rfl)) rfl (by decide) rfl rfl ⟨by decide, by decide⟩ (sf_X12_told_r125  hD J  (fun v174 h J S173 => ?_))
                        have ev174 := jfull v174
                        have Sm := jSm_tr rfl Sm S173
                        show jX m_X12_together 9 0 0 106 [(0, .ref 125), (1, .int a1), (2, .int a2), (3, .int a3)] [.int v174] _ 0 0 _
                        refine x_iret rfl rfl ?_
                        exact hQ _ _ J Sm
                      ·
                        refine x_aloadn (x := 125) rfl rfl ?_
                        refine x_bipush (v := (-5)) rfl kb_m5 ?_
                        refine x_inv (N := m_X12_told) (As := [.int (-5)]) (b := 125) (st := []) (dx9 := 1) (mc := 0) (ms := 0) (host := "") 12 rfl t_X12_told ⟨Or.inl q_12_197, i_X12_told.1, i_X12_told.2⟩ ⟨by decide, rfl⟩ (congrArg Prod.fst (J.1.1 125 (12, 92) rfl)) rfl (by decide) rfl rfl ⟨by decide, by decide⟩ (sf_X12_told_r125  hD J  (fun v176 h J S175 => ?_))
                        have ev176 := jfull v176
                        have Sm := jSm_tr rfl Sm S175
                        show jX m_X12_together 9 0 0 88 [(0, .ref 125), (1, .int a1), (2, .int a2), (3, .int a3)] [.int v176] _ 0 0 _
                        refine x_iret rfl rfl ?_
                        exact hQ _ _ J Sm
                    ·
                      refine x_aloadn (x := 125) rfl rfl ?_
                      refine x_bipush (v := (-4)) rfl kb_m4 ?_
                      refine x_inv (N := m_X12_told) (As := [.int (-4)]) (b := 125) (st := []) (dx9 := 1) (mc := 0) (ms := 0) (host := "") 12 rfl t_X12_told ⟨Or.inl q_12_197, i_X12_told.1, i_X12_told.2⟩ ⟨by decide, rfl⟩ (congrArg Prod.fst (J.1.1 125 (12, 92) rfl)) rfl (by decide) rfl rfl ⟨by decide, by decide⟩ (sf_X12_told_r125  hD J  (fun v178 h J S177 => ?_))
                      have ev178 := jfull v178
                      have Sm := jSm_tr rfl Sm S177
                      show jX m_X12_together 9 0 0 69 [(0, .ref 125), (1, .int a1), (2, .int a2), (3, .int a3)] [.int v178] _ 0 0 _
                      refine x_iret rfl rfl ?_
                      exact hQ _ _ J Sm
        ·
          refine x_iconst (v := 3) rfl ki_3 ?_
          refine x_goto (tgt := 18) rfl rfl ?_
          refine x_iret rfl rfl ?_
          show jX m_X12_isMention 8 0 0 27 [(0, .ref 125), (1, .int a1)] [.int 3, .int v12] _ 0 0 _
          refine x_icge (tgt := 34) rfl rfl (ti_ge rfl jk_3 (br_f (by omega) ?_))
          refine x_iconst (v := 1) rfl ki_1 ?_
          refine x_goto (tgt := 35) rfl rfl ?_
          refine x_zret rfl rfl (by decide) ?_
          show jX m_X12_together 9 0 0 23 [(0, .ref 125), (1, .int a1), (2, .int a2), (3, .int a3)] [.int 1] _ 0 0 _
          refine x_ifeq (tgt := 34) rfl rfl (ti_eq jk_1 jk_0 (br_f (by omega) ?_))
          refine x_aloadn (x := 125) rfl rfl ?_
          refine x_iloadn (x := a2) rfl rfl ?_
          refine x_inv (N := m_X12_isMention) (As := [.int a2]) (b := 125) (st := []) (dx9 := 8) (mc := 0) (ms := 0) (host := "") 12 rfl t_X12_isMention ⟨Or.inl q_12_322, i_X12_isMention.1, i_X12_isMention.2⟩ ⟨by decide, rfl⟩ (congrArg Prod.fst (J.1.1 125 (12, 92) rfl)) rfl (by decide) rfl rfl ⟨by decide, by decide⟩ (jC.of rfl k_X12_isMention rfl ?_)
          show jX m_X12_isMention 8 0 0 0 [(0, .ref 125), (1, .int a2)] [] _ 0 0 _
          refine x_iloadn (x := a2) rfl rfl ?_
          refine x_iflt (tgt := 34) rfl rfl (ti_lt rfl jk_0 ⟨fun c179 => ?_, fun c179 => ?_⟩)
          ·
            refine x_iconst (v := 0) rfl ki_0 ?_
            refine x_zret rfl rfl (by decide) ?_
            show jX m_X12_together 9 0 0 31 [(0, .ref 125), (1, .int a1), (2, .int a2), (3, .int a3)] [.int 0] _ 0 0 _
            refine x_ifne (tgt := 41) rfl rfl (ti_ne jk_0 jk_0 (bn_f (by omega) ?_))
            exact jX.sub (jsb_c rfl jsb_n) (ct_X12_together_r125_34 hD hQ  h J Sm)
          ·
            refine x_aloadn (x := 125) rfl rfl ?_
            refine x_iloadn (x := a2) rfl rfl ?_
            refine x_iconst (v := 3) rfl ki_3 ?_
            refine z_idiv rfl rfl jk_3 (by omega) (by omega) (fun v180 ev180 => ?_)
            refine x_inv (N := m_X12_isLine) (As := [.int v180]) (b := 125) (st := []) (dx9 := 7) (mc := 0) (ms := 0) (host := "") 12 rfl t_X12_isLine ⟨Or.inl q_12_293, i_X12_isLine.1, i_X12_isLine.2⟩ ⟨by decide, rfl⟩ (congrArg Prod.fst (J.1.1 125 (12, 92) rfl)) rfl (by decide) rfl rfl ⟨by decide, by decide⟩ (jC.of rfl k_X12_isLine rfl ?_)
            show jX m_X12_isLine 7 0 0 0 [(0, .ref 125), (1, .int v180)] [] _ 0 0 _
            refine x_iloadn (x := v180) rfl rfl ?_
            refine z_i2l rfl rfl (fun v181 ev181 => ?_)
            refine x_lconst (v := 0) rfl kl_0 ?_
            refine x_aloadn (x := 125) rfl rfl ?_
            refine z_getR (N := 92) (b := 126) 12 2 rfl f_12_8 rfl J rfl 16002 ⟨rfl, rfl⟩ rfl ?_
            refine x_iconst (v := 0) rfl ki_0 ?_
            refine z_ialdM (N := 50660) (v := v7) rfl J rfl jk_0 (by omega) qv7 ?_
            refine z_i2l rfl rfl (fun v182 ev182 => ?_)
            refine x_lconst (v := 1) rfl kl_1 ?_
            refine z_lsub rfl rfl jkl_1 (by omega) (fun v183 ev183 => ?_)
            refine x_inst (N := m_X12_in) (As := [.long v181, .long 0, .long v183]) (st := []) (dx9 := 1) (mc := 0) (ms := 0) (host := "") rfl t_X12_in ⟨Or.inl q_12_188, s_X12_in⟩ rfl (by decide) rfl rfl ⟨by decide, by decide⟩ (zc_X12_in rfl jkl_0 rfl (fun v184 ev184 => ?_))
            show jX m_X12_isLine 7 0 0 15 [(0, .ref 125), (1, .int v180)] [.int v184] _ 0 0 _
            refine x_zret rfl rfl (jz01 (by omega)) ?_
            show jX m_X12_isMention 8 0 0 11 [(0, .ref 125), (1, .int a2)] [.int v184] _ 0 0 _
            refine x_ifeq (tgt := 34) rfl rfl (ti_eq rfl jk_0 ⟨fun c185 => ?_, fun c185 => ?_⟩)
            ·
              refine x_iconst (v := 0) rfl ki_0 ?_
              refine x_zret rfl rfl (by decide) ?_
              show jX m_X12_together 9 0 0 31 [(0, .ref 125), (1, .int a1), (2, .int a2), (3, .int a3)] [.int 0] _ 0 0 _
              refine x_ifne (tgt := 41) rfl rfl (ti_ne jk_0 jk_0 (bn_f (by omega) ?_))
              exact jX.sub (jsb_c rfl jsb_n) (ct_X12_together_r125_34 hD hQ  h J Sm)
            ·
              refine x_iloadn (x := a2) rfl rfl ?_
              refine x_iconst (v := 3) rfl ki_3 ?_
              refine z_irem rfl rfl jk_3 (by omega) (by omega) (fun v186 ev186 => ?_)
              refine x_aloadn (x := 125) rfl rfl ?_
              refine x_iloadn (x := a2) rfl rfl ?_
              refine x_iconst (v := 3) rfl ki_3 ?_
              refine z_idiv rfl rfl jk_3 (by omega) (by omega) (fun v187 ev187 => ?_)
              refine x_inv (N := m_X12_bookOf) (As := [.int v187]) (b := 125) (st := [.int v186]) (dx9 := 7) (mc := 0) (ms := 0) (host := "") 12 rfl t_X12_bookOf ⟨Or.inl q_12_299, i_X12_bookOf.1, i_X12_bookOf.2⟩ ⟨by decide, rfl⟩ (congrArg Prod.fst (J.1.1 125 (12, 92) rfl)) rfl (by decide) rfl rfl ⟨by decide, by decide⟩ (jC.of rfl k_X12_bookOf rfl ?_)
              show jX m_X12_bookOf 7 0 0 0 [(0, .ref 125), (1, .int v187)] [] _ 0 0 _
              refine x_aloadn (x := 125) rfl rfl ?_
              refine z_getR (N := 92) (b := 126) 12 2 rfl f_12_8 rfl J rfl 16002 ⟨rfl, rfl⟩ rfl ?_
              refine x_aloadn (x := 125) rfl rfl ?_
              refine x_iloadn (x := v187) rfl rfl ?_
              refine x_inv (N := m_X12_at) (As := [.int v187]) (b := 125) (st := [.ref 126]) (dx9 := 6) (mc := 0) (ms := 0) (host := "") 12 rfl t_X12_at ⟨Or.inl q_12_254, i_X12_at.1, i_X12_at.2⟩ ⟨by decide, rfl⟩ (congrArg Prod.fst (J.1.1 125 (12, 92) rfl)) rfl (by decide) rfl rfl ⟨by decide, by decide⟩ (jC.of rfl k_X12_at rfl ?_)
              show jX m_X12_at 6 0 0 0 [(0, .ref 125), (1, .int v187)] [] _ 0 0 _
              refine x_bipush (v := 20) rfl kb_20 ?_
              refine x_bipush (v := 90) rfl kb_90 ?_
              refine x_iloadn (x := v187) rfl rfl ?_
              refine z_imul rfl jk_90 rfl (by omega) (fun v188 ev188 => ?_)
              refine z_iadd rfl jk_20 rfl (by omega) (fun v189 ev189 => ?_)
              refine x_iret rfl rfl ?_
              show jX m_X12_bookOf 7 0 0 9 [(0, .ref 125), (1, .int v187)] [.int v189, .ref 126] _ 0 0 _
              refine z_iald (N := 50660) rfl J rfl sg_126_20_18020_90_0_1 rfl (by omega) (fun v190 qv190 ev190 => ?_)
              refine x_iret rfl rfl ?_
              show jX m_X12_isMention 8 0 0 24 [(0, .ref 125), (1, .int a2)] [.int v190, .int v186] _ 0 0 _
              refine x_inst (N := m_X12_rolesOf) (As := [.int v190]) (st := [.int v186]) (dx9 := 7) (mc := 0) (ms := 0) (host := "") rfl t_X12_rolesOf ⟨Or.inl q_12_286, s_X12_rolesOf⟩ rfl (by decide) rfl rfl ⟨by decide, by decide⟩ (jC.of rfl k_X12_rolesOf rfl ?_)
              show jX m_X12_rolesOf 7 0 0 0 [(0, .int v190)] [] _ 0 0 _
              refine x_iloadn (x := v190) rfl rfl ?_
              refine x_ifne (tgt := 8) rfl rfl (ti_ne rfl jk_0 ⟨fun c191 => ?_, fun c191 => ?_⟩)
              ·
                refine x_iloadn (x := v190) rfl rfl ?_
                refine x_iconst (v := 1) rfl ki_1 ?_
                refine x_icne (tgt := 17) rfl rfl (ti_ne rfl jk_1 ⟨fun c192 => ?_, fun c192 => ?_⟩)
                ·
                  refine x_iconst (v := 1) rfl ki_1 ?_
                  refine x_iret rfl rfl ?_
                  show jX m_X12_isMention 8 0 0 27 [(0, .ref 125), (1, .int a2)] [.int 1, .int v186] _ 0 0 _
                  refine x_icge (tgt := 34) rfl rfl (ti_ge rfl jk_1 ⟨fun c193 => ?_, fun c193 => ?_⟩)
                  ·
                    refine x_iconst (v := 0) rfl ki_0 ?_
                    refine x_zret rfl rfl (by decide) ?_
                    show jX m_X12_together 9 0 0 31 [(0, .ref 125), (1, .int a1), (2, .int a2), (3, .int a3)] [.int 0] _ 0 0 _
                    refine x_ifne (tgt := 41) rfl rfl (ti_ne jk_0 jk_0 (bn_f (by omega) ?_))
                    exact jX.sub (jsb_c rfl jsb_n) (ct_X12_together_r125_34 hD hQ  h J Sm)
                  ·
                    refine x_iconst (v := 1) rfl ki_1 ?_
                    refine x_goto (tgt := 35) rfl rfl ?_
                    refine x_zret rfl rfl (by decide) ?_
                    show jX m_X12_together 9 0 0 31 [(0, .ref 125), (1, .int a1), (2, .int a2), (3, .int a3)] [.int 1] _ 0 0 _
                    refine x_ifne (tgt := 41) rfl rfl (ti_ne jk_1 jk_0 (bn_t (by omega) ?_))
                    refine x_aloadn (x := 125) rfl rfl ?_
                    refine x_ldcw (v := 146399) rfl z_12_392 ?_
                    refine x_inv (N := m_X12_find) (As := [.int 146399]) (b := 125) (st := []) (dx9 := 8) (mc := 0) (ms := 0) (host := "") 12 rfl t_X12_find ⟨Or.inl q_12_393, i_X12_find.1, i_X12_find.2⟩ ⟨by decide, rfl⟩ (congrArg Prod.fst (J.1.1 125 (12, 92) rfl)) rfl (by decide) rfl rfl ⟨by decide, by decide⟩ (sf_X12_find_r125 (jr_of jk_146399 (by omega)) hD J  (fun h J S194 => ?_))
                    have Sm := jSm_tr rfl Sm S194
                    show jX m_X12_together 9 0 0 48 [(0, .ref 125), (1, .int a1), (2, .int a2), (3, .int a3)] [] _ 0 0 _
                    refine x_aloadn (x := 125) rfl rfl ?_
                    refine z_getR (N := 92) (b := 139) 12 29 rfl f_12_72 rfl J rfl 16029 ⟨rfl, rfl⟩ rfl ?_
                    refine x_iloadn (x := a1) rfl rfl ?_
                    refine z_iald (N := 600) rfl J rfl sg_139_0_600_1_0_1 rfl (by omega) (fun v195 qv195 ev195 => ?_)
                    refine x_aloadn (x := 125) rfl rfl ?_
                    refine z_getR (N := 92) (b := 139) 12 29 rfl f_12_72 rfl J rfl 16029 ⟨rfl, rfl⟩ rfl ?_
                    refine x_iloadn (x := a2) rfl rfl ?_
                    refine z_iald (N := 600) rfl J rfl sg_139_0_600_1_0_1 rfl (by omega) (fun v196 qv196 ev196 => ?_)
                    refine x_icne (tgt := 70) rfl rfl (ti_ne rfl rfl ⟨fun c197 => ?_, fun c197 => ?_⟩)
                    ·
                      refine x_aloadn (x := 125) rfl rfl ?_
                      refine z_getR (N := 92) (b := 126) 12 2 rfl f_12_8 rfl J rfl 16002 ⟨rfl, rfl⟩ rfl ?_
                      refine x_iconst (v := 2) rfl ki_2 ?_
                      refine z_iald (N := 50660) rfl J rfl sg_126_2_3_1_0_1 jk_2 (by omega) (fun v198 qv198 ev198 => ?_)
                      refine x_sipush (v := 200) rfl ks_200 ?_
                      refine x_icne (tgt := 89) rfl rfl (ti_ne rfl jk_200 ⟨fun c199 => ?_, fun c199 => ?_⟩)
                      ·
                        refine x_aloadn (x := 125) rfl rfl ?_
                        refine x_iloadn (x := a1) rfl rfl ?_
                        refine x_iloadn (x := a2) rfl rfl ?_
                        refine x_iloadn (x := a3) rfl rfl ?_
                        refine x_inv (N := m_X12_addJoined) (As := [.int a1, .int a2, .int a3]) (b := 125) (st := []) (dx9 := 8) (mc := 0) (ms := 0) (host := "") 12 rfl t_X12_addJoined ⟨Or.inl q_12_396, i_X12_addJoined.1, i_X12_addJoined.2⟩ ⟨by decide, rfl⟩ (congrArg Prod.fst (J.1.1 125 (12, 92) rfl)) rfl (by decide) rfl rfl ⟨by decide, by decide⟩ (jC.of rfl k_X12_addJoined rfl ?_)
                        show jX m_X12_addJoined 8 0 0 0 [(0, .ref 125), (1, .int a1), (2, .int a2), (3, .int a3)] [] _ 0 0 _
                        refine x_sipush (v := 18140) rfl ks_18140 ?_
                        refine x_iconst (v := 3) rfl ki_3 ?_
                        refine x_aloadn (x := 125) rfl rfl ?_
                        refine z_getR (N := 92) (b := 126) 12 2 rfl f_12_8 rfl J rfl 16002 ⟨rfl, rfl⟩ rfl ?_
                        refine x_iconst (v := 2) rfl ki_2 ?_
                        refine z_ialdM (N := 50660) (v := v198) rfl J rfl jk_2 (by omega) qv198 ?_
                        refine z_imul rfl jk_3 rfl (by omega) (fun v200 ev200 => ?_)
                        refine z_iadd rfl jk_18140 rfl (by omega) (fun v201 ev201 => ?_)
                        refine x_istore (lsx9 := [(4, .int v201), (0, .ref 125), (1, .int a1), (2, .int a2), (3, .int a3)]) rfl rfl rfl ?_
                        refine x_aloadn (x := 125) rfl rfl ?_
                        refine z_getR (N := 92) (b := 126) 12 2 rfl f_12_8 rfl J rfl 16002 ⟨rfl, rfl⟩ rfl ?_
                        refine x_iload (x := v201) rfl rfl ?_
                        refine x_iloadn (x := a1) rfl rfl ?_
                        refine z_iast (N := 50660) (l := 18140) (u := 18740) (w := a1.toInt) rfl hD J Sm rfl rfl rfl (by omega) rfl (wr_126_18140 (by omega) (fun q1 q2 q3 q4 => by omega) (fun q1 q2 q3 q4 => by omega) (fun q1 q2 q3 q4 => by omega)) rfl (fun h w202 J Sm => ?_)
                        refine x_aloadn (x := 125) rfl rfl ?_
                        refine z_getR (N := 92) (b := 126) 12 2 rfl f_12_8 rfl J rfl 16002 ⟨rfl, rfl⟩ rfl ?_
                        refine x_iload (x := v201) rfl rfl ?_
                        refine x_iconst (v := 1) rfl ki_1 ?_
                        refine z_iadd rfl rfl jk_1 (by omega) (fun v203 ev203 => ?_)
                        refine x_iloadn (x := a2) rfl rfl ?_
                        refine z_iast (N := 50660) (l := 18140) (u := 18740) (w := a2.toInt) rfl hD J Sm rfl rfl rfl (by omega) rfl (wr_126_18140 (by omega) (fun q1 q2 q3 q4 => by omega) (fun q1 q2 q3 q4 => by omega) (fun q1 q2 q3 q4 => by omega)) rfl (fun h w204 J Sm => ?_)
                        refine x_aloadn (x := 125) rfl rfl ?_
                        refine z_getR (N := 92) (b := 126) 12 2 rfl f_12_8 rfl J rfl 16002 ⟨rfl, rfl⟩ rfl ?_
                        refine x_iload (x := v201) rfl rfl ?_
                        refine x_iconst (v := 2) rfl ki_2 ?_
                        refine z_iadd rfl rfl jk_2 (by omega) (fun v205 ev205 => ?_)
                        refine x_iloadn (x := a3) rfl rfl ?_
                        refine z_iast (N := 50660) (l := 18140) (u := 18740) (w := a3.toInt) rfl hD J Sm rfl rfl rfl (by omega) rfl (wr_126_18140 (by omega) (fun q1 q2 q3 q4 => by omega) (fun q1 q2 q3 q4 => by omega) (fun q1 q2 q3 q4 => by omega)) rfl (fun h w206 J Sm => ?_)
                        refine x_aloadn (x := 125) rfl rfl ?_
                        refine z_getR (N := 92) (b := 126) 12 2 rfl f_12_8 rfl J rfl 16002 ⟨rfl, rfl⟩ rfl ?_
                        refine x_iconst (v := 2) rfl ki_2 ?_
                        refine x_dup2 rfl rfl rfl ?_
                        refine z_ialdM (N := 50660) (v := v198) rfl J rfl jk_2 (by omega) (jmo2 w206 rfl jk_2 (by omega) (jmo2 w204 rfl jk_2 (by omega) (jmo2 w202 rfl jk_2 (by omega) qv198))) ?_
                        refine x_iconst (v := 1) rfl ki_1 ?_
                        refine z_iadd rfl rfl jk_1 (by omega) (fun v207 ev207 => ?_)
                        refine z_iast (N := 50660) (l := 2) (u := 3) (w := v207.toInt) rfl hD J Sm rfl rfl jk_2 (by omega) rfl (wr_126_2 (by omega) (fun q1 q2 q3 q4 => by omega)) rfl (fun h w208 J Sm => ?_)
                        refine x_vret rfl rfl ?_
                        show jX m_X12_together 9 0 0 96 [(0, .ref 125), (1, .int a1), (2, .int a2), (3, .int a3)] [] _ 0 0 _
                        refine x_aloadn (x := 125) rfl rfl ?_
                        refine x_aloadn (x := 125) rfl rfl ?_
                        refine z_getR (N := 92) (b := 126) 12 2 rfl f_12_8 rfl J rfl 16002 ⟨rfl, rfl⟩ rfl ?_
                        refine x_iconst (v := 2) rfl ki_2 ?_
                        refine z_ialdM (N := 50660) (v := v207) rfl J rfl jk_2 (by omega) (jmw w208) ?_
                        refine x_inv (N := m_X12_told) (As := [.int v207]) (b := 125) (st := []) (dx9 := 1) (mc := 0) (ms := 0) (host := "") 12 rfl t_X12_told ⟨Or.inl q_12_197, i_X12_told.1, i_X12_told.2⟩ ⟨by decide, rfl⟩ (congrArg Prod.fst (J.1.1 125 (12, 92) rfl)) rfl (by decide) rfl rfl ⟨by decide, by decide⟩ (sf_X12_told_r125  hD J  (fun v210 h J S209 => ?_))
                        have ev210 := jfull v210
                        have Sm := jSm_tr rfl Sm S209
                        show jX m_X12_together 9 0 0 106 [(0, .ref 125), (1, .int a1), (2, .int a2), (3, .int a3)] [.int v210] _ 0 0 _
                        refine x_iret rfl rfl ?_
                        exact hQ _ _ J Sm
                      ·
                        refine x_aloadn (x := 125) rfl rfl ?_
                        refine x_bipush (v := (-5)) rfl kb_m5 ?_
                        refine x_inv (N := m_X12_told) (As := [.int (-5)]) (b := 125) (st := []) (dx9 := 1) (mc := 0) (ms := 0) (host := "") 12 rfl t_X12_told ⟨Or.inl q_12_197, i_X12_told.1, i_X12_told.2⟩ ⟨by decide, rfl⟩ (congrArg Prod.fst (J.1.1 125 (12, 92) rfl)) rfl (by decide) rfl rfl ⟨by decide, by decide⟩ (sf_X12_told_r125  hD J  (fun v212 h J S211 => ?_))
                        have ev212 := jfull v212
                        have Sm := jSm_tr rfl Sm S211
                        show jX m_X12_together 9 0 0 88 [(0, .ref 125), (1, .int a1), (2, .int a2), (3, .int a3)] [.int v212] _ 0 0 _
                        refine x_iret rfl rfl ?_
                        exact hQ _ _ J Sm
                    ·
                      refine x_aloadn (x := 125) rfl rfl ?_
                      refine x_bipush (v := (-4)) rfl kb_m4 ?_
                      refine x_inv (N := m_X12_told) (As := [.int (-4)]) (b := 125) (st := []) (dx9 := 1) (mc := 0) (ms := 0) (host := "") 12 rfl t_X12_told ⟨Or.inl q_12_197, i_X12_told.1, i_X12_told.2⟩ ⟨by decide, rfl⟩ (congrArg Prod.fst (J.1.1 125 (12, 92) rfl)) rfl (by decide) rfl rfl ⟨by decide, by decide⟩ (sf_X12_told_r125  hD J  (fun v214 h J S213 => ?_))
                      have ev214 := jfull v214
                      have Sm := jSm_tr rfl Sm S213
                      show jX m_X12_together 9 0 0 69 [(0, .ref 125), (1, .int a1), (2, .int a2), (3, .int a3)] [.int v214] _ 0 0 _
                      refine x_iret rfl rfl ?_
                      exact hQ _ _ J Sm
                ·
                  refine x_iconst (v := 2) rfl ki_2 ?_
                  refine x_goto (tgt := 18) rfl rfl ?_
                  refine x_iret rfl rfl ?_
                  show jX m_X12_isMention 8 0 0 27 [(0, .ref 125), (1, .int a2)] [.int 2, .int v186] _ 0 0 _
                  refine x_icge (tgt := 34) rfl rfl (ti_ge rfl jk_2 ⟨fun c215 => ?_, fun c215 => ?_⟩)
                  ·
                    refine x_iconst (v := 0) rfl ki_0 ?_
                    refine x_zret rfl rfl (by decide) ?_
                    show jX m_X12_together 9 0 0 31 [(0, .ref 125), (1, .int a1), (2, .int a2), (3, .int a3)] [.int 0] _ 0 0 _
                    refine x_ifne (tgt := 41) rfl rfl (ti_ne jk_0 jk_0 (bn_f (by omega) ?_))
                    exact jX.sub (jsb_c rfl jsb_n) (ct_X12_together_r125_34 hD hQ  h J Sm)
                  ·
                    refine x_iconst (v := 1) rfl ki_1 ?_
                    refine x_goto (tgt := 35) rfl rfl ?_
                    refine x_zret rfl rfl (by decide) ?_
                    show jX m_X12_together 9 0 0 31 [(0, .ref 125), (1, .int a1), (2, .int a2), (3, .int a3)] [.int 1] _ 0 0 _
                    refine x_ifne (tgt := 41) rfl rfl (ti_ne jk_1 jk_0 (bn_t (by omega) ?_))
                    refine x_aloadn (x := 125) rfl rfl ?_
                    refine x_ldcw (v := 146399) rfl z_12_392 ?_
                    refine x_inv (N := m_X12_find) (As := [.int 146399]) (b := 125) (st := []) (dx9 := 8) (mc := 0) (ms := 0) (host := "") 12 rfl t_X12_find ⟨Or.inl q_12_393, i_X12_find.1, i_X12_find.2⟩ ⟨by decide, rfl⟩ (congrArg Prod.fst (J.1.1 125 (12, 92) rfl)) rfl (by decide) rfl rfl ⟨by decide, by decide⟩ (sf_X12_find_r125 (jr_of jk_146399 (by omega)) hD J  (fun h J S216 => ?_))
                    have Sm := jSm_tr rfl Sm S216
                    show jX m_X12_together 9 0 0 48 [(0, .ref 125), (1, .int a1), (2, .int a2), (3, .int a3)] [] _ 0 0 _
                    refine x_aloadn (x := 125) rfl rfl ?_
                    refine z_getR (N := 92) (b := 139) 12 29 rfl f_12_72 rfl J rfl 16029 ⟨rfl, rfl⟩ rfl ?_
                    refine x_iloadn (x := a1) rfl rfl ?_
                    refine z_iald (N := 600) rfl J rfl sg_139_0_600_1_0_1 rfl (by omega) (fun v217 qv217 ev217 => ?_)
                    refine x_aloadn (x := 125) rfl rfl ?_
                    refine z_getR (N := 92) (b := 139) 12 29 rfl f_12_72 rfl J rfl 16029 ⟨rfl, rfl⟩ rfl ?_
                    refine x_iloadn (x := a2) rfl rfl ?_
                    refine z_iald (N := 600) rfl J rfl sg_139_0_600_1_0_1 rfl (by omega) (fun v218 qv218 ev218 => ?_)
                    refine x_icne (tgt := 70) rfl rfl (ti_ne rfl rfl ⟨fun c219 => ?_, fun c219 => ?_⟩)
                    ·
                      refine x_aloadn (x := 125) rfl rfl ?_
                      refine z_getR (N := 92) (b := 126) 12 2 rfl f_12_8 rfl J rfl 16002 ⟨rfl, rfl⟩ rfl ?_
                      refine x_iconst (v := 2) rfl ki_2 ?_
                      refine z_iald (N := 50660) rfl J rfl sg_126_2_3_1_0_1 jk_2 (by omega) (fun v220 qv220 ev220 => ?_)
                      refine x_sipush (v := 200) rfl ks_200 ?_
                      refine x_icne (tgt := 89) rfl rfl (ti_ne rfl jk_200 ⟨fun c221 => ?_, fun c221 => ?_⟩)
                      ·
                        refine x_aloadn (x := 125) rfl rfl ?_
                        refine x_iloadn (x := a1) rfl rfl ?_
                        refine x_iloadn (x := a2) rfl rfl ?_
                        refine x_iloadn (x := a3) rfl rfl ?_
                        refine x_inv (N := m_X12_addJoined) (As := [.int a1, .int a2, .int a3]) (b := 125) (st := []) (dx9 := 8) (mc := 0) (ms := 0) (host := "") 12 rfl t_X12_addJoined ⟨Or.inl q_12_396, i_X12_addJoined.1, i_X12_addJoined.2⟩ ⟨by decide, rfl⟩ (congrArg Prod.fst (J.1.1 125 (12, 92) rfl)) rfl (by decide) rfl rfl ⟨by decide, by decide⟩ (jC.of rfl k_X12_addJoined rfl ?_)
                        show jX m_X12_addJoined 8 0 0 0 [(0, .ref 125), (1, .int a1), (2, .int a2), (3, .int a3)] [] _ 0 0 _
                        refine x_sipush (v := 18140) rfl ks_18140 ?_
                        refine x_iconst (v := 3) rfl ki_3 ?_
                        refine x_aloadn (x := 125) rfl rfl ?_
                        refine z_getR (N := 92) (b := 126) 12 2 rfl f_12_8 rfl J rfl 16002 ⟨rfl, rfl⟩ rfl ?_
                        refine x_iconst (v := 2) rfl ki_2 ?_
                        refine z_ialdM (N := 50660) (v := v220) rfl J rfl jk_2 (by omega) qv220 ?_
                        refine z_imul rfl jk_3 rfl (by omega) (fun v222 ev222 => ?_)
                        refine z_iadd rfl jk_18140 rfl (by omega) (fun v223 ev223 => ?_)
                        refine x_istore (lsx9 := [(4, .int v223), (0, .ref 125), (1, .int a1), (2, .int a2), (3, .int a3)]) rfl rfl rfl ?_
                        refine x_aloadn (x := 125) rfl rfl ?_
                        refine z_getR (N := 92) (b := 126) 12 2 rfl f_12_8 rfl J rfl 16002 ⟨rfl, rfl⟩ rfl ?_
                        refine x_iload (x := v223) rfl rfl ?_
                        refine x_iloadn (x := a1) rfl rfl ?_
                        refine z_iast (N := 50660) (l := 18140) (u := 18740) (w := a1.toInt) rfl hD J Sm rfl rfl rfl (by omega) rfl (wr_126_18140 (by omega) (fun q1 q2 q3 q4 => by omega) (fun q1 q2 q3 q4 => by omega) (fun q1 q2 q3 q4 => by omega)) rfl (fun h w224 J Sm => ?_)
                        refine x_aloadn (x := 125) rfl rfl ?_
                        refine z_getR (N := 92) (b := 126) 12 2 rfl f_12_8 rfl J rfl 16002 ⟨rfl, rfl⟩ rfl ?_
                        refine x_iload (x := v223) rfl rfl ?_
                        refine x_iconst (v := 1) rfl ki_1 ?_
                        refine z_iadd rfl rfl jk_1 (by omega) (fun v225 ev225 => ?_)
                        refine x_iloadn (x := a2) rfl rfl ?_
                        refine z_iast (N := 50660) (l := 18140) (u := 18740) (w := a2.toInt) rfl hD J Sm rfl rfl rfl (by omega) rfl (wr_126_18140 (by omega) (fun q1 q2 q3 q4 => by omega) (fun q1 q2 q3 q4 => by omega) (fun q1 q2 q3 q4 => by omega)) rfl (fun h w226 J Sm => ?_)
                        refine x_aloadn (x := 125) rfl rfl ?_
                        refine z_getR (N := 92) (b := 126) 12 2 rfl f_12_8 rfl J rfl 16002 ⟨rfl, rfl⟩ rfl ?_
                        refine x_iload (x := v223) rfl rfl ?_
                        refine x_iconst (v := 2) rfl ki_2 ?_
                        refine z_iadd rfl rfl jk_2 (by omega) (fun v227 ev227 => ?_)
                        refine x_iloadn (x := a3) rfl rfl ?_
                        refine z_iast (N := 50660) (l := 18140) (u := 18740) (w := a3.toInt) rfl hD J Sm rfl rfl rfl (by omega) rfl (wr_126_18140 (by omega) (fun q1 q2 q3 q4 => by omega) (fun q1 q2 q3 q4 => by omega) (fun q1 q2 q3 q4 => by omega)) rfl (fun h w228 J Sm => ?_)
                        refine x_aloadn (x := 125) rfl rfl ?_
                        refine z_getR (N := 92) (b := 126) 12 2 rfl f_12_8 rfl J rfl 16002 ⟨rfl, rfl⟩ rfl ?_
                        refine x_iconst (v := 2) rfl ki_2 ?_
                        refine x_dup2 rfl rfl rfl ?_
                        refine z_ialdM (N := 50660) (v := v220) rfl J rfl jk_2 (by omega) (jmo2 w228 rfl jk_2 (by omega) (jmo2 w226 rfl jk_2 (by omega) (jmo2 w224 rfl jk_2 (by omega) qv220))) ?_
                        refine x_iconst (v := 1) rfl ki_1 ?_
                        refine z_iadd rfl rfl jk_1 (by omega) (fun v229 ev229 => ?_)
                        refine z_iast (N := 50660) (l := 2) (u := 3) (w := v229.toInt) rfl hD J Sm rfl rfl jk_2 (by omega) rfl (wr_126_2 (by omega) (fun q1 q2 q3 q4 => by omega)) rfl (fun h w230 J Sm => ?_)
                        refine x_vret rfl rfl ?_
                        show jX m_X12_together 9 0 0 96 [(0, .ref 125), (1, .int a1), (2, .int a2), (3, .int a3)] [] _ 0 0 _
                        refine x_aloadn (x := 125) rfl rfl ?_
                        refine x_aloadn (x := 125) rfl rfl ?_
                        refine z_getR (N := 92) (b := 126) 12 2 rfl f_12_8 rfl J rfl 16002 ⟨rfl, rfl⟩ rfl ?_
                        refine x_iconst (v := 2) rfl ki_2 ?_
                        refine z_ialdM (N := 50660) (v := v229) rfl J rfl jk_2 (by omega) (jmw w230) ?_
                        refine x_inv (N := m_X12_told) (As := [.int v229]) (b := 125) (st := []) (dx9 := 1) (mc := 0) (ms := 0) (host := "") 12 rfl t_X12_told ⟨Or.inl q_12_197, i_X12_told.1, i_X12_told.2⟩ ⟨by decide, rfl⟩ (congrArg Prod.fst (J.1.1 125 (12, 92) rfl)) rfl (by decide) rfl rfl ⟨by decide, by decide⟩ (sf_X12_told_r125  hD J  (fun v232 h J S231 => ?_))
                        have ev232 := jfull v232
                        have Sm := jSm_tr rfl Sm S231
                        show jX m_X12_together 9 0 0 106 [(0, .ref 125), (1, .int a1), (2, .int a2), (3, .int a3)] [.int v232] _ 0 0 _
                        refine x_iret rfl rfl ?_
                        exact hQ _ _ J Sm
                      ·
                        refine x_aloadn (x := 125) rfl rfl ?_
                        refine x_bipush (v := (-5)) rfl kb_m5 ?_
                        refine x_inv (N := m_X12_told) (As := [.int (-5)]) (b := 125) (st := []) (dx9 := 1) (mc := 0) (ms := 0) (host := "") 12 rfl t_X12_told ⟨Or.inl q_12_197, i_X12_told.1, i_X12_told.2⟩ ⟨by decide, rfl⟩ (congrArg Prod.fst (J.1.1 125 (12, 92) rfl)) rfl (by decide) rfl rfl ⟨by decide, by decide⟩ (sf_X12_told_r125  hD J  (fun v234 h J S233 => ?_))
                        have ev234 := jfull v234
                        have Sm := jSm_tr rfl Sm S233
                        show jX m_X12_together 9 0 0 88 [(0, .ref 125), (1, .int a1), (2, .int a2), (3, .int a3)] [.int v234] _ 0 0 _
                        refine x_iret rfl rfl ?_
                        exact hQ _ _ J Sm
                    ·
                      refine x_aloadn (x := 125) rfl rfl ?_
                      refine x_bipush (v := (-4)) rfl kb_m4 ?_
                      refine x_inv (N := m_X12_told) (As := [.int (-4)]) (b := 125) (st := []) (dx9 := 1) (mc := 0) (ms := 0) (host := "") 12 rfl t_X12_told ⟨Or.inl q_12_197, i_X12_told.1, i_X12_told.2⟩ ⟨by decide, rfl⟩ (congrArg Prod.fst (J.1.1 125 (12, 92) rfl)) rfl (by decide) rfl rfl ⟨by decide, by decide⟩ (sf_X12_told_r125  hD J  (fun v236 h J S235 => ?_))
                      have ev236 := jfull v236
                      have Sm := jSm_tr rfl Sm S235
                      show jX m_X12_together 9 0 0 69 [(0, .ref 125), (1, .int a1), (2, .int a2), (3, .int a3)] [.int v236] _ 0 0 _
                      refine x_iret rfl rfl ?_
                      exact hQ _ _ J Sm
              ·
                refine x_iconst (v := 3) rfl ki_3 ?_
                refine x_goto (tgt := 18) rfl rfl ?_
                refine x_iret rfl rfl ?_
                show jX m_X12_isMention 8 0 0 27 [(0, .ref 125), (1, .int a2)] [.int 3, .int v186] _ 0 0 _
                refine x_icge (tgt := 34) rfl rfl (ti_ge rfl jk_3 (br_f (by omega) ?_))
                refine x_iconst (v := 1) rfl ki_1 ?_
                refine x_goto (tgt := 35) rfl rfl ?_
                refine x_zret rfl rfl (by decide) ?_
                show jX m_X12_together 9 0 0 31 [(0, .ref 125), (1, .int a1), (2, .int a2), (3, .int a3)] [.int 1] _ 0 0 _
                refine x_ifne (tgt := 41) rfl rfl (ti_ne jk_1 jk_0 (bn_t (by omega) ?_))
                refine x_aloadn (x := 125) rfl rfl ?_
                refine x_ldcw (v := 146399) rfl z_12_392 ?_
                refine x_inv (N := m_X12_find) (As := [.int 146399]) (b := 125) (st := []) (dx9 := 8) (mc := 0) (ms := 0) (host := "") 12 rfl t_X12_find ⟨Or.inl q_12_393, i_X12_find.1, i_X12_find.2⟩ ⟨by decide, rfl⟩ (congrArg Prod.fst (J.1.1 125 (12, 92) rfl)) rfl (by decide) rfl rfl ⟨by decide, by decide⟩ (sf_X12_find_r125 (jr_of jk_146399 (by omega)) hD J  (fun h J S237 => ?_))
                have Sm := jSm_tr rfl Sm S237
                show jX m_X12_together 9 0 0 48 [(0, .ref 125), (1, .int a1), (2, .int a2), (3, .int a3)] [] _ 0 0 _
                refine x_aloadn (x := 125) rfl rfl ?_
                refine z_getR (N := 92) (b := 139) 12 29 rfl f_12_72 rfl J rfl 16029 ⟨rfl, rfl⟩ rfl ?_
                refine x_iloadn (x := a1) rfl rfl ?_
                refine z_iald (N := 600) rfl J rfl sg_139_0_600_1_0_1 rfl (by omega) (fun v238 qv238 ev238 => ?_)
                refine x_aloadn (x := 125) rfl rfl ?_
                refine z_getR (N := 92) (b := 139) 12 29 rfl f_12_72 rfl J rfl 16029 ⟨rfl, rfl⟩ rfl ?_
                refine x_iloadn (x := a2) rfl rfl ?_
                refine z_iald (N := 600) rfl J rfl sg_139_0_600_1_0_1 rfl (by omega) (fun v239 qv239 ev239 => ?_)
                refine x_icne (tgt := 70) rfl rfl (ti_ne rfl rfl ⟨fun c240 => ?_, fun c240 => ?_⟩)
                ·
                  refine x_aloadn (x := 125) rfl rfl ?_
                  refine z_getR (N := 92) (b := 126) 12 2 rfl f_12_8 rfl J rfl 16002 ⟨rfl, rfl⟩ rfl ?_
                  refine x_iconst (v := 2) rfl ki_2 ?_
                  refine z_iald (N := 50660) rfl J rfl sg_126_2_3_1_0_1 jk_2 (by omega) (fun v241 qv241 ev241 => ?_)
                  refine x_sipush (v := 200) rfl ks_200 ?_
                  refine x_icne (tgt := 89) rfl rfl (ti_ne rfl jk_200 ⟨fun c242 => ?_, fun c242 => ?_⟩)
                  ·
                    refine x_aloadn (x := 125) rfl rfl ?_
                    refine x_iloadn (x := a1) rfl rfl ?_
                    refine x_iloadn (x := a2) rfl rfl ?_
                    refine x_iloadn (x := a3) rfl rfl ?_
                    refine x_inv (N := m_X12_addJoined) (As := [.int a1, .int a2, .int a3]) (b := 125) (st := []) (dx9 := 8) (mc := 0) (ms := 0) (host := "") 12 rfl t_X12_addJoined ⟨Or.inl q_12_396, i_X12_addJoined.1, i_X12_addJoined.2⟩ ⟨by decide, rfl⟩ (congrArg Prod.fst (J.1.1 125 (12, 92) rfl)) rfl (by decide) rfl rfl ⟨by decide, by decide⟩ (jC.of rfl k_X12_addJoined rfl ?_)
                    show jX m_X12_addJoined 8 0 0 0 [(0, .ref 125), (1, .int a1), (2, .int a2), (3, .int a3)] [] _ 0 0 _
                    refine x_sipush (v := 18140) rfl ks_18140 ?_
                    refine x_iconst (v := 3) rfl ki_3 ?_
                    refine x_aloadn (x := 125) rfl rfl ?_
                    refine z_getR (N := 92) (b := 126) 12 2 rfl f_12_8 rfl J rfl 16002 ⟨rfl, rfl⟩ rfl ?_
                    refine x_iconst (v := 2) rfl ki_2 ?_
                    refine z_ialdM (N := 50660) (v := v241) rfl J rfl jk_2 (by omega) qv241 ?_
                    refine z_imul rfl jk_3 rfl (by omega) (fun v243 ev243 => ?_)
                    refine z_iadd rfl jk_18140 rfl (by omega) (fun v244 ev244 => ?_)
                    refine x_istore (lsx9 := [(4, .int v244), (0, .ref 125), (1, .int a1), (2, .int a2), (3, .int a3)]) rfl rfl rfl ?_
                    refine x_aloadn (x := 125) rfl rfl ?_
                    refine z_getR (N := 92) (b := 126) 12 2 rfl f_12_8 rfl J rfl 16002 ⟨rfl, rfl⟩ rfl ?_
                    refine x_iload (x := v244) rfl rfl ?_
                    refine x_iloadn (x := a1) rfl rfl ?_
                    refine z_iast (N := 50660) (l := 18140) (u := 18740) (w := a1.toInt) rfl hD J Sm rfl rfl rfl (by omega) rfl (wr_126_18140 (by omega) (fun q1 q2 q3 q4 => by omega) (fun q1 q2 q3 q4 => by omega) (fun q1 q2 q3 q4 => by omega)) rfl (fun h w245 J Sm => ?_)
                    refine x_aloadn (x := 125) rfl rfl ?_
                    refine z_getR (N := 92) (b := 126) 12 2 rfl f_12_8 rfl J rfl 16002 ⟨rfl, rfl⟩ rfl ?_
                    refine x_iload (x := v244) rfl rfl ?_
                    refine x_iconst (v := 1) rfl ki_1 ?_
                    refine z_iadd rfl rfl jk_1 (by omega) (fun v246 ev246 => ?_)
                    refine x_iloadn (x := a2) rfl rfl ?_
                    refine z_iast (N := 50660) (l := 18140) (u := 18740) (w := a2.toInt) rfl hD J Sm rfl rfl rfl (by omega) rfl (wr_126_18140 (by omega) (fun q1 q2 q3 q4 => by omega) (fun q1 q2 q3 q4 => by omega) (fun q1 q2 q3 q4 => by omega)) rfl (fun h w247 J Sm => ?_)
                    refine x_aloadn (x := 125) rfl rfl ?_
                    refine z_getR (N := 92) (b := 126) 12 2 rfl f_12_8 rfl J rfl 16002 ⟨rfl, rfl⟩ rfl ?_
                    refine x_iload (x := v244) rfl rfl ?_
                    refine x_iconst (v := 2) rfl ki_2 ?_
                    refine z_iadd rfl rfl jk_2 (by omega) (fun v248 ev248 => ?_)
                    refine x_iloadn (x := a3) rfl rfl ?_
                    refine z_iast (N := 50660) (l := 18140) (u := 18740) (w := a3.toInt) rfl hD J Sm rfl rfl rfl (by omega) rfl (wr_126_18140 (by omega) (fun q1 q2 q3 q4 => by omega) (fun q1 q2 q3 q4 => by omega) (fun q1 q2 q3 q4 => by omega)) rfl (fun h w249 J Sm => ?_)
                    refine x_aloadn (x := 125) rfl rfl ?_
                    refine z_getR (N := 92) (b := 126) 12 2 rfl f_12_8 rfl J rfl 16002 ⟨rfl, rfl⟩ rfl ?_
                    refine x_iconst (v := 2) rfl ki_2 ?_
                    refine x_dup2 rfl rfl rfl ?_
                    refine z_ialdM (N := 50660) (v := v241) rfl J rfl jk_2 (by omega) (jmo2 w249 rfl jk_2 (by omega) (jmo2 w247 rfl jk_2 (by omega) (jmo2 w245 rfl jk_2 (by omega) qv241))) ?_
                    refine x_iconst (v := 1) rfl ki_1 ?_
                    refine z_iadd rfl rfl jk_1 (by omega) (fun v250 ev250 => ?_)
                    refine z_iast (N := 50660) (l := 2) (u := 3) (w := v250.toInt) rfl hD J Sm rfl rfl jk_2 (by omega) rfl (wr_126_2 (by omega) (fun q1 q2 q3 q4 => by omega)) rfl (fun h w251 J Sm => ?_)
                    refine x_vret rfl rfl ?_
                    show jX m_X12_together 9 0 0 96 [(0, .ref 125), (1, .int a1), (2, .int a2), (3, .int a3)] [] _ 0 0 _
                    refine x_aloadn (x := 125) rfl rfl ?_
                    refine x_aloadn (x := 125) rfl rfl ?_
                    refine z_getR (N := 92) (b := 126) 12 2 rfl f_12_8 rfl J rfl 16002 ⟨rfl, rfl⟩ rfl ?_
                    refine x_iconst (v := 2) rfl ki_2 ?_
                    refine z_ialdM (N := 50660) (v := v250) rfl J rfl jk_2 (by omega) (jmw w251) ?_
                    refine x_inv (N := m_X12_told) (As := [.int v250]) (b := 125) (st := []) (dx9 := 1) (mc := 0) (ms := 0) (host := "") 12 rfl t_X12_told ⟨Or.inl q_12_197, i_X12_told.1, i_X12_told.2⟩ ⟨by decide, rfl⟩ (congrArg Prod.fst (J.1.1 125 (12, 92) rfl)) rfl (by decide) rfl rfl ⟨by decide, by decide⟩ (sf_X12_told_r125  hD J  (fun v253 h J S252 => ?_))
                    have ev253 := jfull v253
                    have Sm := jSm_tr rfl Sm S252
                    show jX m_X12_together 9 0 0 106 [(0, .ref 125), (1, .int a1), (2, .int a2), (3, .int a3)] [.int v253] _ 0 0 _
                    refine x_iret rfl rfl ?_
                    exact hQ _ _ J Sm
                  ·
                    refine x_aloadn (x := 125) rfl rfl ?_
                    refine x_bipush (v := (-5)) rfl kb_m5 ?_
                    refine x_inv (N := m_X12_told) (As := [.int (-5)]) (b := 125) (st := []) (dx9 := 1) (mc := 0) (ms := 0) (host := "") 12 rfl t_X12_told ⟨Or.inl q_12_197, i_X12_told.1, i_X12_told.2⟩ ⟨by decide, rfl⟩ (congrArg Prod.fst (J.1.1 125 (12, 92) rfl)) rfl (by decide) rfl rfl ⟨by decide, by decide⟩ (sf_X12_told_r125  hD J  (fun v255 h J S254 => ?_))
                    have ev255 := jfull v255
                    have Sm := jSm_tr rfl Sm S254
                    show jX m_X12_together 9 0 0 88 [(0, .ref 125), (1, .int a1), (2, .int a2), (3, .int a3)] [.int v255] _ 0 0 _
                    refine x_iret rfl rfl ?_
                    exact hQ _ _ J Sm
                ·
                  refine x_aloadn (x := 125) rfl rfl ?_
                  refine x_bipush (v := (-4)) rfl kb_m4 ?_
                  refine x_inv (N := m_X12_told) (As := [.int (-4)]) (b := 125) (st := []) (dx9 := 1) (mc := 0) (ms := 0) (host := "") 12 rfl t_X12_told ⟨Or.inl q_12_197, i_X12_told.1, i_X12_told.2⟩ ⟨by decide, rfl⟩ (congrArg Prod.fst (J.1.1 125 (12, 92) rfl)) rfl (by decide) rfl rfl ⟨by decide, by decide⟩ (sf_X12_told_r125  hD J  (fun v257 h J S256 => ?_))
                  have ev257 := jfull v257
                  have Sm := jSm_tr rfl Sm S256
                  show jX m_X12_together 9 0 0 69 [(0, .ref 125), (1, .int a1), (2, .int a2), (3, .int a3)] [.int v257] _ 0 0 _
                  refine x_iret rfl rfl ?_
                  exact hQ _ _ J Sm
  ·
    refine x_aloadn (x := 125) rfl rfl ?_
    refine x_iconst (v := (-1)) rfl ki_m1 ?_
    refine x_inv (N := m_X12_told) (As := [.int (-1)]) (b := 125) (st := []) (dx9 := 1) (mc := 0) (ms := 0) (host := "") 12 rfl t_X12_told ⟨Or.inl q_12_197, i_X12_told.1, i_X12_told.2⟩ ⟨by decide, rfl⟩ (congrArg Prod.fst (J.1.1 125 (12, 92) rfl)) rfl (by decide) rfl rfl ⟨by decide, by decide⟩ (sf_X12_told_r125  hD J  (fun v259 h J S258 => ?_))
    have ev259 := jfull v259
    have Sm := jSm_tr rfl Sm S258
    show jX m_X12_together 9 0 0 17 [(0, .ref 125), (1, .int a1), (2, .int a2), (3, .int a3)] [.int v259] _ 0 0 _
    refine x_iret rfl rfl ?_
    exact hQ _ _ J Sm
def fp_X12_torn_r125 : jFp := [(125, 0, 1), (125, 1, 2), (126, 3, 4), (126, 18740, 18820)]
set_option maxRecDepth 100000 in
set_option maxHeartbeats 4000000 in
theorem ct_X12_torn_r125_43 {Dy : jH → Prop} {h0 : jH} {Q : Option Value → jH → Prop} (hD : jDk Dy) (hQ : ∀ (v : Int32) hx9, jJ jSgM Dy hx9 → jSm fp_X12_torn_r125 h0 hx9 → Q (some (.int v)) hx9) : ∀ (h : jH), jJ jSgM Dy h → jSm fp_X12_torn_r125 h0 h → jX m_X12_torn 3 0 0 43 [(0, .ref 125)] [] h 0 0 Q := by
  intro  h    J Sm
  refine x_aloadn (x := 125) rfl rfl ?_
  refine x_iconst (v := (-1)) rfl ki_m1 ?_
  refine x_inv (N := m_X12_told) (As := [.int (-1)]) (b := 125) (st := []) (dx9 := 1) (mc := 0) (ms := 0) (host := "") 12 rfl t_X12_told ⟨Or.inl q_12_197, i_X12_told.1, i_X12_told.2⟩ ⟨by decide, rfl⟩ (congrArg Prod.fst (J.1.1 125 (12, 92) rfl)) rfl (by decide) rfl rfl ⟨by decide, by decide⟩ (sf_X12_told_r125  hD J  (fun v2 h J S1 => ?_))
  have ev2 := jfull v2
  have Sm := jSm_tr rfl Sm S1
  show jX m_X12_torn 3 0 0 48 [(0, .ref 125)] [.int v2] _ 0 0 _
  refine x_iret rfl rfl ?_
  exact hQ _ _ J Sm
set_option maxRecDepth 100000 in
set_option maxHeartbeats 4000000 in
theorem sf_X12_torn_r125 {Dy : jH → Prop} {h : jH} {Q : Option Value → jH → Prop} {a1 : Int32} {a2 : Int32} {a3 : Int32} {a4 : Int32} (hD : jDk Dy) (J : jJ jSgM Dy h) (hQ : ∀ (v : Int32) hx9, jJ jSgM Dy hx9 → jSm fp_X12_torn_r125 h hx9 → Q (some (.int v)) hx9) : jC m_X12_torn 3 0 0 [.ref 125, .int a1, .int a2, .int a3, .int a4] h Q := by
  refine jC.of rfl k_X12_torn rfl ?_
  have Sm := jSm_rf fp_X12_torn_r125 h
  have ea1 := jfull a1
  have ea2 := jfull a2
  have ea3 := jfull a3
  have ea4 := jfull a4
  show jX m_X12_torn 3 0 0 0 [(0, .ref 125), (1, .int a1), (2, .int a2), (3, .int a3), (4, .int a4)] [] _ 0 0 _
  refine x_aloadn (x := 125) rfl rfl ?_
  refine x_iconst (v := 0) rfl ki_0 ?_
  refine z_putI (N := 92) (w := 0) 12 0 rfl f_12_180 rfl (jfin_no TX12 RX12 92 rfl rfl) hD J Sm rfl rfl jk_0 (pw_125_0 (by omega)) rfl (fun h w1 J Sm => ?_)
  refine x_iloadn (x := a1) rfl rfl ?_
  refine z_i2l rfl rfl (fun v2 ev2 => ?_)
  refine x_lconst (v := 0) rfl kl_0 ?_
  refine x_ldc2 (v := 5) rfl z_12_269 ?_
  refine x_inst (N := m_X12_in) (As := [.long v2, .long 0, .long 5]) (st := []) (dx9 := 1) (mc := 0) (ms := 0) (host := "") rfl t_X12_in ⟨Or.inl q_12_188, s_X12_in⟩ rfl (by decide) rfl rfl ⟨by decide, by decide⟩ (zc_X12_in rfl jkl_0 jkl_5 (fun v3 ev3 => ?_))
  show jX m_X12_torn 3 0 0 14 [(0, .ref 125), (1, .int a1), (2, .int a2), (3, .int a3), (4, .int a4)] [.int v3] _ 0 0 _
  refine x_ifeq (tgt := 43) rfl rfl (ti_eq rfl jk_0 ⟨fun c4 => ?_, fun c4 => ?_⟩)
  ·
    exact jX.sub (jsb_c rfl jsb_n) (ct_X12_torn_r125_43 hD hQ  h J Sm)
  ·
    refine x_iloadn (x := a3) rfl rfl ?_
    refine x_inst (N := m_X12_isDay) (As := [.int a3]) (st := []) (dx9 := 2) (mc := 0) (ms := 0) (host := "") rfl t_X12_isDay ⟨Or.inl q_12_273, s_X12_isDay⟩ rfl (by decide) rfl rfl ⟨by decide, by decide⟩ (zc_X12_isDay (d := 1) rfl (fun v5 ev5 => ?_))
    show jX m_X12_torn 3 0 0 21 [(0, .ref 125), (1, .int a1), (2, .int a2), (3, .int a3), (4, .int a4)] [.int v5] _ 0 0 _
    refine x_ifeq (tgt := 43) rfl rfl (ti_eq rfl jk_0 ⟨fun c6 => ?_, fun c6 => ?_⟩)
    ·
      exact jX.sub (jsb_c rfl jsb_n) (ct_X12_torn_r125_43 hD hQ  h J Sm)
    ·
      refine x_iloadn (x := a2) rfl rfl ?_
      refine z_i2l rfl rfl (fun v7 ev7 => ?_)
      refine x_lconst (v := 0) rfl kl_0 ?_
      refine x_iloadn (x := a3) rfl rfl ?_
      refine z_i2l rfl rfl (fun v8 ev8 => ?_)
      refine x_inst (N := m_X12_in) (As := [.long v7, .long 0, .long v8]) (st := []) (dx9 := 1) (mc := 0) (ms := 0) (host := "") rfl t_X12_in ⟨Or.inl q_12_188, s_X12_in⟩ rfl (by decide) rfl rfl ⟨by decide, by decide⟩ (zc_X12_in rfl jkl_0 rfl (fun v9 ev9 => ?_))
      show jX m_X12_torn 3 0 0 32 [(0, .ref 125), (1, .int a1), (2, .int a2), (3, .int a3), (4, .int a4)] [.int v9] _ 0 0 _
      refine x_ifeq (tgt := 43) rfl rfl (ti_eq rfl jk_0 ⟨fun c10 => ?_, fun c10 => ?_⟩)
      ·
        exact jX.sub (jsb_c rfl jsb_n) (ct_X12_torn_r125_43 hD hQ  h J Sm)
      ·
        refine x_iload (x := a4) rfl rfl ?_
        refine x_inst (N := m_X12_isDay) (As := [.int a4]) (st := []) (dx9 := 2) (mc := 0) (ms := 0) (host := "") rfl t_X12_isDay ⟨Or.inl q_12_273, s_X12_isDay⟩ rfl (by decide) rfl rfl ⟨by decide, by decide⟩ (zc_X12_isDay (d := 1) rfl (fun v11 ev11 => ?_))
        show jX m_X12_torn 3 0 0 40 [(0, .ref 125), (1, .int a1), (2, .int a2), (3, .int a3), (4, .int a4)] [.int v11] _ 0 0 _
        refine x_ifne (tgt := 49) rfl rfl (ti_ne rfl jk_0 ⟨fun c12 => ?_, fun c12 => ?_⟩)
        ·
          refine x_aloadn (x := 125) rfl rfl ?_
          refine z_getR (N := 92) (b := 126) 12 2 rfl f_12_8 rfl J rfl 16002 ⟨rfl, rfl⟩ rfl ?_
          refine x_iconst (v := 3) rfl ki_3 ?_
          refine z_iald (N := 50660) rfl J rfl sg_126_3_4_1_0_1 jk_3 (by omega) (fun v13 qv13 ev13 => ?_)
          refine x_bipush (v := 20) rfl kb_20 ?_
          refine x_icne (tgt := 67) rfl rfl (ti_ne rfl jk_20 ⟨fun c14 => ?_, fun c14 => ?_⟩)
          ·
            refine x_sipush (v := 18740) rfl ks_18740 ?_
            refine x_iconst (v := 4) rfl ki_4 ?_
            refine x_aloadn (x := 125) rfl rfl ?_
            refine z_getR (N := 92) (b := 126) 12 2 rfl f_12_8 rfl J rfl 16002 ⟨rfl, rfl⟩ rfl ?_
            refine x_iconst (v := 3) rfl ki_3 ?_
            refine z_ialdM (N := 50660) (v := v13) rfl J rfl jk_3 (by omega) qv13 ?_
            refine z_imul rfl jk_4 rfl (by omega) (fun v15 ev15 => ?_)
            refine z_iadd rfl jk_18740 rfl (by omega) (fun v16 ev16 => ?_)
            refine x_istore (lsx9 := [(5, .int v16), (0, .ref 125), (1, .int a1), (2, .int a2), (3, .int a3), (4, .int a4)]) rfl rfl rfl ?_
            refine x_aloadn (x := 125) rfl rfl ?_
            refine z_getR (N := 92) (b := 126) 12 2 rfl f_12_8 rfl J rfl 16002 ⟨rfl, rfl⟩ rfl ?_
            refine x_iload (x := v16) rfl rfl ?_
            refine x_iloadn (x := a1) rfl rfl ?_
            refine z_iast (N := 50660) (l := 18740) (u := 18820) (w := a1.toInt) rfl hD J Sm rfl rfl rfl (by omega) rfl (wr_126_18740 (by omega) (fun q1 q2 q3 q4 => by omega) (fun q1 q2 q3 q4 => by omega) (fun q1 q2 q3 q4 => by omega) (fun q1 q2 q3 q4 => by omega)) rfl (fun h w17 J Sm => ?_)
            refine x_aloadn (x := 125) rfl rfl ?_
            refine z_getR (N := 92) (b := 126) 12 2 rfl f_12_8 rfl J rfl 16002 ⟨rfl, rfl⟩ rfl ?_
            refine x_iload (x := v16) rfl rfl ?_
            refine x_iconst (v := 1) rfl ki_1 ?_
            refine z_iadd rfl rfl jk_1 (by omega) (fun v18 ev18 => ?_)
            refine x_iloadn (x := a2) rfl rfl ?_
            refine z_iast (N := 50660) (l := 18740) (u := 18820) (w := a2.toInt) rfl hD J Sm rfl rfl rfl (by omega) rfl (wr_126_18740 (by omega) (fun q1 q2 q3 q4 => by omega) (fun q1 q2 q3 q4 => by omega) (fun q1 q2 q3 q4 => by omega) (fun q1 q2 q3 q4 => by omega)) rfl (fun h w19 J Sm => ?_)
            refine x_aloadn (x := 125) rfl rfl ?_
            refine z_getR (N := 92) (b := 126) 12 2 rfl f_12_8 rfl J rfl 16002 ⟨rfl, rfl⟩ rfl ?_
            refine x_iload (x := v16) rfl rfl ?_
            refine x_iconst (v := 2) rfl ki_2 ?_
            refine z_iadd rfl rfl jk_2 (by omega) (fun v20 ev20 => ?_)
            refine x_iloadn (x := a3) rfl rfl ?_
            refine z_iast (N := 50660) (l := 18740) (u := 18820) (w := a3.toInt) rfl hD J Sm rfl rfl rfl (by omega) rfl (wr_126_18740 (by omega) (fun q1 q2 q3 q4 => by omega) (fun q1 q2 q3 q4 => by omega) (fun q1 q2 q3 q4 => by omega) (fun q1 q2 q3 q4 => by omega)) rfl (fun h w21 J Sm => ?_)
            refine x_aloadn (x := 125) rfl rfl ?_
            refine z_getR (N := 92) (b := 126) 12 2 rfl f_12_8 rfl J rfl 16002 ⟨rfl, rfl⟩ rfl ?_
            refine x_iload (x := v16) rfl rfl ?_
            refine x_iconst (v := 3) rfl ki_3 ?_
            refine z_iadd rfl rfl jk_3 (by omega) (fun v22 ev22 => ?_)
            refine x_iload (x := a4) rfl rfl ?_
            refine z_iast (N := 50660) (l := 18740) (u := 18820) (w := a4.toInt) rfl hD J Sm rfl rfl rfl (by omega) rfl (wr_126_18740 (by omega) (fun q1 q2 q3 q4 => by omega) (fun q1 q2 q3 q4 => by omega) (fun q1 q2 q3 q4 => by omega) (fun q1 q2 q3 q4 => by omega)) rfl (fun h w23 J Sm => ?_)
            refine x_aloadn (x := 125) rfl rfl ?_
            refine z_getR (N := 92) (b := 126) 12 2 rfl f_12_8 rfl J rfl 16002 ⟨rfl, rfl⟩ rfl ?_
            refine x_iconst (v := 3) rfl ki_3 ?_
            refine x_dup2 rfl rfl rfl ?_
            refine z_ialdM (N := 50660) (v := v13) rfl J rfl jk_3 (by omega) (jmo2 w23 rfl jk_3 (by omega) (jmo2 w21 rfl jk_3 (by omega) (jmo2 w19 rfl jk_3 (by omega) (jmo2 w17 rfl jk_3 (by omega) qv13)))) ?_
            refine x_iconst (v := 1) rfl ki_1 ?_
            refine z_iadd rfl rfl jk_1 (by omega) (fun v24 ev24 => ?_)
            refine z_iast (N := 50660) (l := 3) (u := 4) (w := v24.toInt) rfl hD J Sm rfl rfl jk_3 (by omega) rfl (wr_126_3 (by omega) (fun q1 q2 q3 q4 => by omega)) rfl (fun h w25 J Sm => ?_)
            refine x_aloadn (x := 125) rfl rfl ?_
            refine x_aloadn (x := 125) rfl rfl ?_
            refine z_getR (N := 92) (b := 126) 12 2 rfl f_12_8 rfl J rfl 16002 ⟨rfl, rfl⟩ rfl ?_
            refine x_iconst (v := 3) rfl ki_3 ?_
            refine z_ialdM (N := 50660) (v := v24) rfl J rfl jk_3 (by omega) (jmw w25) ?_
            refine x_inv (N := m_X12_told) (As := [.int v24]) (b := 125) (st := []) (dx9 := 1) (mc := 0) (ms := 0) (host := "") 12 rfl t_X12_told ⟨Or.inl q_12_197, i_X12_told.1, i_X12_told.2⟩ ⟨by decide, rfl⟩ (congrArg Prod.fst (J.1.1 125 (12, 92) rfl)) rfl (by decide) rfl rfl ⟨by decide, by decide⟩ (sf_X12_told_r125  hD J  (fun v27 h J S26 => ?_))
            have ev27 := jfull v27
            have Sm := jSm_tr rfl Sm S26
            show jX m_X12_torn 3 0 0 140 [(5, .int v16), (0, .ref 125), (1, .int a1), (2, .int a2), (3, .int a3), (4, .int a4)] [.int v27] _ 0 0 _
            refine x_iret rfl rfl ?_
            exact hQ _ _ J Sm
          ·
            refine x_aloadn (x := 125) rfl rfl ?_
            refine x_bipush (v := (-5)) rfl kb_m5 ?_
            refine x_inv (N := m_X12_told) (As := [.int (-5)]) (b := 125) (st := []) (dx9 := 1) (mc := 0) (ms := 0) (host := "") 12 rfl t_X12_told ⟨Or.inl q_12_197, i_X12_told.1, i_X12_told.2⟩ ⟨by decide, rfl⟩ (congrArg Prod.fst (J.1.1 125 (12, 92) rfl)) rfl (by decide) rfl rfl ⟨by decide, by decide⟩ (sf_X12_told_r125  hD J  (fun v29 h J S28 => ?_))
            have ev29 := jfull v29
            have Sm := jSm_tr rfl Sm S28
            show jX m_X12_torn 3 0 0 66 [(0, .ref 125), (1, .int a1), (2, .int a2), (3, .int a3), (4, .int a4)] [.int v29] _ 0 0 _
            refine x_iret rfl rfl ?_
            exact hQ _ _ J Sm
        ·
          exact jX.sub (jsb_c rfl jsb_n) (ct_X12_torn_r125_43 hD hQ  h J Sm)
def fp_X12_turn_r125 : jFp := [(125, 0, 1), (125, 28, 29), (125, 31, 32), (125, 32, 33), (125, 33, 34), (125, 34, 35), (125, 35, 36), (125, 57, 58), (125, 61, 62), (125, 62, 63), (125, 63, 64), (137, 0, 80), (138, 0, 2), (139, 0, 600), (140, 0, 200), (152, 0, 360), (153, 0, 30), (154, 0, 400), (162, 0, 40), (162, 40, 80), (163, 0, 40), (163, 40, 80), (164, 0, 40), (168, 0, 400), (169, 0, 400)]
set_option maxRecDepth 100000 in
set_option maxHeartbeats 4000000 in
theorem ct_X12_turn_r125_44 {Dy : jH → Prop} {h0 : jH} {Q : Option Value → jH → Prop} (hD : jDk Dy) (hQ : ∀ (v : Int32) hx9, jJ jSgM Dy hx9 → jSm fp_X12_turn_r125 h0 hx9 → Q (some (.int v)) hx9) : ∀ (h : jH), jJ jSgM Dy h → jSm fp_X12_turn_r125 h0 h → jX m_X12_turn 12 0 0 44 [] [] h 0 0 Q := by
  intro  h    J Sm
  refine x_iconst (v := (-1)) rfl ki_m1 ?_
  refine x_iret rfl rfl ?_
  exact hQ _ _ J Sm
set_option maxRecDepth 100000 in
set_option maxHeartbeats 4000000 in
theorem ct_X12_turn_r125_200190 {Dy : jH → Prop} {h0 : jH} {Q : Option Value → jH → Prop} (hD : jDk Dy) (hQ : ∀ (v : Int32) hx9, jJ jSgM Dy hx9 → jSm fp_X12_turn_r125 h0 hx9 → Q (some (.int v)) hx9) : ∀ (h : jH), jJ jSgM Dy h → jSm fp_X12_turn_r125 h0 h → jX m_X12_turn 12 0 0 190 [] [.int 0] h 0 0 Q := by
  intro  h    J Sm
  refine x_iret rfl rfl ?_
  exact hQ _ _ J Sm
set_option maxRecDepth 100000 in
set_option maxHeartbeats 4000000 in
theorem ct_X12_turn_r125_190 {Dy : jH → Prop} {h0 : jH} {Q : Option Value → jH → Prop} (hD : jDk Dy) (hQ : ∀ (v : Int32) hx9, jJ jSgM Dy hx9 → jSm fp_X12_turn_r125 h0 hx9 → Q (some (.int v)) hx9) : ∀ (s0 : Int32) (h : jH), jJ jSgM Dy h → jSm fp_X12_turn_r125 h0 h → jX m_X12_turn 12 0 0 190 [] [.int s0] h 0 0 Q := by
  intro s0 h    J Sm
  have es0 := jfull s0
  refine x_iret rfl rfl ?_
  exact hQ _ _ J Sm
set_option maxRecDepth 100000 in
set_option maxHeartbeats 4000000 in
theorem ct_X12_turn_r125_200138 {Dy : jH → Prop} {h0 : jH} {Q : Option Value → jH → Prop} {R95 : Int} {R113 : Int} (hD : jDk Dy) (hQ : ∀ (v : Int32) hx9, jJ jSgM Dy hx9 → jSm fp_X12_turn_r125 h0 hx9 → Q (some (.int v)) hx9) (k95 : ∀ (l2 : Int32) (l5 : Int32) (l6 : Int32) (l7 : Int32) (h : jH), 40 - l7.toInt < R95 → 0 ≤ l2.toInt ∧ l2.toInt ≤ 399 → 0 ≤ l5.toInt ∧ l5.toInt ≤ 2147483647 → (-2147483648) ≤ l6.toInt ∧ l6.toInt ≤ 1000 → 0 ≤ l7.toInt ∧ l7.toInt ≤ 40 → jJ jSgM Dy h → jSm fp_X12_turn_r125 h0 h → jX m_X12_turn 12 0 0 95 [(0, .ref 125), (2, .int l2), (5, .int l5), (6, .int l6), (7, .int l7)] [] h 0 0 Q) (k113 : ∀ (l2 : Int32) (l5 : Int32) (l6 : Int32) (l7 : Int32) (l8 : Int32) (l9 : Int32) (h : jH), 400 - l9.toInt < R113 → 0 ≤ l2.toInt ∧ l2.toInt ≤ 399 → 0 ≤ l5.toInt ∧ l5.toInt ≤ 2147483647 → (-2147483648) ≤ l6.toInt ∧ l6.toInt ≤ 1000 → 0 ≤ l7.toInt ∧ l7.toInt ≤ 39 → 0 ≤ l9.toInt ∧ l9.toInt ≤ 400 → 40 - l7.toInt ≤ R95 → jJ jSgM Dy h → jSm fp_X12_turn_r125 h0 h → jX m_X12_turn 12 0 0 113 [(0, .ref 125), (2, .int l2), (5, .int l5), (6, .int l6), (7, .int l7), (8, .int l8), (9, .int l9)] [] h 0 0 Q) : ∀ (l2 : Int32) (l5 : Int32) (l6 : Int32) (l7 : Int32) (l9 : Int32) (s1 : Int32) (h : jH), 0 ≤ l2.toInt ∧ l2.toInt ≤ 399 → 0 ≤ l5.toInt ∧ l5.toInt ≤ 2147483647 → (-2147483648) ≤ l6.toInt ∧ l6.toInt ≤ 1000 → 0 ≤ l7.toInt ∧ l7.toInt ≤ 39 → 0 ≤ l9.toInt ∧ l9.toInt ≤ 399 → 40 - l7.toInt ≤ R95 → 400 - l9.toInt ≤ R113 → jJ jSgM Dy h → jSm fp_X12_turn_r125 h0 h → jX m_X12_turn 12 0 0 138 [(0, .ref 125), (2, .int l2), (5, .int l5), (6, .int l6), (7, .int l7), (9, .int l9)] [.int 0, .int s1] h 0 0 Q := by
  intro l2 l5 l6 l7 l9 s1 h y0 y1 y2 y3 y4  m95 m113 J Sm
  have es1 := jfull s1
  refine z_iadd rfl rfl jk_0 (by omega) (fun v1 ev1 => ?_)
  refine x_istore (lsx9 := [(8, .int v1), (0, .ref 125), (2, .int l2), (5, .int l5), (6, .int l6), (7, .int l7), (9, .int l9)]) rfl rfl rfl ?_
  refine z_iinc (x := l9) (lsx9 := fun v2 => [(9, .int v2), (8, .int v1), (0, .ref 125), (2, .int l2), (5, .int l5), (6, .int l6), (7, .int l7)]) rfl rfl rfl jko_1 (by omega) rfl (fun _ => rfl) (fun v2 ev2 => ?_)
  refine x_goto (tgt := 113) rfl rfl ?_
  exact jX.sub (jsb_c rfl (jsb_c rfl (jsb_c rfl (jsb_c rfl (jsb_c rfl (jsb_c rfl (jsb_c rfl jsb_n))))))) (k113 l2 l5 l6 l7 v1 v2 h (by omega) (jr_of rfl (by omega)) (jr_of rfl (by omega)) (jr_of rfl (by omega)) (jr_of rfl (by omega)) (jr_of rfl (by omega)) (by omega) J Sm)
set_option maxRecDepth 100000 in
set_option maxHeartbeats 4000000 in
theorem ct_X12_turn_r125_300138 {Dy : jH → Prop} {h0 : jH} {Q : Option Value → jH → Prop} {R95 : Int} {R113 : Int} (hD : jDk Dy) (hQ : ∀ (v : Int32) hx9, jJ jSgM Dy hx9 → jSm fp_X12_turn_r125 h0 hx9 → Q (some (.int v)) hx9) (k95 : ∀ (l2 : Int32) (l5 : Int32) (l6 : Int32) (l7 : Int32) (h : jH), 40 - l7.toInt < R95 → 0 ≤ l2.toInt ∧ l2.toInt ≤ 399 → 0 ≤ l5.toInt ∧ l5.toInt ≤ 2147483647 → (-2147483648) ≤ l6.toInt ∧ l6.toInt ≤ 1000 → 0 ≤ l7.toInt ∧ l7.toInt ≤ 40 → jJ jSgM Dy h → jSm fp_X12_turn_r125 h0 h → jX m_X12_turn 12 0 0 95 [(0, .ref 125), (2, .int l2), (5, .int l5), (6, .int l6), (7, .int l7)] [] h 0 0 Q) (k113 : ∀ (l2 : Int32) (l5 : Int32) (l6 : Int32) (l7 : Int32) (l8 : Int32) (l9 : Int32) (h : jH), 400 - l9.toInt < R113 → 0 ≤ l2.toInt ∧ l2.toInt ≤ 399 → 0 ≤ l5.toInt ∧ l5.toInt ≤ 2147483647 → (-2147483648) ≤ l6.toInt ∧ l6.toInt ≤ 1000 → 0 ≤ l7.toInt ∧ l7.toInt ≤ 39 → 0 ≤ l9.toInt ∧ l9.toInt ≤ 400 → 40 - l7.toInt ≤ R95 → jJ jSgM Dy h → jSm fp_X12_turn_r125 h0 h → jX m_X12_turn 12 0 0 113 [(0, .ref 125), (2, .int l2), (5, .int l5), (6, .int l6), (7, .int l7), (8, .int l8), (9, .int l9)] [] h 0 0 Q) : ∀ (l2 : Int32) (l5 : Int32) (l6 : Int32) (l7 : Int32) (l9 : Int32) (s1 : Int32) (h : jH), 0 ≤ l2.toInt ∧ l2.toInt ≤ 399 → 0 ≤ l5.toInt ∧ l5.toInt ≤ 2147483647 → (-2147483648) ≤ l6.toInt ∧ l6.toInt ≤ 1000 → 0 ≤ l7.toInt ∧ l7.toInt ≤ 39 → 0 ≤ l9.toInt ∧ l9.toInt ≤ 399 → 40 - l7.toInt ≤ R95 → 400 - l9.toInt ≤ R113 → jJ jSgM Dy h → jSm fp_X12_turn_r125 h0 h → jX m_X12_turn 12 0 0 138 [(0, .ref 125), (2, .int l2), (5, .int l5), (6, .int l6), (7, .int l7), (9, .int l9)] [.int 1, .int s1] h 0 0 Q := by
  intro l2 l5 l6 l7 l9 s1 h y0 y1 y2 y3 y4  m95 m113 J Sm
  have es1 := jfull s1
  refine z_iadd0 rfl (fun v1 => ?_)
  have ev1 := jfull v1
  refine x_istore (lsx9 := [(8, .int v1), (0, .ref 125), (2, .int l2), (5, .int l5), (6, .int l6), (7, .int l7), (9, .int l9)]) rfl rfl rfl ?_
  refine z_iinc (x := l9) (lsx9 := fun v2 => [(9, .int v2), (8, .int v1), (0, .ref 125), (2, .int l2), (5, .int l5), (6, .int l6), (7, .int l7)]) rfl rfl rfl jko_1 (by omega) rfl (fun _ => rfl) (fun v2 ev2 => ?_)
  refine x_goto (tgt := 113) rfl rfl ?_
  exact jX.sub (jsb_c rfl (jsb_c rfl (jsb_c rfl (jsb_c rfl (jsb_c rfl (jsb_c rfl (jsb_c rfl jsb_n))))))) (k113 l2 l5 l6 l7 v1 v2 h (by omega) (jr_of rfl (by omega)) (jr_of rfl (by omega)) (jr_of rfl (by omega)) (jr_of rfl (by omega)) (jr_of rfl (by omega)) (by omega) J Sm)
set_option maxRecDepth 100000 in
set_option maxHeartbeats 4000000 in
theorem ct_X12_turn_r125_113 {Dy : jH → Prop} {h0 : jH} {Q : Option Value → jH → Prop} {R95 : Int} (hD : jDk Dy) (hQ : ∀ (v : Int32) hx9, jJ jSgM Dy hx9 → jSm fp_X12_turn_r125 h0 hx9 → Q (some (.int v)) hx9) (k95 : ∀ (l2 : Int32) (l5 : Int32) (l6 : Int32) (l7 : Int32) (h : jH), 40 - l7.toInt < R95 → 0 ≤ l2.toInt ∧ l2.toInt ≤ 399 → 0 ≤ l5.toInt ∧ l5.toInt ≤ 2147483647 → (-2147483648) ≤ l6.toInt ∧ l6.toInt ≤ 1000 → 0 ≤ l7.toInt ∧ l7.toInt ≤ 40 → jJ jSgM Dy h → jSm fp_X12_turn_r125 h0 h → jX m_X12_turn 12 0 0 95 [(0, .ref 125), (2, .int l2), (5, .int l5), (6, .int l6), (7, .int l7)] [] h 0 0 Q) : ∀ r : Nat, ∀ (l2 : Int32) (l5 : Int32) (l6 : Int32) (l7 : Int32) (l8 : Int32) (l9 : Int32) (h : jH), 400 - l9.toInt < (r : Int) → 0 ≤ l2.toInt ∧ l2.toInt ≤ 399 → 0 ≤ l5.toInt ∧ l5.toInt ≤ 2147483647 → (-2147483648) ≤ l6.toInt ∧ l6.toInt ≤ 1000 → 0 ≤ l7.toInt ∧ l7.toInt ≤ 39 → 0 ≤ l9.toInt ∧ l9.toInt ≤ 400 → 40 - l7.toInt ≤ R95 → jJ jSgM Dy h → jSm fp_X12_turn_r125 h0 h → jX m_X12_turn 12 0 0 113 [(0, .ref 125), (2, .int l2), (5, .int l5), (6, .int l6), (7, .int l7), (8, .int l8), (9, .int l9)] [] h 0 0 Q := by
  intro r
  induction r with
  | zero =>
    intro l2 l5 l6 l7 l8 l9 h hm y0 y1 y2 y3 y4  m95 J Sm
    exfalso
    have el8 := jfull l8
    omega
  | succ r ih =>
    intro l2 l5 l6 l7 l8 l9 h hm y0 y1 y2 y3 y4  m95 J Sm
    have el8 := jfull l8
    refine x_iload (x := l9) rfl rfl ?_
    refine x_iloadn (x := l2) rfl rfl ?_
    refine x_icgt (tgt := 147) rfl rfl (ti_gt rfl rfl ⟨fun c1 => ?_, fun c1 => ?_⟩)
    ·
      refine x_iload (x := l5) rfl rfl ?_
      refine x_iload (x := l8) rfl rfl ?_
      refine x_inst (N := m_X12_more) (As := [.int l5, .int l8]) (st := []) (dx9 := 11) (mc := 0) (ms := 0) (host := "") rfl t_X12_more ⟨Or.inl q_12_431, s_X12_more⟩ rfl (by decide) rfl rfl ⟨by decide, by decide⟩ (jC.of rfl k_X12_more rfl ?_)
      show jX m_X12_more 11 0 0 0 [(0, .int l5), (1, .int l8)] [] _ 0 0 _
      refine x_iloadn (x := l5) rfl rfl ?_
      refine x_iloadn (x := l8) rfl rfl ?_
      refine x_icle (tgt := 9) rfl rfl (ti_le rfl rfl ⟨fun c2 => ?_, fun c2 => ?_⟩)
      ·
        refine x_iloadn (x := l8) rfl rfl ?_
        refine x_iret rfl rfl ?_
        show jX m_X12_turn 12 0 0 154 [(0, .ref 125), (2, .int l2), (5, .int l5), (6, .int l6), (7, .int l7), (8, .int l8), (9, .int l9)] [.int l8] _ 0 0 _
        refine x_istore (lsx9 := [(5, .int l8), (0, .ref 125), (2, .int l2), (6, .int l6), (7, .int l7), (8, .int l8), (9, .int l9)]) rfl rfl rfl ?_
        refine x_iload (x := l6) rfl rfl ?_
        refine x_iload (x := l8) rfl rfl ?_
        refine x_inst (N := m_X12_less) (As := [.int l6, .int l8]) (st := []) (dx9 := 11) (mc := 0) (ms := 0) (host := "") rfl t_X12_less ⟨Or.inl q_12_428, s_X12_less⟩ rfl (by decide) rfl rfl ⟨by decide, by decide⟩ (jC.of rfl k_X12_less rfl ?_)
        show jX m_X12_less 11 0 0 0 [(0, .int l6), (1, .int l8)] [] _ 0 0 _
        refine x_iloadn (x := l6) rfl rfl ?_
        refine x_iloadn (x := l8) rfl rfl ?_
        refine x_icge (tgt := 9) rfl rfl (ti_ge rfl rfl ⟨fun c3 => ?_, fun c3 => ?_⟩)
        ·
          refine x_iloadn (x := l8) rfl rfl ?_
          refine x_iret rfl rfl ?_
          show jX m_X12_turn 12 0 0 163 [(5, .int l8), (0, .ref 125), (2, .int l2), (6, .int l6), (7, .int l7), (8, .int l8), (9, .int l9)] [.int l8] _ 0 0 _
          refine x_istore (lsx9 := [(6, .int l8), (5, .int l8), (0, .ref 125), (2, .int l2), (7, .int l7), (8, .int l8), (9, .int l9)]) rfl rfl rfl ?_
          refine z_iinc (x := l7) (lsx9 := fun v4 => [(7, .int v4), (6, .int l8), (5, .int l8), (0, .ref 125), (2, .int l2), (8, .int l8), (9, .int l9)]) rfl rfl rfl jko_1 (by omega) rfl (fun _ => rfl) (fun v4 ev4 => ?_)
          refine x_goto (tgt := 95) rfl rfl ?_
          exact jX.sub (jsb_c rfl (jsb_c rfl (jsb_c rfl (jsb_c rfl (jsb_c rfl jsb_n))))) (k95 l2 l8 l8 v4 h (by omega) (jr_of rfl (by omega)) (jr_of rfl (by omega)) (jr_of rfl (by omega)) (jr_of rfl (by omega)) J Sm)
        ·
          refine x_iloadn (x := l6) rfl rfl ?_
          refine x_goto (tgt := 10) rfl rfl ?_
          refine x_iret rfl rfl ?_
          show jX m_X12_turn 12 0 0 163 [(5, .int l8), (0, .ref 125), (2, .int l2), (6, .int l6), (7, .int l7), (8, .int l8), (9, .int l9)] [.int l6] _ 0 0 _
          refine x_istore (lsx9 := [(6, .int l6), (5, .int l8), (0, .ref 125), (2, .int l2), (7, .int l7), (8, .int l8), (9, .int l9)]) rfl rfl rfl ?_
          refine z_iinc (x := l7) (lsx9 := fun v5 => [(7, .int v5), (6, .int l6), (5, .int l8), (0, .ref 125), (2, .int l2), (8, .int l8), (9, .int l9)]) rfl rfl rfl jko_1 (by omega) rfl (fun _ => rfl) (fun v5 ev5 => ?_)
          refine x_goto (tgt := 95) rfl rfl ?_
          exact jX.sub (jsb_c rfl (jsb_c rfl (jsb_c rfl (jsb_c rfl (jsb_c rfl jsb_n))))) (k95 l2 l8 l6 v5 h (by omega) (jr_of rfl (by omega)) (jr_of rfl (by omega)) (jr_of rfl (by omega)) (jr_of rfl (by omega)) J Sm)
      ·
        refine x_iloadn (x := l5) rfl rfl ?_
        refine x_goto (tgt := 10) rfl rfl ?_
        refine x_iret rfl rfl ?_
        show jX m_X12_turn 12 0 0 154 [(0, .ref 125), (2, .int l2), (5, .int l5), (6, .int l6), (7, .int l7), (8, .int l8), (9, .int l9)] [.int l5] _ 0 0 _
        refine x_istore (lsx9 := [(5, .int l5), (0, .ref 125), (2, .int l2), (6, .int l6), (7, .int l7), (8, .int l8), (9, .int l9)]) rfl rfl rfl ?_
        refine x_iload (x := l6) rfl rfl ?_
        refine x_iload (x := l8) rfl rfl ?_
        refine x_inst (N := m_X12_less) (As := [.int l6, .int l8]) (st := []) (dx9 := 11) (mc := 0) (ms := 0) (host := "") rfl t_X12_less ⟨Or.inl q_12_428, s_X12_less⟩ rfl (by decide) rfl rfl ⟨by decide, by decide⟩ (jC.of rfl k_X12_less rfl ?_)
        show jX m_X12_less 11 0 0 0 [(0, .int l6), (1, .int l8)] [] _ 0 0 _
        refine x_iloadn (x := l6) rfl rfl ?_
        refine x_iloadn (x := l8) rfl rfl ?_
        refine x_icge (tgt := 9) rfl rfl (ti_ge rfl rfl ⟨fun c6 => ?_, fun c6 => ?_⟩)
        ·
          refine x_iloadn (x := l8) rfl rfl ?_
          refine x_iret rfl rfl ?_
          show jX m_X12_turn 12 0 0 163 [(5, .int l5), (0, .ref 125), (2, .int l2), (6, .int l6), (7, .int l7), (8, .int l8), (9, .int l9)] [.int l8] _ 0 0 _
          refine x_istore (lsx9 := [(6, .int l8), (5, .int l5), (0, .ref 125), (2, .int l2), (7, .int l7), (8, .int l8), (9, .int l9)]) rfl rfl rfl ?_
          refine z_iinc (x := l7) (lsx9 := fun v7 => [(7, .int v7), (6, .int l8), (5, .int l5), (0, .ref 125), (2, .int l2), (8, .int l8), (9, .int l9)]) rfl rfl rfl jko_1 (by omega) rfl (fun _ => rfl) (fun v7 ev7 => ?_)
          refine x_goto (tgt := 95) rfl rfl ?_
          exact jX.sub (jsb_c rfl (jsb_c rfl (jsb_c rfl (jsb_c rfl (jsb_c rfl jsb_n))))) (k95 l2 l5 l8 v7 h (by omega) (jr_of rfl (by omega)) (jr_of rfl (by omega)) (jr_of rfl (by omega)) (jr_of rfl (by omega)) J Sm)
        ·
          refine x_iloadn (x := l6) rfl rfl ?_
          refine x_goto (tgt := 10) rfl rfl ?_
          refine x_iret rfl rfl ?_
          show jX m_X12_turn 12 0 0 163 [(5, .int l5), (0, .ref 125), (2, .int l2), (6, .int l6), (7, .int l7), (8, .int l8), (9, .int l9)] [.int l6] _ 0 0 _
          refine x_istore (lsx9 := [(6, .int l6), (5, .int l5), (0, .ref 125), (2, .int l2), (7, .int l7), (8, .int l8), (9, .int l9)]) rfl rfl rfl ?_
          refine z_iinc (x := l7) (lsx9 := fun v8 => [(7, .int v8), (6, .int l6), (5, .int l5), (0, .ref 125), (2, .int l2), (8, .int l8), (9, .int l9)]) rfl rfl rfl jko_1 (by omega) rfl (fun _ => rfl) (fun v8 ev8 => ?_)
          refine x_goto (tgt := 95) rfl rfl ?_
          exact jX.sub (jsb_c rfl (jsb_c rfl (jsb_c rfl (jsb_c rfl (jsb_c rfl jsb_n))))) (k95 l2 l5 l6 v8 h (by omega) (jr_of rfl (by omega)) (jr_of rfl (by omega)) (jr_of rfl (by omega)) (jr_of rfl (by omega)) J Sm)
    ·
      refine x_iload (x := l8) rfl rfl ?_
      refine x_aloadn (x := 125) rfl rfl ?_
      refine z_getR (N := 92) (b := 168) 12 83 rfl f_12_162 rfl J rfl 16083 ⟨rfl, rfl⟩ rfl ?_
      refine x_iload (x := l9) rfl rfl ?_
      refine z_iald (N := 400) rfl J rfl sg_168_0_400_1_0_1 rfl (by omega) (fun v9 qv9 ev9 => ?_)
      refine x_iload (x := l7) rfl rfl ?_
      refine x_icne (tgt := 137) rfl rfl (ti_ne rfl rfl ⟨fun c10 => ?_, fun c10 => ?_⟩)
      ·
        refine x_iconst (v := 0) rfl ki_0 ?_
        exact jX.sub (jsb_c rfl (jsb_c rfl (jsb_c rfl (jsb_c rfl (jsb_c rfl (jsb_c rfl jsb_n)))))) (ct_X12_turn_r125_200138 hD hQ k95 ih l2 l5 l6 l7 l9 l8 h (jr_of rfl (by omega)) (jr_of rfl (by omega)) (jr_of rfl (by omega)) (jr_of rfl (by omega)) (jr_of rfl (by omega)) (by omega) (by omega) J Sm)
      ·
        refine x_iconst (v := 1) rfl ki_1 ?_
        refine x_goto (tgt := 138) rfl rfl ?_
        exact jX.sub (jsb_c rfl (jsb_c rfl (jsb_c rfl (jsb_c rfl (jsb_c rfl (jsb_c rfl jsb_n)))))) (ct_X12_turn_r125_300138 hD hQ k95 ih l2 l5 l6 l7 l9 l8 h (jr_of rfl (by omega)) (jr_of rfl (by omega)) (jr_of rfl (by omega)) (jr_of rfl (by omega)) (jr_of rfl (by omega)) (by omega) (by omega) J Sm)
set_option maxRecDepth 100000 in
set_option maxHeartbeats 4000000 in
theorem ct_X12_turn_r125_95 {Dy : jH → Prop} {h0 : jH} {Q : Option Value → jH → Prop} (hD : jDk Dy) (hQ : ∀ (v : Int32) hx9, jJ jSgM Dy hx9 → jSm fp_X12_turn_r125 h0 hx9 → Q (some (.int v)) hx9) : ∀ r : Nat, ∀ (l2 : Int32) (l5 : Int32) (l6 : Int32) (l7 : Int32) (h : jH), 40 - l7.toInt < (r : Int) → 0 ≤ l2.toInt ∧ l2.toInt ≤ 399 → 0 ≤ l5.toInt ∧ l5.toInt ≤ 2147483647 → (-2147483648) ≤ l6.toInt ∧ l6.toInt ≤ 1000 → 0 ≤ l7.toInt ∧ l7.toInt ≤ 40 → jJ jSgM Dy h → jSm fp_X12_turn_r125 h0 h → jX m_X12_turn 12 0 0 95 [(0, .ref 125), (2, .int l2), (5, .int l5), (6, .int l6), (7, .int l7)] [] h 0 0 Q := by
  intro r
  induction r with
  | zero =>
    intro l2 l5 l6 l7 h hm y0 y1 y2 y3   J Sm
    exfalso
    omega
  | succ r ih =>
    intro l2 l5 l6 l7 h hm y0 y1 y2 y3   J Sm
    refine x_iload (x := l7) rfl rfl ?_
    refine x_aloadn (x := 125) rfl rfl ?_
    refine z_getR (N := 92) (b := 126) 12 2 rfl f_12_8 rfl J rfl 16002 ⟨rfl, rfl⟩ rfl ?_
    refine x_bipush (v := 7) rfl kb_7 ?_
    refine z_iald (N := 50660) rfl J rfl sg_126_7_8_1_0_1 jk_7 (by omega) (fun v1 qv1 ev1 => ?_)
    refine x_icge (tgt := 171) rfl rfl (ti_ge rfl rfl ⟨fun c2 => ?_, fun c2 => ?_⟩)
    ·
      refine x_aloadn (x := 125) rfl rfl ?_
      refine z_getR (N := 92) (b := 126) 12 2 rfl f_12_8 rfl J rfl 16002 ⟨rfl, rfl⟩ rfl ?_
      refine x_bipush (v := 7) rfl kb_7 ?_
      refine z_ialdM (N := 50660) (v := v1) rfl J rfl jk_7 (by omega) qv1 ?_
      refine x_ifne (tgt := 185) rfl rfl (ti_ne rfl jk_0 ⟨fun c3 => ?_, fun c3 => ?_⟩)
      ·
        refine x_iload (x := l5) rfl rfl ?_
        refine x_iload (x := l6) rfl rfl ?_
        refine z_isub0 rfl (fun v4 => ?_)
        have ev4 := jfull v4
        exact jX.sub jsb_n (ct_X12_turn_r125_190 hD hQ  v4 h J Sm)
      ·
        refine x_iconst (v := 0) rfl ki_0 ?_
        refine x_goto (tgt := 190) rfl rfl ?_
        exact jX.sub jsb_n (ct_X12_turn_r125_200190 hD hQ  h J Sm)
    ·
      refine x_iconst (v := 0) rfl ki_0 ?_
      refine x_istore (lsx9 := [(8, .int 0), (0, .ref 125), (2, .int l2), (5, .int l5), (6, .int l6), (7, .int l7)]) rfl rfl rfl ?_
      refine x_iconst (v := 0) rfl ki_0 ?_
      refine x_istore (lsx9 := [(9, .int 0), (8, .int 0), (0, .ref 125), (2, .int l2), (5, .int l5), (6, .int l6), (7, .int l7)]) rfl rfl rfl ?_
      exact jX.sub (jsb_c rfl (jsb_c rfl (jsb_c rfl (jsb_c rfl (jsb_c rfl (jsb_c rfl (jsb_c rfl jsb_n))))))) (ct_X12_turn_r125_113 hD hQ ih 401 l2 l5 l6 l7 0 0 h (by have := jk_0; omega) (jr_of rfl (by omega)) (jr_of rfl (by omega)) (jr_of rfl (by omega)) (jr_of rfl (by omega)) (jr_of jk_0 (by omega)) (by omega) J Sm)
set_option maxRecDepth 100000 in
set_option maxHeartbeats 4000000 in
theorem ct_X12_turn_r125_83 {Dy : jH → Prop} {h0 : jH} {Q : Option Value → jH → Prop} (hD : jDk Dy) (hQ : ∀ (v : Int32) hx9, jJ jSgM Dy hx9 → jSm fp_X12_turn_r125 h0 hx9 → Q (some (.int v)) hx9) : ∀ (s0 : Int32) (h : jH), jJ jSgM Dy h → jSm fp_X12_turn_r125 h0 h → jX m_X12_turn 12 0 0 83 [] [.int s0] h 0 0 Q := by
  intro s0 h    J Sm
  have es0 := jfull s0
  refine x_iret rfl rfl ?_
  exact hQ _ _ J Sm
set_option maxRecDepth 100000 in
set_option maxHeartbeats 4000000 in
theorem sf_X12_turn_r125 {Dy : jH → Prop} {h : jH} {Q : Option Value → jH → Prop} {a1 : Int32} {a2 : Int32} {a3 : Int32} {a4 : Int32} (hD : jDk Dy) (J : jJ jSgM Dy h) (hQ : ∀ (v : Int32) hx9, jJ jSgM Dy hx9 → jSm fp_X12_turn_r125 h hx9 → Q (some (.int v)) hx9) : jC m_X12_turn 12 0 0 [.ref 125, .int a1, .int a2, .int a3, .int a4] h Q := by
  refine jC.of rfl k_X12_turn rfl ?_
  have Sm := jSm_rf fp_X12_turn_r125 h
  have ea1 := jfull a1
  have ea2 := jfull a2
  have ea3 := jfull a3
  have ea4 := jfull a4
  show jX m_X12_turn 12 0 0 0 [(0, .ref 125), (1, .int a1), (2, .int a2), (3, .int a3), (4, .int a4)] [] _ 0 0 _
  refine x_aloadn (x := 125) rfl rfl ?_
  refine x_iconst (v := 0) rfl ki_0 ?_
  refine z_putI (N := 92) (w := 0) 12 0 rfl f_12_180 rfl (jfin_no TX12 RX12 92 rfl rfl) hD J Sm rfl rfl jk_0 (pw_125_0 (by omega)) rfl (fun h w1 J Sm => ?_)
  refine x_iloadn (x := a1) rfl rfl ?_
  refine z_i2l rfl rfl (fun v2 ev2 => ?_)
  refine x_lconst (v := 0) rfl kl_0 ?_
  refine x_ldc2 (v := 3) rfl z_12_195 ?_
  refine x_inst (N := m_X12_in) (As := [.long v2, .long 0, .long 3]) (st := []) (dx9 := 1) (mc := 0) (ms := 0) (host := "") rfl t_X12_in ⟨Or.inl q_12_188, s_X12_in⟩ rfl (by decide) rfl rfl ⟨by decide, by decide⟩ (zc_X12_in rfl jkl_0 jkl_3 (fun v3 ev3 => ?_))
  show jX m_X12_turn 12 0 0 14 [(0, .ref 125), (1, .int a1), (2, .int a2), (3, .int a3), (4, .int a4)] [.int v3] _ 0 0 _
  refine x_ifeq (tgt := 44) rfl rfl (ti_eq rfl jk_0 ⟨fun c4 => ?_, fun c4 => ?_⟩)
  ·
    exact jX.sub jsb_n (ct_X12_turn_r125_44 hD hQ  h J Sm)
  ·
    refine x_iloadn (x := a2) rfl rfl ?_
    refine x_inst (N := m_X12_isYear) (As := [.int a2]) (st := []) (dx9 := 2) (mc := 0) (ms := 0) (host := "") rfl t_X12_isYear ⟨Or.inl q_12_817, s_X12_isYear⟩ rfl (by decide) rfl rfl ⟨by decide, by decide⟩ (zc_X12_isYear (d := 1) rfl (fun v5 ev5 => ?_))
    show jX m_X12_turn 12 0 0 21 [(0, .ref 125), (1, .int a1), (2, .int a2), (3, .int a3), (4, .int a4)] [.int v5] _ 0 0 _
    refine x_ifeq (tgt := 44) rfl rfl (ti_eq rfl jk_0 ⟨fun c6 => ?_, fun c6 => ?_⟩)
    ·
      exact jX.sub jsb_n (ct_X12_turn_r125_44 hD hQ  h J Sm)
    ·
      refine x_iloadn (x := a3) rfl rfl ?_
      refine x_inst (N := m_X12_isDay) (As := [.int a3]) (st := []) (dx9 := 2) (mc := 0) (ms := 0) (host := "") rfl t_X12_isDay ⟨Or.inl q_12_273, s_X12_isDay⟩ rfl (by decide) rfl rfl ⟨by decide, by decide⟩ (zc_X12_isDay (d := 1) rfl (fun v7 ev7 => ?_))
      show jX m_X12_turn 12 0 0 28 [(0, .ref 125), (1, .int a1), (2, .int a2), (3, .int a3), (4, .int a4)] [.int v7] _ 0 0 _
      refine x_ifeq (tgt := 44) rfl rfl (ti_eq rfl jk_0 ⟨fun c8 => ?_, fun c8 => ?_⟩)
      ·
        exact jX.sub jsb_n (ct_X12_turn_r125_44 hD hQ  h J Sm)
      ·
        refine x_iload (x := a4) rfl rfl ?_
        refine z_i2l rfl rfl (fun v9 ev9 => ?_)
        refine x_lconst (v := 0) rfl kl_0 ?_
        refine x_ldc2 (v := 2) rfl z_12_482 ?_
        refine x_inst (N := m_X12_in) (As := [.long v9, .long 0, .long 2]) (st := []) (dx9 := 1) (mc := 0) (ms := 0) (host := "") rfl t_X12_in ⟨Or.inl q_12_188, s_X12_in⟩ rfl (by decide) rfl rfl ⟨by decide, by decide⟩ (zc_X12_in rfl jkl_0 jkl_2 (fun v10 ev10 => ?_))
        show jX m_X12_turn 12 0 0 41 [(0, .ref 125), (1, .int a1), (2, .int a2), (3, .int a3), (4, .int a4)] [.int v10] _ 0 0 _
        refine x_ifne (tgt := 46) rfl rfl (ti_ne rfl jk_0 ⟨fun c11 => ?_, fun c11 => ?_⟩)
        ·
          refine x_aloadn (x := 125) rfl rfl ?_
          refine x_iloadn (x := a3) rfl rfl ?_
          refine x_inv (N := m_X12_find) (As := [.int a3]) (b := 125) (st := []) (dx9 := 8) (mc := 0) (ms := 0) (host := "") 12 rfl t_X12_find ⟨Or.inl q_12_393, i_X12_find.1, i_X12_find.2⟩ ⟨by decide, rfl⟩ (congrArg Prod.fst (J.1.1 125 (12, 92) rfl)) rfl (by decide) rfl rfl ⟨by decide, by decide⟩ (sf_X12_find_r125 (jr_of rfl (by omega)) hD J  (fun h J S12 => ?_))
          have Sm := jSm_tr rfl Sm S12
          show jX m_X12_turn 12 0 0 51 [(0, .ref 125), (1, .int a1), (2, .int a2), (3, .int a3), (4, .int a4)] [] _ 0 0 _
          refine x_aloadn (x := 125) rfl rfl ?_
          refine x_iloadn (x := a1) rfl rfl ?_
          refine x_iloadn (x := a2) rfl rfl ?_
          refine x_inv (N := m_X12_findTurns) (As := [.int a1, .int a2]) (b := 125) (st := []) (dx9 := 11) (mc := 0) (ms := 0) (host := "") 12 rfl t_X12_findTurns ⟨Or.inl q_12_838, i_X12_findTurns.1, i_X12_findTurns.2⟩ ⟨by decide, rfl⟩ (congrArg Prod.fst (J.1.1 125 (12, 92) rfl)) rfl (by decide) rfl rfl ⟨by decide, by decide⟩ (sf_X12_findTurns_r125 (jr_of rfl (by omega)) (jr_of rfl (by omega)) hD J  (fun h J S13 => ?_))
          have Sm := jSm_tr rfl Sm S13
          show jX m_X12_turn 12 0 0 57 [(0, .ref 125), (1, .int a1), (2, .int a2), (3, .int a3), (4, .int a4)] [] _ 0 0 _
          refine x_iload (x := a4) rfl rfl ?_
          refine x_iconst (v := 2) rfl ki_2 ?_
          refine x_icge (tgt := 84) rfl rfl (ti_ge rfl jk_2 ⟨fun c14 => ?_, fun c14 => ?_⟩)
          ·
            refine x_iconst (v := 0) rfl ki_0 ?_
            refine x_istore (lsx9 := [(5, .int 0), (0, .ref 125), (1, .int a1), (2, .int a2), (3, .int a3), (4, .int a4)]) rfl rfl rfl ?_
            refine x_sipush (v := 1000) rfl ks_1000 ?_
            refine x_istore (lsx9 := [(6, .int 1000), (5, .int 0), (0, .ref 125), (1, .int a1), (2, .int a2), (3, .int a3), (4, .int a4)]) rfl rfl rfl ?_
            refine x_iconst (v := 0) rfl ki_0 ?_
            refine x_istore (lsx9 := [(7, .int 0), (6, .int 1000), (5, .int 0), (0, .ref 125), (1, .int a1), (2, .int a2), (3, .int a3), (4, .int a4)]) rfl rfl rfl ?_
            exact jX.sub (jsb_c rfl (jsb_c rfl (jsb_c rfl (jsb_c rfl (jsb_c rfl jsb_n))))) (ct_X12_turn_r125_95 hD hQ  41 a2 0 1000 0 h (by have := jk_0; omega) (jr_of rfl (by omega)) (jr_of jk_0 (by omega)) (jr_of jk_1000 (by omega)) (jr_of jk_0 (by omega)) J Sm)
          ·
            refine x_iload (x := a4) rfl rfl ?_
            refine x_ifne (tgt := 77) rfl rfl (ti_ne rfl jk_0 ⟨fun c15 => ?_, fun c15 => ?_⟩)
            ·
              refine x_aloadn (x := 125) rfl rfl ?_
              refine z_getR (N := 92) (b := 169) 12 84 rfl f_12_165 rfl J rfl 16084 ⟨rfl, rfl⟩ rfl ?_
              refine x_iloadn (x := a2) rfl rfl ?_
              refine z_iald0 (N := 400) rfl J rfl rfl (by omega) (fun v16 qv16 => ?_)
              have ev16 := jfull v16
              exact jX.sub jsb_n (ct_X12_turn_r125_83 hD hQ  v16 h J Sm)
            ·
              refine x_aloadn (x := 125) rfl rfl ?_
              refine z_getR (N := 92) (b := 168) 12 83 rfl f_12_162 rfl J rfl 16083 ⟨rfl, rfl⟩ rfl ?_
              refine x_iloadn (x := a2) rfl rfl ?_
              refine z_iald (N := 400) rfl J rfl sg_168_0_400_1_0_1 rfl (by omega) (fun v17 qv17 ev17 => ?_)
              refine x_goto (tgt := 83) rfl rfl ?_
              exact jX.sub jsb_n (ct_X12_turn_r125_83 hD hQ  v17 h J Sm)
        ·
          exact jX.sub jsb_n (ct_X12_turn_r125_44 hD hQ  h J Sm)
def fp_X12_value_r125 : jFp := [(125, 0, 1), (125, 1, 2), (126, 8, 9), (126, 47260, 47660)]
set_option maxRecDepth 100000 in
set_option maxHeartbeats 4000000 in
theorem ct_X12_value_r125_32 {Dy : jH → Prop} {h0 : jH} {Q : Option Value → jH → Prop} (hD : jDk Dy) (hQ : ∀ (v : Int32) hx9, jJ jSgM Dy hx9 → jSm fp_X12_value_r125 h0 hx9 → Q (some (.int v)) hx9) : ∀ (h : jH), jJ jSgM Dy h → jSm fp_X12_value_r125 h0 h → jX m_X12_value 3 0 0 32 [(0, .ref 125)] [] h 0 0 Q := by
  intro  h    J Sm
  refine x_aloadn (x := 125) rfl rfl ?_
  refine x_iconst (v := (-1)) rfl ki_m1 ?_
  refine x_inv (N := m_X12_told) (As := [.int (-1)]) (b := 125) (st := []) (dx9 := 1) (mc := 0) (ms := 0) (host := "") 12 rfl t_X12_told ⟨Or.inl q_12_197, i_X12_told.1, i_X12_told.2⟩ ⟨by decide, rfl⟩ (congrArg Prod.fst (J.1.1 125 (12, 92) rfl)) rfl (by decide) rfl rfl ⟨by decide, by decide⟩ (sf_X12_told_r125  hD J  (fun v2 h J S1 => ?_))
  have ev2 := jfull v2
  have Sm := jSm_tr rfl Sm S1
  show jX m_X12_value 3 0 0 37 [(0, .ref 125)] [.int v2] _ 0 0 _
  refine x_iret rfl rfl ?_
  exact hQ _ _ J Sm
set_option maxRecDepth 100000 in
set_option maxHeartbeats 4000000 in
theorem sf_X12_value_r125 {Dy : jH → Prop} {h : jH} {Q : Option Value → jH → Prop} {a1 : Int32} {a2 : Int32} {a3 : Int32} {a4 : Int32} (hD : jDk Dy) (J : jJ jSgM Dy h) (hQ : ∀ (v : Int32) hx9, jJ jSgM Dy hx9 → jSm fp_X12_value_r125 h hx9 → Q (some (.int v)) hx9) : jC m_X12_value 3 0 0 [.ref 125, .int a1, .int a2, .int a3, .int a4] h Q := by
  refine jC.of rfl k_X12_value rfl ?_
  have Sm := jSm_rf fp_X12_value_r125 h
  have ea1 := jfull a1
  have ea2 := jfull a2
  have ea3 := jfull a3
  have ea4 := jfull a4
  show jX m_X12_value 3 0 0 0 [(0, .ref 125), (1, .int a1), (2, .int a2), (3, .int a3), (4, .int a4)] [] _ 0 0 _
  refine x_aloadn (x := 125) rfl rfl ?_
  refine x_iconst (v := 0) rfl ki_0 ?_
  refine z_putI (N := 92) (w := 0) 12 0 rfl f_12_180 rfl (jfin_no TX12 RX12 92 rfl rfl) hD J Sm rfl rfl jk_0 (pw_125_0 (by omega)) rfl (fun h w1 J Sm => ?_)
  refine x_iloadn (x := a2) rfl rfl ?_
  refine z_i2l rfl rfl (fun v2 ev2 => ?_)
  refine x_lconst (v := 0) rfl kl_0 ?_
  refine x_ldc2 (v := 10000) rfl z_12_809 ?_
  refine x_inst (N := m_X12_in) (As := [.long v2, .long 0, .long 10000]) (st := []) (dx9 := 1) (mc := 0) (ms := 0) (host := "") rfl t_X12_in ⟨Or.inl q_12_188, s_X12_in⟩ rfl (by decide) rfl rfl ⟨by decide, by decide⟩ (zc_X12_in rfl jkl_0 jkl_10000 (fun v3 ev3 => ?_))
  show jX m_X12_value 3 0 0 14 [(0, .ref 125), (1, .int a1), (2, .int a2), (3, .int a3), (4, .int a4)] [.int v3] _ 0 0 _
  refine x_ifeq (tgt := 32) rfl rfl (ti_eq rfl jk_0 ⟨fun c4 => ?_, fun c4 => ?_⟩)
  ·
    exact jX.sub (jsb_c rfl jsb_n) (ct_X12_value_r125_32 hD hQ  h J Sm)
  ·
    refine x_iloadn (x := a3) rfl rfl ?_
    refine x_inst (N := m_X12_isDay) (As := [.int a3]) (st := []) (dx9 := 2) (mc := 0) (ms := 0) (host := "") rfl t_X12_isDay ⟨Or.inl q_12_273, s_X12_isDay⟩ rfl (by decide) rfl rfl ⟨by decide, by decide⟩ (zc_X12_isDay (d := 1) rfl (fun v5 ev5 => ?_))
    show jX m_X12_value 3 0 0 21 [(0, .ref 125), (1, .int a1), (2, .int a2), (3, .int a3), (4, .int a4)] [.int v5] _ 0 0 _
    refine x_ifeq (tgt := 32) rfl rfl (ti_eq rfl jk_0 ⟨fun c6 => ?_, fun c6 => ?_⟩)
    ·
      exact jX.sub (jsb_c rfl jsb_n) (ct_X12_value_r125_32 hD hQ  h J Sm)
    ·
      refine x_iload (x := a4) rfl rfl ?_
      refine x_inst (N := m_X12_isDay) (As := [.int a4]) (st := []) (dx9 := 2) (mc := 0) (ms := 0) (host := "") rfl t_X12_isDay ⟨Or.inl q_12_273, s_X12_isDay⟩ rfl (by decide) rfl rfl ⟨by decide, by decide⟩ (zc_X12_isDay (d := 1) rfl (fun v7 ev7 => ?_))
      show jX m_X12_value 3 0 0 29 [(0, .ref 125), (1, .int a1), (2, .int a2), (3, .int a3), (4, .int a4)] [.int v7] _ 0 0 _
      refine x_ifne (tgt := 38) rfl rfl (ti_ne rfl jk_0 ⟨fun c8 => ?_, fun c8 => ?_⟩)
      ·
        refine x_aloadn (x := 125) rfl rfl ?_
        refine x_iloadn (x := a1) rfl rfl ?_
        refine x_inv (N := m_X12_isHolding) (As := [.int a1]) (b := 125) (st := []) (dx9 := 2) (mc := 0) (ms := 0) (host := "") 12 rfl t_X12_isHolding ⟨Or.inl q_12_811, i_X12_isHolding.1, i_X12_isHolding.2⟩ ⟨by decide, rfl⟩ (congrArg Prod.fst (J.1.1 125 (12, 92) rfl)) rfl (by decide) rfl rfl ⟨by decide, by decide⟩ (jC.of rfl k_X12_isHolding rfl ?_)
        show jX m_X12_isHolding 2 0 0 0 [(0, .ref 125), (1, .int a1)] [] _ 0 0 _
        refine x_iloadn (x := a1) rfl rfl ?_
        refine z_i2l rfl rfl (fun v9 ev9 => ?_)
        refine x_lconst (v := 0) rfl kl_0 ?_
        refine x_aloadn (x := 125) rfl rfl ?_
        refine z_getR (N := 92) (b := 126) 12 2 rfl f_12_8 rfl J rfl 16002 ⟨rfl, rfl⟩ rfl ?_
        refine x_bipush (v := 7) rfl kb_7 ?_
        refine z_iald (N := 50660) rfl J rfl sg_126_7_8_1_0_1 jk_7 (by omega) (fun v10 qv10 ev10 => ?_)
        refine z_i2l rfl rfl (fun v11 ev11 => ?_)
        refine x_lconst (v := 1) rfl kl_1 ?_
        refine z_lsub rfl rfl jkl_1 (by omega) (fun v12 ev12 => ?_)
        refine x_inst (N := m_X12_in) (As := [.long v9, .long 0, .long v12]) (st := []) (dx9 := 1) (mc := 0) (ms := 0) (host := "") rfl t_X12_in ⟨Or.inl q_12_188, s_X12_in⟩ rfl (by decide) rfl rfl ⟨by decide, by decide⟩ (zc_X12_in rfl jkl_0 rfl (fun v13 ev13 => ?_))
        show jX m_X12_isHolding 2 0 0 16 [(0, .ref 125), (1, .int a1)] [.int v13] _ 0 0 _
        refine x_zret rfl rfl (jz01 (by omega)) ?_
        show jX m_X12_value 3 0 0 43 [(0, .ref 125), (1, .int a1), (2, .int a2), (3, .int a3), (4, .int a4)] [.int v13] _ 0 0 _
        refine x_ifne (tgt := 53) rfl rfl (ti_ne rfl jk_0 ⟨fun c14 => ?_, fun c14 => ?_⟩)
        ·
          refine x_aloadn (x := 125) rfl rfl ?_
          refine x_iloadn (x := a1) rfl rfl ?_
          refine x_inv (N := m_X12_splitOf) (As := [.int a1]) (b := 125) (st := []) (dx9 := 1) (mc := 0) (ms := 0) (host := "") 12 rfl t_X12_splitOf ⟨Or.inl q_12_805, i_X12_splitOf.1, i_X12_splitOf.2⟩ ⟨by decide, rfl⟩ (congrArg Prod.fst (J.1.1 125 (12, 92) rfl)) rfl (by decide) rfl rfl ⟨by decide, by decide⟩ (sf_X12_splitOf_r125 (jr_of rfl (by omega)) hD J  (fun v16 h ev16 xv16 J S15 => ?_))
          have Sm := jSm_tr rfl Sm S15
          show jX m_X12_value 3 0 0 58 [(0, .ref 125), (1, .int a1), (2, .int a2), (3, .int a3), (4, .int a4)] [.int v16] _ 0 0 _
          refine x_iconst (v := (-1)) rfl ki_m1 ?_
          refine x_iceq (tgt := 69) rfl rfl (ti_eq rfl jk_m1 ⟨fun c17 => ?_, fun c17 => ?_⟩)
          ·
            refine x_aloadn (x := 125) rfl rfl ?_
            refine z_getR (N := 92) (b := 126) 12 2 rfl f_12_8 rfl J rfl 16002 ⟨rfl, rfl⟩ rfl ?_
            refine x_bipush (v := 8) rfl kb_8 ?_
            refine z_iald (N := 50660) rfl J rfl sg_126_8_9_1_0_1 jk_8 (by omega) (fun v18 qv18 ev18 => ?_)
            refine x_bipush (v := 100) rfl kb_100 ?_
            refine x_icne (tgt := 88) rfl rfl (ti_ne rfl jk_100 ⟨fun c19 => ?_, fun c19 => ?_⟩)
            ·
              refine x_aloadn (x := 125) rfl rfl ?_
              refine x_ldcw (v := 47260) rfl z_12_800 ?_
              refine x_iconst (v := 4) rfl ki_4 ?_
              refine x_aloadn (x := 125) rfl rfl ?_
              refine z_getR (N := 92) (b := 126) 12 2 rfl f_12_8 rfl J rfl 16002 ⟨rfl, rfl⟩ rfl ?_
              refine x_bipush (v := 8) rfl kb_8 ?_
              refine z_ialdM (N := 50660) (v := v18) rfl J rfl jk_8 (by omega) qv18 ?_
              refine z_imul rfl jk_4 rfl (by omega) (fun v20 ev20 => ?_)
              refine z_iadd rfl jk_47260 rfl (by omega) (fun v21 ev21 => ?_)
              refine x_iloadn (x := a1) rfl rfl ?_
              refine x_iloadn (x := a2) rfl rfl ?_
              refine x_iloadn (x := a3) rfl rfl ?_
              refine x_iload (x := a4) rfl rfl ?_
              refine x_inv (N := m_X12_addFour) (As := [.int v21, .int a1, .int a2, .int a3, .int a4]) (b := 125) (st := []) (dx9 := 2) (mc := 0) (ms := 0) (host := "") 12 rfl t_X12_addFour ⟨Or.inl q_12_814, i_X12_addFour.1, i_X12_addFour.2⟩ ⟨by decide, rfl⟩ (congrArg Prod.fst (J.1.1 125 (12, 92) rfl)) rfl (by decide) rfl rfl ⟨by decide, by decide⟩ (jC.of rfl k_X12_addFour rfl ?_)
              show jX m_X12_addFour 2 0 0 0 [(0, .ref 125), (1, .int v21), (2, .int a1), (3, .int a2), (4, .int a3), (5, .int a4)] [] _ 0 0 _
              refine x_aloadn (x := 125) rfl rfl ?_
              refine z_getR (N := 92) (b := 126) 12 2 rfl f_12_8 rfl J rfl 16002 ⟨rfl, rfl⟩ rfl ?_
              refine x_iloadn (x := v21) rfl rfl ?_
              refine x_iloadn (x := a1) rfl rfl ?_
              refine z_iast (N := 50660) (l := 47260) (u := 47660) (w := a1.toInt) rfl hD J Sm rfl rfl rfl (by omega) rfl (wr_126_47260 (by omega) (fun q1 q2 q3 q4 => by omega) (fun q1 q2 q3 q4 => by omega) (fun q1 q2 q3 q4 => by omega) (fun q1 q2 q3 q4 => by omega)) rfl (fun h w22 J Sm => ?_)
              refine x_aloadn (x := 125) rfl rfl ?_
              refine z_getR (N := 92) (b := 126) 12 2 rfl f_12_8 rfl J rfl 16002 ⟨rfl, rfl⟩ rfl ?_
              refine x_iloadn (x := v21) rfl rfl ?_
              refine x_iconst (v := 1) rfl ki_1 ?_
              refine z_iadd rfl rfl jk_1 (by omega) (fun v23 ev23 => ?_)
              refine x_iloadn (x := a2) rfl rfl ?_
              refine z_iast (N := 50660) (l := 47260) (u := 47660) (w := a2.toInt) rfl hD J Sm rfl rfl rfl (by omega) rfl (wr_126_47260 (by omega) (fun q1 q2 q3 q4 => by omega) (fun q1 q2 q3 q4 => by omega) (fun q1 q2 q3 q4 => by omega) (fun q1 q2 q3 q4 => by omega)) rfl (fun h w24 J Sm => ?_)
              refine x_aloadn (x := 125) rfl rfl ?_
              refine z_getR (N := 92) (b := 126) 12 2 rfl f_12_8 rfl J rfl 16002 ⟨rfl, rfl⟩ rfl ?_
              refine x_iloadn (x := v21) rfl rfl ?_
              refine x_iconst (v := 2) rfl ki_2 ?_
              refine z_iadd rfl rfl jk_2 (by omega) (fun v25 ev25 => ?_)
              refine x_iload (x := a3) rfl rfl ?_
              refine z_iast (N := 50660) (l := 47260) (u := 47660) (w := a3.toInt) rfl hD J Sm rfl rfl rfl (by omega) rfl (wr_126_47260 (by omega) (fun q1 q2 q3 q4 => by omega) (fun q1 q2 q3 q4 => by omega) (fun q1 q2 q3 q4 => by omega) (fun q1 q2 q3 q4 => by omega)) rfl (fun h w26 J Sm => ?_)
              refine x_aloadn (x := 125) rfl rfl ?_
              refine z_getR (N := 92) (b := 126) 12 2 rfl f_12_8 rfl J rfl 16002 ⟨rfl, rfl⟩ rfl ?_
              refine x_iloadn (x := v21) rfl rfl ?_
              refine x_iconst (v := 3) rfl ki_3 ?_
              refine z_iadd rfl rfl jk_3 (by omega) (fun v27 ev27 => ?_)
              refine x_iload (x := a4) rfl rfl ?_
              refine z_iast (N := 50660) (l := 47260) (u := 47660) (w := a4.toInt) rfl hD J Sm rfl rfl rfl (by omega) rfl (wr_126_47260 (by omega) (fun q1 q2 q3 q4 => by omega) (fun q1 q2 q3 q4 => by omega) (fun q1 q2 q3 q4 => by omega) (fun q1 q2 q3 q4 => by omega)) rfl (fun h w28 J Sm => ?_)
              refine x_vret rfl rfl ?_
              show jX m_X12_value 3 0 0 110 [(0, .ref 125), (1, .int a1), (2, .int a2), (3, .int a3), (4, .int a4)] [] _ 0 0 _
              refine x_aloadn (x := 125) rfl rfl ?_
              refine z_getR (N := 92) (b := 126) 12 2 rfl f_12_8 rfl J rfl 16002 ⟨rfl, rfl⟩ rfl ?_
              refine x_bipush (v := 8) rfl kb_8 ?_
              refine x_dup2 rfl rfl rfl ?_
              refine z_ialdM (N := 50660) (v := v18) rfl J rfl jk_8 (by omega) (jmo2 w28 rfl jk_8 (by omega) (jmo2 w26 rfl jk_8 (by omega) (jmo2 w24 rfl jk_8 (by omega) (jmo2 w22 rfl jk_8 (by omega) qv18)))) ?_
              refine x_iconst (v := 1) rfl ki_1 ?_
              refine z_iadd rfl rfl jk_1 (by omega) (fun v29 ev29 => ?_)
              refine z_iast (N := 50660) (l := 8) (u := 9) (w := v29.toInt) rfl hD J Sm rfl rfl jk_8 (by omega) rfl (wr_126_8 (by omega) (fun q1 q2 q3 q4 => by omega)) rfl (fun h w30 J Sm => ?_)
              refine x_aloadn (x := 125) rfl rfl ?_
              refine x_aloadn (x := 125) rfl rfl ?_
              refine z_getR (N := 92) (b := 126) 12 2 rfl f_12_8 rfl J rfl 16002 ⟨rfl, rfl⟩ rfl ?_
              refine x_bipush (v := 8) rfl kb_8 ?_
              refine z_ialdM (N := 50660) (v := v29) rfl J rfl jk_8 (by omega) (jmw w30) ?_
              refine x_inv (N := m_X12_told) (As := [.int v29]) (b := 125) (st := []) (dx9 := 1) (mc := 0) (ms := 0) (host := "") 12 rfl t_X12_told ⟨Or.inl q_12_197, i_X12_told.1, i_X12_told.2⟩ ⟨by decide, rfl⟩ (congrArg Prod.fst (J.1.1 125 (12, 92) rfl)) rfl (by decide) rfl rfl ⟨by decide, by decide⟩ (sf_X12_told_r125  hD J  (fun v32 h J S31 => ?_))
              have ev32 := jfull v32
              have Sm := jSm_tr rfl Sm S31
              show jX m_X12_value 3 0 0 132 [(0, .ref 125), (1, .int a1), (2, .int a2), (3, .int a3), (4, .int a4)] [.int v32] _ 0 0 _
              refine x_iret rfl rfl ?_
              exact hQ _ _ J Sm
            ·
              refine x_aloadn (x := 125) rfl rfl ?_
              refine x_bipush (v := (-5)) rfl kb_m5 ?_
              refine x_inv (N := m_X12_told) (As := [.int (-5)]) (b := 125) (st := []) (dx9 := 1) (mc := 0) (ms := 0) (host := "") 12 rfl t_X12_told ⟨Or.inl q_12_197, i_X12_told.1, i_X12_told.2⟩ ⟨by decide, rfl⟩ (congrArg Prod.fst (J.1.1 125 (12, 92) rfl)) rfl (by decide) rfl rfl ⟨by decide, by decide⟩ (sf_X12_told_r125  hD J  (fun v34 h J S33 => ?_))
              have ev34 := jfull v34
              have Sm := jSm_tr rfl Sm S33
              show jX m_X12_value 3 0 0 87 [(0, .ref 125), (1, .int a1), (2, .int a2), (3, .int a3), (4, .int a4)] [.int v34] _ 0 0 _
              refine x_iret rfl rfl ?_
              exact hQ _ _ J Sm
          ·
            refine x_aloadn (x := 125) rfl rfl ?_
            refine x_bipush (v := (-3)) rfl kb_m3 ?_
            refine x_inv (N := m_X12_told) (As := [.int (-3)]) (b := 125) (st := []) (dx9 := 1) (mc := 0) (ms := 0) (host := "") 12 rfl t_X12_told ⟨Or.inl q_12_197, i_X12_told.1, i_X12_told.2⟩ ⟨by decide, rfl⟩ (congrArg Prod.fst (J.1.1 125 (12, 92) rfl)) rfl (by decide) rfl rfl ⟨by decide, by decide⟩ (sf_X12_told_r125  hD J  (fun v36 h J S35 => ?_))
            have ev36 := jfull v36
            have Sm := jSm_tr rfl Sm S35
            show jX m_X12_value 3 0 0 68 [(0, .ref 125), (1, .int a1), (2, .int a2), (3, .int a3), (4, .int a4)] [.int v36] _ 0 0 _
            refine x_iret rfl rfl ?_
            exact hQ _ _ J Sm
        ·
          refine x_aloadn (x := 125) rfl rfl ?_
          refine x_bipush (v := (-2)) rfl kb_m2 ?_
          refine x_inv (N := m_X12_told) (As := [.int (-2)]) (b := 125) (st := []) (dx9 := 1) (mc := 0) (ms := 0) (host := "") 12 rfl t_X12_told ⟨Or.inl q_12_197, i_X12_told.1, i_X12_told.2⟩ ⟨by decide, rfl⟩ (congrArg Prod.fst (J.1.1 125 (12, 92) rfl)) rfl (by decide) rfl rfl ⟨by decide, by decide⟩ (sf_X12_told_r125  hD J  (fun v38 h J S37 => ?_))
          have ev38 := jfull v38
          have Sm := jSm_tr rfl Sm S37
          show jX m_X12_value 3 0 0 52 [(0, .ref 125), (1, .int a1), (2, .int a2), (3, .int a3), (4, .int a4)] [.int v38] _ 0 0 _
          refine x_iret rfl rfl ?_
          exact hQ _ _ J Sm
      ·
        exact jX.sub (jsb_c rfl jsb_n) (ct_X12_value_r125_32 hD hQ  h J Sm)
def fp_X12_waits_r125 : jFp := [(125, 0, 1), (125, 28, 29), (125, 31, 32), (125, 57, 58), (137, 0, 80), (138, 0, 2), (139, 0, 600), (140, 0, 200)]
set_option maxRecDepth 100000 in
set_option maxHeartbeats 4000000 in
theorem ct_X12_waits_r125_100057 {Dy : jH → Prop} {h0 : jH} {Q : Option Value → jH → Prop} (hD : jDk Dy) (hQ : ∀ (v : Int32) hx9, (-1) ≤ v.toInt ∧ v.toInt ≤ 200 → jJ jSgM Dy hx9 → jSm fp_X12_waits_r125 h0 hx9 → Q (some (.int v)) hx9) : ∀ (h : jH), jJ jSgM Dy h → jSm fp_X12_waits_r125 h0 h → jX m_X12_waits 9 0 0 57 [] [.int (-1)] h 0 0 Q := by
  intro  h    J Sm
  refine x_iret rfl rfl ?_
  exact hQ _ _ (jr_of jk_m1 (by omega)) J Sm
set_option maxRecDepth 100000 in
set_option maxHeartbeats 4000000 in
theorem ct_X12_waits_r125_57 {Dy : jH → Prop} {h0 : jH} {Q : Option Value → jH → Prop} (hD : jDk Dy) (hQ : ∀ (v : Int32) hx9, (-1) ≤ v.toInt ∧ v.toInt ≤ 200 → jJ jSgM Dy hx9 → jSm fp_X12_waits_r125 h0 hx9 → Q (some (.int v)) hx9) : ∀ (s0 : Int32) (h : jH), 0 ≤ s0.toInt ∧ s0.toInt ≤ 200 → jJ jSgM Dy h → jSm fp_X12_waits_r125 h0 h → jX m_X12_waits 9 0 0 57 [] [.int s0] h 0 0 Q := by
  intro s0 h y0   J Sm
  refine x_iret rfl rfl ?_
  exact hQ _ _ (jr_of rfl (by omega)) J Sm
set_option maxRecDepth 100000 in
set_option maxHeartbeats 4000000 in
theorem sf_X12_waits_r125 {Dy : jH → Prop} {h : jH} {Q : Option Value → jH → Prop} {a1 : Int32} {a2 : Int32} (hD : jDk Dy) (J : jJ jSgM Dy h) (hQ : ∀ (v : Int32) hx9, (-1) ≤ v.toInt ∧ v.toInt ≤ 200 → jJ jSgM Dy hx9 → jSm fp_X12_waits_r125 h hx9 → Q (some (.int v)) hx9) : jC m_X12_waits 9 0 0 [.ref 125, .int a1, .int a2] h Q := by
  refine jC.of rfl k_X12_waits rfl ?_
  have Sm := jSm_rf fp_X12_waits_r125 h
  have ea1 := jfull a1
  have ea2 := jfull a2
  show jX m_X12_waits 9 0 0 0 [(0, .ref 125), (1, .int a1), (2, .int a2)] [] _ 0 0 _
  refine x_aloadn (x := 125) rfl rfl ?_
  refine x_iconst (v := 0) rfl ki_0 ?_
  refine z_putI (N := 92) (w := 0) 12 0 rfl f_12_180 rfl (jfin_no TX12 RX12 92 rfl rfl) hD J Sm rfl rfl jk_0 (pw_125_0 (by omega)) rfl (fun h w1 J Sm => ?_)
  refine x_iloadn (x := a1) rfl rfl ?_
  refine x_inst (N := m_X12_isDay) (As := [.int a1]) (st := []) (dx9 := 2) (mc := 0) (ms := 0) (host := "") rfl t_X12_isDay ⟨Or.inl q_12_273, s_X12_isDay⟩ rfl (by decide) rfl rfl ⟨by decide, by decide⟩ (zc_X12_isDay (d := 1) rfl (fun v2 ev2 => ?_))
  show jX m_X12_waits 9 0 0 9 [(0, .ref 125), (1, .int a1), (2, .int a2)] [.int v2] _ 0 0 _
  refine x_ifne (tgt := 14) rfl rfl (ti_ne rfl jk_0 ⟨fun c3 => ?_, fun c3 => ?_⟩)
  ·
    refine x_aloadn (x := 125) rfl rfl ?_
    refine x_iloadn (x := a1) rfl rfl ?_
    refine x_inv (N := m_X12_find) (As := [.int a1]) (b := 125) (st := []) (dx9 := 8) (mc := 0) (ms := 0) (host := "") 12 rfl t_X12_find ⟨Or.inl q_12_393, i_X12_find.1, i_X12_find.2⟩ ⟨by decide, rfl⟩ (congrArg Prod.fst (J.1.1 125 (12, 92) rfl)) rfl (by decide) rfl rfl ⟨by decide, by decide⟩ (sf_X12_find_r125 (jr_of rfl (by omega)) hD J  (fun h J S4 => ?_))
    have Sm := jSm_tr rfl Sm S4
    show jX m_X12_waits 9 0 0 19 [(0, .ref 125), (1, .int a1), (2, .int a2)] [] _ 0 0 _
    refine x_iloadn (x := a2) rfl rfl ?_
    refine x_iconst (v := (-1)) rfl ki_m1 ?_
    refine x_icne (tgt := 31) rfl rfl (ti_ne rfl jk_m1 ⟨fun c5 => ?_, fun c5 => ?_⟩)
    ·
      refine x_iloadn (x := a2) rfl rfl ?_
      refine z_i2l rfl rfl (fun v6 ev6 => ?_)
      refine x_lconst (v := 0) rfl kl_0 ?_
      refine x_aloadn (x := 125) rfl rfl ?_
      refine z_getI (N := 92) 12 31 rfl f_12_380 rfl J rfl sg_125_31_32_1_0_1 (fun v7 qv7 ev7 => ?_)
      refine z_i2l rfl rfl (fun v8 ev8 => ?_)
      refine x_lconst (v := 1) rfl kl_1 ?_
      refine z_lsub rfl rfl jkl_1 (by omega) (fun v9 ev9 => ?_)
      refine x_inst (N := m_X12_in) (As := [.long v6, .long 0, .long v9]) (st := []) (dx9 := 1) (mc := 0) (ms := 0) (host := "") rfl t_X12_in ⟨Or.inl q_12_188, s_X12_in⟩ rfl (by decide) rfl rfl ⟨by decide, by decide⟩ (zc_X12_in rfl jkl_0 rfl (fun v10 ev10 => ?_))
      show jX m_X12_waits 9 0 0 44 [(0, .ref 125), (1, .int a1), (2, .int a2)] [.int v10] _ 0 0 _
      refine x_ifeq (tgt := 56) rfl rfl (ti_eq rfl jk_0 ⟨fun c11 => ?_, fun c11 => ?_⟩)
      ·
        refine x_iconst (v := (-1)) rfl ki_m1 ?_
        exact jX.sub jsb_n (ct_X12_waits_r125_100057 hD hQ  h J Sm)
      ·
        refine x_aloadn (x := 125) rfl rfl ?_
        refine z_getR (N := 92) (b := 140) 12 30 rfl f_12_75 rfl J rfl 16030 ⟨rfl, rfl⟩ rfl ?_
        refine x_iloadn (x := a2) rfl rfl ?_
        refine z_iald (N := 200) rfl J rfl sg_140_0_200_1_0_1 rfl (by omega) (fun v12 qv12 ev12 => ?_)
        refine x_goto (tgt := 57) rfl rfl ?_
        exact jX.sub jsb_n (ct_X12_waits_r125_57 hD hQ  v12 h (jr_of rfl (by omega)) J Sm)
    ·
      refine x_aloadn (x := 125) rfl rfl ?_
      refine z_getI (N := 92) 12 31 rfl f_12_380 rfl J rfl sg_125_31_32_1_0_1 (fun v13 qv13 ev13 => ?_)
      refine x_goto (tgt := 57) rfl rfl ?_
      exact jX.sub jsb_n (ct_X12_waits_r125_57 hD hQ  v13 h (jr_of rfl (by omega)) J Sm)
  ·
    refine x_iconst (v := (-1)) rfl ki_m1 ?_
    refine x_iret rfl rfl ?_
    exact hQ _ _ (jr_of jk_m1 (by omega)) J Sm
def fp_X12_wish_r125 : jFp := [(125, 0, 1), (125, 1, 2), (125, 36, 37), (141, 0, 9)]
set_option maxRecDepth 100000 in
set_option maxHeartbeats 4000000 in
theorem ct_X12_wish_r125_22 {Dy : jH → Prop} {h0 : jH} {Q : Option Value → jH → Prop} (hD : jDk Dy) (hQ : ∀ (v : Int32) hx9, jJ jSgM Dy hx9 → jSm fp_X12_wish_r125 h0 hx9 → Q (some (.int v)) hx9) : ∀ r : Nat, ∀ (l1 : Int32) (l2 : Int32) (h : jH), 9 - l2.toInt < (r : Int) → 0 ≤ l1.toInt ∧ l1.toInt ≤ 599 → 0 ≤ l2.toInt ∧ l2.toInt ≤ 9 → jJ jSgM Dy h → jSm fp_X12_wish_r125 h0 h → jX m_X12_wish 4 0 0 22 [(0, .ref 125), (1, .int l1), (2, .int l2)] [] h 0 0 Q := by
  intro r
  induction r with
  | zero =>
    intro l1 l2 h hm y0 y1   J Sm
    exfalso
    omega
  | succ r ih =>
    intro l1 l2 h hm y0 y1   J Sm
    refine x_iloadn (x := l2) rfl rfl ?_
    refine x_aloadn (x := 125) rfl rfl ?_
    refine z_getI (N := 92) 12 36 rfl f_12_204 rfl J rfl sg_125_36_37_1_0_1 (fun v1 qv1 ev1 => ?_)
    refine x_icge (tgt := 53) rfl rfl (ti_ge rfl rfl ⟨fun c2 => ?_, fun c2 => ?_⟩)
    ·
      refine x_aloadn (x := 125) rfl rfl ?_
      refine z_getM (N := 92) (v := v1) 12 36 rfl f_12_204 rfl J rfl qv1 ?_
      refine x_bipush (v := 9) rfl kb_9 ?_
      refine x_icne (tgt := 69) rfl rfl (ti_ne rfl jk_9 ⟨fun c3 => ?_, fun c3 => ?_⟩)
      ·
        refine x_aloadn (x := 125) rfl rfl ?_
        refine z_getR (N := 92) (b := 141) 12 37 rfl f_12_78 rfl J rfl 16037 ⟨rfl, rfl⟩ rfl ?_
        refine x_aloadn (x := 125) rfl rfl ?_
        refine z_getM (N := 92) (v := v1) 12 36 rfl f_12_204 rfl J rfl qv1 ?_
        refine x_iloadn (x := l1) rfl rfl ?_
        refine z_iast (N := 9) (l := 0) (u := 9) (w := l1.toInt) rfl hD J Sm rfl rfl rfl (by omega) rfl (wr_141 (fun q1 q2 q3 q4 => by omega)) rfl (fun h w4 J Sm => ?_)
        refine x_aloadn (x := 125) rfl rfl ?_
        refine x_dup rfl rfl ?_
        refine z_getM (N := 92) (v := v1) 12 36 rfl f_12_204 rfl J rfl (jmo w4 rfl qv1) ?_
        refine x_iconst (v := 1) rfl ki_1 ?_
        refine z_iadd rfl rfl jk_1 (by omega) (fun v5 ev5 => ?_)
        refine z_putI (N := 92) (w := v5.toInt) 12 36 rfl f_12_204 rfl (jfin_no TX12 RX12 92 rfl rfl) hD J Sm rfl rfl rfl (pw_125_36 (by omega)) rfl (fun h w6 J Sm => ?_)
        refine x_aloadn (x := 125) rfl rfl ?_
        refine x_aloadn (x := 125) rfl rfl ?_
        refine z_getM (N := 92) (v := v5) 12 36 rfl f_12_204 rfl J rfl (jmw w6) ?_
        refine x_inv (N := m_X12_told) (As := [.int v5]) (b := 125) (st := []) (dx9 := 1) (mc := 0) (ms := 0) (host := "") 12 rfl t_X12_told ⟨Or.inl q_12_197, i_X12_told.1, i_X12_told.2⟩ ⟨by decide, rfl⟩ (congrArg Prod.fst (J.1.1 125 (12, 92) rfl)) rfl (by decide) rfl rfl ⟨by decide, by decide⟩ (sf_X12_told_r125  hD J  (fun v8 h J S7 => ?_))
        have ev8 := jfull v8
        have Sm := jSm_tr rfl Sm S7
        show jX m_X12_wish 4 0 0 97 [(0, .ref 125), (1, .int l1), (2, .int l2)] [.int v8] _ 0 0 _
        refine x_iret rfl rfl ?_
        exact hQ _ _ J Sm
      ·
        refine x_aloadn (x := 125) rfl rfl ?_
        refine x_bipush (v := (-5)) rfl kb_m5 ?_
        refine x_inv (N := m_X12_told) (As := [.int (-5)]) (b := 125) (st := []) (dx9 := 1) (mc := 0) (ms := 0) (host := "") 12 rfl t_X12_told ⟨Or.inl q_12_197, i_X12_told.1, i_X12_told.2⟩ ⟨by decide, rfl⟩ (congrArg Prod.fst (J.1.1 125 (12, 92) rfl)) rfl (by decide) rfl rfl ⟨by decide, by decide⟩ (sf_X12_told_r125  hD J  (fun v10 h J S9 => ?_))
        have ev10 := jfull v10
        have Sm := jSm_tr rfl Sm S9
        show jX m_X12_wish 4 0 0 68 [(0, .ref 125), (1, .int l1), (2, .int l2)] [.int v10] _ 0 0 _
        refine x_iret rfl rfl ?_
        exact hQ _ _ J Sm
    ·
      refine x_aloadn (x := 125) rfl rfl ?_
      refine z_getR (N := 92) (b := 141) 12 37 rfl f_12_78 rfl J rfl 16037 ⟨rfl, rfl⟩ rfl ?_
      refine x_iloadn (x := l2) rfl rfl ?_
      refine z_iald (N := 9) rfl J rfl sg_141_0_9_1_0_1 rfl (by omega) (fun v11 qv11 ev11 => ?_)
      refine x_iloadn (x := l1) rfl rfl ?_
      refine x_icne (tgt := 47) rfl rfl (ti_ne rfl rfl ⟨fun c12 => ?_, fun c12 => ?_⟩)
      ·
        refine z_iinc (x := l2) (lsx9 := fun v13 => [(2, .int v13), (0, .ref 125), (1, .int l1)]) rfl rfl rfl jko_1 (by omega) rfl (fun _ => rfl) (fun v13 ev13 => ?_)
        refine x_goto (tgt := 22) rfl rfl ?_
        exact jX.sub (jsb_c rfl (jsb_c rfl (jsb_c rfl jsb_n))) (ih l1 v13 h (by omega) (jr_of rfl (by omega)) (jr_of rfl (by omega)) J Sm)
      ·
        refine x_aloadn (x := 125) rfl rfl ?_
        refine x_bipush (v := (-4)) rfl kb_m4 ?_
        refine x_inv (N := m_X12_told) (As := [.int (-4)]) (b := 125) (st := []) (dx9 := 1) (mc := 0) (ms := 0) (host := "") 12 rfl t_X12_told ⟨Or.inl q_12_197, i_X12_told.1, i_X12_told.2⟩ ⟨by decide, rfl⟩ (congrArg Prod.fst (J.1.1 125 (12, 92) rfl)) rfl (by decide) rfl rfl ⟨by decide, by decide⟩ (sf_X12_told_r125  hD J  (fun v15 h J S14 => ?_))
        have ev15 := jfull v15
        have Sm := jSm_tr rfl Sm S14
        show jX m_X12_wish 4 0 0 46 [(0, .ref 125), (1, .int l1), (2, .int l2)] [.int v15] _ 0 0 _
        refine x_iret rfl rfl ?_
        exact hQ _ _ J Sm
set_option maxRecDepth 100000 in
set_option maxHeartbeats 4000000 in
theorem sf_X12_wish_r125 {Dy : jH → Prop} {h : jH} {Q : Option Value → jH → Prop} {a1 : Int32} (hD : jDk Dy) (J : jJ jSgM Dy h) (hQ : ∀ (v : Int32) hx9, jJ jSgM Dy hx9 → jSm fp_X12_wish_r125 h hx9 → Q (some (.int v)) hx9) : jC m_X12_wish 4 0 0 [.ref 125, .int a1] h Q := by
  refine jC.of rfl k_X12_wish rfl ?_
  have Sm := jSm_rf fp_X12_wish_r125 h
  have ea1 := jfull a1
  show jX m_X12_wish 4 0 0 0 [(0, .ref 125), (1, .int a1)] [] _ 0 0 _
  refine x_aloadn (x := 125) rfl rfl ?_
  refine x_iconst (v := 0) rfl ki_0 ?_
  refine z_putI (N := 92) (w := 0) 12 0 rfl f_12_180 rfl (jfin_no TX12 RX12 92 rfl rfl) hD J Sm rfl rfl jk_0 (pw_125_0 (by omega)) rfl (fun h w1 J Sm => ?_)
  refine x_aloadn (x := 125) rfl rfl ?_
  refine x_iloadn (x := a1) rfl rfl ?_
  refine x_inv (N := m_X12_isMention) (As := [.int a1]) (b := 125) (st := []) (dx9 := 3) (mc := 0) (ms := 0) (host := "") 12 rfl t_X12_isMention ⟨Or.inl q_12_322, i_X12_isMention.1, i_X12_isMention.2⟩ ⟨by decide, rfl⟩ (congrArg Prod.fst (J.1.1 125 (12, 92) rfl)) rfl (by decide) rfl rfl ⟨by decide, by decide⟩ (jC.of rfl k_X12_isMention rfl ?_)
  show jX m_X12_isMention 3 0 0 0 [(0, .ref 125), (1, .int a1)] [] _ 0 0 _
  refine x_iloadn (x := a1) rfl rfl ?_
  refine x_iflt (tgt := 34) rfl rfl (ti_lt rfl jk_0 ⟨fun c2 => ?_, fun c2 => ?_⟩)
  ·
    refine x_iconst (v := 0) rfl ki_0 ?_
    refine x_zret rfl rfl (by decide) ?_
    show jX m_X12_wish 4 0 0 10 [(0, .ref 125), (1, .int a1)] [.int 0] _ 0 0 _
    refine x_ifne (tgt := 20) rfl rfl (ti_ne jk_0 jk_0 (bn_f (by omega) ?_))
    refine x_aloadn (x := 125) rfl rfl ?_
    refine x_bipush (v := (-2)) rfl kb_m2 ?_
    refine x_inv (N := m_X12_told) (As := [.int (-2)]) (b := 125) (st := []) (dx9 := 1) (mc := 0) (ms := 0) (host := "") 12 rfl t_X12_told ⟨Or.inl q_12_197, i_X12_told.1, i_X12_told.2⟩ ⟨by decide, rfl⟩ (congrArg Prod.fst (J.1.1 125 (12, 92) rfl)) rfl (by decide) rfl rfl ⟨by decide, by decide⟩ (sf_X12_told_r125  hD J  (fun v4 h J S3 => ?_))
    have ev4 := jfull v4
    have Sm := jSm_tr rfl Sm S3
    show jX m_X12_wish 4 0 0 19 [(0, .ref 125), (1, .int a1)] [.int v4] _ 0 0 _
    refine x_iret rfl rfl ?_
    exact hQ _ _ J Sm
  ·
    refine x_aloadn (x := 125) rfl rfl ?_
    refine x_iloadn (x := a1) rfl rfl ?_
    refine x_iconst (v := 3) rfl ki_3 ?_
    refine z_idiv rfl rfl jk_3 (by omega) (by omega) (fun v5 ev5 => ?_)
    refine x_inv (N := m_X12_isLine) (As := [.int v5]) (b := 125) (st := []) (dx9 := 2) (mc := 0) (ms := 0) (host := "") 12 rfl t_X12_isLine ⟨Or.inl q_12_293, i_X12_isLine.1, i_X12_isLine.2⟩ ⟨by decide, rfl⟩ (congrArg Prod.fst (J.1.1 125 (12, 92) rfl)) rfl (by decide) rfl rfl ⟨by decide, by decide⟩ (jC.of rfl k_X12_isLine rfl ?_)
    show jX m_X12_isLine 2 0 0 0 [(0, .ref 125), (1, .int v5)] [] _ 0 0 _
    refine x_iloadn (x := v5) rfl rfl ?_
    refine z_i2l rfl rfl (fun v6 ev6 => ?_)
    refine x_lconst (v := 0) rfl kl_0 ?_
    refine x_aloadn (x := 125) rfl rfl ?_
    refine z_getR (N := 92) (b := 126) 12 2 rfl f_12_8 rfl J rfl 16002 ⟨rfl, rfl⟩ rfl ?_
    refine x_iconst (v := 0) rfl ki_0 ?_
    refine z_iald (N := 50660) rfl J rfl sg_126_0_1_1_0_1 jk_0 (by omega) (fun v7 qv7 ev7 => ?_)
    refine z_i2l rfl rfl (fun v8 ev8 => ?_)
    refine x_lconst (v := 1) rfl kl_1 ?_
    refine z_lsub rfl rfl jkl_1 (by omega) (fun v9 ev9 => ?_)
    refine x_inst (N := m_X12_in) (As := [.long v6, .long 0, .long v9]) (st := []) (dx9 := 1) (mc := 0) (ms := 0) (host := "") rfl t_X12_in ⟨Or.inl q_12_188, s_X12_in⟩ rfl (by decide) rfl rfl ⟨by decide, by decide⟩ (zc_X12_in rfl jkl_0 rfl (fun v10 ev10 => ?_))
    show jX m_X12_isLine 2 0 0 15 [(0, .ref 125), (1, .int v5)] [.int v10] _ 0 0 _
    refine x_zret rfl rfl (jz01 (by omega)) ?_
    show jX m_X12_isMention 3 0 0 11 [(0, .ref 125), (1, .int a1)] [.int v10] _ 0 0 _
    refine x_ifeq (tgt := 34) rfl rfl (ti_eq rfl jk_0 ⟨fun c11 => ?_, fun c11 => ?_⟩)
    ·
      refine x_iconst (v := 0) rfl ki_0 ?_
      refine x_zret rfl rfl (by decide) ?_
      show jX m_X12_wish 4 0 0 10 [(0, .ref 125), (1, .int a1)] [.int 0] _ 0 0 _
      refine x_ifne (tgt := 20) rfl rfl (ti_ne jk_0 jk_0 (bn_f (by omega) ?_))
      refine x_aloadn (x := 125) rfl rfl ?_
      refine x_bipush (v := (-2)) rfl kb_m2 ?_
      refine x_inv (N := m_X12_told) (As := [.int (-2)]) (b := 125) (st := []) (dx9 := 1) (mc := 0) (ms := 0) (host := "") 12 rfl t_X12_told ⟨Or.inl q_12_197, i_X12_told.1, i_X12_told.2⟩ ⟨by decide, rfl⟩ (congrArg Prod.fst (J.1.1 125 (12, 92) rfl)) rfl (by decide) rfl rfl ⟨by decide, by decide⟩ (sf_X12_told_r125  hD J  (fun v13 h J S12 => ?_))
      have ev13 := jfull v13
      have Sm := jSm_tr rfl Sm S12
      show jX m_X12_wish 4 0 0 19 [(0, .ref 125), (1, .int a1)] [.int v13] _ 0 0 _
      refine x_iret rfl rfl ?_
      exact hQ _ _ J Sm
    ·
      refine x_iloadn (x := a1) rfl rfl ?_
      refine x_iconst (v := 3) rfl ki_3 ?_
      refine z_irem rfl rfl jk_3 (by omega) (by omega) (fun v14 ev14 => ?_)
      refine x_aloadn (x := 125) rfl rfl ?_
      refine x_iloadn (x := a1) rfl rfl ?_
      refine x_iconst (v := 3) rfl ki_3 ?_
      refine z_idiv rfl rfl jk_3 (by omega) (by omega) (fun v15 ev15 => ?_)
      refine x_inv (N := m_X12_bookOf) (As := [.int v15]) (b := 125) (st := [.int v14]) (dx9 := 2) (mc := 0) (ms := 0) (host := "") 12 rfl t_X12_bookOf ⟨Or.inl q_12_299, i_X12_bookOf.1, i_X12_bookOf.2⟩ ⟨by decide, rfl⟩ (congrArg Prod.fst (J.1.1 125 (12, 92) rfl)) rfl (by decide) rfl rfl ⟨by decide, by decide⟩ (jC.of rfl k_X12_bookOf rfl ?_)
      show jX m_X12_bookOf 2 0 0 0 [(0, .ref 125), (1, .int v15)] [] _ 0 0 _
      refine x_aloadn (x := 125) rfl rfl ?_
      refine z_getR (N := 92) (b := 126) 12 2 rfl f_12_8 rfl J rfl 16002 ⟨rfl, rfl⟩ rfl ?_
      refine x_aloadn (x := 125) rfl rfl ?_
      refine x_iloadn (x := v15) rfl rfl ?_
      refine x_inv (N := m_X12_at) (As := [.int v15]) (b := 125) (st := [.ref 126]) (dx9 := 1) (mc := 0) (ms := 0) (host := "") 12 rfl t_X12_at ⟨Or.inl q_12_254, i_X12_at.1, i_X12_at.2⟩ ⟨by decide, rfl⟩ (congrArg Prod.fst (J.1.1 125 (12, 92) rfl)) rfl (by decide) rfl rfl ⟨by decide, by decide⟩ (jC.of rfl k_X12_at rfl ?_)
      show jX m_X12_at 1 0 0 0 [(0, .ref 125), (1, .int v15)] [] _ 0 0 _
      refine x_bipush (v := 20) rfl kb_20 ?_
      refine x_bipush (v := 90) rfl kb_90 ?_
      refine x_iloadn (x := v15) rfl rfl ?_
      refine z_imul rfl jk_90 rfl (by omega) (fun v16 ev16 => ?_)
      refine z_iadd rfl jk_20 rfl (by omega) (fun v17 ev17 => ?_)
      refine x_iret rfl rfl ?_
      show jX m_X12_bookOf 2 0 0 9 [(0, .ref 125), (1, .int v15)] [.int v17, .ref 126] _ 0 0 _
      refine z_iald (N := 50660) rfl J rfl sg_126_20_18020_90_0_1 rfl (by omega) (fun v18 qv18 ev18 => ?_)
      refine x_iret rfl rfl ?_
      show jX m_X12_isMention 3 0 0 24 [(0, .ref 125), (1, .int a1)] [.int v18, .int v14] _ 0 0 _
      refine x_inst (N := m_X12_rolesOf) (As := [.int v18]) (st := [.int v14]) (dx9 := 2) (mc := 0) (ms := 0) (host := "") rfl t_X12_rolesOf ⟨Or.inl q_12_286, s_X12_rolesOf⟩ rfl (by decide) rfl rfl ⟨by decide, by decide⟩ (jC.of rfl k_X12_rolesOf rfl ?_)
      show jX m_X12_rolesOf 2 0 0 0 [(0, .int v18)] [] _ 0 0 _
      refine x_iloadn (x := v18) rfl rfl ?_
      refine x_ifne (tgt := 8) rfl rfl (ti_ne rfl jk_0 ⟨fun c19 => ?_, fun c19 => ?_⟩)
      ·
        refine x_iloadn (x := v18) rfl rfl ?_
        refine x_iconst (v := 1) rfl ki_1 ?_
        refine x_icne (tgt := 17) rfl rfl (ti_ne rfl jk_1 ⟨fun c20 => ?_, fun c20 => ?_⟩)
        ·
          refine x_iconst (v := 1) rfl ki_1 ?_
          refine x_iret rfl rfl ?_
          show jX m_X12_isMention 3 0 0 27 [(0, .ref 125), (1, .int a1)] [.int 1, .int v14] _ 0 0 _
          refine x_icge (tgt := 34) rfl rfl (ti_ge rfl jk_1 ⟨fun c21 => ?_, fun c21 => ?_⟩)
          ·
            refine x_iconst (v := 0) rfl ki_0 ?_
            refine x_zret rfl rfl (by decide) ?_
            show jX m_X12_wish 4 0 0 10 [(0, .ref 125), (1, .int a1)] [.int 0] _ 0 0 _
            refine x_ifne (tgt := 20) rfl rfl (ti_ne jk_0 jk_0 (bn_f (by omega) ?_))
            refine x_aloadn (x := 125) rfl rfl ?_
            refine x_bipush (v := (-2)) rfl kb_m2 ?_
            refine x_inv (N := m_X12_told) (As := [.int (-2)]) (b := 125) (st := []) (dx9 := 1) (mc := 0) (ms := 0) (host := "") 12 rfl t_X12_told ⟨Or.inl q_12_197, i_X12_told.1, i_X12_told.2⟩ ⟨by decide, rfl⟩ (congrArg Prod.fst (J.1.1 125 (12, 92) rfl)) rfl (by decide) rfl rfl ⟨by decide, by decide⟩ (sf_X12_told_r125  hD J  (fun v23 h J S22 => ?_))
            have ev23 := jfull v23
            have Sm := jSm_tr rfl Sm S22
            show jX m_X12_wish 4 0 0 19 [(0, .ref 125), (1, .int a1)] [.int v23] _ 0 0 _
            refine x_iret rfl rfl ?_
            exact hQ _ _ J Sm
          ·
            refine x_iconst (v := 1) rfl ki_1 ?_
            refine x_goto (tgt := 35) rfl rfl ?_
            refine x_zret rfl rfl (by decide) ?_
            show jX m_X12_wish 4 0 0 10 [(0, .ref 125), (1, .int a1)] [.int 1] _ 0 0 _
            refine x_ifne (tgt := 20) rfl rfl (ti_ne jk_1 jk_0 (bn_t (by omega) ?_))
            refine x_iconst (v := 0) rfl ki_0 ?_
            refine x_istoren (lsx9 := [(2, .int 0), (0, .ref 125), (1, .int a1)]) rfl rfl rfl ?_
            exact jX.sub (jsb_c rfl (jsb_c rfl (jsb_c rfl jsb_n))) (ct_X12_wish_r125_22 hD hQ  10 a1 0 h (by have := jk_0; omega) (jr_of rfl (by omega)) (jr_of jk_0 (by omega)) J Sm)
        ·
          refine x_iconst (v := 2) rfl ki_2 ?_
          refine x_goto (tgt := 18) rfl rfl ?_
          refine x_iret rfl rfl ?_
          show jX m_X12_isMention 3 0 0 27 [(0, .ref 125), (1, .int a1)] [.int 2, .int v14] _ 0 0 _
          refine x_icge (tgt := 34) rfl rfl (ti_ge rfl jk_2 ⟨fun c24 => ?_, fun c24 => ?_⟩)
          ·
            refine x_iconst (v := 0) rfl ki_0 ?_
            refine x_zret rfl rfl (by decide) ?_
            show jX m_X12_wish 4 0 0 10 [(0, .ref 125), (1, .int a1)] [.int 0] _ 0 0 _
            refine x_ifne (tgt := 20) rfl rfl (ti_ne jk_0 jk_0 (bn_f (by omega) ?_))
            refine x_aloadn (x := 125) rfl rfl ?_
            refine x_bipush (v := (-2)) rfl kb_m2 ?_
            refine x_inv (N := m_X12_told) (As := [.int (-2)]) (b := 125) (st := []) (dx9 := 1) (mc := 0) (ms := 0) (host := "") 12 rfl t_X12_told ⟨Or.inl q_12_197, i_X12_told.1, i_X12_told.2⟩ ⟨by decide, rfl⟩ (congrArg Prod.fst (J.1.1 125 (12, 92) rfl)) rfl (by decide) rfl rfl ⟨by decide, by decide⟩ (sf_X12_told_r125  hD J  (fun v26 h J S25 => ?_))
            have ev26 := jfull v26
            have Sm := jSm_tr rfl Sm S25
            show jX m_X12_wish 4 0 0 19 [(0, .ref 125), (1, .int a1)] [.int v26] _ 0 0 _
            refine x_iret rfl rfl ?_
            exact hQ _ _ J Sm
          ·
            refine x_iconst (v := 1) rfl ki_1 ?_
            refine x_goto (tgt := 35) rfl rfl ?_
            refine x_zret rfl rfl (by decide) ?_
            show jX m_X12_wish 4 0 0 10 [(0, .ref 125), (1, .int a1)] [.int 1] _ 0 0 _
            refine x_ifne (tgt := 20) rfl rfl (ti_ne jk_1 jk_0 (bn_t (by omega) ?_))
            refine x_iconst (v := 0) rfl ki_0 ?_
            refine x_istoren (lsx9 := [(2, .int 0), (0, .ref 125), (1, .int a1)]) rfl rfl rfl ?_
            exact jX.sub (jsb_c rfl (jsb_c rfl (jsb_c rfl jsb_n))) (ct_X12_wish_r125_22 hD hQ  10 a1 0 h (by have := jk_0; omega) (jr_of rfl (by omega)) (jr_of jk_0 (by omega)) J Sm)
      ·
        refine x_iconst (v := 3) rfl ki_3 ?_
        refine x_goto (tgt := 18) rfl rfl ?_
        refine x_iret rfl rfl ?_
        show jX m_X12_isMention 3 0 0 27 [(0, .ref 125), (1, .int a1)] [.int 3, .int v14] _ 0 0 _
        refine x_icge (tgt := 34) rfl rfl (ti_ge rfl jk_3 (br_f (by omega) ?_))
        refine x_iconst (v := 1) rfl ki_1 ?_
        refine x_goto (tgt := 35) rfl rfl ?_
        refine x_zret rfl rfl (by decide) ?_
        show jX m_X12_wish 4 0 0 10 [(0, .ref 125), (1, .int a1)] [.int 1] _ 0 0 _
        refine x_ifne (tgt := 20) rfl rfl (ti_ne jk_1 jk_0 (bn_t (by omega) ?_))
        refine x_iconst (v := 0) rfl ki_0 ?_
        refine x_istoren (lsx9 := [(2, .int 0), (0, .ref 125), (1, .int a1)]) rfl rfl rfl ?_
        exact jX.sub (jsb_c rfl (jsb_c rfl (jsb_c rfl jsb_n))) (ct_X12_wish_r125_22 hD hQ  10 a1 0 h (by have := jk_0; omega) (jr_of rfl (by omega)) (jr_of jk_0 (by omega)) J Sm)
def fp_X12_worth_r125 : jFp := [(125, 0, 1), (137, 0, 80), (138, 0, 2)]
set_option maxRecDepth 100000 in
set_option maxHeartbeats 4000000 in
theorem ct_X12_worth_r125_100040 {Dy : jH → Prop} {h0 : jH} {Q : Option Value → jH → Prop} (hD : jDk Dy) (hQ : ∀ (v : Int32) hx9, (-1) ≤ v.toInt ∧ v.toInt ≤ 400 → jJ jSgM Dy hx9 → jSm fp_X12_worth_r125 h0 hx9 → Q (some (.int v)) hx9) : ∀ (h : jH), jJ jSgM Dy h → jSm fp_X12_worth_r125 h0 h → jX m_X12_worth 9 0 0 40 [] [.int (-1)] h 0 0 Q := by
  intro  h    J Sm
  refine x_iret rfl rfl ?_
  exact hQ _ _ (jr_of jk_m1 (by omega)) J Sm
set_option maxRecDepth 100000 in
set_option maxHeartbeats 4000000 in
theorem ct_X12_worth_r125_40 {Dy : jH → Prop} {h0 : jH} {Q : Option Value → jH → Prop} (hD : jDk Dy) (hQ : ∀ (v : Int32) hx9, (-1) ≤ v.toInt ∧ v.toInt ≤ 400 → jJ jSgM Dy hx9 → jSm fp_X12_worth_r125 h0 hx9 → Q (some (.int v)) hx9) : ∀ (s0 : Int32) (h : jH), 0 ≤ s0.toInt ∧ s0.toInt ≤ 400 → jJ jSgM Dy h → jSm fp_X12_worth_r125 h0 h → jX m_X12_worth 9 0 0 40 [] [.int s0] h 0 0 Q := by
  intro s0 h y0   J Sm
  refine x_iret rfl rfl ?_
  exact hQ _ _ (jr_of rfl (by omega)) J Sm
set_option maxRecDepth 100000 in
set_option maxHeartbeats 4000000 in
theorem ct_X12_worth_r125_39 {Dy : jH → Prop} {h0 : jH} {Q : Option Value → jH → Prop} (hD : jDk Dy) (hQ : ∀ (v : Int32) hx9, (-1) ≤ v.toInt ∧ v.toInt ≤ 400 → jJ jSgM Dy hx9 → jSm fp_X12_worth_r125 h0 hx9 → Q (some (.int v)) hx9) : ∀ (h : jH), jJ jSgM Dy h → jSm fp_X12_worth_r125 h0 h → jX m_X12_worth 9 0 0 39 [] [] h 0 0 Q := by
  intro  h    J Sm
  refine x_iconst (v := (-1)) rfl ki_m1 ?_
  exact jX.sub jsb_n (ct_X12_worth_r125_100040 hD hQ  h J Sm)
set_option maxRecDepth 100000 in
set_option maxHeartbeats 4000000 in
theorem sf_X12_worth_r125 {Dy : jH → Prop} {h : jH} {Q : Option Value → jH → Prop} {a1 : Int32} {a2 : Int32} (hD : jDk Dy) (J : jJ jSgM Dy h) (hQ : ∀ (v : Int32) hx9, (-1) ≤ v.toInt ∧ v.toInt ≤ 400 → jJ jSgM Dy hx9 → jSm fp_X12_worth_r125 h hx9 → Q (some (.int v)) hx9) : jC m_X12_worth 9 0 0 [.ref 125, .int a1, .int a2] h Q := by
  refine jC.of rfl k_X12_worth rfl ?_
  have Sm := jSm_rf fp_X12_worth_r125 h
  have ea1 := jfull a1
  have ea2 := jfull a2
  show jX m_X12_worth 9 0 0 0 [(0, .ref 125), (1, .int a1), (2, .int a2)] [] _ 0 0 _
  refine x_aloadn (x := 125) rfl rfl ?_
  refine x_iconst (v := 0) rfl ki_0 ?_
  refine z_putI (N := 92) (w := 0) 12 0 rfl f_12_180 rfl (jfin_no TX12 RX12 92 rfl rfl) hD J Sm rfl rfl jk_0 (pw_125_0 (by omega)) rfl (fun h w1 J Sm => ?_)
  refine x_aloadn (x := 125) rfl rfl ?_
  refine x_iloadn (x := a1) rfl rfl ?_
  refine x_inv (N := m_X12_isMention) (As := [.int a1]) (b := 125) (st := []) (dx9 := 8) (mc := 0) (ms := 0) (host := "") 12 rfl t_X12_isMention ⟨Or.inl q_12_322, i_X12_isMention.1, i_X12_isMention.2⟩ ⟨by decide, rfl⟩ (congrArg Prod.fst (J.1.1 125 (12, 92) rfl)) rfl (by decide) rfl rfl ⟨by decide, by decide⟩ (jC.of rfl k_X12_isMention rfl ?_)
  show jX m_X12_isMention 8 0 0 0 [(0, .ref 125), (1, .int a1)] [] _ 0 0 _
  refine x_iloadn (x := a1) rfl rfl ?_
  refine x_iflt (tgt := 34) rfl rfl (ti_lt rfl jk_0 ⟨fun c2 => ?_, fun c2 => ?_⟩)
  ·
    refine x_iconst (v := 0) rfl ki_0 ?_
    refine x_zret rfl rfl (by decide) ?_
    show jX m_X12_worth 9 0 0 10 [(0, .ref 125), (1, .int a1), (2, .int a2)] [.int 0] _ 0 0 _
    refine x_ifeq (tgt := 39) rfl rfl (ti_eq jk_0 jk_0 (br_t (by omega) ?_))
    exact jX.sub jsb_n (ct_X12_worth_r125_39 hD hQ  h J Sm)
  ·
    refine x_aloadn (x := 125) rfl rfl ?_
    refine x_iloadn (x := a1) rfl rfl ?_
    refine x_iconst (v := 3) rfl ki_3 ?_
    refine z_idiv rfl rfl jk_3 (by omega) (by omega) (fun v3 ev3 => ?_)
    refine x_inv (N := m_X12_isLine) (As := [.int v3]) (b := 125) (st := []) (dx9 := 7) (mc := 0) (ms := 0) (host := "") 12 rfl t_X12_isLine ⟨Or.inl q_12_293, i_X12_isLine.1, i_X12_isLine.2⟩ ⟨by decide, rfl⟩ (congrArg Prod.fst (J.1.1 125 (12, 92) rfl)) rfl (by decide) rfl rfl ⟨by decide, by decide⟩ (jC.of rfl k_X12_isLine rfl ?_)
    show jX m_X12_isLine 7 0 0 0 [(0, .ref 125), (1, .int v3)] [] _ 0 0 _
    refine x_iloadn (x := v3) rfl rfl ?_
    refine z_i2l rfl rfl (fun v4 ev4 => ?_)
    refine x_lconst (v := 0) rfl kl_0 ?_
    refine x_aloadn (x := 125) rfl rfl ?_
    refine z_getR (N := 92) (b := 126) 12 2 rfl f_12_8 rfl J rfl 16002 ⟨rfl, rfl⟩ rfl ?_
    refine x_iconst (v := 0) rfl ki_0 ?_
    refine z_iald (N := 50660) rfl J rfl sg_126_0_1_1_0_1 jk_0 (by omega) (fun v5 qv5 ev5 => ?_)
    refine z_i2l rfl rfl (fun v6 ev6 => ?_)
    refine x_lconst (v := 1) rfl kl_1 ?_
    refine z_lsub rfl rfl jkl_1 (by omega) (fun v7 ev7 => ?_)
    refine x_inst (N := m_X12_in) (As := [.long v4, .long 0, .long v7]) (st := []) (dx9 := 1) (mc := 0) (ms := 0) (host := "") rfl t_X12_in ⟨Or.inl q_12_188, s_X12_in⟩ rfl (by decide) rfl rfl ⟨by decide, by decide⟩ (zc_X12_in rfl jkl_0 rfl (fun v8 ev8 => ?_))
    show jX m_X12_isLine 7 0 0 15 [(0, .ref 125), (1, .int v3)] [.int v8] _ 0 0 _
    refine x_zret rfl rfl (jz01 (by omega)) ?_
    show jX m_X12_isMention 8 0 0 11 [(0, .ref 125), (1, .int a1)] [.int v8] _ 0 0 _
    refine x_ifeq (tgt := 34) rfl rfl (ti_eq rfl jk_0 ⟨fun c9 => ?_, fun c9 => ?_⟩)
    ·
      refine x_iconst (v := 0) rfl ki_0 ?_
      refine x_zret rfl rfl (by decide) ?_
      show jX m_X12_worth 9 0 0 10 [(0, .ref 125), (1, .int a1), (2, .int a2)] [.int 0] _ 0 0 _
      refine x_ifeq (tgt := 39) rfl rfl (ti_eq jk_0 jk_0 (br_t (by omega) ?_))
      exact jX.sub jsb_n (ct_X12_worth_r125_39 hD hQ  h J Sm)
    ·
      refine x_iloadn (x := a1) rfl rfl ?_
      refine x_iconst (v := 3) rfl ki_3 ?_
      refine z_irem rfl rfl jk_3 (by omega) (by omega) (fun v10 ev10 => ?_)
      refine x_aloadn (x := 125) rfl rfl ?_
      refine x_iloadn (x := a1) rfl rfl ?_
      refine x_iconst (v := 3) rfl ki_3 ?_
      refine z_idiv rfl rfl jk_3 (by omega) (by omega) (fun v11 ev11 => ?_)
      refine x_inv (N := m_X12_bookOf) (As := [.int v11]) (b := 125) (st := [.int v10]) (dx9 := 7) (mc := 0) (ms := 0) (host := "") 12 rfl t_X12_bookOf ⟨Or.inl q_12_299, i_X12_bookOf.1, i_X12_bookOf.2⟩ ⟨by decide, rfl⟩ (congrArg Prod.fst (J.1.1 125 (12, 92) rfl)) rfl (by decide) rfl rfl ⟨by decide, by decide⟩ (jC.of rfl k_X12_bookOf rfl ?_)
      show jX m_X12_bookOf 7 0 0 0 [(0, .ref 125), (1, .int v11)] [] _ 0 0 _
      refine x_aloadn (x := 125) rfl rfl ?_
      refine z_getR (N := 92) (b := 126) 12 2 rfl f_12_8 rfl J rfl 16002 ⟨rfl, rfl⟩ rfl ?_
      refine x_aloadn (x := 125) rfl rfl ?_
      refine x_iloadn (x := v11) rfl rfl ?_
      refine x_inv (N := m_X12_at) (As := [.int v11]) (b := 125) (st := [.ref 126]) (dx9 := 6) (mc := 0) (ms := 0) (host := "") 12 rfl t_X12_at ⟨Or.inl q_12_254, i_X12_at.1, i_X12_at.2⟩ ⟨by decide, rfl⟩ (congrArg Prod.fst (J.1.1 125 (12, 92) rfl)) rfl (by decide) rfl rfl ⟨by decide, by decide⟩ (jC.of rfl k_X12_at rfl ?_)
      show jX m_X12_at 6 0 0 0 [(0, .ref 125), (1, .int v11)] [] _ 0 0 _
      refine x_bipush (v := 20) rfl kb_20 ?_
      refine x_bipush (v := 90) rfl kb_90 ?_
      refine x_iloadn (x := v11) rfl rfl ?_
      refine z_imul rfl jk_90 rfl (by omega) (fun v12 ev12 => ?_)
      refine z_iadd rfl jk_20 rfl (by omega) (fun v13 ev13 => ?_)
      refine x_iret rfl rfl ?_
      show jX m_X12_bookOf 7 0 0 9 [(0, .ref 125), (1, .int v11)] [.int v13, .ref 126] _ 0 0 _
      refine z_iald (N := 50660) rfl J rfl sg_126_20_18020_90_0_1 rfl (by omega) (fun v14 qv14 ev14 => ?_)
      refine x_iret rfl rfl ?_
      show jX m_X12_isMention 8 0 0 24 [(0, .ref 125), (1, .int a1)] [.int v14, .int v10] _ 0 0 _
      refine x_inst (N := m_X12_rolesOf) (As := [.int v14]) (st := [.int v10]) (dx9 := 7) (mc := 0) (ms := 0) (host := "") rfl t_X12_rolesOf ⟨Or.inl q_12_286, s_X12_rolesOf⟩ rfl (by decide) rfl rfl ⟨by decide, by decide⟩ (jC.of rfl k_X12_rolesOf rfl ?_)
      show jX m_X12_rolesOf 7 0 0 0 [(0, .int v14)] [] _ 0 0 _
      refine x_iloadn (x := v14) rfl rfl ?_
      refine x_ifne (tgt := 8) rfl rfl (ti_ne rfl jk_0 ⟨fun c15 => ?_, fun c15 => ?_⟩)
      ·
        refine x_iloadn (x := v14) rfl rfl ?_
        refine x_iconst (v := 1) rfl ki_1 ?_
        refine x_icne (tgt := 17) rfl rfl (ti_ne rfl jk_1 ⟨fun c16 => ?_, fun c16 => ?_⟩)
        ·
          refine x_iconst (v := 1) rfl ki_1 ?_
          refine x_iret rfl rfl ?_
          show jX m_X12_isMention 8 0 0 27 [(0, .ref 125), (1, .int a1)] [.int 1, .int v10] _ 0 0 _
          refine x_icge (tgt := 34) rfl rfl (ti_ge rfl jk_1 ⟨fun c17 => ?_, fun c17 => ?_⟩)
          ·
            refine x_iconst (v := 0) rfl ki_0 ?_
            refine x_zret rfl rfl (by decide) ?_
            show jX m_X12_worth 9 0 0 10 [(0, .ref 125), (1, .int a1), (2, .int a2)] [.int 0] _ 0 0 _
            refine x_ifeq (tgt := 39) rfl rfl (ti_eq jk_0 jk_0 (br_t (by omega) ?_))
            exact jX.sub jsb_n (ct_X12_worth_r125_39 hD hQ  h J Sm)
          ·
            refine x_iconst (v := 1) rfl ki_1 ?_
            refine x_goto (tgt := 35) rfl rfl ?_
            refine x_zret rfl rfl (by decide) ?_
            show jX m_X12_worth 9 0 0 10 [(0, .ref 125), (1, .int a1), (2, .int a2)] [.int 1] _ 0 0 _
            refine x_ifeq (tgt := 39) rfl rfl (ti_eq jk_1 jk_0 (br_f (by omega) ?_))
            refine x_aloadn (x := 125) rfl rfl ?_
            refine x_iloadn (x := a2) rfl rfl ?_
            refine x_inv (N := m_X12_isMention) (As := [.int a2]) (b := 125) (st := []) (dx9 := 8) (mc := 0) (ms := 0) (host := "") 12 rfl t_X12_isMention ⟨Or.inl q_12_322, i_X12_isMention.1, i_X12_isMention.2⟩ ⟨by decide, rfl⟩ (congrArg Prod.fst (J.1.1 125 (12, 92) rfl)) rfl (by decide) rfl rfl ⟨by decide, by decide⟩ (jC.of rfl k_X12_isMention rfl ?_)
            show jX m_X12_isMention 8 0 0 0 [(0, .ref 125), (1, .int a2)] [] _ 0 0 _
            refine x_iloadn (x := a2) rfl rfl ?_
            refine x_iflt (tgt := 34) rfl rfl (ti_lt rfl jk_0 ⟨fun c18 => ?_, fun c18 => ?_⟩)
            ·
              refine x_iconst (v := 0) rfl ki_0 ?_
              refine x_zret rfl rfl (by decide) ?_
              show jX m_X12_worth 9 0 0 18 [(0, .ref 125), (1, .int a1), (2, .int a2)] [.int 0] _ 0 0 _
              refine x_ifeq (tgt := 39) rfl rfl (ti_eq jk_0 jk_0 (br_t (by omega) ?_))
              exact jX.sub jsb_n (ct_X12_worth_r125_39 hD hQ  h J Sm)
            ·
              refine x_aloadn (x := 125) rfl rfl ?_
              refine x_iloadn (x := a2) rfl rfl ?_
              refine x_iconst (v := 3) rfl ki_3 ?_
              refine z_idiv rfl rfl jk_3 (by omega) (by omega) (fun v19 ev19 => ?_)
              refine x_inv (N := m_X12_isLine) (As := [.int v19]) (b := 125) (st := []) (dx9 := 7) (mc := 0) (ms := 0) (host := "") 12 rfl t_X12_isLine ⟨Or.inl q_12_293, i_X12_isLine.1, i_X12_isLine.2⟩ ⟨by decide, rfl⟩ (congrArg Prod.fst (J.1.1 125 (12, 92) rfl)) rfl (by decide) rfl rfl ⟨by decide, by decide⟩ (jC.of rfl k_X12_isLine rfl ?_)
              show jX m_X12_isLine 7 0 0 0 [(0, .ref 125), (1, .int v19)] [] _ 0 0 _
              refine x_iloadn (x := v19) rfl rfl ?_
              refine z_i2l rfl rfl (fun v20 ev20 => ?_)
              refine x_lconst (v := 0) rfl kl_0 ?_
              refine x_aloadn (x := 125) rfl rfl ?_
              refine z_getR (N := 92) (b := 126) 12 2 rfl f_12_8 rfl J rfl 16002 ⟨rfl, rfl⟩ rfl ?_
              refine x_iconst (v := 0) rfl ki_0 ?_
              refine z_ialdM (N := 50660) (v := v5) rfl J rfl jk_0 (by omega) qv5 ?_
              refine z_i2l rfl rfl (fun v21 ev21 => ?_)
              refine x_lconst (v := 1) rfl kl_1 ?_
              refine z_lsub rfl rfl jkl_1 (by omega) (fun v22 ev22 => ?_)
              refine x_inst (N := m_X12_in) (As := [.long v20, .long 0, .long v22]) (st := []) (dx9 := 1) (mc := 0) (ms := 0) (host := "") rfl t_X12_in ⟨Or.inl q_12_188, s_X12_in⟩ rfl (by decide) rfl rfl ⟨by decide, by decide⟩ (zc_X12_in rfl jkl_0 rfl (fun v23 ev23 => ?_))
              show jX m_X12_isLine 7 0 0 15 [(0, .ref 125), (1, .int v19)] [.int v23] _ 0 0 _
              refine x_zret rfl rfl (jz01 (by omega)) ?_
              show jX m_X12_isMention 8 0 0 11 [(0, .ref 125), (1, .int a2)] [.int v23] _ 0 0 _
              refine x_ifeq (tgt := 34) rfl rfl (ti_eq rfl jk_0 ⟨fun c24 => ?_, fun c24 => ?_⟩)
              ·
                refine x_iconst (v := 0) rfl ki_0 ?_
                refine x_zret rfl rfl (by decide) ?_
                show jX m_X12_worth 9 0 0 18 [(0, .ref 125), (1, .int a1), (2, .int a2)] [.int 0] _ 0 0 _
                refine x_ifeq (tgt := 39) rfl rfl (ti_eq jk_0 jk_0 (br_t (by omega) ?_))
                exact jX.sub jsb_n (ct_X12_worth_r125_39 hD hQ  h J Sm)
              ·
                refine x_iloadn (x := a2) rfl rfl ?_
                refine x_iconst (v := 3) rfl ki_3 ?_
                refine z_irem rfl rfl jk_3 (by omega) (by omega) (fun v25 ev25 => ?_)
                refine x_aloadn (x := 125) rfl rfl ?_
                refine x_iloadn (x := a2) rfl rfl ?_
                refine x_iconst (v := 3) rfl ki_3 ?_
                refine z_idiv rfl rfl jk_3 (by omega) (by omega) (fun v26 ev26 => ?_)
                refine x_inv (N := m_X12_bookOf) (As := [.int v26]) (b := 125) (st := [.int v25]) (dx9 := 7) (mc := 0) (ms := 0) (host := "") 12 rfl t_X12_bookOf ⟨Or.inl q_12_299, i_X12_bookOf.1, i_X12_bookOf.2⟩ ⟨by decide, rfl⟩ (congrArg Prod.fst (J.1.1 125 (12, 92) rfl)) rfl (by decide) rfl rfl ⟨by decide, by decide⟩ (jC.of rfl k_X12_bookOf rfl ?_)
                show jX m_X12_bookOf 7 0 0 0 [(0, .ref 125), (1, .int v26)] [] _ 0 0 _
                refine x_aloadn (x := 125) rfl rfl ?_
                refine z_getR (N := 92) (b := 126) 12 2 rfl f_12_8 rfl J rfl 16002 ⟨rfl, rfl⟩ rfl ?_
                refine x_aloadn (x := 125) rfl rfl ?_
                refine x_iloadn (x := v26) rfl rfl ?_
                refine x_inv (N := m_X12_at) (As := [.int v26]) (b := 125) (st := [.ref 126]) (dx9 := 6) (mc := 0) (ms := 0) (host := "") 12 rfl t_X12_at ⟨Or.inl q_12_254, i_X12_at.1, i_X12_at.2⟩ ⟨by decide, rfl⟩ (congrArg Prod.fst (J.1.1 125 (12, 92) rfl)) rfl (by decide) rfl rfl ⟨by decide, by decide⟩ (jC.of rfl k_X12_at rfl ?_)
                show jX m_X12_at 6 0 0 0 [(0, .ref 125), (1, .int v26)] [] _ 0 0 _
                refine x_bipush (v := 20) rfl kb_20 ?_
                refine x_bipush (v := 90) rfl kb_90 ?_
                refine x_iloadn (x := v26) rfl rfl ?_
                refine z_imul rfl jk_90 rfl (by omega) (fun v27 ev27 => ?_)
                refine z_iadd rfl jk_20 rfl (by omega) (fun v28 ev28 => ?_)
                refine x_iret rfl rfl ?_
                show jX m_X12_bookOf 7 0 0 9 [(0, .ref 125), (1, .int v26)] [.int v28, .ref 126] _ 0 0 _
                refine z_iald (N := 50660) rfl J rfl sg_126_20_18020_90_0_1 rfl (by omega) (fun v29 qv29 ev29 => ?_)
                refine x_iret rfl rfl ?_
                show jX m_X12_isMention 8 0 0 24 [(0, .ref 125), (1, .int a2)] [.int v29, .int v25] _ 0 0 _
                refine x_inst (N := m_X12_rolesOf) (As := [.int v29]) (st := [.int v25]) (dx9 := 7) (mc := 0) (ms := 0) (host := "") rfl t_X12_rolesOf ⟨Or.inl q_12_286, s_X12_rolesOf⟩ rfl (by decide) rfl rfl ⟨by decide, by decide⟩ (jC.of rfl k_X12_rolesOf rfl ?_)
                show jX m_X12_rolesOf 7 0 0 0 [(0, .int v29)] [] _ 0 0 _
                refine x_iloadn (x := v29) rfl rfl ?_
                refine x_ifne (tgt := 8) rfl rfl (ti_ne rfl jk_0 ⟨fun c30 => ?_, fun c30 => ?_⟩)
                ·
                  refine x_iloadn (x := v29) rfl rfl ?_
                  refine x_iconst (v := 1) rfl ki_1 ?_
                  refine x_icne (tgt := 17) rfl rfl (ti_ne rfl jk_1 ⟨fun c31 => ?_, fun c31 => ?_⟩)
                  ·
                    refine x_iconst (v := 1) rfl ki_1 ?_
                    refine x_iret rfl rfl ?_
                    show jX m_X12_isMention 8 0 0 27 [(0, .ref 125), (1, .int a2)] [.int 1, .int v25] _ 0 0 _
                    refine x_icge (tgt := 34) rfl rfl (ti_ge rfl jk_1 ⟨fun c32 => ?_, fun c32 => ?_⟩)
                    ·
                      refine x_iconst (v := 0) rfl ki_0 ?_
                      refine x_zret rfl rfl (by decide) ?_
                      show jX m_X12_worth 9 0 0 18 [(0, .ref 125), (1, .int a1), (2, .int a2)] [.int 0] _ 0 0 _
                      refine x_ifeq (tgt := 39) rfl rfl (ti_eq jk_0 jk_0 (br_t (by omega) ?_))
                      exact jX.sub jsb_n (ct_X12_worth_r125_39 hD hQ  h J Sm)
                    ·
                      refine x_iconst (v := 1) rfl ki_1 ?_
                      refine x_goto (tgt := 35) rfl rfl ?_
                      refine x_zret rfl rfl (by decide) ?_
                      show jX m_X12_worth 9 0 0 18 [(0, .ref 125), (1, .int a1), (2, .int a2)] [.int 1] _ 0 0 _
                      refine x_ifeq (tgt := 39) rfl rfl (ti_eq jk_1 jk_0 (br_f (by omega) ?_))
                      refine x_aloadn (x := 125) rfl rfl ?_
                      refine x_iloadn (x := a1) rfl rfl ?_
                      refine x_iloadn (x := a2) rfl rfl ?_
                      refine x_inv (N := m_X12_why) (As := [.int a1, .int a2]) (b := 125) (st := []) (dx9 := 6) (mc := 0) (ms := 0) (host := "") 12 rfl t_X12_why ⟨Or.inl q_12_368, i_X12_why.1, i_X12_why.2⟩ ⟨by decide, rfl⟩ (congrArg Prod.fst (J.1.1 125 (12, 92) rfl)) rfl (by decide) rfl rfl ⟨by decide, by decide⟩ (sf_X12_why_r125 (jr_of rfl (by omega)) (jr_of rfl (by omega)) hD J  (fun v34 h ev34 J S33 => ?_))
                      have Sm := jSm_tr rfl Sm S33
                      show jX m_X12_worth 9 0 0 27 [(0, .ref 125), (1, .int a1), (2, .int a2)] [.int v34] _ 0 0 _
                      refine x_ifne (tgt := 39) rfl rfl (ti_ne rfl jk_0 ⟨fun c35 => ?_, fun c35 => ?_⟩)
                      ·
                        exact jX.sub jsb_n (ct_X12_worth_r125_39 hD hQ  h J Sm)
                      ·
                        refine x_aloadn (x := 125) rfl rfl ?_
                        refine x_iloadn (x := a1) rfl rfl ?_
                        refine x_iloadn (x := a2) rfl rfl ?_
                        refine x_inv (N := m_X12_worthOf) (As := [.int a1, .int a2]) (b := 125) (st := []) (dx9 := 8) (mc := 0) (ms := 0) (host := "") 12 rfl t_X12_worthOf ⟨Or.inl q_12_374, i_X12_worthOf.1, i_X12_worthOf.2⟩ ⟨by decide, rfl⟩ (congrArg Prod.fst (J.1.1 125 (12, 92) rfl)) rfl (by decide) rfl rfl ⟨by decide, by decide⟩ (sf_X12_worthOf_r125 (jr_of rfl (by omega)) (jr_of rfl (by omega)) hD J  (fun v37 h ev37 J S36 => ?_))
                        have Sm := jSm_tr rfl Sm S36
                        show jX m_X12_worth 9 0 0 36 [(0, .ref 125), (1, .int a1), (2, .int a2)] [.int v37] _ 0 0 _
                        refine x_goto (tgt := 40) rfl rfl ?_
                        exact jX.sub jsb_n (ct_X12_worth_r125_40 hD hQ  v37 h (jr_of rfl (by omega)) J Sm)
                  ·
                    refine x_iconst (v := 2) rfl ki_2 ?_
                    refine x_goto (tgt := 18) rfl rfl ?_
                    refine x_iret rfl rfl ?_
                    show jX m_X12_isMention 8 0 0 27 [(0, .ref 125), (1, .int a2)] [.int 2, .int v25] _ 0 0 _
                    refine x_icge (tgt := 34) rfl rfl (ti_ge rfl jk_2 ⟨fun c38 => ?_, fun c38 => ?_⟩)
                    ·
                      refine x_iconst (v := 0) rfl ki_0 ?_
                      refine x_zret rfl rfl (by decide) ?_
                      show jX m_X12_worth 9 0 0 18 [(0, .ref 125), (1, .int a1), (2, .int a2)] [.int 0] _ 0 0 _
                      refine x_ifeq (tgt := 39) rfl rfl (ti_eq jk_0 jk_0 (br_t (by omega) ?_))
                      exact jX.sub jsb_n (ct_X12_worth_r125_39 hD hQ  h J Sm)
                    ·
                      refine x_iconst (v := 1) rfl ki_1 ?_
                      refine x_goto (tgt := 35) rfl rfl ?_
                      refine x_zret rfl rfl (by decide) ?_
                      show jX m_X12_worth 9 0 0 18 [(0, .ref 125), (1, .int a1), (2, .int a2)] [.int 1] _ 0 0 _
                      refine x_ifeq (tgt := 39) rfl rfl (ti_eq jk_1 jk_0 (br_f (by omega) ?_))
                      refine x_aloadn (x := 125) rfl rfl ?_
                      refine x_iloadn (x := a1) rfl rfl ?_
                      refine x_iloadn (x := a2) rfl rfl ?_
                      refine x_inv (N := m_X12_why) (As := [.int a1, .int a2]) (b := 125) (st := []) (dx9 := 6) (mc := 0) (ms := 0) (host := "") 12 rfl t_X12_why ⟨Or.inl q_12_368, i_X12_why.1, i_X12_why.2⟩ ⟨by decide, rfl⟩ (congrArg Prod.fst (J.1.1 125 (12, 92) rfl)) rfl (by decide) rfl rfl ⟨by decide, by decide⟩ (sf_X12_why_r125 (jr_of rfl (by omega)) (jr_of rfl (by omega)) hD J  (fun v40 h ev40 J S39 => ?_))
                      have Sm := jSm_tr rfl Sm S39
                      show jX m_X12_worth 9 0 0 27 [(0, .ref 125), (1, .int a1), (2, .int a2)] [.int v40] _ 0 0 _
                      refine x_ifne (tgt := 39) rfl rfl (ti_ne rfl jk_0 ⟨fun c41 => ?_, fun c41 => ?_⟩)
                      ·
                        exact jX.sub jsb_n (ct_X12_worth_r125_39 hD hQ  h J Sm)
                      ·
                        refine x_aloadn (x := 125) rfl rfl ?_
                        refine x_iloadn (x := a1) rfl rfl ?_
                        refine x_iloadn (x := a2) rfl rfl ?_
                        refine x_inv (N := m_X12_worthOf) (As := [.int a1, .int a2]) (b := 125) (st := []) (dx9 := 8) (mc := 0) (ms := 0) (host := "") 12 rfl t_X12_worthOf ⟨Or.inl q_12_374, i_X12_worthOf.1, i_X12_worthOf.2⟩ ⟨by decide, rfl⟩ (congrArg Prod.fst (J.1.1 125 (12, 92) rfl)) rfl (by decide) rfl rfl ⟨by decide, by decide⟩ (sf_X12_worthOf_r125 (jr_of rfl (by omega)) (jr_of rfl (by omega)) hD J  (fun v43 h ev43 J S42 => ?_))
                        have Sm := jSm_tr rfl Sm S42
                        show jX m_X12_worth 9 0 0 36 [(0, .ref 125), (1, .int a1), (2, .int a2)] [.int v43] _ 0 0 _
                        refine x_goto (tgt := 40) rfl rfl ?_
                        exact jX.sub jsb_n (ct_X12_worth_r125_40 hD hQ  v43 h (jr_of rfl (by omega)) J Sm)
                ·
                  refine x_iconst (v := 3) rfl ki_3 ?_
                  refine x_goto (tgt := 18) rfl rfl ?_
                  refine x_iret rfl rfl ?_
                  show jX m_X12_isMention 8 0 0 27 [(0, .ref 125), (1, .int a2)] [.int 3, .int v25] _ 0 0 _
                  refine x_icge (tgt := 34) rfl rfl (ti_ge rfl jk_3 (br_f (by omega) ?_))
                  refine x_iconst (v := 1) rfl ki_1 ?_
                  refine x_goto (tgt := 35) rfl rfl ?_
                  refine x_zret rfl rfl (by decide) ?_
                  show jX m_X12_worth 9 0 0 18 [(0, .ref 125), (1, .int a1), (2, .int a2)] [.int 1] _ 0 0 _
                  refine x_ifeq (tgt := 39) rfl rfl (ti_eq jk_1 jk_0 (br_f (by omega) ?_))
                  refine x_aloadn (x := 125) rfl rfl ?_
                  refine x_iloadn (x := a1) rfl rfl ?_
                  refine x_iloadn (x := a2) rfl rfl ?_
                  refine x_inv (N := m_X12_why) (As := [.int a1, .int a2]) (b := 125) (st := []) (dx9 := 6) (mc := 0) (ms := 0) (host := "") 12 rfl t_X12_why ⟨Or.inl q_12_368, i_X12_why.1, i_X12_why.2⟩ ⟨by decide, rfl⟩ (congrArg Prod.fst (J.1.1 125 (12, 92) rfl)) rfl (by decide) rfl rfl ⟨by decide, by decide⟩ (sf_X12_why_r125 (jr_of rfl (by omega)) (jr_of rfl (by omega)) hD J  (fun v45 h ev45 J S44 => ?_))
                  have Sm := jSm_tr rfl Sm S44
                  show jX m_X12_worth 9 0 0 27 [(0, .ref 125), (1, .int a1), (2, .int a2)] [.int v45] _ 0 0 _
                  refine x_ifne (tgt := 39) rfl rfl (ti_ne rfl jk_0 ⟨fun c46 => ?_, fun c46 => ?_⟩)
                  ·
                    exact jX.sub jsb_n (ct_X12_worth_r125_39 hD hQ  h J Sm)
                  ·
                    refine x_aloadn (x := 125) rfl rfl ?_
                    refine x_iloadn (x := a1) rfl rfl ?_
                    refine x_iloadn (x := a2) rfl rfl ?_
                    refine x_inv (N := m_X12_worthOf) (As := [.int a1, .int a2]) (b := 125) (st := []) (dx9 := 8) (mc := 0) (ms := 0) (host := "") 12 rfl t_X12_worthOf ⟨Or.inl q_12_374, i_X12_worthOf.1, i_X12_worthOf.2⟩ ⟨by decide, rfl⟩ (congrArg Prod.fst (J.1.1 125 (12, 92) rfl)) rfl (by decide) rfl rfl ⟨by decide, by decide⟩ (sf_X12_worthOf_r125 (jr_of rfl (by omega)) (jr_of rfl (by omega)) hD J  (fun v48 h ev48 J S47 => ?_))
                    have Sm := jSm_tr rfl Sm S47
                    show jX m_X12_worth 9 0 0 36 [(0, .ref 125), (1, .int a1), (2, .int a2)] [.int v48] _ 0 0 _
                    refine x_goto (tgt := 40) rfl rfl ?_
                    exact jX.sub jsb_n (ct_X12_worth_r125_40 hD hQ  v48 h (jr_of rfl (by omega)) J Sm)
        ·
          refine x_iconst (v := 2) rfl ki_2 ?_
          refine x_goto (tgt := 18) rfl rfl ?_
          refine x_iret rfl rfl ?_
          show jX m_X12_isMention 8 0 0 27 [(0, .ref 125), (1, .int a1)] [.int 2, .int v10] _ 0 0 _
          refine x_icge (tgt := 34) rfl rfl (ti_ge rfl jk_2 ⟨fun c49 => ?_, fun c49 => ?_⟩)
          ·
            refine x_iconst (v := 0) rfl ki_0 ?_
            refine x_zret rfl rfl (by decide) ?_
            show jX m_X12_worth 9 0 0 10 [(0, .ref 125), (1, .int a1), (2, .int a2)] [.int 0] _ 0 0 _
            refine x_ifeq (tgt := 39) rfl rfl (ti_eq jk_0 jk_0 (br_t (by omega) ?_))
            exact jX.sub jsb_n (ct_X12_worth_r125_39 hD hQ  h J Sm)
          ·
            refine x_iconst (v := 1) rfl ki_1 ?_
            refine x_goto (tgt := 35) rfl rfl ?_
            refine x_zret rfl rfl (by decide) ?_
            show jX m_X12_worth 9 0 0 10 [(0, .ref 125), (1, .int a1), (2, .int a2)] [.int 1] _ 0 0 _
            refine x_ifeq (tgt := 39) rfl rfl (ti_eq jk_1 jk_0 (br_f (by omega) ?_))
            refine x_aloadn (x := 125) rfl rfl ?_
            refine x_iloadn (x := a2) rfl rfl ?_
            refine x_inv (N := m_X12_isMention) (As := [.int a2]) (b := 125) (st := []) (dx9 := 8) (mc := 0) (ms := 0) (host := "") 12 rfl t_X12_isMention ⟨Or.inl q_12_322, i_X12_isMention.1, i_X12_isMention.2⟩ ⟨by decide, rfl⟩ (congrArg Prod.fst (J.1.1 125 (12, 92) rfl)) rfl (by decide) rfl rfl ⟨by decide, by decide⟩ (jC.of rfl k_X12_isMention rfl ?_)
            show jX m_X12_isMention 8 0 0 0 [(0, .ref 125), (1, .int a2)] [] _ 0 0 _
            refine x_iloadn (x := a2) rfl rfl ?_
            refine x_iflt (tgt := 34) rfl rfl (ti_lt rfl jk_0 ⟨fun c50 => ?_, fun c50 => ?_⟩)
            ·
              refine x_iconst (v := 0) rfl ki_0 ?_
              refine x_zret rfl rfl (by decide) ?_
              show jX m_X12_worth 9 0 0 18 [(0, .ref 125), (1, .int a1), (2, .int a2)] [.int 0] _ 0 0 _
              refine x_ifeq (tgt := 39) rfl rfl (ti_eq jk_0 jk_0 (br_t (by omega) ?_))
              exact jX.sub jsb_n (ct_X12_worth_r125_39 hD hQ  h J Sm)
            ·
              refine x_aloadn (x := 125) rfl rfl ?_
              refine x_iloadn (x := a2) rfl rfl ?_
              refine x_iconst (v := 3) rfl ki_3 ?_
              refine z_idiv rfl rfl jk_3 (by omega) (by omega) (fun v51 ev51 => ?_)
              refine x_inv (N := m_X12_isLine) (As := [.int v51]) (b := 125) (st := []) (dx9 := 7) (mc := 0) (ms := 0) (host := "") 12 rfl t_X12_isLine ⟨Or.inl q_12_293, i_X12_isLine.1, i_X12_isLine.2⟩ ⟨by decide, rfl⟩ (congrArg Prod.fst (J.1.1 125 (12, 92) rfl)) rfl (by decide) rfl rfl ⟨by decide, by decide⟩ (jC.of rfl k_X12_isLine rfl ?_)
              show jX m_X12_isLine 7 0 0 0 [(0, .ref 125), (1, .int v51)] [] _ 0 0 _
              refine x_iloadn (x := v51) rfl rfl ?_
              refine z_i2l rfl rfl (fun v52 ev52 => ?_)
              refine x_lconst (v := 0) rfl kl_0 ?_
              refine x_aloadn (x := 125) rfl rfl ?_
              refine z_getR (N := 92) (b := 126) 12 2 rfl f_12_8 rfl J rfl 16002 ⟨rfl, rfl⟩ rfl ?_
              refine x_iconst (v := 0) rfl ki_0 ?_
              refine z_ialdM (N := 50660) (v := v5) rfl J rfl jk_0 (by omega) qv5 ?_
              refine z_i2l rfl rfl (fun v53 ev53 => ?_)
              refine x_lconst (v := 1) rfl kl_1 ?_
              refine z_lsub rfl rfl jkl_1 (by omega) (fun v54 ev54 => ?_)
              refine x_inst (N := m_X12_in) (As := [.long v52, .long 0, .long v54]) (st := []) (dx9 := 1) (mc := 0) (ms := 0) (host := "") rfl t_X12_in ⟨Or.inl q_12_188, s_X12_in⟩ rfl (by decide) rfl rfl ⟨by decide, by decide⟩ (zc_X12_in rfl jkl_0 rfl (fun v55 ev55 => ?_))
              show jX m_X12_isLine 7 0 0 15 [(0, .ref 125), (1, .int v51)] [.int v55] _ 0 0 _
              refine x_zret rfl rfl (jz01 (by omega)) ?_
              show jX m_X12_isMention 8 0 0 11 [(0, .ref 125), (1, .int a2)] [.int v55] _ 0 0 _
              refine x_ifeq (tgt := 34) rfl rfl (ti_eq rfl jk_0 ⟨fun c56 => ?_, fun c56 => ?_⟩)
              ·
                refine x_iconst (v := 0) rfl ki_0 ?_
                refine x_zret rfl rfl (by decide) ?_
                show jX m_X12_worth 9 0 0 18 [(0, .ref 125), (1, .int a1), (2, .int a2)] [.int 0] _ 0 0 _
                refine x_ifeq (tgt := 39) rfl rfl (ti_eq jk_0 jk_0 (br_t (by omega) ?_))
                exact jX.sub jsb_n (ct_X12_worth_r125_39 hD hQ  h J Sm)
              ·
                refine x_iloadn (x := a2) rfl rfl ?_
                refine x_iconst (v := 3) rfl ki_3 ?_
                refine z_irem rfl rfl jk_3 (by omega) (by omega) (fun v57 ev57 => ?_)
                refine x_aloadn (x := 125) rfl rfl ?_
                refine x_iloadn (x := a2) rfl rfl ?_
                refine x_iconst (v := 3) rfl ki_3 ?_
                refine z_idiv rfl rfl jk_3 (by omega) (by omega) (fun v58 ev58 => ?_)
                refine x_inv (N := m_X12_bookOf) (As := [.int v58]) (b := 125) (st := [.int v57]) (dx9 := 7) (mc := 0) (ms := 0) (host := "") 12 rfl t_X12_bookOf ⟨Or.inl q_12_299, i_X12_bookOf.1, i_X12_bookOf.2⟩ ⟨by decide, rfl⟩ (congrArg Prod.fst (J.1.1 125 (12, 92) rfl)) rfl (by decide) rfl rfl ⟨by decide, by decide⟩ (jC.of rfl k_X12_bookOf rfl ?_)
                show jX m_X12_bookOf 7 0 0 0 [(0, .ref 125), (1, .int v58)] [] _ 0 0 _
                refine x_aloadn (x := 125) rfl rfl ?_
                refine z_getR (N := 92) (b := 126) 12 2 rfl f_12_8 rfl J rfl 16002 ⟨rfl, rfl⟩ rfl ?_
                refine x_aloadn (x := 125) rfl rfl ?_
                refine x_iloadn (x := v58) rfl rfl ?_
                refine x_inv (N := m_X12_at) (As := [.int v58]) (b := 125) (st := [.ref 126]) (dx9 := 6) (mc := 0) (ms := 0) (host := "") 12 rfl t_X12_at ⟨Or.inl q_12_254, i_X12_at.1, i_X12_at.2⟩ ⟨by decide, rfl⟩ (congrArg Prod.fst (J.1.1 125 (12, 92) rfl)) rfl (by decide) rfl rfl ⟨by decide, by decide⟩ (jC.of rfl k_X12_at rfl ?_)
                show jX m_X12_at 6 0 0 0 [(0, .ref 125), (1, .int v58)] [] _ 0 0 _
                refine x_bipush (v := 20) rfl kb_20 ?_
                refine x_bipush (v := 90) rfl kb_90 ?_
                refine x_iloadn (x := v58) rfl rfl ?_
                refine z_imul rfl jk_90 rfl (by omega) (fun v59 ev59 => ?_)
                refine z_iadd rfl jk_20 rfl (by omega) (fun v60 ev60 => ?_)
                refine x_iret rfl rfl ?_
                show jX m_X12_bookOf 7 0 0 9 [(0, .ref 125), (1, .int v58)] [.int v60, .ref 126] _ 0 0 _
                refine z_iald (N := 50660) rfl J rfl sg_126_20_18020_90_0_1 rfl (by omega) (fun v61 qv61 ev61 => ?_)
                refine x_iret rfl rfl ?_
                show jX m_X12_isMention 8 0 0 24 [(0, .ref 125), (1, .int a2)] [.int v61, .int v57] _ 0 0 _
                refine x_inst (N := m_X12_rolesOf) (As := [.int v61]) (st := [.int v57]) (dx9 := 7) (mc := 0) (ms := 0) (host := "") rfl t_X12_rolesOf ⟨Or.inl q_12_286, s_X12_rolesOf⟩ rfl (by decide) rfl rfl ⟨by decide, by decide⟩ (jC.of rfl k_X12_rolesOf rfl ?_)
                show jX m_X12_rolesOf 7 0 0 0 [(0, .int v61)] [] _ 0 0 _
                refine x_iloadn (x := v61) rfl rfl ?_
                refine x_ifne (tgt := 8) rfl rfl (ti_ne rfl jk_0 ⟨fun c62 => ?_, fun c62 => ?_⟩)
                ·
                  refine x_iloadn (x := v61) rfl rfl ?_
                  refine x_iconst (v := 1) rfl ki_1 ?_
                  refine x_icne (tgt := 17) rfl rfl (ti_ne rfl jk_1 ⟨fun c63 => ?_, fun c63 => ?_⟩)
                  ·
                    refine x_iconst (v := 1) rfl ki_1 ?_
                    refine x_iret rfl rfl ?_
                    show jX m_X12_isMention 8 0 0 27 [(0, .ref 125), (1, .int a2)] [.int 1, .int v57] _ 0 0 _
                    refine x_icge (tgt := 34) rfl rfl (ti_ge rfl jk_1 ⟨fun c64 => ?_, fun c64 => ?_⟩)
                    ·
                      refine x_iconst (v := 0) rfl ki_0 ?_
                      refine x_zret rfl rfl (by decide) ?_
                      show jX m_X12_worth 9 0 0 18 [(0, .ref 125), (1, .int a1), (2, .int a2)] [.int 0] _ 0 0 _
                      refine x_ifeq (tgt := 39) rfl rfl (ti_eq jk_0 jk_0 (br_t (by omega) ?_))
                      exact jX.sub jsb_n (ct_X12_worth_r125_39 hD hQ  h J Sm)
                    ·
                      refine x_iconst (v := 1) rfl ki_1 ?_
                      refine x_goto (tgt := 35) rfl rfl ?_
                      refine x_zret rfl rfl (by decide) ?_
                      show jX m_X12_worth 9 0 0 18 [(0, .ref 125), (1, .int a1), (2, .int a2)] [.int 1] _ 0 0 _
                      refine x_ifeq (tgt := 39) rfl rfl (ti_eq jk_1 jk_0 (br_f (by omega) ?_))
                      refine x_aloadn (x := 125) rfl rfl ?_
                      refine x_iloadn (x := a1) rfl rfl ?_
                      refine x_iloadn (x := a2) rfl rfl ?_
                      refine x_inv (N := m_X12_why) (As := [.int a1, .int a2]) (b := 125) (st := []) (dx9 := 6) (mc := 0) (ms := 0) (host := "") 12 rfl t_X12_why ⟨Or.inl q_12_368, i_X12_why.1, i_X12_why.2⟩ ⟨by decide, rfl⟩ (congrArg Prod.fst (J.1.1 125 (12, 92) rfl)) rfl (by decide) rfl rfl ⟨by decide, by decide⟩ (sf_X12_why_r125 (jr_of rfl (by omega)) (jr_of rfl (by omega)) hD J  (fun v66 h ev66 J S65 => ?_))
                      have Sm := jSm_tr rfl Sm S65
                      show jX m_X12_worth 9 0 0 27 [(0, .ref 125), (1, .int a1), (2, .int a2)] [.int v66] _ 0 0 _
                      refine x_ifne (tgt := 39) rfl rfl (ti_ne rfl jk_0 ⟨fun c67 => ?_, fun c67 => ?_⟩)
                      ·
                        exact jX.sub jsb_n (ct_X12_worth_r125_39 hD hQ  h J Sm)
                      ·
                        refine x_aloadn (x := 125) rfl rfl ?_
                        refine x_iloadn (x := a1) rfl rfl ?_
                        refine x_iloadn (x := a2) rfl rfl ?_
                        refine x_inv (N := m_X12_worthOf) (As := [.int a1, .int a2]) (b := 125) (st := []) (dx9 := 8) (mc := 0) (ms := 0) (host := "") 12 rfl t_X12_worthOf ⟨Or.inl q_12_374, i_X12_worthOf.1, i_X12_worthOf.2⟩ ⟨by decide, rfl⟩ (congrArg Prod.fst (J.1.1 125 (12, 92) rfl)) rfl (by decide) rfl rfl ⟨by decide, by decide⟩ (sf_X12_worthOf_r125 (jr_of rfl (by omega)) (jr_of rfl (by omega)) hD J  (fun v69 h ev69 J S68 => ?_))
                        have Sm := jSm_tr rfl Sm S68
                        show jX m_X12_worth 9 0 0 36 [(0, .ref 125), (1, .int a1), (2, .int a2)] [.int v69] _ 0 0 _
                        refine x_goto (tgt := 40) rfl rfl ?_
                        exact jX.sub jsb_n (ct_X12_worth_r125_40 hD hQ  v69 h (jr_of rfl (by omega)) J Sm)
                  ·
                    refine x_iconst (v := 2) rfl ki_2 ?_
                    refine x_goto (tgt := 18) rfl rfl ?_
                    refine x_iret rfl rfl ?_
                    show jX m_X12_isMention 8 0 0 27 [(0, .ref 125), (1, .int a2)] [.int 2, .int v57] _ 0 0 _
                    refine x_icge (tgt := 34) rfl rfl (ti_ge rfl jk_2 ⟨fun c70 => ?_, fun c70 => ?_⟩)
                    ·
                      refine x_iconst (v := 0) rfl ki_0 ?_
                      refine x_zret rfl rfl (by decide) ?_
                      show jX m_X12_worth 9 0 0 18 [(0, .ref 125), (1, .int a1), (2, .int a2)] [.int 0] _ 0 0 _
                      refine x_ifeq (tgt := 39) rfl rfl (ti_eq jk_0 jk_0 (br_t (by omega) ?_))
                      exact jX.sub jsb_n (ct_X12_worth_r125_39 hD hQ  h J Sm)
                    ·
                      refine x_iconst (v := 1) rfl ki_1 ?_
                      refine x_goto (tgt := 35) rfl rfl ?_
                      refine x_zret rfl rfl (by decide) ?_
                      show jX m_X12_worth 9 0 0 18 [(0, .ref 125), (1, .int a1), (2, .int a2)] [.int 1] _ 0 0 _
                      refine x_ifeq (tgt := 39) rfl rfl (ti_eq jk_1 jk_0 (br_f (by omega) ?_))
                      refine x_aloadn (x := 125) rfl rfl ?_
                      refine x_iloadn (x := a1) rfl rfl ?_
                      refine x_iloadn (x := a2) rfl rfl ?_
                      refine x_inv (N := m_X12_why) (As := [.int a1, .int a2]) (b := 125) (st := []) (dx9 := 6) (mc := 0) (ms := 0) (host := "") 12 rfl t_X12_why ⟨Or.inl q_12_368, i_X12_why.1, i_X12_why.2⟩ ⟨by decide, rfl⟩ (congrArg Prod.fst (J.1.1 125 (12, 92) rfl)) rfl (by decide) rfl rfl ⟨by decide, by decide⟩ (sf_X12_why_r125 (jr_of rfl (by omega)) (jr_of rfl (by omega)) hD J  (fun v72 h ev72 J S71 => ?_))
                      have Sm := jSm_tr rfl Sm S71
                      show jX m_X12_worth 9 0 0 27 [(0, .ref 125), (1, .int a1), (2, .int a2)] [.int v72] _ 0 0 _
                      refine x_ifne (tgt := 39) rfl rfl (ti_ne rfl jk_0 ⟨fun c73 => ?_, fun c73 => ?_⟩)
                      ·
                        exact jX.sub jsb_n (ct_X12_worth_r125_39 hD hQ  h J Sm)
                      ·
                        refine x_aloadn (x := 125) rfl rfl ?_
                        refine x_iloadn (x := a1) rfl rfl ?_
                        refine x_iloadn (x := a2) rfl rfl ?_
                        refine x_inv (N := m_X12_worthOf) (As := [.int a1, .int a2]) (b := 125) (st := []) (dx9 := 8) (mc := 0) (ms := 0) (host := "") 12 rfl t_X12_worthOf ⟨Or.inl q_12_374, i_X12_worthOf.1, i_X12_worthOf.2⟩ ⟨by decide, rfl⟩ (congrArg Prod.fst (J.1.1 125 (12, 92) rfl)) rfl (by decide) rfl rfl ⟨by decide, by decide⟩ (sf_X12_worthOf_r125 (jr_of rfl (by omega)) (jr_of rfl (by omega)) hD J  (fun v75 h ev75 J S74 => ?_))
                        have Sm := jSm_tr rfl Sm S74
                        show jX m_X12_worth 9 0 0 36 [(0, .ref 125), (1, .int a1), (2, .int a2)] [.int v75] _ 0 0 _
                        refine x_goto (tgt := 40) rfl rfl ?_
                        exact jX.sub jsb_n (ct_X12_worth_r125_40 hD hQ  v75 h (jr_of rfl (by omega)) J Sm)
                ·
                  refine x_iconst (v := 3) rfl ki_3 ?_
                  refine x_goto (tgt := 18) rfl rfl ?_
                  refine x_iret rfl rfl ?_
                  show jX m_X12_isMention 8 0 0 27 [(0, .ref 125), (1, .int a2)] [.int 3, .int v57] _ 0 0 _
                  refine x_icge (tgt := 34) rfl rfl (ti_ge rfl jk_3 (br_f (by omega) ?_))
                  refine x_iconst (v := 1) rfl ki_1 ?_
                  refine x_goto (tgt := 35) rfl rfl ?_
                  refine x_zret rfl rfl (by decide) ?_
                  show jX m_X12_worth 9 0 0 18 [(0, .ref 125), (1, .int a1), (2, .int a2)] [.int 1] _ 0 0 _
                  refine x_ifeq (tgt := 39) rfl rfl (ti_eq jk_1 jk_0 (br_f (by omega) ?_))
                  refine x_aloadn (x := 125) rfl rfl ?_
                  refine x_iloadn (x := a1) rfl rfl ?_
                  refine x_iloadn (x := a2) rfl rfl ?_
                  refine x_inv (N := m_X12_why) (As := [.int a1, .int a2]) (b := 125) (st := []) (dx9 := 6) (mc := 0) (ms := 0) (host := "") 12 rfl t_X12_why ⟨Or.inl q_12_368, i_X12_why.1, i_X12_why.2⟩ ⟨by decide, rfl⟩ (congrArg Prod.fst (J.1.1 125 (12, 92) rfl)) rfl (by decide) rfl rfl ⟨by decide, by decide⟩ (sf_X12_why_r125 (jr_of rfl (by omega)) (jr_of rfl (by omega)) hD J  (fun v77 h ev77 J S76 => ?_))
                  have Sm := jSm_tr rfl Sm S76
                  show jX m_X12_worth 9 0 0 27 [(0, .ref 125), (1, .int a1), (2, .int a2)] [.int v77] _ 0 0 _
                  refine x_ifne (tgt := 39) rfl rfl (ti_ne rfl jk_0 ⟨fun c78 => ?_, fun c78 => ?_⟩)
                  ·
                    exact jX.sub jsb_n (ct_X12_worth_r125_39 hD hQ  h J Sm)
                  ·
                    refine x_aloadn (x := 125) rfl rfl ?_
                    refine x_iloadn (x := a1) rfl rfl ?_
                    refine x_iloadn (x := a2) rfl rfl ?_
                    refine x_inv (N := m_X12_worthOf) (As := [.int a1, .int a2]) (b := 125) (st := []) (dx9 := 8) (mc := 0) (ms := 0) (host := "") 12 rfl t_X12_worthOf ⟨Or.inl q_12_374, i_X12_worthOf.1, i_X12_worthOf.2⟩ ⟨by decide, rfl⟩ (congrArg Prod.fst (J.1.1 125 (12, 92) rfl)) rfl (by decide) rfl rfl ⟨by decide, by decide⟩ (sf_X12_worthOf_r125 (jr_of rfl (by omega)) (jr_of rfl (by omega)) hD J  (fun v80 h ev80 J S79 => ?_))
                    have Sm := jSm_tr rfl Sm S79
                    show jX m_X12_worth 9 0 0 36 [(0, .ref 125), (1, .int a1), (2, .int a2)] [.int v80] _ 0 0 _
                    refine x_goto (tgt := 40) rfl rfl ?_
                    exact jX.sub jsb_n (ct_X12_worth_r125_40 hD hQ  v80 h (jr_of rfl (by omega)) J Sm)
      ·
        refine x_iconst (v := 3) rfl ki_3 ?_
        refine x_goto (tgt := 18) rfl rfl ?_
        refine x_iret rfl rfl ?_
        show jX m_X12_isMention 8 0 0 27 [(0, .ref 125), (1, .int a1)] [.int 3, .int v10] _ 0 0 _
        refine x_icge (tgt := 34) rfl rfl (ti_ge rfl jk_3 (br_f (by omega) ?_))
        refine x_iconst (v := 1) rfl ki_1 ?_
        refine x_goto (tgt := 35) rfl rfl ?_
        refine x_zret rfl rfl (by decide) ?_
        show jX m_X12_worth 9 0 0 10 [(0, .ref 125), (1, .int a1), (2, .int a2)] [.int 1] _ 0 0 _
        refine x_ifeq (tgt := 39) rfl rfl (ti_eq jk_1 jk_0 (br_f (by omega) ?_))
        refine x_aloadn (x := 125) rfl rfl ?_
        refine x_iloadn (x := a2) rfl rfl ?_
        refine x_inv (N := m_X12_isMention) (As := [.int a2]) (b := 125) (st := []) (dx9 := 8) (mc := 0) (ms := 0) (host := "") 12 rfl t_X12_isMention ⟨Or.inl q_12_322, i_X12_isMention.1, i_X12_isMention.2⟩ ⟨by decide, rfl⟩ (congrArg Prod.fst (J.1.1 125 (12, 92) rfl)) rfl (by decide) rfl rfl ⟨by decide, by decide⟩ (jC.of rfl k_X12_isMention rfl ?_)
        show jX m_X12_isMention 8 0 0 0 [(0, .ref 125), (1, .int a2)] [] _ 0 0 _
        refine x_iloadn (x := a2) rfl rfl ?_
        refine x_iflt (tgt := 34) rfl rfl (ti_lt rfl jk_0 ⟨fun c81 => ?_, fun c81 => ?_⟩)
        ·
          refine x_iconst (v := 0) rfl ki_0 ?_
          refine x_zret rfl rfl (by decide) ?_
          show jX m_X12_worth 9 0 0 18 [(0, .ref 125), (1, .int a1), (2, .int a2)] [.int 0] _ 0 0 _
          refine x_ifeq (tgt := 39) rfl rfl (ti_eq jk_0 jk_0 (br_t (by omega) ?_))
          exact jX.sub jsb_n (ct_X12_worth_r125_39 hD hQ  h J Sm)
        ·
          refine x_aloadn (x := 125) rfl rfl ?_
          refine x_iloadn (x := a2) rfl rfl ?_
          refine x_iconst (v := 3) rfl ki_3 ?_
          refine z_idiv rfl rfl jk_3 (by omega) (by omega) (fun v82 ev82 => ?_)
          refine x_inv (N := m_X12_isLine) (As := [.int v82]) (b := 125) (st := []) (dx9 := 7) (mc := 0) (ms := 0) (host := "") 12 rfl t_X12_isLine ⟨Or.inl q_12_293, i_X12_isLine.1, i_X12_isLine.2⟩ ⟨by decide, rfl⟩ (congrArg Prod.fst (J.1.1 125 (12, 92) rfl)) rfl (by decide) rfl rfl ⟨by decide, by decide⟩ (jC.of rfl k_X12_isLine rfl ?_)
          show jX m_X12_isLine 7 0 0 0 [(0, .ref 125), (1, .int v82)] [] _ 0 0 _
          refine x_iloadn (x := v82) rfl rfl ?_
          refine z_i2l rfl rfl (fun v83 ev83 => ?_)
          refine x_lconst (v := 0) rfl kl_0 ?_
          refine x_aloadn (x := 125) rfl rfl ?_
          refine z_getR (N := 92) (b := 126) 12 2 rfl f_12_8 rfl J rfl 16002 ⟨rfl, rfl⟩ rfl ?_
          refine x_iconst (v := 0) rfl ki_0 ?_
          refine z_ialdM (N := 50660) (v := v5) rfl J rfl jk_0 (by omega) qv5 ?_
          refine z_i2l rfl rfl (fun v84 ev84 => ?_)
          refine x_lconst (v := 1) rfl kl_1 ?_
          refine z_lsub rfl rfl jkl_1 (by omega) (fun v85 ev85 => ?_)
          refine x_inst (N := m_X12_in) (As := [.long v83, .long 0, .long v85]) (st := []) (dx9 := 1) (mc := 0) (ms := 0) (host := "") rfl t_X12_in ⟨Or.inl q_12_188, s_X12_in⟩ rfl (by decide) rfl rfl ⟨by decide, by decide⟩ (zc_X12_in rfl jkl_0 rfl (fun v86 ev86 => ?_))
          show jX m_X12_isLine 7 0 0 15 [(0, .ref 125), (1, .int v82)] [.int v86] _ 0 0 _
          refine x_zret rfl rfl (jz01 (by omega)) ?_
          show jX m_X12_isMention 8 0 0 11 [(0, .ref 125), (1, .int a2)] [.int v86] _ 0 0 _
          refine x_ifeq (tgt := 34) rfl rfl (ti_eq rfl jk_0 ⟨fun c87 => ?_, fun c87 => ?_⟩)
          ·
            refine x_iconst (v := 0) rfl ki_0 ?_
            refine x_zret rfl rfl (by decide) ?_
            show jX m_X12_worth 9 0 0 18 [(0, .ref 125), (1, .int a1), (2, .int a2)] [.int 0] _ 0 0 _
            refine x_ifeq (tgt := 39) rfl rfl (ti_eq jk_0 jk_0 (br_t (by omega) ?_))
            exact jX.sub jsb_n (ct_X12_worth_r125_39 hD hQ  h J Sm)
          ·
            refine x_iloadn (x := a2) rfl rfl ?_
            refine x_iconst (v := 3) rfl ki_3 ?_
            refine z_irem rfl rfl jk_3 (by omega) (by omega) (fun v88 ev88 => ?_)
            refine x_aloadn (x := 125) rfl rfl ?_
            refine x_iloadn (x := a2) rfl rfl ?_
            refine x_iconst (v := 3) rfl ki_3 ?_
            refine z_idiv rfl rfl jk_3 (by omega) (by omega) (fun v89 ev89 => ?_)
            refine x_inv (N := m_X12_bookOf) (As := [.int v89]) (b := 125) (st := [.int v88]) (dx9 := 7) (mc := 0) (ms := 0) (host := "") 12 rfl t_X12_bookOf ⟨Or.inl q_12_299, i_X12_bookOf.1, i_X12_bookOf.2⟩ ⟨by decide, rfl⟩ (congrArg Prod.fst (J.1.1 125 (12, 92) rfl)) rfl (by decide) rfl rfl ⟨by decide, by decide⟩ (jC.of rfl k_X12_bookOf rfl ?_)
            show jX m_X12_bookOf 7 0 0 0 [(0, .ref 125), (1, .int v89)] [] _ 0 0 _
            refine x_aloadn (x := 125) rfl rfl ?_
            refine z_getR (N := 92) (b := 126) 12 2 rfl f_12_8 rfl J rfl 16002 ⟨rfl, rfl⟩ rfl ?_
            refine x_aloadn (x := 125) rfl rfl ?_
            refine x_iloadn (x := v89) rfl rfl ?_
            refine x_inv (N := m_X12_at) (As := [.int v89]) (b := 125) (st := [.ref 126]) (dx9 := 6) (mc := 0) (ms := 0) (host := "") 12 rfl t_X12_at ⟨Or.inl q_12_254, i_X12_at.1, i_X12_at.2⟩ ⟨by decide, rfl⟩ (congrArg Prod.fst (J.1.1 125 (12, 92) rfl)) rfl (by decide) rfl rfl ⟨by decide, by decide⟩ (jC.of rfl k_X12_at rfl ?_)
            show jX m_X12_at 6 0 0 0 [(0, .ref 125), (1, .int v89)] [] _ 0 0 _
            refine x_bipush (v := 20) rfl kb_20 ?_
            refine x_bipush (v := 90) rfl kb_90 ?_
            refine x_iloadn (x := v89) rfl rfl ?_
            refine z_imul rfl jk_90 rfl (by omega) (fun v90 ev90 => ?_)
            refine z_iadd rfl jk_20 rfl (by omega) (fun v91 ev91 => ?_)
            refine x_iret rfl rfl ?_
            show jX m_X12_bookOf 7 0 0 9 [(0, .ref 125), (1, .int v89)] [.int v91, .ref 126] _ 0 0 _
            refine z_iald (N := 50660) rfl J rfl sg_126_20_18020_90_0_1 rfl (by omega) (fun v92 qv92 ev92 => ?_)
            refine x_iret rfl rfl ?_
            show jX m_X12_isMention 8 0 0 24 [(0, .ref 125), (1, .int a2)] [.int v92, .int v88] _ 0 0 _
            refine x_inst (N := m_X12_rolesOf) (As := [.int v92]) (st := [.int v88]) (dx9 := 7) (mc := 0) (ms := 0) (host := "") rfl t_X12_rolesOf ⟨Or.inl q_12_286, s_X12_rolesOf⟩ rfl (by decide) rfl rfl ⟨by decide, by decide⟩ (jC.of rfl k_X12_rolesOf rfl ?_)
            show jX m_X12_rolesOf 7 0 0 0 [(0, .int v92)] [] _ 0 0 _
            refine x_iloadn (x := v92) rfl rfl ?_
            refine x_ifne (tgt := 8) rfl rfl (ti_ne rfl jk_0 ⟨fun c93 => ?_, fun c93 => ?_⟩)
            ·
              refine x_iloadn (x := v92) rfl rfl ?_
              refine x_iconst (v := 1) rfl ki_1 ?_
              refine x_icne (tgt := 17) rfl rfl (ti_ne rfl jk_1 ⟨fun c94 => ?_, fun c94 => ?_⟩)
              ·
                refine x_iconst (v := 1) rfl ki_1 ?_
                refine x_iret rfl rfl ?_
                show jX m_X12_isMention 8 0 0 27 [(0, .ref 125), (1, .int a2)] [.int 1, .int v88] _ 0 0 _
                refine x_icge (tgt := 34) rfl rfl (ti_ge rfl jk_1 ⟨fun c95 => ?_, fun c95 => ?_⟩)
                ·
                  refine x_iconst (v := 0) rfl ki_0 ?_
                  refine x_zret rfl rfl (by decide) ?_
                  show jX m_X12_worth 9 0 0 18 [(0, .ref 125), (1, .int a1), (2, .int a2)] [.int 0] _ 0 0 _
                  refine x_ifeq (tgt := 39) rfl rfl (ti_eq jk_0 jk_0 (br_t (by omega) ?_))
                  exact jX.sub jsb_n (ct_X12_worth_r125_39 hD hQ  h J Sm)
                ·
                  refine x_iconst (v := 1) rfl ki_1 ?_
                  refine x_goto (tgt := 35) rfl rfl ?_
                  refine x_zret rfl rfl (by decide) ?_
                  show jX m_X12_worth 9 0 0 18 [(0, .ref 125), (1, .int a1), (2, .int a2)] [.int 1] _ 0 0 _
                  refine x_ifeq (tgt := 39) rfl rfl (ti_eq jk_1 jk_0 (br_f (by omega) ?_))
                  refine x_aloadn (x := 125) rfl rfl ?_
                  refine x_iloadn (x := a1) rfl rfl ?_
                  refine x_iloadn (x := a2) rfl rfl ?_
                  refine x_inv (N := m_X12_why) (As := [.int a1, .int a2]) (b := 125) (st := []) (dx9 := 6) (mc := 0) (ms := 0) (host := "") 12 rfl t_X12_why ⟨Or.inl q_12_368, i_X12_why.1, i_X12_why.2⟩ ⟨by decide, rfl⟩ (congrArg Prod.fst (J.1.1 125 (12, 92) rfl)) rfl (by decide) rfl rfl ⟨by decide, by decide⟩ (sf_X12_why_r125 (jr_of rfl (by omega)) (jr_of rfl (by omega)) hD J  (fun v97 h ev97 J S96 => ?_))
                  have Sm := jSm_tr rfl Sm S96
                  show jX m_X12_worth 9 0 0 27 [(0, .ref 125), (1, .int a1), (2, .int a2)] [.int v97] _ 0 0 _
                  refine x_ifne (tgt := 39) rfl rfl (ti_ne rfl jk_0 ⟨fun c98 => ?_, fun c98 => ?_⟩)
                  ·
                    exact jX.sub jsb_n (ct_X12_worth_r125_39 hD hQ  h J Sm)
                  ·
                    refine x_aloadn (x := 125) rfl rfl ?_
                    refine x_iloadn (x := a1) rfl rfl ?_
                    refine x_iloadn (x := a2) rfl rfl ?_
                    refine x_inv (N := m_X12_worthOf) (As := [.int a1, .int a2]) (b := 125) (st := []) (dx9 := 8) (mc := 0) (ms := 0) (host := "") 12 rfl t_X12_worthOf ⟨Or.inl q_12_374, i_X12_worthOf.1, i_X12_worthOf.2⟩ ⟨by decide, rfl⟩ (congrArg Prod.fst (J.1.1 125 (12, 92) rfl)) rfl (by decide) rfl rfl ⟨by decide, by decide⟩ (sf_X12_worthOf_r125 (jr_of rfl (by omega)) (jr_of rfl (by omega)) hD J  (fun v100 h ev100 J S99 => ?_))
                    have Sm := jSm_tr rfl Sm S99
                    show jX m_X12_worth 9 0 0 36 [(0, .ref 125), (1, .int a1), (2, .int a2)] [.int v100] _ 0 0 _
                    refine x_goto (tgt := 40) rfl rfl ?_
                    exact jX.sub jsb_n (ct_X12_worth_r125_40 hD hQ  v100 h (jr_of rfl (by omega)) J Sm)
              ·
                refine x_iconst (v := 2) rfl ki_2 ?_
                refine x_goto (tgt := 18) rfl rfl ?_
                refine x_iret rfl rfl ?_
                show jX m_X12_isMention 8 0 0 27 [(0, .ref 125), (1, .int a2)] [.int 2, .int v88] _ 0 0 _
                refine x_icge (tgt := 34) rfl rfl (ti_ge rfl jk_2 ⟨fun c101 => ?_, fun c101 => ?_⟩)
                ·
                  refine x_iconst (v := 0) rfl ki_0 ?_
                  refine x_zret rfl rfl (by decide) ?_
                  show jX m_X12_worth 9 0 0 18 [(0, .ref 125), (1, .int a1), (2, .int a2)] [.int 0] _ 0 0 _
                  refine x_ifeq (tgt := 39) rfl rfl (ti_eq jk_0 jk_0 (br_t (by omega) ?_))
                  exact jX.sub jsb_n (ct_X12_worth_r125_39 hD hQ  h J Sm)
                ·
                  refine x_iconst (v := 1) rfl ki_1 ?_
                  refine x_goto (tgt := 35) rfl rfl ?_
                  refine x_zret rfl rfl (by decide) ?_
                  show jX m_X12_worth 9 0 0 18 [(0, .ref 125), (1, .int a1), (2, .int a2)] [.int 1] _ 0 0 _
                  refine x_ifeq (tgt := 39) rfl rfl (ti_eq jk_1 jk_0 (br_f (by omega) ?_))
                  refine x_aloadn (x := 125) rfl rfl ?_
                  refine x_iloadn (x := a1) rfl rfl ?_
                  refine x_iloadn (x := a2) rfl rfl ?_
                  refine x_inv (N := m_X12_why) (As := [.int a1, .int a2]) (b := 125) (st := []) (dx9 := 6) (mc := 0) (ms := 0) (host := "") 12 rfl t_X12_why ⟨Or.inl q_12_368, i_X12_why.1, i_X12_why.2⟩ ⟨by decide, rfl⟩ (congrArg Prod.fst (J.1.1 125 (12, 92) rfl)) rfl (by decide) rfl rfl ⟨by decide, by decide⟩ (sf_X12_why_r125 (jr_of rfl (by omega)) (jr_of rfl (by omega)) hD J  (fun v103 h ev103 J S102 => ?_))
                  have Sm := jSm_tr rfl Sm S102
                  show jX m_X12_worth 9 0 0 27 [(0, .ref 125), (1, .int a1), (2, .int a2)] [.int v103] _ 0 0 _
                  refine x_ifne (tgt := 39) rfl rfl (ti_ne rfl jk_0 ⟨fun c104 => ?_, fun c104 => ?_⟩)
                  ·
                    exact jX.sub jsb_n (ct_X12_worth_r125_39 hD hQ  h J Sm)
                  ·
                    refine x_aloadn (x := 125) rfl rfl ?_
                    refine x_iloadn (x := a1) rfl rfl ?_
                    refine x_iloadn (x := a2) rfl rfl ?_
                    refine x_inv (N := m_X12_worthOf) (As := [.int a1, .int a2]) (b := 125) (st := []) (dx9 := 8) (mc := 0) (ms := 0) (host := "") 12 rfl t_X12_worthOf ⟨Or.inl q_12_374, i_X12_worthOf.1, i_X12_worthOf.2⟩ ⟨by decide, rfl⟩ (congrArg Prod.fst (J.1.1 125 (12, 92) rfl)) rfl (by decide) rfl rfl ⟨by decide, by decide⟩ (sf_X12_worthOf_r125 (jr_of rfl (by omega)) (jr_of rfl (by omega)) hD J  (fun v106 h ev106 J S105 => ?_))
                    have Sm := jSm_tr rfl Sm S105
                    show jX m_X12_worth 9 0 0 36 [(0, .ref 125), (1, .int a1), (2, .int a2)] [.int v106] _ 0 0 _
                    refine x_goto (tgt := 40) rfl rfl ?_
                    exact jX.sub jsb_n (ct_X12_worth_r125_40 hD hQ  v106 h (jr_of rfl (by omega)) J Sm)
            ·
              refine x_iconst (v := 3) rfl ki_3 ?_
              refine x_goto (tgt := 18) rfl rfl ?_
              refine x_iret rfl rfl ?_
              show jX m_X12_isMention 8 0 0 27 [(0, .ref 125), (1, .int a2)] [.int 3, .int v88] _ 0 0 _
              refine x_icge (tgt := 34) rfl rfl (ti_ge rfl jk_3 (br_f (by omega) ?_))
              refine x_iconst (v := 1) rfl ki_1 ?_
              refine x_goto (tgt := 35) rfl rfl ?_
              refine x_zret rfl rfl (by decide) ?_
              show jX m_X12_worth 9 0 0 18 [(0, .ref 125), (1, .int a1), (2, .int a2)] [.int 1] _ 0 0 _
              refine x_ifeq (tgt := 39) rfl rfl (ti_eq jk_1 jk_0 (br_f (by omega) ?_))
              refine x_aloadn (x := 125) rfl rfl ?_
              refine x_iloadn (x := a1) rfl rfl ?_
              refine x_iloadn (x := a2) rfl rfl ?_
              refine x_inv (N := m_X12_why) (As := [.int a1, .int a2]) (b := 125) (st := []) (dx9 := 6) (mc := 0) (ms := 0) (host := "") 12 rfl t_X12_why ⟨Or.inl q_12_368, i_X12_why.1, i_X12_why.2⟩ ⟨by decide, rfl⟩ (congrArg Prod.fst (J.1.1 125 (12, 92) rfl)) rfl (by decide) rfl rfl ⟨by decide, by decide⟩ (sf_X12_why_r125 (jr_of rfl (by omega)) (jr_of rfl (by omega)) hD J  (fun v108 h ev108 J S107 => ?_))
              have Sm := jSm_tr rfl Sm S107
              show jX m_X12_worth 9 0 0 27 [(0, .ref 125), (1, .int a1), (2, .int a2)] [.int v108] _ 0 0 _
              refine x_ifne (tgt := 39) rfl rfl (ti_ne rfl jk_0 ⟨fun c109 => ?_, fun c109 => ?_⟩)
              ·
                exact jX.sub jsb_n (ct_X12_worth_r125_39 hD hQ  h J Sm)
              ·
                refine x_aloadn (x := 125) rfl rfl ?_
                refine x_iloadn (x := a1) rfl rfl ?_
                refine x_iloadn (x := a2) rfl rfl ?_
                refine x_inv (N := m_X12_worthOf) (As := [.int a1, .int a2]) (b := 125) (st := []) (dx9 := 8) (mc := 0) (ms := 0) (host := "") 12 rfl t_X12_worthOf ⟨Or.inl q_12_374, i_X12_worthOf.1, i_X12_worthOf.2⟩ ⟨by decide, rfl⟩ (congrArg Prod.fst (J.1.1 125 (12, 92) rfl)) rfl (by decide) rfl rfl ⟨by decide, by decide⟩ (sf_X12_worthOf_r125 (jr_of rfl (by omega)) (jr_of rfl (by omega)) hD J  (fun v111 h ev111 J S110 => ?_))
                have Sm := jSm_tr rfl Sm S110
                show jX m_X12_worth 9 0 0 36 [(0, .ref 125), (1, .int a1), (2, .int a2)] [.int v111] _ 0 0 _
                refine x_goto (tgt := 40) rfl rfl ?_
                exact jX.sub jsb_n (ct_X12_worth_r125_40 hD hQ  v111 h (jr_of rfl (by omega)) J Sm)
