def fp_X12_holding_r125d : jFp := [(125, 0, 1), (125, 1, 2), (126, 7, 8), (126, 16, 17), (126, 49920, 50660)]
set_option maxRecDepth 100000 in
set_option maxHeartbeats 4000000 in
theorem sf_X12_holding_r125d {Dy : jH → Prop} {h : jH} {Q : Option Value → jH → Prop} {dr : (Int × jW)} (hD : jDk Dy) (J : jJ jSgM Dy h) {p0 p1 p2 p3 p4 : Int32} {p5 p6 : Int32} (zp0 : jiv h 126 (16 : Int32).toNatClampNeg = p0) (zp1 : jiv h 126 (0 : Int32).toNatClampNeg = p1) (zp2 : jiv h 126 (4 : Int32).toNatClampNeg = p2) (zp3 : jiv h 126 (5 : Int32).toNatClampNeg = p3) (zp4 : jiv h 126 (7 : Int32).toNatClampNeg = p4) (rl_p0 : p0.toInt = p1.toInt + p2.toInt + p3.toInt + p4.toInt) (zp5 : jiv h 126 (9 : Int32).toNatClampNeg = p5) (zp6 : jiv h 126 (7 : Int32).toNatClampNeg = p6) (rl_p5 : p5.toInt ≤ p6.toInt) (D : d_X12_holding_r125d (vw h) = dr) (hQ : ∀ (v : Int32) hx9, jJ jSgM Dy hx9 → jSm fp_X12_holding_r125d h hx9 → ∀ u0 u1 u2 u3 u4 : Int32, jiv hx9 126 (16 : Int32).toNatClampNeg = u0 → jiv hx9 126 (0 : Int32).toNatClampNeg = u1 → jiv hx9 126 (4 : Int32).toNatClampNeg = u2 → jiv hx9 126 (5 : Int32).toNatClampNeg = u3 → jiv hx9 126 (7 : Int32).toNatClampNeg = u4 → u0.toInt = u1.toInt + u2.toInt + u3.toInt + u4.toInt → ∀ u5 u6 : Int32, jiv hx9 126 (9 : Int32).toNatClampNeg = u5 → jiv hx9 126 (7 : Int32).toNatClampNeg = u6 → u5.toInt ≤ u6.toInt → dr.1 = v.toInt → dr.2 = vw hx9 → Q (some (.int v)) hx9) : jC m_X12_holding 2 0 0 [.ref 125] h Q := by
  refine jC.of rfl k_X12_holding rfl ?_
  have Sm := jSm_rf fp_X12_holding_r125d h
  have ep0 := (show 0 ≤ p0.toInt ∧ p0.toInt ≤ 370 from zp0 ▸ jrg_c J sg_126_16_17_1_0_1 jk_16 (by omega))
  have ep1 := (show 0 ≤ p1.toInt ∧ p1.toInt ≤ 200 from zp1 ▸ jrg_c J sg_126_0_1_1_0_1 jk_0 (by omega))
  have ep2 := (show 0 ≤ p2.toInt ∧ p2.toInt ≤ 30 from zp2 ▸ jrg_c J sg_126_4_5_1_0_1 jk_4 (by omega))
  have ep3 := (show 0 ≤ p3.toInt ∧ p3.toInt ≤ 100 from zp3 ▸ jrg_c J sg_126_5_6_1_0_1 jk_5 (by omega))
  have ep4 := (show 0 ≤ p4.toInt ∧ p4.toInt ≤ 40 from zp4 ▸ jrg_c J sg_126_7_8_1_0_1 jk_7 (by omega))
  have ep5 := (show 0 ≤ p5.toInt ∧ p5.toInt ≤ 40 from zp5 ▸ jrg_c J sg_126_9_10_1_0_1 jk_9 (by omega))
  have ep6 := (show 0 ≤ p6.toInt ∧ p6.toInt ≤ 40 from zp6 ▸ jrg_c J sg_126_7_8_1_0_1 jk_7 (by omega))
  obtain rfl : p4 = p6 := zp4.symm.trans zp6
  show jX m_X12_holding 2 0 0 0 [(0, .ref 125)] [] _ 0 0 _
  unfold d_X12_holding_r125d at D
  try rw [vrn (n := 16) (by decide) zp0] at D
  try rw [vrn (n := 0) (by decide) zp1] at D
  try rw [vrn (n := 4) (by decide) zp2] at D
  try rw [vrn (n := 5) (by decide) zp3] at D
  try rw [vrn (n := 7) (by decide) zp4] at D
  try rw [vrn (n := 9) (by decide) zp5] at D
  try rw [vrn (n := 7) (by decide) zp6] at D
  refine x_aloadn (x := 125) rfl rfl ?_
  refine x_iconst (v := 0) rfl ki_0 ?_
  refine z_putI (N := 92) (w := 0) 12 0 rfl f_12_180 rfl (jfin_no TX12 RX12 92 rfl rfl) hD J Sm rfl rfl jk_0 (pw_125_0 (by omega)) rfl (fun h w1 J Sm => ?_)
  rw [vwf w1 (show 0 = (0 : Int32).toInt from by have := jk_0; omega)] at D
  refine x_aloadn (x := 125) rfl rfl ?_
  refine z_getR (N := 92) (b := 126) 12 2 rfl f_12_8 rfl J rfl 16002 ⟨rfl, rfl⟩ rfl ?_
  refine x_bipush (v := 7) rfl kb_7 ?_
  refine z_ialdM (N := 50660) (v := p4) rfl J rfl jk_7 (by omega) (jmo w1 rfl zp4) ?_
  refine x_bipush (v := 40) rfl kb_40 ?_
  refine x_icne (tgt := 24) rfl rfl (ti_ne rfl jk_40 ⟨fun c2 => ?_, fun c2 => ?_⟩)
  ·
    rw [if_neg (by omega)] at D
    refine x_aloadn (x := 125) rfl rfl ?_
    refine z_getR (N := 92) (b := 126) 12 2 rfl f_12_8 rfl J rfl 16002 ⟨rfl, rfl⟩ rfl ?_
    refine x_bipush (v := 7) rfl kb_7 ?_
    refine x_dup2 rfl rfl rfl ?_
    refine z_ialdM (N := 50660) (v := p4) rfl J rfl jk_7 (by omega) (jmo w1 rfl zp4) ?_
    refine x_iconst (v := 1) rfl ki_1 ?_
    refine z_iadd rfl rfl jk_1 (by omega) (fun v3 ev3 => ?_)
    refine z_iast (N := 50660) (l := 7) (u := 8) (w := v3.toInt) rfl hD J Sm rfl rfl jk_7 (by omega) rfl (wr_126_7 (by omega) (fun q1 q2 q3 q4 => by omega)) rfl (fun h w4 J Sm => ?_)
    rw [vwn (n := 7) (by decide) w4 (show (p4.toInt + 1) = v3.toInt from by omega)] at D
    refine x_aloadn (x := 125) rfl rfl ?_
    refine x_iconst (v := 3) rfl ki_3 ?_
    refine x_aloadn (x := 125) rfl rfl ?_
    refine z_getR (N := 92) (b := 126) 12 2 rfl f_12_8 rfl J rfl 16002 ⟨rfl, rfl⟩ rfl ?_
    refine x_bipush (v := 7) rfl kb_7 ?_
    refine z_ialdM (N := 50660) (v := v3) rfl J rfl jk_7 (by omega) (jmw w4) ?_
    refine x_iconst (v := 1) rfl ki_1 ?_
    refine z_isub rfl rfl jk_1 (by omega) (fun v5 ev5 => ?_)
    refine x_inv (N := m_X12_thing) (As := [.int 3, .int v5]) (b := 125) (st := []) (dx9 := 1) (mc := 0) (ms := 0) (host := "") 12 rfl t_X12_thing ⟨Or.inl q_12_289, i_X12_thing.1, i_X12_thing.2⟩ ⟨by decide, rfl⟩ (congrArg Prod.fst (J.1.1 125 (12, 92) rfl)) rfl (by decide) rfl rfl ⟨by decide, by decide⟩ (jC.of rfl k_X12_thing rfl ?_)
    show jX m_X12_thing 1 0 0 0 [(0, .ref 125), (1, .int 3), (2, .int v5)] [] _ 0 0 _
    refine x_ldc (v := 49920) rfl z_12_194 ?_
    refine x_iconst (v := 2) rfl ki_2 ?_
    refine x_aloadn (x := 125) rfl rfl ?_
    refine z_getR (N := 92) (b := 126) 12 2 rfl f_12_8 rfl J rfl 16002 ⟨rfl, rfl⟩ rfl ?_
    refine x_bipush (v := 16) rfl kb_16 ?_
    refine z_ialdM (N := 50660) (v := p0) rfl J rfl jk_16 (by omega) (jmo2 w4 jk_7 jk_16 (by omega) (jmo w1 rfl zp0)) ?_
    refine z_imul rfl jk_2 rfl (by omega) (fun v6 ev6 => ?_)
    refine z_iadd rfl jk_49920 rfl (by omega) (fun v7 ev7 => ?_)
    refine x_istoren (lsx9 := [(3, .int v7), (0, .ref 125), (1, .int 3), (2, .int v5)]) rfl rfl rfl ?_
    refine x_aloadn (x := 125) rfl rfl ?_
    refine z_getR (N := 92) (b := 126) 12 2 rfl f_12_8 rfl J rfl 16002 ⟨rfl, rfl⟩ rfl ?_
    refine x_iloadn (x := v7) rfl rfl ?_
    refine x_iloadn (x := 3) rfl rfl ?_
    refine z_iast (N := 50660) (l := 49920) (u := 50660) (w := 3) rfl hD J Sm rfl rfl rfl (by omega) jk_3 (wr_126_49920 (by omega) (fun q1 q2 q3 q4 => by omega) (fun q1 q2 q3 q4 => by omega)) rfl (fun h w8 J Sm => ?_)
    rw [vww w8 (show (49920 + (2 * p0.toInt)) = v7.toInt from by omega) (show 3 = (3 : Int32).toInt from by have := jk_3; omega)] at D
    refine x_aloadn (x := 125) rfl rfl ?_
    refine z_getR (N := 92) (b := 126) 12 2 rfl f_12_8 rfl J rfl 16002 ⟨rfl, rfl⟩ rfl ?_
    refine x_iloadn (x := v7) rfl rfl ?_
    refine x_iconst (v := 1) rfl ki_1 ?_
    refine z_iadd rfl rfl jk_1 (by omega) (fun v9 ev9 => ?_)
    refine x_iloadn (x := v5) rfl rfl ?_
    refine z_iast (N := 50660) (l := 49920) (u := 50660) (w := v5.toInt) rfl hD J Sm rfl rfl rfl (by omega) rfl (wr_126_49920 (by omega) (fun q1 q2 q3 q4 => by omega) (fun q1 q2 q3 q4 => by omega)) rfl (fun h w10 J Sm => ?_)
    rw [vww w10 (show ((49920 + (2 * p0.toInt)) + 1) = v9.toInt from by omega) (show ((p4.toInt + 1) - 1) = v5.toInt from by omega)] at D
    refine x_aloadn (x := 125) rfl rfl ?_
    refine z_getR (N := 92) (b := 126) 12 2 rfl f_12_8 rfl J rfl 16002 ⟨rfl, rfl⟩ rfl ?_
    refine x_bipush (v := 16) rfl kb_16 ?_
    refine x_dup2 rfl rfl rfl ?_
    refine z_ialdM (N := 50660) (v := p0) rfl J rfl jk_16 (by omega) (jmo2 w10 rfl jk_16 (by omega) (jmo2 w8 rfl jk_16 (by omega) (jmo2 w4 jk_7 jk_16 (by omega) (jmo w1 rfl zp0)))) ?_
    refine x_iconst (v := 1) rfl ki_1 ?_
    refine z_iadd rfl rfl jk_1 (by omega) (fun v11 ev11 => ?_)
    refine z_iast (N := 50660) (l := 16) (u := 17) (w := v11.toInt) rfl hD J Sm rfl rfl jk_16 (by omega) rfl (wr_126_16 (by omega) (fun q1 q2 q3 q4 => by omega)) rfl (fun h w12 J Sm => ?_)
    rw [vwn (n := 16) (by decide) w12 (show (p0.toInt + 1) = v11.toInt from by omega)] at D
    refine x_vret rfl rfl ?_
    show jX m_X12_holding 2 0 0 49 [(0, .ref 125)] [] _ 0 0 _
    refine x_aloadn (x := 125) rfl rfl ?_
    refine x_aloadn (x := 125) rfl rfl ?_
    refine z_getR (N := 92) (b := 126) 12 2 rfl f_12_8 rfl J rfl 16002 ⟨rfl, rfl⟩ rfl ?_
    refine x_bipush (v := 7) rfl kb_7 ?_
    refine z_ialdM (N := 50660) (v := v3) rfl J rfl jk_7 (by omega) (jmo2 w12 jk_16 jk_7 (by omega) (jmo2 w10 rfl jk_7 (by omega) (jmo2 w8 rfl jk_7 (by omega) (jmw w4)))) ?_
    refine x_iconst (v := 1) rfl ki_1 ?_
    refine z_isub rfl rfl jk_1 (by omega) (fun v13 ev13 => ?_)
    try rw [show ((p4.toInt + 1) - 1) = v13.toInt from by omega] at D
    refine x_inv (N := m_X12_told) (As := [.int v13]) (b := 125) (st := []) (dx9 := 1) (mc := 0) (ms := 0) (host := "") 12 rfl t_X12_told ⟨Or.inl q_12_197, i_X12_told.1, i_X12_told.2⟩ ⟨by decide, rfl⟩ (congrArg Prod.fst (J.1.1 125 (12, 92) rfl)) rfl (by decide) rfl rfl ⟨by decide, by decide⟩ (sf_X12_told_r125d  hD J rfl  (fun v17 h J S14 X15 X16 => ?_))
    have ev17 := jfull v17
    have Sm := jSm_tr rfl Sm S14
    try rw [X15] at D
    try rw [X16] at D
    show jX m_X12_holding 2 0 0 62 [(0, .ref 125)] [.int v17] _ 0 0 _
    refine x_iret rfl rfl ?_
    exact hQ _ _ J Sm _ _ _ _ _ (jmc S14 rfl (jmw w12)) (jmc S14 rfl (jmo2 w12 jk_16 jk_0 (by omega) (jmo2 w10 rfl jk_0 (by omega) (jmo2 w8 rfl jk_0 (by omega) (jmo2 w4 jk_7 jk_0 (by omega) (jmo w1 rfl zp1)))))) (jmc S14 rfl (jmo2 w12 jk_16 jk_4 (by omega) (jmo2 w10 rfl jk_4 (by omega) (jmo2 w8 rfl jk_4 (by omega) (jmo2 w4 jk_7 jk_4 (by omega) (jmo w1 rfl zp2)))))) (jmc S14 rfl (jmo2 w12 jk_16 jk_5 (by omega) (jmo2 w10 rfl jk_5 (by omega) (jmo2 w8 rfl jk_5 (by omega) (jmo2 w4 jk_7 jk_5 (by omega) (jmo w1 rfl zp3)))))) (jmc S14 rfl (jmo2 w12 jk_16 jk_7 (by omega) (jmo2 w10 rfl jk_7 (by omega) (jmo2 w8 rfl jk_7 (by omega) (jmw w4))))) (by omega) _ _ (jmc S14 rfl (jmo2 w12 jk_16 jk_9 (by omega) (jmo2 w10 rfl jk_9 (by omega) (jmo2 w8 rfl jk_9 (by omega) (jmo2 w4 jk_7 jk_9 (by omega) (jmo w1 rfl zp5)))))) (jmc S14 rfl (jmo2 w12 jk_16 jk_7 (by omega) (jmo2 w10 rfl jk_7 (by omega) (jmo2 w8 rfl jk_7 (by omega) (jmw w4))))) (by omega) ((congrArg Prod.fst D).symm.trans X15) ((congrArg Prod.snd D).symm.trans X16)
  ·
    rw [if_pos (by omega)] at D
    refine x_aloadn (x := 125) rfl rfl ?_
    refine x_bipush (v := (-5)) rfl kb_m5 ?_
    refine x_inv (N := m_X12_told) (As := [.int (-5)]) (b := 125) (st := []) (dx9 := 1) (mc := 0) (ms := 0) (host := "") 12 rfl t_X12_told ⟨Or.inl q_12_197, i_X12_told.1, i_X12_told.2⟩ ⟨by decide, rfl⟩ (congrArg Prod.fst (J.1.1 125 (12, 92) rfl)) rfl (by decide) rfl rfl ⟨by decide, by decide⟩ (sf_X12_told_r125d  hD J rfl  (fun v21 h J S18 X19 X20 => ?_))
    have ev21 := jfull v21
    have Sm := jSm_tr rfl Sm S18
    try rw [jk_m5] at X19
    try rw [jk_m5] at X20
    try rw [X19] at D
    try rw [X20] at D
    show jX m_X12_holding 2 0 0 23 [(0, .ref 125)] [.int v21] _ 0 0 _
    refine x_iret rfl rfl ?_
    exact hQ _ _ J Sm _ _ _ _ _ (jmc S18 rfl (jmo w1 rfl zp0)) (jmc S18 rfl (jmo w1 rfl zp1)) (jmc S18 rfl (jmo w1 rfl zp2)) (jmc S18 rfl (jmo w1 rfl zp3)) (jmc S18 rfl (jmo w1 rfl zp4)) (by omega) _ _ (jmc S18 rfl (jmo w1 rfl zp5)) (jmc S18 rfl (jmo w1 rfl zp4)) (by omega) ((congrArg Prod.fst D).symm.trans X19) ((congrArg Prod.snd D).symm.trans X20)
def fp_X12_holds_r125d : jFp := [(125, 0, 1), (125, 28, 29), (125, 31, 32), (125, 32, 33), (125, 33, 34), (125, 34, 35), (125, 35, 36), (125, 57, 58), (125, 61, 62), (125, 62, 63), (125, 63, 64), (137, 0, 80), (138, 0, 2), (139, 0, 600), (140, 0, 200), (152, 0, 360), (153, 0, 30), (154, 0, 400), (162, 0, 40), (163, 0, 40), (164, 0, 40)]
set_option maxRecDepth 100000 in
set_option maxHeartbeats 4000000 in
theorem ct_X12_holds_r125d_37 {Dy : jH → Prop} {h0 : jH} {Q : Option Value → jH → Prop} {dr : (Int × jW)} (hD : jDk Dy) (hQ : ∀ (v : Int32) hx9, (-1) ≤ v.toInt ∧ v.toInt ≤ 1 → jJ jSgM Dy hx9 → jSm fp_X12_holds_r125d h0 hx9 → dr.1 = v.toInt → dr.2 = vw hx9 → Q (some (.int v)) hx9) : ∀ (h : jH), jJ jSgM Dy h → jSm fp_X12_holds_r125d h0 h → d_X12_holds_r125d_37  (vw h) = dr → jX m_X12_holds 11 0 0 37 [] [] h 0 0 Q := by
  intro  h    J Sm D
  unfold d_X12_holds_r125d_37 at D
  refine x_iconst (v := (-1)) rfl ki_m1 ?_
  refine x_iret rfl rfl ?_
  exact hQ _ _ (jr_of jk_m1 (by omega)) J Sm ((congrArg Prod.fst D).symm.trans (show (-1) = ((-1) : Int32).toInt from by have := jk_m1; omega)) (congrArg Prod.snd D).symm
set_option maxRecDepth 100000 in
set_option maxHeartbeats 4000000 in
theorem ct_X12_holds_r125d_200057 {Dy : jH → Prop} {h0 : jH} {Q : Option Value → jH → Prop} {dr : (Int × jW)} (hD : jDk Dy) (hQ : ∀ (v : Int32) hx9, (-1) ≤ v.toInt ∧ v.toInt ≤ 1 → jJ jSgM Dy hx9 → jSm fp_X12_holds_r125d h0 hx9 → dr.1 = v.toInt → dr.2 = vw hx9 → Q (some (.int v)) hx9) : ∀ (h : jH), jJ jSgM Dy h → jSm fp_X12_holds_r125d h0 h → d_X12_holds_r125d_200057  (vw h) = dr → jX m_X12_holds 11 0 0 57 [] [.int 0] h 0 0 Q := by
  intro  h    J Sm D
  unfold d_X12_holds_r125d_200057 at D
  refine x_iret rfl rfl ?_
  exact hQ _ _ (jr_of jk_0 (by omega)) J Sm ((congrArg Prod.fst D).symm.trans (show 0 = (0 : Int32).toInt from by have := jk_0; omega)) (congrArg Prod.snd D).symm
set_option maxRecDepth 100000 in
set_option maxHeartbeats 4000000 in
theorem ct_X12_holds_r125d_300057 {Dy : jH → Prop} {h0 : jH} {Q : Option Value → jH → Prop} {dr : (Int × jW)} (hD : jDk Dy) (hQ : ∀ (v : Int32) hx9, (-1) ≤ v.toInt ∧ v.toInt ≤ 1 → jJ jSgM Dy hx9 → jSm fp_X12_holds_r125d h0 hx9 → dr.1 = v.toInt → dr.2 = vw hx9 → Q (some (.int v)) hx9) : ∀ (h : jH), jJ jSgM Dy h → jSm fp_X12_holds_r125d h0 h → d_X12_holds_r125d_300057  (vw h) = dr → jX m_X12_holds 11 0 0 57 [] [.int 1] h 0 0 Q := by
  intro  h    J Sm D
  unfold d_X12_holds_r125d_300057 at D
  refine x_iret rfl rfl ?_
  exact hQ _ _ (jr_of jk_1 (by omega)) J Sm ((congrArg Prod.fst D).symm.trans (show 1 = (1 : Int32).toInt from by have := jk_1; omega)) (congrArg Prod.snd D).symm
set_option maxRecDepth 100000 in
set_option maxHeartbeats 4000000 in
theorem sf_X12_holds_r125d {Dy : jH → Prop} {h : jH} {Q : Option Value → jH → Prop} {dr : (Int × jW)} {a1 : Int32} {a2 : Int32} {a3 : Int32} {a4 : Int32} {a5 : Int32} (hD : jDk Dy) (J : jJ jSgM Dy h) (D : d_X12_holds_r125d a1.toInt a2.toInt a3.toInt a4.toInt a5.toInt (vw h) = dr) (hQ : ∀ (v : Int32) hx9, (-1) ≤ v.toInt ∧ v.toInt ≤ 1 → jJ jSgM Dy hx9 → jSm fp_X12_holds_r125d h hx9 → dr.1 = v.toInt → dr.2 = vw hx9 → Q (some (.int v)) hx9) : jC m_X12_holds 11 0 0 [.ref 125, .int a1, .int a2, .int a3, .int a4, .int a5] h Q := by
  refine jC.of rfl k_X12_holds rfl ?_
  have Sm := jSm_rf fp_X12_holds_r125d h
  have ea1 := jfull a1
  have ea2 := jfull a2
  have ea3 := jfull a3
  have ea4 := jfull a4
  have ea5 := jfull a5
  show jX m_X12_holds 11 0 0 0 [(0, .ref 125), (1, .int a1), (2, .int a2), (3, .int a3), (4, .int a4), (5, .int a5)] [] _ 0 0 _
  unfold d_X12_holds_r125d at D
  refine x_aloadn (x := 125) rfl rfl ?_
  refine x_iconst (v := 0) rfl ki_0 ?_
  refine z_putI (N := 92) (w := 0) 12 0 rfl f_12_180 rfl (jfin_no TX12 RX12 92 rfl rfl) hD J Sm rfl rfl jk_0 (pw_125_0 (by omega)) rfl (fun h w1 J Sm => ?_)
  rw [vwf w1 (show 0 = (0 : Int32).toInt from by have := jk_0; omega)] at D
  refine x_aloadn (x := 125) rfl rfl ?_
  refine x_iloadn (x := a3) rfl rfl ?_
  refine x_iload (x := a5) rfl rfl ?_
  refine x_inv (N := m_X12_soulAt) (As := [.int a3, .int a5]) (b := 125) (st := []) (dx9 := 10) (mc := 0) (ms := 0) (host := "") 12 rfl t_X12_soulAt ⟨Or.inl q_12_399, i_X12_soulAt.1, i_X12_soulAt.2⟩ ⟨by decide, rfl⟩ (congrArg Prod.fst (J.1.1 125 (12, 92) rfl)) rfl (by decide) rfl rfl ⟨by decide, by decide⟩ (jC.of rfl k_X12_soulAt rfl ?_)
  show jX m_X12_soulAt 10 0 0 0 [(0, .ref 125), (1, .int a3), (2, .int a5)] [] _ 0 0 _
  refine x_aloadn (x := 125) rfl rfl ?_
  refine x_iloadn (x := a3) rfl rfl ?_
  refine x_inv (N := m_X12_isMention) (As := [.int a3]) (b := 125) (st := []) (dx9 := 9) (mc := 0) (ms := 0) (host := "") 12 rfl t_X12_isMention ⟨Or.inl q_12_322, i_X12_isMention.1, i_X12_isMention.2⟩ ⟨by decide, rfl⟩ (congrArg Prod.fst (J.1.1 125 (12, 92) rfl)) rfl (by decide) rfl rfl ⟨by decide, by decide⟩ (jC.of rfl k_X12_isMention rfl ?_)
  show jX m_X12_isMention 9 0 0 0 [(0, .ref 125), (1, .int a3)] [] _ 0 0 _
  refine x_iloadn (x := a3) rfl rfl ?_
  refine x_iflt (tgt := 34) rfl rfl (ti_lt rfl jk_0 ⟨fun c2 => ?_, fun c2 => ?_⟩)
  ·
    rw [if_pos (by omega)] at D
    refine x_iconst (v := 0) rfl ki_0 ?_
    refine x_zret rfl rfl (by decide) ?_
    show jX m_X12_soulAt 10 0 0 5 [(0, .ref 125), (1, .int a3), (2, .int a5)] [.int 0] _ 0 0 _
    refine x_ifeq (tgt := 15) rfl rfl (ti_eq jk_0 jk_0 (br_t (by omega) ?_))
    refine x_iconst (v := (-1)) rfl ki_m1 ?_
    refine x_iret rfl rfl ?_
    show jX m_X12_holds 11 0 0 12 [(0, .ref 125), (1, .int a1), (2, .int a2), (3, .int a3), (4, .int a4), (5, .int a5)] [.int (-1)] _ 0 0 _
    refine x_istore (lsx9 := [(6, .int (-1)), (0, .ref 125), (1, .int a1), (2, .int a2), (3, .int a3), (4, .int a4), (5, .int a5)]) rfl rfl rfl ?_
    refine x_iload (x := (-1)) rfl rfl ?_
    refine x_iconst (v := (-1)) rfl ki_m1 ?_
    refine x_iceq (tgt := 37) rfl rfl (ti_eq jk_m1 jk_m1 (br_t (by omega) ?_))
    exact jX.sub jsb_n (ct_X12_holds_r125d_37 hD hQ  h J Sm D)
  ·
    rw [if_neg (by omega)] at D
    refine x_aloadn (x := 125) rfl rfl ?_
    refine x_iloadn (x := a3) rfl rfl ?_
    refine x_iconst (v := 3) rfl ki_3 ?_
    refine z_idiv rfl rfl jk_3 (by omega) (by omega) (fun v3 ev3 => ?_)
    refine x_inv (N := m_X12_isLine) (As := [.int v3]) (b := 125) (st := []) (dx9 := 8) (mc := 0) (ms := 0) (host := "") 12 rfl t_X12_isLine ⟨Or.inl q_12_293, i_X12_isLine.1, i_X12_isLine.2⟩ ⟨by decide, rfl⟩ (congrArg Prod.fst (J.1.1 125 (12, 92) rfl)) rfl (by decide) rfl rfl ⟨by decide, by decide⟩ (jC.of rfl k_X12_isLine rfl ?_)
    show jX m_X12_isLine 8 0 0 0 [(0, .ref 125), (1, .int v3)] [] _ 0 0 _
    refine x_iloadn (x := v3) rfl rfl ?_
    refine z_i2l rfl rfl (fun v4 ev4 => ?_)
    refine x_lconst (v := 0) rfl kl_0 ?_
    refine x_aloadn (x := 125) rfl rfl ?_
    refine z_getR (N := 92) (b := 126) 12 2 rfl f_12_8 rfl J rfl 16002 ⟨rfl, rfl⟩ rfl ?_
    refine x_iconst (v := 0) rfl ki_0 ?_
    refine z_iald (N := 50660) rfl J rfl sg_126_0_1_1_0_1 jk_0 (by omega) (fun v5 qv5 ev5 => ?_)
    try rw [vrn (n := 0) (by decide) (jmb_w w1 qv5 rfl)] at D
    refine z_i2l rfl rfl (fun v6 ev6 => ?_)
    refine x_lconst (v := 1) rfl kl_1 ?_
    refine z_lsub rfl rfl jkl_1 (by omega) (fun v7 ev7 => ?_)
    refine x_inst (N := m_X12_in) (As := [.long v4, .long 0, .long v7]) (st := []) (dx9 := 1) (mc := 0) (ms := 0) (host := "") rfl t_X12_in ⟨Or.inl q_12_188, s_X12_in⟩ rfl (by decide) rfl rfl ⟨by decide, by decide⟩ (zc_X12_in rfl jkl_0 rfl (fun v8 ev8 => ?_))
    show jX m_X12_isLine 8 0 0 15 [(0, .ref 125), (1, .int v3)] [.int v8] _ 0 0 _
    refine x_zret rfl rfl (jz01 (by omega)) ?_
    show jX m_X12_isMention 9 0 0 11 [(0, .ref 125), (1, .int a3)] [.int v8] _ 0 0 _
    refine x_ifeq (tgt := 34) rfl rfl (ti_eq rfl jk_0 ⟨fun c9 => ?_, fun c9 => ?_⟩)
    ·
      rw [if_neg (by omega)] at D
      refine x_iconst (v := 0) rfl ki_0 ?_
      refine x_zret rfl rfl (by decide) ?_
      show jX m_X12_soulAt 10 0 0 5 [(0, .ref 125), (1, .int a3), (2, .int a5)] [.int 0] _ 0 0 _
      refine x_ifeq (tgt := 15) rfl rfl (ti_eq jk_0 jk_0 (br_t (by omega) ?_))
      refine x_iconst (v := (-1)) rfl ki_m1 ?_
      refine x_iret rfl rfl ?_
      show jX m_X12_holds 11 0 0 12 [(0, .ref 125), (1, .int a1), (2, .int a2), (3, .int a3), (4, .int a4), (5, .int a5)] [.int (-1)] _ 0 0 _
      refine x_istore (lsx9 := [(6, .int (-1)), (0, .ref 125), (1, .int a1), (2, .int a2), (3, .int a3), (4, .int a4), (5, .int a5)]) rfl rfl rfl ?_
      refine x_iload (x := (-1)) rfl rfl ?_
      refine x_iconst (v := (-1)) rfl ki_m1 ?_
      refine x_iceq (tgt := 37) rfl rfl (ti_eq jk_m1 jk_m1 (br_t (by omega) ?_))
      exact jX.sub jsb_n (ct_X12_holds_r125d_37 hD hQ  h J Sm D)
    ·
      rw [if_pos (by omega)] at D
      refine x_iloadn (x := a3) rfl rfl ?_
      refine x_iconst (v := 3) rfl ki_3 ?_
      refine z_irem rfl rfl jk_3 (by omega) (by omega) (fun v10 ev10 => ?_)
      refine x_aloadn (x := 125) rfl rfl ?_
      refine x_iloadn (x := a3) rfl rfl ?_
      refine x_iconst (v := 3) rfl ki_3 ?_
      refine z_idiv rfl rfl jk_3 (by omega) (by omega) (fun v11 ev11 => ?_)
      refine x_inv (N := m_X12_bookOf) (As := [.int v11]) (b := 125) (st := [.int v10]) (dx9 := 8) (mc := 0) (ms := 0) (host := "") 12 rfl t_X12_bookOf ⟨Or.inl q_12_299, i_X12_bookOf.1, i_X12_bookOf.2⟩ ⟨by decide, rfl⟩ (congrArg Prod.fst (J.1.1 125 (12, 92) rfl)) rfl (by decide) rfl rfl ⟨by decide, by decide⟩ (jC.of rfl k_X12_bookOf rfl ?_)
      show jX m_X12_bookOf 8 0 0 0 [(0, .ref 125), (1, .int v11)] [] _ 0 0 _
      refine x_aloadn (x := 125) rfl rfl ?_
      refine z_getR (N := 92) (b := 126) 12 2 rfl f_12_8 rfl J rfl 16002 ⟨rfl, rfl⟩ rfl ?_
      refine x_aloadn (x := 125) rfl rfl ?_
      refine x_iloadn (x := v11) rfl rfl ?_
      refine x_inv (N := m_X12_at) (As := [.int v11]) (b := 125) (st := [.ref 126]) (dx9 := 7) (mc := 0) (ms := 0) (host := "") 12 rfl t_X12_at ⟨Or.inl q_12_254, i_X12_at.1, i_X12_at.2⟩ ⟨by decide, rfl⟩ (congrArg Prod.fst (J.1.1 125 (12, 92) rfl)) rfl (by decide) rfl rfl ⟨by decide, by decide⟩ (jC.of rfl k_X12_at rfl ?_)
      show jX m_X12_at 7 0 0 0 [(0, .ref 125), (1, .int v11)] [] _ 0 0 _
      refine x_bipush (v := 20) rfl kb_20 ?_
      refine x_bipush (v := 90) rfl kb_90 ?_
      refine x_iloadn (x := v11) rfl rfl ?_
      refine z_imul rfl jk_90 rfl (by omega) (fun v12 ev12 => ?_)
      refine z_iadd rfl jk_20 rfl (by omega) (fun v13 ev13 => ?_)
      refine x_iret rfl rfl ?_
      show jX m_X12_bookOf 8 0 0 9 [(0, .ref 125), (1, .int v11)] [.int v13, .ref 126] _ 0 0 _
      refine z_iald (N := 50660) rfl J rfl sg_126_20_18020_90_0_1 rfl (by omega) (fun v14 qv14 ev14 => ?_)
      try rw [vrd (jmb_w w1 qv14 rfl) (show (20 + (90 * (a3.toInt / 3))) = v13.toInt from by omega)] at D
      refine x_iret rfl rfl ?_
      show jX m_X12_isMention 9 0 0 24 [(0, .ref 125), (1, .int a3)] [.int v14, .int v10] _ 0 0 _
      refine x_inst (N := m_X12_rolesOf) (As := [.int v14]) (st := [.int v10]) (dx9 := 8) (mc := 0) (ms := 0) (host := "") rfl t_X12_rolesOf ⟨Or.inl q_12_286, s_X12_rolesOf⟩ rfl (by decide) rfl rfl ⟨by decide, by decide⟩ (jC.of rfl k_X12_rolesOf rfl ?_)
      show jX m_X12_rolesOf 8 0 0 0 [(0, .int v14)] [] _ 0 0 _
      refine x_iloadn (x := v14) rfl rfl ?_
      refine x_ifne (tgt := 8) rfl rfl (ti_ne rfl jk_0 ⟨fun c15 => ?_, fun c15 => ?_⟩)
      ·
        rw [if_neg (by omega)] at D
        refine x_iloadn (x := v14) rfl rfl ?_
        refine x_iconst (v := 1) rfl ki_1 ?_
        refine x_icne (tgt := 17) rfl rfl (ti_ne rfl jk_1 ⟨fun c16 => ?_, fun c16 => ?_⟩)
        ·
          rw [if_neg (by omega)] at D
          refine x_iconst (v := 1) rfl ki_1 ?_
          refine x_iret rfl rfl ?_
          show jX m_X12_isMention 9 0 0 27 [(0, .ref 125), (1, .int a3)] [.int 1, .int v10] _ 0 0 _
          refine x_icge (tgt := 34) rfl rfl (ti_ge rfl jk_1 ⟨fun c17 => ?_, fun c17 => ?_⟩)
          ·
            rw [if_pos (by omega)] at D
            refine x_iconst (v := 0) rfl ki_0 ?_
            refine x_zret rfl rfl (by decide) ?_
            show jX m_X12_soulAt 10 0 0 5 [(0, .ref 125), (1, .int a3), (2, .int a5)] [.int 0] _ 0 0 _
            refine x_ifeq (tgt := 15) rfl rfl (ti_eq jk_0 jk_0 (br_t (by omega) ?_))
            refine x_iconst (v := (-1)) rfl ki_m1 ?_
            refine x_iret rfl rfl ?_
            show jX m_X12_holds 11 0 0 12 [(0, .ref 125), (1, .int a1), (2, .int a2), (3, .int a3), (4, .int a4), (5, .int a5)] [.int (-1)] _ 0 0 _
            refine x_istore (lsx9 := [(6, .int (-1)), (0, .ref 125), (1, .int a1), (2, .int a2), (3, .int a3), (4, .int a4), (5, .int a5)]) rfl rfl rfl ?_
            refine x_iload (x := (-1)) rfl rfl ?_
            refine x_iconst (v := (-1)) rfl ki_m1 ?_
            refine x_iceq (tgt := 37) rfl rfl (ti_eq jk_m1 jk_m1 (br_t (by omega) ?_))
            exact jX.sub jsb_n (ct_X12_holds_r125d_37 hD hQ  h J Sm D)
          ·
            rw [if_neg (by omega)] at D
            refine x_iconst (v := 1) rfl ki_1 ?_
            refine x_goto (tgt := 35) rfl rfl ?_
            refine x_zret rfl rfl (by decide) ?_
            show jX m_X12_soulAt 10 0 0 5 [(0, .ref 125), (1, .int a3), (2, .int a5)] [.int 1] _ 0 0 _
            refine x_ifeq (tgt := 15) rfl rfl (ti_eq jk_1 jk_0 (br_f (by omega) ?_))
            refine x_iloadn (x := a5) rfl rfl ?_
            refine x_inst (N := m_X12_isDay) (As := [.int a5]) (st := []) (dx9 := 2) (mc := 0) (ms := 0) (host := "") rfl t_X12_isDay ⟨Or.inl q_12_273, s_X12_isDay⟩ rfl (by decide) rfl rfl ⟨by decide, by decide⟩ (zc_X12_isDay (d := 1) rfl (fun v18 ev18 => ?_))
            show jX m_X12_soulAt 10 0 0 12 [(0, .ref 125), (1, .int a3), (2, .int a5)] [.int v18] _ 0 0 _
            refine x_ifne (tgt := 17) rfl rfl (ti_ne rfl jk_0 ⟨fun c19 => ?_, fun c19 => ?_⟩)
            ·
              rw [if_pos (by omega)] at D
              refine x_aloadn (x := 125) rfl rfl ?_
              refine x_iloadn (x := a5) rfl rfl ?_
              refine x_inv (N := m_X12_find) (As := [.int a5]) (b := 125) (st := []) (dx9 := 8) (mc := 0) (ms := 0) (host := "") 12 rfl t_X12_find ⟨Or.inl q_12_393, i_X12_find.1, i_X12_find.2⟩ ⟨by decide, rfl⟩ (congrArg Prod.fst (J.1.1 125 (12, 92) rfl)) rfl (by decide) rfl rfl ⟨by decide, by decide⟩ (sf_X12_find_r125d (jr_of rfl (by omega)) hD J rfl  (fun h J S20 X21 => ?_))
              have Sm := jSm_tr rfl Sm S20
              rw [X21] at D
              show jX m_X12_soulAt 10 0 0 22 [(0, .ref 125), (1, .int a3), (2, .int a5)] [] _ 0 0 _
              refine x_aloadn (x := 125) rfl rfl ?_
              refine z_getR (N := 92) (b := 139) 12 29 rfl f_12_72 rfl J rfl 16029 ⟨rfl, rfl⟩ rfl ?_
              refine x_iloadn (x := a3) rfl rfl ?_
              refine z_iald (N := 600) rfl J rfl sg_139_0_600_1_0_1 rfl (by omega) (fun v22 qv22 ev22 => ?_)
              try rw [vrd qv22 (show a3.toInt = a3.toInt from by omega)] at D
              refine x_iret rfl rfl ?_
              show jX m_X12_holds 11 0 0 12 [(0, .ref 125), (1, .int a1), (2, .int a2), (3, .int a3), (4, .int a4), (5, .int a5)] [.int v22] _ 0 0 _
              refine x_istore (lsx9 := [(6, .int v22), (0, .ref 125), (1, .int a1), (2, .int a2), (3, .int a3), (4, .int a4), (5, .int a5)]) rfl rfl rfl ?_
              refine x_iload (x := v22) rfl rfl ?_
              refine x_iconst (v := (-1)) rfl ki_m1 ?_
              refine x_iceq (tgt := 37) rfl rfl (ti_eq rfl jk_m1 ⟨fun c23 => ?_, fun c23 => ?_⟩)
              ·
                rw [if_pos (by omega)] at D
                exact jX.sub jsb_n (ct_X12_holds_r125d_37 hD hQ  h J Sm D)
              ·
                rw [if_neg (by omega)] at D
                refine x_aloadn (x := 125) rfl rfl ?_
                refine x_iloadn (x := a1) rfl rfl ?_
                refine x_iloadn (x := a2) rfl rfl ?_
                refine x_inv (N := m_X12_isClause) (As := [.int a1, .int a2]) (b := 125) (st := []) (dx9 := 10) (mc := 0) (ms := 0) (host := "") 12 rfl t_X12_isClause ⟨Or.inl q_12_685, i_X12_isClause.1, i_X12_isClause.2⟩ ⟨by decide, rfl⟩ (congrArg Prod.fst (J.1.1 125 (12, 92) rfl)) rfl (by decide) rfl rfl ⟨by decide, by decide⟩ (jC.of rfl k_X12_isClause rfl ?_)
                show jX m_X12_isClause 10 0 0 0 [(0, .ref 125), (1, .int a1), (2, .int a2)] [] _ 0 0 _
                refine x_iloadn (x := a1) rfl rfl ?_
                refine z_i2l rfl rfl (fun v24 ev24 => ?_)
                refine x_lconst (v := 0) rfl kl_0 ?_
                refine x_aloadn (x := 125) rfl rfl ?_
                refine z_getR (N := 92) (b := 126) 12 2 rfl f_12_8 rfl J rfl 16002 ⟨rfl, rfl⟩ rfl ?_
                refine x_iconst (v := 4) rfl ki_4 ?_
                refine z_iald (N := 50660) rfl J rfl sg_126_4_5_1_0_1 jk_4 (by omega) (fun v25 qv25 ev25 => ?_)
                try rw [vrn (n := 4) (by decide) (jmb_w w1 (jmb_c S20 qv25 rfl) rfl)] at D
                refine z_i2l rfl rfl (fun v26 ev26 => ?_)
                refine x_lconst (v := 1) rfl kl_1 ?_
                refine z_lsub rfl rfl jkl_1 (by omega) (fun v27 ev27 => ?_)
                refine x_inst (N := m_X12_in) (As := [.long v24, .long 0, .long v27]) (st := []) (dx9 := 1) (mc := 0) (ms := 0) (host := "") rfl t_X12_in ⟨Or.inl q_12_188, s_X12_in⟩ rfl (by decide) rfl rfl ⟨by decide, by decide⟩ (zc_X12_in rfl jkl_0 rfl (fun v28 ev28 => ?_))
                show jX m_X12_isClause 10 0 0 15 [(0, .ref 125), (1, .int a1), (2, .int a2)] [.int v28] _ 0 0 _
                refine x_ifeq (tgt := 45) rfl rfl (ti_eq rfl jk_0 ⟨fun c29 => ?_, fun c29 => ?_⟩)
                ·
                  rw [if_neg (by omega)] at D
                  refine x_iconst (v := 0) rfl ki_0 ?_
                  refine x_zret rfl rfl (by decide) ?_
                  show jX m_X12_holds 11 0 0 26 [(6, .int v22), (0, .ref 125), (1, .int a1), (2, .int a2), (3, .int a3), (4, .int a4), (5, .int a5)] [.int 0] _ 0 0 _
                  refine x_ifeq (tgt := 37) rfl rfl (ti_eq jk_0 jk_0 (br_t (by omega) ?_))
                  exact jX.sub jsb_n (ct_X12_holds_r125d_37 hD hQ  h J Sm D)
                ·
                  rw [if_pos (by omega)] at D
                  refine x_iloadn (x := a2) rfl rfl ?_
                  refine z_i2l rfl rfl (fun v30 ev30 => ?_)
                  refine x_lconst (v := 0) rfl kl_0 ?_
                  refine x_aloadn (x := 125) rfl rfl ?_
                  refine z_getR (N := 92) (b := 126) 12 2 rfl f_12_8 rfl J rfl 16002 ⟨rfl, rfl⟩ rfl ?_
                  refine x_iloadn (x := a1) rfl rfl ?_
                  refine x_inst (N := m_X12_textAt) (As := [.int a1]) (st := [.ref 126, .long 0, .long v30]) (dx9 := 9) (mc := 0) (ms := 0) (host := "") rfl t_X12_textAt ⟨Or.inl q_12_676, s_X12_textAt⟩ rfl (by decide) rfl rfl ⟨by decide, by decide⟩ (jC.of rfl k_X12_textAt rfl ?_)
                  show jX m_X12_textAt 9 0 0 0 [(0, .int a1)] [] _ 0 0 _
                  refine x_sipush (v := 18820) rfl ks_18820 ?_
                  refine x_sipush (v := 924) rfl ks_924 ?_
                  refine x_iloadn (x := a1) rfl rfl ?_
                  refine z_imul rfl jk_924 rfl (by omega) (fun v31 ev31 => ?_)
                  refine z_iadd rfl jk_18820 rfl (by omega) (fun v32 ev32 => ?_)
                  refine x_iret rfl rfl ?_
                  show jX m_X12_isClause 10 0 0 29 [(0, .ref 125), (1, .int a1), (2, .int a2)] [.int v32, .ref 126, .long 0, .long v30] _ 0 0 _
                  refine x_iconst (v := 3) rfl ki_3 ?_
                  refine z_iadd rfl rfl jk_3 (by omega) (fun v33 ev33 => ?_)
                  refine z_iald (N := 50660) rfl J rfl sg_126_18820_46540_924_3_4 rfl (by omega) (fun v34 qv34 ev34 => ?_)
                  try rw [vrd (jmb_w w1 (jmb_c S20 qv34 rfl) rfl) (show ((18820 + (924 * a1.toInt)) + 3) = v33.toInt from by omega)] at D
                  refine z_i2l rfl rfl (fun v35 ev35 => ?_)
                  refine x_lconst (v := 1) rfl kl_1 ?_
                  refine z_lsub rfl rfl jkl_1 (by omega) (fun v36 ev36 => ?_)
                  refine x_inst (N := m_X12_in) (As := [.long v30, .long 0, .long v36]) (st := []) (dx9 := 1) (mc := 0) (ms := 0) (host := "") rfl t_X12_in ⟨Or.inl q_12_188, s_X12_in⟩ rfl (by decide) rfl rfl ⟨by decide, by decide⟩ (zc_X12_in rfl jkl_0 rfl (fun v37 ev37 => ?_))
                  show jX m_X12_isClause 10 0 0 38 [(0, .ref 125), (1, .int a1), (2, .int a2)] [.int v37] _ 0 0 _
                  refine x_ifeq (tgt := 45) rfl rfl (ti_eq rfl jk_0 ⟨fun c38 => ?_, fun c38 => ?_⟩)
                  ·
                    rw [if_neg (by omega)] at D
                    refine x_iconst (v := 0) rfl ki_0 ?_
                    refine x_zret rfl rfl (by decide) ?_
                    show jX m_X12_holds 11 0 0 26 [(6, .int v22), (0, .ref 125), (1, .int a1), (2, .int a2), (3, .int a3), (4, .int a4), (5, .int a5)] [.int 0] _ 0 0 _
                    refine x_ifeq (tgt := 37) rfl rfl (ti_eq jk_0 jk_0 (br_t (by omega) ?_))
                    exact jX.sub jsb_n (ct_X12_holds_r125d_37 hD hQ  h J Sm D)
                  ·
                    rw [if_pos (by omega)] at D
                    refine x_iconst (v := 1) rfl ki_1 ?_
                    refine x_goto (tgt := 46) rfl rfl ?_
                    refine x_zret rfl rfl (by decide) ?_
                    show jX m_X12_holds 11 0 0 26 [(6, .int v22), (0, .ref 125), (1, .int a1), (2, .int a2), (3, .int a3), (4, .int a4), (5, .int a5)] [.int 1] _ 0 0 _
                    refine x_ifeq (tgt := 37) rfl rfl (ti_eq jk_1 jk_0 (br_f (by omega) ?_))
                    refine x_iload (x := a4) rfl rfl ?_
                    refine x_inst (N := m_X12_isDay) (As := [.int a4]) (st := []) (dx9 := 2) (mc := 0) (ms := 0) (host := "") rfl t_X12_isDay ⟨Or.inl q_12_273, s_X12_isDay⟩ rfl (by decide) rfl rfl ⟨by decide, by decide⟩ (zc_X12_isDay (d := 1) rfl (fun v39 ev39 => ?_))
                    show jX m_X12_holds 11 0 0 34 [(6, .int v22), (0, .ref 125), (1, .int a1), (2, .int a2), (3, .int a3), (4, .int a4), (5, .int a5)] [.int v39] _ 0 0 _
                    refine x_ifne (tgt := 39) rfl rfl (ti_ne rfl jk_0 ⟨fun c40 => ?_, fun c40 => ?_⟩)
                    ·
                      rw [if_pos (by omega)] at D
                      refine x_aloadn (x := 125) rfl rfl ?_
                      refine x_iloadn (x := a1) rfl rfl ?_
                      refine x_iloadn (x := a2) rfl rfl ?_
                      refine x_iload (x := v22) rfl rfl ?_
                      refine x_iload (x := a4) rfl rfl ?_
                      refine x_inv (N := m_X12_holdsFor) (As := [.int a1, .int a2, .int v22, .int a4]) (b := 125) (st := []) (dx9 := 10) (mc := 0) (ms := 0) (host := "") 12 rfl t_X12_holdsFor ⟨Or.inl q_12_749, i_X12_holdsFor.1, i_X12_holdsFor.2⟩ ⟨by decide, rfl⟩ (congrArg Prod.fst (J.1.1 125 (12, 92) rfl)) rfl (by decide) rfl rfl ⟨by decide, by decide⟩ (sf_X12_holdsFor_r125d (jr_of rfl (by omega)) (jr_of rfl (by omega)) (jr_of rfl (by omega)) (jr_of rfl (by omega)) (jcn qv34 (by omega) (by omega) (by omega)) hD J rfl  (fun v44 h ev44 J S41 X42 X43 => ?_))
                      have Sm := jSm_tr rfl Sm S41
                      try rw [X42] at D
                      try rw [X43] at D
                      show jX m_X12_holds 11 0 0 49 [(6, .int v22), (0, .ref 125), (1, .int a1), (2, .int a2), (3, .int a3), (4, .int a4), (5, .int a5)] [.int v44] _ 0 0 _
                      refine x_ifeq (tgt := 56) rfl rfl (ti_eq rfl jk_0 ⟨fun c45 => ?_, fun c45 => ?_⟩)
                      ·
                        rw [if_pos (by omega)] at D
                        refine x_iconst (v := 0) rfl ki_0 ?_
                        exact jX.sub jsb_n (ct_X12_holds_r125d_200057 hD hQ  h J Sm D)
                      ·
                        rw [if_neg (by omega)] at D
                        refine x_iconst (v := 1) rfl ki_1 ?_
                        refine x_goto (tgt := 57) rfl rfl ?_
                        exact jX.sub jsb_n (ct_X12_holds_r125d_300057 hD hQ  h J Sm D)
                    ·
                      rw [if_neg (by omega)] at D
                      exact jX.sub jsb_n (ct_X12_holds_r125d_37 hD hQ  h J Sm D)
            ·
              rw [if_neg (by omega)] at D
              refine x_iconst (v := (-1)) rfl ki_m1 ?_
              refine x_iret rfl rfl ?_
              show jX m_X12_holds 11 0 0 12 [(0, .ref 125), (1, .int a1), (2, .int a2), (3, .int a3), (4, .int a4), (5, .int a5)] [.int (-1)] _ 0 0 _
              refine x_istore (lsx9 := [(6, .int (-1)), (0, .ref 125), (1, .int a1), (2, .int a2), (3, .int a3), (4, .int a4), (5, .int a5)]) rfl rfl rfl ?_
              refine x_iload (x := (-1)) rfl rfl ?_
              refine x_iconst (v := (-1)) rfl ki_m1 ?_
              refine x_iceq (tgt := 37) rfl rfl (ti_eq jk_m1 jk_m1 (br_t (by omega) ?_))
              exact jX.sub jsb_n (ct_X12_holds_r125d_37 hD hQ  h J Sm D)
        ·
          rw [if_pos (by omega)] at D
          refine x_iconst (v := 2) rfl ki_2 ?_
          refine x_goto (tgt := 18) rfl rfl ?_
          refine x_iret rfl rfl ?_
          show jX m_X12_isMention 9 0 0 27 [(0, .ref 125), (1, .int a3)] [.int 2, .int v10] _ 0 0 _
          refine x_icge (tgt := 34) rfl rfl (ti_ge rfl jk_2 ⟨fun c46 => ?_, fun c46 => ?_⟩)
          ·
            rw [if_pos (by omega)] at D
            refine x_iconst (v := 0) rfl ki_0 ?_
            refine x_zret rfl rfl (by decide) ?_
            show jX m_X12_soulAt 10 0 0 5 [(0, .ref 125), (1, .int a3), (2, .int a5)] [.int 0] _ 0 0 _
            refine x_ifeq (tgt := 15) rfl rfl (ti_eq jk_0 jk_0 (br_t (by omega) ?_))
            refine x_iconst (v := (-1)) rfl ki_m1 ?_
            refine x_iret rfl rfl ?_
            show jX m_X12_holds 11 0 0 12 [(0, .ref 125), (1, .int a1), (2, .int a2), (3, .int a3), (4, .int a4), (5, .int a5)] [.int (-1)] _ 0 0 _
            refine x_istore (lsx9 := [(6, .int (-1)), (0, .ref 125), (1, .int a1), (2, .int a2), (3, .int a3), (4, .int a4), (5, .int a5)]) rfl rfl rfl ?_
            refine x_iload (x := (-1)) rfl rfl ?_
            refine x_iconst (v := (-1)) rfl ki_m1 ?_
            refine x_iceq (tgt := 37) rfl rfl (ti_eq jk_m1 jk_m1 (br_t (by omega) ?_))
            exact jX.sub jsb_n (ct_X12_holds_r125d_37 hD hQ  h J Sm D)
          ·
            rw [if_neg (by omega)] at D
            refine x_iconst (v := 1) rfl ki_1 ?_
            refine x_goto (tgt := 35) rfl rfl ?_
            refine x_zret rfl rfl (by decide) ?_
            show jX m_X12_soulAt 10 0 0 5 [(0, .ref 125), (1, .int a3), (2, .int a5)] [.int 1] _ 0 0 _
            refine x_ifeq (tgt := 15) rfl rfl (ti_eq jk_1 jk_0 (br_f (by omega) ?_))
            refine x_iloadn (x := a5) rfl rfl ?_
            refine x_inst (N := m_X12_isDay) (As := [.int a5]) (st := []) (dx9 := 2) (mc := 0) (ms := 0) (host := "") rfl t_X12_isDay ⟨Or.inl q_12_273, s_X12_isDay⟩ rfl (by decide) rfl rfl ⟨by decide, by decide⟩ (zc_X12_isDay (d := 1) rfl (fun v47 ev47 => ?_))
            show jX m_X12_soulAt 10 0 0 12 [(0, .ref 125), (1, .int a3), (2, .int a5)] [.int v47] _ 0 0 _
            refine x_ifne (tgt := 17) rfl rfl (ti_ne rfl jk_0 ⟨fun c48 => ?_, fun c48 => ?_⟩)
            ·
              rw [if_pos (by omega)] at D
              refine x_aloadn (x := 125) rfl rfl ?_
              refine x_iloadn (x := a5) rfl rfl ?_
              refine x_inv (N := m_X12_find) (As := [.int a5]) (b := 125) (st := []) (dx9 := 8) (mc := 0) (ms := 0) (host := "") 12 rfl t_X12_find ⟨Or.inl q_12_393, i_X12_find.1, i_X12_find.2⟩ ⟨by decide, rfl⟩ (congrArg Prod.fst (J.1.1 125 (12, 92) rfl)) rfl (by decide) rfl rfl ⟨by decide, by decide⟩ (sf_X12_find_r125d (jr_of rfl (by omega)) hD J rfl  (fun h J S49 X50 => ?_))
              have Sm := jSm_tr rfl Sm S49
              rw [X50] at D
              show jX m_X12_soulAt 10 0 0 22 [(0, .ref 125), (1, .int a3), (2, .int a5)] [] _ 0 0 _
              refine x_aloadn (x := 125) rfl rfl ?_
              refine z_getR (N := 92) (b := 139) 12 29 rfl f_12_72 rfl J rfl 16029 ⟨rfl, rfl⟩ rfl ?_
              refine x_iloadn (x := a3) rfl rfl ?_
              refine z_iald (N := 600) rfl J rfl sg_139_0_600_1_0_1 rfl (by omega) (fun v51 qv51 ev51 => ?_)
              try rw [vrd qv51 (show a3.toInt = a3.toInt from by omega)] at D
              refine x_iret rfl rfl ?_
              show jX m_X12_holds 11 0 0 12 [(0, .ref 125), (1, .int a1), (2, .int a2), (3, .int a3), (4, .int a4), (5, .int a5)] [.int v51] _ 0 0 _
              refine x_istore (lsx9 := [(6, .int v51), (0, .ref 125), (1, .int a1), (2, .int a2), (3, .int a3), (4, .int a4), (5, .int a5)]) rfl rfl rfl ?_
              refine x_iload (x := v51) rfl rfl ?_
              refine x_iconst (v := (-1)) rfl ki_m1 ?_
              refine x_iceq (tgt := 37) rfl rfl (ti_eq rfl jk_m1 ⟨fun c52 => ?_, fun c52 => ?_⟩)
              ·
                rw [if_pos (by omega)] at D
                exact jX.sub jsb_n (ct_X12_holds_r125d_37 hD hQ  h J Sm D)
              ·
                rw [if_neg (by omega)] at D
                refine x_aloadn (x := 125) rfl rfl ?_
                refine x_iloadn (x := a1) rfl rfl ?_
                refine x_iloadn (x := a2) rfl rfl ?_
                refine x_inv (N := m_X12_isClause) (As := [.int a1, .int a2]) (b := 125) (st := []) (dx9 := 10) (mc := 0) (ms := 0) (host := "") 12 rfl t_X12_isClause ⟨Or.inl q_12_685, i_X12_isClause.1, i_X12_isClause.2⟩ ⟨by decide, rfl⟩ (congrArg Prod.fst (J.1.1 125 (12, 92) rfl)) rfl (by decide) rfl rfl ⟨by decide, by decide⟩ (jC.of rfl k_X12_isClause rfl ?_)
                show jX m_X12_isClause 10 0 0 0 [(0, .ref 125), (1, .int a1), (2, .int a2)] [] _ 0 0 _
                refine x_iloadn (x := a1) rfl rfl ?_
                refine z_i2l rfl rfl (fun v53 ev53 => ?_)
                refine x_lconst (v := 0) rfl kl_0 ?_
                refine x_aloadn (x := 125) rfl rfl ?_
                refine z_getR (N := 92) (b := 126) 12 2 rfl f_12_8 rfl J rfl 16002 ⟨rfl, rfl⟩ rfl ?_
                refine x_iconst (v := 4) rfl ki_4 ?_
                refine z_iald (N := 50660) rfl J rfl sg_126_4_5_1_0_1 jk_4 (by omega) (fun v54 qv54 ev54 => ?_)
                try rw [vrn (n := 4) (by decide) (jmb_w w1 (jmb_c S49 qv54 rfl) rfl)] at D
                refine z_i2l rfl rfl (fun v55 ev55 => ?_)
                refine x_lconst (v := 1) rfl kl_1 ?_
                refine z_lsub rfl rfl jkl_1 (by omega) (fun v56 ev56 => ?_)
                refine x_inst (N := m_X12_in) (As := [.long v53, .long 0, .long v56]) (st := []) (dx9 := 1) (mc := 0) (ms := 0) (host := "") rfl t_X12_in ⟨Or.inl q_12_188, s_X12_in⟩ rfl (by decide) rfl rfl ⟨by decide, by decide⟩ (zc_X12_in rfl jkl_0 rfl (fun v57 ev57 => ?_))
                show jX m_X12_isClause 10 0 0 15 [(0, .ref 125), (1, .int a1), (2, .int a2)] [.int v57] _ 0 0 _
                refine x_ifeq (tgt := 45) rfl rfl (ti_eq rfl jk_0 ⟨fun c58 => ?_, fun c58 => ?_⟩)
                ·
                  rw [if_neg (by omega)] at D
                  refine x_iconst (v := 0) rfl ki_0 ?_
                  refine x_zret rfl rfl (by decide) ?_
                  show jX m_X12_holds 11 0 0 26 [(6, .int v51), (0, .ref 125), (1, .int a1), (2, .int a2), (3, .int a3), (4, .int a4), (5, .int a5)] [.int 0] _ 0 0 _
                  refine x_ifeq (tgt := 37) rfl rfl (ti_eq jk_0 jk_0 (br_t (by omega) ?_))
                  exact jX.sub jsb_n (ct_X12_holds_r125d_37 hD hQ  h J Sm D)
                ·
                  rw [if_pos (by omega)] at D
                  refine x_iloadn (x := a2) rfl rfl ?_
                  refine z_i2l rfl rfl (fun v59 ev59 => ?_)
                  refine x_lconst (v := 0) rfl kl_0 ?_
                  refine x_aloadn (x := 125) rfl rfl ?_
                  refine z_getR (N := 92) (b := 126) 12 2 rfl f_12_8 rfl J rfl 16002 ⟨rfl, rfl⟩ rfl ?_
                  refine x_iloadn (x := a1) rfl rfl ?_
                  refine x_inst (N := m_X12_textAt) (As := [.int a1]) (st := [.ref 126, .long 0, .long v59]) (dx9 := 9) (mc := 0) (ms := 0) (host := "") rfl t_X12_textAt ⟨Or.inl q_12_676, s_X12_textAt⟩ rfl (by decide) rfl rfl ⟨by decide, by decide⟩ (jC.of rfl k_X12_textAt rfl ?_)
                  show jX m_X12_textAt 9 0 0 0 [(0, .int a1)] [] _ 0 0 _
                  refine x_sipush (v := 18820) rfl ks_18820 ?_
                  refine x_sipush (v := 924) rfl ks_924 ?_
                  refine x_iloadn (x := a1) rfl rfl ?_
                  refine z_imul rfl jk_924 rfl (by omega) (fun v60 ev60 => ?_)
                  refine z_iadd rfl jk_18820 rfl (by omega) (fun v61 ev61 => ?_)
                  refine x_iret rfl rfl ?_
                  show jX m_X12_isClause 10 0 0 29 [(0, .ref 125), (1, .int a1), (2, .int a2)] [.int v61, .ref 126, .long 0, .long v59] _ 0 0 _
                  refine x_iconst (v := 3) rfl ki_3 ?_
                  refine z_iadd rfl rfl jk_3 (by omega) (fun v62 ev62 => ?_)
                  refine z_iald (N := 50660) rfl J rfl sg_126_18820_46540_924_3_4 rfl (by omega) (fun v63 qv63 ev63 => ?_)
                  try rw [vrd (jmb_w w1 (jmb_c S49 qv63 rfl) rfl) (show ((18820 + (924 * a1.toInt)) + 3) = v62.toInt from by omega)] at D
                  refine z_i2l rfl rfl (fun v64 ev64 => ?_)
                  refine x_lconst (v := 1) rfl kl_1 ?_
                  refine z_lsub rfl rfl jkl_1 (by omega) (fun v65 ev65 => ?_)
                  refine x_inst (N := m_X12_in) (As := [.long v59, .long 0, .long v65]) (st := []) (dx9 := 1) (mc := 0) (ms := 0) (host := "") rfl t_X12_in ⟨Or.inl q_12_188, s_X12_in⟩ rfl (by decide) rfl rfl ⟨by decide, by decide⟩ (zc_X12_in rfl jkl_0 rfl (fun v66 ev66 => ?_))
                  show jX m_X12_isClause 10 0 0 38 [(0, .ref 125), (1, .int a1), (2, .int a2)] [.int v66] _ 0 0 _
                  refine x_ifeq (tgt := 45) rfl rfl (ti_eq rfl jk_0 ⟨fun c67 => ?_, fun c67 => ?_⟩)
                  ·
                    rw [if_neg (by omega)] at D
                    refine x_iconst (v := 0) rfl ki_0 ?_
                    refine x_zret rfl rfl (by decide) ?_
                    show jX m_X12_holds 11 0 0 26 [(6, .int v51), (0, .ref 125), (1, .int a1), (2, .int a2), (3, .int a3), (4, .int a4), (5, .int a5)] [.int 0] _ 0 0 _
                    refine x_ifeq (tgt := 37) rfl rfl (ti_eq jk_0 jk_0 (br_t (by omega) ?_))
                    exact jX.sub jsb_n (ct_X12_holds_r125d_37 hD hQ  h J Sm D)
                  ·
                    rw [if_pos (by omega)] at D
                    refine x_iconst (v := 1) rfl ki_1 ?_
                    refine x_goto (tgt := 46) rfl rfl ?_
                    refine x_zret rfl rfl (by decide) ?_
                    show jX m_X12_holds 11 0 0 26 [(6, .int v51), (0, .ref 125), (1, .int a1), (2, .int a2), (3, .int a3), (4, .int a4), (5, .int a5)] [.int 1] _ 0 0 _
                    refine x_ifeq (tgt := 37) rfl rfl (ti_eq jk_1 jk_0 (br_f (by omega) ?_))
                    refine x_iload (x := a4) rfl rfl ?_
                    refine x_inst (N := m_X12_isDay) (As := [.int a4]) (st := []) (dx9 := 2) (mc := 0) (ms := 0) (host := "") rfl t_X12_isDay ⟨Or.inl q_12_273, s_X12_isDay⟩ rfl (by decide) rfl rfl ⟨by decide, by decide⟩ (zc_X12_isDay (d := 1) rfl (fun v68 ev68 => ?_))
                    show jX m_X12_holds 11 0 0 34 [(6, .int v51), (0, .ref 125), (1, .int a1), (2, .int a2), (3, .int a3), (4, .int a4), (5, .int a5)] [.int v68] _ 0 0 _
                    refine x_ifne (tgt := 39) rfl rfl (ti_ne rfl jk_0 ⟨fun c69 => ?_, fun c69 => ?_⟩)
                    ·
                      rw [if_pos (by omega)] at D
                      refine x_aloadn (x := 125) rfl rfl ?_
                      refine x_iloadn (x := a1) rfl rfl ?_
                      refine x_iloadn (x := a2) rfl rfl ?_
                      refine x_iload (x := v51) rfl rfl ?_
                      refine x_iload (x := a4) rfl rfl ?_
                      refine x_inv (N := m_X12_holdsFor) (As := [.int a1, .int a2, .int v51, .int a4]) (b := 125) (st := []) (dx9 := 10) (mc := 0) (ms := 0) (host := "") 12 rfl t_X12_holdsFor ⟨Or.inl q_12_749, i_X12_holdsFor.1, i_X12_holdsFor.2⟩ ⟨by decide, rfl⟩ (congrArg Prod.fst (J.1.1 125 (12, 92) rfl)) rfl (by decide) rfl rfl ⟨by decide, by decide⟩ (sf_X12_holdsFor_r125d (jr_of rfl (by omega)) (jr_of rfl (by omega)) (jr_of rfl (by omega)) (jr_of rfl (by omega)) (jcn qv63 (by omega) (by omega) (by omega)) hD J rfl  (fun v73 h ev73 J S70 X71 X72 => ?_))
                      have Sm := jSm_tr rfl Sm S70
                      try rw [X71] at D
                      try rw [X72] at D
                      show jX m_X12_holds 11 0 0 49 [(6, .int v51), (0, .ref 125), (1, .int a1), (2, .int a2), (3, .int a3), (4, .int a4), (5, .int a5)] [.int v73] _ 0 0 _
                      refine x_ifeq (tgt := 56) rfl rfl (ti_eq rfl jk_0 ⟨fun c74 => ?_, fun c74 => ?_⟩)
                      ·
                        rw [if_pos (by omega)] at D
                        refine x_iconst (v := 0) rfl ki_0 ?_
                        exact jX.sub jsb_n (ct_X12_holds_r125d_200057 hD hQ  h J Sm D)
                      ·
                        rw [if_neg (by omega)] at D
                        refine x_iconst (v := 1) rfl ki_1 ?_
                        refine x_goto (tgt := 57) rfl rfl ?_
                        exact jX.sub jsb_n (ct_X12_holds_r125d_300057 hD hQ  h J Sm D)
                    ·
                      rw [if_neg (by omega)] at D
                      exact jX.sub jsb_n (ct_X12_holds_r125d_37 hD hQ  h J Sm D)
            ·
              rw [if_neg (by omega)] at D
              refine x_iconst (v := (-1)) rfl ki_m1 ?_
              refine x_iret rfl rfl ?_
              show jX m_X12_holds 11 0 0 12 [(0, .ref 125), (1, .int a1), (2, .int a2), (3, .int a3), (4, .int a4), (5, .int a5)] [.int (-1)] _ 0 0 _
              refine x_istore (lsx9 := [(6, .int (-1)), (0, .ref 125), (1, .int a1), (2, .int a2), (3, .int a3), (4, .int a4), (5, .int a5)]) rfl rfl rfl ?_
              refine x_iload (x := (-1)) rfl rfl ?_
              refine x_iconst (v := (-1)) rfl ki_m1 ?_
              refine x_iceq (tgt := 37) rfl rfl (ti_eq jk_m1 jk_m1 (br_t (by omega) ?_))
              exact jX.sub jsb_n (ct_X12_holds_r125d_37 hD hQ  h J Sm D)
      ·
        rw [if_pos (by omega)] at D
        refine x_iconst (v := 3) rfl ki_3 ?_
        refine x_goto (tgt := 18) rfl rfl ?_
        refine x_iret rfl rfl ?_
        show jX m_X12_isMention 9 0 0 27 [(0, .ref 125), (1, .int a3)] [.int 3, .int v10] _ 0 0 _
        refine x_icge (tgt := 34) rfl rfl (ti_ge rfl jk_3 (br_f (by omega) ?_))
        refine x_iconst (v := 1) rfl ki_1 ?_
        refine x_goto (tgt := 35) rfl rfl ?_
        refine x_zret rfl rfl (by decide) ?_
        show jX m_X12_soulAt 10 0 0 5 [(0, .ref 125), (1, .int a3), (2, .int a5)] [.int 1] _ 0 0 _
        refine x_ifeq (tgt := 15) rfl rfl (ti_eq jk_1 jk_0 (br_f (by omega) ?_))
        refine x_iloadn (x := a5) rfl rfl ?_
        refine x_inst (N := m_X12_isDay) (As := [.int a5]) (st := []) (dx9 := 2) (mc := 0) (ms := 0) (host := "") rfl t_X12_isDay ⟨Or.inl q_12_273, s_X12_isDay⟩ rfl (by decide) rfl rfl ⟨by decide, by decide⟩ (zc_X12_isDay (d := 1) rfl (fun v75 ev75 => ?_))
        show jX m_X12_soulAt 10 0 0 12 [(0, .ref 125), (1, .int a3), (2, .int a5)] [.int v75] _ 0 0 _
        refine x_ifne (tgt := 17) rfl rfl (ti_ne rfl jk_0 ⟨fun c76 => ?_, fun c76 => ?_⟩)
        ·
          rw [if_pos (by omega)] at D
          refine x_aloadn (x := 125) rfl rfl ?_
          refine x_iloadn (x := a5) rfl rfl ?_
          refine x_inv (N := m_X12_find) (As := [.int a5]) (b := 125) (st := []) (dx9 := 8) (mc := 0) (ms := 0) (host := "") 12 rfl t_X12_find ⟨Or.inl q_12_393, i_X12_find.1, i_X12_find.2⟩ ⟨by decide, rfl⟩ (congrArg Prod.fst (J.1.1 125 (12, 92) rfl)) rfl (by decide) rfl rfl ⟨by decide, by decide⟩ (sf_X12_find_r125d (jr_of rfl (by omega)) hD J rfl  (fun h J S77 X78 => ?_))
          have Sm := jSm_tr rfl Sm S77
          rw [X78] at D
          show jX m_X12_soulAt 10 0 0 22 [(0, .ref 125), (1, .int a3), (2, .int a5)] [] _ 0 0 _
          refine x_aloadn (x := 125) rfl rfl ?_
          refine z_getR (N := 92) (b := 139) 12 29 rfl f_12_72 rfl J rfl 16029 ⟨rfl, rfl⟩ rfl ?_
          refine x_iloadn (x := a3) rfl rfl ?_
          refine z_iald (N := 600) rfl J rfl sg_139_0_600_1_0_1 rfl (by omega) (fun v79 qv79 ev79 => ?_)
          try rw [vrd qv79 (show a3.toInt = a3.toInt from by omega)] at D
          refine x_iret rfl rfl ?_
          show jX m_X12_holds 11 0 0 12 [(0, .ref 125), (1, .int a1), (2, .int a2), (3, .int a3), (4, .int a4), (5, .int a5)] [.int v79] _ 0 0 _
          refine x_istore (lsx9 := [(6, .int v79), (0, .ref 125), (1, .int a1), (2, .int a2), (3, .int a3), (4, .int a4), (5, .int a5)]) rfl rfl rfl ?_
          refine x_iload (x := v79) rfl rfl ?_
          refine x_iconst (v := (-1)) rfl ki_m1 ?_
          refine x_iceq (tgt := 37) rfl rfl (ti_eq rfl jk_m1 ⟨fun c80 => ?_, fun c80 => ?_⟩)
          ·
            rw [if_pos (by omega)] at D
            exact jX.sub jsb_n (ct_X12_holds_r125d_37 hD hQ  h J Sm D)
          ·
            rw [if_neg (by omega)] at D
            refine x_aloadn (x := 125) rfl rfl ?_
            refine x_iloadn (x := a1) rfl rfl ?_
            refine x_iloadn (x := a2) rfl rfl ?_
            refine x_inv (N := m_X12_isClause) (As := [.int a1, .int a2]) (b := 125) (st := []) (dx9 := 10) (mc := 0) (ms := 0) (host := "") 12 rfl t_X12_isClause ⟨Or.inl q_12_685, i_X12_isClause.1, i_X12_isClause.2⟩ ⟨by decide, rfl⟩ (congrArg Prod.fst (J.1.1 125 (12, 92) rfl)) rfl (by decide) rfl rfl ⟨by decide, by decide⟩ (jC.of rfl k_X12_isClause rfl ?_)
            show jX m_X12_isClause 10 0 0 0 [(0, .ref 125), (1, .int a1), (2, .int a2)] [] _ 0 0 _
            refine x_iloadn (x := a1) rfl rfl ?_
            refine z_i2l rfl rfl (fun v81 ev81 => ?_)
            refine x_lconst (v := 0) rfl kl_0 ?_
            refine x_aloadn (x := 125) rfl rfl ?_
            refine z_getR (N := 92) (b := 126) 12 2 rfl f_12_8 rfl J rfl 16002 ⟨rfl, rfl⟩ rfl ?_
            refine x_iconst (v := 4) rfl ki_4 ?_
            refine z_iald (N := 50660) rfl J rfl sg_126_4_5_1_0_1 jk_4 (by omega) (fun v82 qv82 ev82 => ?_)
            try rw [vrn (n := 4) (by decide) (jmb_w w1 (jmb_c S77 qv82 rfl) rfl)] at D
            refine z_i2l rfl rfl (fun v83 ev83 => ?_)
            refine x_lconst (v := 1) rfl kl_1 ?_
            refine z_lsub rfl rfl jkl_1 (by omega) (fun v84 ev84 => ?_)
            refine x_inst (N := m_X12_in) (As := [.long v81, .long 0, .long v84]) (st := []) (dx9 := 1) (mc := 0) (ms := 0) (host := "") rfl t_X12_in ⟨Or.inl q_12_188, s_X12_in⟩ rfl (by decide) rfl rfl ⟨by decide, by decide⟩ (zc_X12_in rfl jkl_0 rfl (fun v85 ev85 => ?_))
            show jX m_X12_isClause 10 0 0 15 [(0, .ref 125), (1, .int a1), (2, .int a2)] [.int v85] _ 0 0 _
            refine x_ifeq (tgt := 45) rfl rfl (ti_eq rfl jk_0 ⟨fun c86 => ?_, fun c86 => ?_⟩)
            ·
              rw [if_neg (by omega)] at D
              refine x_iconst (v := 0) rfl ki_0 ?_
              refine x_zret rfl rfl (by decide) ?_
              show jX m_X12_holds 11 0 0 26 [(6, .int v79), (0, .ref 125), (1, .int a1), (2, .int a2), (3, .int a3), (4, .int a4), (5, .int a5)] [.int 0] _ 0 0 _
              refine x_ifeq (tgt := 37) rfl rfl (ti_eq jk_0 jk_0 (br_t (by omega) ?_))
              exact jX.sub jsb_n (ct_X12_holds_r125d_37 hD hQ  h J Sm D)
            ·
              rw [if_pos (by omega)] at D
              refine x_iloadn (x := a2) rfl rfl ?_
              refine z_i2l rfl rfl (fun v87 ev87 => ?_)
              refine x_lconst (v := 0) rfl kl_0 ?_
              refine x_aloadn (x := 125) rfl rfl ?_
              refine z_getR (N := 92) (b := 126) 12 2 rfl f_12_8 rfl J rfl 16002 ⟨rfl, rfl⟩ rfl ?_
              refine x_iloadn (x := a1) rfl rfl ?_
              refine x_inst (N := m_X12_textAt) (As := [.int a1]) (st := [.ref 126, .long 0, .long v87]) (dx9 := 9) (mc := 0) (ms := 0) (host := "") rfl t_X12_textAt ⟨Or.inl q_12_676, s_X12_textAt⟩ rfl (by decide) rfl rfl ⟨by decide, by decide⟩ (jC.of rfl k_X12_textAt rfl ?_)
              show jX m_X12_textAt 9 0 0 0 [(0, .int a1)] [] _ 0 0 _
              refine x_sipush (v := 18820) rfl ks_18820 ?_
              refine x_sipush (v := 924) rfl ks_924 ?_
              refine x_iloadn (x := a1) rfl rfl ?_
              refine z_imul rfl jk_924 rfl (by omega) (fun v88 ev88 => ?_)
              refine z_iadd rfl jk_18820 rfl (by omega) (fun v89 ev89 => ?_)
              refine x_iret rfl rfl ?_
              show jX m_X12_isClause 10 0 0 29 [(0, .ref 125), (1, .int a1), (2, .int a2)] [.int v89, .ref 126, .long 0, .long v87] _ 0 0 _
              refine x_iconst (v := 3) rfl ki_3 ?_
              refine z_iadd rfl rfl jk_3 (by omega) (fun v90 ev90 => ?_)
              refine z_iald (N := 50660) rfl J rfl sg_126_18820_46540_924_3_4 rfl (by omega) (fun v91 qv91 ev91 => ?_)
              try rw [vrd (jmb_w w1 (jmb_c S77 qv91 rfl) rfl) (show ((18820 + (924 * a1.toInt)) + 3) = v90.toInt from by omega)] at D
              refine z_i2l rfl rfl (fun v92 ev92 => ?_)
              refine x_lconst (v := 1) rfl kl_1 ?_
              refine z_lsub rfl rfl jkl_1 (by omega) (fun v93 ev93 => ?_)
              refine x_inst (N := m_X12_in) (As := [.long v87, .long 0, .long v93]) (st := []) (dx9 := 1) (mc := 0) (ms := 0) (host := "") rfl t_X12_in ⟨Or.inl q_12_188, s_X12_in⟩ rfl (by decide) rfl rfl ⟨by decide, by decide⟩ (zc_X12_in rfl jkl_0 rfl (fun v94 ev94 => ?_))
              show jX m_X12_isClause 10 0 0 38 [(0, .ref 125), (1, .int a1), (2, .int a2)] [.int v94] _ 0 0 _
              refine x_ifeq (tgt := 45) rfl rfl (ti_eq rfl jk_0 ⟨fun c95 => ?_, fun c95 => ?_⟩)
              ·
                rw [if_neg (by omega)] at D
                refine x_iconst (v := 0) rfl ki_0 ?_
                refine x_zret rfl rfl (by decide) ?_
                show jX m_X12_holds 11 0 0 26 [(6, .int v79), (0, .ref 125), (1, .int a1), (2, .int a2), (3, .int a3), (4, .int a4), (5, .int a5)] [.int 0] _ 0 0 _
                refine x_ifeq (tgt := 37) rfl rfl (ti_eq jk_0 jk_0 (br_t (by omega) ?_))
                exact jX.sub jsb_n (ct_X12_holds_r125d_37 hD hQ  h J Sm D)
              ·
                rw [if_pos (by omega)] at D
                refine x_iconst (v := 1) rfl ki_1 ?_
                refine x_goto (tgt := 46) rfl rfl ?_
                refine x_zret rfl rfl (by decide) ?_
                show jX m_X12_holds 11 0 0 26 [(6, .int v79), (0, .ref 125), (1, .int a1), (2, .int a2), (3, .int a3), (4, .int a4), (5, .int a5)] [.int 1] _ 0 0 _
                refine x_ifeq (tgt := 37) rfl rfl (ti_eq jk_1 jk_0 (br_f (by omega) ?_))
                refine x_iload (x := a4) rfl rfl ?_
                refine x_inst (N := m_X12_isDay) (As := [.int a4]) (st := []) (dx9 := 2) (mc := 0) (ms := 0) (host := "") rfl t_X12_isDay ⟨Or.inl q_12_273, s_X12_isDay⟩ rfl (by decide) rfl rfl ⟨by decide, by decide⟩ (zc_X12_isDay (d := 1) rfl (fun v96 ev96 => ?_))
                show jX m_X12_holds 11 0 0 34 [(6, .int v79), (0, .ref 125), (1, .int a1), (2, .int a2), (3, .int a3), (4, .int a4), (5, .int a5)] [.int v96] _ 0 0 _
                refine x_ifne (tgt := 39) rfl rfl (ti_ne rfl jk_0 ⟨fun c97 => ?_, fun c97 => ?_⟩)
                ·
                  rw [if_pos (by omega)] at D
                  refine x_aloadn (x := 125) rfl rfl ?_
                  refine x_iloadn (x := a1) rfl rfl ?_
                  refine x_iloadn (x := a2) rfl rfl ?_
                  refine x_iload (x := v79) rfl rfl ?_
                  refine x_iload (x := a4) rfl rfl ?_
                  refine x_inv (N := m_X12_holdsFor) (As := [.int a1, .int a2, .int v79, .int a4]) (b := 125) (st := []) (dx9 := 10) (mc := 0) (ms := 0) (host := "") 12 rfl t_X12_holdsFor ⟨Or.inl q_12_749, i_X12_holdsFor.1, i_X12_holdsFor.2⟩ ⟨by decide, rfl⟩ (congrArg Prod.fst (J.1.1 125 (12, 92) rfl)) rfl (by decide) rfl rfl ⟨by decide, by decide⟩ (sf_X12_holdsFor_r125d (jr_of rfl (by omega)) (jr_of rfl (by omega)) (jr_of rfl (by omega)) (jr_of rfl (by omega)) (jcn qv91 (by omega) (by omega) (by omega)) hD J rfl  (fun v101 h ev101 J S98 X99 X100 => ?_))
                  have Sm := jSm_tr rfl Sm S98
                  try rw [X99] at D
                  try rw [X100] at D
                  show jX m_X12_holds 11 0 0 49 [(6, .int v79), (0, .ref 125), (1, .int a1), (2, .int a2), (3, .int a3), (4, .int a4), (5, .int a5)] [.int v101] _ 0 0 _
                  refine x_ifeq (tgt := 56) rfl rfl (ti_eq rfl jk_0 ⟨fun c102 => ?_, fun c102 => ?_⟩)
                  ·
                    rw [if_pos (by omega)] at D
                    refine x_iconst (v := 0) rfl ki_0 ?_
                    exact jX.sub jsb_n (ct_X12_holds_r125d_200057 hD hQ  h J Sm D)
                  ·
                    rw [if_neg (by omega)] at D
                    refine x_iconst (v := 1) rfl ki_1 ?_
                    refine x_goto (tgt := 57) rfl rfl ?_
                    exact jX.sub jsb_n (ct_X12_holds_r125d_300057 hD hQ  h J Sm D)
                ·
                  rw [if_neg (by omega)] at D
                  exact jX.sub jsb_n (ct_X12_holds_r125d_37 hD hQ  h J Sm D)
        ·
          rw [if_neg (by omega)] at D
          refine x_iconst (v := (-1)) rfl ki_m1 ?_
          refine x_iret rfl rfl ?_
          show jX m_X12_holds 11 0 0 12 [(0, .ref 125), (1, .int a1), (2, .int a2), (3, .int a3), (4, .int a4), (5, .int a5)] [.int (-1)] _ 0 0 _
          refine x_istore (lsx9 := [(6, .int (-1)), (0, .ref 125), (1, .int a1), (2, .int a2), (3, .int a3), (4, .int a4), (5, .int a5)]) rfl rfl rfl ?_
          refine x_iload (x := (-1)) rfl rfl ?_
          refine x_iconst (v := (-1)) rfl ki_m1 ?_
          refine x_iceq (tgt := 37) rfl rfl (ti_eq jk_m1 jk_m1 (br_t (by omega) ?_))
          exact jX.sub jsb_n (ct_X12_holds_r125d_37 hD hQ  h J Sm D)
