def fp_X12_line_r125d : jFp := [(125, 0, 1), (125, 1, 2), (125, 8, 9), (125, 9, 10), (125, 10, 11), (125, 11, 12), (125, 12, 13), (125, 13, 14), (125, 14, 15), (126, 0, 1), (126, 16, 17), (126, 20, 18020), (126, 49920, 50660)]
set_option maxRecDepth 100000 in
set_option maxHeartbeats 4000000 in
theorem ct_X12_line_r125d_100094 {Dy : jH → Prop} {h0 : jH} {Q : Option Value → jH → Prop} {dr : (Int × jW)} (hD : jDk Dy) (hQ : ∀ (v : Int32) hx9, jJ jSgM Dy hx9 → jSm fp_X12_line_r125d h0 hx9 → ∀ u0 u1 u2 u3 u4 : Int32, jiv hx9 126 (16 : Int32).toNatClampNeg = u0 → jiv hx9 126 (0 : Int32).toNatClampNeg = u1 → jiv hx9 126 (4 : Int32).toNatClampNeg = u2 → jiv hx9 126 (5 : Int32).toNatClampNeg = u3 → jiv hx9 126 (7 : Int32).toNatClampNeg = u4 → u0.toInt = u1.toInt + u2.toInt + u3.toInt + u4.toInt → dr.1 = v.toInt → dr.2 = vw hx9 → Q (some (.int v)) hx9) : ∀ (g0 : Int32) (g1 : Int32) (g2 : Int32) (g3 : Int32) (g4 : Int32) (g5 : Int32) (g6 : Int32) (g7 : Int32) (g8 : Int32) (h : jH), 0 ≤ g0.toInt ∧ g0.toInt ≤ 200 → 0 ≤ g1.toInt ∧ g1.toInt ≤ 370 → 0 ≤ g2.toInt ∧ g2.toInt ≤ 30 → 0 ≤ g3.toInt ∧ g3.toInt ≤ 100 → 0 ≤ g4.toInt ∧ g4.toInt ≤ 40 → 0 ≤ g5.toInt ∧ g5.toInt ≤ 400 → 0 ≤ g6.toInt ∧ g6.toInt ≤ 3 → 0 ≤ g7.toInt ∧ g7.toInt ≤ 0 → 0 ≤ g8.toInt ∧ g8.toInt ≤ 400 → g1.toInt = g0.toInt + g2.toInt + g3.toInt + g4.toInt → jiv h 126 (0 : Int32).toNatClampNeg = g0 → jiv h 126 (16 : Int32).toNatClampNeg = g1 → jiv h 126 (4 : Int32).toNatClampNeg = g2 → jiv h 126 (5 : Int32).toNatClampNeg = g3 → jiv h 126 (7 : Int32).toNatClampNeg = g4 → jiv h 125 10 = g5 → jiv h 125 11 = g6 → jiv h 125 8 = g7 → jiv h 125 9 = g8 → jJ jSgM Dy h → jSm fp_X12_line_r125d h0 h → d_X12_line_r125d_100094  (vw h) = dr → jX m_X12_line 6 0 0 94 [] [.int (-1), .ref 125] h 0 0 Q := by
  intro g0 g1 g2 g3 g4 g5 g6 g7 g8 h y0 y1 y2 y3 y4 y5 y6 y7 y8 y9 z0 z1 z2 z3 z4 z5 z6 z7 z8  J Sm D
  unfold d_X12_line_r125d_100094 at D
  try rw [vrn (n := 0) (by decide) z0] at D
  try rw [vrn (n := 16) (by decide) z1] at D
  try rw [vrn (n := 4) (by decide) z2] at D
  try rw [vrn (n := 5) (by decide) z3] at D
  try rw [vrn (n := 7) (by decide) z4] at D
  try rw [vrf z5] at D
  try rw [vrf z6] at D
  try rw [vrf z7] at D
  try rw [vrf z8] at D
  refine x_inv (N := m_X12_told) (As := [.int (-1)]) (b := 125) (st := []) (dx9 := 1) (mc := 0) (ms := 0) (host := "") 12 rfl t_X12_told ⟨Or.inl q_12_197, i_X12_told.1, i_X12_told.2⟩ ⟨by decide, rfl⟩ (congrArg Prod.fst (J.1.1 125 (12, 92) rfl)) rfl (by decide) rfl rfl ⟨by decide, by decide⟩ (sf_X12_told_r125d  hD J rfl  (fun v4 h J S1 X2 X3 => ?_))
  have ev4 := jfull v4
  have Sm := jSm_tr rfl Sm S1
  try rw [jk_m1] at X2
  try rw [jk_m1] at X3
  try rw [X2] at D
  try rw [X3] at D
  show jX m_X12_line 6 0 0 97 [] [.int v4] _ 0 0 _
  refine x_iret rfl rfl ?_
  exact hQ _ _ J Sm _ _ _ _ _ (jmc S1 rfl z1) (jmc S1 rfl z0) (jmc S1 rfl z2) (jmc S1 rfl z3) (jmc S1 rfl z4) (by omega) ((congrArg Prod.fst D).symm.trans X2) ((congrArg Prod.snd D).symm.trans X3)
set_option maxRecDepth 100000 in
set_option maxHeartbeats 4000000 in
theorem ct_X12_line_r125d_94 {Dy : jH → Prop} {h0 : jH} {Q : Option Value → jH → Prop} {dr : (Int × jW)} (hD : jDk Dy) (hQ : ∀ (v : Int32) hx9, jJ jSgM Dy hx9 → jSm fp_X12_line_r125d h0 hx9 → ∀ u0 u1 u2 u3 u4 : Int32, jiv hx9 126 (16 : Int32).toNatClampNeg = u0 → jiv hx9 126 (0 : Int32).toNatClampNeg = u1 → jiv hx9 126 (4 : Int32).toNatClampNeg = u2 → jiv hx9 126 (5 : Int32).toNatClampNeg = u3 → jiv hx9 126 (7 : Int32).toNatClampNeg = u4 → u0.toInt = u1.toInt + u2.toInt + u3.toInt + u4.toInt → dr.1 = v.toInt → dr.2 = vw hx9 → Q (some (.int v)) hx9) : ∀ (g0 : Int32) (g1 : Int32) (g2 : Int32) (g3 : Int32) (g4 : Int32) (g5 : Int32) (g6 : Int32) (g7 : Int32) (g8 : Int32) (h : jH), 0 ≤ g0.toInt ∧ g0.toInt ≤ 200 → 0 ≤ g1.toInt ∧ g1.toInt ≤ 370 → 0 ≤ g2.toInt ∧ g2.toInt ≤ 30 → 0 ≤ g3.toInt ∧ g3.toInt ≤ 100 → 0 ≤ g4.toInt ∧ g4.toInt ≤ 40 → 0 ≤ g5.toInt ∧ g5.toInt ≤ 400 → 0 ≤ g6.toInt ∧ g6.toInt ≤ 3 → 0 ≤ g7.toInt ∧ g7.toInt ≤ 0 → 0 ≤ g8.toInt ∧ g8.toInt ≤ 400 → g1.toInt = g0.toInt + g2.toInt + g3.toInt + g4.toInt → jiv h 126 (0 : Int32).toNatClampNeg = g0 → jiv h 126 (16 : Int32).toNatClampNeg = g1 → jiv h 126 (4 : Int32).toNatClampNeg = g2 → jiv h 126 (5 : Int32).toNatClampNeg = g3 → jiv h 126 (7 : Int32).toNatClampNeg = g4 → jiv h 125 10 = g5 → jiv h 125 11 = g6 → jiv h 125 8 = g7 → jiv h 125 9 = g8 → jJ jSgM Dy h → jSm fp_X12_line_r125d h0 h → d_X12_line_r125d_94  (vw h) = dr → jX m_X12_line 6 0 0 94 [] [.int (-5), .ref 125] h 0 0 Q := by
  intro g0 g1 g2 g3 g4 g5 g6 g7 g8 h y0 y1 y2 y3 y4 y5 y6 y7 y8 y9 z0 z1 z2 z3 z4 z5 z6 z7 z8  J Sm D
  unfold d_X12_line_r125d_94 at D
  try rw [vrn (n := 0) (by decide) z0] at D
  try rw [vrn (n := 16) (by decide) z1] at D
  try rw [vrn (n := 4) (by decide) z2] at D
  try rw [vrn (n := 5) (by decide) z3] at D
  try rw [vrn (n := 7) (by decide) z4] at D
  try rw [vrf z5] at D
  try rw [vrf z6] at D
  try rw [vrf z7] at D
  try rw [vrf z8] at D
  refine x_inv (N := m_X12_told) (As := [.int (-5)]) (b := 125) (st := []) (dx9 := 1) (mc := 0) (ms := 0) (host := "") 12 rfl t_X12_told ⟨Or.inl q_12_197, i_X12_told.1, i_X12_told.2⟩ ⟨by decide, rfl⟩ (congrArg Prod.fst (J.1.1 125 (12, 92) rfl)) rfl (by decide) rfl rfl ⟨by decide, by decide⟩ (sf_X12_told_r125d  hD J rfl  (fun v4 h J S1 X2 X3 => ?_))
  have ev4 := jfull v4
  have Sm := jSm_tr rfl Sm S1
  try rw [jk_m5] at X2
  try rw [jk_m5] at X3
  try rw [X2] at D
  try rw [X3] at D
  show jX m_X12_line 6 0 0 97 [] [.int v4] _ 0 0 _
  refine x_iret rfl rfl ?_
  exact hQ _ _ J Sm _ _ _ _ _ (jmc S1 rfl z1) (jmc S1 rfl z0) (jmc S1 rfl z2) (jmc S1 rfl z3) (jmc S1 rfl z4) (by omega) ((congrArg Prod.fst D).symm.trans X2) ((congrArg Prod.snd D).symm.trans X3)
set_option maxRecDepth 100000 in
set_option maxHeartbeats 4000000 in
theorem ct_X12_line_r125d_77 {Dy : jH → Prop} {h0 : jH} {Q : Option Value → jH → Prop} {dr : (Int × jW)} (hD : jDk Dy) (hQ : ∀ (v : Int32) hx9, jJ jSgM Dy hx9 → jSm fp_X12_line_r125d h0 hx9 → ∀ u0 u1 u2 u3 u4 : Int32, jiv hx9 126 (16 : Int32).toNatClampNeg = u0 → jiv hx9 126 (0 : Int32).toNatClampNeg = u1 → jiv hx9 126 (4 : Int32).toNatClampNeg = u2 → jiv hx9 126 (5 : Int32).toNatClampNeg = u3 → jiv hx9 126 (7 : Int32).toNatClampNeg = u4 → u0.toInt = u1.toInt + u2.toInt + u3.toInt + u4.toInt → dr.1 = v.toInt → dr.2 = vw hx9 → Q (some (.int v)) hx9) : ∀ (l6 : Int32) (g0 : Int32) (g1 : Int32) (g2 : Int32) (g3 : Int32) (g4 : Int32) (g5 : Int32) (g6 : Int32) (g7 : Int32) (g8 : Int32) (h : jH), 0 ≤ l6.toInt ∧ l6.toInt ≤ 1 → 0 ≤ g0.toInt ∧ g0.toInt ≤ 200 → 0 ≤ g1.toInt ∧ g1.toInt ≤ 370 → 0 ≤ g2.toInt ∧ g2.toInt ≤ 30 → 0 ≤ g3.toInt ∧ g3.toInt ≤ 100 → 0 ≤ g4.toInt ∧ g4.toInt ≤ 40 → 0 ≤ g5.toInt ∧ g5.toInt ≤ 400 → 0 ≤ g6.toInt ∧ g6.toInt ≤ 3 → 0 ≤ g7.toInt ∧ g7.toInt ≤ 400 → 0 ≤ g8.toInt ∧ g8.toInt ≤ 400 → g1.toInt = g0.toInt + g2.toInt + g3.toInt + g4.toInt → jiv h 126 (0 : Int32).toNatClampNeg = g0 → jiv h 126 (16 : Int32).toNatClampNeg = g1 → jiv h 126 (4 : Int32).toNatClampNeg = g2 → jiv h 126 (5 : Int32).toNatClampNeg = g3 → jiv h 126 (7 : Int32).toNatClampNeg = g4 → jiv h 125 10 = g5 → jiv h 125 11 = g6 → jiv h 125 8 = g7 → jiv h 125 9 = g8 → jJ jSgM Dy h → jSm fp_X12_line_r125d h0 h → d_X12_line_r125d_77  l6.toInt (vw h) = dr → jX m_X12_line 6 0 0 77 [(0, .ref 125), (6, .int l6)] [] h 0 0 Q := by
  intro l6 g0 g1 g2 g3 g4 g5 g6 g7 g8 h y0 y1 y2 y3 y4 y5 y6 y7 y8 y9 y10 z0 z1 z2 z3 z4 z5 z6 z7 z8  J Sm D
  unfold d_X12_line_r125d_77 at D
  try rw [vrn (n := 0) (by decide) z0] at D
  try rw [vrn (n := 16) (by decide) z1] at D
  try rw [vrn (n := 4) (by decide) z2] at D
  try rw [vrn (n := 5) (by decide) z3] at D
  try rw [vrn (n := 7) (by decide) z4] at D
  try rw [vrf z5] at D
  try rw [vrf z6] at D
  try rw [vrf z7] at D
  try rw [vrf z8] at D
  refine x_aloadn (x := 125) rfl rfl ?_
  refine x_iconst (v := 0) rfl ki_0 ?_
  refine z_putI (N := 92) (w := 0) 12 8 rfl f_12_201 rfl (jfin_no TX12 RX12 92 rfl rfl) hD J Sm rfl rfl jk_0 (pw_125_8 (by omega)) rfl (fun h w1 J Sm => ?_)
  rw [vwf w1 (show 0 = (0 : Int32).toInt from by have := jk_0; omega)] at D
  refine x_aloadn (x := 125) rfl rfl ?_
  refine x_iload (x := l6) rfl rfl ?_
  refine x_ifeq (tgt := 93) rfl rfl (ti_eq rfl jk_0 ⟨fun c2 => ?_, fun c2 => ?_⟩)
  ·
    rw [if_pos (by omega)] at D
    refine x_iconst (v := (-1)) rfl ki_m1 ?_
    exact jX.sub jsb_n (ct_X12_line_r125d_100094 hD hQ  g0 g1 g2 g3 g4 g5 g6 0 g8 h (jr_of rfl (by omega)) (jr_of rfl (by omega)) (jr_of rfl (by omega)) (jr_of rfl (by omega)) (jr_of rfl (by omega)) (jr_of rfl (by omega)) (jr_of rfl (by omega)) (jr_of jk_0 (by omega)) (jr_of rfl (by omega)) (by omega) (jmo w1 rfl z0) (jmo w1 rfl z1) (jmo w1 rfl z2) (jmo w1 rfl z3) (jmo w1 rfl z4) (jmo w1 rfl z5) (jmo w1 rfl z6) (jmw w1) (jmo w1 rfl z8) J Sm D)
  ·
    rw [if_neg (by omega)] at D
    refine x_bipush (v := (-5)) rfl kb_m5 ?_
    refine x_goto (tgt := 94) rfl rfl ?_
    exact jX.sub jsb_n (ct_X12_line_r125d_94 hD hQ  g0 g1 g2 g3 g4 g5 g6 0 g8 h (jr_of rfl (by omega)) (jr_of rfl (by omega)) (jr_of rfl (by omega)) (jr_of rfl (by omega)) (jr_of rfl (by omega)) (jr_of rfl (by omega)) (jr_of rfl (by omega)) (jr_of jk_0 (by omega)) (jr_of rfl (by omega)) (by omega) (jmo w1 rfl z0) (jmo w1 rfl z1) (jmo w1 rfl z2) (jmo w1 rfl z3) (jmo w1 rfl z4) (jmo w1 rfl z5) (jmo w1 rfl z6) (jmw w1) (jmo w1 rfl z8) J Sm D)
set_option maxRecDepth 100000 in
set_option maxHeartbeats 4000000 in
theorem ct_X12_line_r125d_300392 {Dy : jH → Prop} {h0 : jH} {Q : Option Value → jH → Prop} {dr : (Int × jW)} (hD : jDk Dy) (hQ : ∀ (v : Int32) hx9, jJ jSgM Dy hx9 → jSm fp_X12_line_r125d h0 hx9 → ∀ u0 u1 u2 u3 u4 : Int32, jiv hx9 126 (16 : Int32).toNatClampNeg = u0 → jiv hx9 126 (0 : Int32).toNatClampNeg = u1 → jiv hx9 126 (4 : Int32).toNatClampNeg = u2 → jiv hx9 126 (5 : Int32).toNatClampNeg = u3 → jiv hx9 126 (7 : Int32).toNatClampNeg = u4 → u0.toInt = u1.toInt + u2.toInt + u3.toInt + u4.toInt → dr.1 = v.toInt → dr.2 = vw hx9 → Q (some (.int v)) hx9) : ∀ (l7 : Int32) (s1 : Int32) (g0 : Int32) (g1 : Int32) (g2 : Int32) (g3 : Int32) (g4 : Int32) (g5 : Int32) (g6 : Int32) (g7 : Int32) (g8 : Int32) (h : jH), 0 ≤ l7.toInt ∧ l7.toInt ≤ 199 → 25 ≤ s1.toInt ∧ s1.toInt ≤ 17935 → s1.toInt % 90 = 25 → 0 ≤ g0.toInt ∧ g0.toInt ≤ 199 → 0 ≤ g1.toInt ∧ g1.toInt ≤ 369 → 0 ≤ g2.toInt ∧ g2.toInt ≤ 30 → 0 ≤ g3.toInt ∧ g3.toInt ≤ 100 → 0 ≤ g4.toInt ∧ g4.toInt ≤ 40 → 0 ≤ g5.toInt ∧ g5.toInt ≤ 400 → 0 ≤ g6.toInt ∧ g6.toInt ≤ 3 → 0 ≤ g7.toInt ∧ g7.toInt ≤ 0 → 0 ≤ g8.toInt ∧ g8.toInt ≤ 400 → g1.toInt = g0.toInt + g2.toInt + g3.toInt + g4.toInt → (g6.toInt = 0 ∨ g8.toInt + 1 ≤ g5.toInt) → jiv h 126 (0 : Int32).toNatClampNeg = g0 → jiv h 126 (16 : Int32).toNatClampNeg = g1 → jiv h 126 (4 : Int32).toNatClampNeg = g2 → jiv h 126 (5 : Int32).toNatClampNeg = g3 → jiv h 126 (7 : Int32).toNatClampNeg = g4 → jiv h 125 10 = g5 → jiv h 125 11 = g6 → jiv h 125 8 = g7 → jiv h 125 9 = g8 → jJ jSgM Dy h → jSm fp_X12_line_r125d h0 h → d_X12_line_r125d_300392  l7.toInt s1.toInt (vw h) = dr → jX m_X12_line 6 0 0 392 [(0, .ref 125), (7, .int l7)] [.int 1, .int s1, .ref 126] h 0 0 Q := by
  intro l7 s1 g0 g1 g2 g3 g4 g5 g6 g7 g8 h y0 y1 y2 y3 y4 y5 y6 y7 y8 y9 y10 y11 y12 y13 z0 z1 z2 z3 z4 z5 z6 z7 z8  J Sm D
  unfold d_X12_line_r125d_300392 at D
  try rw [vrn (n := 0) (by decide) z0] at D
  try rw [vrn (n := 16) (by decide) z1] at D
  try rw [vrn (n := 4) (by decide) z2] at D
  try rw [vrn (n := 5) (by decide) z3] at D
  try rw [vrn (n := 7) (by decide) z4] at D
  try rw [vrf z5] at D
  try rw [vrf z6] at D
  try rw [vrf z7] at D
  try rw [vrf z8] at D
  refine z_iast (N := 50660) (l := 20) (u := 18020) (w := 1) rfl hD J Sm rfl rfl rfl (by omega) jk_1 (wr_126_20 (by omega) (fun q1 q2 q3 q4 => by omega) (fun q1 q2 q3 q4 => by omega) (fun q1 q2 q3 q4 => by omega) (fun q1 q2 q3 q4 => by omega) (fun q1 q2 q3 q4 => by omega) (fun q1 q2 q3 q4 => by omega) (fun q1 q2 q3 q4 => by omega) (fun q1 q2 q3 q4 => by omega) (fun q1 q2 q3 q4 => by omega) (fun q1 q2 q3 q4 => by omega) (fun q1 q2 q3 q4 => by omega) (fun q1 q2 q3 q4 => by omega) (fun q1 q2 q3 q4 => by omega) (fun q1 q2 q3 q4 => by omega) (fun q1 q2 q3 q4 => by omega) (fun q1 q2 q3 q4 => by omega) (fun q1 q2 q3 q4 => by omega) (fun q1 q2 q3 q4 => by omega) (fun q1 q2 q3 q4 => by omega) (fun q1 q2 q3 q4 => by omega) (fun q1 q2 q3 q4 => by omega) (fun q1 q2 q3 q4 => by omega) (fun q1 q2 q3 q4 => by omega)) rfl (fun h w1 J Sm => ?_)
  rw [vww w1 (show s1.toInt = s1.toInt from by omega) (show 1 = (1 : Int32).toInt from by have := jk_1; omega)] at D
  refine x_aloadn (x := 125) rfl rfl ?_
  refine z_getR (N := 92) (b := 126) 12 2 rfl f_12_8 rfl J rfl 16002 ⟨rfl, rfl⟩ rfl ?_
  refine x_iconst (v := 0) rfl ki_0 ?_
  refine x_dup2 rfl rfl rfl ?_
  refine z_ialdM (N := 50660) (v := g0) rfl J rfl jk_0 (by omega) (jmo2 w1 rfl jk_0 (by omega) z0) ?_
  refine x_iconst (v := 1) rfl ki_1 ?_
  refine z_iadd rfl rfl jk_1 (by omega) (fun v2 ev2 => ?_)
  refine z_iast (N := 50660) (l := 0) (u := 1) (w := v2.toInt) rfl hD J Sm rfl rfl jk_0 (by omega) rfl (wr_126_0 (by omega) (fun q1 q2 q3 q4 => by omega)) rfl (fun h w3 J Sm => ?_)
  rw [vwn (n := 0) (by decide) w3 (show (g0.toInt + 1) = v2.toInt from by omega)] at D
  refine x_aloadn (x := 125) rfl rfl ?_
  refine x_iconst (v := 0) rfl ki_0 ?_
  refine x_iload (x := l7) rfl rfl ?_
  refine x_inv (N := m_X12_thing) (As := [.int 0, .int l7]) (b := 125) (st := []) (dx9 := 5) (mc := 0) (ms := 0) (host := "") 12 rfl t_X12_thing ⟨Or.inl q_12_289, i_X12_thing.1, i_X12_thing.2⟩ ⟨by decide, rfl⟩ (congrArg Prod.fst (J.1.1 125 (12, 92) rfl)) rfl (by decide) rfl rfl ⟨by decide, by decide⟩ (jC.of rfl k_X12_thing rfl ?_)
  show jX m_X12_thing 5 0 0 0 [(0, .ref 125), (1, .int 0), (2, .int l7)] [] _ 0 0 _
  refine x_ldc (v := 49920) rfl z_12_194 ?_
  refine x_iconst (v := 2) rfl ki_2 ?_
  refine x_aloadn (x := 125) rfl rfl ?_
  refine z_getR (N := 92) (b := 126) 12 2 rfl f_12_8 rfl J rfl 16002 ⟨rfl, rfl⟩ rfl ?_
  refine x_bipush (v := 16) rfl kb_16 ?_
  refine z_ialdM (N := 50660) (v := g1) rfl J rfl jk_16 (by omega) (jmo2 w3 jk_0 jk_16 (by omega) (jmo2 w1 rfl jk_16 (by omega) z1)) ?_
  refine z_imul rfl jk_2 rfl (by omega) (fun v4 ev4 => ?_)
  refine z_iadd rfl jk_49920 rfl (by omega) (fun v5 ev5 => ?_)
  refine x_istoren (lsx9 := [(3, .int v5), (0, .ref 125), (1, .int 0), (2, .int l7)]) rfl rfl rfl ?_
  refine x_aloadn (x := 125) rfl rfl ?_
  refine z_getR (N := 92) (b := 126) 12 2 rfl f_12_8 rfl J rfl 16002 ⟨rfl, rfl⟩ rfl ?_
  refine x_iloadn (x := v5) rfl rfl ?_
  refine x_iloadn (x := 0) rfl rfl ?_
  refine z_iast (N := 50660) (l := 49920) (u := 50660) (w := 0) rfl hD J Sm rfl rfl rfl (by omega) jk_0 (wr_126_49920 (by omega) (fun q1 q2 q3 q4 => by omega) (fun q1 q2 q3 q4 => by omega)) rfl (fun h w6 J Sm => ?_)
  rw [vww w6 (show (49920 + (2 * g1.toInt)) = v5.toInt from by omega) (show 0 = (0 : Int32).toInt from by have := jk_0; omega)] at D
  refine x_aloadn (x := 125) rfl rfl ?_
  refine z_getR (N := 92) (b := 126) 12 2 rfl f_12_8 rfl J rfl 16002 ⟨rfl, rfl⟩ rfl ?_
  refine x_iloadn (x := v5) rfl rfl ?_
  refine x_iconst (v := 1) rfl ki_1 ?_
  refine z_iadd rfl rfl jk_1 (by omega) (fun v7 ev7 => ?_)
  refine x_iloadn (x := l7) rfl rfl ?_
  refine z_iast (N := 50660) (l := 49920) (u := 50660) (w := l7.toInt) rfl hD J Sm rfl rfl rfl (by omega) rfl (wr_126_49920 (by omega) (fun q1 q2 q3 q4 => by omega) (fun q1 q2 q3 q4 => by omega)) rfl (fun h w8 J Sm => ?_)
  rw [vww w8 (show ((49920 + (2 * g1.toInt)) + 1) = v7.toInt from by omega) (show l7.toInt = l7.toInt from by omega)] at D
  refine x_aloadn (x := 125) rfl rfl ?_
  refine z_getR (N := 92) (b := 126) 12 2 rfl f_12_8 rfl J rfl 16002 ⟨rfl, rfl⟩ rfl ?_
  refine x_bipush (v := 16) rfl kb_16 ?_
  refine x_dup2 rfl rfl rfl ?_
  refine z_ialdM (N := 50660) (v := g1) rfl J rfl jk_16 (by omega) (jmo2 w8 rfl jk_16 (by omega) (jmo2 w6 rfl jk_16 (by omega) (jmo2 w3 jk_0 jk_16 (by omega) (jmo2 w1 rfl jk_16 (by omega) z1)))) ?_
  refine x_iconst (v := 1) rfl ki_1 ?_
  refine z_iadd rfl rfl jk_1 (by omega) (fun v9 ev9 => ?_)
  refine z_iast (N := 50660) (l := 16) (u := 17) (w := v9.toInt) rfl hD J Sm rfl rfl jk_16 (by omega) rfl (wr_126_16 (by omega) (fun q1 q2 q3 q4 => by omega)) rfl (fun h w10 J Sm => ?_)
  rw [vwn (n := 16) (by decide) w10 (show (g1.toInt + 1) = v9.toInt from by omega)] at D
  refine x_vret rfl rfl ?_
  show jX m_X12_line 6 0 0 410 [(0, .ref 125), (7, .int l7)] [] _ 0 0 _
  refine x_aloadn (x := 125) rfl rfl ?_
  refine x_iload (x := l7) rfl rfl ?_
  refine x_inv (N := m_X12_told) (As := [.int l7]) (b := 125) (st := []) (dx9 := 1) (mc := 0) (ms := 0) (host := "") 12 rfl t_X12_told ⟨Or.inl q_12_197, i_X12_told.1, i_X12_told.2⟩ ⟨by decide, rfl⟩ (congrArg Prod.fst (J.1.1 125 (12, 92) rfl)) rfl (by decide) rfl rfl ⟨by decide, by decide⟩ (sf_X12_told_r125d  hD J rfl  (fun v14 h J S11 X12 X13 => ?_))
  have ev14 := jfull v14
  have Sm := jSm_tr rfl Sm S11
  try rw [X12] at D
  try rw [X13] at D
  show jX m_X12_line 6 0 0 416 [(0, .ref 125), (7, .int l7)] [.int v14] _ 0 0 _
  refine x_iret rfl rfl ?_
  exact hQ _ _ J Sm _ _ _ _ _ (jmc S11 rfl (jmw w10)) (jmc S11 rfl (jmo2 w10 jk_16 jk_0 (by omega) (jmo2 w8 rfl jk_0 (by omega) (jmo2 w6 rfl jk_0 (by omega) (jmw w3))))) (jmc S11 rfl (jmo2 w10 jk_16 jk_4 (by omega) (jmo2 w8 rfl jk_4 (by omega) (jmo2 w6 rfl jk_4 (by omega) (jmo2 w3 jk_0 jk_4 (by omega) (jmo2 w1 rfl jk_4 (by omega) z2)))))) (jmc S11 rfl (jmo2 w10 jk_16 jk_5 (by omega) (jmo2 w8 rfl jk_5 (by omega) (jmo2 w6 rfl jk_5 (by omega) (jmo2 w3 jk_0 jk_5 (by omega) (jmo2 w1 rfl jk_5 (by omega) z3)))))) (jmc S11 rfl (jmo2 w10 jk_16 jk_7 (by omega) (jmo2 w8 rfl jk_7 (by omega) (jmo2 w6 rfl jk_7 (by omega) (jmo2 w3 jk_0 jk_7 (by omega) (jmo2 w1 rfl jk_7 (by omega) z4)))))) (by omega) ((congrArg Prod.fst D).symm.trans X12) ((congrArg Prod.snd D).symm.trans X13)
set_option maxRecDepth 100000 in
set_option maxHeartbeats 4000000 in
theorem ct_X12_line_r125d_200392 {Dy : jH → Prop} {h0 : jH} {Q : Option Value → jH → Prop} {dr : (Int × jW)} (hD : jDk Dy) (hQ : ∀ (v : Int32) hx9, jJ jSgM Dy hx9 → jSm fp_X12_line_r125d h0 hx9 → ∀ u0 u1 u2 u3 u4 : Int32, jiv hx9 126 (16 : Int32).toNatClampNeg = u0 → jiv hx9 126 (0 : Int32).toNatClampNeg = u1 → jiv hx9 126 (4 : Int32).toNatClampNeg = u2 → jiv hx9 126 (5 : Int32).toNatClampNeg = u3 → jiv hx9 126 (7 : Int32).toNatClampNeg = u4 → u0.toInt = u1.toInt + u2.toInt + u3.toInt + u4.toInt → dr.1 = v.toInt → dr.2 = vw hx9 → Q (some (.int v)) hx9) : ∀ (l7 : Int32) (s1 : Int32) (g0 : Int32) (g1 : Int32) (g2 : Int32) (g3 : Int32) (g4 : Int32) (g5 : Int32) (g6 : Int32) (g7 : Int32) (g8 : Int32) (h : jH), 0 ≤ l7.toInt ∧ l7.toInt ≤ 199 → 25 ≤ s1.toInt ∧ s1.toInt ≤ 17935 → s1.toInt % 90 = 25 → 0 ≤ g0.toInt ∧ g0.toInt ≤ 199 → 0 ≤ g1.toInt ∧ g1.toInt ≤ 369 → 0 ≤ g2.toInt ∧ g2.toInt ≤ 30 → 0 ≤ g3.toInt ∧ g3.toInt ≤ 100 → 0 ≤ g4.toInt ∧ g4.toInt ≤ 40 → 0 ≤ g5.toInt ∧ g5.toInt ≤ 400 → 0 ≤ g6.toInt ∧ g6.toInt ≤ 3 → 0 ≤ g7.toInt ∧ g7.toInt ≤ 0 → 0 ≤ g8.toInt ∧ g8.toInt ≤ 400 → g1.toInt = g0.toInt + g2.toInt + g3.toInt + g4.toInt → (g6.toInt = 0 ∨ g8.toInt + 1 ≤ g5.toInt) → jiv h 126 (0 : Int32).toNatClampNeg = g0 → jiv h 126 (16 : Int32).toNatClampNeg = g1 → jiv h 126 (4 : Int32).toNatClampNeg = g2 → jiv h 126 (5 : Int32).toNatClampNeg = g3 → jiv h 126 (7 : Int32).toNatClampNeg = g4 → jiv h 125 10 = g5 → jiv h 125 11 = g6 → jiv h 125 8 = g7 → jiv h 125 9 = g8 → jJ jSgM Dy h → jSm fp_X12_line_r125d h0 h → d_X12_line_r125d_200392  l7.toInt s1.toInt (vw h) = dr → jX m_X12_line 6 0 0 392 [(0, .ref 125), (7, .int l7)] [.int 0, .int s1, .ref 126] h 0 0 Q := by
  intro l7 s1 g0 g1 g2 g3 g4 g5 g6 g7 g8 h y0 y1 y2 y3 y4 y5 y6 y7 y8 y9 y10 y11 y12 y13 z0 z1 z2 z3 z4 z5 z6 z7 z8  J Sm D
  unfold d_X12_line_r125d_200392 at D
  try rw [vrn (n := 0) (by decide) z0] at D
  try rw [vrn (n := 16) (by decide) z1] at D
  try rw [vrn (n := 4) (by decide) z2] at D
  try rw [vrn (n := 5) (by decide) z3] at D
  try rw [vrn (n := 7) (by decide) z4] at D
  try rw [vrf z5] at D
  try rw [vrf z6] at D
  try rw [vrf z7] at D
  try rw [vrf z8] at D
  refine z_iast (N := 50660) (l := 20) (u := 18020) (w := 0) rfl hD J Sm rfl rfl rfl (by omega) jk_0 (wr_126_20 (by omega) (fun q1 q2 q3 q4 => by omega) (fun q1 q2 q3 q4 => by omega) (fun q1 q2 q3 q4 => by omega) (fun q1 q2 q3 q4 => by omega) (fun q1 q2 q3 q4 => by omega) (fun q1 q2 q3 q4 => by omega) (fun q1 q2 q3 q4 => by omega) (fun q1 q2 q3 q4 => by omega) (fun q1 q2 q3 q4 => by omega) (fun q1 q2 q3 q4 => by omega) (fun q1 q2 q3 q4 => by omega) (fun q1 q2 q3 q4 => by omega) (fun q1 q2 q3 q4 => by omega) (fun q1 q2 q3 q4 => by omega) (fun q1 q2 q3 q4 => by omega) (fun q1 q2 q3 q4 => by omega) (fun q1 q2 q3 q4 => by omega) (fun q1 q2 q3 q4 => by omega) (fun q1 q2 q3 q4 => by omega) (fun q1 q2 q3 q4 => by omega) (fun q1 q2 q3 q4 => by omega) (fun q1 q2 q3 q4 => by omega) (fun q1 q2 q3 q4 => by omega)) rfl (fun h w1 J Sm => ?_)
  rw [vww w1 (show s1.toInt = s1.toInt from by omega) (show 0 = (0 : Int32).toInt from by have := jk_0; omega)] at D
  refine x_aloadn (x := 125) rfl rfl ?_
  refine z_getR (N := 92) (b := 126) 12 2 rfl f_12_8 rfl J rfl 16002 ⟨rfl, rfl⟩ rfl ?_
  refine x_iconst (v := 0) rfl ki_0 ?_
  refine x_dup2 rfl rfl rfl ?_
  refine z_ialdM (N := 50660) (v := g0) rfl J rfl jk_0 (by omega) (jmo2 w1 rfl jk_0 (by omega) z0) ?_
  refine x_iconst (v := 1) rfl ki_1 ?_
  refine z_iadd rfl rfl jk_1 (by omega) (fun v2 ev2 => ?_)
  refine z_iast (N := 50660) (l := 0) (u := 1) (w := v2.toInt) rfl hD J Sm rfl rfl jk_0 (by omega) rfl (wr_126_0 (by omega) (fun q1 q2 q3 q4 => by omega)) rfl (fun h w3 J Sm => ?_)
  rw [vwn (n := 0) (by decide) w3 (show (g0.toInt + 1) = v2.toInt from by omega)] at D
  refine x_aloadn (x := 125) rfl rfl ?_
  refine x_iconst (v := 0) rfl ki_0 ?_
  refine x_iload (x := l7) rfl rfl ?_
  refine x_inv (N := m_X12_thing) (As := [.int 0, .int l7]) (b := 125) (st := []) (dx9 := 5) (mc := 0) (ms := 0) (host := "") 12 rfl t_X12_thing ⟨Or.inl q_12_289, i_X12_thing.1, i_X12_thing.2⟩ ⟨by decide, rfl⟩ (congrArg Prod.fst (J.1.1 125 (12, 92) rfl)) rfl (by decide) rfl rfl ⟨by decide, by decide⟩ (jC.of rfl k_X12_thing rfl ?_)
  show jX m_X12_thing 5 0 0 0 [(0, .ref 125), (1, .int 0), (2, .int l7)] [] _ 0 0 _
  refine x_ldc (v := 49920) rfl z_12_194 ?_
  refine x_iconst (v := 2) rfl ki_2 ?_
  refine x_aloadn (x := 125) rfl rfl ?_
  refine z_getR (N := 92) (b := 126) 12 2 rfl f_12_8 rfl J rfl 16002 ⟨rfl, rfl⟩ rfl ?_
  refine x_bipush (v := 16) rfl kb_16 ?_
  refine z_ialdM (N := 50660) (v := g1) rfl J rfl jk_16 (by omega) (jmo2 w3 jk_0 jk_16 (by omega) (jmo2 w1 rfl jk_16 (by omega) z1)) ?_
  refine z_imul rfl jk_2 rfl (by omega) (fun v4 ev4 => ?_)
  refine z_iadd rfl jk_49920 rfl (by omega) (fun v5 ev5 => ?_)
  refine x_istoren (lsx9 := [(3, .int v5), (0, .ref 125), (1, .int 0), (2, .int l7)]) rfl rfl rfl ?_
  refine x_aloadn (x := 125) rfl rfl ?_
  refine z_getR (N := 92) (b := 126) 12 2 rfl f_12_8 rfl J rfl 16002 ⟨rfl, rfl⟩ rfl ?_
  refine x_iloadn (x := v5) rfl rfl ?_
  refine x_iloadn (x := 0) rfl rfl ?_
  refine z_iast (N := 50660) (l := 49920) (u := 50660) (w := 0) rfl hD J Sm rfl rfl rfl (by omega) jk_0 (wr_126_49920 (by omega) (fun q1 q2 q3 q4 => by omega) (fun q1 q2 q3 q4 => by omega)) rfl (fun h w6 J Sm => ?_)
  rw [vww w6 (show (49920 + (2 * g1.toInt)) = v5.toInt from by omega) (show 0 = (0 : Int32).toInt from by have := jk_0; omega)] at D
  refine x_aloadn (x := 125) rfl rfl ?_
  refine z_getR (N := 92) (b := 126) 12 2 rfl f_12_8 rfl J rfl 16002 ⟨rfl, rfl⟩ rfl ?_
  refine x_iloadn (x := v5) rfl rfl ?_
  refine x_iconst (v := 1) rfl ki_1 ?_
  refine z_iadd rfl rfl jk_1 (by omega) (fun v7 ev7 => ?_)
  refine x_iloadn (x := l7) rfl rfl ?_
  refine z_iast (N := 50660) (l := 49920) (u := 50660) (w := l7.toInt) rfl hD J Sm rfl rfl rfl (by omega) rfl (wr_126_49920 (by omega) (fun q1 q2 q3 q4 => by omega) (fun q1 q2 q3 q4 => by omega)) rfl (fun h w8 J Sm => ?_)
  rw [vww w8 (show ((49920 + (2 * g1.toInt)) + 1) = v7.toInt from by omega) (show l7.toInt = l7.toInt from by omega)] at D
  refine x_aloadn (x := 125) rfl rfl ?_
  refine z_getR (N := 92) (b := 126) 12 2 rfl f_12_8 rfl J rfl 16002 ⟨rfl, rfl⟩ rfl ?_
  refine x_bipush (v := 16) rfl kb_16 ?_
  refine x_dup2 rfl rfl rfl ?_
  refine z_ialdM (N := 50660) (v := g1) rfl J rfl jk_16 (by omega) (jmo2 w8 rfl jk_16 (by omega) (jmo2 w6 rfl jk_16 (by omega) (jmo2 w3 jk_0 jk_16 (by omega) (jmo2 w1 rfl jk_16 (by omega) z1)))) ?_
  refine x_iconst (v := 1) rfl ki_1 ?_
  refine z_iadd rfl rfl jk_1 (by omega) (fun v9 ev9 => ?_)
  refine z_iast (N := 50660) (l := 16) (u := 17) (w := v9.toInt) rfl hD J Sm rfl rfl jk_16 (by omega) rfl (wr_126_16 (by omega) (fun q1 q2 q3 q4 => by omega)) rfl (fun h w10 J Sm => ?_)
  rw [vwn (n := 16) (by decide) w10 (show (g1.toInt + 1) = v9.toInt from by omega)] at D
  refine x_vret rfl rfl ?_
  show jX m_X12_line 6 0 0 410 [(0, .ref 125), (7, .int l7)] [] _ 0 0 _
  refine x_aloadn (x := 125) rfl rfl ?_
  refine x_iload (x := l7) rfl rfl ?_
  refine x_inv (N := m_X12_told) (As := [.int l7]) (b := 125) (st := []) (dx9 := 1) (mc := 0) (ms := 0) (host := "") 12 rfl t_X12_told ⟨Or.inl q_12_197, i_X12_told.1, i_X12_told.2⟩ ⟨by decide, rfl⟩ (congrArg Prod.fst (J.1.1 125 (12, 92) rfl)) rfl (by decide) rfl rfl ⟨by decide, by decide⟩ (sf_X12_told_r125d  hD J rfl  (fun v14 h J S11 X12 X13 => ?_))
  have ev14 := jfull v14
  have Sm := jSm_tr rfl Sm S11
  try rw [X12] at D
  try rw [X13] at D
  show jX m_X12_line 6 0 0 416 [(0, .ref 125), (7, .int l7)] [.int v14] _ 0 0 _
  refine x_iret rfl rfl ?_
  exact hQ _ _ J Sm _ _ _ _ _ (jmc S11 rfl (jmw w10)) (jmc S11 rfl (jmo2 w10 jk_16 jk_0 (by omega) (jmo2 w8 rfl jk_0 (by omega) (jmo2 w6 rfl jk_0 (by omega) (jmw w3))))) (jmc S11 rfl (jmo2 w10 jk_16 jk_4 (by omega) (jmo2 w8 rfl jk_4 (by omega) (jmo2 w6 rfl jk_4 (by omega) (jmo2 w3 jk_0 jk_4 (by omega) (jmo2 w1 rfl jk_4 (by omega) z2)))))) (jmc S11 rfl (jmo2 w10 jk_16 jk_5 (by omega) (jmo2 w8 rfl jk_5 (by omega) (jmo2 w6 rfl jk_5 (by omega) (jmo2 w3 jk_0 jk_5 (by omega) (jmo2 w1 rfl jk_5 (by omega) z3)))))) (jmc S11 rfl (jmo2 w10 jk_16 jk_7 (by omega) (jmo2 w8 rfl jk_7 (by omega) (jmo2 w6 rfl jk_7 (by omega) (jmo2 w3 jk_0 jk_7 (by omega) (jmo2 w1 rfl jk_7 (by omega) z4)))))) (by omega) ((congrArg Prod.fst D).symm.trans X12) ((congrArg Prod.snd D).symm.trans X13)
set_option maxRecDepth 100000 in
set_option maxHeartbeats 4000000 in
theorem ct_X12_line_r125d_305 {Dy : jH → Prop} {h0 : jH} {Q : Option Value → jH → Prop} {dr : (Int × jW)} (hD : jDk Dy) (hQ : ∀ (v : Int32) hx9, jJ jSgM Dy hx9 → jSm fp_X12_line_r125d h0 hx9 → ∀ u0 u1 u2 u3 u4 : Int32, jiv hx9 126 (16 : Int32).toNatClampNeg = u0 → jiv hx9 126 (0 : Int32).toNatClampNeg = u1 → jiv hx9 126 (4 : Int32).toNatClampNeg = u2 → jiv hx9 126 (5 : Int32).toNatClampNeg = u3 → jiv hx9 126 (7 : Int32).toNatClampNeg = u4 → u0.toInt = u1.toInt + u2.toInt + u3.toInt + u4.toInt → dr.1 = v.toInt → dr.2 = vw hx9 → Q (some (.int v)) hx9) : ∀ (l1 : Int32) (l2 : Int32) (l3 : Int32) (l4 : Int32) (l5 : Int32) (l7 : Int32) (l8 : Int32) (l11 : Int32) (g0 : Int32) (g1 : Int32) (g2 : Int32) (g3 : Int32) (g4 : Int32) (g5 : Int32) (g6 : Int32) (g7 : Int32) (g8 : Int32) (g9 : Int32) (h : jH), 0 ≤ l1.toInt ∧ l1.toInt ≤ 5 → 0 ≤ l2.toInt ∧ l2.toInt ≤ 15 → 0 ≤ l3.toInt ∧ l3.toInt ≤ 146399 → 0 ≤ l4.toInt ∧ l4.toInt ≤ 146399 → (-1) ≤ l5.toInt ∧ l5.toInt ≤ 100000 → 0 ≤ l7.toInt ∧ l7.toInt ≤ 199 → 20 ≤ l8.toInt ∧ l8.toInt ≤ 17930 → l8.toInt % 90 = 20 → 0 ≤ l11.toInt ∧ l11.toInt ≤ 1 → 0 ≤ g0.toInt ∧ g0.toInt ≤ 199 → 0 ≤ g1.toInt ∧ g1.toInt ≤ 369 → 0 ≤ g2.toInt ∧ g2.toInt ≤ 30 → 0 ≤ g3.toInt ∧ g3.toInt ≤ 100 → 0 ≤ g4.toInt ∧ g4.toInt ≤ 40 → 0 ≤ g5.toInt ∧ g5.toInt ≤ 400 → 0 ≤ g6.toInt ∧ g6.toInt ≤ 3 → 0 ≤ g7.toInt ∧ g7.toInt ≤ 1 → 0 ≤ g8.toInt ∧ g8.toInt ≤ 400 → 0 ≤ g9.toInt ∧ g9.toInt ≤ 400 → g1.toInt = g0.toInt + g2.toInt + g3.toInt + g4.toInt → (g5.toInt ≤ g8.toInt ∧ g9.toInt ≤ g5.toInt) → (g6.toInt = 0 ∨ g9.toInt + 1 ≤ g5.toInt) → jiv h 126 (0 : Int32).toNatClampNeg = g0 → jiv h 126 (16 : Int32).toNatClampNeg = g1 → jiv h 126 (4 : Int32).toNatClampNeg = g2 → jiv h 126 (5 : Int32).toNatClampNeg = g3 → jiv h 126 (7 : Int32).toNatClampNeg = g4 → jiv h 125 10 = g5 → jiv h 125 11 = g6 → jiv h 125 14 = g7 → jiv h 125 8 = g8 → jiv h 125 9 = g9 → jJ jSgM Dy h → jSm fp_X12_line_r125d h0 h → d_X12_line_r125d_305  l1.toInt l2.toInt l3.toInt l4.toInt l5.toInt l7.toInt l8.toInt l11.toInt (vw h) = dr → jX m_X12_line 6 0 0 305 [(0, .ref 125), (1, .int l1), (2, .int l2), (3, .int l3), (4, .int l4), (5, .int l5), (7, .int l7), (8, .int l8), (11, .int l11)] [] h 0 0 Q := by
  intro l1 l2 l3 l4 l5 l7 l8 l11 g0 g1 g2 g3 g4 g5 g6 g7 g8 g9 h y0 y1 y2 y3 y4 y5 y6 y7 y8 y9 y10 y11 y12 y13 y14 y15 y16 y17 y18 y19 y20 y21 z0 z1 z2 z3 z4 z5 z6 z7 z8 z9  J Sm D
  unfold d_X12_line_r125d_305 at D
  try rw [vrn (n := 0) (by decide) z0] at D
  try rw [vrn (n := 16) (by decide) z1] at D
  try rw [vrn (n := 4) (by decide) z2] at D
  try rw [vrn (n := 5) (by decide) z3] at D
  try rw [vrn (n := 7) (by decide) z4] at D
  try rw [vrf z5] at D
  try rw [vrf z6] at D
  try rw [vrf z7] at D
  try rw [vrf z8] at D
  try rw [vrf z9] at D
  refine x_aloadn (x := 125) rfl rfl ?_
  refine x_iconst (v := 0) rfl ki_0 ?_
  refine z_putI (N := 92) (w := 0) 12 8 rfl f_12_201 rfl (jfin_no TX12 RX12 92 rfl rfl) hD J Sm rfl rfl jk_0 (pw_125_8 (by omega)) rfl (fun h w1 J Sm => ?_)
  rw [vwf w1 (show 0 = (0 : Int32).toInt from by have := jk_0; omega)] at D
  refine x_aloadn (x := 125) rfl rfl ?_
  refine z_getM (N := 92) (v := g7) 12 14 rfl f_12_214 rfl J rfl (jmo w1 rfl z7) ?_
  refine x_ifeq (tgt := 324) rfl rfl (ti_eq rfl jk_0 ⟨fun c2 => ?_, fun c2 => ?_⟩)
  ·
    rw [if_pos (by omega)] at D
    refine x_aloadn (x := 125) rfl rfl ?_
    refine z_getR (N := 92) (b := 126) 12 2 rfl f_12_8 rfl J rfl 16002 ⟨rfl, rfl⟩ rfl ?_
    refine x_iload (x := l8) rfl rfl ?_
    refine x_iloadn (x := l1) rfl rfl ?_
    refine z_iast (N := 50660) (l := 20) (u := 18020) (w := l1.toInt) rfl hD J Sm rfl rfl rfl (by omega) rfl (wr_126_20 (by omega) (fun q1 q2 q3 q4 => by omega) (fun q1 q2 q3 q4 => by omega) (fun q1 q2 q3 q4 => by omega) (fun q1 q2 q3 q4 => by omega) (fun q1 q2 q3 q4 => by omega) (fun q1 q2 q3 q4 => by omega) (fun q1 q2 q3 q4 => by omega) (fun q1 q2 q3 q4 => by omega) (fun q1 q2 q3 q4 => by omega) (fun q1 q2 q3 q4 => by omega) (fun q1 q2 q3 q4 => by omega) (fun q1 q2 q3 q4 => by omega) (fun q1 q2 q3 q4 => by omega) (fun q1 q2 q3 q4 => by omega) (fun q1 q2 q3 q4 => by omega) (fun q1 q2 q3 q4 => by omega) (fun q1 q2 q3 q4 => by omega) (fun q1 q2 q3 q4 => by omega) (fun q1 q2 q3 q4 => by omega) (fun q1 q2 q3 q4 => by omega) (fun q1 q2 q3 q4 => by omega) (fun q1 q2 q3 q4 => by omega) (fun q1 q2 q3 q4 => by omega)) rfl (fun h w3 J Sm => ?_)
    rw [vww w3 (show l8.toInt = l8.toInt from by omega) (show l1.toInt = l1.toInt from by omega)] at D
    refine x_aloadn (x := 125) rfl rfl ?_
    refine z_getR (N := 92) (b := 126) 12 2 rfl f_12_8 rfl J rfl 16002 ⟨rfl, rfl⟩ rfl ?_
    refine x_iload (x := l8) rfl rfl ?_
    refine x_iconst (v := 1) rfl ki_1 ?_
    refine z_iadd rfl rfl jk_1 (by omega) (fun v4 ev4 => ?_)
    refine x_iloadn (x := l2) rfl rfl ?_
    refine z_iast (N := 50660) (l := 20) (u := 18020) (w := l2.toInt) rfl hD J Sm rfl rfl rfl (by omega) rfl (wr_126_20 (by omega) (fun q1 q2 q3 q4 => by omega) (fun q1 q2 q3 q4 => by omega) (fun q1 q2 q3 q4 => by omega) (fun q1 q2 q3 q4 => by omega) (fun q1 q2 q3 q4 => by omega) (fun q1 q2 q3 q4 => by omega) (fun q1 q2 q3 q4 => by omega) (fun q1 q2 q3 q4 => by omega) (fun q1 q2 q3 q4 => by omega) (fun q1 q2 q3 q4 => by omega) (fun q1 q2 q3 q4 => by omega) (fun q1 q2 q3 q4 => by omega) (fun q1 q2 q3 q4 => by omega) (fun q1 q2 q3 q4 => by omega) (fun q1 q2 q3 q4 => by omega) (fun q1 q2 q3 q4 => by omega) (fun q1 q2 q3 q4 => by omega) (fun q1 q2 q3 q4 => by omega) (fun q1 q2 q3 q4 => by omega) (fun q1 q2 q3 q4 => by omega) (fun q1 q2 q3 q4 => by omega) (fun q1 q2 q3 q4 => by omega) (fun q1 q2 q3 q4 => by omega)) rfl (fun h w5 J Sm => ?_)
    rw [vww w5 (show (l8.toInt + 1) = v4.toInt from by omega) (show l2.toInt = l2.toInt from by omega)] at D
    refine x_aloadn (x := 125) rfl rfl ?_
    refine z_getR (N := 92) (b := 126) 12 2 rfl f_12_8 rfl J rfl 16002 ⟨rfl, rfl⟩ rfl ?_
    refine x_iload (x := l8) rfl rfl ?_
    refine x_iconst (v := 2) rfl ki_2 ?_
    refine z_iadd rfl rfl jk_2 (by omega) (fun v6 ev6 => ?_)
    refine x_iloadn (x := l3) rfl rfl ?_
    refine z_iast (N := 50660) (l := 20) (u := 18020) (w := l3.toInt) rfl hD J Sm rfl rfl rfl (by omega) rfl (wr_126_20 (by omega) (fun q1 q2 q3 q4 => by omega) (fun q1 q2 q3 q4 => by omega) (fun q1 q2 q3 q4 => by omega) (fun q1 q2 q3 q4 => by omega) (fun q1 q2 q3 q4 => by omega) (fun q1 q2 q3 q4 => by omega) (fun q1 q2 q3 q4 => by omega) (fun q1 q2 q3 q4 => by omega) (fun q1 q2 q3 q4 => by omega) (fun q1 q2 q3 q4 => by omega) (fun q1 q2 q3 q4 => by omega) (fun q1 q2 q3 q4 => by omega) (fun q1 q2 q3 q4 => by omega) (fun q1 q2 q3 q4 => by omega) (fun q1 q2 q3 q4 => by omega) (fun q1 q2 q3 q4 => by omega) (fun q1 q2 q3 q4 => by omega) (fun q1 q2 q3 q4 => by omega) (fun q1 q2 q3 q4 => by omega) (fun q1 q2 q3 q4 => by omega) (fun q1 q2 q3 q4 => by omega) (fun q1 q2 q3 q4 => by omega) (fun q1 q2 q3 q4 => by omega)) rfl (fun h w7 J Sm => ?_)
    rw [vww w7 (show (l8.toInt + 2) = v6.toInt from by omega) (show l3.toInt = l3.toInt from by omega)] at D
    refine x_aloadn (x := 125) rfl rfl ?_
    refine z_getR (N := 92) (b := 126) 12 2 rfl f_12_8 rfl J rfl 16002 ⟨rfl, rfl⟩ rfl ?_
    refine x_iload (x := l8) rfl rfl ?_
    refine x_iconst (v := 3) rfl ki_3 ?_
    refine z_iadd rfl rfl jk_3 (by omega) (fun v8 ev8 => ?_)
    refine x_iload (x := l4) rfl rfl ?_
    refine z_iast (N := 50660) (l := 20) (u := 18020) (w := l4.toInt) rfl hD J Sm rfl rfl rfl (by omega) rfl (wr_126_20 (by omega) (fun q1 q2 q3 q4 => by omega) (fun q1 q2 q3 q4 => by omega) (fun q1 q2 q3 q4 => by omega) (fun q1 q2 q3 q4 => by omega) (fun q1 q2 q3 q4 => by omega) (fun q1 q2 q3 q4 => by omega) (fun q1 q2 q3 q4 => by omega) (fun q1 q2 q3 q4 => by omega) (fun q1 q2 q3 q4 => by omega) (fun q1 q2 q3 q4 => by omega) (fun q1 q2 q3 q4 => by omega) (fun q1 q2 q3 q4 => by omega) (fun q1 q2 q3 q4 => by omega) (fun q1 q2 q3 q4 => by omega) (fun q1 q2 q3 q4 => by omega) (fun q1 q2 q3 q4 => by omega) (fun q1 q2 q3 q4 => by omega) (fun q1 q2 q3 q4 => by omega) (fun q1 q2 q3 q4 => by omega) (fun q1 q2 q3 q4 => by omega) (fun q1 q2 q3 q4 => by omega) (fun q1 q2 q3 q4 => by omega) (fun q1 q2 q3 q4 => by omega)) rfl (fun h w9 J Sm => ?_)
    rw [vww w9 (show (l8.toInt + 3) = v8.toInt from by omega) (show l4.toInt = l4.toInt from by omega)] at D
    refine x_aloadn (x := 125) rfl rfl ?_
    refine z_getR (N := 92) (b := 126) 12 2 rfl f_12_8 rfl J rfl 16002 ⟨rfl, rfl⟩ rfl ?_
    refine x_iload (x := l8) rfl rfl ?_
    refine x_iconst (v := 4) rfl ki_4 ?_
    refine z_iadd rfl rfl jk_4 (by omega) (fun v10 ev10 => ?_)
    refine x_iload (x := l5) rfl rfl ?_
    refine z_iast (N := 50660) (l := 20) (u := 18020) (w := l5.toInt) rfl hD J Sm rfl rfl rfl (by omega) rfl (wr_126_20 (by omega) (fun q1 q2 q3 q4 => by omega) (fun q1 q2 q3 q4 => by omega) (fun q1 q2 q3 q4 => by omega) (fun q1 q2 q3 q4 => by omega) (fun q1 q2 q3 q4 => by omega) (fun q1 q2 q3 q4 => by omega) (fun q1 q2 q3 q4 => by omega) (fun q1 q2 q3 q4 => by omega) (fun q1 q2 q3 q4 => by omega) (fun q1 q2 q3 q4 => by omega) (fun q1 q2 q3 q4 => by omega) (fun q1 q2 q3 q4 => by omega) (fun q1 q2 q3 q4 => by omega) (fun q1 q2 q3 q4 => by omega) (fun q1 q2 q3 q4 => by omega) (fun q1 q2 q3 q4 => by omega) (fun q1 q2 q3 q4 => by omega) (fun q1 q2 q3 q4 => by omega) (fun q1 q2 q3 q4 => by omega) (fun q1 q2 q3 q4 => by omega) (fun q1 q2 q3 q4 => by omega) (fun q1 q2 q3 q4 => by omega) (fun q1 q2 q3 q4 => by omega)) rfl (fun h w11 J Sm => ?_)
    rw [vww w11 (show (l8.toInt + 4) = v10.toInt from by omega) (show l5.toInt = l5.toInt from by omega)] at D
    refine x_aloadn (x := 125) rfl rfl ?_
    refine z_getR (N := 92) (b := 126) 12 2 rfl f_12_8 rfl J rfl 16002 ⟨rfl, rfl⟩ rfl ?_
    refine x_iload (x := l8) rfl rfl ?_
    refine x_iconst (v := 5) rfl ki_5 ?_
    refine z_iadd rfl rfl jk_5 (by omega) (fun v12 ev12 => ?_)
    refine x_iload (x := l11) rfl rfl ?_
    refine x_ifeq (tgt := 391) rfl rfl (ti_eq rfl jk_0 ⟨fun c13 => ?_, fun c13 => ?_⟩)
    ·
      rw [if_pos (by omega)] at D
      refine x_iconst (v := 1) rfl ki_1 ?_
      try rw [show (l8.toInt + 5) = v12.toInt from by omega] at D
      exact jX.sub (jsb_c rfl (jsb_c rfl jsb_n)) (ct_X12_line_r125d_300392 hD hQ  l7 v12 g0 g1 g2 g3 g4 g5 g6 0 g9 h (jr_of rfl (by omega)) (jr_of rfl (by omega)) (jr_mod rfl (by omega)) (jr_of rfl (by omega)) (jr_of rfl (by omega)) (jr_of rfl (by omega)) (jr_of rfl (by omega)) (jr_of rfl (by omega)) (jr_of rfl (by omega)) (jr_of rfl (by omega)) (jr_of jk_0 (by omega)) (jr_of rfl (by omega)) (by omega) (by omega) (jmo2 w11 rfl jk_0 (by omega) (jmo2 w9 rfl jk_0 (by omega) (jmo2 w7 rfl jk_0 (by omega) (jmo2 w5 rfl jk_0 (by omega) (jmo2 w3 rfl jk_0 (by omega) (jmo w1 rfl z0)))))) (jmo2 w11 rfl jk_16 (by omega) (jmo2 w9 rfl jk_16 (by omega) (jmo2 w7 rfl jk_16 (by omega) (jmo2 w5 rfl jk_16 (by omega) (jmo2 w3 rfl jk_16 (by omega) (jmo w1 rfl z1)))))) (jmo2 w11 rfl jk_4 (by omega) (jmo2 w9 rfl jk_4 (by omega) (jmo2 w7 rfl jk_4 (by omega) (jmo2 w5 rfl jk_4 (by omega) (jmo2 w3 rfl jk_4 (by omega) (jmo w1 rfl z2)))))) (jmo2 w11 rfl jk_5 (by omega) (jmo2 w9 rfl jk_5 (by omega) (jmo2 w7 rfl jk_5 (by omega) (jmo2 w5 rfl jk_5 (by omega) (jmo2 w3 rfl jk_5 (by omega) (jmo w1 rfl z3)))))) (jmo2 w11 rfl jk_7 (by omega) (jmo2 w9 rfl jk_7 (by omega) (jmo2 w7 rfl jk_7 (by omega) (jmo2 w5 rfl jk_7 (by omega) (jmo2 w3 rfl jk_7 (by omega) (jmo w1 rfl z4)))))) (jmo w11 rfl (jmo w9 rfl (jmo w7 rfl (jmo w5 rfl (jmo w3 rfl (jmo w1 rfl z5)))))) (jmo w11 rfl (jmo w9 rfl (jmo w7 rfl (jmo w5 rfl (jmo w3 rfl (jmo w1 rfl z6)))))) (jmo w11 rfl (jmo w9 rfl (jmo w7 rfl (jmo w5 rfl (jmo w3 rfl (jmw w1)))))) (jmo w11 rfl (jmo w9 rfl (jmo w7 rfl (jmo w5 rfl (jmo w3 rfl (jmo w1 rfl z9)))))) J Sm D)
    ·
      rw [if_neg (by omega)] at D
      refine x_iconst (v := 0) rfl ki_0 ?_
      refine x_goto (tgt := 392) rfl rfl ?_
      try rw [show (l8.toInt + 5) = v12.toInt from by omega] at D
      exact jX.sub (jsb_c rfl (jsb_c rfl jsb_n)) (ct_X12_line_r125d_200392 hD hQ  l7 v12 g0 g1 g2 g3 g4 g5 g6 0 g9 h (jr_of rfl (by omega)) (jr_of rfl (by omega)) (jr_mod rfl (by omega)) (jr_of rfl (by omega)) (jr_of rfl (by omega)) (jr_of rfl (by omega)) (jr_of rfl (by omega)) (jr_of rfl (by omega)) (jr_of rfl (by omega)) (jr_of rfl (by omega)) (jr_of jk_0 (by omega)) (jr_of rfl (by omega)) (by omega) (by omega) (jmo2 w11 rfl jk_0 (by omega) (jmo2 w9 rfl jk_0 (by omega) (jmo2 w7 rfl jk_0 (by omega) (jmo2 w5 rfl jk_0 (by omega) (jmo2 w3 rfl jk_0 (by omega) (jmo w1 rfl z0)))))) (jmo2 w11 rfl jk_16 (by omega) (jmo2 w9 rfl jk_16 (by omega) (jmo2 w7 rfl jk_16 (by omega) (jmo2 w5 rfl jk_16 (by omega) (jmo2 w3 rfl jk_16 (by omega) (jmo w1 rfl z1)))))) (jmo2 w11 rfl jk_4 (by omega) (jmo2 w9 rfl jk_4 (by omega) (jmo2 w7 rfl jk_4 (by omega) (jmo2 w5 rfl jk_4 (by omega) (jmo2 w3 rfl jk_4 (by omega) (jmo w1 rfl z2)))))) (jmo2 w11 rfl jk_5 (by omega) (jmo2 w9 rfl jk_5 (by omega) (jmo2 w7 rfl jk_5 (by omega) (jmo2 w5 rfl jk_5 (by omega) (jmo2 w3 rfl jk_5 (by omega) (jmo w1 rfl z3)))))) (jmo2 w11 rfl jk_7 (by omega) (jmo2 w9 rfl jk_7 (by omega) (jmo2 w7 rfl jk_7 (by omega) (jmo2 w5 rfl jk_7 (by omega) (jmo2 w3 rfl jk_7 (by omega) (jmo w1 rfl z4)))))) (jmo w11 rfl (jmo w9 rfl (jmo w7 rfl (jmo w5 rfl (jmo w3 rfl (jmo w1 rfl z5)))))) (jmo w11 rfl (jmo w9 rfl (jmo w7 rfl (jmo w5 rfl (jmo w3 rfl (jmo w1 rfl z6)))))) (jmo w11 rfl (jmo w9 rfl (jmo w7 rfl (jmo w5 rfl (jmo w3 rfl (jmw w1)))))) (jmo w11 rfl (jmo w9 rfl (jmo w7 rfl (jmo w5 rfl (jmo w3 rfl (jmo w1 rfl z9)))))) J Sm D)
  ·
    rw [if_neg (by omega)] at D
    refine x_aloadn (x := 125) rfl rfl ?_
    refine x_bipush (v := (-6)) rfl kb_m6 ?_
    refine x_inv (N := m_X12_told) (As := [.int (-6)]) (b := 125) (st := []) (dx9 := 1) (mc := 0) (ms := 0) (host := "") 12 rfl t_X12_told ⟨Or.inl q_12_197, i_X12_told.1, i_X12_told.2⟩ ⟨by decide, rfl⟩ (congrArg Prod.fst (J.1.1 125 (12, 92) rfl)) rfl (by decide) rfl rfl ⟨by decide, by decide⟩ (sf_X12_told_r125d  hD J rfl  (fun v17 h J S14 X15 X16 => ?_))
    have ev17 := jfull v17
    have Sm := jSm_tr rfl Sm S14
    try rw [jk_m6] at X15
    try rw [jk_m6] at X16
    try rw [X15] at D
    try rw [X16] at D
    show jX m_X12_line 6 0 0 323 [(0, .ref 125), (1, .int l1), (2, .int l2), (3, .int l3), (4, .int l4), (5, .int l5), (7, .int l7), (8, .int l8), (11, .int l11)] [.int v17] _ 0 0 _
    refine x_iret rfl rfl ?_
    exact hQ _ _ J Sm _ _ _ _ _ (jmc S14 rfl (jmo w1 rfl z1)) (jmc S14 rfl (jmo w1 rfl z0)) (jmc S14 rfl (jmo w1 rfl z2)) (jmc S14 rfl (jmo w1 rfl z3)) (jmc S14 rfl (jmo w1 rfl z4)) (by omega) ((congrArg Prod.fst D).symm.trans X15) ((congrArg Prod.snd D).symm.trans X16)
set_option maxRecDepth 100000 in
set_option maxHeartbeats 4000000 in
theorem ct_X12_line_r125d_300269 {Dy : jH → Prop} {h0 : jH} {Q : Option Value → jH → Prop} {dr : (Int × jW)} (hD : jDk Dy) (hQ : ∀ (v : Int32) hx9, jJ jSgM Dy hx9 → jSm fp_X12_line_r125d h0 hx9 → ∀ u0 u1 u2 u3 u4 : Int32, jiv hx9 126 (16 : Int32).toNatClampNeg = u0 → jiv hx9 126 (0 : Int32).toNatClampNeg = u1 → jiv hx9 126 (4 : Int32).toNatClampNeg = u2 → jiv hx9 126 (5 : Int32).toNatClampNeg = u3 → jiv hx9 126 (7 : Int32).toNatClampNeg = u4 → u0.toInt = u1.toInt + u2.toInt + u3.toInt + u4.toInt → dr.1 = v.toInt → dr.2 = vw hx9 → Q (some (.int v)) hx9) : ∀ (l1 : Int32) (l2 : Int32) (l3 : Int32) (l4 : Int32) (l5 : Int32) (l7 : Int32) (l8 : Int32) (g0 : Int32) (g1 : Int32) (g2 : Int32) (g3 : Int32) (g4 : Int32) (g5 : Int32) (g6 : Int32) (g7 : Int32) (g8 : Int32) (g9 : Int32) (h : jH), 0 ≤ l1.toInt ∧ l1.toInt ≤ 5 → 0 ≤ l2.toInt ∧ l2.toInt ≤ 15 → 0 ≤ l3.toInt ∧ l3.toInt ≤ 146399 → 0 ≤ l4.toInt ∧ l4.toInt ≤ 146399 → (-1) ≤ l5.toInt ∧ l5.toInt ≤ 100000 → 0 ≤ l7.toInt ∧ l7.toInt ≤ 199 → 20 ≤ l8.toInt ∧ l8.toInt ≤ 17930 → l8.toInt % 90 = 20 → 0 ≤ g0.toInt ∧ g0.toInt ≤ 199 → 0 ≤ g1.toInt ∧ g1.toInt ≤ 369 → 0 ≤ g2.toInt ∧ g2.toInt ≤ 30 → 0 ≤ g3.toInt ∧ g3.toInt ≤ 100 → 0 ≤ g4.toInt ∧ g4.toInt ≤ 40 → 0 ≤ g5.toInt ∧ g5.toInt ≤ 400 → 1 ≤ g6.toInt ∧ g6.toInt ≤ 3 → 0 ≤ g7.toInt ∧ g7.toInt ≤ 0 → 0 ≤ g8.toInt ∧ g8.toInt ≤ 400 → 0 ≤ g9.toInt ∧ g9.toInt ≤ 400 → g1.toInt = g0.toInt + g2.toInt + g3.toInt + g4.toInt → (g5.toInt ≤ g8.toInt ∧ g9.toInt ≤ g5.toInt) → (g6.toInt = 0 ∨ g9.toInt + 1 ≤ g5.toInt) → jiv h 126 (0 : Int32).toNatClampNeg = g0 → jiv h 126 (16 : Int32).toNatClampNeg = g1 → jiv h 126 (4 : Int32).toNatClampNeg = g2 → jiv h 126 (5 : Int32).toNatClampNeg = g3 → jiv h 126 (7 : Int32).toNatClampNeg = g4 → jiv h 125 10 = g5 → jiv h 125 11 = g6 → jiv h 125 14 = g7 → jiv h 125 8 = g8 → jiv h 125 9 = g9 → jJ jSgM Dy h → jSm fp_X12_line_r125d h0 h → d_X12_line_r125d_300269  l1.toInt l2.toInt l3.toInt l4.toInt l5.toInt l7.toInt l8.toInt (vw h) = dr → jX m_X12_line 6 0 0 269 [(0, .ref 125), (1, .int l1), (2, .int l2), (3, .int l3), (4, .int l4), (5, .int l5), (7, .int l7), (8, .int l8)] [.int 1] h 0 0 Q := by
  intro l1 l2 l3 l4 l5 l7 l8 g0 g1 g2 g3 g4 g5 g6 g7 g8 g9 h y0 y1 y2 y3 y4 y5 y6 y7 y8 y9 y10 y11 y12 y13 y14 y15 y16 y17 y18 y19 y20 z0 z1 z2 z3 z4 z5 z6 z7 z8 z9  J Sm D
  unfold d_X12_line_r125d_300269 at D
  try rw [vrn (n := 0) (by decide) z0] at D
  try rw [vrn (n := 16) (by decide) z1] at D
  try rw [vrn (n := 4) (by decide) z2] at D
  try rw [vrn (n := 5) (by decide) z3] at D
  try rw [vrn (n := 7) (by decide) z4] at D
  try rw [vrf z5] at D
  try rw [vrf z6] at D
  try rw [vrf z7] at D
  try rw [vrf z8] at D
  try rw [vrf z9] at D
  refine x_istore (lsx9 := [(11, .int 1), (0, .ref 125), (1, .int l1), (2, .int l2), (3, .int l3), (4, .int l4), (5, .int l5), (7, .int l7), (8, .int l8)]) rfl rfl rfl ?_
  refine x_iload (x := 1) rfl rfl ?_
  refine x_ifeq (tgt := 305) rfl rfl (ti_eq jk_1 jk_0 (br_f (by omega) ?_))
  refine x_aloadn (x := 125) rfl rfl ?_
  refine x_aloadn (x := 125) rfl rfl ?_
  refine x_bipush (v := 46) rfl kb_46 ?_
  refine x_inv (N := m_X12_isSign) (As := [.int 46]) (b := 125) (st := [.ref 125]) (dx9 := 5) (mc := 0) (ms := 0) (host := "") 12 rfl t_X12_isSign ⟨Or.inl q_12_257, i_X12_isSign.1, i_X12_isSign.2⟩ ⟨by decide, rfl⟩ (congrArg Prod.fst (J.1.1 125 (12, 92) rfl)) rfl (by decide) rfl rfl ⟨by decide, by decide⟩ (jC.of rfl k_X12_isSign rfl ?_)
  show jX m_X12_isSign 5 0 0 0 [(0, .ref 125), (1, .int 46)] [] _ 0 0 _
  refine x_aloadn (x := 125) rfl rfl ?_
  refine z_getM (N := 92) (v := g6) 12 11 rfl f_12_235 rfl J rfl z6 ?_
  refine x_iconst (v := 3) rfl ki_3 ?_
  refine x_icne (tgt := 22) rfl rfl (ti_ne rfl jk_3 ⟨fun c1 => ?_, fun c1 => ?_⟩)
  ·
    rw [if_neg (by omega)] at D
    refine x_iconst (v := 0) rfl ki_0 ?_
    refine x_zret rfl rfl (by decide) ?_
    show jX m_X12_line 6 0 0 283 [(11, .int 1), (0, .ref 125), (1, .int l1), (2, .int l2), (3, .int l3), (4, .int l4), (5, .int l5), (7, .int l7), (8, .int l8)] [.int 0, .ref 125] _ 0 0 _
    refine x_inv (N := m_X12_must) (As := [.int 0]) (b := 125) (st := []) (dx9 := 5) (mc := 0) (ms := 0) (host := "") 12 rfl t_X12_must ⟨Or.inl q_12_250, i_X12_must.1, i_X12_must.2⟩ ⟨by decide, rfl⟩ (congrArg Prod.fst (J.1.1 125 (12, 92) rfl)) rfl (by decide) rfl rfl ⟨by decide, by decide⟩ (jC.of rfl k_X12_must rfl ?_)
    show jX m_X12_must 5 0 0 0 [(0, .ref 125), (1, .int 0)] [] _ 0 0 _
    refine x_aloadn (x := 125) rfl rfl ?_
    refine z_getM (N := 92) (v := g7) 12 14 rfl f_12_214 rfl J rfl z7 ?_
    refine x_ifne (tgt := 24) rfl rfl (ti_ne rfl jk_0 (bn_f (by omega) ?_))
    refine x_iloadn (x := 0) rfl rfl ?_
    refine x_ifne (tgt := 24) rfl rfl (ti_ne jk_0 jk_0 (bn_f (by omega) ?_))
    refine x_aloadn (x := 125) rfl rfl ?_
    refine x_iconst (v := 1) rfl ki_1 ?_
    refine z_putZ (N := 92) (w := 1) 12 14 rfl f_12_214 rfl (jfin_no TX12 RX12 92 rfl rfl) hD J Sm rfl rfl jk_1 (by omega) (pw_125_14 (by omega)) rfl (fun h w2 J Sm => ?_)
    rw [vwf w2 (show 1 = (1 : Int32).toInt from by have := jk_1; omega)] at D
    refine x_aloadn (x := 125) rfl rfl ?_
    refine x_aloadn (x := 125) rfl rfl ?_
    refine z_getM (N := 92) (v := g9) 12 9 rfl f_12_221 rfl J rfl (jmo w2 rfl z9) ?_
    refine z_putI (N := 92) (w := g9.toInt) 12 13 rfl f_12_32 rfl (jfin_no TX12 RX12 92 rfl rfl) hD J Sm rfl rfl rfl (pw_125_13 (by omega)) rfl (fun h w3 J Sm => ?_)
    rw [vwf w3 (show g9.toInt = g9.toInt from by omega)] at D
    refine x_aloadn (x := 125) rfl rfl ?_
    refine z_getM (N := 92) (v := 1) 12 14 rfl f_12_214 rfl J rfl (jmo w3 rfl (jmw w2)) ?_
    refine x_ifne (tgt := 35) rfl rfl (ti_ne jk_1 jk_0 (bn_t (by omega) ?_))
    refine x_vret rfl rfl ?_
    show jX m_X12_line 6 0 0 286 [(11, .int 1), (0, .ref 125), (1, .int l1), (2, .int l2), (3, .int l3), (4, .int l4), (5, .int l5), (7, .int l7), (8, .int l8)] [] _ 0 0 _
    refine x_aloadn (x := 125) rfl rfl ?_
    refine z_getM (N := 92) (v := 1) 12 14 rfl f_12_214 rfl J rfl (jmo w3 rfl (jmw w2)) ?_
    refine x_ifne (tgt := 305) rfl rfl (ti_ne jk_1 jk_0 (bn_t (by omega) ?_))
    exact jX.sub (jsb_c rfl (jsb_c rfl (jsb_c rfl (jsb_c rfl (jsb_c rfl (jsb_c rfl (jsb_c rfl (jsb_c rfl (jsb_c rfl jsb_n))))))))) (ct_X12_line_r125d_305 hD hQ  l1 l2 l3 l4 l5 l7 l8 1 g0 g1 g2 g3 g4 g5 g6 1 g8 g9 h (jr_of rfl (by omega)) (jr_of rfl (by omega)) (jr_of rfl (by omega)) (jr_of rfl (by omega)) (jr_of rfl (by omega)) (jr_of rfl (by omega)) (jr_of rfl (by omega)) (jr_mod rfl (by omega)) (jr_of jk_1 (by omega)) (jr_of rfl (by omega)) (jr_of rfl (by omega)) (jr_of rfl (by omega)) (jr_of rfl (by omega)) (jr_of rfl (by omega)) (jr_of rfl (by omega)) (jr_of rfl (by omega)) (jr_of jk_1 (by omega)) (jr_of rfl (by omega)) (jr_of rfl (by omega)) (by omega) (by omega) (by omega) (jmo w3 rfl (jmo w2 rfl z0)) (jmo w3 rfl (jmo w2 rfl z1)) (jmo w3 rfl (jmo w2 rfl z2)) (jmo w3 rfl (jmo w2 rfl z3)) (jmo w3 rfl (jmo w2 rfl z4)) (jmo w3 rfl (jmo w2 rfl z5)) (jmo w3 rfl (jmo w2 rfl z6)) (jmo w3 rfl (jmw w2)) (jmo w3 rfl (jmo w2 rfl z8)) (jmo w3 rfl (jmo w2 rfl z9)) J Sm (by rw [jk_1]; exact D))
  ·
    rw [if_pos (by omega)] at D
    refine x_aloadn (x := 125) rfl rfl ?_
    refine z_getLQ (N := 92) 12 12 rfl f_12_224 rfl J rfl (fun v4 qv4 => ?_)
    have ev4 := jfullL v4
    try rw [vrfL qv4] at D
    refine x_iloadn (x := 46) rfl rfl ?_
    refine z_i2l rfl jk_46 (fun v5 ev5 => ?_)
    refine z_lcmp rfl rfl rfl (fun v6 ev6 => ?_)
    refine x_ifne (tgt := 22) rfl rfl (ti_ne rfl jk_0 ⟨fun c7 => ?_, fun c7 => ?_⟩)
    ·
      rw [if_neg (by omega)] at D
      refine x_iconst (v := 0) rfl ki_0 ?_
      refine x_zret rfl rfl (by decide) ?_
      show jX m_X12_line 6 0 0 283 [(11, .int 1), (0, .ref 125), (1, .int l1), (2, .int l2), (3, .int l3), (4, .int l4), (5, .int l5), (7, .int l7), (8, .int l8)] [.int 0, .ref 125] _ 0 0 _
      refine x_inv (N := m_X12_must) (As := [.int 0]) (b := 125) (st := []) (dx9 := 5) (mc := 0) (ms := 0) (host := "") 12 rfl t_X12_must ⟨Or.inl q_12_250, i_X12_must.1, i_X12_must.2⟩ ⟨by decide, rfl⟩ (congrArg Prod.fst (J.1.1 125 (12, 92) rfl)) rfl (by decide) rfl rfl ⟨by decide, by decide⟩ (jC.of rfl k_X12_must rfl ?_)
      show jX m_X12_must 5 0 0 0 [(0, .ref 125), (1, .int 0)] [] _ 0 0 _
      refine x_aloadn (x := 125) rfl rfl ?_
      refine z_getM (N := 92) (v := g7) 12 14 rfl f_12_214 rfl J rfl z7 ?_
      refine x_ifne (tgt := 24) rfl rfl (ti_ne rfl jk_0 (bn_f (by omega) ?_))
      refine x_iloadn (x := 0) rfl rfl ?_
      refine x_ifne (tgt := 24) rfl rfl (ti_ne jk_0 jk_0 (bn_f (by omega) ?_))
      refine x_aloadn (x := 125) rfl rfl ?_
      refine x_iconst (v := 1) rfl ki_1 ?_
      refine z_putZ (N := 92) (w := 1) 12 14 rfl f_12_214 rfl (jfin_no TX12 RX12 92 rfl rfl) hD J Sm rfl rfl jk_1 (by omega) (pw_125_14 (by omega)) rfl (fun h w8 J Sm => ?_)
      rw [vwf w8 (show 1 = (1 : Int32).toInt from by have := jk_1; omega)] at D
      refine x_aloadn (x := 125) rfl rfl ?_
      refine x_aloadn (x := 125) rfl rfl ?_
      refine z_getM (N := 92) (v := g9) 12 9 rfl f_12_221 rfl J rfl (jmo w8 rfl z9) ?_
      refine z_putI (N := 92) (w := g9.toInt) 12 13 rfl f_12_32 rfl (jfin_no TX12 RX12 92 rfl rfl) hD J Sm rfl rfl rfl (pw_125_13 (by omega)) rfl (fun h w9 J Sm => ?_)
      rw [vwf w9 (show g9.toInt = g9.toInt from by omega)] at D
      refine x_aloadn (x := 125) rfl rfl ?_
      refine z_getM (N := 92) (v := 1) 12 14 rfl f_12_214 rfl J rfl (jmo w9 rfl (jmw w8)) ?_
      refine x_ifne (tgt := 35) rfl rfl (ti_ne jk_1 jk_0 (bn_t (by omega) ?_))
      refine x_vret rfl rfl ?_
      show jX m_X12_line 6 0 0 286 [(11, .int 1), (0, .ref 125), (1, .int l1), (2, .int l2), (3, .int l3), (4, .int l4), (5, .int l5), (7, .int l7), (8, .int l8)] [] _ 0 0 _
      refine x_aloadn (x := 125) rfl rfl ?_
      refine z_getM (N := 92) (v := 1) 12 14 rfl f_12_214 rfl J rfl (jmo w9 rfl (jmw w8)) ?_
      refine x_ifne (tgt := 305) rfl rfl (ti_ne jk_1 jk_0 (bn_t (by omega) ?_))
      exact jX.sub (jsb_c rfl (jsb_c rfl (jsb_c rfl (jsb_c rfl (jsb_c rfl (jsb_c rfl (jsb_c rfl (jsb_c rfl (jsb_c rfl jsb_n))))))))) (ct_X12_line_r125d_305 hD hQ  l1 l2 l3 l4 l5 l7 l8 1 g0 g1 g2 g3 g4 g5 g6 1 g8 g9 h (jr_of rfl (by omega)) (jr_of rfl (by omega)) (jr_of rfl (by omega)) (jr_of rfl (by omega)) (jr_of rfl (by omega)) (jr_of rfl (by omega)) (jr_of rfl (by omega)) (jr_mod rfl (by omega)) (jr_of jk_1 (by omega)) (jr_of rfl (by omega)) (jr_of rfl (by omega)) (jr_of rfl (by omega)) (jr_of rfl (by omega)) (jr_of rfl (by omega)) (jr_of rfl (by omega)) (jr_of rfl (by omega)) (jr_of jk_1 (by omega)) (jr_of rfl (by omega)) (jr_of rfl (by omega)) (by omega) (by omega) (by omega) (jmo w9 rfl (jmo w8 rfl z0)) (jmo w9 rfl (jmo w8 rfl z1)) (jmo w9 rfl (jmo w8 rfl z2)) (jmo w9 rfl (jmo w8 rfl z3)) (jmo w9 rfl (jmo w8 rfl z4)) (jmo w9 rfl (jmo w8 rfl z5)) (jmo w9 rfl (jmo w8 rfl z6)) (jmo w9 rfl (jmw w8)) (jmo w9 rfl (jmo w8 rfl z8)) (jmo w9 rfl (jmo w8 rfl z9)) J Sm (by rw [jk_1]; exact D))
    ·
      rw [if_pos (by omega)] at D
      refine x_iconst (v := 1) rfl ki_1 ?_
      refine x_goto (tgt := 23) rfl rfl ?_
      refine x_zret rfl rfl (by decide) ?_
      show jX m_X12_line 6 0 0 283 [(11, .int 1), (0, .ref 125), (1, .int l1), (2, .int l2), (3, .int l3), (4, .int l4), (5, .int l5), (7, .int l7), (8, .int l8)] [.int 1, .ref 125] _ 0 0 _
      refine x_inv (N := m_X12_must) (As := [.int 1]) (b := 125) (st := []) (dx9 := 5) (mc := 0) (ms := 0) (host := "") 12 rfl t_X12_must ⟨Or.inl q_12_250, i_X12_must.1, i_X12_must.2⟩ ⟨by decide, rfl⟩ (congrArg Prod.fst (J.1.1 125 (12, 92) rfl)) rfl (by decide) rfl rfl ⟨by decide, by decide⟩ (jC.of rfl k_X12_must rfl ?_)
      show jX m_X12_must 5 0 0 0 [(0, .ref 125), (1, .int 1)] [] _ 0 0 _
      refine x_aloadn (x := 125) rfl rfl ?_
      refine z_getM (N := 92) (v := g7) 12 14 rfl f_12_214 rfl J rfl z7 ?_
      refine x_ifne (tgt := 24) rfl rfl (ti_ne rfl jk_0 (bn_f (by omega) ?_))
      refine x_iloadn (x := 1) rfl rfl ?_
      refine x_ifne (tgt := 24) rfl rfl (ti_ne jk_1 jk_0 (bn_t (by omega) ?_))
      refine x_aloadn (x := 125) rfl rfl ?_
      refine z_getM (N := 92) (v := g7) 12 14 rfl f_12_214 rfl J rfl z7 ?_
      refine x_ifne (tgt := 35) rfl rfl (ti_ne rfl jk_0 (bn_f (by omega) ?_))
      refine x_aloadn (x := 125) rfl rfl ?_
      refine x_inv (N := m_X12_next) (As := []) (b := 125) (st := []) (dx9 := 2) (mc := 0) (ms := 0) (host := "") 12 rfl t_X12_next ⟨Or.inl q_12_218, i_X12_next.1, i_X12_next.2⟩ ⟨by decide, rfl⟩ (congrArg Prod.fst (J.1.1 125 (12, 92) rfl)) rfl (by decide) rfl rfl ⟨by decide, by decide⟩ (sf_X12_next_r125d  hD J z5 z8 (by omega) rfl  (fun h J S10 u11 u12 u13 qu11 qu12 qu13 ru11 u14 u15 u16 qu14 qu15 qu16 ru14 P17 X18 => ?_))
      have Sm := jSm_tr rfl Sm S10
      rw [X18] at D
      have eu11 := (show 0 ≤ u11.toInt ∧ u11.toInt ≤ 400 from qu11 ▸ jrg_f J sg_125_10_11_1_0_1)
      try rw [vrf qu11] at D
      have eu12 := (show 0 ≤ u12.toInt ∧ u12.toInt ≤ 400 from qu12 ▸ jrg_f J sg_125_8_9_1_0_1)
      try rw [vrf (jmb_c S10 qu12 rfl)] at D
      have eu13 := (show 0 ≤ u13.toInt ∧ u13.toInt ≤ 400 from qu13 ▸ jrg_f J sg_125_9_10_1_0_1)
      try rw [vrf qu13] at D
      have eu14 := (show 0 ≤ u14.toInt ∧ u14.toInt ≤ 3 from qu14 ▸ jrg_f J sg_125_11_12_1_0_1)
      try rw [vrf qu14] at D
      obtain rfl : u13 = u15 := qu13.symm.trans qu15
      obtain rfl : u11 = u16 := qu11.symm.trans qu16
      have nfP17 := jnf P17.1 z5 qu13
      show jX m_X12_must 5 0 0 35 [(0, .ref 125), (1, .int 1)] [] _ 0 0 _
      refine x_vret rfl rfl ?_
      show jX m_X12_line 6 0 0 286 [(11, .int 1), (0, .ref 125), (1, .int l1), (2, .int l2), (3, .int l3), (4, .int l4), (5, .int l5), (7, .int l7), (8, .int l8)] [] _ 0 0 _
      refine x_aloadn (x := 125) rfl rfl ?_
      refine z_getM (N := 92) (v := g7) 12 14 rfl f_12_214 rfl J rfl (jmc S10 rfl z7) ?_
      refine x_ifne (tgt := 305) rfl rfl (ti_ne rfl jk_0 (bn_f (by omega) ?_))
      refine x_aloadn (x := 125) rfl rfl ?_
      refine z_getM (N := 92) (v := u14) 12 11 rfl f_12_235 rfl J rfl qu14 ?_
      refine x_ifeq (tgt := 305) rfl rfl (ti_eq rfl jk_0 ⟨fun c19 => ?_, fun c19 => ?_⟩)
      ·
        rw [if_pos (by omega)] at D
        exact jX.sub (jsb_c rfl (jsb_c rfl (jsb_c rfl (jsb_c rfl (jsb_c rfl (jsb_c rfl (jsb_c rfl (jsb_c rfl (jsb_c rfl jsb_n))))))))) (ct_X12_line_r125d_305 hD hQ  l1 l2 l3 l4 l5 l7 l8 1 g0 g1 g2 g3 g4 u11 u14 g7 u12 u13 h (jr_of rfl (by omega)) (jr_of rfl (by omega)) (jr_of rfl (by omega)) (jr_of rfl (by omega)) (jr_of rfl (by omega)) (jr_of rfl (by omega)) (jr_of rfl (by omega)) (jr_mod rfl (by omega)) (jr_of jk_1 (by omega)) (jr_of rfl (by omega)) (jr_of rfl (by omega)) (jr_of rfl (by omega)) (jr_of rfl (by omega)) (jr_of rfl (by omega)) (jr_of rfl (by omega)) (jr_of rfl (by omega)) (jr_of rfl (by omega)) (jr_of rfl (by omega)) (jr_of rfl (by omega)) (by omega) (by omega) (by omega) (jmc S10 rfl z0) (jmc S10 rfl z1) (jmc S10 rfl z2) (jmc S10 rfl z3) (jmc S10 rfl z4) qu11 qu14 (jmc S10 rfl z7) qu12 qu13 J Sm (by rw [jk_1]; exact D))
      ·
        rw [if_neg (by omega)] at D
        refine x_aloadn (x := 125) rfl rfl ?_
        refine x_iconst (v := 0) rfl ki_0 ?_
        refine x_inv (N := m_X12_must) (As := [.int 0]) (b := 125) (st := []) (dx9 := 5) (mc := 0) (ms := 0) (host := "") 12 rfl t_X12_must ⟨Or.inl q_12_250, i_X12_must.1, i_X12_must.2⟩ ⟨by decide, rfl⟩ (congrArg Prod.fst (J.1.1 125 (12, 92) rfl)) rfl (by decide) rfl rfl ⟨by decide, by decide⟩ (jC.of rfl k_X12_must rfl ?_)
        show jX m_X12_must 5 0 0 0 [(0, .ref 125), (1, .int 0)] [] _ 0 0 _
        refine x_aloadn (x := 125) rfl rfl ?_
        refine z_getM (N := 92) (v := g7) 12 14 rfl f_12_214 rfl J rfl (jmc S10 rfl z7) ?_
        refine x_ifne (tgt := 24) rfl rfl (ti_ne rfl jk_0 (bn_f (by omega) ?_))
        refine x_iloadn (x := 0) rfl rfl ?_
        refine x_ifne (tgt := 24) rfl rfl (ti_ne jk_0 jk_0 (bn_f (by omega) ?_))
        refine x_aloadn (x := 125) rfl rfl ?_
        refine x_iconst (v := 1) rfl ki_1 ?_
        refine z_putZ (N := 92) (w := 1) 12 14 rfl f_12_214 rfl (jfin_no TX12 RX12 92 rfl rfl) hD J Sm rfl rfl jk_1 (by omega) (pw_125_14 (by omega)) rfl (fun h w20 J Sm => ?_)
        rw [vwf w20 (show 1 = (1 : Int32).toInt from by have := jk_1; omega)] at D
        refine x_aloadn (x := 125) rfl rfl ?_
        refine x_aloadn (x := 125) rfl rfl ?_
        refine z_getM (N := 92) (v := u13) 12 9 rfl f_12_221 rfl J rfl (jmo w20 rfl qu13) ?_
        refine z_putI (N := 92) (w := u13.toInt) 12 13 rfl f_12_32 rfl (jfin_no TX12 RX12 92 rfl rfl) hD J Sm rfl rfl rfl (pw_125_13 (by omega)) rfl (fun h w21 J Sm => ?_)
        rw [vwf w21 (show u13.toInt = u13.toInt from by omega)] at D
        refine x_aloadn (x := 125) rfl rfl ?_
        refine z_getM (N := 92) (v := 1) 12 14 rfl f_12_214 rfl J rfl (jmo w21 rfl (jmw w20)) ?_
        refine x_ifne (tgt := 35) rfl rfl (ti_ne jk_1 jk_0 (bn_t (by omega) ?_))
        refine x_vret rfl rfl ?_
        show jX m_X12_line 6 0 0 305 [(11, .int 1), (0, .ref 125), (1, .int l1), (2, .int l2), (3, .int l3), (4, .int l4), (5, .int l5), (7, .int l7), (8, .int l8)] [] _ 0 0 _
        exact jX.sub (jsb_c rfl (jsb_c rfl (jsb_c rfl (jsb_c rfl (jsb_c rfl (jsb_c rfl (jsb_c rfl (jsb_c rfl (jsb_c rfl jsb_n))))))))) (ct_X12_line_r125d_305 hD hQ  l1 l2 l3 l4 l5 l7 l8 1 g0 g1 g2 g3 g4 u11 u14 1 u12 u13 h (jr_of rfl (by omega)) (jr_of rfl (by omega)) (jr_of rfl (by omega)) (jr_of rfl (by omega)) (jr_of rfl (by omega)) (jr_of rfl (by omega)) (jr_of rfl (by omega)) (jr_mod rfl (by omega)) (jr_of jk_1 (by omega)) (jr_of rfl (by omega)) (jr_of rfl (by omega)) (jr_of rfl (by omega)) (jr_of rfl (by omega)) (jr_of rfl (by omega)) (jr_of rfl (by omega)) (jr_of rfl (by omega)) (jr_of jk_1 (by omega)) (jr_of rfl (by omega)) (jr_of rfl (by omega)) (by omega) (by omega) (by omega) (jmo w21 rfl (jmo w20 rfl (jmc S10 rfl z0))) (jmo w21 rfl (jmo w20 rfl (jmc S10 rfl z1))) (jmo w21 rfl (jmo w20 rfl (jmc S10 rfl z2))) (jmo w21 rfl (jmo w20 rfl (jmc S10 rfl z3))) (jmo w21 rfl (jmo w20 rfl (jmc S10 rfl z4))) (jmo w21 rfl (jmo w20 rfl qu11)) (jmo w21 rfl (jmo w20 rfl qu14)) (jmo w21 rfl (jmw w20)) (jmo w21 rfl (jmo w20 rfl qu12)) (jmo w21 rfl (jmo w20 rfl qu13)) J Sm (by rw [jk_1]; exact D))
set_option maxRecDepth 100000 in
set_option maxHeartbeats 4000000 in
theorem ct_X12_line_r125d_200269 {Dy : jH → Prop} {h0 : jH} {Q : Option Value → jH → Prop} {dr : (Int × jW)} (hD : jDk Dy) (hQ : ∀ (v : Int32) hx9, jJ jSgM Dy hx9 → jSm fp_X12_line_r125d h0 hx9 → ∀ u0 u1 u2 u3 u4 : Int32, jiv hx9 126 (16 : Int32).toNatClampNeg = u0 → jiv hx9 126 (0 : Int32).toNatClampNeg = u1 → jiv hx9 126 (4 : Int32).toNatClampNeg = u2 → jiv hx9 126 (5 : Int32).toNatClampNeg = u3 → jiv hx9 126 (7 : Int32).toNatClampNeg = u4 → u0.toInt = u1.toInt + u2.toInt + u3.toInt + u4.toInt → dr.1 = v.toInt → dr.2 = vw hx9 → Q (some (.int v)) hx9) : ∀ (l1 : Int32) (l2 : Int32) (l3 : Int32) (l4 : Int32) (l5 : Int32) (l7 : Int32) (l8 : Int32) (g0 : Int32) (g1 : Int32) (g2 : Int32) (g3 : Int32) (g4 : Int32) (g5 : Int32) (g6 : Int32) (g7 : Int32) (g8 : Int32) (g9 : Int32) (h : jH), 0 ≤ l1.toInt ∧ l1.toInt ≤ 5 → 0 ≤ l2.toInt ∧ l2.toInt ≤ 15 → 0 ≤ l3.toInt ∧ l3.toInt ≤ 146399 → 0 ≤ l4.toInt ∧ l4.toInt ≤ 146399 → (-1) ≤ l5.toInt ∧ l5.toInt ≤ 100000 → 0 ≤ l7.toInt ∧ l7.toInt ≤ 199 → 20 ≤ l8.toInt ∧ l8.toInt ≤ 17930 → l8.toInt % 90 = 20 → 0 ≤ g0.toInt ∧ g0.toInt ≤ 199 → 0 ≤ g1.toInt ∧ g1.toInt ≤ 369 → 0 ≤ g2.toInt ∧ g2.toInt ≤ 30 → 0 ≤ g3.toInt ∧ g3.toInt ≤ 100 → 0 ≤ g4.toInt ∧ g4.toInt ≤ 40 → 0 ≤ g5.toInt ∧ g5.toInt ≤ 400 → 0 ≤ g6.toInt ∧ g6.toInt ≤ 3 → 0 ≤ g7.toInt ∧ g7.toInt ≤ 1 → 0 ≤ g8.toInt ∧ g8.toInt ≤ 400 → 0 ≤ g9.toInt ∧ g9.toInt ≤ 400 → g1.toInt = g0.toInt + g2.toInt + g3.toInt + g4.toInt → (g5.toInt ≤ g8.toInt ∧ g9.toInt ≤ g5.toInt) → (g6.toInt = 0 ∨ g9.toInt + 1 ≤ g5.toInt) → jiv h 126 (0 : Int32).toNatClampNeg = g0 → jiv h 126 (16 : Int32).toNatClampNeg = g1 → jiv h 126 (4 : Int32).toNatClampNeg = g2 → jiv h 126 (5 : Int32).toNatClampNeg = g3 → jiv h 126 (7 : Int32).toNatClampNeg = g4 → jiv h 125 10 = g5 → jiv h 125 11 = g6 → jiv h 125 14 = g7 → jiv h 125 8 = g8 → jiv h 125 9 = g9 → jJ jSgM Dy h → jSm fp_X12_line_r125d h0 h → d_X12_line_r125d_200269  l1.toInt l2.toInt l3.toInt l4.toInt l5.toInt l7.toInt l8.toInt (vw h) = dr → jX m_X12_line 6 0 0 269 [(0, .ref 125), (1, .int l1), (2, .int l2), (3, .int l3), (4, .int l4), (5, .int l5), (7, .int l7), (8, .int l8)] [.int 0] h 0 0 Q := by
  intro l1 l2 l3 l4 l5 l7 l8 g0 g1 g2 g3 g4 g5 g6 g7 g8 g9 h y0 y1 y2 y3 y4 y5 y6 y7 y8 y9 y10 y11 y12 y13 y14 y15 y16 y17 y18 y19 y20 z0 z1 z2 z3 z4 z5 z6 z7 z8 z9  J Sm D
  unfold d_X12_line_r125d_200269 at D
  try rw [vrn (n := 0) (by decide) z0] at D
  try rw [vrn (n := 16) (by decide) z1] at D
  try rw [vrn (n := 4) (by decide) z2] at D
  try rw [vrn (n := 5) (by decide) z3] at D
  try rw [vrn (n := 7) (by decide) z4] at D
  try rw [vrf z5] at D
  try rw [vrf z6] at D
  try rw [vrf z7] at D
  try rw [vrf z8] at D
  try rw [vrf z9] at D
  refine x_istore (lsx9 := [(11, .int 0), (0, .ref 125), (1, .int l1), (2, .int l2), (3, .int l3), (4, .int l4), (5, .int l5), (7, .int l7), (8, .int l8)]) rfl rfl rfl ?_
  refine x_iload (x := 0) rfl rfl ?_
  refine x_ifeq (tgt := 305) rfl rfl (ti_eq jk_0 jk_0 (br_t (by omega) ?_))
  exact jX.sub (jsb_c rfl (jsb_c rfl (jsb_c rfl (jsb_c rfl (jsb_c rfl (jsb_c rfl (jsb_c rfl (jsb_c rfl (jsb_c rfl jsb_n))))))))) (ct_X12_line_r125d_305 hD hQ  l1 l2 l3 l4 l5 l7 l8 0 g0 g1 g2 g3 g4 g5 g6 g7 g8 g9 h (jr_of rfl (by omega)) (jr_of rfl (by omega)) (jr_of rfl (by omega)) (jr_of rfl (by omega)) (jr_of rfl (by omega)) (jr_of rfl (by omega)) (jr_of rfl (by omega)) (jr_mod rfl (by omega)) (jr_of jk_0 (by omega)) (jr_of rfl (by omega)) (jr_of rfl (by omega)) (jr_of rfl (by omega)) (jr_of rfl (by omega)) (jr_of rfl (by omega)) (jr_of rfl (by omega)) (jr_of rfl (by omega)) (jr_of rfl (by omega)) (jr_of rfl (by omega)) (jr_of rfl (by omega)) (by omega) (by omega) (by omega) z0 z1 z2 z3 z4 z5 z6 z7 z8 z9 J Sm (by rw [jk_0]; exact D))
set_option maxRecDepth 100000 in
set_option maxHeartbeats 4000000 in
theorem ct_X12_line_r125d_268 {Dy : jH → Prop} {h0 : jH} {Q : Option Value → jH → Prop} {dr : (Int × jW)} (hD : jDk Dy) (hQ : ∀ (v : Int32) hx9, jJ jSgM Dy hx9 → jSm fp_X12_line_r125d h0 hx9 → ∀ u0 u1 u2 u3 u4 : Int32, jiv hx9 126 (16 : Int32).toNatClampNeg = u0 → jiv hx9 126 (0 : Int32).toNatClampNeg = u1 → jiv hx9 126 (4 : Int32).toNatClampNeg = u2 → jiv hx9 126 (5 : Int32).toNatClampNeg = u3 → jiv hx9 126 (7 : Int32).toNatClampNeg = u4 → u0.toInt = u1.toInt + u2.toInt + u3.toInt + u4.toInt → dr.1 = v.toInt → dr.2 = vw hx9 → Q (some (.int v)) hx9) : ∀ (l1 : Int32) (l2 : Int32) (l3 : Int32) (l4 : Int32) (l5 : Int32) (l7 : Int32) (l8 : Int32) (g0 : Int32) (g1 : Int32) (g2 : Int32) (g3 : Int32) (g4 : Int32) (g5 : Int32) (g6 : Int32) (g7 : Int32) (g8 : Int32) (g9 : Int32) (h : jH), 0 ≤ l1.toInt ∧ l1.toInt ≤ 5 → 0 ≤ l2.toInt ∧ l2.toInt ≤ 15 → 0 ≤ l3.toInt ∧ l3.toInt ≤ 146399 → 0 ≤ l4.toInt ∧ l4.toInt ≤ 146399 → (-1) ≤ l5.toInt ∧ l5.toInt ≤ 100000 → 0 ≤ l7.toInt ∧ l7.toInt ≤ 199 → 20 ≤ l8.toInt ∧ l8.toInt ≤ 17930 → l8.toInt % 90 = 20 → 0 ≤ g0.toInt ∧ g0.toInt ≤ 199 → 0 ≤ g1.toInt ∧ g1.toInt ≤ 369 → 0 ≤ g2.toInt ∧ g2.toInt ≤ 30 → 0 ≤ g3.toInt ∧ g3.toInt ≤ 100 → 0 ≤ g4.toInt ∧ g4.toInt ≤ 40 → 0 ≤ g5.toInt ∧ g5.toInt ≤ 400 → 0 ≤ g6.toInt ∧ g6.toInt ≤ 3 → 0 ≤ g7.toInt ∧ g7.toInt ≤ 1 → 0 ≤ g8.toInt ∧ g8.toInt ≤ 400 → 0 ≤ g9.toInt ∧ g9.toInt ≤ 400 → g1.toInt = g0.toInt + g2.toInt + g3.toInt + g4.toInt → (g5.toInt ≤ g8.toInt ∧ g9.toInt ≤ g5.toInt) → (g6.toInt = 0 ∨ g9.toInt + 1 ≤ g5.toInt) → jiv h 126 (0 : Int32).toNatClampNeg = g0 → jiv h 126 (16 : Int32).toNatClampNeg = g1 → jiv h 126 (4 : Int32).toNatClampNeg = g2 → jiv h 126 (5 : Int32).toNatClampNeg = g3 → jiv h 126 (7 : Int32).toNatClampNeg = g4 → jiv h 125 10 = g5 → jiv h 125 11 = g6 → jiv h 125 14 = g7 → jiv h 125 8 = g8 → jiv h 125 9 = g9 → jJ jSgM Dy h → jSm fp_X12_line_r125d h0 h → d_X12_line_r125d_268  l1.toInt l2.toInt l3.toInt l4.toInt l5.toInt l7.toInt l8.toInt (vw h) = dr → jX m_X12_line 6 0 0 268 [(0, .ref 125), (1, .int l1), (2, .int l2), (3, .int l3), (4, .int l4), (5, .int l5), (7, .int l7), (8, .int l8)] [] h 0 0 Q := by
  intro l1 l2 l3 l4 l5 l7 l8 g0 g1 g2 g3 g4 g5 g6 g7 g8 g9 h y0 y1 y2 y3 y4 y5 y6 y7 y8 y9 y10 y11 y12 y13 y14 y15 y16 y17 y18 y19 y20 z0 z1 z2 z3 z4 z5 z6 z7 z8 z9  J Sm D
  unfold d_X12_line_r125d_268 at D
  try rw [vrn (n := 0) (by decide) z0] at D
  try rw [vrn (n := 16) (by decide) z1] at D
  try rw [vrn (n := 4) (by decide) z2] at D
  try rw [vrn (n := 5) (by decide) z3] at D
  try rw [vrn (n := 7) (by decide) z4] at D
  try rw [vrf z5] at D
  try rw [vrf z6] at D
  try rw [vrf z7] at D
  try rw [vrf z8] at D
  try rw [vrf z9] at D
  refine x_iconst (v := 0) rfl ki_0 ?_
  exact jX.sub (jsb_c rfl (jsb_c rfl (jsb_c rfl (jsb_c rfl (jsb_c rfl (jsb_c rfl (jsb_c rfl (jsb_c rfl jsb_n)))))))) (ct_X12_line_r125d_200269 hD hQ  l1 l2 l3 l4 l5 l7 l8 g0 g1 g2 g3 g4 g5 g6 g7 g8 g9 h (jr_of rfl (by omega)) (jr_of rfl (by omega)) (jr_of rfl (by omega)) (jr_of rfl (by omega)) (jr_of rfl (by omega)) (jr_of rfl (by omega)) (jr_of rfl (by omega)) (jr_mod rfl (by omega)) (jr_of rfl (by omega)) (jr_of rfl (by omega)) (jr_of rfl (by omega)) (jr_of rfl (by omega)) (jr_of rfl (by omega)) (jr_of rfl (by omega)) (jr_of rfl (by omega)) (jr_of rfl (by omega)) (jr_of rfl (by omega)) (jr_of rfl (by omega)) (by omega) (by omega) (by omega) z0 z1 z2 z3 z4 z5 z6 z7 z8 z9 J Sm D)
set_option maxRecDepth 100000 in
set_option maxHeartbeats 4000000 in
theorem ct_X12_line_r125d_250 {Dy : jH → Prop} {h0 : jH} {Q : Option Value → jH → Prop} {dr : (Int × jW)} (hD : jDk Dy) (hQ : ∀ (v : Int32) hx9, jJ jSgM Dy hx9 → jSm fp_X12_line_r125d h0 hx9 → ∀ u0 u1 u2 u3 u4 : Int32, jiv hx9 126 (16 : Int32).toNatClampNeg = u0 → jiv hx9 126 (0 : Int32).toNatClampNeg = u1 → jiv hx9 126 (4 : Int32).toNatClampNeg = u2 → jiv hx9 126 (5 : Int32).toNatClampNeg = u3 → jiv hx9 126 (7 : Int32).toNatClampNeg = u4 → u0.toInt = u1.toInt + u2.toInt + u3.toInt + u4.toInt → dr.1 = v.toInt → dr.2 = vw hx9 → Q (some (.int v)) hx9) : ∀ (l1 : Int32) (l2 : Int32) (l3 : Int32) (l4 : Int32) (l5 : Int32) (l7 : Int32) (l8 : Int32) (g0 : Int32) (g1 : Int32) (g2 : Int32) (g3 : Int32) (g4 : Int32) (g5 : Int32) (g6 : Int32) (g7 : Int32) (g8 : Int32) (g9 : Int32) (h : jH), 0 ≤ l1.toInt ∧ l1.toInt ≤ 5 → 0 ≤ l2.toInt ∧ l2.toInt ≤ 15 → 0 ≤ l3.toInt ∧ l3.toInt ≤ 146399 → 0 ≤ l4.toInt ∧ l4.toInt ≤ 146399 → (-1) ≤ l5.toInt ∧ l5.toInt ≤ 100000 → 0 ≤ l7.toInt ∧ l7.toInt ≤ 199 → 20 ≤ l8.toInt ∧ l8.toInt ≤ 17930 → l8.toInt % 90 = 20 → 0 ≤ g0.toInt ∧ g0.toInt ≤ 199 → 0 ≤ g1.toInt ∧ g1.toInt ≤ 369 → 0 ≤ g2.toInt ∧ g2.toInt ≤ 30 → 0 ≤ g3.toInt ∧ g3.toInt ≤ 100 → 0 ≤ g4.toInt ∧ g4.toInt ≤ 40 → 0 ≤ g5.toInt ∧ g5.toInt ≤ 400 → 0 ≤ g6.toInt ∧ g6.toInt ≤ 3 → 0 ≤ g7.toInt ∧ g7.toInt ≤ 1 → 0 ≤ g8.toInt ∧ g8.toInt ≤ 400 → 0 ≤ g9.toInt ∧ g9.toInt ≤ 400 → g1.toInt = g0.toInt + g2.toInt + g3.toInt + g4.toInt → (g5.toInt ≤ g8.toInt ∧ g9.toInt ≤ g5.toInt) → (g6.toInt = 0 ∨ g9.toInt + 1 ≤ g5.toInt) → jiv h 126 (0 : Int32).toNatClampNeg = g0 → jiv h 126 (16 : Int32).toNatClampNeg = g1 → jiv h 126 (4 : Int32).toNatClampNeg = g2 → jiv h 126 (5 : Int32).toNatClampNeg = g3 → jiv h 126 (7 : Int32).toNatClampNeg = g4 → jiv h 125 10 = g5 → jiv h 125 11 = g6 → jiv h 125 14 = g7 → jiv h 125 8 = g8 → jiv h 125 9 = g9 → jJ jSgM Dy h → jSm fp_X12_line_r125d h0 h → d_X12_line_r125d_250  l1.toInt l2.toInt l3.toInt l4.toInt l5.toInt l7.toInt l8.toInt (vw h) = dr → jX m_X12_line 6 0 0 250 [(0, .ref 125), (1, .int l1), (2, .int l2), (3, .int l3), (4, .int l4), (5, .int l5), (7, .int l7), (8, .int l8)] [] h 0 0 Q := by
  intro l1 l2 l3 l4 l5 l7 l8 g0 g1 g2 g3 g4 g5 g6 g7 g8 g9 h y0 y1 y2 y3 y4 y5 y6 y7 y8 y9 y10 y11 y12 y13 y14 y15 y16 y17 y18 y19 y20 z0 z1 z2 z3 z4 z5 z6 z7 z8 z9  J Sm D
  unfold d_X12_line_r125d_250 at D
  try rw [vrn (n := 0) (by decide) z0] at D
  try rw [vrn (n := 16) (by decide) z1] at D
  try rw [vrn (n := 4) (by decide) z2] at D
  try rw [vrn (n := 5) (by decide) z3] at D
  try rw [vrn (n := 7) (by decide) z4] at D
  try rw [vrf z5] at D
  try rw [vrf z6] at D
  try rw [vrf z7] at D
  try rw [vrf z8] at D
  try rw [vrf z9] at D
  refine x_aloadn (x := 125) rfl rfl ?_
  refine z_getM (N := 92) (v := g7) 12 14 rfl f_12_214 rfl J rfl z7 ?_
  refine x_ifne (tgt := 268) rfl rfl (ti_ne rfl jk_0 ⟨fun c1 => ?_, fun c1 => ?_⟩)
  ·
    rw [if_neg (by omega)] at D
    exact jX.sub (jsb_c rfl (jsb_c rfl (jsb_c rfl (jsb_c rfl (jsb_c rfl (jsb_c rfl (jsb_c rfl (jsb_c rfl jsb_n)))))))) (ct_X12_line_r125d_268 hD hQ  l1 l2 l3 l4 l5 l7 l8 g0 g1 g2 g3 g4 g5 g6 g7 g8 g9 h (jr_of rfl (by omega)) (jr_of rfl (by omega)) (jr_of rfl (by omega)) (jr_of rfl (by omega)) (jr_of rfl (by omega)) (jr_of rfl (by omega)) (jr_of rfl (by omega)) (jr_mod rfl (by omega)) (jr_of rfl (by omega)) (jr_of rfl (by omega)) (jr_of rfl (by omega)) (jr_of rfl (by omega)) (jr_of rfl (by omega)) (jr_of rfl (by omega)) (jr_of rfl (by omega)) (jr_of rfl (by omega)) (jr_of rfl (by omega)) (jr_of rfl (by omega)) (by omega) (by omega) (by omega) z0 z1 z2 z3 z4 z5 z6 z7 z8 z9 J Sm D)
  ·
    rw [if_pos (by omega)] at D
    refine x_aloadn (x := 125) rfl rfl ?_
    refine z_getM (N := 92) (v := g6) 12 11 rfl f_12_235 rfl J rfl z6 ?_
    refine x_ifeq (tgt := 268) rfl rfl (ti_eq rfl jk_0 ⟨fun c2 => ?_, fun c2 => ?_⟩)
    ·
      rw [if_pos (by omega)] at D
      exact jX.sub (jsb_c rfl (jsb_c rfl (jsb_c rfl (jsb_c rfl (jsb_c rfl (jsb_c rfl (jsb_c rfl (jsb_c rfl jsb_n)))))))) (ct_X12_line_r125d_268 hD hQ  l1 l2 l3 l4 l5 l7 l8 g0 g1 g2 g3 g4 g5 g6 g7 g8 g9 h (jr_of rfl (by omega)) (jr_of rfl (by omega)) (jr_of rfl (by omega)) (jr_of rfl (by omega)) (jr_of rfl (by omega)) (jr_of rfl (by omega)) (jr_of rfl (by omega)) (jr_mod rfl (by omega)) (jr_of rfl (by omega)) (jr_of rfl (by omega)) (jr_of rfl (by omega)) (jr_of rfl (by omega)) (jr_of rfl (by omega)) (jr_of rfl (by omega)) (jr_of rfl (by omega)) (jr_of rfl (by omega)) (jr_of rfl (by omega)) (jr_of rfl (by omega)) (by omega) (by omega) (by omega) z0 z1 z2 z3 z4 z5 z6 z7 z8 z9 J Sm D)
    ·
      rw [if_neg (by omega)] at D
      refine x_iconst (v := 1) rfl ki_1 ?_
      refine x_goto (tgt := 269) rfl rfl ?_
      exact jX.sub (jsb_c rfl (jsb_c rfl (jsb_c rfl (jsb_c rfl (jsb_c rfl (jsb_c rfl (jsb_c rfl (jsb_c rfl jsb_n)))))))) (ct_X12_line_r125d_300269 hD hQ  l1 l2 l3 l4 l5 l7 l8 g0 g1 g2 g3 g4 g5 g6 g7 g8 g9 h (jr_of rfl (by omega)) (jr_of rfl (by omega)) (jr_of rfl (by omega)) (jr_of rfl (by omega)) (jr_of rfl (by omega)) (jr_of rfl (by omega)) (jr_of rfl (by omega)) (jr_mod rfl (by omega)) (jr_of rfl (by omega)) (jr_of rfl (by omega)) (jr_of rfl (by omega)) (jr_of rfl (by omega)) (jr_of rfl (by omega)) (jr_of rfl (by omega)) (jr_of rfl (by omega)) (jr_of rfl (by omega)) (jr_of rfl (by omega)) (jr_of rfl (by omega)) (by omega) (by omega) (by omega) z0 z1 z2 z3 z4 z5 z6 z7 z8 z9 J Sm D)
set_option maxRecDepth 100000 in
set_option maxHeartbeats 4000000 in
theorem ct_X12_line_r125d_200244 {Dy : jH → Prop} {h0 : jH} {Q : Option Value → jH → Prop} {dr : (Int × jW)} {K171 : Int → Int → Int → Int → Int → Int → Int → Int → Int → jW → (Int × jW)} {R171 : Int} (hD : jDk Dy) (hQ : ∀ (v : Int32) hx9, jJ jSgM Dy hx9 → jSm fp_X12_line_r125d h0 hx9 → ∀ u0 u1 u2 u3 u4 : Int32, jiv hx9 126 (16 : Int32).toNatClampNeg = u0 → jiv hx9 126 (0 : Int32).toNatClampNeg = u1 → jiv hx9 126 (4 : Int32).toNatClampNeg = u2 → jiv hx9 126 (5 : Int32).toNatClampNeg = u3 → jiv hx9 126 (7 : Int32).toNatClampNeg = u4 → u0.toInt = u1.toInt + u2.toInt + u3.toInt + u4.toInt → dr.1 = v.toInt → dr.2 = vw hx9 → Q (some (.int v)) hx9) (k171 : ∀ (l1 : Int32) (l2 : Int32) (l3 : Int32) (l4 : Int32) (l5 : Int32) (l7 : Int32) (l8 : Int32) (l9 : Int32) (l10 : Int32) (g0 : Int32) (g1 : Int32) (g2 : Int32) (g3 : Int32) (g4 : Int32) (g5 : Int32) (g6 : Int32) (g7 : Int32) (g8 : Int32) (g9 : Int32) (h : jH), 3 - l9.toInt < R171 → 0 ≤ l1.toInt ∧ l1.toInt ≤ 5 → 0 ≤ l2.toInt ∧ l2.toInt ≤ 15 → 0 ≤ l3.toInt ∧ l3.toInt ≤ 146399 → 0 ≤ l4.toInt ∧ l4.toInt ≤ 146399 → (-1) ≤ l5.toInt ∧ l5.toInt ≤ 100000 → 0 ≤ l7.toInt ∧ l7.toInt ≤ 199 → 20 ≤ l8.toInt ∧ l8.toInt ≤ 17930 → l8.toInt % 90 = 20 → 0 ≤ l9.toInt ∧ l9.toInt ≤ 3 → 0 ≤ l10.toInt ∧ l10.toInt ≤ 1 → 0 ≤ g0.toInt ∧ g0.toInt ≤ 199 → 0 ≤ g1.toInt ∧ g1.toInt ≤ 369 → 0 ≤ g2.toInt ∧ g2.toInt ≤ 30 → 0 ≤ g3.toInt ∧ g3.toInt ≤ 100 → 0 ≤ g4.toInt ∧ g4.toInt ≤ 40 → 0 ≤ g5.toInt ∧ g5.toInt ≤ 400 → 0 ≤ g6.toInt ∧ g6.toInt ≤ 3 → 0 ≤ g7.toInt ∧ g7.toInt ≤ 1 → 0 ≤ g8.toInt ∧ g8.toInt ≤ 400 → 0 ≤ g9.toInt ∧ g9.toInt ≤ 400 → (l10.toInt = 0 ∨ g7.toInt ≠ 0 ∨ l9.toInt ≤ 2) → g1.toInt = g0.toInt + g2.toInt + g3.toInt + g4.toInt → (g5.toInt ≤ g8.toInt ∧ g9.toInt ≤ g5.toInt) → (g6.toInt = 0 ∨ g9.toInt + 1 ≤ g5.toInt) → jiv h 126 (0 : Int32).toNatClampNeg = g0 → jiv h 126 (16 : Int32).toNatClampNeg = g1 → jiv h 126 (4 : Int32).toNatClampNeg = g2 → jiv h 126 (5 : Int32).toNatClampNeg = g3 → jiv h 126 (7 : Int32).toNatClampNeg = g4 → jiv h 125 10 = g5 → jiv h 125 11 = g6 → jiv h 125 14 = g7 → jiv h 125 8 = g8 → jiv h 125 9 = g9 → jJ jSgM Dy h → jSm fp_X12_line_r125d h0 h → K171 l1.toInt l2.toInt l3.toInt l4.toInt l5.toInt l7.toInt l8.toInt l9.toInt l10.toInt (vw h) = dr → jX m_X12_line 6 0 0 171 [(0, .ref 125), (1, .int l1), (2, .int l2), (3, .int l3), (4, .int l4), (5, .int l5), (7, .int l7), (8, .int l8), (9, .int l9), (10, .int l10)] [] h 0 0 Q) : ∀ (l1 : Int32) (l2 : Int32) (l3 : Int32) (l4 : Int32) (l5 : Int32) (l7 : Int32) (l8 : Int32) (l9 : Int32) (g0 : Int32) (g1 : Int32) (g2 : Int32) (g3 : Int32) (g4 : Int32) (g5 : Int32) (g6 : Int32) (g7 : Int32) (g8 : Int32) (g9 : Int32) (h : jH), 0 ≤ l1.toInt ∧ l1.toInt ≤ 5 → 0 ≤ l2.toInt ∧ l2.toInt ≤ 15 → 0 ≤ l3.toInt ∧ l3.toInt ≤ 146399 → 0 ≤ l4.toInt ∧ l4.toInt ≤ 146399 → (-1) ≤ l5.toInt ∧ l5.toInt ≤ 100000 → 0 ≤ l7.toInt ∧ l7.toInt ≤ 199 → 20 ≤ l8.toInt ∧ l8.toInt ≤ 17930 → l8.toInt % 90 = 20 → 1 ≤ l9.toInt ∧ l9.toInt ≤ 3 → 0 ≤ g0.toInt ∧ g0.toInt ≤ 199 → 0 ≤ g1.toInt ∧ g1.toInt ≤ 369 → 0 ≤ g2.toInt ∧ g2.toInt ≤ 30 → 0 ≤ g3.toInt ∧ g3.toInt ≤ 100 → 0 ≤ g4.toInt ∧ g4.toInt ≤ 40 → 0 ≤ g5.toInt ∧ g5.toInt ≤ 400 → 3 ≤ g6.toInt ∧ g6.toInt ≤ 3 → 0 ≤ g7.toInt ∧ g7.toInt ≤ 0 → 0 ≤ g8.toInt ∧ g8.toInt ≤ 400 → 0 ≤ g9.toInt ∧ g9.toInt ≤ 400 → g1.toInt = g0.toInt + g2.toInt + g3.toInt + g4.toInt → (g5.toInt ≤ g8.toInt ∧ g9.toInt ≤ g5.toInt) → (g6.toInt = 0 ∨ g9.toInt + 1 ≤ g5.toInt) → jiv h 126 (0 : Int32).toNatClampNeg = g0 → jiv h 126 (16 : Int32).toNatClampNeg = g1 → jiv h 126 (4 : Int32).toNatClampNeg = g2 → jiv h 126 (5 : Int32).toNatClampNeg = g3 → jiv h 126 (7 : Int32).toNatClampNeg = g4 → jiv h 125 10 = g5 → jiv h 125 11 = g6 → jiv h 125 14 = g7 → jiv h 125 8 = g8 → jiv h 125 9 = g9 → 3 - l9.toInt < R171 → jJ jSgM Dy h → jSm fp_X12_line_r125d h0 h → d_X12_line_r125d_200244 K171  l1.toInt l2.toInt l3.toInt l4.toInt l5.toInt l7.toInt l8.toInt l9.toInt (vw h) = dr → jX m_X12_line 6 0 0 244 [(0, .ref 125), (1, .int l1), (2, .int l2), (3, .int l3), (4, .int l4), (5, .int l5), (7, .int l7), (8, .int l8), (9, .int l9), (10, .int 1)] [.int 0, .ref 125] h 0 0 Q := by
  intro l1 l2 l3 l4 l5 l7 l8 l9 g0 g1 g2 g3 g4 g5 g6 g7 g8 g9 h y0 y1 y2 y3 y4 y5 y6 y7 y8 y9 y10 y11 y12 y13 y14 y15 y16 y17 y18 y19 y20 y21 z0 z1 z2 z3 z4 z5 z6 z7 z8 z9 m171 J Sm D
  unfold d_X12_line_r125d_200244 at D
  try rw [vrn (n := 0) (by decide) z0] at D
  try rw [vrn (n := 16) (by decide) z1] at D
  try rw [vrn (n := 4) (by decide) z2] at D
  try rw [vrn (n := 5) (by decide) z3] at D
  try rw [vrn (n := 7) (by decide) z4] at D
  try rw [vrf z5] at D
  try rw [vrf z6] at D
  try rw [vrf z7] at D
  try rw [vrf z8] at D
  try rw [vrf z9] at D
  refine x_inv (N := m_X12_must) (As := [.int 0]) (b := 125) (st := []) (dx9 := 5) (mc := 0) (ms := 0) (host := "") 12 rfl t_X12_must ⟨Or.inl q_12_250, i_X12_must.1, i_X12_must.2⟩ ⟨by decide, rfl⟩ (congrArg Prod.fst (J.1.1 125 (12, 92) rfl)) rfl (by decide) rfl rfl ⟨by decide, by decide⟩ (jC.of rfl k_X12_must rfl ?_)
  show jX m_X12_must 5 0 0 0 [(0, .ref 125), (1, .int 0)] [] _ 0 0 _
  refine x_aloadn (x := 125) rfl rfl ?_
  refine z_getM (N := 92) (v := g7) 12 14 rfl f_12_214 rfl J rfl z7 ?_
  refine x_ifne (tgt := 24) rfl rfl (ti_ne rfl jk_0 (bn_f (by omega) ?_))
  refine x_iloadn (x := 0) rfl rfl ?_
  refine x_ifne (tgt := 24) rfl rfl (ti_ne jk_0 jk_0 (bn_f (by omega) ?_))
  refine x_aloadn (x := 125) rfl rfl ?_
  refine x_iconst (v := 1) rfl ki_1 ?_
  refine z_putZ (N := 92) (w := 1) 12 14 rfl f_12_214 rfl (jfin_no TX12 RX12 92 rfl rfl) hD J Sm rfl rfl jk_1 (by omega) (pw_125_14 (by omega)) rfl (fun h w1 J Sm => ?_)
  rw [vwf w1 (show 1 = (1 : Int32).toInt from by have := jk_1; omega)] at D
  refine x_aloadn (x := 125) rfl rfl ?_
  refine x_aloadn (x := 125) rfl rfl ?_
  refine z_getM (N := 92) (v := g9) 12 9 rfl f_12_221 rfl J rfl (jmo w1 rfl z9) ?_
  refine z_putI (N := 92) (w := g9.toInt) 12 13 rfl f_12_32 rfl (jfin_no TX12 RX12 92 rfl rfl) hD J Sm rfl rfl rfl (pw_125_13 (by omega)) rfl (fun h w2 J Sm => ?_)
  rw [vwf w2 (show g9.toInt = g9.toInt from by omega)] at D
  refine x_aloadn (x := 125) rfl rfl ?_
  refine z_getM (N := 92) (v := 1) 12 14 rfl f_12_214 rfl J rfl (jmo w2 rfl (jmw w1)) ?_
  refine x_ifne (tgt := 35) rfl rfl (ti_ne jk_1 jk_0 (bn_t (by omega) ?_))
  refine x_vret rfl rfl ?_
  show jX m_X12_line 6 0 0 247 [(0, .ref 125), (1, .int l1), (2, .int l2), (3, .int l3), (4, .int l4), (5, .int l5), (7, .int l7), (8, .int l8), (9, .int l9), (10, .int 1)] [] _ 0 0 _
  refine x_goto (tgt := 171) rfl rfl ?_
  exact jX.sub (jsb_c rfl (jsb_c rfl (jsb_c rfl (jsb_c rfl (jsb_c rfl (jsb_c rfl (jsb_c rfl (jsb_c rfl (jsb_c rfl (jsb_c rfl jsb_n)))))))))) (k171 l1 l2 l3 l4 l5 l7 l8 l9 1 g0 g1 g2 g3 g4 g5 g6 1 g8 g9 h (by omega) (jr_of rfl (by omega)) (jr_of rfl (by omega)) (jr_of rfl (by omega)) (jr_of rfl (by omega)) (jr_of rfl (by omega)) (jr_of rfl (by omega)) (jr_of rfl (by omega)) (jr_mod rfl (by omega)) (jr_of rfl (by omega)) (jr_of jk_1 (by omega)) (jr_of rfl (by omega)) (jr_of rfl (by omega)) (jr_of rfl (by omega)) (jr_of rfl (by omega)) (jr_of rfl (by omega)) (jr_of rfl (by omega)) (jr_of rfl (by omega)) (jr_of jk_1 (by omega)) (jr_of rfl (by omega)) (jr_of rfl (by omega)) (by have := jk_1; have := jk_1; omega) (by omega) (by omega) (by omega) (jmo w2 rfl (jmo w1 rfl z0)) (jmo w2 rfl (jmo w1 rfl z1)) (jmo w2 rfl (jmo w1 rfl z2)) (jmo w2 rfl (jmo w1 rfl z3)) (jmo w2 rfl (jmo w1 rfl z4)) (jmo w2 rfl (jmo w1 rfl z5)) (jmo w2 rfl (jmo w1 rfl z6)) (jmo w2 rfl (jmw w1)) (jmo w2 rfl (jmo w1 rfl z8)) (jmo w2 rfl (jmo w1 rfl z9)) J Sm (by rw [jk_1]; exact D))
set_option maxRecDepth 100000 in
set_option maxHeartbeats 4000000 in
theorem ct_X12_line_r125d_300244 {Dy : jH → Prop} {h0 : jH} {Q : Option Value → jH → Prop} {dr : (Int × jW)} {K171 : Int → Int → Int → Int → Int → Int → Int → Int → Int → jW → (Int × jW)} {R171 : Int} (hD : jDk Dy) (hQ : ∀ (v : Int32) hx9, jJ jSgM Dy hx9 → jSm fp_X12_line_r125d h0 hx9 → ∀ u0 u1 u2 u3 u4 : Int32, jiv hx9 126 (16 : Int32).toNatClampNeg = u0 → jiv hx9 126 (0 : Int32).toNatClampNeg = u1 → jiv hx9 126 (4 : Int32).toNatClampNeg = u2 → jiv hx9 126 (5 : Int32).toNatClampNeg = u3 → jiv hx9 126 (7 : Int32).toNatClampNeg = u4 → u0.toInt = u1.toInt + u2.toInt + u3.toInt + u4.toInt → dr.1 = v.toInt → dr.2 = vw hx9 → Q (some (.int v)) hx9) (k171 : ∀ (l1 : Int32) (l2 : Int32) (l3 : Int32) (l4 : Int32) (l5 : Int32) (l7 : Int32) (l8 : Int32) (l9 : Int32) (l10 : Int32) (g0 : Int32) (g1 : Int32) (g2 : Int32) (g3 : Int32) (g4 : Int32) (g5 : Int32) (g6 : Int32) (g7 : Int32) (g8 : Int32) (g9 : Int32) (h : jH), 3 - l9.toInt < R171 → 0 ≤ l1.toInt ∧ l1.toInt ≤ 5 → 0 ≤ l2.toInt ∧ l2.toInt ≤ 15 → 0 ≤ l3.toInt ∧ l3.toInt ≤ 146399 → 0 ≤ l4.toInt ∧ l4.toInt ≤ 146399 → (-1) ≤ l5.toInt ∧ l5.toInt ≤ 100000 → 0 ≤ l7.toInt ∧ l7.toInt ≤ 199 → 20 ≤ l8.toInt ∧ l8.toInt ≤ 17930 → l8.toInt % 90 = 20 → 0 ≤ l9.toInt ∧ l9.toInt ≤ 3 → 0 ≤ l10.toInt ∧ l10.toInt ≤ 1 → 0 ≤ g0.toInt ∧ g0.toInt ≤ 199 → 0 ≤ g1.toInt ∧ g1.toInt ≤ 369 → 0 ≤ g2.toInt ∧ g2.toInt ≤ 30 → 0 ≤ g3.toInt ∧ g3.toInt ≤ 100 → 0 ≤ g4.toInt ∧ g4.toInt ≤ 40 → 0 ≤ g5.toInt ∧ g5.toInt ≤ 400 → 0 ≤ g6.toInt ∧ g6.toInt ≤ 3 → 0 ≤ g7.toInt ∧ g7.toInt ≤ 1 → 0 ≤ g8.toInt ∧ g8.toInt ≤ 400 → 0 ≤ g9.toInt ∧ g9.toInt ≤ 400 → (l10.toInt = 0 ∨ g7.toInt ≠ 0 ∨ l9.toInt ≤ 2) → g1.toInt = g0.toInt + g2.toInt + g3.toInt + g4.toInt → (g5.toInt ≤ g8.toInt ∧ g9.toInt ≤ g5.toInt) → (g6.toInt = 0 ∨ g9.toInt + 1 ≤ g5.toInt) → jiv h 126 (0 : Int32).toNatClampNeg = g0 → jiv h 126 (16 : Int32).toNatClampNeg = g1 → jiv h 126 (4 : Int32).toNatClampNeg = g2 → jiv h 126 (5 : Int32).toNatClampNeg = g3 → jiv h 126 (7 : Int32).toNatClampNeg = g4 → jiv h 125 10 = g5 → jiv h 125 11 = g6 → jiv h 125 14 = g7 → jiv h 125 8 = g8 → jiv h 125 9 = g9 → jJ jSgM Dy h → jSm fp_X12_line_r125d h0 h → K171 l1.toInt l2.toInt l3.toInt l4.toInt l5.toInt l7.toInt l8.toInt l9.toInt l10.toInt (vw h) = dr → jX m_X12_line 6 0 0 171 [(0, .ref 125), (1, .int l1), (2, .int l2), (3, .int l3), (4, .int l4), (5, .int l5), (7, .int l7), (8, .int l8), (9, .int l9), (10, .int l10)] [] h 0 0 Q) : ∀ (l1 : Int32) (l2 : Int32) (l3 : Int32) (l4 : Int32) (l5 : Int32) (l7 : Int32) (l8 : Int32) (l9 : Int32) (g0 : Int32) (g1 : Int32) (g2 : Int32) (g3 : Int32) (g4 : Int32) (g5 : Int32) (g6 : Int32) (g7 : Int32) (g8 : Int32) (g9 : Int32) (h : jH), 0 ≤ l1.toInt ∧ l1.toInt ≤ 1 → 0 ≤ l2.toInt ∧ l2.toInt ≤ 15 → 0 ≤ l3.toInt ∧ l3.toInt ≤ 146399 → 0 ≤ l4.toInt ∧ l4.toInt ≤ 146399 → (-1) ≤ l5.toInt ∧ l5.toInt ≤ 100000 → 0 ≤ l7.toInt ∧ l7.toInt ≤ 199 → 20 ≤ l8.toInt ∧ l8.toInt ≤ 17930 → l8.toInt % 90 = 20 → 1 ≤ l9.toInt ∧ l9.toInt ≤ 2 → 0 ≤ g0.toInt ∧ g0.toInt ≤ 199 → 0 ≤ g1.toInt ∧ g1.toInt ≤ 369 → 0 ≤ g2.toInt ∧ g2.toInt ≤ 30 → 0 ≤ g3.toInt ∧ g3.toInt ≤ 100 → 0 ≤ g4.toInt ∧ g4.toInt ≤ 40 → 0 ≤ g5.toInt ∧ g5.toInt ≤ 400 → 3 ≤ g6.toInt ∧ g6.toInt ≤ 3 → 0 ≤ g7.toInt ∧ g7.toInt ≤ 0 → 0 ≤ g8.toInt ∧ g8.toInt ≤ 400 → 0 ≤ g9.toInt ∧ g9.toInt ≤ 400 → g1.toInt = g0.toInt + g2.toInt + g3.toInt + g4.toInt → (g5.toInt ≤ g8.toInt ∧ g9.toInt ≤ g5.toInt) → (g6.toInt = 0 ∨ g9.toInt + 1 ≤ g5.toInt) → jiv h 126 (0 : Int32).toNatClampNeg = g0 → jiv h 126 (16 : Int32).toNatClampNeg = g1 → jiv h 126 (4 : Int32).toNatClampNeg = g2 → jiv h 126 (5 : Int32).toNatClampNeg = g3 → jiv h 126 (7 : Int32).toNatClampNeg = g4 → jiv h 125 10 = g5 → jiv h 125 11 = g6 → jiv h 125 14 = g7 → jiv h 125 8 = g8 → jiv h 125 9 = g9 → 3 - l9.toInt < R171 → jJ jSgM Dy h → jSm fp_X12_line_r125d h0 h → d_X12_line_r125d_300244 K171  l1.toInt l2.toInt l3.toInt l4.toInt l5.toInt l7.toInt l8.toInt l9.toInt (vw h) = dr → jX m_X12_line 6 0 0 244 [(0, .ref 125), (1, .int l1), (2, .int l2), (3, .int l3), (4, .int l4), (5, .int l5), (7, .int l7), (8, .int l8), (9, .int l9), (10, .int 1)] [.int 1, .ref 125] h 0 0 Q := by
  intro l1 l2 l3 l4 l5 l7 l8 l9 g0 g1 g2 g3 g4 g5 g6 g7 g8 g9 h y0 y1 y2 y3 y4 y5 y6 y7 y8 y9 y10 y11 y12 y13 y14 y15 y16 y17 y18 y19 y20 y21 z0 z1 z2 z3 z4 z5 z6 z7 z8 z9 m171 J Sm D
  unfold d_X12_line_r125d_300244 at D
  try rw [vrn (n := 0) (by decide) z0] at D
  try rw [vrn (n := 16) (by decide) z1] at D
  try rw [vrn (n := 4) (by decide) z2] at D
  try rw [vrn (n := 5) (by decide) z3] at D
  try rw [vrn (n := 7) (by decide) z4] at D
  try rw [vrf z5] at D
  try rw [vrf z6] at D
  try rw [vrf z7] at D
  try rw [vrf z8] at D
  try rw [vrf z9] at D
  refine x_inv (N := m_X12_must) (As := [.int 1]) (b := 125) (st := []) (dx9 := 5) (mc := 0) (ms := 0) (host := "") 12 rfl t_X12_must ⟨Or.inl q_12_250, i_X12_must.1, i_X12_must.2⟩ ⟨by decide, rfl⟩ (congrArg Prod.fst (J.1.1 125 (12, 92) rfl)) rfl (by decide) rfl rfl ⟨by decide, by decide⟩ (jC.of rfl k_X12_must rfl ?_)
  show jX m_X12_must 5 0 0 0 [(0, .ref 125), (1, .int 1)] [] _ 0 0 _
  refine x_aloadn (x := 125) rfl rfl ?_
  refine z_getM (N := 92) (v := g7) 12 14 rfl f_12_214 rfl J rfl z7 ?_
  refine x_ifne (tgt := 24) rfl rfl (ti_ne rfl jk_0 (bn_f (by omega) ?_))
  refine x_iloadn (x := 1) rfl rfl ?_
  refine x_ifne (tgt := 24) rfl rfl (ti_ne jk_1 jk_0 (bn_t (by omega) ?_))
  refine x_aloadn (x := 125) rfl rfl ?_
  refine z_getM (N := 92) (v := g7) 12 14 rfl f_12_214 rfl J rfl z7 ?_
  refine x_ifne (tgt := 35) rfl rfl (ti_ne rfl jk_0 (bn_f (by omega) ?_))
  refine x_aloadn (x := 125) rfl rfl ?_
  refine x_inv (N := m_X12_next) (As := []) (b := 125) (st := []) (dx9 := 2) (mc := 0) (ms := 0) (host := "") 12 rfl t_X12_next ⟨Or.inl q_12_218, i_X12_next.1, i_X12_next.2⟩ ⟨by decide, rfl⟩ (congrArg Prod.fst (J.1.1 125 (12, 92) rfl)) rfl (by decide) rfl rfl ⟨by decide, by decide⟩ (sf_X12_next_r125d  hD J z5 z8 (by omega) rfl  (fun h J S1 u2 u3 u4 qu2 qu3 qu4 ru2 u5 u6 u7 qu5 qu6 qu7 ru5 P8 X9 => ?_))
  have Sm := jSm_tr rfl Sm S1
  rw [X9] at D
  have eu2 := (show 0 ≤ u2.toInt ∧ u2.toInt ≤ 400 from qu2 ▸ jrg_f J sg_125_10_11_1_0_1)
  try rw [vrf qu2] at D
  have eu3 := (show 0 ≤ u3.toInt ∧ u3.toInt ≤ 400 from qu3 ▸ jrg_f J sg_125_8_9_1_0_1)
  try rw [vrf (jmb_c S1 qu3 rfl)] at D
  have eu4 := (show 0 ≤ u4.toInt ∧ u4.toInt ≤ 400 from qu4 ▸ jrg_f J sg_125_9_10_1_0_1)
  try rw [vrf qu4] at D
  have eu5 := (show 0 ≤ u5.toInt ∧ u5.toInt ≤ 3 from qu5 ▸ jrg_f J sg_125_11_12_1_0_1)
  try rw [vrf qu5] at D
  obtain rfl : u4 = u6 := qu4.symm.trans qu6
  obtain rfl : u2 = u7 := qu2.symm.trans qu7
  have nfP8 := jnf P8.1 z5 qu4
  show jX m_X12_must 5 0 0 35 [(0, .ref 125), (1, .int 1)] [] _ 0 0 _
  refine x_vret rfl rfl ?_
  show jX m_X12_line 6 0 0 247 [(0, .ref 125), (1, .int l1), (2, .int l2), (3, .int l3), (4, .int l4), (5, .int l5), (7, .int l7), (8, .int l8), (9, .int l9), (10, .int 1)] [] _ 0 0 _
  refine x_goto (tgt := 171) rfl rfl ?_
  exact jX.sub (jsb_c rfl (jsb_c rfl (jsb_c rfl (jsb_c rfl (jsb_c rfl (jsb_c rfl (jsb_c rfl (jsb_c rfl (jsb_c rfl (jsb_c rfl jsb_n)))))))))) (k171 l1 l2 l3 l4 l5 l7 l8 l9 1 g0 g1 g2 g3 g4 u2 u5 g7 u3 u4 h (by omega) (jr_of rfl (by omega)) (jr_of rfl (by omega)) (jr_of rfl (by omega)) (jr_of rfl (by omega)) (jr_of rfl (by omega)) (jr_of rfl (by omega)) (jr_of rfl (by omega)) (jr_mod rfl (by omega)) (jr_of rfl (by omega)) (jr_of jk_1 (by omega)) (jr_of rfl (by omega)) (jr_of rfl (by omega)) (jr_of rfl (by omega)) (jr_of rfl (by omega)) (jr_of rfl (by omega)) (jr_of rfl (by omega)) (jr_of rfl (by omega)) (jr_of rfl (by omega)) (jr_of rfl (by omega)) (jr_of rfl (by omega)) (by have := jk_1; omega) (by omega) (by omega) (by omega) (jmc S1 rfl z0) (jmc S1 rfl z1) (jmc S1 rfl z2) (jmc S1 rfl z3) (jmc S1 rfl z4) qu2 qu5 (jmc S1 rfl z7) qu3 qu4 J Sm (by rw [jk_1]; exact D))
set_option maxRecDepth 100000 in
set_option maxHeartbeats 4000000 in
theorem ct_X12_line_r125d_300222 {Dy : jH → Prop} {h0 : jH} {Q : Option Value → jH → Prop} {dr : (Int × jW)} {K171 : Int → Int → Int → Int → Int → Int → Int → Int → Int → jW → (Int × jW)} {R171 : Int} (hD : jDk Dy) (hQ : ∀ (v : Int32) hx9, jJ jSgM Dy hx9 → jSm fp_X12_line_r125d h0 hx9 → ∀ u0 u1 u2 u3 u4 : Int32, jiv hx9 126 (16 : Int32).toNatClampNeg = u0 → jiv hx9 126 (0 : Int32).toNatClampNeg = u1 → jiv hx9 126 (4 : Int32).toNatClampNeg = u2 → jiv hx9 126 (5 : Int32).toNatClampNeg = u3 → jiv hx9 126 (7 : Int32).toNatClampNeg = u4 → u0.toInt = u1.toInt + u2.toInt + u3.toInt + u4.toInt → dr.1 = v.toInt → dr.2 = vw hx9 → Q (some (.int v)) hx9) (k171 : ∀ (l1 : Int32) (l2 : Int32) (l3 : Int32) (l4 : Int32) (l5 : Int32) (l7 : Int32) (l8 : Int32) (l9 : Int32) (l10 : Int32) (g0 : Int32) (g1 : Int32) (g2 : Int32) (g3 : Int32) (g4 : Int32) (g5 : Int32) (g6 : Int32) (g7 : Int32) (g8 : Int32) (g9 : Int32) (h : jH), 3 - l9.toInt < R171 → 0 ≤ l1.toInt ∧ l1.toInt ≤ 5 → 0 ≤ l2.toInt ∧ l2.toInt ≤ 15 → 0 ≤ l3.toInt ∧ l3.toInt ≤ 146399 → 0 ≤ l4.toInt ∧ l4.toInt ≤ 146399 → (-1) ≤ l5.toInt ∧ l5.toInt ≤ 100000 → 0 ≤ l7.toInt ∧ l7.toInt ≤ 199 → 20 ≤ l8.toInt ∧ l8.toInt ≤ 17930 → l8.toInt % 90 = 20 → 0 ≤ l9.toInt ∧ l9.toInt ≤ 3 → 0 ≤ l10.toInt ∧ l10.toInt ≤ 1 → 0 ≤ g0.toInt ∧ g0.toInt ≤ 199 → 0 ≤ g1.toInt ∧ g1.toInt ≤ 369 → 0 ≤ g2.toInt ∧ g2.toInt ≤ 30 → 0 ≤ g3.toInt ∧ g3.toInt ≤ 100 → 0 ≤ g4.toInt ∧ g4.toInt ≤ 40 → 0 ≤ g5.toInt ∧ g5.toInt ≤ 400 → 0 ≤ g6.toInt ∧ g6.toInt ≤ 3 → 0 ≤ g7.toInt ∧ g7.toInt ≤ 1 → 0 ≤ g8.toInt ∧ g8.toInt ≤ 400 → 0 ≤ g9.toInt ∧ g9.toInt ≤ 400 → (l10.toInt = 0 ∨ g7.toInt ≠ 0 ∨ l9.toInt ≤ 2) → g1.toInt = g0.toInt + g2.toInt + g3.toInt + g4.toInt → (g5.toInt ≤ g8.toInt ∧ g9.toInt ≤ g5.toInt) → (g6.toInt = 0 ∨ g9.toInt + 1 ≤ g5.toInt) → jiv h 126 (0 : Int32).toNatClampNeg = g0 → jiv h 126 (16 : Int32).toNatClampNeg = g1 → jiv h 126 (4 : Int32).toNatClampNeg = g2 → jiv h 126 (5 : Int32).toNatClampNeg = g3 → jiv h 126 (7 : Int32).toNatClampNeg = g4 → jiv h 125 10 = g5 → jiv h 125 11 = g6 → jiv h 125 14 = g7 → jiv h 125 8 = g8 → jiv h 125 9 = g9 → jJ jSgM Dy h → jSm fp_X12_line_r125d h0 h → K171 l1.toInt l2.toInt l3.toInt l4.toInt l5.toInt l7.toInt l8.toInt l9.toInt l10.toInt (vw h) = dr → jX m_X12_line 6 0 0 171 [(0, .ref 125), (1, .int l1), (2, .int l2), (3, .int l3), (4, .int l4), (5, .int l5), (7, .int l7), (8, .int l8), (9, .int l9), (10, .int l10)] [] h 0 0 Q) : ∀ (l1 : Int32) (l2 : Int32) (l3 : Int32) (l4 : Int32) (l5 : Int32) (l7 : Int32) (l8 : Int32) (l9 : Int32) (g0 : Int32) (g1 : Int32) (g2 : Int32) (g3 : Int32) (g4 : Int32) (g5 : Int32) (g6 : Int32) (g7 : Int32) (g8 : Int32) (g9 : Int32) (h : jH), 0 ≤ l1.toInt ∧ l1.toInt ≤ 5 → 0 ≤ l2.toInt ∧ l2.toInt ≤ 15 → 0 ≤ l3.toInt ∧ l3.toInt ≤ 146399 → 0 ≤ l4.toInt ∧ l4.toInt ≤ 146399 → (-1) ≤ l5.toInt ∧ l5.toInt ≤ 100000 → 0 ≤ l7.toInt ∧ l7.toInt ≤ 199 → 20 ≤ l8.toInt ∧ l8.toInt ≤ 17930 → l8.toInt % 90 = 20 → 1 ≤ l9.toInt ∧ l9.toInt ≤ 3 → 0 ≤ g0.toInt ∧ g0.toInt ≤ 199 → 0 ≤ g1.toInt ∧ g1.toInt ≤ 369 → 0 ≤ g2.toInt ∧ g2.toInt ≤ 30 → 0 ≤ g3.toInt ∧ g3.toInt ≤ 100 → 0 ≤ g4.toInt ∧ g4.toInt ≤ 40 → 0 ≤ g5.toInt ∧ g5.toInt ≤ 400 → 3 ≤ g6.toInt ∧ g6.toInt ≤ 3 → 0 ≤ g7.toInt ∧ g7.toInt ≤ 0 → 0 ≤ g8.toInt ∧ g8.toInt ≤ 400 → 0 ≤ g9.toInt ∧ g9.toInt ≤ 400 → g1.toInt = g0.toInt + g2.toInt + g3.toInt + g4.toInt → (g5.toInt ≤ g8.toInt ∧ g9.toInt ≤ g5.toInt) → (g6.toInt = 0 ∨ g9.toInt + 1 ≤ g5.toInt) → jiv h 126 (0 : Int32).toNatClampNeg = g0 → jiv h 126 (16 : Int32).toNatClampNeg = g1 → jiv h 126 (4 : Int32).toNatClampNeg = g2 → jiv h 126 (5 : Int32).toNatClampNeg = g3 → jiv h 126 (7 : Int32).toNatClampNeg = g4 → jiv h 125 10 = g5 → jiv h 125 11 = g6 → jiv h 125 14 = g7 → jiv h 125 8 = g8 → jiv h 125 9 = g9 → 3 - l9.toInt < R171 → jJ jSgM Dy h → jSm fp_X12_line_r125d h0 h → d_X12_line_r125d_300222 K171  l1.toInt l2.toInt l3.toInt l4.toInt l5.toInt l7.toInt l8.toInt l9.toInt (vw h) = dr → jX m_X12_line 6 0 0 222 [(0, .ref 125), (1, .int l1), (2, .int l2), (3, .int l3), (4, .int l4), (5, .int l5), (7, .int l7), (8, .int l8), (9, .int l9)] [.int 1] h 0 0 Q := by
  intro l1 l2 l3 l4 l5 l7 l8 l9 g0 g1 g2 g3 g4 g5 g6 g7 g8 g9 h y0 y1 y2 y3 y4 y5 y6 y7 y8 y9 y10 y11 y12 y13 y14 y15 y16 y17 y18 y19 y20 y21 z0 z1 z2 z3 z4 z5 z6 z7 z8 z9 m171 J Sm D
  unfold d_X12_line_r125d_300222 at D
  try rw [vrn (n := 0) (by decide) z0] at D
  try rw [vrn (n := 16) (by decide) z1] at D
  try rw [vrn (n := 4) (by decide) z2] at D
  try rw [vrn (n := 5) (by decide) z3] at D
  try rw [vrn (n := 7) (by decide) z4] at D
  try rw [vrf z5] at D
  try rw [vrf z6] at D
  try rw [vrf z7] at D
  try rw [vrf z8] at D
  try rw [vrf z9] at D
  refine x_istore (lsx9 := [(10, .int 1), (0, .ref 125), (1, .int l1), (2, .int l2), (3, .int l3), (4, .int l4), (5, .int l5), (7, .int l7), (8, .int l8), (9, .int l9)]) rfl rfl rfl ?_
  refine x_iload (x := 1) rfl rfl ?_
  refine x_ifeq (tgt := 171) rfl rfl (ti_eq jk_1 jk_0 (br_f (by omega) ?_))
  refine x_aloadn (x := 125) rfl rfl ?_
  refine x_iload (x := l9) rfl rfl ?_
  refine x_iloadn (x := l1) rfl rfl ?_
  refine x_inst (N := m_X12_rolesOf) (As := [.int l1]) (st := [.int l9, .ref 125]) (dx9 := 5) (mc := 0) (ms := 0) (host := "") rfl t_X12_rolesOf ⟨Or.inl q_12_286, s_X12_rolesOf⟩ rfl (by decide) rfl rfl ⟨by decide, by decide⟩ (jC.of rfl k_X12_rolesOf rfl ?_)
  show jX m_X12_rolesOf 5 0 0 0 [(0, .int l1)] [] _ 0 0 _
  refine x_iloadn (x := l1) rfl rfl ?_
  refine x_ifne (tgt := 8) rfl rfl (ti_ne rfl jk_0 ⟨fun c1 => ?_, fun c1 => ?_⟩)
  ·
    rw [if_neg (by omega)] at D
    refine x_iloadn (x := l1) rfl rfl ?_
    refine x_iconst (v := 1) rfl ki_1 ?_
    refine x_icne (tgt := 17) rfl rfl (ti_ne rfl jk_1 ⟨fun c2 => ?_, fun c2 => ?_⟩)
    ·
      rw [if_neg (by omega)] at D
      refine x_iconst (v := 1) rfl ki_1 ?_
      refine x_iret rfl rfl ?_
      show jX m_X12_line 6 0 0 236 [(10, .int 1), (0, .ref 125), (1, .int l1), (2, .int l2), (3, .int l3), (4, .int l4), (5, .int l5), (7, .int l7), (8, .int l8), (9, .int l9)] [.int 1, .int l9, .ref 125] _ 0 0 _
      refine x_icge (tgt := 243) rfl rfl (ti_ge rfl jk_1 (br_t (by omega) ?_))
      refine x_iconst (v := 0) rfl ki_0 ?_
      exact jX.sub (jsb_c rfl (jsb_c rfl (jsb_c rfl (jsb_c rfl (jsb_c rfl (jsb_c rfl (jsb_c rfl (jsb_c rfl (jsb_c rfl (jsb_c rfl jsb_n)))))))))) (ct_X12_line_r125d_200244 hD hQ k171 l1 l2 l3 l4 l5 l7 l8 l9 g0 g1 g2 g3 g4 g5 g6 g7 g8 g9 h (jr_of rfl (by omega)) (jr_of rfl (by omega)) (jr_of rfl (by omega)) (jr_of rfl (by omega)) (jr_of rfl (by omega)) (jr_of rfl (by omega)) (jr_of rfl (by omega)) (jr_mod rfl (by omega)) (jr_of rfl (by omega)) (jr_of rfl (by omega)) (jr_of rfl (by omega)) (jr_of rfl (by omega)) (jr_of rfl (by omega)) (jr_of rfl (by omega)) (jr_of rfl (by omega)) (jr_of rfl (by omega)) (jr_of rfl (by omega)) (jr_of rfl (by omega)) (jr_of rfl (by omega)) (by omega) (by omega) (by omega) z0 z1 z2 z3 z4 z5 z6 z7 z8 z9 (by omega) J Sm D)
    ·
      rw [if_pos (by omega)] at D
      refine x_iconst (v := 2) rfl ki_2 ?_
      refine x_goto (tgt := 18) rfl rfl ?_
      refine x_iret rfl rfl ?_
      show jX m_X12_line 6 0 0 236 [(10, .int 1), (0, .ref 125), (1, .int l1), (2, .int l2), (3, .int l3), (4, .int l4), (5, .int l5), (7, .int l7), (8, .int l8), (9, .int l9)] [.int 2, .int l9, .ref 125] _ 0 0 _
      refine x_icge (tgt := 243) rfl rfl (ti_ge rfl jk_2 ⟨fun c3 => ?_, fun c3 => ?_⟩)
      ·
        rw [if_pos (by omega)] at D
        refine x_iconst (v := 0) rfl ki_0 ?_
        exact jX.sub (jsb_c rfl (jsb_c rfl (jsb_c rfl (jsb_c rfl (jsb_c rfl (jsb_c rfl (jsb_c rfl (jsb_c rfl (jsb_c rfl (jsb_c rfl jsb_n)))))))))) (ct_X12_line_r125d_200244 hD hQ k171 l1 l2 l3 l4 l5 l7 l8 l9 g0 g1 g2 g3 g4 g5 g6 g7 g8 g9 h (jr_of rfl (by omega)) (jr_of rfl (by omega)) (jr_of rfl (by omega)) (jr_of rfl (by omega)) (jr_of rfl (by omega)) (jr_of rfl (by omega)) (jr_of rfl (by omega)) (jr_mod rfl (by omega)) (jr_of rfl (by omega)) (jr_of rfl (by omega)) (jr_of rfl (by omega)) (jr_of rfl (by omega)) (jr_of rfl (by omega)) (jr_of rfl (by omega)) (jr_of rfl (by omega)) (jr_of rfl (by omega)) (jr_of rfl (by omega)) (jr_of rfl (by omega)) (jr_of rfl (by omega)) (by omega) (by omega) (by omega) z0 z1 z2 z3 z4 z5 z6 z7 z8 z9 (by omega) J Sm D)
      ·
        rw [if_neg (by omega)] at D
        refine x_iconst (v := 1) rfl ki_1 ?_
        refine x_goto (tgt := 244) rfl rfl ?_
        exact jX.sub (jsb_c rfl (jsb_c rfl (jsb_c rfl (jsb_c rfl (jsb_c rfl (jsb_c rfl (jsb_c rfl (jsb_c rfl (jsb_c rfl (jsb_c rfl jsb_n)))))))))) (ct_X12_line_r125d_300244 hD hQ k171 l1 l2 l3 l4 l5 l7 l8 l9 g0 g1 g2 g3 g4 g5 g6 g7 g8 g9 h (jr_of rfl (by omega)) (jr_of rfl (by omega)) (jr_of rfl (by omega)) (jr_of rfl (by omega)) (jr_of rfl (by omega)) (jr_of rfl (by omega)) (jr_of rfl (by omega)) (jr_mod rfl (by omega)) (jr_of rfl (by omega)) (jr_of rfl (by omega)) (jr_of rfl (by omega)) (jr_of rfl (by omega)) (jr_of rfl (by omega)) (jr_of rfl (by omega)) (jr_of rfl (by omega)) (jr_of rfl (by omega)) (jr_of rfl (by omega)) (jr_of rfl (by omega)) (jr_of rfl (by omega)) (by omega) (by omega) (by omega) z0 z1 z2 z3 z4 z5 z6 z7 z8 z9 (by omega) J Sm D)
  ·
    rw [if_pos (by omega)] at D
    refine x_iconst (v := 3) rfl ki_3 ?_
    refine x_goto (tgt := 18) rfl rfl ?_
    refine x_iret rfl rfl ?_
    show jX m_X12_line 6 0 0 236 [(10, .int 1), (0, .ref 125), (1, .int l1), (2, .int l2), (3, .int l3), (4, .int l4), (5, .int l5), (7, .int l7), (8, .int l8), (9, .int l9)] [.int 3, .int l9, .ref 125] _ 0 0 _
    refine x_icge (tgt := 243) rfl rfl (ti_ge rfl jk_3 ⟨fun c4 => ?_, fun c4 => ?_⟩)
    ·
      rw [if_pos (by omega)] at D
      refine x_iconst (v := 0) rfl ki_0 ?_
      exact jX.sub (jsb_c rfl (jsb_c rfl (jsb_c rfl (jsb_c rfl (jsb_c rfl (jsb_c rfl (jsb_c rfl (jsb_c rfl (jsb_c rfl (jsb_c rfl jsb_n)))))))))) (ct_X12_line_r125d_200244 hD hQ k171 l1 l2 l3 l4 l5 l7 l8 l9 g0 g1 g2 g3 g4 g5 g6 g7 g8 g9 h (jr_of rfl (by omega)) (jr_of rfl (by omega)) (jr_of rfl (by omega)) (jr_of rfl (by omega)) (jr_of rfl (by omega)) (jr_of rfl (by omega)) (jr_of rfl (by omega)) (jr_mod rfl (by omega)) (jr_of rfl (by omega)) (jr_of rfl (by omega)) (jr_of rfl (by omega)) (jr_of rfl (by omega)) (jr_of rfl (by omega)) (jr_of rfl (by omega)) (jr_of rfl (by omega)) (jr_of rfl (by omega)) (jr_of rfl (by omega)) (jr_of rfl (by omega)) (jr_of rfl (by omega)) (by omega) (by omega) (by omega) z0 z1 z2 z3 z4 z5 z6 z7 z8 z9 (by omega) J Sm D)
    ·
      rw [if_neg (by omega)] at D
      refine x_iconst (v := 1) rfl ki_1 ?_
      refine x_goto (tgt := 244) rfl rfl ?_
      exact jX.sub (jsb_c rfl (jsb_c rfl (jsb_c rfl (jsb_c rfl (jsb_c rfl (jsb_c rfl (jsb_c rfl (jsb_c rfl (jsb_c rfl (jsb_c rfl jsb_n)))))))))) (ct_X12_line_r125d_300244 hD hQ k171 l1 l2 l3 l4 l5 l7 l8 l9 g0 g1 g2 g3 g4 g5 g6 g7 g8 g9 h (jr_of rfl (by omega)) (jr_of rfl (by omega)) (jr_of rfl (by omega)) (jr_of rfl (by omega)) (jr_of rfl (by omega)) (jr_of rfl (by omega)) (jr_of rfl (by omega)) (jr_mod rfl (by omega)) (jr_of rfl (by omega)) (jr_of rfl (by omega)) (jr_of rfl (by omega)) (jr_of rfl (by omega)) (jr_of rfl (by omega)) (jr_of rfl (by omega)) (jr_of rfl (by omega)) (jr_of rfl (by omega)) (jr_of rfl (by omega)) (jr_of rfl (by omega)) (jr_of rfl (by omega)) (by omega) (by omega) (by omega) z0 z1 z2 z3 z4 z5 z6 z7 z8 z9 (by omega) J Sm D)
set_option maxRecDepth 100000 in
set_option maxHeartbeats 4000000 in
theorem ct_X12_line_r125d_200222 {Dy : jH → Prop} {h0 : jH} {Q : Option Value → jH → Prop} {dr : (Int × jW)} {K171 : Int → Int → Int → Int → Int → Int → Int → Int → Int → jW → (Int × jW)} {R171 : Int} (hD : jDk Dy) (hQ : ∀ (v : Int32) hx9, jJ jSgM Dy hx9 → jSm fp_X12_line_r125d h0 hx9 → ∀ u0 u1 u2 u3 u4 : Int32, jiv hx9 126 (16 : Int32).toNatClampNeg = u0 → jiv hx9 126 (0 : Int32).toNatClampNeg = u1 → jiv hx9 126 (4 : Int32).toNatClampNeg = u2 → jiv hx9 126 (5 : Int32).toNatClampNeg = u3 → jiv hx9 126 (7 : Int32).toNatClampNeg = u4 → u0.toInt = u1.toInt + u2.toInt + u3.toInt + u4.toInt → dr.1 = v.toInt → dr.2 = vw hx9 → Q (some (.int v)) hx9) (k171 : ∀ (l1 : Int32) (l2 : Int32) (l3 : Int32) (l4 : Int32) (l5 : Int32) (l7 : Int32) (l8 : Int32) (l9 : Int32) (l10 : Int32) (g0 : Int32) (g1 : Int32) (g2 : Int32) (g3 : Int32) (g4 : Int32) (g5 : Int32) (g6 : Int32) (g7 : Int32) (g8 : Int32) (g9 : Int32) (h : jH), 3 - l9.toInt < R171 → 0 ≤ l1.toInt ∧ l1.toInt ≤ 5 → 0 ≤ l2.toInt ∧ l2.toInt ≤ 15 → 0 ≤ l3.toInt ∧ l3.toInt ≤ 146399 → 0 ≤ l4.toInt ∧ l4.toInt ≤ 146399 → (-1) ≤ l5.toInt ∧ l5.toInt ≤ 100000 → 0 ≤ l7.toInt ∧ l7.toInt ≤ 199 → 20 ≤ l8.toInt ∧ l8.toInt ≤ 17930 → l8.toInt % 90 = 20 → 0 ≤ l9.toInt ∧ l9.toInt ≤ 3 → 0 ≤ l10.toInt ∧ l10.toInt ≤ 1 → 0 ≤ g0.toInt ∧ g0.toInt ≤ 199 → 0 ≤ g1.toInt ∧ g1.toInt ≤ 369 → 0 ≤ g2.toInt ∧ g2.toInt ≤ 30 → 0 ≤ g3.toInt ∧ g3.toInt ≤ 100 → 0 ≤ g4.toInt ∧ g4.toInt ≤ 40 → 0 ≤ g5.toInt ∧ g5.toInt ≤ 400 → 0 ≤ g6.toInt ∧ g6.toInt ≤ 3 → 0 ≤ g7.toInt ∧ g7.toInt ≤ 1 → 0 ≤ g8.toInt ∧ g8.toInt ≤ 400 → 0 ≤ g9.toInt ∧ g9.toInt ≤ 400 → (l10.toInt = 0 ∨ g7.toInt ≠ 0 ∨ l9.toInt ≤ 2) → g1.toInt = g0.toInt + g2.toInt + g3.toInt + g4.toInt → (g5.toInt ≤ g8.toInt ∧ g9.toInt ≤ g5.toInt) → (g6.toInt = 0 ∨ g9.toInt + 1 ≤ g5.toInt) → jiv h 126 (0 : Int32).toNatClampNeg = g0 → jiv h 126 (16 : Int32).toNatClampNeg = g1 → jiv h 126 (4 : Int32).toNatClampNeg = g2 → jiv h 126 (5 : Int32).toNatClampNeg = g3 → jiv h 126 (7 : Int32).toNatClampNeg = g4 → jiv h 125 10 = g5 → jiv h 125 11 = g6 → jiv h 125 14 = g7 → jiv h 125 8 = g8 → jiv h 125 9 = g9 → jJ jSgM Dy h → jSm fp_X12_line_r125d h0 h → K171 l1.toInt l2.toInt l3.toInt l4.toInt l5.toInt l7.toInt l8.toInt l9.toInt l10.toInt (vw h) = dr → jX m_X12_line 6 0 0 171 [(0, .ref 125), (1, .int l1), (2, .int l2), (3, .int l3), (4, .int l4), (5, .int l5), (7, .int l7), (8, .int l8), (9, .int l9), (10, .int l10)] [] h 0 0 Q) : ∀ (l1 : Int32) (l2 : Int32) (l3 : Int32) (l4 : Int32) (l5 : Int32) (l7 : Int32) (l8 : Int32) (l9 : Int32) (g0 : Int32) (g1 : Int32) (g2 : Int32) (g3 : Int32) (g4 : Int32) (g5 : Int32) (g6 : Int32) (g7 : Int32) (g8 : Int32) (g9 : Int32) (h : jH), 0 ≤ l1.toInt ∧ l1.toInt ≤ 5 → 0 ≤ l2.toInt ∧ l2.toInt ≤ 15 → 0 ≤ l3.toInt ∧ l3.toInt ≤ 146399 → 0 ≤ l4.toInt ∧ l4.toInt ≤ 146399 → (-1) ≤ l5.toInt ∧ l5.toInt ≤ 100000 → 0 ≤ l7.toInt ∧ l7.toInt ≤ 199 → 20 ≤ l8.toInt ∧ l8.toInt ≤ 17930 → l8.toInt % 90 = 20 → 1 ≤ l9.toInt ∧ l9.toInt ≤ 3 → 0 ≤ g0.toInt ∧ g0.toInt ≤ 199 → 0 ≤ g1.toInt ∧ g1.toInt ≤ 369 → 0 ≤ g2.toInt ∧ g2.toInt ≤ 30 → 0 ≤ g3.toInt ∧ g3.toInt ≤ 100 → 0 ≤ g4.toInt ∧ g4.toInt ≤ 40 → 0 ≤ g5.toInt ∧ g5.toInt ≤ 400 → 0 ≤ g6.toInt ∧ g6.toInt ≤ 3 → 0 ≤ g7.toInt ∧ g7.toInt ≤ 1 → 0 ≤ g8.toInt ∧ g8.toInt ≤ 400 → 0 ≤ g9.toInt ∧ g9.toInt ≤ 400 → g1.toInt = g0.toInt + g2.toInt + g3.toInt + g4.toInt → (g5.toInt ≤ g8.toInt ∧ g9.toInt ≤ g5.toInt) → (g6.toInt = 0 ∨ g9.toInt + 1 ≤ g5.toInt) → jiv h 126 (0 : Int32).toNatClampNeg = g0 → jiv h 126 (16 : Int32).toNatClampNeg = g1 → jiv h 126 (4 : Int32).toNatClampNeg = g2 → jiv h 126 (5 : Int32).toNatClampNeg = g3 → jiv h 126 (7 : Int32).toNatClampNeg = g4 → jiv h 125 10 = g5 → jiv h 125 11 = g6 → jiv h 125 14 = g7 → jiv h 125 8 = g8 → jiv h 125 9 = g9 → 3 - l9.toInt < R171 → jJ jSgM Dy h → jSm fp_X12_line_r125d h0 h → d_X12_line_r125d_200222 K171  l1.toInt l2.toInt l3.toInt l4.toInt l5.toInt l7.toInt l8.toInt l9.toInt (vw h) = dr → jX m_X12_line 6 0 0 222 [(0, .ref 125), (1, .int l1), (2, .int l2), (3, .int l3), (4, .int l4), (5, .int l5), (7, .int l7), (8, .int l8), (9, .int l9)] [.int 0] h 0 0 Q := by
  intro l1 l2 l3 l4 l5 l7 l8 l9 g0 g1 g2 g3 g4 g5 g6 g7 g8 g9 h y0 y1 y2 y3 y4 y5 y6 y7 y8 y9 y10 y11 y12 y13 y14 y15 y16 y17 y18 y19 y20 y21 z0 z1 z2 z3 z4 z5 z6 z7 z8 z9 m171 J Sm D
  unfold d_X12_line_r125d_200222 at D
  try rw [vrn (n := 0) (by decide) z0] at D
  try rw [vrn (n := 16) (by decide) z1] at D
  try rw [vrn (n := 4) (by decide) z2] at D
  try rw [vrn (n := 5) (by decide) z3] at D
  try rw [vrn (n := 7) (by decide) z4] at D
  try rw [vrf z5] at D
  try rw [vrf z6] at D
  try rw [vrf z7] at D
  try rw [vrf z8] at D
  try rw [vrf z9] at D
  refine x_istore (lsx9 := [(10, .int 0), (0, .ref 125), (1, .int l1), (2, .int l2), (3, .int l3), (4, .int l4), (5, .int l5), (7, .int l7), (8, .int l8), (9, .int l9)]) rfl rfl rfl ?_
  refine x_iload (x := 0) rfl rfl ?_
  refine x_ifeq (tgt := 171) rfl rfl (ti_eq jk_0 jk_0 (br_t (by omega) ?_))
  exact jX.sub (jsb_c rfl (jsb_c rfl (jsb_c rfl (jsb_c rfl (jsb_c rfl (jsb_c rfl (jsb_c rfl (jsb_c rfl (jsb_c rfl (jsb_c rfl jsb_n)))))))))) (k171 l1 l2 l3 l4 l5 l7 l8 l9 0 g0 g1 g2 g3 g4 g5 g6 g7 g8 g9 h (by omega) (jr_of rfl (by omega)) (jr_of rfl (by omega)) (jr_of rfl (by omega)) (jr_of rfl (by omega)) (jr_of rfl (by omega)) (jr_of rfl (by omega)) (jr_of rfl (by omega)) (jr_mod rfl (by omega)) (jr_of rfl (by omega)) (jr_of jk_0 (by omega)) (jr_of rfl (by omega)) (jr_of rfl (by omega)) (jr_of rfl (by omega)) (jr_of rfl (by omega)) (jr_of rfl (by omega)) (jr_of rfl (by omega)) (jr_of rfl (by omega)) (jr_of rfl (by omega)) (jr_of rfl (by omega)) (jr_of rfl (by omega)) (by have := jk_0; omega) (by omega) (by omega) (by omega) z0 z1 z2 z3 z4 z5 z6 z7 z8 z9 J Sm (by rw [jk_0]; exact D))
set_option maxRecDepth 100000 in
set_option maxHeartbeats 4000000 in
theorem ct_X12_line_r125d_221 {Dy : jH → Prop} {h0 : jH} {Q : Option Value → jH → Prop} {dr : (Int × jW)} {K171 : Int → Int → Int → Int → Int → Int → Int → Int → Int → jW → (Int × jW)} {R171 : Int} (hD : jDk Dy) (hQ : ∀ (v : Int32) hx9, jJ jSgM Dy hx9 → jSm fp_X12_line_r125d h0 hx9 → ∀ u0 u1 u2 u3 u4 : Int32, jiv hx9 126 (16 : Int32).toNatClampNeg = u0 → jiv hx9 126 (0 : Int32).toNatClampNeg = u1 → jiv hx9 126 (4 : Int32).toNatClampNeg = u2 → jiv hx9 126 (5 : Int32).toNatClampNeg = u3 → jiv hx9 126 (7 : Int32).toNatClampNeg = u4 → u0.toInt = u1.toInt + u2.toInt + u3.toInt + u4.toInt → dr.1 = v.toInt → dr.2 = vw hx9 → Q (some (.int v)) hx9) (k171 : ∀ (l1 : Int32) (l2 : Int32) (l3 : Int32) (l4 : Int32) (l5 : Int32) (l7 : Int32) (l8 : Int32) (l9 : Int32) (l10 : Int32) (g0 : Int32) (g1 : Int32) (g2 : Int32) (g3 : Int32) (g4 : Int32) (g5 : Int32) (g6 : Int32) (g7 : Int32) (g8 : Int32) (g9 : Int32) (h : jH), 3 - l9.toInt < R171 → 0 ≤ l1.toInt ∧ l1.toInt ≤ 5 → 0 ≤ l2.toInt ∧ l2.toInt ≤ 15 → 0 ≤ l3.toInt ∧ l3.toInt ≤ 146399 → 0 ≤ l4.toInt ∧ l4.toInt ≤ 146399 → (-1) ≤ l5.toInt ∧ l5.toInt ≤ 100000 → 0 ≤ l7.toInt ∧ l7.toInt ≤ 199 → 20 ≤ l8.toInt ∧ l8.toInt ≤ 17930 → l8.toInt % 90 = 20 → 0 ≤ l9.toInt ∧ l9.toInt ≤ 3 → 0 ≤ l10.toInt ∧ l10.toInt ≤ 1 → 0 ≤ g0.toInt ∧ g0.toInt ≤ 199 → 0 ≤ g1.toInt ∧ g1.toInt ≤ 369 → 0 ≤ g2.toInt ∧ g2.toInt ≤ 30 → 0 ≤ g3.toInt ∧ g3.toInt ≤ 100 → 0 ≤ g4.toInt ∧ g4.toInt ≤ 40 → 0 ≤ g5.toInt ∧ g5.toInt ≤ 400 → 0 ≤ g6.toInt ∧ g6.toInt ≤ 3 → 0 ≤ g7.toInt ∧ g7.toInt ≤ 1 → 0 ≤ g8.toInt ∧ g8.toInt ≤ 400 → 0 ≤ g9.toInt ∧ g9.toInt ≤ 400 → (l10.toInt = 0 ∨ g7.toInt ≠ 0 ∨ l9.toInt ≤ 2) → g1.toInt = g0.toInt + g2.toInt + g3.toInt + g4.toInt → (g5.toInt ≤ g8.toInt ∧ g9.toInt ≤ g5.toInt) → (g6.toInt = 0 ∨ g9.toInt + 1 ≤ g5.toInt) → jiv h 126 (0 : Int32).toNatClampNeg = g0 → jiv h 126 (16 : Int32).toNatClampNeg = g1 → jiv h 126 (4 : Int32).toNatClampNeg = g2 → jiv h 126 (5 : Int32).toNatClampNeg = g3 → jiv h 126 (7 : Int32).toNatClampNeg = g4 → jiv h 125 10 = g5 → jiv h 125 11 = g6 → jiv h 125 14 = g7 → jiv h 125 8 = g8 → jiv h 125 9 = g9 → jJ jSgM Dy h → jSm fp_X12_line_r125d h0 h → K171 l1.toInt l2.toInt l3.toInt l4.toInt l5.toInt l7.toInt l8.toInt l9.toInt l10.toInt (vw h) = dr → jX m_X12_line 6 0 0 171 [(0, .ref 125), (1, .int l1), (2, .int l2), (3, .int l3), (4, .int l4), (5, .int l5), (7, .int l7), (8, .int l8), (9, .int l9), (10, .int l10)] [] h 0 0 Q) : ∀ (l1 : Int32) (l2 : Int32) (l3 : Int32) (l4 : Int32) (l5 : Int32) (l7 : Int32) (l8 : Int32) (l9 : Int32) (g0 : Int32) (g1 : Int32) (g2 : Int32) (g3 : Int32) (g4 : Int32) (g5 : Int32) (g6 : Int32) (g7 : Int32) (g8 : Int32) (g9 : Int32) (h : jH), 0 ≤ l1.toInt ∧ l1.toInt ≤ 5 → 0 ≤ l2.toInt ∧ l2.toInt ≤ 15 → 0 ≤ l3.toInt ∧ l3.toInt ≤ 146399 → 0 ≤ l4.toInt ∧ l4.toInt ≤ 146399 → (-1) ≤ l5.toInt ∧ l5.toInt ≤ 100000 → 0 ≤ l7.toInt ∧ l7.toInt ≤ 199 → 20 ≤ l8.toInt ∧ l8.toInt ≤ 17930 → l8.toInt % 90 = 20 → 1 ≤ l9.toInt ∧ l9.toInt ≤ 3 → 0 ≤ g0.toInt ∧ g0.toInt ≤ 199 → 0 ≤ g1.toInt ∧ g1.toInt ≤ 369 → 0 ≤ g2.toInt ∧ g2.toInt ≤ 30 → 0 ≤ g3.toInt ∧ g3.toInt ≤ 100 → 0 ≤ g4.toInt ∧ g4.toInt ≤ 40 → 0 ≤ g5.toInt ∧ g5.toInt ≤ 400 → 0 ≤ g6.toInt ∧ g6.toInt ≤ 3 → 0 ≤ g7.toInt ∧ g7.toInt ≤ 1 → 0 ≤ g8.toInt ∧ g8.toInt ≤ 400 → 0 ≤ g9.toInt ∧ g9.toInt ≤ 400 → g1.toInt = g0.toInt + g2.toInt + g3.toInt + g4.toInt → (g5.toInt ≤ g8.toInt ∧ g9.toInt ≤ g5.toInt) → (g6.toInt = 0 ∨ g9.toInt + 1 ≤ g5.toInt) → jiv h 126 (0 : Int32).toNatClampNeg = g0 → jiv h 126 (16 : Int32).toNatClampNeg = g1 → jiv h 126 (4 : Int32).toNatClampNeg = g2 → jiv h 126 (5 : Int32).toNatClampNeg = g3 → jiv h 126 (7 : Int32).toNatClampNeg = g4 → jiv h 125 10 = g5 → jiv h 125 11 = g6 → jiv h 125 14 = g7 → jiv h 125 8 = g8 → jiv h 125 9 = g9 → 3 - l9.toInt < R171 → jJ jSgM Dy h → jSm fp_X12_line_r125d h0 h → d_X12_line_r125d_221 K171  l1.toInt l2.toInt l3.toInt l4.toInt l5.toInt l7.toInt l8.toInt l9.toInt (vw h) = dr → jX m_X12_line 6 0 0 221 [(0, .ref 125), (1, .int l1), (2, .int l2), (3, .int l3), (4, .int l4), (5, .int l5), (7, .int l7), (8, .int l8), (9, .int l9)] [] h 0 0 Q := by
  intro l1 l2 l3 l4 l5 l7 l8 l9 g0 g1 g2 g3 g4 g5 g6 g7 g8 g9 h y0 y1 y2 y3 y4 y5 y6 y7 y8 y9 y10 y11 y12 y13 y14 y15 y16 y17 y18 y19 y20 y21 z0 z1 z2 z3 z4 z5 z6 z7 z8 z9 m171 J Sm D
  unfold d_X12_line_r125d_221 at D
  try rw [vrn (n := 0) (by decide) z0] at D
  try rw [vrn (n := 16) (by decide) z1] at D
  try rw [vrn (n := 4) (by decide) z2] at D
  try rw [vrn (n := 5) (by decide) z3] at D
  try rw [vrn (n := 7) (by decide) z4] at D
  try rw [vrf z5] at D
  try rw [vrf z6] at D
  try rw [vrf z7] at D
  try rw [vrf z8] at D
  try rw [vrf z9] at D
  refine x_iconst (v := 0) rfl ki_0 ?_
  exact jX.sub (jsb_c rfl (jsb_c rfl (jsb_c rfl (jsb_c rfl (jsb_c rfl (jsb_c rfl (jsb_c rfl (jsb_c rfl (jsb_c rfl jsb_n))))))))) (ct_X12_line_r125d_200222 hD hQ k171 l1 l2 l3 l4 l5 l7 l8 l9 g0 g1 g2 g3 g4 g5 g6 g7 g8 g9 h (jr_of rfl (by omega)) (jr_of rfl (by omega)) (jr_of rfl (by omega)) (jr_of rfl (by omega)) (jr_of rfl (by omega)) (jr_of rfl (by omega)) (jr_of rfl (by omega)) (jr_mod rfl (by omega)) (jr_of rfl (by omega)) (jr_of rfl (by omega)) (jr_of rfl (by omega)) (jr_of rfl (by omega)) (jr_of rfl (by omega)) (jr_of rfl (by omega)) (jr_of rfl (by omega)) (jr_of rfl (by omega)) (jr_of rfl (by omega)) (jr_of rfl (by omega)) (jr_of rfl (by omega)) (by omega) (by omega) (by omega) z0 z1 z2 z3 z4 z5 z6 z7 z8 z9 (by omega) J Sm D)
set_option maxRecDepth 100000 in
set_option maxHeartbeats 4000000 in
theorem ct_X12_line_r125d_171 {Dy : jH → Prop} {h0 : jH} {Q : Option Value → jH → Prop} {dr : (Int × jW)} (hD : jDk Dy) (hQ : ∀ (v : Int32) hx9, jJ jSgM Dy hx9 → jSm fp_X12_line_r125d h0 hx9 → ∀ u0 u1 u2 u3 u4 : Int32, jiv hx9 126 (16 : Int32).toNatClampNeg = u0 → jiv hx9 126 (0 : Int32).toNatClampNeg = u1 → jiv hx9 126 (4 : Int32).toNatClampNeg = u2 → jiv hx9 126 (5 : Int32).toNatClampNeg = u3 → jiv hx9 126 (7 : Int32).toNatClampNeg = u4 → u0.toInt = u1.toInt + u2.toInt + u3.toInt + u4.toInt → dr.1 = v.toInt → dr.2 = vw hx9 → Q (some (.int v)) hx9) : ∀ r : Nat, ∀ (l1 : Int32) (l2 : Int32) (l3 : Int32) (l4 : Int32) (l5 : Int32) (l7 : Int32) (l8 : Int32) (l9 : Int32) (l10 : Int32) (g0 : Int32) (g1 : Int32) (g2 : Int32) (g3 : Int32) (g4 : Int32) (g5 : Int32) (g6 : Int32) (g7 : Int32) (g8 : Int32) (g9 : Int32) (h : jH), 3 - l9.toInt < (r : Int) → 0 ≤ l1.toInt ∧ l1.toInt ≤ 5 → 0 ≤ l2.toInt ∧ l2.toInt ≤ 15 → 0 ≤ l3.toInt ∧ l3.toInt ≤ 146399 → 0 ≤ l4.toInt ∧ l4.toInt ≤ 146399 → (-1) ≤ l5.toInt ∧ l5.toInt ≤ 100000 → 0 ≤ l7.toInt ∧ l7.toInt ≤ 199 → 20 ≤ l8.toInt ∧ l8.toInt ≤ 17930 → l8.toInt % 90 = 20 → 0 ≤ l9.toInt ∧ l9.toInt ≤ 3 → 0 ≤ l10.toInt ∧ l10.toInt ≤ 1 → 0 ≤ g0.toInt ∧ g0.toInt ≤ 199 → 0 ≤ g1.toInt ∧ g1.toInt ≤ 369 → 0 ≤ g2.toInt ∧ g2.toInt ≤ 30 → 0 ≤ g3.toInt ∧ g3.toInt ≤ 100 → 0 ≤ g4.toInt ∧ g4.toInt ≤ 40 → 0 ≤ g5.toInt ∧ g5.toInt ≤ 400 → 0 ≤ g6.toInt ∧ g6.toInt ≤ 3 → 0 ≤ g7.toInt ∧ g7.toInt ≤ 1 → 0 ≤ g8.toInt ∧ g8.toInt ≤ 400 → 0 ≤ g9.toInt ∧ g9.toInt ≤ 400 → (l10.toInt = 0 ∨ g7.toInt ≠ 0 ∨ l9.toInt ≤ 2) → g1.toInt = g0.toInt + g2.toInt + g3.toInt + g4.toInt → (g5.toInt ≤ g8.toInt ∧ g9.toInt ≤ g5.toInt) → (g6.toInt = 0 ∨ g9.toInt + 1 ≤ g5.toInt) → jiv h 126 (0 : Int32).toNatClampNeg = g0 → jiv h 126 (16 : Int32).toNatClampNeg = g1 → jiv h 126 (4 : Int32).toNatClampNeg = g2 → jiv h 126 (5 : Int32).toNatClampNeg = g3 → jiv h 126 (7 : Int32).toNatClampNeg = g4 → jiv h 125 10 = g5 → jiv h 125 11 = g6 → jiv h 125 14 = g7 → jiv h 125 8 = g8 → jiv h 125 9 = g9 → jJ jSgM Dy h → jSm fp_X12_line_r125d h0 h → d_X12_line_r125d_171 r l1.toInt l2.toInt l3.toInt l4.toInt l5.toInt l7.toInt l8.toInt l9.toInt l10.toInt (vw h) = dr → jX m_X12_line 6 0 0 171 [(0, .ref 125), (1, .int l1), (2, .int l2), (3, .int l3), (4, .int l4), (5, .int l5), (7, .int l7), (8, .int l8), (9, .int l9), (10, .int l10)] [] h 0 0 Q := by
  intro r
  induction r with
  | zero =>
    intro l1 l2 l3 l4 l5 l7 l8 l9 l10 g0 g1 g2 g3 g4 g5 g6 g7 g8 g9 h hm y0 y1 y2 y3 y4 y5 y6 y7 y8 y9 y10 y11 y12 y13 y14 y15 y16 y17 y18 y19 y20 y21 y22 y23 z0 z1 z2 z3 z4 z5 z6 z7 z8 z9  J Sm D
    exfalso
    omega
  | succ r ih =>
    intro l1 l2 l3 l4 l5 l7 l8 l9 l10 g0 g1 g2 g3 g4 g5 g6 g7 g8 g9 h hm y0 y1 y2 y3 y4 y5 y6 y7 y8 y9 y10 y11 y12 y13 y14 y15 y16 y17 y18 y19 y20 y21 y22 y23 z0 z1 z2 z3 z4 z5 z6 z7 z8 z9  J Sm D
    rw [d_X12_line_r125d_171.eq_2] at D
    try rw [vrn (n := 0) (by decide) z0] at D
    try rw [vrn (n := 16) (by decide) z1] at D
    try rw [vrn (n := 4) (by decide) z2] at D
    try rw [vrn (n := 5) (by decide) z3] at D
    try rw [vrn (n := 7) (by decide) z4] at D
    try rw [vrf z5] at D
    try rw [vrf z6] at D
    try rw [vrf z7] at D
    try rw [vrf z8] at D
    try rw [vrf z9] at D
    refine x_iload (x := l10) rfl rfl ?_
    refine x_ifeq (tgt := 250) rfl rfl (ti_eq rfl jk_0 ⟨fun c1 => ?_, fun c1 => ?_⟩)
    ·
      rw [if_pos (by omega)] at D
      exact jX.sub (jsb_c rfl (jsb_c rfl (jsb_c rfl (jsb_c rfl (jsb_c rfl (jsb_c rfl (jsb_c rfl (jsb_c rfl jsb_n)))))))) (ct_X12_line_r125d_250 hD hQ  l1 l2 l3 l4 l5 l7 l8 g0 g1 g2 g3 g4 g5 g6 g7 g8 g9 h (jr_of rfl (by omega)) (jr_of rfl (by omega)) (jr_of rfl (by omega)) (jr_of rfl (by omega)) (jr_of rfl (by omega)) (jr_of rfl (by omega)) (jr_of rfl (by omega)) (jr_mod rfl (by omega)) (jr_of rfl (by omega)) (jr_of rfl (by omega)) (jr_of rfl (by omega)) (jr_of rfl (by omega)) (jr_of rfl (by omega)) (jr_of rfl (by omega)) (jr_of rfl (by omega)) (jr_of rfl (by omega)) (jr_of rfl (by omega)) (jr_of rfl (by omega)) (by omega) (by omega) (by omega) z0 z1 z2 z3 z4 z5 z6 z7 z8 z9 J Sm D)
    ·
      rw [if_neg (by omega)] at D
      refine x_aloadn (x := 125) rfl rfl ?_
      refine z_getM (N := 92) (v := g7) 12 14 rfl f_12_214 rfl J rfl z7 ?_
      refine x_ifne (tgt := 250) rfl rfl (ti_ne rfl jk_0 ⟨fun c2 => ?_, fun c2 => ?_⟩)
      ·
        rw [if_neg (by omega)] at D
        exact jX.sub (jsb_c rfl (jsb_c rfl (jsb_c rfl (jsb_c rfl (jsb_c rfl (jsb_c rfl (jsb_c rfl (jsb_c rfl jsb_n)))))))) (ct_X12_line_r125d_250 hD hQ  l1 l2 l3 l4 l5 l7 l8 g0 g1 g2 g3 g4 g5 g6 g7 g8 g9 h (jr_of rfl (by omega)) (jr_of rfl (by omega)) (jr_of rfl (by omega)) (jr_of rfl (by omega)) (jr_of rfl (by omega)) (jr_of rfl (by omega)) (jr_of rfl (by omega)) (jr_mod rfl (by omega)) (jr_of rfl (by omega)) (jr_of rfl (by omega)) (jr_of rfl (by omega)) (jr_of rfl (by omega)) (jr_of rfl (by omega)) (jr_of rfl (by omega)) (jr_of rfl (by omega)) (jr_of rfl (by omega)) (jr_of rfl (by omega)) (jr_of rfl (by omega)) (by omega) (by omega) (by omega) z0 z1 z2 z3 z4 z5 z6 z7 z8 z9 J Sm D)
      ·
        rw [if_pos (by omega)] at D
        refine x_aloadn (x := 125) rfl rfl ?_
        refine x_iload (x := l8) rfl rfl ?_
        refine x_bipush (v := 6) rfl kb_6 ?_
        refine z_iadd rfl rfl jk_6 (by omega) (fun v3 ev3 => ?_)
        refine x_bipush (v := 28) rfl kb_28 ?_
        refine x_iload (x := l9) rfl rfl ?_
        refine z_imul rfl jk_28 rfl (by omega) (fun v4 ev4 => ?_)
        refine z_iadd rfl rfl rfl (by omega) (fun v5 ev5 => ?_)
        have rn5 := jrole (a := l8.toInt) (b := l9.toInt) (v := v5.toInt) (by omega) (by omega) (by omega)
        refine x_inv (N := m_X12_readRole) (As := [.int v5]) (b := 125) (st := []) (dx9 := 5) (mc := 0) (ms := 0) (host := "") 12 rfl t_X12_readRole ⟨Or.inl q_12_283, i_X12_readRole.1, i_X12_readRole.2⟩ ⟨by decide, rfl⟩ (congrArg Prod.fst (J.1.1 125 (12, 92) rfl)) rfl (by decide) rfl rfl ⟨by decide, by decide⟩ (jC.of rfl k_X12_readRole rfl ?_)
        show jX m_X12_readRole 5 0 0 0 [(0, .ref 125), (1, .int v5)] [] _ 0 0 _
        refine x_aloadn (x := 125) rfl rfl ?_
        refine x_bipush (v := 63) rfl kb_63 ?_
        refine x_inv (N := m_X12_isSign) (As := [.int 63]) (b := 125) (st := []) (dx9 := 4) (mc := 0) (ms := 0) (host := "") 12 rfl t_X12_isSign ⟨Or.inl q_12_257, i_X12_isSign.1, i_X12_isSign.2⟩ ⟨by decide, rfl⟩ (congrArg Prod.fst (J.1.1 125 (12, 92) rfl)) rfl (by decide) rfl rfl ⟨by decide, by decide⟩ (jC.of rfl k_X12_isSign rfl ?_)
        show jX m_X12_isSign 4 0 0 0 [(0, .ref 125), (1, .int 63)] [] _ 0 0 _
        refine x_aloadn (x := 125) rfl rfl ?_
        refine z_getM (N := 92) (v := g6) 12 11 rfl f_12_235 rfl J rfl z6 ?_
        refine x_iconst (v := 3) rfl ki_3 ?_
        refine x_icne (tgt := 22) rfl rfl (ti_ne rfl jk_3 ⟨fun c6 => ?_, fun c6 => ?_⟩)
        ·
          rw [if_neg (by omega)] at D
          refine x_iconst (v := 0) rfl ki_0 ?_
          refine x_zret rfl rfl (by decide) ?_
          show jX m_X12_readRole 5 0 0 6 [(0, .ref 125), (1, .int v5)] [.int 0] _ 0 0 _
          refine x_istoren (lsx9 := [(2, .int 0), (0, .ref 125), (1, .int v5)]) rfl rfl rfl ?_
          refine x_aloadn (x := 125) rfl rfl ?_
          refine x_iloadn (x := v5) rfl rfl ?_
          try rw [show ((l8.toInt + 6) + (28 * l9.toInt)) = v5.toInt from by omega] at D
          refine x_inv (N := m_X12_readName) (As := [.int v5]) (b := 125) (st := []) (dx9 := 4) (mc := 0) (ms := 0) (host := "") 12 rfl t_X12_readName ⟨Or.inl q_12_260, i_X12_readName.1, i_X12_readName.2⟩ ⟨by decide, rfl⟩ (congrArg Prod.fst (J.1.1 125 (12, 92) rfl)) rfl (by decide) rfl rfl ⟨by decide, by decide⟩ (sf_X12_readName_r125d (jr_of rfl (by omega)) (jr_mod rfl (by omega)) (by omega) hD J z5 z8 z9 (by omega) z6 z9 z5 (by omega) rfl  (fun h J S7 u8 u9 u10 qu8 qu9 qu10 ru8 u11 u12 u13 qu11 qu12 qu13 ru11 X14 => ?_))
          have Sm := jSm_tr rfl Sm S7
          rw [X14] at D
          have eu8 := (show 0 ≤ u8.toInt ∧ u8.toInt ≤ 400 from qu8 ▸ jrg_f J sg_125_10_11_1_0_1)
          try rw [vrf qu8] at D
          have eu9 := (show 0 ≤ u9.toInt ∧ u9.toInt ≤ 400 from qu9 ▸ jrg_f J sg_125_8_9_1_0_1)
          try rw [vrf (jmb_c S7 qu9 rfl)] at D
          have eu10 := (show 0 ≤ u10.toInt ∧ u10.toInt ≤ 400 from qu10 ▸ jrg_f J sg_125_9_10_1_0_1)
          try rw [vrf qu10] at D
          have eu11 := (show 0 ≤ u11.toInt ∧ u11.toInt ≤ 3 from qu11 ▸ jrg_f J sg_125_11_12_1_0_1)
          try rw [vrf qu11] at D
          obtain rfl : u10 = u12 := qu10.symm.trans qu12
          obtain rfl : u8 = u13 := qu8.symm.trans qu13
          show jX m_X12_readRole 5 0 0 12 [(2, .int 0), (0, .ref 125), (1, .int v5)] [] _ 0 0 _
          refine x_aloadn (x := 125) rfl rfl ?_
          refine z_getI (N := 92) 12 14 rfl f_12_214 rfl J rfl sg_125_14_15_1_0_1 (fun v15 qv15 ev15 => ?_)
          try rw [vrf qv15] at D
          refine x_ifeq (tgt := 20) rfl rfl (ti_eq rfl jk_0 ⟨fun c16 => ?_, fun c16 => ?_⟩)
          ·
            rw [if_pos (by omega)] at D
            refine x_iloadn (x := 0) rfl rfl ?_
            refine x_ifeq (tgt := 70) rfl rfl (ti_eq jk_0 jk_0 (br_t (by omega) ?_))
            refine x_aloadn (x := 125) rfl rfl ?_
            refine x_iloadn (x := v5) rfl rfl ?_
            refine x_bipush (v := 14) rfl kb_14 ?_
            refine z_iadd rfl rfl jk_14 (by omega) (fun v17 ev17 => ?_)
            try rw [show (v5.toInt + 14) = v17.toInt from by omega] at D
            refine x_inv (N := m_X12_readName) (As := [.int v17]) (b := 125) (st := []) (dx9 := 4) (mc := 0) (ms := 0) (host := "") 12 rfl t_X12_readName ⟨Or.inl q_12_260, i_X12_readName.1, i_X12_readName.2⟩ ⟨by decide, rfl⟩ (congrArg Prod.fst (J.1.1 125 (12, 92) rfl)) rfl (by decide) rfl rfl ⟨by decide, by decide⟩ (sf_X12_readName_r125d (jr_of rfl (by omega)) (jr_mod rfl (by omega)) (by omega) hD J qu8 qu9 qu10 (by omega) qu11 qu10 qu8 (by omega) rfl  (fun h J S18 u19 u20 u21 qu19 qu20 qu21 ru19 u22 u23 u24 qu22 qu23 qu24 ru22 X25 => ?_))
            have Sm := jSm_tr rfl Sm S18
            rw [X25] at D
            have eu19 := (show 0 ≤ u19.toInt ∧ u19.toInt ≤ 400 from qu19 ▸ jrg_f J sg_125_10_11_1_0_1)
            try rw [vrf qu19] at D
            have eu20 := (show 0 ≤ u20.toInt ∧ u20.toInt ≤ 400 from qu20 ▸ jrg_f J sg_125_8_9_1_0_1)
            try have kqu20 : u9.toInt = u20.toInt := ((vrf (jmb_c S7 qu9 rfl)).symm.trans (vrf (jmb_c S7 (jmb_c S18 qu20 rfl) rfl)))
            try rw [show u9.toInt = u20.toInt from ((vrf (jmb_c S7 qu9 rfl)).symm.trans (vrf (jmb_c S7 (jmb_c S18 qu20 rfl) rfl)))] at D
            try rw [vrf (jmb_c S7 (jmb_c S18 qu20 rfl) rfl)] at D
            have eu21 := (show 0 ≤ u21.toInt ∧ u21.toInt ≤ 400 from qu21 ▸ jrg_f J sg_125_9_10_1_0_1)
            try rw [vrf qu21] at D
            have eu22 := (show 0 ≤ u22.toInt ∧ u22.toInt ≤ 3 from qu22 ▸ jrg_f J sg_125_11_12_1_0_1)
            try rw [vrf qu22] at D
            obtain rfl : u21 = u23 := qu21.symm.trans qu23
            obtain rfl : u19 = u24 := qu19.symm.trans qu24
            show jX m_X12_readRole 5 0 0 78 [(2, .int 0), (0, .ref 125), (1, .int v5)] [] _ 0 0 _
            refine x_vret rfl rfl ?_
            show jX m_X12_line 6 0 0 198 [(0, .ref 125), (1, .int l1), (2, .int l2), (3, .int l3), (4, .int l4), (5, .int l5), (7, .int l7), (8, .int l8), (9, .int l9), (10, .int l10)] [] _ 0 0 _
            refine z_iinc (x := l9) (lsx9 := fun v26 => [(9, .int v26), (0, .ref 125), (1, .int l1), (2, .int l2), (3, .int l3), (4, .int l4), (5, .int l5), (7, .int l7), (8, .int l8), (10, .int l10)]) rfl rfl rfl jko_1 (by omega) rfl (fun _ => rfl) (fun v26 ev26 => ?_)
            refine x_aloadn (x := 125) rfl rfl ?_
            refine z_getI (N := 92) 12 14 rfl f_12_214 rfl J rfl sg_125_14_15_1_0_1 (fun v27 qv27 ev27 => ?_)
            try rw [vrf qv27] at D
            refine x_ifne (tgt := 221) rfl rfl (ti_ne rfl jk_0 ⟨fun c28 => ?_, fun c28 => ?_⟩)
            ·
              rw [if_neg (by omega)] at D
              try rw [show (l9.toInt + 1) = v26.toInt from by omega] at D
              exact jX.sub (jsb_c rfl (jsb_c rfl (jsb_c rfl (jsb_c rfl (jsb_c rfl (jsb_c rfl (jsb_c rfl (jsb_c rfl (jsb_c rfl jsb_n))))))))) (ct_X12_line_r125d_221 hD hQ ih l1 l2 l3 l4 l5 l7 l8 v26 g0 g1 g2 g3 g4 u19 u22 v27 u20 u21 h (jr_of rfl (by omega)) (jr_of rfl (by omega)) (jr_of rfl (by omega)) (jr_of rfl (by omega)) (jr_of rfl (by omega)) (jr_of rfl (by omega)) (jr_of rfl (by omega)) (jr_mod rfl (by omega)) (jr_of rfl (by omega)) (jr_of rfl (by omega)) (jr_of rfl (by omega)) (jr_of rfl (by omega)) (jr_of rfl (by omega)) (jr_of rfl (by omega)) (jr_of rfl (by omega)) (jr_of rfl (by omega)) (jr_of rfl (by omega)) (jr_of rfl (by omega)) (jr_of rfl (by omega)) (by omega) (by omega) (by omega) (jmc S18 rfl (jmc S7 rfl z0)) (jmc S18 rfl (jmc S7 rfl z1)) (jmc S18 rfl (jmc S7 rfl z2)) (jmc S18 rfl (jmc S7 rfl z3)) (jmc S18 rfl (jmc S7 rfl z4)) qu19 qu22 qv27 qu20 qu21 (by omega) J Sm D)
            ·
              rw [if_pos (by omega)] at D
              refine x_aloadn (x := 125) rfl rfl ?_
              refine x_bipush (v := 44) rfl kb_44 ?_
              refine x_inv (N := m_X12_isSign) (As := [.int 44]) (b := 125) (st := []) (dx9 := 5) (mc := 0) (ms := 0) (host := "") 12 rfl t_X12_isSign ⟨Or.inl q_12_257, i_X12_isSign.1, i_X12_isSign.2⟩ ⟨by decide, rfl⟩ (congrArg Prod.fst (J.1.1 125 (12, 92) rfl)) rfl (by decide) rfl rfl ⟨by decide, by decide⟩ (jC.of rfl k_X12_isSign rfl ?_)
              show jX m_X12_isSign 5 0 0 0 [(0, .ref 125), (1, .int 44)] [] _ 0 0 _
              refine x_aloadn (x := 125) rfl rfl ?_
              refine z_getM (N := 92) (v := u22) 12 11 rfl f_12_235 rfl J rfl qu22 ?_
              refine x_iconst (v := 3) rfl ki_3 ?_
              refine x_icne (tgt := 22) rfl rfl (ti_ne rfl jk_3 ⟨fun c29 => ?_, fun c29 => ?_⟩)
              ·
                rw [if_neg (by omega)] at D
                refine x_iconst (v := 0) rfl ki_0 ?_
                refine x_zret rfl rfl (by decide) ?_
                show jX m_X12_line 6 0 0 214 [(9, .int v26), (0, .ref 125), (1, .int l1), (2, .int l2), (3, .int l3), (4, .int l4), (5, .int l5), (7, .int l7), (8, .int l8), (10, .int l10)] [.int 0] _ 0 0 _
                refine x_ifeq (tgt := 221) rfl rfl (ti_eq jk_0 jk_0 (br_t (by omega) ?_))
                try rw [show (l9.toInt + 1) = v26.toInt from by omega] at D
                exact jX.sub (jsb_c rfl (jsb_c rfl (jsb_c rfl (jsb_c rfl (jsb_c rfl (jsb_c rfl (jsb_c rfl (jsb_c rfl (jsb_c rfl jsb_n))))))))) (ct_X12_line_r125d_221 hD hQ ih l1 l2 l3 l4 l5 l7 l8 v26 g0 g1 g2 g3 g4 u19 u22 v27 u20 u21 h (jr_of rfl (by omega)) (jr_of rfl (by omega)) (jr_of rfl (by omega)) (jr_of rfl (by omega)) (jr_of rfl (by omega)) (jr_of rfl (by omega)) (jr_of rfl (by omega)) (jr_mod rfl (by omega)) (jr_of rfl (by omega)) (jr_of rfl (by omega)) (jr_of rfl (by omega)) (jr_of rfl (by omega)) (jr_of rfl (by omega)) (jr_of rfl (by omega)) (jr_of rfl (by omega)) (jr_of rfl (by omega)) (jr_of rfl (by omega)) (jr_of rfl (by omega)) (jr_of rfl (by omega)) (by omega) (by omega) (by omega) (jmc S18 rfl (jmc S7 rfl z0)) (jmc S18 rfl (jmc S7 rfl z1)) (jmc S18 rfl (jmc S7 rfl z2)) (jmc S18 rfl (jmc S7 rfl z3)) (jmc S18 rfl (jmc S7 rfl z4)) qu19 qu22 qv27 qu20 qu21 (by omega) J Sm D)
              ·
                rw [if_pos (by omega)] at D
                refine x_aloadn (x := 125) rfl rfl ?_
                refine z_getLQ (N := 92) 12 12 rfl f_12_224 rfl J rfl (fun v30 qv30 => ?_)
                have ev30 := jfullL v30
                try rw [vrfL qv30] at D
                refine x_iloadn (x := 44) rfl rfl ?_
                refine z_i2l rfl jk_44 (fun v31 ev31 => ?_)
                refine z_lcmp rfl rfl rfl (fun v32 ev32 => ?_)
                refine x_ifne (tgt := 22) rfl rfl (ti_ne rfl jk_0 ⟨fun c33 => ?_, fun c33 => ?_⟩)
                ·
                  rw [if_neg (by omega)] at D
                  refine x_iconst (v := 0) rfl ki_0 ?_
                  refine x_zret rfl rfl (by decide) ?_
                  show jX m_X12_line 6 0 0 214 [(9, .int v26), (0, .ref 125), (1, .int l1), (2, .int l2), (3, .int l3), (4, .int l4), (5, .int l5), (7, .int l7), (8, .int l8), (10, .int l10)] [.int 0] _ 0 0 _
                  refine x_ifeq (tgt := 221) rfl rfl (ti_eq jk_0 jk_0 (br_t (by omega) ?_))
                  try rw [show (l9.toInt + 1) = v26.toInt from by omega] at D
                  exact jX.sub (jsb_c rfl (jsb_c rfl (jsb_c rfl (jsb_c rfl (jsb_c rfl (jsb_c rfl (jsb_c rfl (jsb_c rfl (jsb_c rfl jsb_n))))))))) (ct_X12_line_r125d_221 hD hQ ih l1 l2 l3 l4 l5 l7 l8 v26 g0 g1 g2 g3 g4 u19 u22 v27 u20 u21 h (jr_of rfl (by omega)) (jr_of rfl (by omega)) (jr_of rfl (by omega)) (jr_of rfl (by omega)) (jr_of rfl (by omega)) (jr_of rfl (by omega)) (jr_of rfl (by omega)) (jr_mod rfl (by omega)) (jr_of rfl (by omega)) (jr_of rfl (by omega)) (jr_of rfl (by omega)) (jr_of rfl (by omega)) (jr_of rfl (by omega)) (jr_of rfl (by omega)) (jr_of rfl (by omega)) (jr_of rfl (by omega)) (jr_of rfl (by omega)) (jr_of rfl (by omega)) (jr_of rfl (by omega)) (by omega) (by omega) (by omega) (jmc S18 rfl (jmc S7 rfl z0)) (jmc S18 rfl (jmc S7 rfl z1)) (jmc S18 rfl (jmc S7 rfl z2)) (jmc S18 rfl (jmc S7 rfl z3)) (jmc S18 rfl (jmc S7 rfl z4)) qu19 qu22 qv27 qu20 qu21 (by omega) J Sm D)
                ·
                  rw [if_pos (by omega)] at D
                  refine x_iconst (v := 1) rfl ki_1 ?_
                  refine x_goto (tgt := 23) rfl rfl ?_
                  refine x_zret rfl rfl (by decide) ?_
                  show jX m_X12_line 6 0 0 214 [(9, .int v26), (0, .ref 125), (1, .int l1), (2, .int l2), (3, .int l3), (4, .int l4), (5, .int l5), (7, .int l7), (8, .int l8), (10, .int l10)] [.int 1] _ 0 0 _
                  refine x_ifeq (tgt := 221) rfl rfl (ti_eq jk_1 jk_0 (br_f (by omega) ?_))
                  refine x_iconst (v := 1) rfl ki_1 ?_
                  refine x_goto (tgt := 222) rfl rfl ?_
                  try rw [show (l9.toInt + 1) = v26.toInt from by omega] at D
                  exact jX.sub (jsb_c rfl (jsb_c rfl (jsb_c rfl (jsb_c rfl (jsb_c rfl (jsb_c rfl (jsb_c rfl (jsb_c rfl (jsb_c rfl jsb_n))))))))) (ct_X12_line_r125d_300222 hD hQ ih l1 l2 l3 l4 l5 l7 l8 v26 g0 g1 g2 g3 g4 u19 u22 v27 u20 u21 h (jr_of rfl (by omega)) (jr_of rfl (by omega)) (jr_of rfl (by omega)) (jr_of rfl (by omega)) (jr_of rfl (by omega)) (jr_of rfl (by omega)) (jr_of rfl (by omega)) (jr_mod rfl (by omega)) (jr_of rfl (by omega)) (jr_of rfl (by omega)) (jr_of rfl (by omega)) (jr_of rfl (by omega)) (jr_of rfl (by omega)) (jr_of rfl (by omega)) (jr_of rfl (by omega)) (jr_of rfl (by omega)) (jr_of rfl (by omega)) (jr_of rfl (by omega)) (jr_of rfl (by omega)) (by omega) (by omega) (by omega) (jmc S18 rfl (jmc S7 rfl z0)) (jmc S18 rfl (jmc S7 rfl z1)) (jmc S18 rfl (jmc S7 rfl z2)) (jmc S18 rfl (jmc S7 rfl z3)) (jmc S18 rfl (jmc S7 rfl z4)) qu19 qu22 qv27 qu20 qu21 (by omega) J Sm D)
          ·
            rw [if_neg (by omega)] at D
            refine x_vret rfl rfl ?_
            show jX m_X12_line 6 0 0 198 [(0, .ref 125), (1, .int l1), (2, .int l2), (3, .int l3), (4, .int l4), (5, .int l5), (7, .int l7), (8, .int l8), (9, .int l9), (10, .int l10)] [] _ 0 0 _
            refine z_iinc (x := l9) (lsx9 := fun v34 => [(9, .int v34), (0, .ref 125), (1, .int l1), (2, .int l2), (3, .int l3), (4, .int l4), (5, .int l5), (7, .int l7), (8, .int l8), (10, .int l10)]) rfl rfl rfl jko_1 (by omega) rfl (fun _ => rfl) (fun v34 ev34 => ?_)
            refine x_aloadn (x := 125) rfl rfl ?_
            refine z_getM (N := 92) (v := v15) 12 14 rfl f_12_214 rfl J rfl qv15 ?_
            refine x_ifne (tgt := 221) rfl rfl (ti_ne rfl jk_0 (bn_t (by omega) ?_))
            try rw [show (l9.toInt + 1) = v34.toInt from by omega] at D
            exact jX.sub (jsb_c rfl (jsb_c rfl (jsb_c rfl (jsb_c rfl (jsb_c rfl (jsb_c rfl (jsb_c rfl (jsb_c rfl (jsb_c rfl jsb_n))))))))) (ct_X12_line_r125d_221 hD hQ ih l1 l2 l3 l4 l5 l7 l8 v34 g0 g1 g2 g3 g4 u8 u11 v15 u9 u10 h (jr_of rfl (by omega)) (jr_of rfl (by omega)) (jr_of rfl (by omega)) (jr_of rfl (by omega)) (jr_of rfl (by omega)) (jr_of rfl (by omega)) (jr_of rfl (by omega)) (jr_mod rfl (by omega)) (jr_of rfl (by omega)) (jr_of rfl (by omega)) (jr_of rfl (by omega)) (jr_of rfl (by omega)) (jr_of rfl (by omega)) (jr_of rfl (by omega)) (jr_of rfl (by omega)) (jr_of rfl (by omega)) (jr_of rfl (by omega)) (jr_of rfl (by omega)) (jr_of rfl (by omega)) (by omega) (by omega) (by omega) (jmc S7 rfl z0) (jmc S7 rfl z1) (jmc S7 rfl z2) (jmc S7 rfl z3) (jmc S7 rfl z4) qu8 qu11 qv15 qu9 qu10 (by omega) J Sm D)
        ·
          rw [if_pos (by omega)] at D
          refine x_aloadn (x := 125) rfl rfl ?_
          refine z_getLQ (N := 92) 12 12 rfl f_12_224 rfl J rfl (fun v35 qv35 => ?_)
          have ev35 := jfullL v35
          try rw [vrfL qv35] at D
          refine x_iloadn (x := 63) rfl rfl ?_
          refine z_i2l rfl jk_63 (fun v36 ev36 => ?_)
          refine z_lcmp rfl rfl rfl (fun v37 ev37 => ?_)
          refine x_ifne (tgt := 22) rfl rfl (ti_ne rfl jk_0 ⟨fun c38 => ?_, fun c38 => ?_⟩)
          ·
            rw [if_neg (by omega)] at D
            refine x_iconst (v := 0) rfl ki_0 ?_
            refine x_zret rfl rfl (by decide) ?_
            show jX m_X12_readRole 5 0 0 6 [(0, .ref 125), (1, .int v5)] [.int 0] _ 0 0 _
            refine x_istoren (lsx9 := [(2, .int 0), (0, .ref 125), (1, .int v5)]) rfl rfl rfl ?_
            refine x_aloadn (x := 125) rfl rfl ?_
            refine x_iloadn (x := v5) rfl rfl ?_
            try rw [show ((l8.toInt + 6) + (28 * l9.toInt)) = v5.toInt from by omega] at D
            refine x_inv (N := m_X12_readName) (As := [.int v5]) (b := 125) (st := []) (dx9 := 4) (mc := 0) (ms := 0) (host := "") 12 rfl t_X12_readName ⟨Or.inl q_12_260, i_X12_readName.1, i_X12_readName.2⟩ ⟨by decide, rfl⟩ (congrArg Prod.fst (J.1.1 125 (12, 92) rfl)) rfl (by decide) rfl rfl ⟨by decide, by decide⟩ (sf_X12_readName_r125d (jr_of rfl (by omega)) (jr_mod rfl (by omega)) (by omega) hD J z5 z8 z9 (by omega) z6 z9 z5 (by omega) rfl  (fun h J S39 u40 u41 u42 qu40 qu41 qu42 ru40 u43 u44 u45 qu43 qu44 qu45 ru43 X46 => ?_))
            have Sm := jSm_tr rfl Sm S39
            rw [X46] at D
            have eu40 := (show 0 ≤ u40.toInt ∧ u40.toInt ≤ 400 from qu40 ▸ jrg_f J sg_125_10_11_1_0_1)
            try rw [vrf qu40] at D
            have eu41 := (show 0 ≤ u41.toInt ∧ u41.toInt ≤ 400 from qu41 ▸ jrg_f J sg_125_8_9_1_0_1)
            try rw [vrf (jmb_c S39 qu41 rfl)] at D
            have eu42 := (show 0 ≤ u42.toInt ∧ u42.toInt ≤ 400 from qu42 ▸ jrg_f J sg_125_9_10_1_0_1)
            try rw [vrf qu42] at D
            have eu43 := (show 0 ≤ u43.toInt ∧ u43.toInt ≤ 3 from qu43 ▸ jrg_f J sg_125_11_12_1_0_1)
            try rw [vrf qu43] at D
            obtain rfl : u42 = u44 := qu42.symm.trans qu44
            obtain rfl : u40 = u45 := qu40.symm.trans qu45
            show jX m_X12_readRole 5 0 0 12 [(2, .int 0), (0, .ref 125), (1, .int v5)] [] _ 0 0 _
            refine x_aloadn (x := 125) rfl rfl ?_
            refine z_getI (N := 92) 12 14 rfl f_12_214 rfl J rfl sg_125_14_15_1_0_1 (fun v47 qv47 ev47 => ?_)
            try rw [vrf qv47] at D
            refine x_ifeq (tgt := 20) rfl rfl (ti_eq rfl jk_0 ⟨fun c48 => ?_, fun c48 => ?_⟩)
            ·
              rw [if_pos (by omega)] at D
              refine x_iloadn (x := 0) rfl rfl ?_
              refine x_ifeq (tgt := 70) rfl rfl (ti_eq jk_0 jk_0 (br_t (by omega) ?_))
              refine x_aloadn (x := 125) rfl rfl ?_
              refine x_iloadn (x := v5) rfl rfl ?_
              refine x_bipush (v := 14) rfl kb_14 ?_
              refine z_iadd rfl rfl jk_14 (by omega) (fun v49 ev49 => ?_)
              try rw [show (v5.toInt + 14) = v49.toInt from by omega] at D
              refine x_inv (N := m_X12_readName) (As := [.int v49]) (b := 125) (st := []) (dx9 := 4) (mc := 0) (ms := 0) (host := "") 12 rfl t_X12_readName ⟨Or.inl q_12_260, i_X12_readName.1, i_X12_readName.2⟩ ⟨by decide, rfl⟩ (congrArg Prod.fst (J.1.1 125 (12, 92) rfl)) rfl (by decide) rfl rfl ⟨by decide, by decide⟩ (sf_X12_readName_r125d (jr_of rfl (by omega)) (jr_mod rfl (by omega)) (by omega) hD J qu40 qu41 qu42 (by omega) qu43 qu42 qu40 (by omega) rfl  (fun h J S50 u51 u52 u53 qu51 qu52 qu53 ru51 u54 u55 u56 qu54 qu55 qu56 ru54 X57 => ?_))
              have Sm := jSm_tr rfl Sm S50
              rw [X57] at D
              have eu51 := (show 0 ≤ u51.toInt ∧ u51.toInt ≤ 400 from qu51 ▸ jrg_f J sg_125_10_11_1_0_1)
              try rw [vrf qu51] at D
              have eu52 := (show 0 ≤ u52.toInt ∧ u52.toInt ≤ 400 from qu52 ▸ jrg_f J sg_125_8_9_1_0_1)
              try have kqu52 : u41.toInt = u52.toInt := ((vrf (jmb_c S39 qu41 rfl)).symm.trans (vrf (jmb_c S39 (jmb_c S50 qu52 rfl) rfl)))
              try rw [show u41.toInt = u52.toInt from ((vrf (jmb_c S39 qu41 rfl)).symm.trans (vrf (jmb_c S39 (jmb_c S50 qu52 rfl) rfl)))] at D
              try rw [vrf (jmb_c S39 (jmb_c S50 qu52 rfl) rfl)] at D
              have eu53 := (show 0 ≤ u53.toInt ∧ u53.toInt ≤ 400 from qu53 ▸ jrg_f J sg_125_9_10_1_0_1)
              try rw [vrf qu53] at D
              have eu54 := (show 0 ≤ u54.toInt ∧ u54.toInt ≤ 3 from qu54 ▸ jrg_f J sg_125_11_12_1_0_1)
              try rw [vrf qu54] at D
              obtain rfl : u53 = u55 := qu53.symm.trans qu55
              obtain rfl : u51 = u56 := qu51.symm.trans qu56
              show jX m_X12_readRole 5 0 0 78 [(2, .int 0), (0, .ref 125), (1, .int v5)] [] _ 0 0 _
              refine x_vret rfl rfl ?_
              show jX m_X12_line 6 0 0 198 [(0, .ref 125), (1, .int l1), (2, .int l2), (3, .int l3), (4, .int l4), (5, .int l5), (7, .int l7), (8, .int l8), (9, .int l9), (10, .int l10)] [] _ 0 0 _
              refine z_iinc (x := l9) (lsx9 := fun v58 => [(9, .int v58), (0, .ref 125), (1, .int l1), (2, .int l2), (3, .int l3), (4, .int l4), (5, .int l5), (7, .int l7), (8, .int l8), (10, .int l10)]) rfl rfl rfl jko_1 (by omega) rfl (fun _ => rfl) (fun v58 ev58 => ?_)
              refine x_aloadn (x := 125) rfl rfl ?_
              refine z_getI (N := 92) 12 14 rfl f_12_214 rfl J rfl sg_125_14_15_1_0_1 (fun v59 qv59 ev59 => ?_)
              try rw [vrf qv59] at D
              refine x_ifne (tgt := 221) rfl rfl (ti_ne rfl jk_0 ⟨fun c60 => ?_, fun c60 => ?_⟩)
              ·
                rw [if_neg (by omega)] at D
                try rw [show (l9.toInt + 1) = v58.toInt from by omega] at D
                exact jX.sub (jsb_c rfl (jsb_c rfl (jsb_c rfl (jsb_c rfl (jsb_c rfl (jsb_c rfl (jsb_c rfl (jsb_c rfl (jsb_c rfl jsb_n))))))))) (ct_X12_line_r125d_221 hD hQ ih l1 l2 l3 l4 l5 l7 l8 v58 g0 g1 g2 g3 g4 u51 u54 v59 u52 u53 h (jr_of rfl (by omega)) (jr_of rfl (by omega)) (jr_of rfl (by omega)) (jr_of rfl (by omega)) (jr_of rfl (by omega)) (jr_of rfl (by omega)) (jr_of rfl (by omega)) (jr_mod rfl (by omega)) (jr_of rfl (by omega)) (jr_of rfl (by omega)) (jr_of rfl (by omega)) (jr_of rfl (by omega)) (jr_of rfl (by omega)) (jr_of rfl (by omega)) (jr_of rfl (by omega)) (jr_of rfl (by omega)) (jr_of rfl (by omega)) (jr_of rfl (by omega)) (jr_of rfl (by omega)) (by omega) (by omega) (by omega) (jmc S50 rfl (jmc S39 rfl z0)) (jmc S50 rfl (jmc S39 rfl z1)) (jmc S50 rfl (jmc S39 rfl z2)) (jmc S50 rfl (jmc S39 rfl z3)) (jmc S50 rfl (jmc S39 rfl z4)) qu51 qu54 qv59 qu52 qu53 (by omega) J Sm D)
              ·
                rw [if_pos (by omega)] at D
                refine x_aloadn (x := 125) rfl rfl ?_
                refine x_bipush (v := 44) rfl kb_44 ?_
                refine x_inv (N := m_X12_isSign) (As := [.int 44]) (b := 125) (st := []) (dx9 := 5) (mc := 0) (ms := 0) (host := "") 12 rfl t_X12_isSign ⟨Or.inl q_12_257, i_X12_isSign.1, i_X12_isSign.2⟩ ⟨by decide, rfl⟩ (congrArg Prod.fst (J.1.1 125 (12, 92) rfl)) rfl (by decide) rfl rfl ⟨by decide, by decide⟩ (jC.of rfl k_X12_isSign rfl ?_)
                show jX m_X12_isSign 5 0 0 0 [(0, .ref 125), (1, .int 44)] [] _ 0 0 _
                refine x_aloadn (x := 125) rfl rfl ?_
                refine z_getM (N := 92) (v := u54) 12 11 rfl f_12_235 rfl J rfl qu54 ?_
                refine x_iconst (v := 3) rfl ki_3 ?_
                refine x_icne (tgt := 22) rfl rfl (ti_ne rfl jk_3 ⟨fun c61 => ?_, fun c61 => ?_⟩)
                ·
                  rw [if_neg (by omega)] at D
                  refine x_iconst (v := 0) rfl ki_0 ?_
                  refine x_zret rfl rfl (by decide) ?_
                  show jX m_X12_line 6 0 0 214 [(9, .int v58), (0, .ref 125), (1, .int l1), (2, .int l2), (3, .int l3), (4, .int l4), (5, .int l5), (7, .int l7), (8, .int l8), (10, .int l10)] [.int 0] _ 0 0 _
                  refine x_ifeq (tgt := 221) rfl rfl (ti_eq jk_0 jk_0 (br_t (by omega) ?_))
                  try rw [show (l9.toInt + 1) = v58.toInt from by omega] at D
                  exact jX.sub (jsb_c rfl (jsb_c rfl (jsb_c rfl (jsb_c rfl (jsb_c rfl (jsb_c rfl (jsb_c rfl (jsb_c rfl (jsb_c rfl jsb_n))))))))) (ct_X12_line_r125d_221 hD hQ ih l1 l2 l3 l4 l5 l7 l8 v58 g0 g1 g2 g3 g4 u51 u54 v59 u52 u53 h (jr_of rfl (by omega)) (jr_of rfl (by omega)) (jr_of rfl (by omega)) (jr_of rfl (by omega)) (jr_of rfl (by omega)) (jr_of rfl (by omega)) (jr_of rfl (by omega)) (jr_mod rfl (by omega)) (jr_of rfl (by omega)) (jr_of rfl (by omega)) (jr_of rfl (by omega)) (jr_of rfl (by omega)) (jr_of rfl (by omega)) (jr_of rfl (by omega)) (jr_of rfl (by omega)) (jr_of rfl (by omega)) (jr_of rfl (by omega)) (jr_of rfl (by omega)) (jr_of rfl (by omega)) (by omega) (by omega) (by omega) (jmc S50 rfl (jmc S39 rfl z0)) (jmc S50 rfl (jmc S39 rfl z1)) (jmc S50 rfl (jmc S39 rfl z2)) (jmc S50 rfl (jmc S39 rfl z3)) (jmc S50 rfl (jmc S39 rfl z4)) qu51 qu54 qv59 qu52 qu53 (by omega) J Sm D)
                ·
                  rw [if_pos (by omega)] at D
                  refine x_aloadn (x := 125) rfl rfl ?_
                  refine z_getLQ (N := 92) 12 12 rfl f_12_224 rfl J rfl (fun v62 qv62 => ?_)
                  have ev62 := jfullL v62
                  try rw [vrfL qv62] at D
                  refine x_iloadn (x := 44) rfl rfl ?_
                  refine z_i2l rfl jk_44 (fun v63 ev63 => ?_)
                  refine z_lcmp rfl rfl rfl (fun v64 ev64 => ?_)
                  refine x_ifne (tgt := 22) rfl rfl (ti_ne rfl jk_0 ⟨fun c65 => ?_, fun c65 => ?_⟩)
                  ·
                    rw [if_neg (by omega)] at D
                    refine x_iconst (v := 0) rfl ki_0 ?_
                    refine x_zret rfl rfl (by decide) ?_
                    show jX m_X12_line 6 0 0 214 [(9, .int v58), (0, .ref 125), (1, .int l1), (2, .int l2), (3, .int l3), (4, .int l4), (5, .int l5), (7, .int l7), (8, .int l8), (10, .int l10)] [.int 0] _ 0 0 _
                    refine x_ifeq (tgt := 221) rfl rfl (ti_eq jk_0 jk_0 (br_t (by omega) ?_))
                    try rw [show (l9.toInt + 1) = v58.toInt from by omega] at D
                    exact jX.sub (jsb_c rfl (jsb_c rfl (jsb_c rfl (jsb_c rfl (jsb_c rfl (jsb_c rfl (jsb_c rfl (jsb_c rfl (jsb_c rfl jsb_n))))))))) (ct_X12_line_r125d_221 hD hQ ih l1 l2 l3 l4 l5 l7 l8 v58 g0 g1 g2 g3 g4 u51 u54 v59 u52 u53 h (jr_of rfl (by omega)) (jr_of rfl (by omega)) (jr_of rfl (by omega)) (jr_of rfl (by omega)) (jr_of rfl (by omega)) (jr_of rfl (by omega)) (jr_of rfl (by omega)) (jr_mod rfl (by omega)) (jr_of rfl (by omega)) (jr_of rfl (by omega)) (jr_of rfl (by omega)) (jr_of rfl (by omega)) (jr_of rfl (by omega)) (jr_of rfl (by omega)) (jr_of rfl (by omega)) (jr_of rfl (by omega)) (jr_of rfl (by omega)) (jr_of rfl (by omega)) (jr_of rfl (by omega)) (by omega) (by omega) (by omega) (jmc S50 rfl (jmc S39 rfl z0)) (jmc S50 rfl (jmc S39 rfl z1)) (jmc S50 rfl (jmc S39 rfl z2)) (jmc S50 rfl (jmc S39 rfl z3)) (jmc S50 rfl (jmc S39 rfl z4)) qu51 qu54 qv59 qu52 qu53 (by omega) J Sm D)
                  ·
                    rw [if_pos (by omega)] at D
                    refine x_iconst (v := 1) rfl ki_1 ?_
                    refine x_goto (tgt := 23) rfl rfl ?_
                    refine x_zret rfl rfl (by decide) ?_
                    show jX m_X12_line 6 0 0 214 [(9, .int v58), (0, .ref 125), (1, .int l1), (2, .int l2), (3, .int l3), (4, .int l4), (5, .int l5), (7, .int l7), (8, .int l8), (10, .int l10)] [.int 1] _ 0 0 _
                    refine x_ifeq (tgt := 221) rfl rfl (ti_eq jk_1 jk_0 (br_f (by omega) ?_))
                    refine x_iconst (v := 1) rfl ki_1 ?_
                    refine x_goto (tgt := 222) rfl rfl ?_
                    try rw [show (l9.toInt + 1) = v58.toInt from by omega] at D
                    exact jX.sub (jsb_c rfl (jsb_c rfl (jsb_c rfl (jsb_c rfl (jsb_c rfl (jsb_c rfl (jsb_c rfl (jsb_c rfl (jsb_c rfl jsb_n))))))))) (ct_X12_line_r125d_300222 hD hQ ih l1 l2 l3 l4 l5 l7 l8 v58 g0 g1 g2 g3 g4 u51 u54 v59 u52 u53 h (jr_of rfl (by omega)) (jr_of rfl (by omega)) (jr_of rfl (by omega)) (jr_of rfl (by omega)) (jr_of rfl (by omega)) (jr_of rfl (by omega)) (jr_of rfl (by omega)) (jr_mod rfl (by omega)) (jr_of rfl (by omega)) (jr_of rfl (by omega)) (jr_of rfl (by omega)) (jr_of rfl (by omega)) (jr_of rfl (by omega)) (jr_of rfl (by omega)) (jr_of rfl (by omega)) (jr_of rfl (by omega)) (jr_of rfl (by omega)) (jr_of rfl (by omega)) (jr_of rfl (by omega)) (by omega) (by omega) (by omega) (jmc S50 rfl (jmc S39 rfl z0)) (jmc S50 rfl (jmc S39 rfl z1)) (jmc S50 rfl (jmc S39 rfl z2)) (jmc S50 rfl (jmc S39 rfl z3)) (jmc S50 rfl (jmc S39 rfl z4)) qu51 qu54 qv59 qu52 qu53 (by omega) J Sm D)
            ·
              rw [if_neg (by omega)] at D
              refine x_vret rfl rfl ?_
              show jX m_X12_line 6 0 0 198 [(0, .ref 125), (1, .int l1), (2, .int l2), (3, .int l3), (4, .int l4), (5, .int l5), (7, .int l7), (8, .int l8), (9, .int l9), (10, .int l10)] [] _ 0 0 _
              refine z_iinc (x := l9) (lsx9 := fun v66 => [(9, .int v66), (0, .ref 125), (1, .int l1), (2, .int l2), (3, .int l3), (4, .int l4), (5, .int l5), (7, .int l7), (8, .int l8), (10, .int l10)]) rfl rfl rfl jko_1 (by omega) rfl (fun _ => rfl) (fun v66 ev66 => ?_)
              refine x_aloadn (x := 125) rfl rfl ?_
              refine z_getM (N := 92) (v := v47) 12 14 rfl f_12_214 rfl J rfl qv47 ?_
              refine x_ifne (tgt := 221) rfl rfl (ti_ne rfl jk_0 (bn_t (by omega) ?_))
              try rw [show (l9.toInt + 1) = v66.toInt from by omega] at D
              exact jX.sub (jsb_c rfl (jsb_c rfl (jsb_c rfl (jsb_c rfl (jsb_c rfl (jsb_c rfl (jsb_c rfl (jsb_c rfl (jsb_c rfl jsb_n))))))))) (ct_X12_line_r125d_221 hD hQ ih l1 l2 l3 l4 l5 l7 l8 v66 g0 g1 g2 g3 g4 u40 u43 v47 u41 u42 h (jr_of rfl (by omega)) (jr_of rfl (by omega)) (jr_of rfl (by omega)) (jr_of rfl (by omega)) (jr_of rfl (by omega)) (jr_of rfl (by omega)) (jr_of rfl (by omega)) (jr_mod rfl (by omega)) (jr_of rfl (by omega)) (jr_of rfl (by omega)) (jr_of rfl (by omega)) (jr_of rfl (by omega)) (jr_of rfl (by omega)) (jr_of rfl (by omega)) (jr_of rfl (by omega)) (jr_of rfl (by omega)) (jr_of rfl (by omega)) (jr_of rfl (by omega)) (jr_of rfl (by omega)) (by omega) (by omega) (by omega) (jmc S39 rfl z0) (jmc S39 rfl z1) (jmc S39 rfl z2) (jmc S39 rfl z3) (jmc S39 rfl z4) qu40 qu43 qv47 qu41 qu42 (by omega) J Sm D)
          ·
            rw [if_pos (by omega)] at D
            refine x_iconst (v := 1) rfl ki_1 ?_
            refine x_goto (tgt := 23) rfl rfl ?_
            refine x_zret rfl rfl (by decide) ?_
            show jX m_X12_readRole 5 0 0 6 [(0, .ref 125), (1, .int v5)] [.int 1] _ 0 0 _
            refine x_istoren (lsx9 := [(2, .int 1), (0, .ref 125), (1, .int v5)]) rfl rfl rfl ?_
            refine x_aloadn (x := 125) rfl rfl ?_
            refine x_iloadn (x := v5) rfl rfl ?_
            try rw [show ((l8.toInt + 6) + (28 * l9.toInt)) = v5.toInt from by omega] at D
            refine x_inv (N := m_X12_readName) (As := [.int v5]) (b := 125) (st := []) (dx9 := 4) (mc := 0) (ms := 0) (host := "") 12 rfl t_X12_readName ⟨Or.inl q_12_260, i_X12_readName.1, i_X12_readName.2⟩ ⟨by decide, rfl⟩ (congrArg Prod.fst (J.1.1 125 (12, 92) rfl)) rfl (by decide) rfl rfl ⟨by decide, by decide⟩ (sf_X12_readName_r125d (jr_of rfl (by omega)) (jr_mod rfl (by omega)) (by omega) hD J z5 z8 z9 (by omega) z6 z9 z5 (by omega) rfl  (fun h J S67 u68 u69 u70 qu68 qu69 qu70 ru68 u71 u72 u73 qu71 qu72 qu73 ru71 X74 => ?_))
            have Sm := jSm_tr rfl Sm S67
            rw [X74] at D
            have eu68 := (show 0 ≤ u68.toInt ∧ u68.toInt ≤ 400 from qu68 ▸ jrg_f J sg_125_10_11_1_0_1)
            try rw [vrf qu68] at D
            have eu69 := (show 0 ≤ u69.toInt ∧ u69.toInt ≤ 400 from qu69 ▸ jrg_f J sg_125_8_9_1_0_1)
            try rw [vrf (jmb_c S67 qu69 rfl)] at D
            have eu70 := (show 0 ≤ u70.toInt ∧ u70.toInt ≤ 400 from qu70 ▸ jrg_f J sg_125_9_10_1_0_1)
            try rw [vrf qu70] at D
            have eu71 := (show 0 ≤ u71.toInt ∧ u71.toInt ≤ 3 from qu71 ▸ jrg_f J sg_125_11_12_1_0_1)
            try rw [vrf qu71] at D
            obtain rfl : u70 = u72 := qu70.symm.trans qu72
            obtain rfl : u68 = u73 := qu68.symm.trans qu73
            show jX m_X12_readRole 5 0 0 12 [(2, .int 1), (0, .ref 125), (1, .int v5)] [] _ 0 0 _
            refine x_aloadn (x := 125) rfl rfl ?_
            refine z_getI (N := 92) 12 14 rfl f_12_214 rfl J rfl sg_125_14_15_1_0_1 (fun v75 qv75 ev75 => ?_)
            try rw [vrf qv75] at D
            refine x_ifeq (tgt := 20) rfl rfl (ti_eq rfl jk_0 ⟨fun c76 => ?_, fun c76 => ?_⟩)
            ·
              rw [if_pos (by omega)] at D
              refine x_iloadn (x := 1) rfl rfl ?_
              refine x_ifeq (tgt := 70) rfl rfl (ti_eq jk_1 jk_0 (br_f (by omega) ?_))
              refine x_aloadn (x := 125) rfl rfl ?_
              refine x_bipush (v := 44) rfl kb_44 ?_
              refine x_inv (N := m_X12_isSign) (As := [.int 44]) (b := 125) (st := []) (dx9 := 4) (mc := 0) (ms := 0) (host := "") 12 rfl t_X12_isSign ⟨Or.inl q_12_257, i_X12_isSign.1, i_X12_isSign.2⟩ ⟨by decide, rfl⟩ (congrArg Prod.fst (J.1.1 125 (12, 92) rfl)) rfl (by decide) rfl rfl ⟨by decide, by decide⟩ (jC.of rfl k_X12_isSign rfl ?_)
              show jX m_X12_isSign 4 0 0 0 [(0, .ref 125), (1, .int 44)] [] _ 0 0 _
              refine x_aloadn (x := 125) rfl rfl ?_
              refine z_getM (N := 92) (v := u71) 12 11 rfl f_12_235 rfl J rfl qu71 ?_
              refine x_iconst (v := 3) rfl ki_3 ?_
              refine x_icne (tgt := 22) rfl rfl (ti_ne rfl jk_3 ⟨fun c77 => ?_, fun c77 => ?_⟩)
              ·
                rw [if_neg (by omega)] at D
                refine x_iconst (v := 0) rfl ki_0 ?_
                refine x_zret rfl rfl (by decide) ?_
                show jX m_X12_readRole 5 0 0 30 [(2, .int 1), (0, .ref 125), (1, .int v5)] [.int 0] _ 0 0 _
                refine x_ifne (tgt := 49) rfl rfl (ti_ne jk_0 jk_0 (bn_f (by omega) ?_))
                refine x_aloadn (x := 125) rfl rfl ?_
                refine x_bipush (v := 46) rfl kb_46 ?_
                refine x_inv (N := m_X12_isSign) (As := [.int 46]) (b := 125) (st := []) (dx9 := 4) (mc := 0) (ms := 0) (host := "") 12 rfl t_X12_isSign ⟨Or.inl q_12_257, i_X12_isSign.1, i_X12_isSign.2⟩ ⟨by decide, rfl⟩ (congrArg Prod.fst (J.1.1 125 (12, 92) rfl)) rfl (by decide) rfl rfl ⟨by decide, by decide⟩ (jC.of rfl k_X12_isSign rfl ?_)
                show jX m_X12_isSign 4 0 0 0 [(0, .ref 125), (1, .int 46)] [] _ 0 0 _
                refine x_aloadn (x := 125) rfl rfl ?_
                refine z_getM (N := 92) (v := u71) 12 11 rfl f_12_235 rfl J rfl qu71 ?_
                refine x_iconst (v := 3) rfl ki_3 ?_
                refine x_icne (tgt := 22) rfl rfl (ti_ne rfl jk_3 (bn_t (by omega) ?_))
                refine x_iconst (v := 0) rfl ki_0 ?_
                refine x_zret rfl rfl (by decide) ?_
                show jX m_X12_readRole 5 0 0 39 [(2, .int 1), (0, .ref 125), (1, .int v5)] [.int 0] _ 0 0 _
                refine x_ifne (tgt := 49) rfl rfl (ti_ne jk_0 jk_0 (bn_f (by omega) ?_))
                refine x_aloadn (x := 125) rfl rfl ?_
                refine z_getM (N := 92) (v := u71) 12 11 rfl f_12_235 rfl J rfl qu71 ?_
                refine x_ifne (tgt := 70) rfl rfl (ti_ne rfl jk_0 ⟨fun c78 => ?_, fun c78 => ?_⟩)
                ·
                  rw [if_neg (by omega)] at D
                  refine x_aloadn (x := 125) rfl rfl ?_
                  refine x_iloadn (x := v5) rfl rfl ?_
                  refine x_bipush (v := 14) rfl kb_14 ?_
                  refine z_iadd rfl rfl jk_14 (by omega) (fun v79 ev79 => ?_)
                  try rw [show (v5.toInt + 14) = v79.toInt from by omega] at D
                  refine x_inv (N := m_X12_readName) (As := [.int v79]) (b := 125) (st := []) (dx9 := 4) (mc := 0) (ms := 0) (host := "") 12 rfl t_X12_readName ⟨Or.inl q_12_260, i_X12_readName.1, i_X12_readName.2⟩ ⟨by decide, rfl⟩ (congrArg Prod.fst (J.1.1 125 (12, 92) rfl)) rfl (by decide) rfl rfl ⟨by decide, by decide⟩ (sf_X12_readName_r125d (jr_of rfl (by omega)) (jr_mod rfl (by omega)) (by omega) hD J qu68 qu69 qu70 (by omega) qu71 qu70 qu68 (by omega) rfl  (fun h J S80 u81 u82 u83 qu81 qu82 qu83 ru81 u84 u85 u86 qu84 qu85 qu86 ru84 X87 => ?_))
                  have Sm := jSm_tr rfl Sm S80
                  rw [X87] at D
                  have eu81 := (show 0 ≤ u81.toInt ∧ u81.toInt ≤ 400 from qu81 ▸ jrg_f J sg_125_10_11_1_0_1)
                  try rw [vrf qu81] at D
                  have eu82 := (show 0 ≤ u82.toInt ∧ u82.toInt ≤ 400 from qu82 ▸ jrg_f J sg_125_8_9_1_0_1)
                  try have kqu82 : u69.toInt = u82.toInt := ((vrf (jmb_c S67 qu69 rfl)).symm.trans (vrf (jmb_c S67 (jmb_c S80 qu82 rfl) rfl)))
                  try rw [show u69.toInt = u82.toInt from ((vrf (jmb_c S67 qu69 rfl)).symm.trans (vrf (jmb_c S67 (jmb_c S80 qu82 rfl) rfl)))] at D
                  try rw [vrf (jmb_c S67 (jmb_c S80 qu82 rfl) rfl)] at D
                  have eu83 := (show 0 ≤ u83.toInt ∧ u83.toInt ≤ 400 from qu83 ▸ jrg_f J sg_125_9_10_1_0_1)
                  try rw [vrf qu83] at D
                  have eu84 := (show 0 ≤ u84.toInt ∧ u84.toInt ≤ 3 from qu84 ▸ jrg_f J sg_125_11_12_1_0_1)
                  try rw [vrf qu84] at D
                  obtain rfl : u83 = u85 := qu83.symm.trans qu85
                  obtain rfl : u81 = u86 := qu81.symm.trans qu86
                  show jX m_X12_readRole 5 0 0 78 [(2, .int 1), (0, .ref 125), (1, .int v5)] [] _ 0 0 _
                  refine x_vret rfl rfl ?_
                  show jX m_X12_line 6 0 0 198 [(0, .ref 125), (1, .int l1), (2, .int l2), (3, .int l3), (4, .int l4), (5, .int l5), (7, .int l7), (8, .int l8), (9, .int l9), (10, .int l10)] [] _ 0 0 _
                  refine z_iinc (x := l9) (lsx9 := fun v88 => [(9, .int v88), (0, .ref 125), (1, .int l1), (2, .int l2), (3, .int l3), (4, .int l4), (5, .int l5), (7, .int l7), (8, .int l8), (10, .int l10)]) rfl rfl rfl jko_1 (by omega) rfl (fun _ => rfl) (fun v88 ev88 => ?_)
                  refine x_aloadn (x := 125) rfl rfl ?_
                  refine z_getI (N := 92) 12 14 rfl f_12_214 rfl J rfl sg_125_14_15_1_0_1 (fun v89 qv89 ev89 => ?_)
                  try rw [vrf qv89] at D
                  refine x_ifne (tgt := 221) rfl rfl (ti_ne rfl jk_0 ⟨fun c90 => ?_, fun c90 => ?_⟩)
                  ·
                    rw [if_neg (by omega)] at D
                    try rw [show (l9.toInt + 1) = v88.toInt from by omega] at D
                    exact jX.sub (jsb_c rfl (jsb_c rfl (jsb_c rfl (jsb_c rfl (jsb_c rfl (jsb_c rfl (jsb_c rfl (jsb_c rfl (jsb_c rfl jsb_n))))))))) (ct_X12_line_r125d_221 hD hQ ih l1 l2 l3 l4 l5 l7 l8 v88 g0 g1 g2 g3 g4 u81 u84 v89 u82 u83 h (jr_of rfl (by omega)) (jr_of rfl (by omega)) (jr_of rfl (by omega)) (jr_of rfl (by omega)) (jr_of rfl (by omega)) (jr_of rfl (by omega)) (jr_of rfl (by omega)) (jr_mod rfl (by omega)) (jr_of rfl (by omega)) (jr_of rfl (by omega)) (jr_of rfl (by omega)) (jr_of rfl (by omega)) (jr_of rfl (by omega)) (jr_of rfl (by omega)) (jr_of rfl (by omega)) (jr_of rfl (by omega)) (jr_of rfl (by omega)) (jr_of rfl (by omega)) (jr_of rfl (by omega)) (by omega) (by omega) (by omega) (jmc S80 rfl (jmc S67 rfl z0)) (jmc S80 rfl (jmc S67 rfl z1)) (jmc S80 rfl (jmc S67 rfl z2)) (jmc S80 rfl (jmc S67 rfl z3)) (jmc S80 rfl (jmc S67 rfl z4)) qu81 qu84 qv89 qu82 qu83 (by omega) J Sm D)
                  ·
                    rw [if_pos (by omega)] at D
                    refine x_aloadn (x := 125) rfl rfl ?_
                    refine x_bipush (v := 44) rfl kb_44 ?_
                    refine x_inv (N := m_X12_isSign) (As := [.int 44]) (b := 125) (st := []) (dx9 := 5) (mc := 0) (ms := 0) (host := "") 12 rfl t_X12_isSign ⟨Or.inl q_12_257, i_X12_isSign.1, i_X12_isSign.2⟩ ⟨by decide, rfl⟩ (congrArg Prod.fst (J.1.1 125 (12, 92) rfl)) rfl (by decide) rfl rfl ⟨by decide, by decide⟩ (jC.of rfl k_X12_isSign rfl ?_)
                    show jX m_X12_isSign 5 0 0 0 [(0, .ref 125), (1, .int 44)] [] _ 0 0 _
                    refine x_aloadn (x := 125) rfl rfl ?_
                    refine z_getM (N := 92) (v := u84) 12 11 rfl f_12_235 rfl J rfl qu84 ?_
                    refine x_iconst (v := 3) rfl ki_3 ?_
                    refine x_icne (tgt := 22) rfl rfl (ti_ne rfl jk_3 ⟨fun c91 => ?_, fun c91 => ?_⟩)
                    ·
                      rw [if_neg (by omega)] at D
                      refine x_iconst (v := 0) rfl ki_0 ?_
                      refine x_zret rfl rfl (by decide) ?_
                      show jX m_X12_line 6 0 0 214 [(9, .int v88), (0, .ref 125), (1, .int l1), (2, .int l2), (3, .int l3), (4, .int l4), (5, .int l5), (7, .int l7), (8, .int l8), (10, .int l10)] [.int 0] _ 0 0 _
                      refine x_ifeq (tgt := 221) rfl rfl (ti_eq jk_0 jk_0 (br_t (by omega) ?_))
                      try rw [show (l9.toInt + 1) = v88.toInt from by omega] at D
                      exact jX.sub (jsb_c rfl (jsb_c rfl (jsb_c rfl (jsb_c rfl (jsb_c rfl (jsb_c rfl (jsb_c rfl (jsb_c rfl (jsb_c rfl jsb_n))))))))) (ct_X12_line_r125d_221 hD hQ ih l1 l2 l3 l4 l5 l7 l8 v88 g0 g1 g2 g3 g4 u81 u84 v89 u82 u83 h (jr_of rfl (by omega)) (jr_of rfl (by omega)) (jr_of rfl (by omega)) (jr_of rfl (by omega)) (jr_of rfl (by omega)) (jr_of rfl (by omega)) (jr_of rfl (by omega)) (jr_mod rfl (by omega)) (jr_of rfl (by omega)) (jr_of rfl (by omega)) (jr_of rfl (by omega)) (jr_of rfl (by omega)) (jr_of rfl (by omega)) (jr_of rfl (by omega)) (jr_of rfl (by omega)) (jr_of rfl (by omega)) (jr_of rfl (by omega)) (jr_of rfl (by omega)) (jr_of rfl (by omega)) (by omega) (by omega) (by omega) (jmc S80 rfl (jmc S67 rfl z0)) (jmc S80 rfl (jmc S67 rfl z1)) (jmc S80 rfl (jmc S67 rfl z2)) (jmc S80 rfl (jmc S67 rfl z3)) (jmc S80 rfl (jmc S67 rfl z4)) qu81 qu84 qv89 qu82 qu83 (by omega) J Sm D)
                    ·
                      rw [if_pos (by omega)] at D
                      refine x_aloadn (x := 125) rfl rfl ?_
                      refine z_getLQ (N := 92) 12 12 rfl f_12_224 rfl J rfl (fun v92 qv92 => ?_)
                      have ev92 := jfullL v92
                      try rw [vrfL qv92] at D
                      refine x_iloadn (x := 44) rfl rfl ?_
                      refine z_i2l rfl jk_44 (fun v93 ev93 => ?_)
                      refine z_lcmp rfl rfl rfl (fun v94 ev94 => ?_)
                      refine x_ifne (tgt := 22) rfl rfl (ti_ne rfl jk_0 ⟨fun c95 => ?_, fun c95 => ?_⟩)
                      ·
                        rw [if_neg (by omega)] at D
                        refine x_iconst (v := 0) rfl ki_0 ?_
                        refine x_zret rfl rfl (by decide) ?_
                        show jX m_X12_line 6 0 0 214 [(9, .int v88), (0, .ref 125), (1, .int l1), (2, .int l2), (3, .int l3), (4, .int l4), (5, .int l5), (7, .int l7), (8, .int l8), (10, .int l10)] [.int 0] _ 0 0 _
                        refine x_ifeq (tgt := 221) rfl rfl (ti_eq jk_0 jk_0 (br_t (by omega) ?_))
                        try rw [show (l9.toInt + 1) = v88.toInt from by omega] at D
                        exact jX.sub (jsb_c rfl (jsb_c rfl (jsb_c rfl (jsb_c rfl (jsb_c rfl (jsb_c rfl (jsb_c rfl (jsb_c rfl (jsb_c rfl jsb_n))))))))) (ct_X12_line_r125d_221 hD hQ ih l1 l2 l3 l4 l5 l7 l8 v88 g0 g1 g2 g3 g4 u81 u84 v89 u82 u83 h (jr_of rfl (by omega)) (jr_of rfl (by omega)) (jr_of rfl (by omega)) (jr_of rfl (by omega)) (jr_of rfl (by omega)) (jr_of rfl (by omega)) (jr_of rfl (by omega)) (jr_mod rfl (by omega)) (jr_of rfl (by omega)) (jr_of rfl (by omega)) (jr_of rfl (by omega)) (jr_of rfl (by omega)) (jr_of rfl (by omega)) (jr_of rfl (by omega)) (jr_of rfl (by omega)) (jr_of rfl (by omega)) (jr_of rfl (by omega)) (jr_of rfl (by omega)) (jr_of rfl (by omega)) (by omega) (by omega) (by omega) (jmc S80 rfl (jmc S67 rfl z0)) (jmc S80 rfl (jmc S67 rfl z1)) (jmc S80 rfl (jmc S67 rfl z2)) (jmc S80 rfl (jmc S67 rfl z3)) (jmc S80 rfl (jmc S67 rfl z4)) qu81 qu84 qv89 qu82 qu83 (by omega) J Sm D)
                      ·
                        rw [if_pos (by omega)] at D
                        refine x_iconst (v := 1) rfl ki_1 ?_
                        refine x_goto (tgt := 23) rfl rfl ?_
                        refine x_zret rfl rfl (by decide) ?_
                        show jX m_X12_line 6 0 0 214 [(9, .int v88), (0, .ref 125), (1, .int l1), (2, .int l2), (3, .int l3), (4, .int l4), (5, .int l5), (7, .int l7), (8, .int l8), (10, .int l10)] [.int 1] _ 0 0 _
                        refine x_ifeq (tgt := 221) rfl rfl (ti_eq jk_1 jk_0 (br_f (by omega) ?_))
                        refine x_iconst (v := 1) rfl ki_1 ?_
                        refine x_goto (tgt := 222) rfl rfl ?_
                        try rw [show (l9.toInt + 1) = v88.toInt from by omega] at D
                        exact jX.sub (jsb_c rfl (jsb_c rfl (jsb_c rfl (jsb_c rfl (jsb_c rfl (jsb_c rfl (jsb_c rfl (jsb_c rfl (jsb_c rfl jsb_n))))))))) (ct_X12_line_r125d_300222 hD hQ ih l1 l2 l3 l4 l5 l7 l8 v88 g0 g1 g2 g3 g4 u81 u84 v89 u82 u83 h (jr_of rfl (by omega)) (jr_of rfl (by omega)) (jr_of rfl (by omega)) (jr_of rfl (by omega)) (jr_of rfl (by omega)) (jr_of rfl (by omega)) (jr_of rfl (by omega)) (jr_mod rfl (by omega)) (jr_of rfl (by omega)) (jr_of rfl (by omega)) (jr_of rfl (by omega)) (jr_of rfl (by omega)) (jr_of rfl (by omega)) (jr_of rfl (by omega)) (jr_of rfl (by omega)) (jr_of rfl (by omega)) (jr_of rfl (by omega)) (jr_of rfl (by omega)) (jr_of rfl (by omega)) (by omega) (by omega) (by omega) (jmc S80 rfl (jmc S67 rfl z0)) (jmc S80 rfl (jmc S67 rfl z1)) (jmc S80 rfl (jmc S67 rfl z2)) (jmc S80 rfl (jmc S67 rfl z3)) (jmc S80 rfl (jmc S67 rfl z4)) qu81 qu84 qv89 qu82 qu83 (by omega) J Sm D)
                ·
                  rw [if_pos (by omega)] at D
                  refine x_aloadn (x := 125) rfl rfl ?_
                  refine z_getR (N := 92) (b := 126) 12 2 rfl f_12_8 rfl J rfl 16002 ⟨rfl, rfl⟩ rfl ?_
                  refine x_iloadn (x := v5) rfl rfl ?_
                  refine x_bipush (v := 14) rfl kb_14 ?_
                  refine z_iadd rfl rfl jk_14 (by omega) (fun v96 ev96 => ?_)
                  refine x_iconst (v := 0) rfl ki_0 ?_
                  refine z_iast (N := 50660) (l := 20) (u := 18020) (w := 0) rfl hD J Sm rfl rfl rfl (by omega) jk_0 (wr_126_20 (by omega) (fun q1 q2 q3 q4 => by omega) (fun q1 q2 q3 q4 => by omega) (fun q1 q2 q3 q4 => by omega) (fun q1 q2 q3 q4 => by omega) (fun q1 q2 q3 q4 => by omega) (fun q1 q2 q3 q4 => by omega) (fun q1 q2 q3 q4 => by omega) (fun q1 q2 q3 q4 => by omega) (fun q1 q2 q3 q4 => by omega) (fun q1 q2 q3 q4 => by omega) (fun q1 q2 q3 q4 => by omega) (fun q1 q2 q3 q4 => by omega) (fun q1 q2 q3 q4 => by omega) (fun q1 q2 q3 q4 => by omega) (fun q1 q2 q3 q4 => by omega) (fun q1 q2 q3 q4 => by omega) (fun q1 q2 q3 q4 => by omega) (fun q1 q2 q3 q4 => by omega) (fun q1 q2 q3 q4 => by omega) (fun q1 q2 q3 q4 => by omega) (fun q1 q2 q3 q4 => by omega) (fun q1 q2 q3 q4 => by omega) (fun q1 q2 q3 q4 => by omega)) rfl (fun h w97 J Sm => ?_)
                  rw [vww w97 (show (v5.toInt + 14) = v96.toInt from by omega) (show 0 = (0 : Int32).toInt from by have := jk_0; omega)] at D
                  refine x_aloadn (x := 125) rfl rfl ?_
                  refine z_getR (N := 92) (b := 126) 12 2 rfl f_12_8 rfl J rfl 16002 ⟨rfl, rfl⟩ rfl ?_
                  refine x_iloadn (x := v5) rfl rfl ?_
                  refine x_bipush (v := 15) rfl kb_15 ?_
                  refine z_iadd rfl rfl jk_15 (by omega) (fun v98 ev98 => ?_)
                  refine x_iconst (v := 0) rfl ki_0 ?_
                  refine z_iast (N := 50660) (l := 20) (u := 18020) (w := 0) rfl hD J Sm rfl rfl rfl (by omega) jk_0 (wr_126_20 (by omega) (fun q1 q2 q3 q4 => by omega) (fun q1 q2 q3 q4 => by omega) (fun q1 q2 q3 q4 => by omega) (fun q1 q2 q3 q4 => by omega) (fun q1 q2 q3 q4 => by omega) (fun q1 q2 q3 q4 => by omega) (fun q1 q2 q3 q4 => by omega) (fun q1 q2 q3 q4 => by omega) (fun q1 q2 q3 q4 => by omega) (fun q1 q2 q3 q4 => by omega) (fun q1 q2 q3 q4 => by omega) (fun q1 q2 q3 q4 => by omega) (fun q1 q2 q3 q4 => by omega) (fun q1 q2 q3 q4 => by omega) (fun q1 q2 q3 q4 => by omega) (fun q1 q2 q3 q4 => by omega) (fun q1 q2 q3 q4 => by omega) (fun q1 q2 q3 q4 => by omega) (fun q1 q2 q3 q4 => by omega) (fun q1 q2 q3 q4 => by omega) (fun q1 q2 q3 q4 => by omega) (fun q1 q2 q3 q4 => by omega) (fun q1 q2 q3 q4 => by omega)) rfl (fun h w99 J Sm => ?_)
                  rw [vww w99 (show (v5.toInt + 15) = v98.toInt from by omega) (show 0 = (0 : Int32).toInt from by have := jk_0; omega)] at D
                  refine x_vret rfl rfl ?_
                  show jX m_X12_line 6 0 0 198 [(0, .ref 125), (1, .int l1), (2, .int l2), (3, .int l3), (4, .int l4), (5, .int l5), (7, .int l7), (8, .int l8), (9, .int l9), (10, .int l10)] [] _ 0 0 _
                  refine z_iinc (x := l9) (lsx9 := fun v100 => [(9, .int v100), (0, .ref 125), (1, .int l1), (2, .int l2), (3, .int l3), (4, .int l4), (5, .int l5), (7, .int l7), (8, .int l8), (10, .int l10)]) rfl rfl rfl jko_1 (by omega) rfl (fun _ => rfl) (fun v100 ev100 => ?_)
                  refine x_aloadn (x := 125) rfl rfl ?_
                  refine z_getM (N := 92) (v := v75) 12 14 rfl f_12_214 rfl J rfl (jmo w99 rfl (jmo w97 rfl qv75)) ?_
                  refine x_ifne (tgt := 221) rfl rfl (ti_ne rfl jk_0 (bn_f (by omega) ?_))
                  refine x_aloadn (x := 125) rfl rfl ?_
                  refine x_bipush (v := 44) rfl kb_44 ?_
                  refine x_inv (N := m_X12_isSign) (As := [.int 44]) (b := 125) (st := []) (dx9 := 5) (mc := 0) (ms := 0) (host := "") 12 rfl t_X12_isSign ⟨Or.inl q_12_257, i_X12_isSign.1, i_X12_isSign.2⟩ ⟨by decide, rfl⟩ (congrArg Prod.fst (J.1.1 125 (12, 92) rfl)) rfl (by decide) rfl rfl ⟨by decide, by decide⟩ (jC.of rfl k_X12_isSign rfl ?_)
                  show jX m_X12_isSign 5 0 0 0 [(0, .ref 125), (1, .int 44)] [] _ 0 0 _
                  refine x_aloadn (x := 125) rfl rfl ?_
                  refine z_getM (N := 92) (v := u71) 12 11 rfl f_12_235 rfl J rfl (jmo w99 rfl (jmo w97 rfl qu71)) ?_
                  refine x_iconst (v := 3) rfl ki_3 ?_
                  refine x_icne (tgt := 22) rfl rfl (ti_ne rfl jk_3 (bn_t (by omega) ?_))
                  refine x_iconst (v := 0) rfl ki_0 ?_
                  refine x_zret rfl rfl (by decide) ?_
                  show jX m_X12_line 6 0 0 214 [(9, .int v100), (0, .ref 125), (1, .int l1), (2, .int l2), (3, .int l3), (4, .int l4), (5, .int l5), (7, .int l7), (8, .int l8), (10, .int l10)] [.int 0] _ 0 0 _
                  refine x_ifeq (tgt := 221) rfl rfl (ti_eq jk_0 jk_0 (br_t (by omega) ?_))
                  try rw [show (l9.toInt + 1) = v100.toInt from by omega] at D
                  exact jX.sub (jsb_c rfl (jsb_c rfl (jsb_c rfl (jsb_c rfl (jsb_c rfl (jsb_c rfl (jsb_c rfl (jsb_c rfl (jsb_c rfl jsb_n))))))))) (ct_X12_line_r125d_221 hD hQ ih l1 l2 l3 l4 l5 l7 l8 v100 g0 g1 g2 g3 g4 u68 u71 v75 u69 u70 h (jr_of rfl (by omega)) (jr_of rfl (by omega)) (jr_of rfl (by omega)) (jr_of rfl (by omega)) (jr_of rfl (by omega)) (jr_of rfl (by omega)) (jr_of rfl (by omega)) (jr_mod rfl (by omega)) (jr_of rfl (by omega)) (jr_of rfl (by omega)) (jr_of rfl (by omega)) (jr_of rfl (by omega)) (jr_of rfl (by omega)) (jr_of rfl (by omega)) (jr_of rfl (by omega)) (jr_of rfl (by omega)) (jr_of rfl (by omega)) (jr_of rfl (by omega)) (jr_of rfl (by omega)) (by omega) (by omega) (by omega) (jmo2 w99 rfl jk_0 (by omega) (jmo2 w97 rfl jk_0 (by omega) (jmc S67 rfl z0))) (jmo2 w99 rfl jk_16 (by omega) (jmo2 w97 rfl jk_16 (by omega) (jmc S67 rfl z1))) (jmo2 w99 rfl jk_4 (by omega) (jmo2 w97 rfl jk_4 (by omega) (jmc S67 rfl z2))) (jmo2 w99 rfl jk_5 (by omega) (jmo2 w97 rfl jk_5 (by omega) (jmc S67 rfl z3))) (jmo2 w99 rfl jk_7 (by omega) (jmo2 w97 rfl jk_7 (by omega) (jmc S67 rfl z4))) (jmo w99 rfl (jmo w97 rfl qu68)) (jmo w99 rfl (jmo w97 rfl qu71)) (jmo w99 rfl (jmo w97 rfl qv75)) (jmo w99 rfl (jmo w97 rfl qu69)) (jmo w99 rfl (jmo w97 rfl qu70)) (by omega) J Sm D)
              ·
                rw [if_pos (by omega)] at D
                refine x_aloadn (x := 125) rfl rfl ?_
                refine z_getLQ (N := 92) 12 12 rfl f_12_224 rfl J rfl (fun v101 qv101 => ?_)
                have ev101 := jfullL v101
                try rw [vrfL qv101] at D
                refine x_iloadn (x := 44) rfl rfl ?_
                refine z_i2l rfl jk_44 (fun v102 ev102 => ?_)
                refine z_lcmp rfl rfl rfl (fun v103 ev103 => ?_)
                refine x_ifne (tgt := 22) rfl rfl (ti_ne rfl jk_0 ⟨fun c104 => ?_, fun c104 => ?_⟩)
                ·
                  rw [if_neg (by omega)] at D
                  refine x_iconst (v := 0) rfl ki_0 ?_
                  refine x_zret rfl rfl (by decide) ?_
                  show jX m_X12_readRole 5 0 0 30 [(2, .int 1), (0, .ref 125), (1, .int v5)] [.int 0] _ 0 0 _
                  refine x_ifne (tgt := 49) rfl rfl (ti_ne jk_0 jk_0 (bn_f (by omega) ?_))
                  refine x_aloadn (x := 125) rfl rfl ?_
                  refine x_bipush (v := 46) rfl kb_46 ?_
                  refine x_inv (N := m_X12_isSign) (As := [.int 46]) (b := 125) (st := []) (dx9 := 4) (mc := 0) (ms := 0) (host := "") 12 rfl t_X12_isSign ⟨Or.inl q_12_257, i_X12_isSign.1, i_X12_isSign.2⟩ ⟨by decide, rfl⟩ (congrArg Prod.fst (J.1.1 125 (12, 92) rfl)) rfl (by decide) rfl rfl ⟨by decide, by decide⟩ (jC.of rfl k_X12_isSign rfl ?_)
                  show jX m_X12_isSign 4 0 0 0 [(0, .ref 125), (1, .int 46)] [] _ 0 0 _
                  refine x_aloadn (x := 125) rfl rfl ?_
                  refine z_getM (N := 92) (v := u71) 12 11 rfl f_12_235 rfl J rfl qu71 ?_
                  refine x_iconst (v := 3) rfl ki_3 ?_
                  refine x_icne (tgt := 22) rfl rfl (ti_ne rfl jk_3 (bn_f (by omega) ?_))
                  refine x_aloadn (x := 125) rfl rfl ?_
                  refine z_getLQ (N := 92) 12 12 rfl f_12_224 rfl J rfl (fun v105 qv105 => ?_)
                  have ev105 := jfullL v105
                  try have kqv105 : v101.toInt = v105.toInt := ((vrfL qv101).symm.trans (vrfL qv105))
                  try rw [show v101.toInt = v105.toInt from ((vrfL qv101).symm.trans (vrfL qv105))] at D
                  try rw [vrfL qv105] at D
                  refine x_iloadn (x := 46) rfl rfl ?_
                  refine z_i2l rfl jk_46 (fun v106 ev106 => ?_)
                  refine z_lcmp rfl rfl rfl (fun v107 ev107 => ?_)
                  refine x_ifne (tgt := 22) rfl rfl (ti_ne rfl jk_0 ⟨fun c108 => ?_, fun c108 => ?_⟩)
                  ·
                    rw [if_neg (by omega)] at D
                    refine x_iconst (v := 0) rfl ki_0 ?_
                    refine x_zret rfl rfl (by decide) ?_
                    show jX m_X12_readRole 5 0 0 39 [(2, .int 1), (0, .ref 125), (1, .int v5)] [.int 0] _ 0 0 _
                    refine x_ifne (tgt := 49) rfl rfl (ti_ne jk_0 jk_0 (bn_f (by omega) ?_))
                    refine x_aloadn (x := 125) rfl rfl ?_
                    refine z_getM (N := 92) (v := u71) 12 11 rfl f_12_235 rfl J rfl qu71 ?_
                    refine x_ifne (tgt := 70) rfl rfl (ti_ne rfl jk_0 (bn_t (by omega) ?_))
                    refine x_aloadn (x := 125) rfl rfl ?_
                    refine x_iloadn (x := v5) rfl rfl ?_
                    refine x_bipush (v := 14) rfl kb_14 ?_
                    refine z_iadd rfl rfl jk_14 (by omega) (fun v109 ev109 => ?_)
                    try rw [show (v5.toInt + 14) = v109.toInt from by omega] at D
                    refine x_inv (N := m_X12_readName) (As := [.int v109]) (b := 125) (st := []) (dx9 := 4) (mc := 0) (ms := 0) (host := "") 12 rfl t_X12_readName ⟨Or.inl q_12_260, i_X12_readName.1, i_X12_readName.2⟩ ⟨by decide, rfl⟩ (congrArg Prod.fst (J.1.1 125 (12, 92) rfl)) rfl (by decide) rfl rfl ⟨by decide, by decide⟩ (sf_X12_readName_r125d (jr_of rfl (by omega)) (jr_mod rfl (by omega)) (by omega) hD J qu68 qu69 qu70 (by omega) qu71 qu70 qu68 (by omega) rfl  (fun h J S110 u111 u112 u113 qu111 qu112 qu113 ru111 u114 u115 u116 qu114 qu115 qu116 ru114 X117 => ?_))
                    have Sm := jSm_tr rfl Sm S110
                    rw [X117] at D
                    have eu111 := (show 0 ≤ u111.toInt ∧ u111.toInt ≤ 400 from qu111 ▸ jrg_f J sg_125_10_11_1_0_1)
                    try rw [vrf qu111] at D
                    have eu112 := (show 0 ≤ u112.toInt ∧ u112.toInt ≤ 400 from qu112 ▸ jrg_f J sg_125_8_9_1_0_1)
                    try have kqu112 : u69.toInt = u112.toInt := ((vrf (jmb_c S67 qu69 rfl)).symm.trans (vrf (jmb_c S67 (jmb_c S110 qu112 rfl) rfl)))
                    try rw [show u69.toInt = u112.toInt from ((vrf (jmb_c S67 qu69 rfl)).symm.trans (vrf (jmb_c S67 (jmb_c S110 qu112 rfl) rfl)))] at D
                    try rw [vrf (jmb_c S67 (jmb_c S110 qu112 rfl) rfl)] at D
                    have eu113 := (show 0 ≤ u113.toInt ∧ u113.toInt ≤ 400 from qu113 ▸ jrg_f J sg_125_9_10_1_0_1)
                    try rw [vrf qu113] at D
                    have eu114 := (show 0 ≤ u114.toInt ∧ u114.toInt ≤ 3 from qu114 ▸ jrg_f J sg_125_11_12_1_0_1)
                    try rw [vrf qu114] at D
                    obtain rfl : u113 = u115 := qu113.symm.trans qu115
                    obtain rfl : u111 = u116 := qu111.symm.trans qu116
                    show jX m_X12_readRole 5 0 0 78 [(2, .int 1), (0, .ref 125), (1, .int v5)] [] _ 0 0 _
                    refine x_vret rfl rfl ?_
                    show jX m_X12_line 6 0 0 198 [(0, .ref 125), (1, .int l1), (2, .int l2), (3, .int l3), (4, .int l4), (5, .int l5), (7, .int l7), (8, .int l8), (9, .int l9), (10, .int l10)] [] _ 0 0 _
                    refine z_iinc (x := l9) (lsx9 := fun v118 => [(9, .int v118), (0, .ref 125), (1, .int l1), (2, .int l2), (3, .int l3), (4, .int l4), (5, .int l5), (7, .int l7), (8, .int l8), (10, .int l10)]) rfl rfl rfl jko_1 (by omega) rfl (fun _ => rfl) (fun v118 ev118 => ?_)
                    refine x_aloadn (x := 125) rfl rfl ?_
                    refine z_getI (N := 92) 12 14 rfl f_12_214 rfl J rfl sg_125_14_15_1_0_1 (fun v119 qv119 ev119 => ?_)
                    try rw [vrf qv119] at D
                    refine x_ifne (tgt := 221) rfl rfl (ti_ne rfl jk_0 ⟨fun c120 => ?_, fun c120 => ?_⟩)
                    ·
                      rw [if_neg (by omega)] at D
                      try rw [show (l9.toInt + 1) = v118.toInt from by omega] at D
                      exact jX.sub (jsb_c rfl (jsb_c rfl (jsb_c rfl (jsb_c rfl (jsb_c rfl (jsb_c rfl (jsb_c rfl (jsb_c rfl (jsb_c rfl jsb_n))))))))) (ct_X12_line_r125d_221 hD hQ ih l1 l2 l3 l4 l5 l7 l8 v118 g0 g1 g2 g3 g4 u111 u114 v119 u112 u113 h (jr_of rfl (by omega)) (jr_of rfl (by omega)) (jr_of rfl (by omega)) (jr_of rfl (by omega)) (jr_of rfl (by omega)) (jr_of rfl (by omega)) (jr_of rfl (by omega)) (jr_mod rfl (by omega)) (jr_of rfl (by omega)) (jr_of rfl (by omega)) (jr_of rfl (by omega)) (jr_of rfl (by omega)) (jr_of rfl (by omega)) (jr_of rfl (by omega)) (jr_of rfl (by omega)) (jr_of rfl (by omega)) (jr_of rfl (by omega)) (jr_of rfl (by omega)) (jr_of rfl (by omega)) (by omega) (by omega) (by omega) (jmc S110 rfl (jmc S67 rfl z0)) (jmc S110 rfl (jmc S67 rfl z1)) (jmc S110 rfl (jmc S67 rfl z2)) (jmc S110 rfl (jmc S67 rfl z3)) (jmc S110 rfl (jmc S67 rfl z4)) qu111 qu114 qv119 qu112 qu113 (by omega) J Sm D)
                    ·
                      rw [if_pos (by omega)] at D
                      refine x_aloadn (x := 125) rfl rfl ?_
                      refine x_bipush (v := 44) rfl kb_44 ?_
                      refine x_inv (N := m_X12_isSign) (As := [.int 44]) (b := 125) (st := []) (dx9 := 5) (mc := 0) (ms := 0) (host := "") 12 rfl t_X12_isSign ⟨Or.inl q_12_257, i_X12_isSign.1, i_X12_isSign.2⟩ ⟨by decide, rfl⟩ (congrArg Prod.fst (J.1.1 125 (12, 92) rfl)) rfl (by decide) rfl rfl ⟨by decide, by decide⟩ (jC.of rfl k_X12_isSign rfl ?_)
                      show jX m_X12_isSign 5 0 0 0 [(0, .ref 125), (1, .int 44)] [] _ 0 0 _
                      refine x_aloadn (x := 125) rfl rfl ?_
                      refine z_getM (N := 92) (v := u114) 12 11 rfl f_12_235 rfl J rfl qu114 ?_
                      refine x_iconst (v := 3) rfl ki_3 ?_
                      refine x_icne (tgt := 22) rfl rfl (ti_ne rfl jk_3 ⟨fun c121 => ?_, fun c121 => ?_⟩)
                      ·
                        rw [if_neg (by omega)] at D
                        refine x_iconst (v := 0) rfl ki_0 ?_
                        refine x_zret rfl rfl (by decide) ?_
                        show jX m_X12_line 6 0 0 214 [(9, .int v118), (0, .ref 125), (1, .int l1), (2, .int l2), (3, .int l3), (4, .int l4), (5, .int l5), (7, .int l7), (8, .int l8), (10, .int l10)] [.int 0] _ 0 0 _
                        refine x_ifeq (tgt := 221) rfl rfl (ti_eq jk_0 jk_0 (br_t (by omega) ?_))
                        try rw [show (l9.toInt + 1) = v118.toInt from by omega] at D
                        exact jX.sub (jsb_c rfl (jsb_c rfl (jsb_c rfl (jsb_c rfl (jsb_c rfl (jsb_c rfl (jsb_c rfl (jsb_c rfl (jsb_c rfl jsb_n))))))))) (ct_X12_line_r125d_221 hD hQ ih l1 l2 l3 l4 l5 l7 l8 v118 g0 g1 g2 g3 g4 u111 u114 v119 u112 u113 h (jr_of rfl (by omega)) (jr_of rfl (by omega)) (jr_of rfl (by omega)) (jr_of rfl (by omega)) (jr_of rfl (by omega)) (jr_of rfl (by omega)) (jr_of rfl (by omega)) (jr_mod rfl (by omega)) (jr_of rfl (by omega)) (jr_of rfl (by omega)) (jr_of rfl (by omega)) (jr_of rfl (by omega)) (jr_of rfl (by omega)) (jr_of rfl (by omega)) (jr_of rfl (by omega)) (jr_of rfl (by omega)) (jr_of rfl (by omega)) (jr_of rfl (by omega)) (jr_of rfl (by omega)) (by omega) (by omega) (by omega) (jmc S110 rfl (jmc S67 rfl z0)) (jmc S110 rfl (jmc S67 rfl z1)) (jmc S110 rfl (jmc S67 rfl z2)) (jmc S110 rfl (jmc S67 rfl z3)) (jmc S110 rfl (jmc S67 rfl z4)) qu111 qu114 qv119 qu112 qu113 (by omega) J Sm D)
                      ·
                        rw [if_pos (by omega)] at D
                        refine x_aloadn (x := 125) rfl rfl ?_
                        refine z_getLQ (N := 92) 12 12 rfl f_12_224 rfl J rfl (fun v122 qv122 => ?_)
                        have ev122 := jfullL v122
                        try rw [vrfL qv122] at D
                        refine x_iloadn (x := 44) rfl rfl ?_
                        refine z_i2l rfl jk_44 (fun v123 ev123 => ?_)
                        refine z_lcmp rfl rfl rfl (fun v124 ev124 => ?_)
                        refine x_ifne (tgt := 22) rfl rfl (ti_ne rfl jk_0 ⟨fun c125 => ?_, fun c125 => ?_⟩)
                        ·
                          rw [if_neg (by omega)] at D
                          refine x_iconst (v := 0) rfl ki_0 ?_
                          refine x_zret rfl rfl (by decide) ?_
                          show jX m_X12_line 6 0 0 214 [(9, .int v118), (0, .ref 125), (1, .int l1), (2, .int l2), (3, .int l3), (4, .int l4), (5, .int l5), (7, .int l7), (8, .int l8), (10, .int l10)] [.int 0] _ 0 0 _
                          refine x_ifeq (tgt := 221) rfl rfl (ti_eq jk_0 jk_0 (br_t (by omega) ?_))
                          try rw [show (l9.toInt + 1) = v118.toInt from by omega] at D
                          exact jX.sub (jsb_c rfl (jsb_c rfl (jsb_c rfl (jsb_c rfl (jsb_c rfl (jsb_c rfl (jsb_c rfl (jsb_c rfl (jsb_c rfl jsb_n))))))))) (ct_X12_line_r125d_221 hD hQ ih l1 l2 l3 l4 l5 l7 l8 v118 g0 g1 g2 g3 g4 u111 u114 v119 u112 u113 h (jr_of rfl (by omega)) (jr_of rfl (by omega)) (jr_of rfl (by omega)) (jr_of rfl (by omega)) (jr_of rfl (by omega)) (jr_of rfl (by omega)) (jr_of rfl (by omega)) (jr_mod rfl (by omega)) (jr_of rfl (by omega)) (jr_of rfl (by omega)) (jr_of rfl (by omega)) (jr_of rfl (by omega)) (jr_of rfl (by omega)) (jr_of rfl (by omega)) (jr_of rfl (by omega)) (jr_of rfl (by omega)) (jr_of rfl (by omega)) (jr_of rfl (by omega)) (jr_of rfl (by omega)) (by omega) (by omega) (by omega) (jmc S110 rfl (jmc S67 rfl z0)) (jmc S110 rfl (jmc S67 rfl z1)) (jmc S110 rfl (jmc S67 rfl z2)) (jmc S110 rfl (jmc S67 rfl z3)) (jmc S110 rfl (jmc S67 rfl z4)) qu111 qu114 qv119 qu112 qu113 (by omega) J Sm D)
                        ·
                          rw [if_pos (by omega)] at D
                          refine x_iconst (v := 1) rfl ki_1 ?_
                          refine x_goto (tgt := 23) rfl rfl ?_
                          refine x_zret rfl rfl (by decide) ?_
                          show jX m_X12_line 6 0 0 214 [(9, .int v118), (0, .ref 125), (1, .int l1), (2, .int l2), (3, .int l3), (4, .int l4), (5, .int l5), (7, .int l7), (8, .int l8), (10, .int l10)] [.int 1] _ 0 0 _
                          refine x_ifeq (tgt := 221) rfl rfl (ti_eq jk_1 jk_0 (br_f (by omega) ?_))
                          refine x_iconst (v := 1) rfl ki_1 ?_
                          refine x_goto (tgt := 222) rfl rfl ?_
                          try rw [show (l9.toInt + 1) = v118.toInt from by omega] at D
                          exact jX.sub (jsb_c rfl (jsb_c rfl (jsb_c rfl (jsb_c rfl (jsb_c rfl (jsb_c rfl (jsb_c rfl (jsb_c rfl (jsb_c rfl jsb_n))))))))) (ct_X12_line_r125d_300222 hD hQ ih l1 l2 l3 l4 l5 l7 l8 v118 g0 g1 g2 g3 g4 u111 u114 v119 u112 u113 h (jr_of rfl (by omega)) (jr_of rfl (by omega)) (jr_of rfl (by omega)) (jr_of rfl (by omega)) (jr_of rfl (by omega)) (jr_of rfl (by omega)) (jr_of rfl (by omega)) (jr_mod rfl (by omega)) (jr_of rfl (by omega)) (jr_of rfl (by omega)) (jr_of rfl (by omega)) (jr_of rfl (by omega)) (jr_of rfl (by omega)) (jr_of rfl (by omega)) (jr_of rfl (by omega)) (jr_of rfl (by omega)) (jr_of rfl (by omega)) (jr_of rfl (by omega)) (jr_of rfl (by omega)) (by omega) (by omega) (by omega) (jmc S110 rfl (jmc S67 rfl z0)) (jmc S110 rfl (jmc S67 rfl z1)) (jmc S110 rfl (jmc S67 rfl z2)) (jmc S110 rfl (jmc S67 rfl z3)) (jmc S110 rfl (jmc S67 rfl z4)) qu111 qu114 qv119 qu112 qu113 (by omega) J Sm D)
                  ·
                    rw [if_pos (by omega)] at D
                    refine x_iconst (v := 1) rfl ki_1 ?_
                    refine x_goto (tgt := 23) rfl rfl ?_
                    refine x_zret rfl rfl (by decide) ?_
                    show jX m_X12_readRole 5 0 0 39 [(2, .int 1), (0, .ref 125), (1, .int v5)] [.int 1] _ 0 0 _
                    refine x_ifne (tgt := 49) rfl rfl (ti_ne jk_1 jk_0 (bn_t (by omega) ?_))
                    refine x_aloadn (x := 125) rfl rfl ?_
                    refine z_getR (N := 92) (b := 126) 12 2 rfl f_12_8 rfl J rfl 16002 ⟨rfl, rfl⟩ rfl ?_
                    refine x_iloadn (x := v5) rfl rfl ?_
                    refine x_bipush (v := 14) rfl kb_14 ?_
                    refine z_iadd rfl rfl jk_14 (by omega) (fun v126 ev126 => ?_)
                    refine x_iconst (v := 0) rfl ki_0 ?_
                    refine z_iast (N := 50660) (l := 20) (u := 18020) (w := 0) rfl hD J Sm rfl rfl rfl (by omega) jk_0 (wr_126_20 (by omega) (fun q1 q2 q3 q4 => by omega) (fun q1 q2 q3 q4 => by omega) (fun q1 q2 q3 q4 => by omega) (fun q1 q2 q3 q4 => by omega) (fun q1 q2 q3 q4 => by omega) (fun q1 q2 q3 q4 => by omega) (fun q1 q2 q3 q4 => by omega) (fun q1 q2 q3 q4 => by omega) (fun q1 q2 q3 q4 => by omega) (fun q1 q2 q3 q4 => by omega) (fun q1 q2 q3 q4 => by omega) (fun q1 q2 q3 q4 => by omega) (fun q1 q2 q3 q4 => by omega) (fun q1 q2 q3 q4 => by omega) (fun q1 q2 q3 q4 => by omega) (fun q1 q2 q3 q4 => by omega) (fun q1 q2 q3 q4 => by omega) (fun q1 q2 q3 q4 => by omega) (fun q1 q2 q3 q4 => by omega) (fun q1 q2 q3 q4 => by omega) (fun q1 q2 q3 q4 => by omega) (fun q1 q2 q3 q4 => by omega) (fun q1 q2 q3 q4 => by omega)) rfl (fun h w127 J Sm => ?_)
                    rw [vww w127 (show (v5.toInt + 14) = v126.toInt from by omega) (show 0 = (0 : Int32).toInt from by have := jk_0; omega)] at D
                    refine x_aloadn (x := 125) rfl rfl ?_
                    refine z_getR (N := 92) (b := 126) 12 2 rfl f_12_8 rfl J rfl 16002 ⟨rfl, rfl⟩ rfl ?_
                    refine x_iloadn (x := v5) rfl rfl ?_
                    refine x_bipush (v := 15) rfl kb_15 ?_
                    refine z_iadd rfl rfl jk_15 (by omega) (fun v128 ev128 => ?_)
                    refine x_iconst (v := 0) rfl ki_0 ?_
                    refine z_iast (N := 50660) (l := 20) (u := 18020) (w := 0) rfl hD J Sm rfl rfl rfl (by omega) jk_0 (wr_126_20 (by omega) (fun q1 q2 q3 q4 => by omega) (fun q1 q2 q3 q4 => by omega) (fun q1 q2 q3 q4 => by omega) (fun q1 q2 q3 q4 => by omega) (fun q1 q2 q3 q4 => by omega) (fun q1 q2 q3 q4 => by omega) (fun q1 q2 q3 q4 => by omega) (fun q1 q2 q3 q4 => by omega) (fun q1 q2 q3 q4 => by omega) (fun q1 q2 q3 q4 => by omega) (fun q1 q2 q3 q4 => by omega) (fun q1 q2 q3 q4 => by omega) (fun q1 q2 q3 q4 => by omega) (fun q1 q2 q3 q4 => by omega) (fun q1 q2 q3 q4 => by omega) (fun q1 q2 q3 q4 => by omega) (fun q1 q2 q3 q4 => by omega) (fun q1 q2 q3 q4 => by omega) (fun q1 q2 q3 q4 => by omega) (fun q1 q2 q3 q4 => by omega) (fun q1 q2 q3 q4 => by omega) (fun q1 q2 q3 q4 => by omega) (fun q1 q2 q3 q4 => by omega)) rfl (fun h w129 J Sm => ?_)
                    rw [vww w129 (show (v5.toInt + 15) = v128.toInt from by omega) (show 0 = (0 : Int32).toInt from by have := jk_0; omega)] at D
                    refine x_vret rfl rfl ?_
                    show jX m_X12_line 6 0 0 198 [(0, .ref 125), (1, .int l1), (2, .int l2), (3, .int l3), (4, .int l4), (5, .int l5), (7, .int l7), (8, .int l8), (9, .int l9), (10, .int l10)] [] _ 0 0 _
                    refine z_iinc (x := l9) (lsx9 := fun v130 => [(9, .int v130), (0, .ref 125), (1, .int l1), (2, .int l2), (3, .int l3), (4, .int l4), (5, .int l5), (7, .int l7), (8, .int l8), (10, .int l10)]) rfl rfl rfl jko_1 (by omega) rfl (fun _ => rfl) (fun v130 ev130 => ?_)
                    refine x_aloadn (x := 125) rfl rfl ?_
                    refine z_getM (N := 92) (v := v75) 12 14 rfl f_12_214 rfl J rfl (jmo w129 rfl (jmo w127 rfl qv75)) ?_
                    refine x_ifne (tgt := 221) rfl rfl (ti_ne rfl jk_0 (bn_f (by omega) ?_))
                    refine x_aloadn (x := 125) rfl rfl ?_
                    refine x_bipush (v := 44) rfl kb_44 ?_
                    refine x_inv (N := m_X12_isSign) (As := [.int 44]) (b := 125) (st := []) (dx9 := 5) (mc := 0) (ms := 0) (host := "") 12 rfl t_X12_isSign ⟨Or.inl q_12_257, i_X12_isSign.1, i_X12_isSign.2⟩ ⟨by decide, rfl⟩ (congrArg Prod.fst (J.1.1 125 (12, 92) rfl)) rfl (by decide) rfl rfl ⟨by decide, by decide⟩ (jC.of rfl k_X12_isSign rfl ?_)
                    show jX m_X12_isSign 5 0 0 0 [(0, .ref 125), (1, .int 44)] [] _ 0 0 _
                    refine x_aloadn (x := 125) rfl rfl ?_
                    refine z_getM (N := 92) (v := u71) 12 11 rfl f_12_235 rfl J rfl (jmo w129 rfl (jmo w127 rfl qu71)) ?_
                    refine x_iconst (v := 3) rfl ki_3 ?_
                    refine x_icne (tgt := 22) rfl rfl (ti_ne rfl jk_3 (bn_f (by omega) ?_))
                    refine x_aloadn (x := 125) rfl rfl ?_
                    refine z_getLQ (N := 92) 12 12 rfl f_12_224 rfl J rfl (fun v131 qv131 => ?_)
                    have ev131 := jfullL v131
                    try rw [vrfL qv131] at D
                    refine x_iloadn (x := 44) rfl rfl ?_
                    refine z_i2l rfl jk_44 (fun v132 ev132 => ?_)
                    refine z_lcmp rfl rfl rfl (fun v133 ev133 => ?_)
                    refine x_ifne (tgt := 22) rfl rfl (ti_ne rfl jk_0 ⟨fun c134 => ?_, fun c134 => ?_⟩)
                    ·
                      rw [if_neg (by omega)] at D
                      refine x_iconst (v := 0) rfl ki_0 ?_
                      refine x_zret rfl rfl (by decide) ?_
                      show jX m_X12_line 6 0 0 214 [(9, .int v130), (0, .ref 125), (1, .int l1), (2, .int l2), (3, .int l3), (4, .int l4), (5, .int l5), (7, .int l7), (8, .int l8), (10, .int l10)] [.int 0] _ 0 0 _
                      refine x_ifeq (tgt := 221) rfl rfl (ti_eq jk_0 jk_0 (br_t (by omega) ?_))
                      try rw [show (l9.toInt + 1) = v130.toInt from by omega] at D
                      exact jX.sub (jsb_c rfl (jsb_c rfl (jsb_c rfl (jsb_c rfl (jsb_c rfl (jsb_c rfl (jsb_c rfl (jsb_c rfl (jsb_c rfl jsb_n))))))))) (ct_X12_line_r125d_221 hD hQ ih l1 l2 l3 l4 l5 l7 l8 v130 g0 g1 g2 g3 g4 u68 u71 v75 u69 u70 h (jr_of rfl (by omega)) (jr_of rfl (by omega)) (jr_of rfl (by omega)) (jr_of rfl (by omega)) (jr_of rfl (by omega)) (jr_of rfl (by omega)) (jr_of rfl (by omega)) (jr_mod rfl (by omega)) (jr_of rfl (by omega)) (jr_of rfl (by omega)) (jr_of rfl (by omega)) (jr_of rfl (by omega)) (jr_of rfl (by omega)) (jr_of rfl (by omega)) (jr_of rfl (by omega)) (jr_of rfl (by omega)) (jr_of rfl (by omega)) (jr_of rfl (by omega)) (jr_of rfl (by omega)) (by omega) (by omega) (by omega) (jmo2 w129 rfl jk_0 (by omega) (jmo2 w127 rfl jk_0 (by omega) (jmc S67 rfl z0))) (jmo2 w129 rfl jk_16 (by omega) (jmo2 w127 rfl jk_16 (by omega) (jmc S67 rfl z1))) (jmo2 w129 rfl jk_4 (by omega) (jmo2 w127 rfl jk_4 (by omega) (jmc S67 rfl z2))) (jmo2 w129 rfl jk_5 (by omega) (jmo2 w127 rfl jk_5 (by omega) (jmc S67 rfl z3))) (jmo2 w129 rfl jk_7 (by omega) (jmo2 w127 rfl jk_7 (by omega) (jmc S67 rfl z4))) (jmo w129 rfl (jmo w127 rfl qu68)) (jmo w129 rfl (jmo w127 rfl qu71)) (jmo w129 rfl (jmo w127 rfl qv75)) (jmo w129 rfl (jmo w127 rfl qu69)) (jmo w129 rfl (jmo w127 rfl qu70)) (by omega) J Sm D)
                    ·
                      rw [if_pos (by omega)] at D
                      refine x_iconst (v := 1) rfl ki_1 ?_
                      refine x_goto (tgt := 23) rfl rfl ?_
                      refine x_zret rfl rfl (by decide) ?_
                      show jX m_X12_line 6 0 0 214 [(9, .int v130), (0, .ref 125), (1, .int l1), (2, .int l2), (3, .int l3), (4, .int l4), (5, .int l5), (7, .int l7), (8, .int l8), (10, .int l10)] [.int 1] _ 0 0 _
                      refine x_ifeq (tgt := 221) rfl rfl (ti_eq jk_1 jk_0 (br_f (by omega) ?_))
                      refine x_iconst (v := 1) rfl ki_1 ?_
                      refine x_goto (tgt := 222) rfl rfl ?_
                      try rw [show (l9.toInt + 1) = v130.toInt from by omega] at D
                      exact jX.sub (jsb_c rfl (jsb_c rfl (jsb_c rfl (jsb_c rfl (jsb_c rfl (jsb_c rfl (jsb_c rfl (jsb_c rfl (jsb_c rfl jsb_n))))))))) (ct_X12_line_r125d_300222 hD hQ ih l1 l2 l3 l4 l5 l7 l8 v130 g0 g1 g2 g3 g4 u68 u71 v75 u69 u70 h (jr_of rfl (by omega)) (jr_of rfl (by omega)) (jr_of rfl (by omega)) (jr_of rfl (by omega)) (jr_of rfl (by omega)) (jr_of rfl (by omega)) (jr_of rfl (by omega)) (jr_mod rfl (by omega)) (jr_of rfl (by omega)) (jr_of rfl (by omega)) (jr_of rfl (by omega)) (jr_of rfl (by omega)) (jr_of rfl (by omega)) (jr_of rfl (by omega)) (jr_of rfl (by omega)) (jr_of rfl (by omega)) (jr_of rfl (by omega)) (jr_of rfl (by omega)) (jr_of rfl (by omega)) (by omega) (by omega) (by omega) (jmo2 w129 rfl jk_0 (by omega) (jmo2 w127 rfl jk_0 (by omega) (jmc S67 rfl z0))) (jmo2 w129 rfl jk_16 (by omega) (jmo2 w127 rfl jk_16 (by omega) (jmc S67 rfl z1))) (jmo2 w129 rfl jk_4 (by omega) (jmo2 w127 rfl jk_4 (by omega) (jmc S67 rfl z2))) (jmo2 w129 rfl jk_5 (by omega) (jmo2 w127 rfl jk_5 (by omega) (jmc S67 rfl z3))) (jmo2 w129 rfl jk_7 (by omega) (jmo2 w127 rfl jk_7 (by omega) (jmc S67 rfl z4))) (jmo w129 rfl (jmo w127 rfl qu68)) (jmo w129 rfl (jmo w127 rfl qu71)) (jmo w129 rfl (jmo w127 rfl qv75)) (jmo w129 rfl (jmo w127 rfl qu69)) (jmo w129 rfl (jmo w127 rfl qu70)) (by omega) J Sm D)
                ·
                  rw [if_pos (by omega)] at D
                  refine x_iconst (v := 1) rfl ki_1 ?_
                  refine x_goto (tgt := 23) rfl rfl ?_
                  refine x_zret rfl rfl (by decide) ?_
                  show jX m_X12_readRole 5 0 0 30 [(2, .int 1), (0, .ref 125), (1, .int v5)] [.int 1] _ 0 0 _
                  refine x_ifne (tgt := 49) rfl rfl (ti_ne jk_1 jk_0 (bn_t (by omega) ?_))
                  refine x_aloadn (x := 125) rfl rfl ?_
                  refine z_getR (N := 92) (b := 126) 12 2 rfl f_12_8 rfl J rfl 16002 ⟨rfl, rfl⟩ rfl ?_
                  refine x_iloadn (x := v5) rfl rfl ?_
                  refine x_bipush (v := 14) rfl kb_14 ?_
                  refine z_iadd rfl rfl jk_14 (by omega) (fun v135 ev135 => ?_)
                  refine x_iconst (v := 0) rfl ki_0 ?_
                  refine z_iast (N := 50660) (l := 20) (u := 18020) (w := 0) rfl hD J Sm rfl rfl rfl (by omega) jk_0 (wr_126_20 (by omega) (fun q1 q2 q3 q4 => by omega) (fun q1 q2 q3 q4 => by omega) (fun q1 q2 q3 q4 => by omega) (fun q1 q2 q3 q4 => by omega) (fun q1 q2 q3 q4 => by omega) (fun q1 q2 q3 q4 => by omega) (fun q1 q2 q3 q4 => by omega) (fun q1 q2 q3 q4 => by omega) (fun q1 q2 q3 q4 => by omega) (fun q1 q2 q3 q4 => by omega) (fun q1 q2 q3 q4 => by omega) (fun q1 q2 q3 q4 => by omega) (fun q1 q2 q3 q4 => by omega) (fun q1 q2 q3 q4 => by omega) (fun q1 q2 q3 q4 => by omega) (fun q1 q2 q3 q4 => by omega) (fun q1 q2 q3 q4 => by omega) (fun q1 q2 q3 q4 => by omega) (fun q1 q2 q3 q4 => by omega) (fun q1 q2 q3 q4 => by omega) (fun q1 q2 q3 q4 => by omega) (fun q1 q2 q3 q4 => by omega) (fun q1 q2 q3 q4 => by omega)) rfl (fun h w136 J Sm => ?_)
                  rw [vww w136 (show (v5.toInt + 14) = v135.toInt from by omega) (show 0 = (0 : Int32).toInt from by have := jk_0; omega)] at D
                  refine x_aloadn (x := 125) rfl rfl ?_
                  refine z_getR (N := 92) (b := 126) 12 2 rfl f_12_8 rfl J rfl 16002 ⟨rfl, rfl⟩ rfl ?_
                  refine x_iloadn (x := v5) rfl rfl ?_
                  refine x_bipush (v := 15) rfl kb_15 ?_
                  refine z_iadd rfl rfl jk_15 (by omega) (fun v137 ev137 => ?_)
                  refine x_iconst (v := 0) rfl ki_0 ?_
                  refine z_iast (N := 50660) (l := 20) (u := 18020) (w := 0) rfl hD J Sm rfl rfl rfl (by omega) jk_0 (wr_126_20 (by omega) (fun q1 q2 q3 q4 => by omega) (fun q1 q2 q3 q4 => by omega) (fun q1 q2 q3 q4 => by omega) (fun q1 q2 q3 q4 => by omega) (fun q1 q2 q3 q4 => by omega) (fun q1 q2 q3 q4 => by omega) (fun q1 q2 q3 q4 => by omega) (fun q1 q2 q3 q4 => by omega) (fun q1 q2 q3 q4 => by omega) (fun q1 q2 q3 q4 => by omega) (fun q1 q2 q3 q4 => by omega) (fun q1 q2 q3 q4 => by omega) (fun q1 q2 q3 q4 => by omega) (fun q1 q2 q3 q4 => by omega) (fun q1 q2 q3 q4 => by omega) (fun q1 q2 q3 q4 => by omega) (fun q1 q2 q3 q4 => by omega) (fun q1 q2 q3 q4 => by omega) (fun q1 q2 q3 q4 => by omega) (fun q1 q2 q3 q4 => by omega) (fun q1 q2 q3 q4 => by omega) (fun q1 q2 q3 q4 => by omega) (fun q1 q2 q3 q4 => by omega)) rfl (fun h w138 J Sm => ?_)
                  rw [vww w138 (show (v5.toInt + 15) = v137.toInt from by omega) (show 0 = (0 : Int32).toInt from by have := jk_0; omega)] at D
                  refine x_vret rfl rfl ?_
                  show jX m_X12_line 6 0 0 198 [(0, .ref 125), (1, .int l1), (2, .int l2), (3, .int l3), (4, .int l4), (5, .int l5), (7, .int l7), (8, .int l8), (9, .int l9), (10, .int l10)] [] _ 0 0 _
                  refine z_iinc (x := l9) (lsx9 := fun v139 => [(9, .int v139), (0, .ref 125), (1, .int l1), (2, .int l2), (3, .int l3), (4, .int l4), (5, .int l5), (7, .int l7), (8, .int l8), (10, .int l10)]) rfl rfl rfl jko_1 (by omega) rfl (fun _ => rfl) (fun v139 ev139 => ?_)
                  refine x_aloadn (x := 125) rfl rfl ?_
                  refine z_getM (N := 92) (v := v75) 12 14 rfl f_12_214 rfl J rfl (jmo w138 rfl (jmo w136 rfl qv75)) ?_
                  refine x_ifne (tgt := 221) rfl rfl (ti_ne rfl jk_0 (bn_f (by omega) ?_))
                  refine x_aloadn (x := 125) rfl rfl ?_
                  refine x_bipush (v := 44) rfl kb_44 ?_
                  refine x_inv (N := m_X12_isSign) (As := [.int 44]) (b := 125) (st := []) (dx9 := 5) (mc := 0) (ms := 0) (host := "") 12 rfl t_X12_isSign ⟨Or.inl q_12_257, i_X12_isSign.1, i_X12_isSign.2⟩ ⟨by decide, rfl⟩ (congrArg Prod.fst (J.1.1 125 (12, 92) rfl)) rfl (by decide) rfl rfl ⟨by decide, by decide⟩ (jC.of rfl k_X12_isSign rfl ?_)
                  show jX m_X12_isSign 5 0 0 0 [(0, .ref 125), (1, .int 44)] [] _ 0 0 _
                  refine x_aloadn (x := 125) rfl rfl ?_
                  refine z_getM (N := 92) (v := u71) 12 11 rfl f_12_235 rfl J rfl (jmo w138 rfl (jmo w136 rfl qu71)) ?_
                  refine x_iconst (v := 3) rfl ki_3 ?_
                  refine x_icne (tgt := 22) rfl rfl (ti_ne rfl jk_3 (bn_f (by omega) ?_))
                  refine x_aloadn (x := 125) rfl rfl ?_
                  refine z_getLQ (N := 92) 12 12 rfl f_12_224 rfl J rfl (fun v140 qv140 => ?_)
                  have ev140 := jfullL v140
                  try rw [vrfL qv140] at D
                  refine x_iloadn (x := 44) rfl rfl ?_
                  refine z_i2l rfl jk_44 (fun v141 ev141 => ?_)
                  refine z_lcmp rfl rfl rfl (fun v142 ev142 => ?_)
                  refine x_ifne (tgt := 22) rfl rfl (ti_ne rfl jk_0 ⟨fun c143 => ?_, fun c143 => ?_⟩)
                  ·
                    rw [if_neg (by omega)] at D
                    refine x_iconst (v := 0) rfl ki_0 ?_
                    refine x_zret rfl rfl (by decide) ?_
                    show jX m_X12_line 6 0 0 214 [(9, .int v139), (0, .ref 125), (1, .int l1), (2, .int l2), (3, .int l3), (4, .int l4), (5, .int l5), (7, .int l7), (8, .int l8), (10, .int l10)] [.int 0] _ 0 0 _
                    refine x_ifeq (tgt := 221) rfl rfl (ti_eq jk_0 jk_0 (br_t (by omega) ?_))
                    try rw [show (l9.toInt + 1) = v139.toInt from by omega] at D
                    exact jX.sub (jsb_c rfl (jsb_c rfl (jsb_c rfl (jsb_c rfl (jsb_c rfl (jsb_c rfl (jsb_c rfl (jsb_c rfl (jsb_c rfl jsb_n))))))))) (ct_X12_line_r125d_221 hD hQ ih l1 l2 l3 l4 l5 l7 l8 v139 g0 g1 g2 g3 g4 u68 u71 v75 u69 u70 h (jr_of rfl (by omega)) (jr_of rfl (by omega)) (jr_of rfl (by omega)) (jr_of rfl (by omega)) (jr_of rfl (by omega)) (jr_of rfl (by omega)) (jr_of rfl (by omega)) (jr_mod rfl (by omega)) (jr_of rfl (by omega)) (jr_of rfl (by omega)) (jr_of rfl (by omega)) (jr_of rfl (by omega)) (jr_of rfl (by omega)) (jr_of rfl (by omega)) (jr_of rfl (by omega)) (jr_of rfl (by omega)) (jr_of rfl (by omega)) (jr_of rfl (by omega)) (jr_of rfl (by omega)) (by omega) (by omega) (by omega) (jmo2 w138 rfl jk_0 (by omega) (jmo2 w136 rfl jk_0 (by omega) (jmc S67 rfl z0))) (jmo2 w138 rfl jk_16 (by omega) (jmo2 w136 rfl jk_16 (by omega) (jmc S67 rfl z1))) (jmo2 w138 rfl jk_4 (by omega) (jmo2 w136 rfl jk_4 (by omega) (jmc S67 rfl z2))) (jmo2 w138 rfl jk_5 (by omega) (jmo2 w136 rfl jk_5 (by omega) (jmc S67 rfl z3))) (jmo2 w138 rfl jk_7 (by omega) (jmo2 w136 rfl jk_7 (by omega) (jmc S67 rfl z4))) (jmo w138 rfl (jmo w136 rfl qu68)) (jmo w138 rfl (jmo w136 rfl qu71)) (jmo w138 rfl (jmo w136 rfl qv75)) (jmo w138 rfl (jmo w136 rfl qu69)) (jmo w138 rfl (jmo w136 rfl qu70)) (by omega) J Sm D)
                  ·
                    rw [if_pos (by omega)] at D
                    refine x_iconst (v := 1) rfl ki_1 ?_
                    refine x_goto (tgt := 23) rfl rfl ?_
                    refine x_zret rfl rfl (by decide) ?_
                    show jX m_X12_line 6 0 0 214 [(9, .int v139), (0, .ref 125), (1, .int l1), (2, .int l2), (3, .int l3), (4, .int l4), (5, .int l5), (7, .int l7), (8, .int l8), (10, .int l10)] [.int 1] _ 0 0 _
                    refine x_ifeq (tgt := 221) rfl rfl (ti_eq jk_1 jk_0 (br_f (by omega) ?_))
                    refine x_iconst (v := 1) rfl ki_1 ?_
                    refine x_goto (tgt := 222) rfl rfl ?_
                    try rw [show (l9.toInt + 1) = v139.toInt from by omega] at D
                    exact jX.sub (jsb_c rfl (jsb_c rfl (jsb_c rfl (jsb_c rfl (jsb_c rfl (jsb_c rfl (jsb_c rfl (jsb_c rfl (jsb_c rfl jsb_n))))))))) (ct_X12_line_r125d_300222 hD hQ ih l1 l2 l3 l4 l5 l7 l8 v139 g0 g1 g2 g3 g4 u68 u71 v75 u69 u70 h (jr_of rfl (by omega)) (jr_of rfl (by omega)) (jr_of rfl (by omega)) (jr_of rfl (by omega)) (jr_of rfl (by omega)) (jr_of rfl (by omega)) (jr_of rfl (by omega)) (jr_mod rfl (by omega)) (jr_of rfl (by omega)) (jr_of rfl (by omega)) (jr_of rfl (by omega)) (jr_of rfl (by omega)) (jr_of rfl (by omega)) (jr_of rfl (by omega)) (jr_of rfl (by omega)) (jr_of rfl (by omega)) (jr_of rfl (by omega)) (jr_of rfl (by omega)) (jr_of rfl (by omega)) (by omega) (by omega) (by omega) (jmo2 w138 rfl jk_0 (by omega) (jmo2 w136 rfl jk_0 (by omega) (jmc S67 rfl z0))) (jmo2 w138 rfl jk_16 (by omega) (jmo2 w136 rfl jk_16 (by omega) (jmc S67 rfl z1))) (jmo2 w138 rfl jk_4 (by omega) (jmo2 w136 rfl jk_4 (by omega) (jmc S67 rfl z2))) (jmo2 w138 rfl jk_5 (by omega) (jmo2 w136 rfl jk_5 (by omega) (jmc S67 rfl z3))) (jmo2 w138 rfl jk_7 (by omega) (jmo2 w136 rfl jk_7 (by omega) (jmc S67 rfl z4))) (jmo w138 rfl (jmo w136 rfl qu68)) (jmo w138 rfl (jmo w136 rfl qu71)) (jmo w138 rfl (jmo w136 rfl qv75)) (jmo w138 rfl (jmo w136 rfl qu69)) (jmo w138 rfl (jmo w136 rfl qu70)) (by omega) J Sm D)
            ·
              rw [if_neg (by omega)] at D
              refine x_vret rfl rfl ?_
              show jX m_X12_line 6 0 0 198 [(0, .ref 125), (1, .int l1), (2, .int l2), (3, .int l3), (4, .int l4), (5, .int l5), (7, .int l7), (8, .int l8), (9, .int l9), (10, .int l10)] [] _ 0 0 _
              refine z_iinc (x := l9) (lsx9 := fun v144 => [(9, .int v144), (0, .ref 125), (1, .int l1), (2, .int l2), (3, .int l3), (4, .int l4), (5, .int l5), (7, .int l7), (8, .int l8), (10, .int l10)]) rfl rfl rfl jko_1 (by omega) rfl (fun _ => rfl) (fun v144 ev144 => ?_)
              refine x_aloadn (x := 125) rfl rfl ?_
              refine z_getM (N := 92) (v := v75) 12 14 rfl f_12_214 rfl J rfl qv75 ?_
              refine x_ifne (tgt := 221) rfl rfl (ti_ne rfl jk_0 (bn_t (by omega) ?_))
              try rw [show (l9.toInt + 1) = v144.toInt from by omega] at D
              exact jX.sub (jsb_c rfl (jsb_c rfl (jsb_c rfl (jsb_c rfl (jsb_c rfl (jsb_c rfl (jsb_c rfl (jsb_c rfl (jsb_c rfl jsb_n))))))))) (ct_X12_line_r125d_221 hD hQ ih l1 l2 l3 l4 l5 l7 l8 v144 g0 g1 g2 g3 g4 u68 u71 v75 u69 u70 h (jr_of rfl (by omega)) (jr_of rfl (by omega)) (jr_of rfl (by omega)) (jr_of rfl (by omega)) (jr_of rfl (by omega)) (jr_of rfl (by omega)) (jr_of rfl (by omega)) (jr_mod rfl (by omega)) (jr_of rfl (by omega)) (jr_of rfl (by omega)) (jr_of rfl (by omega)) (jr_of rfl (by omega)) (jr_of rfl (by omega)) (jr_of rfl (by omega)) (jr_of rfl (by omega)) (jr_of rfl (by omega)) (jr_of rfl (by omega)) (jr_of rfl (by omega)) (jr_of rfl (by omega)) (by omega) (by omega) (by omega) (jmc S67 rfl z0) (jmc S67 rfl z1) (jmc S67 rfl z2) (jmc S67 rfl z3) (jmc S67 rfl z4) qu68 qu71 qv75 qu69 qu70 (by omega) J Sm D)
set_option maxRecDepth 100000 in
set_option maxHeartbeats 4000000 in
theorem ct_X12_line_r125d_300169 {Dy : jH → Prop} {h0 : jH} {Q : Option Value → jH → Prop} {dr : (Int × jW)} (hD : jDk Dy) (hQ : ∀ (v : Int32) hx9, jJ jSgM Dy hx9 → jSm fp_X12_line_r125d h0 hx9 → ∀ u0 u1 u2 u3 u4 : Int32, jiv hx9 126 (16 : Int32).toNatClampNeg = u0 → jiv hx9 126 (0 : Int32).toNatClampNeg = u1 → jiv hx9 126 (4 : Int32).toNatClampNeg = u2 → jiv hx9 126 (5 : Int32).toNatClampNeg = u3 → jiv hx9 126 (7 : Int32).toNatClampNeg = u4 → u0.toInt = u1.toInt + u2.toInt + u3.toInt + u4.toInt → dr.1 = v.toInt → dr.2 = vw hx9 → Q (some (.int v)) hx9) : ∀ (l1 : Int32) (l2 : Int32) (l3 : Int32) (l4 : Int32) (l5 : Int32) (l7 : Int32) (l8 : Int32) (g0 : Int32) (g1 : Int32) (g2 : Int32) (g3 : Int32) (g4 : Int32) (g5 : Int32) (g6 : Int32) (g7 : Int32) (g8 : Int32) (g9 : Int32) (h : jH), 0 ≤ l1.toInt ∧ l1.toInt ≤ 5 → 0 ≤ l2.toInt ∧ l2.toInt ≤ 15 → 0 ≤ l3.toInt ∧ l3.toInt ≤ 146399 → 0 ≤ l4.toInt ∧ l4.toInt ≤ 146399 → (-1) ≤ l5.toInt ∧ l5.toInt ≤ 100000 → 0 ≤ l7.toInt ∧ l7.toInt ≤ 199 → 20 ≤ l8.toInt ∧ l8.toInt ≤ 17930 → l8.toInt % 90 = 20 → 0 ≤ g0.toInt ∧ g0.toInt ≤ 199 → 0 ≤ g1.toInt ∧ g1.toInt ≤ 369 → 0 ≤ g2.toInt ∧ g2.toInt ≤ 30 → 0 ≤ g3.toInt ∧ g3.toInt ≤ 100 → 0 ≤ g4.toInt ∧ g4.toInt ≤ 40 → 0 ≤ g5.toInt ∧ g5.toInt ≤ 400 → 1 ≤ g6.toInt ∧ g6.toInt ≤ 3 → 0 ≤ g7.toInt ∧ g7.toInt ≤ 0 → 0 ≤ g8.toInt ∧ g8.toInt ≤ 400 → 0 ≤ g9.toInt ∧ g9.toInt ≤ 400 → g1.toInt = g0.toInt + g2.toInt + g3.toInt + g4.toInt → (g5.toInt ≤ g8.toInt ∧ g9.toInt ≤ g5.toInt) → (g6.toInt = 0 ∨ g9.toInt + 1 ≤ g5.toInt) → jiv h 126 (0 : Int32).toNatClampNeg = g0 → jiv h 126 (16 : Int32).toNatClampNeg = g1 → jiv h 126 (4 : Int32).toNatClampNeg = g2 → jiv h 126 (5 : Int32).toNatClampNeg = g3 → jiv h 126 (7 : Int32).toNatClampNeg = g4 → jiv h 125 10 = g5 → jiv h 125 11 = g6 → jiv h 125 14 = g7 → jiv h 125 8 = g8 → jiv h 125 9 = g9 → jJ jSgM Dy h → jSm fp_X12_line_r125d h0 h → d_X12_line_r125d_300169  l1.toInt l2.toInt l3.toInt l4.toInt l5.toInt l7.toInt l8.toInt (vw h) = dr → jX m_X12_line 6 0 0 169 [(0, .ref 125), (1, .int l1), (2, .int l2), (3, .int l3), (4, .int l4), (5, .int l5), (7, .int l7), (8, .int l8), (9, .int 0)] [.int 1] h 0 0 Q := by
  intro l1 l2 l3 l4 l5 l7 l8 g0 g1 g2 g3 g4 g5 g6 g7 g8 g9 h y0 y1 y2 y3 y4 y5 y6 y7 y8 y9 y10 y11 y12 y13 y14 y15 y16 y17 y18 y19 y20 z0 z1 z2 z3 z4 z5 z6 z7 z8 z9  J Sm D
  unfold d_X12_line_r125d_300169 at D
  try rw [vrn (n := 0) (by decide) z0] at D
  try rw [vrn (n := 16) (by decide) z1] at D
  try rw [vrn (n := 4) (by decide) z2] at D
  try rw [vrn (n := 5) (by decide) z3] at D
  try rw [vrn (n := 7) (by decide) z4] at D
  try rw [vrf z5] at D
  try rw [vrf z6] at D
  try rw [vrf z7] at D
  try rw [vrf z8] at D
  try rw [vrf z9] at D
  refine x_istore (lsx9 := [(10, .int 1), (0, .ref 125), (1, .int l1), (2, .int l2), (3, .int l3), (4, .int l4), (5, .int l5), (7, .int l7), (8, .int l8), (9, .int 0)]) rfl rfl rfl ?_
  exact jX.sub (jsb_c rfl (jsb_c rfl (jsb_c rfl (jsb_c rfl (jsb_c rfl (jsb_c rfl (jsb_c rfl (jsb_c rfl (jsb_c rfl (jsb_c rfl jsb_n)))))))))) (ct_X12_line_r125d_171 hD hQ  4 l1 l2 l3 l4 l5 l7 l8 0 1 g0 g1 g2 g3 g4 g5 g6 g7 g8 g9 h (by have := jk_0; omega) (jr_of rfl (by omega)) (jr_of rfl (by omega)) (jr_of rfl (by omega)) (jr_of rfl (by omega)) (jr_of rfl (by omega)) (jr_of rfl (by omega)) (jr_of rfl (by omega)) (jr_mod rfl (by omega)) (jr_of jk_0 (by omega)) (jr_of jk_1 (by omega)) (jr_of rfl (by omega)) (jr_of rfl (by omega)) (jr_of rfl (by omega)) (jr_of rfl (by omega)) (jr_of rfl (by omega)) (jr_of rfl (by omega)) (jr_of rfl (by omega)) (jr_of rfl (by omega)) (jr_of rfl (by omega)) (jr_of rfl (by omega)) (by have := jk_1; have := jk_0; omega) (by omega) (by omega) (by omega) z0 z1 z2 z3 z4 z5 z6 z7 z8 z9 J Sm (by rw [jk_0, jk_1]; exact D))
set_option maxRecDepth 100000 in
set_option maxHeartbeats 4000000 in
theorem ct_X12_line_r125d_200169 {Dy : jH → Prop} {h0 : jH} {Q : Option Value → jH → Prop} {dr : (Int × jW)} (hD : jDk Dy) (hQ : ∀ (v : Int32) hx9, jJ jSgM Dy hx9 → jSm fp_X12_line_r125d h0 hx9 → ∀ u0 u1 u2 u3 u4 : Int32, jiv hx9 126 (16 : Int32).toNatClampNeg = u0 → jiv hx9 126 (0 : Int32).toNatClampNeg = u1 → jiv hx9 126 (4 : Int32).toNatClampNeg = u2 → jiv hx9 126 (5 : Int32).toNatClampNeg = u3 → jiv hx9 126 (7 : Int32).toNatClampNeg = u4 → u0.toInt = u1.toInt + u2.toInt + u3.toInt + u4.toInt → dr.1 = v.toInt → dr.2 = vw hx9 → Q (some (.int v)) hx9) : ∀ (l1 : Int32) (l2 : Int32) (l3 : Int32) (l4 : Int32) (l5 : Int32) (l7 : Int32) (l8 : Int32) (g0 : Int32) (g1 : Int32) (g2 : Int32) (g3 : Int32) (g4 : Int32) (g5 : Int32) (g6 : Int32) (g7 : Int32) (g8 : Int32) (g9 : Int32) (h : jH), 0 ≤ l1.toInt ∧ l1.toInt ≤ 5 → 0 ≤ l2.toInt ∧ l2.toInt ≤ 15 → 0 ≤ l3.toInt ∧ l3.toInt ≤ 146399 → 0 ≤ l4.toInt ∧ l4.toInt ≤ 146399 → (-1) ≤ l5.toInt ∧ l5.toInt ≤ 100000 → 0 ≤ l7.toInt ∧ l7.toInt ≤ 199 → 20 ≤ l8.toInt ∧ l8.toInt ≤ 17930 → l8.toInt % 90 = 20 → 0 ≤ g0.toInt ∧ g0.toInt ≤ 199 → 0 ≤ g1.toInt ∧ g1.toInt ≤ 369 → 0 ≤ g2.toInt ∧ g2.toInt ≤ 30 → 0 ≤ g3.toInt ∧ g3.toInt ≤ 100 → 0 ≤ g4.toInt ∧ g4.toInt ≤ 40 → 0 ≤ g5.toInt ∧ g5.toInt ≤ 400 → 0 ≤ g6.toInt ∧ g6.toInt ≤ 3 → 0 ≤ g7.toInt ∧ g7.toInt ≤ 0 → 0 ≤ g8.toInt ∧ g8.toInt ≤ 400 → 0 ≤ g9.toInt ∧ g9.toInt ≤ 400 → g1.toInt = g0.toInt + g2.toInt + g3.toInt + g4.toInt → (g5.toInt ≤ g8.toInt ∧ g9.toInt ≤ g5.toInt) → (g6.toInt = 0 ∨ g9.toInt + 1 ≤ g5.toInt) → jiv h 126 (0 : Int32).toNatClampNeg = g0 → jiv h 126 (16 : Int32).toNatClampNeg = g1 → jiv h 126 (4 : Int32).toNatClampNeg = g2 → jiv h 126 (5 : Int32).toNatClampNeg = g3 → jiv h 126 (7 : Int32).toNatClampNeg = g4 → jiv h 125 10 = g5 → jiv h 125 11 = g6 → jiv h 125 14 = g7 → jiv h 125 8 = g8 → jiv h 125 9 = g9 → jJ jSgM Dy h → jSm fp_X12_line_r125d h0 h → d_X12_line_r125d_200169  l1.toInt l2.toInt l3.toInt l4.toInt l5.toInt l7.toInt l8.toInt (vw h) = dr → jX m_X12_line 6 0 0 169 [(0, .ref 125), (1, .int l1), (2, .int l2), (3, .int l3), (4, .int l4), (5, .int l5), (7, .int l7), (8, .int l8), (9, .int 0)] [.int 0] h 0 0 Q := by
  intro l1 l2 l3 l4 l5 l7 l8 g0 g1 g2 g3 g4 g5 g6 g7 g8 g9 h y0 y1 y2 y3 y4 y5 y6 y7 y8 y9 y10 y11 y12 y13 y14 y15 y16 y17 y18 y19 y20 z0 z1 z2 z3 z4 z5 z6 z7 z8 z9  J Sm D
  unfold d_X12_line_r125d_200169 at D
  try rw [vrn (n := 0) (by decide) z0] at D
  try rw [vrn (n := 16) (by decide) z1] at D
  try rw [vrn (n := 4) (by decide) z2] at D
  try rw [vrn (n := 5) (by decide) z3] at D
  try rw [vrn (n := 7) (by decide) z4] at D
  try rw [vrf z5] at D
  try rw [vrf z6] at D
  try rw [vrf z7] at D
  try rw [vrf z8] at D
  try rw [vrf z9] at D
  refine x_istore (lsx9 := [(10, .int 0), (0, .ref 125), (1, .int l1), (2, .int l2), (3, .int l3), (4, .int l4), (5, .int l5), (7, .int l7), (8, .int l8), (9, .int 0)]) rfl rfl rfl ?_
  exact jX.sub (jsb_c rfl (jsb_c rfl (jsb_c rfl (jsb_c rfl (jsb_c rfl (jsb_c rfl (jsb_c rfl (jsb_c rfl (jsb_c rfl (jsb_c rfl jsb_n)))))))))) (ct_X12_line_r125d_171 hD hQ  4 l1 l2 l3 l4 l5 l7 l8 0 0 g0 g1 g2 g3 g4 g5 g6 g7 g8 g9 h (by have := jk_0; omega) (jr_of rfl (by omega)) (jr_of rfl (by omega)) (jr_of rfl (by omega)) (jr_of rfl (by omega)) (jr_of rfl (by omega)) (jr_of rfl (by omega)) (jr_of rfl (by omega)) (jr_mod rfl (by omega)) (jr_of jk_0 (by omega)) (jr_of jk_0 (by omega)) (jr_of rfl (by omega)) (jr_of rfl (by omega)) (jr_of rfl (by omega)) (jr_of rfl (by omega)) (jr_of rfl (by omega)) (jr_of rfl (by omega)) (jr_of rfl (by omega)) (jr_of rfl (by omega)) (jr_of rfl (by omega)) (jr_of rfl (by omega)) (by have := jk_0; have := jk_0; omega) (by omega) (by omega) (by omega) z0 z1 z2 z3 z4 z5 z6 z7 z8 z9 J Sm (by rw [jk_0]; exact D))
set_option maxRecDepth 100000 in
set_option maxHeartbeats 4000000 in
theorem ct_X12_line_r125d_168 {Dy : jH → Prop} {h0 : jH} {Q : Option Value → jH → Prop} {dr : (Int × jW)} (hD : jDk Dy) (hQ : ∀ (v : Int32) hx9, jJ jSgM Dy hx9 → jSm fp_X12_line_r125d h0 hx9 → ∀ u0 u1 u2 u3 u4 : Int32, jiv hx9 126 (16 : Int32).toNatClampNeg = u0 → jiv hx9 126 (0 : Int32).toNatClampNeg = u1 → jiv hx9 126 (4 : Int32).toNatClampNeg = u2 → jiv hx9 126 (5 : Int32).toNatClampNeg = u3 → jiv hx9 126 (7 : Int32).toNatClampNeg = u4 → u0.toInt = u1.toInt + u2.toInt + u3.toInt + u4.toInt → dr.1 = v.toInt → dr.2 = vw hx9 → Q (some (.int v)) hx9) : ∀ (l1 : Int32) (l2 : Int32) (l3 : Int32) (l4 : Int32) (l5 : Int32) (l7 : Int32) (l8 : Int32) (g0 : Int32) (g1 : Int32) (g2 : Int32) (g3 : Int32) (g4 : Int32) (g5 : Int32) (g6 : Int32) (g7 : Int32) (g8 : Int32) (g9 : Int32) (h : jH), 0 ≤ l1.toInt ∧ l1.toInt ≤ 5 → 0 ≤ l2.toInt ∧ l2.toInt ≤ 15 → 0 ≤ l3.toInt ∧ l3.toInt ≤ 146399 → 0 ≤ l4.toInt ∧ l4.toInt ≤ 146399 → (-1) ≤ l5.toInt ∧ l5.toInt ≤ 100000 → 0 ≤ l7.toInt ∧ l7.toInt ≤ 199 → 20 ≤ l8.toInt ∧ l8.toInt ≤ 17930 → l8.toInt % 90 = 20 → 0 ≤ g0.toInt ∧ g0.toInt ≤ 199 → 0 ≤ g1.toInt ∧ g1.toInt ≤ 369 → 0 ≤ g2.toInt ∧ g2.toInt ≤ 30 → 0 ≤ g3.toInt ∧ g3.toInt ≤ 100 → 0 ≤ g4.toInt ∧ g4.toInt ≤ 40 → 0 ≤ g5.toInt ∧ g5.toInt ≤ 400 → 0 ≤ g6.toInt ∧ g6.toInt ≤ 3 → 0 ≤ g7.toInt ∧ g7.toInt ≤ 0 → 0 ≤ g8.toInt ∧ g8.toInt ≤ 400 → 0 ≤ g9.toInt ∧ g9.toInt ≤ 400 → g1.toInt = g0.toInt + g2.toInt + g3.toInt + g4.toInt → (g5.toInt ≤ g8.toInt ∧ g9.toInt ≤ g5.toInt) → (g6.toInt = 0 ∨ g9.toInt + 1 ≤ g5.toInt) → jiv h 126 (0 : Int32).toNatClampNeg = g0 → jiv h 126 (16 : Int32).toNatClampNeg = g1 → jiv h 126 (4 : Int32).toNatClampNeg = g2 → jiv h 126 (5 : Int32).toNatClampNeg = g3 → jiv h 126 (7 : Int32).toNatClampNeg = g4 → jiv h 125 10 = g5 → jiv h 125 11 = g6 → jiv h 125 14 = g7 → jiv h 125 8 = g8 → jiv h 125 9 = g9 → jJ jSgM Dy h → jSm fp_X12_line_r125d h0 h → d_X12_line_r125d_168  l1.toInt l2.toInt l3.toInt l4.toInt l5.toInt l7.toInt l8.toInt (vw h) = dr → jX m_X12_line 6 0 0 168 [(0, .ref 125), (1, .int l1), (2, .int l2), (3, .int l3), (4, .int l4), (5, .int l5), (7, .int l7), (8, .int l8), (9, .int 0)] [] h 0 0 Q := by
  intro l1 l2 l3 l4 l5 l7 l8 g0 g1 g2 g3 g4 g5 g6 g7 g8 g9 h y0 y1 y2 y3 y4 y5 y6 y7 y8 y9 y10 y11 y12 y13 y14 y15 y16 y17 y18 y19 y20 z0 z1 z2 z3 z4 z5 z6 z7 z8 z9  J Sm D
  unfold d_X12_line_r125d_168 at D
  try rw [vrn (n := 0) (by decide) z0] at D
  try rw [vrn (n := 16) (by decide) z1] at D
  try rw [vrn (n := 4) (by decide) z2] at D
  try rw [vrn (n := 5) (by decide) z3] at D
  try rw [vrn (n := 7) (by decide) z4] at D
  try rw [vrf z5] at D
  try rw [vrf z6] at D
  try rw [vrf z7] at D
  try rw [vrf z8] at D
  try rw [vrf z9] at D
  refine x_iconst (v := 0) rfl ki_0 ?_
  exact jX.sub (jsb_c rfl (jsb_c rfl (jsb_c rfl (jsb_c rfl (jsb_c rfl (jsb_c rfl (jsb_c rfl (jsb_c rfl (jsb_c rfl jsb_n))))))))) (ct_X12_line_r125d_200169 hD hQ  l1 l2 l3 l4 l5 l7 l8 g0 g1 g2 g3 g4 g5 g6 g7 g8 g9 h (jr_of rfl (by omega)) (jr_of rfl (by omega)) (jr_of rfl (by omega)) (jr_of rfl (by omega)) (jr_of rfl (by omega)) (jr_of rfl (by omega)) (jr_of rfl (by omega)) (jr_mod rfl (by omega)) (jr_of rfl (by omega)) (jr_of rfl (by omega)) (jr_of rfl (by omega)) (jr_of rfl (by omega)) (jr_of rfl (by omega)) (jr_of rfl (by omega)) (jr_of rfl (by omega)) (jr_of rfl (by omega)) (jr_of rfl (by omega)) (jr_of rfl (by omega)) (by omega) (by omega) (by omega) z0 z1 z2 z3 z4 z5 z6 z7 z8 z9 J Sm D)
set_option maxRecDepth 100000 in
set_option maxHeartbeats 4000000 in
theorem ct_X12_line_r125d_117 {Dy : jH → Prop} {h0 : jH} {Q : Option Value → jH → Prop} {dr : (Int × jW)} (hD : jDk Dy) (hQ : ∀ (v : Int32) hx9, jJ jSgM Dy hx9 → jSm fp_X12_line_r125d h0 hx9 → ∀ u0 u1 u2 u3 u4 : Int32, jiv hx9 126 (16 : Int32).toNatClampNeg = u0 → jiv hx9 126 (0 : Int32).toNatClampNeg = u1 → jiv hx9 126 (4 : Int32).toNatClampNeg = u2 → jiv hx9 126 (5 : Int32).toNatClampNeg = u3 → jiv hx9 126 (7 : Int32).toNatClampNeg = u4 → u0.toInt = u1.toInt + u2.toInt + u3.toInt + u4.toInt → dr.1 = v.toInt → dr.2 = vw hx9 → Q (some (.int v)) hx9) : ∀ r : Nat, ∀ (l1 : Int32) (l2 : Int32) (l3 : Int32) (l4 : Int32) (l5 : Int32) (l7 : Int32) (l8 : Int32) (l9 : Int32) (g0 : Int32) (g1 : Int32) (g2 : Int32) (g3 : Int32) (g4 : Int32) (g5 : Int32) (g6 : Int32) (g7 : Int32) (g8 : Int32) (h : jH), 90 - l9.toInt < (r : Int) → 0 ≤ l1.toInt ∧ l1.toInt ≤ 5 → 0 ≤ l2.toInt ∧ l2.toInt ≤ 15 → 0 ≤ l3.toInt ∧ l3.toInt ≤ 146399 → 0 ≤ l4.toInt ∧ l4.toInt ≤ 146399 → (-1) ≤ l5.toInt ∧ l5.toInt ≤ 100000 → 0 ≤ l7.toInt ∧ l7.toInt ≤ 199 → 20 ≤ l8.toInt ∧ l8.toInt ≤ 17930 → l8.toInt % 90 = 20 → 0 ≤ l9.toInt ∧ l9.toInt ≤ 90 → 0 ≤ g0.toInt ∧ g0.toInt ≤ 199 → 0 ≤ g1.toInt ∧ g1.toInt ≤ 369 → 0 ≤ g2.toInt ∧ g2.toInt ≤ 30 → 0 ≤ g3.toInt ∧ g3.toInt ≤ 100 → 0 ≤ g4.toInt ∧ g4.toInt ≤ 40 → 0 ≤ g5.toInt ∧ g5.toInt ≤ 400 → 0 ≤ g6.toInt ∧ g6.toInt ≤ 3 → 0 ≤ g7.toInt ∧ g7.toInt ≤ 400 → 0 ≤ g8.toInt ∧ g8.toInt ≤ 400 → g1.toInt = g0.toInt + g2.toInt + g3.toInt + g4.toInt → jiv h 126 (0 : Int32).toNatClampNeg = g0 → jiv h 126 (16 : Int32).toNatClampNeg = g1 → jiv h 126 (4 : Int32).toNatClampNeg = g2 → jiv h 126 (5 : Int32).toNatClampNeg = g3 → jiv h 126 (7 : Int32).toNatClampNeg = g4 → jiv h 125 10 = g5 → jiv h 125 11 = g6 → jiv h 125 8 = g7 → jiv h 125 9 = g8 → jJ jSgM Dy h → jSm fp_X12_line_r125d h0 h → d_X12_line_r125d_117 r l1.toInt l2.toInt l3.toInt l4.toInt l5.toInt l7.toInt l8.toInt l9.toInt (vw h) = dr → jX m_X12_line 6 0 0 117 [(0, .ref 125), (1, .int l1), (2, .int l2), (3, .int l3), (4, .int l4), (5, .int l5), (7, .int l7), (8, .int l8), (9, .int l9)] [] h 0 0 Q := by
  intro r
  induction r with
  | zero =>
    intro l1 l2 l3 l4 l5 l7 l8 l9 g0 g1 g2 g3 g4 g5 g6 g7 g8 h hm y0 y1 y2 y3 y4 y5 y6 y7 y8 y9 y10 y11 y12 y13 y14 y15 y16 y17 y18 z0 z1 z2 z3 z4 z5 z6 z7 z8  J Sm D
    exfalso
    omega
  | succ r ih =>
    intro l1 l2 l3 l4 l5 l7 l8 l9 g0 g1 g2 g3 g4 g5 g6 g7 g8 h hm y0 y1 y2 y3 y4 y5 y6 y7 y8 y9 y10 y11 y12 y13 y14 y15 y16 y17 y18 z0 z1 z2 z3 z4 z5 z6 z7 z8  J Sm D
    rw [d_X12_line_r125d_117.eq_2] at D
    try rw [vrn (n := 0) (by decide) z0] at D
    try rw [vrn (n := 16) (by decide) z1] at D
    try rw [vrn (n := 4) (by decide) z2] at D
    try rw [vrn (n := 5) (by decide) z3] at D
    try rw [vrn (n := 7) (by decide) z4] at D
    try rw [vrf z5] at D
    try rw [vrf z6] at D
    try rw [vrf z7] at D
    try rw [vrf z8] at D
    refine x_iload (x := l9) rfl rfl ?_
    refine x_bipush (v := 90) rfl kb_90 ?_
    refine x_icge (tgt := 141) rfl rfl (ti_ge rfl jk_90 ⟨fun c1 => ?_, fun c1 => ?_⟩)
    ·
      rw [if_pos (by omega)] at D
      refine x_aloadn (x := 125) rfl rfl ?_
      refine x_inv (N := m_X12_begin) (As := []) (b := 125) (st := []) (dx9 := 5) (mc := 0) (ms := 0) (host := "") 12 rfl t_X12_begin ⟨Or.inl q_12_280, i_X12_begin.1, i_X12_begin.2⟩ ⟨by decide, rfl⟩ (congrArg Prod.fst (J.1.1 125 (12, 92) rfl)) rfl (by decide) rfl rfl ⟨by decide, by decide⟩ (jC.of rfl k_X12_begin rfl ?_)
      show jX m_X12_begin 5 0 0 0 [(0, .ref 125)] [] _ 0 0 _
      refine x_aloadn (x := 125) rfl rfl ?_
      refine x_iconst (v := 0) rfl ki_0 ?_
      refine z_putI (N := 92) (w := 0) 12 10 rfl f_12_211 rfl (jfin_no TX12 RX12 92 rfl rfl) hD J Sm rfl rfl jk_0 (pw_125_10 (by omega)) rfl (fun h w2 J Sm => ?_)
      rw [vwf w2 (show 0 = (0 : Int32).toInt from by have := jk_0; omega)] at D
      refine x_aloadn (x := 125) rfl rfl ?_
      refine x_iconst (v := 0) rfl ki_0 ?_
      refine z_putZ (N := 92) (w := 0) 12 14 rfl f_12_214 rfl (jfin_no TX12 RX12 92 rfl rfl) hD J Sm rfl rfl jk_0 (by omega) (pw_125_14 (by omega)) rfl (fun h w3 J Sm => ?_)
      rw [vwf w3 (show 0 = (0 : Int32).toInt from by have := jk_0; omega)] at D
      refine x_aloadn (x := 125) rfl rfl ?_
      refine x_iconst (v := (-1)) rfl ki_m1 ?_
      refine z_putI (N := 92) (w := (-1)) 12 13 rfl f_12_32 rfl (jfin_no TX12 RX12 92 rfl rfl) hD J Sm rfl rfl jk_m1 (pw_125_13 (by omega)) rfl (fun h w4 J Sm => ?_)
      rw [vwf w4 (show (-1) = ((-1) : Int32).toInt from by have := jk_m1; omega)] at D
      refine x_aloadn (x := 125) rfl rfl ?_
      refine x_inv (N := m_X12_next) (As := []) (b := 125) (st := []) (dx9 := 2) (mc := 0) (ms := 0) (host := "") 12 rfl t_X12_next ⟨Or.inl q_12_218, i_X12_next.1, i_X12_next.2⟩ ⟨by decide, rfl⟩ (congrArg Prod.fst (J.1.1 125 (12, 92) rfl)) rfl (by decide) rfl rfl ⟨by decide, by decide⟩ (sf_X12_next_r125d  hD J (jmo w4 rfl (jmo w3 rfl (jmw w2))) (jmo w4 rfl (jmo w3 rfl (jmo w2 rfl z7))) (by have := jk_0; omega) rfl  (fun h J S5 u6 u7 u8 qu6 qu7 qu8 ru6 u9 u10 u11 qu9 qu10 qu11 ru9 P12 X13 => ?_))
      have Sm := jSm_tr rfl Sm S5
      rw [X13] at D
      have eu6 := (show 0 ≤ u6.toInt ∧ u6.toInt ≤ 400 from qu6 ▸ jrg_f J sg_125_10_11_1_0_1)
      try rw [vrf qu6] at D
      have eu7 := (show 0 ≤ u7.toInt ∧ u7.toInt ≤ 400 from qu7 ▸ jrg_f J sg_125_8_9_1_0_1)
      try rw [vrf (jmb_w w2 (jmb_w w3 (jmb_w w4 (jmb_c S5 qu7 rfl) rfl) rfl) rfl)] at D
      have eu8 := (show 0 ≤ u8.toInt ∧ u8.toInt ≤ 400 from qu8 ▸ jrg_f J sg_125_9_10_1_0_1)
      try rw [vrf qu8] at D
      have eu9 := (show 0 ≤ u9.toInt ∧ u9.toInt ≤ 3 from qu9 ▸ jrg_f J sg_125_11_12_1_0_1)
      try rw [vrf qu9] at D
      obtain rfl : u8 = u10 := qu8.symm.trans qu10
      obtain rfl : u6 = u11 := qu6.symm.trans qu11
      have nfP12 := jnf P12.1 (jmo w4 rfl (jmo w3 rfl (jmw w2))) qu8
      show jX m_X12_begin 5 0 0 19 [(0, .ref 125)] [] _ 0 0 _
      refine x_vret rfl rfl ?_
      show jX m_X12_line 6 0 0 145 [(0, .ref 125), (1, .int l1), (2, .int l2), (3, .int l3), (4, .int l4), (5, .int l5), (7, .int l7), (8, .int l8), (9, .int l9)] [] _ 0 0 _
      refine x_iconst (v := 0) rfl ki_0 ?_
      refine x_istore (lsx9 := [(9, .int 0), (0, .ref 125), (1, .int l1), (2, .int l2), (3, .int l3), (4, .int l4), (5, .int l5), (7, .int l7), (8, .int l8)]) rfl rfl rfl ?_
      refine x_aloadn (x := 125) rfl rfl ?_
      refine z_getM (N := 92) (v := u9) 12 11 rfl f_12_235 rfl J rfl qu9 ?_
      refine x_ifeq (tgt := 168) rfl rfl (ti_eq rfl jk_0 ⟨fun c14 => ?_, fun c14 => ?_⟩)
      ·
        rw [if_pos (by omega)] at D
        exact jX.sub (jsb_c rfl (jsb_c rfl (jsb_c rfl (jsb_c rfl (jsb_c rfl (jsb_c rfl (jsb_c rfl (jsb_c rfl (jsb_c rfl jsb_n))))))))) (ct_X12_line_r125d_168 hD hQ  l1 l2 l3 l4 l5 l7 l8 g0 g1 g2 g3 g4 u6 u9 0 u7 u8 h (jr_of rfl (by omega)) (jr_of rfl (by omega)) (jr_of rfl (by omega)) (jr_of rfl (by omega)) (jr_of rfl (by omega)) (jr_of rfl (by omega)) (jr_of rfl (by omega)) (jr_mod rfl (by omega)) (jr_of rfl (by omega)) (jr_of rfl (by omega)) (jr_of rfl (by omega)) (jr_of rfl (by omega)) (jr_of rfl (by omega)) (jr_of rfl (by omega)) (jr_of rfl (by omega)) (jr_of jk_0 (by omega)) (jr_of rfl (by omega)) (jr_of rfl (by omega)) (by omega) (by omega) (by omega) (jmc S5 rfl (jmo w4 rfl (jmo w3 rfl (jmo w2 rfl z0)))) (jmc S5 rfl (jmo w4 rfl (jmo w3 rfl (jmo w2 rfl z1)))) (jmc S5 rfl (jmo w4 rfl (jmo w3 rfl (jmo w2 rfl z2)))) (jmc S5 rfl (jmo w4 rfl (jmo w3 rfl (jmo w2 rfl z3)))) (jmc S5 rfl (jmo w4 rfl (jmo w3 rfl (jmo w2 rfl z4)))) qu6 qu9 (jmc S5 rfl (jmo w4 rfl (jmw w3))) qu7 qu8 J Sm D)
      ·
        rw [if_neg (by omega)] at D
        refine x_aloadn (x := 125) rfl rfl ?_
        refine x_bipush (v := 46) rfl kb_46 ?_
        refine x_inv (N := m_X12_isSign) (As := [.int 46]) (b := 125) (st := []) (dx9 := 5) (mc := 0) (ms := 0) (host := "") 12 rfl t_X12_isSign ⟨Or.inl q_12_257, i_X12_isSign.1, i_X12_isSign.2⟩ ⟨by decide, rfl⟩ (congrArg Prod.fst (J.1.1 125 (12, 92) rfl)) rfl (by decide) rfl rfl ⟨by decide, by decide⟩ (jC.of rfl k_X12_isSign rfl ?_)
        show jX m_X12_isSign 5 0 0 0 [(0, .ref 125), (1, .int 46)] [] _ 0 0 _
        refine x_aloadn (x := 125) rfl rfl ?_
        refine z_getM (N := 92) (v := u9) 12 11 rfl f_12_235 rfl J rfl qu9 ?_
        refine x_iconst (v := 3) rfl ki_3 ?_
        refine x_icne (tgt := 22) rfl rfl (ti_ne rfl jk_3 ⟨fun c15 => ?_, fun c15 => ?_⟩)
        ·
          rw [if_neg (by omega)] at D
          refine x_iconst (v := 0) rfl ki_0 ?_
          refine x_zret rfl rfl (by decide) ?_
          show jX m_X12_line 6 0 0 161 [(9, .int 0), (0, .ref 125), (1, .int l1), (2, .int l2), (3, .int l3), (4, .int l4), (5, .int l5), (7, .int l7), (8, .int l8)] [.int 0] _ 0 0 _
          refine x_ifne (tgt := 168) rfl rfl (ti_ne jk_0 jk_0 (bn_f (by omega) ?_))
          refine x_iconst (v := 1) rfl ki_1 ?_
          refine x_goto (tgt := 169) rfl rfl ?_
          exact jX.sub (jsb_c rfl (jsb_c rfl (jsb_c rfl (jsb_c rfl (jsb_c rfl (jsb_c rfl (jsb_c rfl (jsb_c rfl (jsb_c rfl jsb_n))))))))) (ct_X12_line_r125d_300169 hD hQ  l1 l2 l3 l4 l5 l7 l8 g0 g1 g2 g3 g4 u6 u9 0 u7 u8 h (jr_of rfl (by omega)) (jr_of rfl (by omega)) (jr_of rfl (by omega)) (jr_of rfl (by omega)) (jr_of rfl (by omega)) (jr_of rfl (by omega)) (jr_of rfl (by omega)) (jr_mod rfl (by omega)) (jr_of rfl (by omega)) (jr_of rfl (by omega)) (jr_of rfl (by omega)) (jr_of rfl (by omega)) (jr_of rfl (by omega)) (jr_of rfl (by omega)) (jr_of rfl (by omega)) (jr_of jk_0 (by omega)) (jr_of rfl (by omega)) (jr_of rfl (by omega)) (by omega) (by omega) (by omega) (jmc S5 rfl (jmo w4 rfl (jmo w3 rfl (jmo w2 rfl z0)))) (jmc S5 rfl (jmo w4 rfl (jmo w3 rfl (jmo w2 rfl z1)))) (jmc S5 rfl (jmo w4 rfl (jmo w3 rfl (jmo w2 rfl z2)))) (jmc S5 rfl (jmo w4 rfl (jmo w3 rfl (jmo w2 rfl z3)))) (jmc S5 rfl (jmo w4 rfl (jmo w3 rfl (jmo w2 rfl z4)))) qu6 qu9 (jmc S5 rfl (jmo w4 rfl (jmw w3))) qu7 qu8 J Sm D)
        ·
          rw [if_pos (by omega)] at D
          refine x_aloadn (x := 125) rfl rfl ?_
          refine z_getLQ (N := 92) 12 12 rfl f_12_224 rfl J rfl (fun v16 qv16 => ?_)
          have ev16 := jfullL v16
          try rw [vrfL qv16] at D
          refine x_iloadn (x := 46) rfl rfl ?_
          refine z_i2l rfl jk_46 (fun v17 ev17 => ?_)
          refine z_lcmp rfl rfl rfl (fun v18 ev18 => ?_)
          refine x_ifne (tgt := 22) rfl rfl (ti_ne rfl jk_0 ⟨fun c19 => ?_, fun c19 => ?_⟩)
          ·
            rw [if_neg (by omega)] at D
            refine x_iconst (v := 0) rfl ki_0 ?_
            refine x_zret rfl rfl (by decide) ?_
            show jX m_X12_line 6 0 0 161 [(9, .int 0), (0, .ref 125), (1, .int l1), (2, .int l2), (3, .int l3), (4, .int l4), (5, .int l5), (7, .int l7), (8, .int l8)] [.int 0] _ 0 0 _
            refine x_ifne (tgt := 168) rfl rfl (ti_ne jk_0 jk_0 (bn_f (by omega) ?_))
            refine x_iconst (v := 1) rfl ki_1 ?_
            refine x_goto (tgt := 169) rfl rfl ?_
            exact jX.sub (jsb_c rfl (jsb_c rfl (jsb_c rfl (jsb_c rfl (jsb_c rfl (jsb_c rfl (jsb_c rfl (jsb_c rfl (jsb_c rfl jsb_n))))))))) (ct_X12_line_r125d_300169 hD hQ  l1 l2 l3 l4 l5 l7 l8 g0 g1 g2 g3 g4 u6 u9 0 u7 u8 h (jr_of rfl (by omega)) (jr_of rfl (by omega)) (jr_of rfl (by omega)) (jr_of rfl (by omega)) (jr_of rfl (by omega)) (jr_of rfl (by omega)) (jr_of rfl (by omega)) (jr_mod rfl (by omega)) (jr_of rfl (by omega)) (jr_of rfl (by omega)) (jr_of rfl (by omega)) (jr_of rfl (by omega)) (jr_of rfl (by omega)) (jr_of rfl (by omega)) (jr_of rfl (by omega)) (jr_of jk_0 (by omega)) (jr_of rfl (by omega)) (jr_of rfl (by omega)) (by omega) (by omega) (by omega) (jmc S5 rfl (jmo w4 rfl (jmo w3 rfl (jmo w2 rfl z0)))) (jmc S5 rfl (jmo w4 rfl (jmo w3 rfl (jmo w2 rfl z1)))) (jmc S5 rfl (jmo w4 rfl (jmo w3 rfl (jmo w2 rfl z2)))) (jmc S5 rfl (jmo w4 rfl (jmo w3 rfl (jmo w2 rfl z3)))) (jmc S5 rfl (jmo w4 rfl (jmo w3 rfl (jmo w2 rfl z4)))) qu6 qu9 (jmc S5 rfl (jmo w4 rfl (jmw w3))) qu7 qu8 J Sm D)
          ·
            rw [if_pos (by omega)] at D
            refine x_iconst (v := 1) rfl ki_1 ?_
            refine x_goto (tgt := 23) rfl rfl ?_
            refine x_zret rfl rfl (by decide) ?_
            show jX m_X12_line 6 0 0 161 [(9, .int 0), (0, .ref 125), (1, .int l1), (2, .int l2), (3, .int l3), (4, .int l4), (5, .int l5), (7, .int l7), (8, .int l8)] [.int 1] _ 0 0 _
            refine x_ifne (tgt := 168) rfl rfl (ti_ne jk_1 jk_0 (bn_t (by omega) ?_))
            exact jX.sub (jsb_c rfl (jsb_c rfl (jsb_c rfl (jsb_c rfl (jsb_c rfl (jsb_c rfl (jsb_c rfl (jsb_c rfl (jsb_c rfl jsb_n))))))))) (ct_X12_line_r125d_168 hD hQ  l1 l2 l3 l4 l5 l7 l8 g0 g1 g2 g3 g4 u6 u9 0 u7 u8 h (jr_of rfl (by omega)) (jr_of rfl (by omega)) (jr_of rfl (by omega)) (jr_of rfl (by omega)) (jr_of rfl (by omega)) (jr_of rfl (by omega)) (jr_of rfl (by omega)) (jr_mod rfl (by omega)) (jr_of rfl (by omega)) (jr_of rfl (by omega)) (jr_of rfl (by omega)) (jr_of rfl (by omega)) (jr_of rfl (by omega)) (jr_of rfl (by omega)) (jr_of rfl (by omega)) (jr_of jk_0 (by omega)) (jr_of rfl (by omega)) (jr_of rfl (by omega)) (by omega) (by omega) (by omega) (jmc S5 rfl (jmo w4 rfl (jmo w3 rfl (jmo w2 rfl z0)))) (jmc S5 rfl (jmo w4 rfl (jmo w3 rfl (jmo w2 rfl z1)))) (jmc S5 rfl (jmo w4 rfl (jmo w3 rfl (jmo w2 rfl z2)))) (jmc S5 rfl (jmo w4 rfl (jmo w3 rfl (jmo w2 rfl z3)))) (jmc S5 rfl (jmo w4 rfl (jmo w3 rfl (jmo w2 rfl z4)))) qu6 qu9 (jmc S5 rfl (jmo w4 rfl (jmw w3))) qu7 qu8 J Sm D)
    ·
      rw [if_neg (by omega)] at D
      refine x_aloadn (x := 125) rfl rfl ?_
      refine z_getR (N := 92) (b := 126) 12 2 rfl f_12_8 rfl J rfl 16002 ⟨rfl, rfl⟩ rfl ?_
      refine x_iload (x := l8) rfl rfl ?_
      refine x_iload (x := l9) rfl rfl ?_
      refine z_iadd rfl rfl rfl (by omega) (fun v20 ev20 => ?_)
      refine x_iconst (v := 0) rfl ki_0 ?_
      refine z_iast (N := 50660) (l := 20) (u := 18020) (w := 0) rfl hD J Sm rfl rfl rfl (by omega) jk_0 (wr_126_20 (by omega) (fun q1 q2 q3 q4 => by omega) (fun q1 q2 q3 q4 => by omega) (fun q1 q2 q3 q4 => by omega) (fun q1 q2 q3 q4 => by omega) (fun q1 q2 q3 q4 => by omega) (fun q1 q2 q3 q4 => by omega) (fun q1 q2 q3 q4 => by omega) (fun q1 q2 q3 q4 => by omega) (fun q1 q2 q3 q4 => by omega) (fun q1 q2 q3 q4 => by omega) (fun q1 q2 q3 q4 => by omega) (fun q1 q2 q3 q4 => by omega) (fun q1 q2 q3 q4 => by omega) (fun q1 q2 q3 q4 => by omega) (fun q1 q2 q3 q4 => by omega) (fun q1 q2 q3 q4 => by omega) (fun q1 q2 q3 q4 => by omega) (fun q1 q2 q3 q4 => by omega) (fun q1 q2 q3 q4 => by omega) (fun q1 q2 q3 q4 => by omega) (fun q1 q2 q3 q4 => by omega) (fun q1 q2 q3 q4 => by omega) (fun q1 q2 q3 q4 => by omega)) rfl (fun h w21 J Sm => ?_)
      rw [vww w21 (show (l8.toInt + l9.toInt) = v20.toInt from by omega) (show 0 = (0 : Int32).toInt from by have := jk_0; omega)] at D
      refine z_iinc (x := l9) (lsx9 := fun v22 => [(9, .int v22), (0, .ref 125), (1, .int l1), (2, .int l2), (3, .int l3), (4, .int l4), (5, .int l5), (7, .int l7), (8, .int l8)]) rfl rfl rfl jko_1 (by omega) rfl (fun _ => rfl) (fun v22 ev22 => ?_)
      refine x_goto (tgt := 117) rfl rfl ?_
      try rw [show (l9.toInt + 1) = v22.toInt from by omega] at D
      exact jX.sub (jsb_c rfl (jsb_c rfl (jsb_c rfl (jsb_c rfl (jsb_c rfl (jsb_c rfl (jsb_c rfl (jsb_c rfl (jsb_c rfl jsb_n))))))))) (ih l1 l2 l3 l4 l5 l7 l8 v22 g0 g1 g2 g3 g4 g5 g6 g7 g8 h (by omega) (jr_of rfl (by omega)) (jr_of rfl (by omega)) (jr_of rfl (by omega)) (jr_of rfl (by omega)) (jr_of rfl (by omega)) (jr_of rfl (by omega)) (jr_of rfl (by omega)) (jr_mod rfl (by omega)) (jr_of rfl (by omega)) (jr_of rfl (by omega)) (jr_of rfl (by omega)) (jr_of rfl (by omega)) (jr_of rfl (by omega)) (jr_of rfl (by omega)) (jr_of rfl (by omega)) (jr_of rfl (by omega)) (jr_of rfl (by omega)) (jr_of rfl (by omega)) (by omega) (jmo2 w21 rfl jk_0 (by omega) z0) (jmo2 w21 rfl jk_16 (by omega) z1) (jmo2 w21 rfl jk_4 (by omega) z2) (jmo2 w21 rfl jk_5 (by omega) z3) (jmo2 w21 rfl jk_7 (by omega) z4) (jmo w21 rfl z5) (jmo w21 rfl z6) (jmo w21 rfl z7) (jmo w21 rfl z8) J Sm D)
set_option maxRecDepth 100000 in
set_option maxHeartbeats 4000000 in
theorem ct_X12_line_r125d_300058 {Dy : jH → Prop} {h0 : jH} {Q : Option Value → jH → Prop} {dr : (Int × jW)} (hD : jDk Dy) (hQ : ∀ (v : Int32) hx9, jJ jSgM Dy hx9 → jSm fp_X12_line_r125d h0 hx9 → ∀ u0 u1 u2 u3 u4 : Int32, jiv hx9 126 (16 : Int32).toNatClampNeg = u0 → jiv hx9 126 (0 : Int32).toNatClampNeg = u1 → jiv hx9 126 (4 : Int32).toNatClampNeg = u2 → jiv hx9 126 (5 : Int32).toNatClampNeg = u3 → jiv hx9 126 (7 : Int32).toNatClampNeg = u4 → u0.toInt = u1.toInt + u2.toInt + u3.toInt + u4.toInt → dr.1 = v.toInt → dr.2 = vw hx9 → Q (some (.int v)) hx9) : ∀ (l1 : Int32) (l2 : Int32) (l3 : Int32) (l4 : Int32) (l5 : Int32) (g0 : Int32) (g1 : Int32) (g2 : Int32) (g3 : Int32) (g4 : Int32) (g5 : Int32) (g6 : Int32) (g7 : Int32) (g8 : Int32) (h : jH), 0 ≤ l1.toInt ∧ l1.toInt ≤ 5 → 0 ≤ l2.toInt ∧ l2.toInt ≤ 15 → 0 ≤ l3.toInt ∧ l3.toInt ≤ 146399 → 0 ≤ l4.toInt ∧ l4.toInt ≤ 146399 → (-1) ≤ l5.toInt ∧ l5.toInt ≤ 100000 → 0 ≤ g0.toInt ∧ g0.toInt ≤ 200 → 0 ≤ g1.toInt ∧ g1.toInt ≤ 370 → 0 ≤ g2.toInt ∧ g2.toInt ≤ 30 → 0 ≤ g3.toInt ∧ g3.toInt ≤ 100 → 0 ≤ g4.toInt ∧ g4.toInt ≤ 40 → 0 ≤ g5.toInt ∧ g5.toInt ≤ 400 → 0 ≤ g6.toInt ∧ g6.toInt ≤ 3 → 0 ≤ g7.toInt ∧ g7.toInt ≤ 400 → 0 ≤ g8.toInt ∧ g8.toInt ≤ 400 → g1.toInt = g0.toInt + g2.toInt + g3.toInt + g4.toInt → jiv h 126 (0 : Int32).toNatClampNeg = g0 → jiv h 126 (16 : Int32).toNatClampNeg = g1 → jiv h 126 (4 : Int32).toNatClampNeg = g2 → jiv h 126 (5 : Int32).toNatClampNeg = g3 → jiv h 126 (7 : Int32).toNatClampNeg = g4 → jiv h 125 10 = g5 → jiv h 125 11 = g6 → jiv h 125 8 = g7 → jiv h 125 9 = g8 → jJ jSgM Dy h → jSm fp_X12_line_r125d h0 h → d_X12_line_r125d_300058  l1.toInt l2.toInt l3.toInt l4.toInt l5.toInt (vw h) = dr → jX m_X12_line 6 0 0 58 [(0, .ref 125), (1, .int l1), (2, .int l2), (3, .int l3), (4, .int l4), (5, .int l5)] [.int 1] h 0 0 Q := by
  intro l1 l2 l3 l4 l5 g0 g1 g2 g3 g4 g5 g6 g7 g8 h y0 y1 y2 y3 y4 y5 y6 y7 y8 y9 y10 y11 y12 y13 y14 z0 z1 z2 z3 z4 z5 z6 z7 z8  J Sm D
  unfold d_X12_line_r125d_300058 at D
  try rw [vrn (n := 0) (by decide) z0] at D
  try rw [vrn (n := 16) (by decide) z1] at D
  try rw [vrn (n := 4) (by decide) z2] at D
  try rw [vrn (n := 5) (by decide) z3] at D
  try rw [vrn (n := 7) (by decide) z4] at D
  try rw [vrf z5] at D
  try rw [vrf z6] at D
  try rw [vrf z7] at D
  try rw [vrf z8] at D
  refine x_istore (lsx9 := [(6, .int 1), (0, .ref 125), (1, .int l1), (2, .int l2), (3, .int l3), (4, .int l4), (5, .int l5)]) rfl rfl rfl ?_
  refine x_iload (x := 1) rfl rfl ?_
  refine x_ifeq (tgt := 77) rfl rfl (ti_eq jk_1 jk_0 (br_f (by omega) ?_))
  refine x_aloadn (x := 125) rfl rfl ?_
  refine z_getR (N := 92) (b := 126) 12 2 rfl f_12_8 rfl J rfl 16002 ⟨rfl, rfl⟩ rfl ?_
  refine x_iconst (v := 0) rfl ki_0 ?_
  refine z_ialdM (N := 50660) (v := g0) rfl J rfl jk_0 (by omega) z0 ?_
  refine x_sipush (v := 200) rfl ks_200 ?_
  refine x_icne (tgt := 98) rfl rfl (ti_ne rfl jk_200 ⟨fun c1 => ?_, fun c1 => ?_⟩)
  ·
    rw [if_neg (by omega)] at D
    refine x_aloadn (x := 125) rfl rfl ?_
    refine z_getR (N := 92) (b := 126) 12 2 rfl f_12_8 rfl J rfl 16002 ⟨rfl, rfl⟩ rfl ?_
    refine x_iconst (v := 0) rfl ki_0 ?_
    refine z_ialdM (N := 50660) (v := g0) rfl J rfl jk_0 (by omega) z0 ?_
    refine x_istore (lsx9 := [(7, .int g0), (6, .int 1), (0, .ref 125), (1, .int l1), (2, .int l2), (3, .int l3), (4, .int l4), (5, .int l5)]) rfl rfl rfl ?_
    refine x_aloadn (x := 125) rfl rfl ?_
    refine x_iload (x := g0) rfl rfl ?_
    refine x_inv (N := m_X12_at) (As := [.int g0]) (b := 125) (st := []) (dx9 := 5) (mc := 0) (ms := 0) (host := "") 12 rfl t_X12_at ⟨Or.inl q_12_254, i_X12_at.1, i_X12_at.2⟩ ⟨by decide, rfl⟩ (congrArg Prod.fst (J.1.1 125 (12, 92) rfl)) rfl (by decide) rfl rfl ⟨by decide, by decide⟩ (jC.of rfl k_X12_at rfl ?_)
    show jX m_X12_at 5 0 0 0 [(0, .ref 125), (1, .int g0)] [] _ 0 0 _
    refine x_bipush (v := 20) rfl kb_20 ?_
    refine x_bipush (v := 90) rfl kb_90 ?_
    refine x_iloadn (x := g0) rfl rfl ?_
    refine z_imul rfl jk_90 rfl (by omega) (fun v2 ev2 => ?_)
    refine z_iadd rfl jk_20 rfl (by omega) (fun v3 ev3 => ?_)
    refine x_iret rfl rfl ?_
    show jX m_X12_line 6 0 0 112 [(7, .int g0), (6, .int 1), (0, .ref 125), (1, .int l1), (2, .int l2), (3, .int l3), (4, .int l4), (5, .int l5)] [.int v3] _ 0 0 _
    refine x_istore (lsx9 := [(8, .int v3), (7, .int g0), (6, .int 1), (0, .ref 125), (1, .int l1), (2, .int l2), (3, .int l3), (4, .int l4), (5, .int l5)]) rfl rfl rfl ?_
    refine x_iconst (v := 0) rfl ki_0 ?_
    refine x_istore (lsx9 := [(9, .int 0), (8, .int v3), (7, .int g0), (6, .int 1), (0, .ref 125), (1, .int l1), (2, .int l2), (3, .int l3), (4, .int l4), (5, .int l5)]) rfl rfl rfl ?_
    try rw [show (20 + (90 * g0.toInt)) = v3.toInt from by omega] at D
    exact jX.sub (jsb_c rfl (jsb_c rfl (jsb_c rfl (jsb_c rfl (jsb_c rfl (jsb_c rfl (jsb_c rfl (jsb_c rfl (jsb_c rfl jsb_n))))))))) (ct_X12_line_r125d_117 hD hQ  91 l1 l2 l3 l4 l5 g0 v3 0 g0 g1 g2 g3 g4 g5 g6 g7 g8 h (by have := jk_0; omega) (jr_of rfl (by omega)) (jr_of rfl (by omega)) (jr_of rfl (by omega)) (jr_of rfl (by omega)) (jr_of rfl (by omega)) (jr_of rfl (by omega)) (jr_of rfl (by omega)) (jr_mod rfl (by omega)) (jr_of jk_0 (by omega)) (jr_of rfl (by omega)) (jr_of rfl (by omega)) (jr_of rfl (by omega)) (jr_of rfl (by omega)) (jr_of rfl (by omega)) (jr_of rfl (by omega)) (jr_of rfl (by omega)) (jr_of rfl (by omega)) (jr_of rfl (by omega)) (by omega) z0 z1 z2 z3 z4 z5 z6 z7 z8 J Sm (by rw [jk_0]; exact D))
  ·
    rw [if_pos (by omega)] at D
    exact jX.sub (jsb_c rfl (jsb_c rfl jsb_n)) (ct_X12_line_r125d_77 hD hQ  1 g0 g1 g2 g3 g4 g5 g6 g7 g8 h (jr_of jk_1 (by omega)) (jr_of rfl (by omega)) (jr_of rfl (by omega)) (jr_of rfl (by omega)) (jr_of rfl (by omega)) (jr_of rfl (by omega)) (jr_of rfl (by omega)) (jr_of rfl (by omega)) (jr_of rfl (by omega)) (jr_of rfl (by omega)) (by omega) z0 z1 z2 z3 z4 z5 z6 z7 z8 J Sm (by rw [jk_1]; exact D))
set_option maxRecDepth 100000 in
set_option maxHeartbeats 4000000 in
theorem ct_X12_line_r125d_200058 {Dy : jH → Prop} {h0 : jH} {Q : Option Value → jH → Prop} {dr : (Int × jW)} (hD : jDk Dy) (hQ : ∀ (v : Int32) hx9, jJ jSgM Dy hx9 → jSm fp_X12_line_r125d h0 hx9 → ∀ u0 u1 u2 u3 u4 : Int32, jiv hx9 126 (16 : Int32).toNatClampNeg = u0 → jiv hx9 126 (0 : Int32).toNatClampNeg = u1 → jiv hx9 126 (4 : Int32).toNatClampNeg = u2 → jiv hx9 126 (5 : Int32).toNatClampNeg = u3 → jiv hx9 126 (7 : Int32).toNatClampNeg = u4 → u0.toInt = u1.toInt + u2.toInt + u3.toInt + u4.toInt → dr.1 = v.toInt → dr.2 = vw hx9 → Q (some (.int v)) hx9) : ∀ (l1 : Int32) (l2 : Int32) (l3 : Int32) (l4 : Int32) (l5 : Int32) (g0 : Int32) (g1 : Int32) (g2 : Int32) (g3 : Int32) (g4 : Int32) (g5 : Int32) (g6 : Int32) (g7 : Int32) (g8 : Int32) (h : jH), 0 ≤ g0.toInt ∧ g0.toInt ≤ 200 → 0 ≤ g1.toInt ∧ g1.toInt ≤ 370 → 0 ≤ g2.toInt ∧ g2.toInt ≤ 30 → 0 ≤ g3.toInt ∧ g3.toInt ≤ 100 → 0 ≤ g4.toInt ∧ g4.toInt ≤ 40 → 0 ≤ g5.toInt ∧ g5.toInt ≤ 400 → 0 ≤ g6.toInt ∧ g6.toInt ≤ 3 → 0 ≤ g7.toInt ∧ g7.toInt ≤ 400 → 0 ≤ g8.toInt ∧ g8.toInt ≤ 400 → g1.toInt = g0.toInt + g2.toInt + g3.toInt + g4.toInt → jiv h 126 (0 : Int32).toNatClampNeg = g0 → jiv h 126 (16 : Int32).toNatClampNeg = g1 → jiv h 126 (4 : Int32).toNatClampNeg = g2 → jiv h 126 (5 : Int32).toNatClampNeg = g3 → jiv h 126 (7 : Int32).toNatClampNeg = g4 → jiv h 125 10 = g5 → jiv h 125 11 = g6 → jiv h 125 8 = g7 → jiv h 125 9 = g8 → jJ jSgM Dy h → jSm fp_X12_line_r125d h0 h → d_X12_line_r125d_200058  l1.toInt l2.toInt l3.toInt l4.toInt l5.toInt (vw h) = dr → jX m_X12_line 6 0 0 58 [(0, .ref 125), (1, .int l1), (2, .int l2), (3, .int l3), (4, .int l4), (5, .int l5)] [.int 0] h 0 0 Q := by
  intro l1 l2 l3 l4 l5 g0 g1 g2 g3 g4 g5 g6 g7 g8 h y0 y1 y2 y3 y4 y5 y6 y7 y8 y9 z0 z1 z2 z3 z4 z5 z6 z7 z8  J Sm D
  have el1 := jfull l1
  have el2 := jfull l2
  have el3 := jfull l3
  have el4 := jfull l4
  have el5 := jfull l5
  unfold d_X12_line_r125d_200058 at D
  try rw [vrn (n := 0) (by decide) z0] at D
  try rw [vrn (n := 16) (by decide) z1] at D
  try rw [vrn (n := 4) (by decide) z2] at D
  try rw [vrn (n := 5) (by decide) z3] at D
  try rw [vrn (n := 7) (by decide) z4] at D
  try rw [vrf z5] at D
  try rw [vrf z6] at D
  try rw [vrf z7] at D
  try rw [vrf z8] at D
  refine x_istore (lsx9 := [(6, .int 0), (0, .ref 125), (1, .int l1), (2, .int l2), (3, .int l3), (4, .int l4), (5, .int l5)]) rfl rfl rfl ?_
  refine x_iload (x := 0) rfl rfl ?_
  refine x_ifeq (tgt := 77) rfl rfl (ti_eq jk_0 jk_0 (br_t (by omega) ?_))
  exact jX.sub (jsb_c rfl (jsb_c rfl jsb_n)) (ct_X12_line_r125d_77 hD hQ  0 g0 g1 g2 g3 g4 g5 g6 g7 g8 h (jr_of jk_0 (by omega)) (jr_of rfl (by omega)) (jr_of rfl (by omega)) (jr_of rfl (by omega)) (jr_of rfl (by omega)) (jr_of rfl (by omega)) (jr_of rfl (by omega)) (jr_of rfl (by omega)) (jr_of rfl (by omega)) (jr_of rfl (by omega)) (by omega) z0 z1 z2 z3 z4 z5 z6 z7 z8 J Sm (by rw [jk_0]; exact D))
set_option maxRecDepth 100000 in
set_option maxHeartbeats 4000000 in
theorem ct_X12_line_r125d_57 {Dy : jH → Prop} {h0 : jH} {Q : Option Value → jH → Prop} {dr : (Int × jW)} (hD : jDk Dy) (hQ : ∀ (v : Int32) hx9, jJ jSgM Dy hx9 → jSm fp_X12_line_r125d h0 hx9 → ∀ u0 u1 u2 u3 u4 : Int32, jiv hx9 126 (16 : Int32).toNatClampNeg = u0 → jiv hx9 126 (0 : Int32).toNatClampNeg = u1 → jiv hx9 126 (4 : Int32).toNatClampNeg = u2 → jiv hx9 126 (5 : Int32).toNatClampNeg = u3 → jiv hx9 126 (7 : Int32).toNatClampNeg = u4 → u0.toInt = u1.toInt + u2.toInt + u3.toInt + u4.toInt → dr.1 = v.toInt → dr.2 = vw hx9 → Q (some (.int v)) hx9) : ∀ (l1 : Int32) (l2 : Int32) (l3 : Int32) (l4 : Int32) (l5 : Int32) (g0 : Int32) (g1 : Int32) (g2 : Int32) (g3 : Int32) (g4 : Int32) (g5 : Int32) (g6 : Int32) (g7 : Int32) (g8 : Int32) (h : jH), 0 ≤ g0.toInt ∧ g0.toInt ≤ 200 → 0 ≤ g1.toInt ∧ g1.toInt ≤ 370 → 0 ≤ g2.toInt ∧ g2.toInt ≤ 30 → 0 ≤ g3.toInt ∧ g3.toInt ≤ 100 → 0 ≤ g4.toInt ∧ g4.toInt ≤ 40 → 0 ≤ g5.toInt ∧ g5.toInt ≤ 400 → 0 ≤ g6.toInt ∧ g6.toInt ≤ 3 → 0 ≤ g7.toInt ∧ g7.toInt ≤ 400 → 0 ≤ g8.toInt ∧ g8.toInt ≤ 400 → g1.toInt = g0.toInt + g2.toInt + g3.toInt + g4.toInt → jiv h 126 (0 : Int32).toNatClampNeg = g0 → jiv h 126 (16 : Int32).toNatClampNeg = g1 → jiv h 126 (4 : Int32).toNatClampNeg = g2 → jiv h 126 (5 : Int32).toNatClampNeg = g3 → jiv h 126 (7 : Int32).toNatClampNeg = g4 → jiv h 125 10 = g5 → jiv h 125 11 = g6 → jiv h 125 8 = g7 → jiv h 125 9 = g8 → jJ jSgM Dy h → jSm fp_X12_line_r125d h0 h → d_X12_line_r125d_57  l1.toInt l2.toInt l3.toInt l4.toInt l5.toInt (vw h) = dr → jX m_X12_line 6 0 0 57 [(0, .ref 125), (1, .int l1), (2, .int l2), (3, .int l3), (4, .int l4), (5, .int l5)] [] h 0 0 Q := by
  intro l1 l2 l3 l4 l5 g0 g1 g2 g3 g4 g5 g6 g7 g8 h y0 y1 y2 y3 y4 y5 y6 y7 y8 y9 z0 z1 z2 z3 z4 z5 z6 z7 z8  J Sm D
  have el1 := jfull l1
  have el2 := jfull l2
  have el3 := jfull l3
  have el4 := jfull l4
  have el5 := jfull l5
  unfold d_X12_line_r125d_57 at D
  try rw [vrn (n := 0) (by decide) z0] at D
  try rw [vrn (n := 16) (by decide) z1] at D
  try rw [vrn (n := 4) (by decide) z2] at D
  try rw [vrn (n := 5) (by decide) z3] at D
  try rw [vrn (n := 7) (by decide) z4] at D
  try rw [vrf z5] at D
  try rw [vrf z6] at D
  try rw [vrf z7] at D
  try rw [vrf z8] at D
  refine x_iconst (v := 0) rfl ki_0 ?_
  exact jX.sub (jsb_c rfl (jsb_c rfl (jsb_c rfl (jsb_c rfl (jsb_c rfl (jsb_c rfl jsb_n)))))) (ct_X12_line_r125d_200058 hD hQ  l1 l2 l3 l4 l5 g0 g1 g2 g3 g4 g5 g6 g7 g8 h (jr_of rfl (by omega)) (jr_of rfl (by omega)) (jr_of rfl (by omega)) (jr_of rfl (by omega)) (jr_of rfl (by omega)) (jr_of rfl (by omega)) (jr_of rfl (by omega)) (jr_of rfl (by omega)) (jr_of rfl (by omega)) (by omega) z0 z1 z2 z3 z4 z5 z6 z7 z8 J Sm D)
set_option maxRecDepth 100000 in
set_option maxHeartbeats 4000000 in
theorem sf_X12_line_r125d {Dy : jH → Prop} {h : jH} {Q : Option Value → jH → Prop} {dr : (Int × jW)} {a1 : Int32} {a2 : Int32} {a3 : Int32} {a4 : Int32} {a5 : Int32} (hD : jDk Dy) (J : jJ jSgM Dy h) {p0 p1 p2 p3 p4 : Int32} (zp0 : jiv h 126 (16 : Int32).toNatClampNeg = p0) (zp1 : jiv h 126 (0 : Int32).toNatClampNeg = p1) (zp2 : jiv h 126 (4 : Int32).toNatClampNeg = p2) (zp3 : jiv h 126 (5 : Int32).toNatClampNeg = p3) (zp4 : jiv h 126 (7 : Int32).toNatClampNeg = p4) (rl_p0 : p0.toInt = p1.toInt + p2.toInt + p3.toInt + p4.toInt) (D : d_X12_line_r125d a1.toInt a2.toInt a3.toInt a4.toInt a5.toInt (vw h) = dr) (hQ : ∀ (v : Int32) hx9, jJ jSgM Dy hx9 → jSm fp_X12_line_r125d h hx9 → ∀ u0 u1 u2 u3 u4 : Int32, jiv hx9 126 (16 : Int32).toNatClampNeg = u0 → jiv hx9 126 (0 : Int32).toNatClampNeg = u1 → jiv hx9 126 (4 : Int32).toNatClampNeg = u2 → jiv hx9 126 (5 : Int32).toNatClampNeg = u3 → jiv hx9 126 (7 : Int32).toNatClampNeg = u4 → u0.toInt = u1.toInt + u2.toInt + u3.toInt + u4.toInt → dr.1 = v.toInt → dr.2 = vw hx9 → Q (some (.int v)) hx9) : jC m_X12_line 6 0 0 [.ref 125, .int a1, .int a2, .int a3, .int a4, .int a5] h Q := by
  refine jC.of rfl k_X12_line rfl ?_
  have Sm := jSm_rf fp_X12_line_r125d h
  have ep0 := (show 0 ≤ p0.toInt ∧ p0.toInt ≤ 370 from zp0 ▸ jrg_c J sg_126_16_17_1_0_1 jk_16 (by omega))
  have ep1 := (show 0 ≤ p1.toInt ∧ p1.toInt ≤ 200 from zp1 ▸ jrg_c J sg_126_0_1_1_0_1 jk_0 (by omega))
  have ep2 := (show 0 ≤ p2.toInt ∧ p2.toInt ≤ 30 from zp2 ▸ jrg_c J sg_126_4_5_1_0_1 jk_4 (by omega))
  have ep3 := (show 0 ≤ p3.toInt ∧ p3.toInt ≤ 100 from zp3 ▸ jrg_c J sg_126_5_6_1_0_1 jk_5 (by omega))
  have ep4 := (show 0 ≤ p4.toInt ∧ p4.toInt ≤ 40 from zp4 ▸ jrg_c J sg_126_7_8_1_0_1 jk_7 (by omega))
  have ea1 := jfull a1
  have ea2 := jfull a2
  have ea3 := jfull a3
  have ea4 := jfull a4
  have ea5 := jfull a5
  show jX m_X12_line 6 0 0 0 [(0, .ref 125), (1, .int a1), (2, .int a2), (3, .int a3), (4, .int a4), (5, .int a5)] [] _ 0 0 _
  unfold d_X12_line_r125d at D
  try rw [vrn (n := 16) (by decide) zp0] at D
  try rw [vrn (n := 0) (by decide) zp1] at D
  try rw [vrn (n := 4) (by decide) zp2] at D
  try rw [vrn (n := 5) (by decide) zp3] at D
  try rw [vrn (n := 7) (by decide) zp4] at D
  refine x_aloadn (x := 125) rfl rfl ?_
  refine x_iconst (v := 0) rfl ki_0 ?_
  refine z_putI (N := 92) (w := 0) 12 0 rfl f_12_180 rfl (jfin_no TX12 RX12 92 rfl rfl) hD J Sm rfl rfl jk_0 (pw_125_0 (by omega)) rfl (fun h w1 J Sm => ?_)
  rw [vwf w1 (show 0 = (0 : Int32).toInt from by have := jk_0; omega)] at D
  refine x_iloadn (x := a1) rfl rfl ?_
  refine z_i2l rfl rfl (fun v2 ev2 => ?_)
  refine x_lconst (v := 0) rfl kl_0 ?_
  refine x_ldc2 (v := 5) rfl z_12_269 ?_
  refine x_inst (N := m_X12_in) (As := [.long v2, .long 0, .long 5]) (st := []) (dx9 := 1) (mc := 0) (ms := 0) (host := "") rfl t_X12_in ⟨Or.inl q_12_188, s_X12_in⟩ rfl (by decide) rfl rfl ⟨by decide, by decide⟩ (zc_X12_in rfl jkl_0 jkl_5 (fun v3 ev3 => ?_))
  show jX m_X12_line 6 0 0 14 [(0, .ref 125), (1, .int a1), (2, .int a2), (3, .int a3), (4, .int a4), (5, .int a5)] [.int v3] _ 0 0 _
  refine x_ifeq (tgt := 57) rfl rfl (ti_eq rfl jk_0 ⟨fun c4 => ?_, fun c4 => ?_⟩)
  ·
    rw [if_neg (by omega)] at D
    obtain ⟨u5, qu5⟩ : ∃ v : Int32, jiv h 125 10 = v := ⟨_, rfl⟩
    have eu5 := (show 0 ≤ u5.toInt ∧ u5.toInt ≤ 400 from qu5 ▸ jrg_f J sg_125_10_11_1_0_1)
    try rw [vrf (jmb_w w1 qu5 rfl)] at D
    obtain ⟨u6, qu6⟩ : ∃ v : Int32, jiv h 125 11 = v := ⟨_, rfl⟩
    have eu6 := (show 0 ≤ u6.toInt ∧ u6.toInt ≤ 3 from qu6 ▸ jrg_f J sg_125_11_12_1_0_1)
    try rw [vrf (jmb_w w1 qu6 rfl)] at D
    obtain ⟨u7, qu7⟩ : ∃ v : Int32, jiv h 125 8 = v := ⟨_, rfl⟩
    have eu7 := (show 0 ≤ u7.toInt ∧ u7.toInt ≤ 400 from qu7 ▸ jrg_f J sg_125_8_9_1_0_1)
    try rw [vrf (jmb_w w1 qu7 rfl)] at D
    obtain ⟨u8, qu8⟩ : ∃ v : Int32, jiv h 125 9 = v := ⟨_, rfl⟩
    have eu8 := (show 0 ≤ u8.toInt ∧ u8.toInt ≤ 400 from qu8 ▸ jrg_f J sg_125_9_10_1_0_1)
    try rw [vrf (jmb_w w1 qu8 rfl)] at D
    exact jX.sub (jsb_c rfl (jsb_c rfl (jsb_c rfl (jsb_c rfl (jsb_c rfl (jsb_c rfl jsb_n)))))) (ct_X12_line_r125d_57 hD hQ  a1 a2 a3 a4 a5 p1 p0 p2 p3 p4 u5 u6 u7 u8 h (jr_of rfl (by omega)) (jr_of rfl (by omega)) (jr_of rfl (by omega)) (jr_of rfl (by omega)) (jr_of rfl (by omega)) (jr_of rfl (by omega)) (jr_of rfl (by omega)) (jr_of rfl (by omega)) (jr_of rfl (by omega)) (by omega) (jmo w1 rfl zp1) (jmo w1 rfl zp0) (jmo w1 rfl zp2) (jmo w1 rfl zp3) (jmo w1 rfl zp4) qu5 qu6 qu7 qu8 J Sm D)
  ·
    rw [if_pos (by omega)] at D
    refine x_iloadn (x := a2) rfl rfl ?_
    refine z_i2l rfl rfl (fun v9 ev9 => ?_)
    refine x_lconst (v := 0) rfl kl_0 ?_
    refine x_ldc2 (v := 15) rfl z_12_271 ?_
    refine x_inst (N := m_X12_in) (As := [.long v9, .long 0, .long 15]) (st := []) (dx9 := 1) (mc := 0) (ms := 0) (host := "") rfl t_X12_in ⟨Or.inl q_12_188, s_X12_in⟩ rfl (by decide) rfl rfl ⟨by decide, by decide⟩ (zc_X12_in rfl jkl_0 jkl_15 (fun v10 ev10 => ?_))
    show jX m_X12_line 6 0 0 26 [(0, .ref 125), (1, .int a1), (2, .int a2), (3, .int a3), (4, .int a4), (5, .int a5)] [.int v10] _ 0 0 _
    refine x_ifeq (tgt := 57) rfl rfl (ti_eq rfl jk_0 ⟨fun c11 => ?_, fun c11 => ?_⟩)
    ·
      rw [if_neg (by omega)] at D
      obtain ⟨u12, qu12⟩ : ∃ v : Int32, jiv h 125 10 = v := ⟨_, rfl⟩
      have eu12 := (show 0 ≤ u12.toInt ∧ u12.toInt ≤ 400 from qu12 ▸ jrg_f J sg_125_10_11_1_0_1)
      try rw [vrf (jmb_w w1 qu12 rfl)] at D
      obtain ⟨u13, qu13⟩ : ∃ v : Int32, jiv h 125 11 = v := ⟨_, rfl⟩
      have eu13 := (show 0 ≤ u13.toInt ∧ u13.toInt ≤ 3 from qu13 ▸ jrg_f J sg_125_11_12_1_0_1)
      try rw [vrf (jmb_w w1 qu13 rfl)] at D
      obtain ⟨u14, qu14⟩ : ∃ v : Int32, jiv h 125 8 = v := ⟨_, rfl⟩
      have eu14 := (show 0 ≤ u14.toInt ∧ u14.toInt ≤ 400 from qu14 ▸ jrg_f J sg_125_8_9_1_0_1)
      try rw [vrf (jmb_w w1 qu14 rfl)] at D
      obtain ⟨u15, qu15⟩ : ∃ v : Int32, jiv h 125 9 = v := ⟨_, rfl⟩
      have eu15 := (show 0 ≤ u15.toInt ∧ u15.toInt ≤ 400 from qu15 ▸ jrg_f J sg_125_9_10_1_0_1)
      try rw [vrf (jmb_w w1 qu15 rfl)] at D
      exact jX.sub (jsb_c rfl (jsb_c rfl (jsb_c rfl (jsb_c rfl (jsb_c rfl (jsb_c rfl jsb_n)))))) (ct_X12_line_r125d_57 hD hQ  a1 a2 a3 a4 a5 p1 p0 p2 p3 p4 u12 u13 u14 u15 h (jr_of rfl (by omega)) (jr_of rfl (by omega)) (jr_of rfl (by omega)) (jr_of rfl (by omega)) (jr_of rfl (by omega)) (jr_of rfl (by omega)) (jr_of rfl (by omega)) (jr_of rfl (by omega)) (jr_of rfl (by omega)) (by omega) (jmo w1 rfl zp1) (jmo w1 rfl zp0) (jmo w1 rfl zp2) (jmo w1 rfl zp3) (jmo w1 rfl zp4) qu12 qu13 qu14 qu15 J Sm D)
    ·
      rw [if_pos (by omega)] at D
      refine x_iloadn (x := a3) rfl rfl ?_
      refine x_inst (N := m_X12_isDay) (As := [.int a3]) (st := []) (dx9 := 2) (mc := 0) (ms := 0) (host := "") rfl t_X12_isDay ⟨Or.inl q_12_273, s_X12_isDay⟩ rfl (by decide) rfl rfl ⟨by decide, by decide⟩ (zc_X12_isDay (d := 1) rfl (fun v16 ev16 => ?_))
      show jX m_X12_line 6 0 0 33 [(0, .ref 125), (1, .int a1), (2, .int a2), (3, .int a3), (4, .int a4), (5, .int a5)] [.int v16] _ 0 0 _
      refine x_ifeq (tgt := 57) rfl rfl (ti_eq rfl jk_0 ⟨fun c17 => ?_, fun c17 => ?_⟩)
      ·
        rw [if_neg (by omega)] at D
        obtain ⟨u18, qu18⟩ : ∃ v : Int32, jiv h 125 10 = v := ⟨_, rfl⟩
        have eu18 := (show 0 ≤ u18.toInt ∧ u18.toInt ≤ 400 from qu18 ▸ jrg_f J sg_125_10_11_1_0_1)
        try rw [vrf (jmb_w w1 qu18 rfl)] at D
        obtain ⟨u19, qu19⟩ : ∃ v : Int32, jiv h 125 11 = v := ⟨_, rfl⟩
        have eu19 := (show 0 ≤ u19.toInt ∧ u19.toInt ≤ 3 from qu19 ▸ jrg_f J sg_125_11_12_1_0_1)
        try rw [vrf (jmb_w w1 qu19 rfl)] at D
        obtain ⟨u20, qu20⟩ : ∃ v : Int32, jiv h 125 8 = v := ⟨_, rfl⟩
        have eu20 := (show 0 ≤ u20.toInt ∧ u20.toInt ≤ 400 from qu20 ▸ jrg_f J sg_125_8_9_1_0_1)
        try rw [vrf (jmb_w w1 qu20 rfl)] at D
        obtain ⟨u21, qu21⟩ : ∃ v : Int32, jiv h 125 9 = v := ⟨_, rfl⟩
        have eu21 := (show 0 ≤ u21.toInt ∧ u21.toInt ≤ 400 from qu21 ▸ jrg_f J sg_125_9_10_1_0_1)
        try rw [vrf (jmb_w w1 qu21 rfl)] at D
        exact jX.sub (jsb_c rfl (jsb_c rfl (jsb_c rfl (jsb_c rfl (jsb_c rfl (jsb_c rfl jsb_n)))))) (ct_X12_line_r125d_57 hD hQ  a1 a2 a3 a4 a5 p1 p0 p2 p3 p4 u18 u19 u20 u21 h (jr_of rfl (by omega)) (jr_of rfl (by omega)) (jr_of rfl (by omega)) (jr_of rfl (by omega)) (jr_of rfl (by omega)) (jr_of rfl (by omega)) (jr_of rfl (by omega)) (jr_of rfl (by omega)) (jr_of rfl (by omega)) (by omega) (jmo w1 rfl zp1) (jmo w1 rfl zp0) (jmo w1 rfl zp2) (jmo w1 rfl zp3) (jmo w1 rfl zp4) qu18 qu19 qu20 qu21 J Sm D)
      ·
        rw [if_pos (by omega)] at D
        refine x_iload (x := a4) rfl rfl ?_
        refine x_inst (N := m_X12_isDay) (As := [.int a4]) (st := []) (dx9 := 2) (mc := 0) (ms := 0) (host := "") rfl t_X12_isDay ⟨Or.inl q_12_273, s_X12_isDay⟩ rfl (by decide) rfl rfl ⟨by decide, by decide⟩ (zc_X12_isDay (d := 1) rfl (fun v22 ev22 => ?_))
        show jX m_X12_line 6 0 0 41 [(0, .ref 125), (1, .int a1), (2, .int a2), (3, .int a3), (4, .int a4), (5, .int a5)] [.int v22] _ 0 0 _
        refine x_ifeq (tgt := 57) rfl rfl (ti_eq rfl jk_0 ⟨fun c23 => ?_, fun c23 => ?_⟩)
        ·
          rw [if_neg (by omega)] at D
          obtain ⟨u24, qu24⟩ : ∃ v : Int32, jiv h 125 10 = v := ⟨_, rfl⟩
          have eu24 := (show 0 ≤ u24.toInt ∧ u24.toInt ≤ 400 from qu24 ▸ jrg_f J sg_125_10_11_1_0_1)
          try rw [vrf (jmb_w w1 qu24 rfl)] at D
          obtain ⟨u25, qu25⟩ : ∃ v : Int32, jiv h 125 11 = v := ⟨_, rfl⟩
          have eu25 := (show 0 ≤ u25.toInt ∧ u25.toInt ≤ 3 from qu25 ▸ jrg_f J sg_125_11_12_1_0_1)
          try rw [vrf (jmb_w w1 qu25 rfl)] at D
          obtain ⟨u26, qu26⟩ : ∃ v : Int32, jiv h 125 8 = v := ⟨_, rfl⟩
          have eu26 := (show 0 ≤ u26.toInt ∧ u26.toInt ≤ 400 from qu26 ▸ jrg_f J sg_125_8_9_1_0_1)
          try rw [vrf (jmb_w w1 qu26 rfl)] at D
          obtain ⟨u27, qu27⟩ : ∃ v : Int32, jiv h 125 9 = v := ⟨_, rfl⟩
          have eu27 := (show 0 ≤ u27.toInt ∧ u27.toInt ≤ 400 from qu27 ▸ jrg_f J sg_125_9_10_1_0_1)
          try rw [vrf (jmb_w w1 qu27 rfl)] at D
          exact jX.sub (jsb_c rfl (jsb_c rfl (jsb_c rfl (jsb_c rfl (jsb_c rfl (jsb_c rfl jsb_n)))))) (ct_X12_line_r125d_57 hD hQ  a1 a2 a3 a4 a5 p1 p0 p2 p3 p4 u24 u25 u26 u27 h (jr_of rfl (by omega)) (jr_of rfl (by omega)) (jr_of rfl (by omega)) (jr_of rfl (by omega)) (jr_of rfl (by omega)) (jr_of rfl (by omega)) (jr_of rfl (by omega)) (jr_of rfl (by omega)) (jr_of rfl (by omega)) (by omega) (jmo w1 rfl zp1) (jmo w1 rfl zp0) (jmo w1 rfl zp2) (jmo w1 rfl zp3) (jmo w1 rfl zp4) qu24 qu25 qu26 qu27 J Sm D)
        ·
          rw [if_pos (by omega)] at D
          refine x_iloadn (x := a1) rfl rfl ?_
          refine x_iload (x := a5) rfl rfl ?_
          refine x_inst (N := m_X12_isNumber) (As := [.int a1, .int a5]) (st := []) (dx9 := 5) (mc := 0) (ms := 0) (host := "") rfl t_X12_isNumber ⟨Or.inl q_12_276, s_X12_isNumber⟩ rfl (by decide) rfl rfl ⟨by decide, by decide⟩ (jC.of rfl k_X12_isNumber rfl ?_)
          show jX m_X12_isNumber 5 0 0 0 [(0, .int a1), (1, .int a5)] [] _ 0 0 _
          refine x_iloadn (x := a1) rfl rfl ?_
          by_cases c28 : a1.toInt = 2
          ·
            refine x_tableIn (tgt := 32) 2 rfl c28 (by decide) (by decide) rfl rfl ?_
            rw [if_pos c28] at D
            refine x_iloadn (x := a5) rfl rfl ?_
            refine z_i2l rfl rfl (fun v29 ev29 => ?_)
            refine x_ldc2 (v := (-1)) rfl z_12_242 ?_
            refine x_ldc2 (v := 120) rfl z_12_263 ?_
            refine x_inst (N := m_X12_in) (As := [.long v29, .long (-1), .long 120]) (st := []) (dx9 := 1) (mc := 0) (ms := 0) (host := "") rfl t_X12_in ⟨Or.inl q_12_188, s_X12_in⟩ rfl (by decide) rfl rfl ⟨by decide, by decide⟩ (zc_X12_in rfl jkl_m1 jkl_120 (fun v30 ev30 => ?_))
            show jX m_X12_isNumber 5 0 0 43 [(0, .int a1), (1, .int a5)] [.int v30] _ 0 0 _
            refine x_zret rfl rfl (jz01 (by omega)) ?_
            show jX m_X12_line 6 0 0 50 [(0, .ref 125), (1, .int a1), (2, .int a2), (3, .int a3), (4, .int a4), (5, .int a5)] [.int v30] _ 0 0 _
            refine x_ifeq (tgt := 57) rfl rfl (ti_eq rfl jk_0 ⟨fun c31 => ?_, fun c31 => ?_⟩)
            ·
              rw [if_neg (by omega)] at D
              obtain ⟨u32, qu32⟩ : ∃ v : Int32, jiv h 125 10 = v := ⟨_, rfl⟩
              have eu32 := (show 0 ≤ u32.toInt ∧ u32.toInt ≤ 400 from qu32 ▸ jrg_f J sg_125_10_11_1_0_1)
              try rw [vrf (jmb_w w1 qu32 rfl)] at D
              obtain ⟨u33, qu33⟩ : ∃ v : Int32, jiv h 125 11 = v := ⟨_, rfl⟩
              have eu33 := (show 0 ≤ u33.toInt ∧ u33.toInt ≤ 3 from qu33 ▸ jrg_f J sg_125_11_12_1_0_1)
              try rw [vrf (jmb_w w1 qu33 rfl)] at D
              obtain ⟨u34, qu34⟩ : ∃ v : Int32, jiv h 125 8 = v := ⟨_, rfl⟩
              have eu34 := (show 0 ≤ u34.toInt ∧ u34.toInt ≤ 400 from qu34 ▸ jrg_f J sg_125_8_9_1_0_1)
              try rw [vrf (jmb_w w1 qu34 rfl)] at D
              obtain ⟨u35, qu35⟩ : ∃ v : Int32, jiv h 125 9 = v := ⟨_, rfl⟩
              have eu35 := (show 0 ≤ u35.toInt ∧ u35.toInt ≤ 400 from qu35 ▸ jrg_f J sg_125_9_10_1_0_1)
              try rw [vrf (jmb_w w1 qu35 rfl)] at D
              exact jX.sub (jsb_c rfl (jsb_c rfl (jsb_c rfl (jsb_c rfl (jsb_c rfl (jsb_c rfl jsb_n)))))) (ct_X12_line_r125d_57 hD hQ  a1 a2 a3 a4 a5 p1 p0 p2 p3 p4 u32 u33 u34 u35 h (jr_of rfl (by omega)) (jr_of rfl (by omega)) (jr_of rfl (by omega)) (jr_of rfl (by omega)) (jr_of rfl (by omega)) (jr_of rfl (by omega)) (jr_of rfl (by omega)) (jr_of rfl (by omega)) (jr_of rfl (by omega)) (by omega) (jmo w1 rfl zp1) (jmo w1 rfl zp0) (jmo w1 rfl zp2) (jmo w1 rfl zp3) (jmo w1 rfl zp4) qu32 qu33 qu34 qu35 J Sm D)
            ·
              rw [if_pos (by omega)] at D
              refine x_iconst (v := 1) rfl ki_1 ?_
              refine x_goto (tgt := 58) rfl rfl ?_
              obtain ⟨u36, qu36⟩ : ∃ v : Int32, jiv h 125 10 = v := ⟨_, rfl⟩
              have eu36 := (show 0 ≤ u36.toInt ∧ u36.toInt ≤ 400 from qu36 ▸ jrg_f J sg_125_10_11_1_0_1)
              try rw [vrf (jmb_w w1 qu36 rfl)] at D
              obtain ⟨u37, qu37⟩ : ∃ v : Int32, jiv h 125 11 = v := ⟨_, rfl⟩
              have eu37 := (show 0 ≤ u37.toInt ∧ u37.toInt ≤ 3 from qu37 ▸ jrg_f J sg_125_11_12_1_0_1)
              try rw [vrf (jmb_w w1 qu37 rfl)] at D
              obtain ⟨u38, qu38⟩ : ∃ v : Int32, jiv h 125 8 = v := ⟨_, rfl⟩
              have eu38 := (show 0 ≤ u38.toInt ∧ u38.toInt ≤ 400 from qu38 ▸ jrg_f J sg_125_8_9_1_0_1)
              try rw [vrf (jmb_w w1 qu38 rfl)] at D
              obtain ⟨u39, qu39⟩ : ∃ v : Int32, jiv h 125 9 = v := ⟨_, rfl⟩
              have eu39 := (show 0 ≤ u39.toInt ∧ u39.toInt ≤ 400 from qu39 ▸ jrg_f J sg_125_9_10_1_0_1)
              try rw [vrf (jmb_w w1 qu39 rfl)] at D
              exact jX.sub (jsb_c rfl (jsb_c rfl (jsb_c rfl (jsb_c rfl (jsb_c rfl (jsb_c rfl jsb_n)))))) (ct_X12_line_r125d_300058 hD hQ  a1 a2 a3 a4 a5 p1 p0 p2 p3 p4 u36 u37 u38 u39 h (jr_of rfl (by omega)) (jr_of rfl (by omega)) (jr_of rfl (by omega)) (jr_of rfl (by omega)) (jr_of rfl (by omega)) (jr_of rfl (by omega)) (jr_of rfl (by omega)) (jr_of rfl (by omega)) (jr_of rfl (by omega)) (jr_of rfl (by omega)) (jr_of rfl (by omega)) (jr_of rfl (by omega)) (jr_of rfl (by omega)) (jr_of rfl (by omega)) (by omega) (jmo w1 rfl zp1) (jmo w1 rfl zp0) (jmo w1 rfl zp2) (jmo w1 rfl zp3) (jmo w1 rfl zp4) qu36 qu37 qu38 qu39 J Sm D)
          rw [if_neg c28] at D
          by_cases c40 : a1.toInt = 3
          ·
            refine x_tableIn (tgt := 44) 3 rfl c40 (by decide) (by decide) rfl rfl ?_
            rw [if_pos c40] at D
            refine x_iloadn (x := a5) rfl rfl ?_
            refine z_i2l rfl rfl (fun v41 ev41 => ?_)
            refine x_lconst (v := 0) rfl kl_0 ?_
            refine x_ldc2 (v := 100000) rfl z_12_265 ?_
            refine x_inst (N := m_X12_in) (As := [.long v41, .long 0, .long 100000]) (st := []) (dx9 := 1) (mc := 0) (ms := 0) (host := "") rfl t_X12_in ⟨Or.inl q_12_188, s_X12_in⟩ rfl (by decide) rfl rfl ⟨by decide, by decide⟩ (zc_X12_in rfl jkl_0 jkl_100000 (fun v42 ev42 => ?_))
            show jX m_X12_isNumber 5 0 0 53 [(0, .int a1), (1, .int a5)] [.int v42] _ 0 0 _
            refine x_zret rfl rfl (jz01 (by omega)) ?_
            show jX m_X12_line 6 0 0 50 [(0, .ref 125), (1, .int a1), (2, .int a2), (3, .int a3), (4, .int a4), (5, .int a5)] [.int v42] _ 0 0 _
            refine x_ifeq (tgt := 57) rfl rfl (ti_eq rfl jk_0 ⟨fun c43 => ?_, fun c43 => ?_⟩)
            ·
              rw [if_neg (by omega)] at D
              obtain ⟨u44, qu44⟩ : ∃ v : Int32, jiv h 125 10 = v := ⟨_, rfl⟩
              have eu44 := (show 0 ≤ u44.toInt ∧ u44.toInt ≤ 400 from qu44 ▸ jrg_f J sg_125_10_11_1_0_1)
              try rw [vrf (jmb_w w1 qu44 rfl)] at D
              obtain ⟨u45, qu45⟩ : ∃ v : Int32, jiv h 125 11 = v := ⟨_, rfl⟩
              have eu45 := (show 0 ≤ u45.toInt ∧ u45.toInt ≤ 3 from qu45 ▸ jrg_f J sg_125_11_12_1_0_1)
              try rw [vrf (jmb_w w1 qu45 rfl)] at D
              obtain ⟨u46, qu46⟩ : ∃ v : Int32, jiv h 125 8 = v := ⟨_, rfl⟩
              have eu46 := (show 0 ≤ u46.toInt ∧ u46.toInt ≤ 400 from qu46 ▸ jrg_f J sg_125_8_9_1_0_1)
              try rw [vrf (jmb_w w1 qu46 rfl)] at D
              obtain ⟨u47, qu47⟩ : ∃ v : Int32, jiv h 125 9 = v := ⟨_, rfl⟩
              have eu47 := (show 0 ≤ u47.toInt ∧ u47.toInt ≤ 400 from qu47 ▸ jrg_f J sg_125_9_10_1_0_1)
              try rw [vrf (jmb_w w1 qu47 rfl)] at D
              exact jX.sub (jsb_c rfl (jsb_c rfl (jsb_c rfl (jsb_c rfl (jsb_c rfl (jsb_c rfl jsb_n)))))) (ct_X12_line_r125d_57 hD hQ  a1 a2 a3 a4 a5 p1 p0 p2 p3 p4 u44 u45 u46 u47 h (jr_of rfl (by omega)) (jr_of rfl (by omega)) (jr_of rfl (by omega)) (jr_of rfl (by omega)) (jr_of rfl (by omega)) (jr_of rfl (by omega)) (jr_of rfl (by omega)) (jr_of rfl (by omega)) (jr_of rfl (by omega)) (by omega) (jmo w1 rfl zp1) (jmo w1 rfl zp0) (jmo w1 rfl zp2) (jmo w1 rfl zp3) (jmo w1 rfl zp4) qu44 qu45 qu46 qu47 J Sm D)
            ·
              rw [if_pos (by omega)] at D
              refine x_iconst (v := 1) rfl ki_1 ?_
              refine x_goto (tgt := 58) rfl rfl ?_
              obtain ⟨u48, qu48⟩ : ∃ v : Int32, jiv h 125 10 = v := ⟨_, rfl⟩
              have eu48 := (show 0 ≤ u48.toInt ∧ u48.toInt ≤ 400 from qu48 ▸ jrg_f J sg_125_10_11_1_0_1)
              try rw [vrf (jmb_w w1 qu48 rfl)] at D
              obtain ⟨u49, qu49⟩ : ∃ v : Int32, jiv h 125 11 = v := ⟨_, rfl⟩
              have eu49 := (show 0 ≤ u49.toInt ∧ u49.toInt ≤ 3 from qu49 ▸ jrg_f J sg_125_11_12_1_0_1)
              try rw [vrf (jmb_w w1 qu49 rfl)] at D
              obtain ⟨u50, qu50⟩ : ∃ v : Int32, jiv h 125 8 = v := ⟨_, rfl⟩
              have eu50 := (show 0 ≤ u50.toInt ∧ u50.toInt ≤ 400 from qu50 ▸ jrg_f J sg_125_8_9_1_0_1)
              try rw [vrf (jmb_w w1 qu50 rfl)] at D
              obtain ⟨u51, qu51⟩ : ∃ v : Int32, jiv h 125 9 = v := ⟨_, rfl⟩
              have eu51 := (show 0 ≤ u51.toInt ∧ u51.toInt ≤ 400 from qu51 ▸ jrg_f J sg_125_9_10_1_0_1)
              try rw [vrf (jmb_w w1 qu51 rfl)] at D
              exact jX.sub (jsb_c rfl (jsb_c rfl (jsb_c rfl (jsb_c rfl (jsb_c rfl (jsb_c rfl jsb_n)))))) (ct_X12_line_r125d_300058 hD hQ  a1 a2 a3 a4 a5 p1 p0 p2 p3 p4 u48 u49 u50 u51 h (jr_of rfl (by omega)) (jr_of rfl (by omega)) (jr_of rfl (by omega)) (jr_of rfl (by omega)) (jr_of rfl (by omega)) (jr_of rfl (by omega)) (jr_of rfl (by omega)) (jr_of rfl (by omega)) (jr_of rfl (by omega)) (jr_of rfl (by omega)) (jr_of rfl (by omega)) (jr_of rfl (by omega)) (jr_of rfl (by omega)) (jr_of rfl (by omega)) (by omega) (jmo w1 rfl zp1) (jmo w1 rfl zp0) (jmo w1 rfl zp2) (jmo w1 rfl zp3) (jmo w1 rfl zp4) qu48 qu49 qu50 qu51 J Sm D)
          rw [if_neg c40] at D
          by_cases c52 : a1.toInt = 4
          ·
            refine x_tableIn (tgt := 44) 4 rfl c52 (by decide) (by decide) rfl rfl ?_
            rw [if_pos c52] at D
            refine x_iloadn (x := a5) rfl rfl ?_
            refine z_i2l rfl rfl (fun v53 ev53 => ?_)
            refine x_lconst (v := 0) rfl kl_0 ?_
            refine x_ldc2 (v := 100000) rfl z_12_265 ?_
            refine x_inst (N := m_X12_in) (As := [.long v53, .long 0, .long 100000]) (st := []) (dx9 := 1) (mc := 0) (ms := 0) (host := "") rfl t_X12_in ⟨Or.inl q_12_188, s_X12_in⟩ rfl (by decide) rfl rfl ⟨by decide, by decide⟩ (zc_X12_in rfl jkl_0 jkl_100000 (fun v54 ev54 => ?_))
            show jX m_X12_isNumber 5 0 0 53 [(0, .int a1), (1, .int a5)] [.int v54] _ 0 0 _
            refine x_zret rfl rfl (jz01 (by omega)) ?_
            show jX m_X12_line 6 0 0 50 [(0, .ref 125), (1, .int a1), (2, .int a2), (3, .int a3), (4, .int a4), (5, .int a5)] [.int v54] _ 0 0 _
            refine x_ifeq (tgt := 57) rfl rfl (ti_eq rfl jk_0 ⟨fun c55 => ?_, fun c55 => ?_⟩)
            ·
              rw [if_neg (by omega)] at D
              obtain ⟨u56, qu56⟩ : ∃ v : Int32, jiv h 125 10 = v := ⟨_, rfl⟩
              have eu56 := (show 0 ≤ u56.toInt ∧ u56.toInt ≤ 400 from qu56 ▸ jrg_f J sg_125_10_11_1_0_1)
              try rw [vrf (jmb_w w1 qu56 rfl)] at D
              obtain ⟨u57, qu57⟩ : ∃ v : Int32, jiv h 125 11 = v := ⟨_, rfl⟩
              have eu57 := (show 0 ≤ u57.toInt ∧ u57.toInt ≤ 3 from qu57 ▸ jrg_f J sg_125_11_12_1_0_1)
              try rw [vrf (jmb_w w1 qu57 rfl)] at D
              obtain ⟨u58, qu58⟩ : ∃ v : Int32, jiv h 125 8 = v := ⟨_, rfl⟩
              have eu58 := (show 0 ≤ u58.toInt ∧ u58.toInt ≤ 400 from qu58 ▸ jrg_f J sg_125_8_9_1_0_1)
              try rw [vrf (jmb_w w1 qu58 rfl)] at D
              obtain ⟨u59, qu59⟩ : ∃ v : Int32, jiv h 125 9 = v := ⟨_, rfl⟩
              have eu59 := (show 0 ≤ u59.toInt ∧ u59.toInt ≤ 400 from qu59 ▸ jrg_f J sg_125_9_10_1_0_1)
              try rw [vrf (jmb_w w1 qu59 rfl)] at D
              exact jX.sub (jsb_c rfl (jsb_c rfl (jsb_c rfl (jsb_c rfl (jsb_c rfl (jsb_c rfl jsb_n)))))) (ct_X12_line_r125d_57 hD hQ  a1 a2 a3 a4 a5 p1 p0 p2 p3 p4 u56 u57 u58 u59 h (jr_of rfl (by omega)) (jr_of rfl (by omega)) (jr_of rfl (by omega)) (jr_of rfl (by omega)) (jr_of rfl (by omega)) (jr_of rfl (by omega)) (jr_of rfl (by omega)) (jr_of rfl (by omega)) (jr_of rfl (by omega)) (by omega) (jmo w1 rfl zp1) (jmo w1 rfl zp0) (jmo w1 rfl zp2) (jmo w1 rfl zp3) (jmo w1 rfl zp4) qu56 qu57 qu58 qu59 J Sm D)
            ·
              rw [if_pos (by omega)] at D
              refine x_iconst (v := 1) rfl ki_1 ?_
              refine x_goto (tgt := 58) rfl rfl ?_
              obtain ⟨u60, qu60⟩ : ∃ v : Int32, jiv h 125 10 = v := ⟨_, rfl⟩
              have eu60 := (show 0 ≤ u60.toInt ∧ u60.toInt ≤ 400 from qu60 ▸ jrg_f J sg_125_10_11_1_0_1)
              try rw [vrf (jmb_w w1 qu60 rfl)] at D
              obtain ⟨u61, qu61⟩ : ∃ v : Int32, jiv h 125 11 = v := ⟨_, rfl⟩
              have eu61 := (show 0 ≤ u61.toInt ∧ u61.toInt ≤ 3 from qu61 ▸ jrg_f J sg_125_11_12_1_0_1)
              try rw [vrf (jmb_w w1 qu61 rfl)] at D
              obtain ⟨u62, qu62⟩ : ∃ v : Int32, jiv h 125 8 = v := ⟨_, rfl⟩
              have eu62 := (show 0 ≤ u62.toInt ∧ u62.toInt ≤ 400 from qu62 ▸ jrg_f J sg_125_8_9_1_0_1)
              try rw [vrf (jmb_w w1 qu62 rfl)] at D
              obtain ⟨u63, qu63⟩ : ∃ v : Int32, jiv h 125 9 = v := ⟨_, rfl⟩
              have eu63 := (show 0 ≤ u63.toInt ∧ u63.toInt ≤ 400 from qu63 ▸ jrg_f J sg_125_9_10_1_0_1)
              try rw [vrf (jmb_w w1 qu63 rfl)] at D
              exact jX.sub (jsb_c rfl (jsb_c rfl (jsb_c rfl (jsb_c rfl (jsb_c rfl (jsb_c rfl jsb_n)))))) (ct_X12_line_r125d_300058 hD hQ  a1 a2 a3 a4 a5 p1 p0 p2 p3 p4 u60 u61 u62 u63 h (jr_of rfl (by omega)) (jr_of rfl (by omega)) (jr_of rfl (by omega)) (jr_of rfl (by omega)) (jr_of rfl (by omega)) (jr_of rfl (by omega)) (jr_of rfl (by omega)) (jr_of rfl (by omega)) (jr_of rfl (by omega)) (jr_of rfl (by omega)) (jr_of rfl (by omega)) (jr_of rfl (by omega)) (jr_of rfl (by omega)) (jr_of rfl (by omega)) (by omega) (jmo w1 rfl zp1) (jmo w1 rfl zp0) (jmo w1 rfl zp2) (jmo w1 rfl zp3) (jmo w1 rfl zp4) qu60 qu61 qu62 qu63 J Sm D)
          rw [if_neg c52] at D
          by_cases c64 : a1.toInt = 5
          ·
            refine x_tableIn (tgt := 54) 5 rfl c64 (by decide) (by decide) rfl rfl ?_
            rw [if_pos c64] at D
            refine x_iloadn (x := a5) rfl rfl ?_
            refine z_i2l rfl rfl (fun v65 ev65 => ?_)
            refine x_lconst (v := 1) rfl kl_1 ?_
            refine x_ldc2 (v := 11) rfl z_12_267 ?_
            refine x_inst (N := m_X12_in) (As := [.long v65, .long 1, .long 11]) (st := []) (dx9 := 1) (mc := 0) (ms := 0) (host := "") rfl t_X12_in ⟨Or.inl q_12_188, s_X12_in⟩ rfl (by decide) rfl rfl ⟨by decide, by decide⟩ (zc_X12_in rfl jkl_1 jkl_11 (fun v66 ev66 => ?_))
            show jX m_X12_isNumber 5 0 0 63 [(0, .int a1), (1, .int a5)] [.int v66] _ 0 0 _
            refine x_zret rfl rfl (jz01 (by omega)) ?_
            show jX m_X12_line 6 0 0 50 [(0, .ref 125), (1, .int a1), (2, .int a2), (3, .int a3), (4, .int a4), (5, .int a5)] [.int v66] _ 0 0 _
            refine x_ifeq (tgt := 57) rfl rfl (ti_eq rfl jk_0 ⟨fun c67 => ?_, fun c67 => ?_⟩)
            ·
              rw [if_neg (by omega)] at D
              obtain ⟨u68, qu68⟩ : ∃ v : Int32, jiv h 125 10 = v := ⟨_, rfl⟩
              have eu68 := (show 0 ≤ u68.toInt ∧ u68.toInt ≤ 400 from qu68 ▸ jrg_f J sg_125_10_11_1_0_1)
              try rw [vrf (jmb_w w1 qu68 rfl)] at D
              obtain ⟨u69, qu69⟩ : ∃ v : Int32, jiv h 125 11 = v := ⟨_, rfl⟩
              have eu69 := (show 0 ≤ u69.toInt ∧ u69.toInt ≤ 3 from qu69 ▸ jrg_f J sg_125_11_12_1_0_1)
              try rw [vrf (jmb_w w1 qu69 rfl)] at D
              obtain ⟨u70, qu70⟩ : ∃ v : Int32, jiv h 125 8 = v := ⟨_, rfl⟩
              have eu70 := (show 0 ≤ u70.toInt ∧ u70.toInt ≤ 400 from qu70 ▸ jrg_f J sg_125_8_9_1_0_1)
              try rw [vrf (jmb_w w1 qu70 rfl)] at D
              obtain ⟨u71, qu71⟩ : ∃ v : Int32, jiv h 125 9 = v := ⟨_, rfl⟩
              have eu71 := (show 0 ≤ u71.toInt ∧ u71.toInt ≤ 400 from qu71 ▸ jrg_f J sg_125_9_10_1_0_1)
              try rw [vrf (jmb_w w1 qu71 rfl)] at D
              exact jX.sub (jsb_c rfl (jsb_c rfl (jsb_c rfl (jsb_c rfl (jsb_c rfl (jsb_c rfl jsb_n)))))) (ct_X12_line_r125d_57 hD hQ  a1 a2 a3 a4 a5 p1 p0 p2 p3 p4 u68 u69 u70 u71 h (jr_of rfl (by omega)) (jr_of rfl (by omega)) (jr_of rfl (by omega)) (jr_of rfl (by omega)) (jr_of rfl (by omega)) (jr_of rfl (by omega)) (jr_of rfl (by omega)) (jr_of rfl (by omega)) (jr_of rfl (by omega)) (by omega) (jmo w1 rfl zp1) (jmo w1 rfl zp0) (jmo w1 rfl zp2) (jmo w1 rfl zp3) (jmo w1 rfl zp4) qu68 qu69 qu70 qu71 J Sm D)
            ·
              rw [if_pos (by omega)] at D
              refine x_iconst (v := 1) rfl ki_1 ?_
              refine x_goto (tgt := 58) rfl rfl ?_
              obtain ⟨u72, qu72⟩ : ∃ v : Int32, jiv h 125 10 = v := ⟨_, rfl⟩
              have eu72 := (show 0 ≤ u72.toInt ∧ u72.toInt ≤ 400 from qu72 ▸ jrg_f J sg_125_10_11_1_0_1)
              try rw [vrf (jmb_w w1 qu72 rfl)] at D
              obtain ⟨u73, qu73⟩ : ∃ v : Int32, jiv h 125 11 = v := ⟨_, rfl⟩
              have eu73 := (show 0 ≤ u73.toInt ∧ u73.toInt ≤ 3 from qu73 ▸ jrg_f J sg_125_11_12_1_0_1)
              try rw [vrf (jmb_w w1 qu73 rfl)] at D
              obtain ⟨u74, qu74⟩ : ∃ v : Int32, jiv h 125 8 = v := ⟨_, rfl⟩
              have eu74 := (show 0 ≤ u74.toInt ∧ u74.toInt ≤ 400 from qu74 ▸ jrg_f J sg_125_8_9_1_0_1)
              try rw [vrf (jmb_w w1 qu74 rfl)] at D
              obtain ⟨u75, qu75⟩ : ∃ v : Int32, jiv h 125 9 = v := ⟨_, rfl⟩
              have eu75 := (show 0 ≤ u75.toInt ∧ u75.toInt ≤ 400 from qu75 ▸ jrg_f J sg_125_9_10_1_0_1)
              try rw [vrf (jmb_w w1 qu75 rfl)] at D
              exact jX.sub (jsb_c rfl (jsb_c rfl (jsb_c rfl (jsb_c rfl (jsb_c rfl (jsb_c rfl jsb_n)))))) (ct_X12_line_r125d_300058 hD hQ  a1 a2 a3 a4 a5 p1 p0 p2 p3 p4 u72 u73 u74 u75 h (jr_of rfl (by omega)) (jr_of rfl (by omega)) (jr_of rfl (by omega)) (jr_of rfl (by omega)) (jr_of rfl (by omega)) (jr_of rfl (by omega)) (jr_of rfl (by omega)) (jr_of rfl (by omega)) (jr_of rfl (by omega)) (jr_of rfl (by omega)) (jr_of rfl (by omega)) (jr_of rfl (by omega)) (jr_of rfl (by omega)) (jr_of rfl (by omega)) (by omega) (jmo w1 rfl zp1) (jmo w1 rfl zp0) (jmo w1 rfl zp2) (jmo w1 rfl zp3) (jmo w1 rfl zp4) qu72 qu73 qu74 qu75 J Sm D)
          rw [if_neg c64] at D
          refine x_tableOut (tgt := 64) rfl (by omega) rfl ?_
          refine x_iloadn (x := a5) rfl rfl ?_
          refine x_iconst (v := (-1)) rfl ki_m1 ?_
          refine x_icne (tgt := 73) rfl rfl (ti_ne rfl jk_m1 ⟨fun c76 => ?_, fun c76 => ?_⟩)
          ·
            rw [if_neg (by omega)] at D
            refine x_iconst (v := 0) rfl ki_0 ?_
            refine x_zret rfl rfl (by decide) ?_
            show jX m_X12_line 6 0 0 50 [(0, .ref 125), (1, .int a1), (2, .int a2), (3, .int a3), (4, .int a4), (5, .int a5)] [.int 0] _ 0 0 _
            refine x_ifeq (tgt := 57) rfl rfl (ti_eq jk_0 jk_0 (br_t (by omega) ?_))
            obtain ⟨u77, qu77⟩ : ∃ v : Int32, jiv h 125 10 = v := ⟨_, rfl⟩
            have eu77 := (show 0 ≤ u77.toInt ∧ u77.toInt ≤ 400 from qu77 ▸ jrg_f J sg_125_10_11_1_0_1)
            try rw [vrf (jmb_w w1 qu77 rfl)] at D
            obtain ⟨u78, qu78⟩ : ∃ v : Int32, jiv h 125 11 = v := ⟨_, rfl⟩
            have eu78 := (show 0 ≤ u78.toInt ∧ u78.toInt ≤ 3 from qu78 ▸ jrg_f J sg_125_11_12_1_0_1)
            try rw [vrf (jmb_w w1 qu78 rfl)] at D
            obtain ⟨u79, qu79⟩ : ∃ v : Int32, jiv h 125 8 = v := ⟨_, rfl⟩
            have eu79 := (show 0 ≤ u79.toInt ∧ u79.toInt ≤ 400 from qu79 ▸ jrg_f J sg_125_8_9_1_0_1)
            try rw [vrf (jmb_w w1 qu79 rfl)] at D
            obtain ⟨u80, qu80⟩ : ∃ v : Int32, jiv h 125 9 = v := ⟨_, rfl⟩
            have eu80 := (show 0 ≤ u80.toInt ∧ u80.toInt ≤ 400 from qu80 ▸ jrg_f J sg_125_9_10_1_0_1)
            try rw [vrf (jmb_w w1 qu80 rfl)] at D
            exact jX.sub (jsb_c rfl (jsb_c rfl (jsb_c rfl (jsb_c rfl (jsb_c rfl (jsb_c rfl jsb_n)))))) (ct_X12_line_r125d_57 hD hQ  a1 a2 a3 a4 a5 p1 p0 p2 p3 p4 u77 u78 u79 u80 h (jr_of rfl (by omega)) (jr_of rfl (by omega)) (jr_of rfl (by omega)) (jr_of rfl (by omega)) (jr_of rfl (by omega)) (jr_of rfl (by omega)) (jr_of rfl (by omega)) (jr_of rfl (by omega)) (jr_of rfl (by omega)) (by omega) (jmo w1 rfl zp1) (jmo w1 rfl zp0) (jmo w1 rfl zp2) (jmo w1 rfl zp3) (jmo w1 rfl zp4) qu77 qu78 qu79 qu80 J Sm D)
          ·
            rw [if_pos (by omega)] at D
            refine x_iconst (v := 1) rfl ki_1 ?_
            refine x_goto (tgt := 74) rfl rfl ?_
            refine x_zret rfl rfl (by decide) ?_
            show jX m_X12_line 6 0 0 50 [(0, .ref 125), (1, .int a1), (2, .int a2), (3, .int a3), (4, .int a4), (5, .int a5)] [.int 1] _ 0 0 _
            refine x_ifeq (tgt := 57) rfl rfl (ti_eq jk_1 jk_0 (br_f (by omega) ?_))
            refine x_iconst (v := 1) rfl ki_1 ?_
            refine x_goto (tgt := 58) rfl rfl ?_
            obtain ⟨u81, qu81⟩ : ∃ v : Int32, jiv h 125 10 = v := ⟨_, rfl⟩
            have eu81 := (show 0 ≤ u81.toInt ∧ u81.toInt ≤ 400 from qu81 ▸ jrg_f J sg_125_10_11_1_0_1)
            try rw [vrf (jmb_w w1 qu81 rfl)] at D
            obtain ⟨u82, qu82⟩ : ∃ v : Int32, jiv h 125 11 = v := ⟨_, rfl⟩
            have eu82 := (show 0 ≤ u82.toInt ∧ u82.toInt ≤ 3 from qu82 ▸ jrg_f J sg_125_11_12_1_0_1)
            try rw [vrf (jmb_w w1 qu82 rfl)] at D
            obtain ⟨u83, qu83⟩ : ∃ v : Int32, jiv h 125 8 = v := ⟨_, rfl⟩
            have eu83 := (show 0 ≤ u83.toInt ∧ u83.toInt ≤ 400 from qu83 ▸ jrg_f J sg_125_8_9_1_0_1)
            try rw [vrf (jmb_w w1 qu83 rfl)] at D
            obtain ⟨u84, qu84⟩ : ∃ v : Int32, jiv h 125 9 = v := ⟨_, rfl⟩
            have eu84 := (show 0 ≤ u84.toInt ∧ u84.toInt ≤ 400 from qu84 ▸ jrg_f J sg_125_9_10_1_0_1)
            try rw [vrf (jmb_w w1 qu84 rfl)] at D
            exact jX.sub (jsb_c rfl (jsb_c rfl (jsb_c rfl (jsb_c rfl (jsb_c rfl (jsb_c rfl jsb_n)))))) (ct_X12_line_r125d_300058 hD hQ  a1 a2 a3 a4 a5 p1 p0 p2 p3 p4 u81 u82 u83 u84 h (jr_of rfl (by omega)) (jr_of rfl (by omega)) (jr_of rfl (by omega)) (jr_of rfl (by omega)) (jr_of rfl (by omega)) (jr_of rfl (by omega)) (jr_of rfl (by omega)) (jr_of rfl (by omega)) (jr_of rfl (by omega)) (jr_of rfl (by omega)) (jr_of rfl (by omega)) (jr_of rfl (by omega)) (jr_of rfl (by omega)) (jr_of rfl (by omega)) (by omega) (jmo w1 rfl zp1) (jmo w1 rfl zp0) (jmo w1 rfl zp2) (jmo w1 rfl zp3) (jmo w1 rfl zp4) qu81 qu82 qu83 qu84 J Sm D)
def fp_X12_mentions_r125d : jFp := [(125, 0, 1), (125, 28, 29), (125, 31, 32), (125, 57, 58), (137, 0, 80), (138, 0, 2), (139, 0, 600), (140, 0, 200)]
set_option maxRecDepth 100000 in
set_option maxHeartbeats 4000000 in
theorem ct_X12_mentions_r125d_29 {Dy : jH → Prop} {h0 : jH} {Q : Option Value → jH → Prop} {dr : (Int × jW)} (hD : jDk Dy) (hQ : ∀ (v : Int32) hx9, jJ jSgM Dy hx9 → jSm fp_X12_mentions_r125d h0 hx9 → dr.1 = v.toInt → dr.2 = vw hx9 → Q (some (.int v)) hx9) : ∀ (h : jH), jJ jSgM Dy h → jSm fp_X12_mentions_r125d h0 h → d_X12_mentions_r125d_29  (vw h) = dr → jX m_X12_mentions 10 0 0 29 [] [] h 0 0 Q := by
  intro  h    J Sm D
  unfold d_X12_mentions_r125d_29 at D
  refine x_iconst (v := (-1)) rfl ki_m1 ?_
  refine x_iret rfl rfl ?_
  exact hQ _ _ J Sm ((congrArg Prod.fst D).symm.trans (show (-1) = ((-1) : Int32).toInt from by have := jk_m1; omega)) (congrArg Prod.snd D).symm
set_option maxRecDepth 100000 in
set_option maxHeartbeats 4000000 in
theorem ct_X12_mentions_r125d_100096 {Dy : jH → Prop} {h0 : jH} {Q : Option Value → jH → Prop} {dr : (Int × jW)} (hD : jDk Dy) (hQ : ∀ (v : Int32) hx9, jJ jSgM Dy hx9 → jSm fp_X12_mentions_r125d h0 hx9 → dr.1 = v.toInt → dr.2 = vw hx9 → Q (some (.int v)) hx9) : ∀ (h : jH), jJ jSgM Dy h → jSm fp_X12_mentions_r125d h0 h → d_X12_mentions_r125d_100096  (vw h) = dr → jX m_X12_mentions 10 0 0 96 [] [.int (-1)] h 0 0 Q := by
  intro  h    J Sm D
  unfold d_X12_mentions_r125d_100096 at D
  refine x_iret rfl rfl ?_
  exact hQ _ _ J Sm ((congrArg Prod.fst D).symm.trans (show (-1) = ((-1) : Int32).toInt from by have := jk_m1; omega)) (congrArg Prod.snd D).symm
set_option maxRecDepth 100000 in
set_option maxHeartbeats 4000000 in
theorem ct_X12_mentions_r125d_96 {Dy : jH → Prop} {h0 : jH} {Q : Option Value → jH → Prop} {dr : (Int × jW)} (hD : jDk Dy) (hQ : ∀ (v : Int32) hx9, jJ jSgM Dy hx9 → jSm fp_X12_mentions_r125d h0 hx9 → dr.1 = v.toInt → dr.2 = vw hx9 → Q (some (.int v)) hx9) : ∀ (s0 : Int32) (h : jH), jJ jSgM Dy h → jSm fp_X12_mentions_r125d h0 h → d_X12_mentions_r125d_96  s0.toInt (vw h) = dr → jX m_X12_mentions 10 0 0 96 [] [.int s0] h 0 0 Q := by
  intro s0 h    J Sm D
  have es0 := jfull s0
  unfold d_X12_mentions_r125d_96 at D
  refine x_iret rfl rfl ?_
  exact hQ _ _ J Sm ((congrArg Prod.fst D).symm.trans (show s0.toInt = s0.toInt from by omega)) (congrArg Prod.snd D).symm
set_option maxRecDepth 100000 in
set_option maxHeartbeats 4000000 in
theorem ct_X12_mentions_r125d_80 {Dy : jH → Prop} {h0 : jH} {Q : Option Value → jH → Prop} {dr : (Int × jW)} {K37 : Int → Int → Int → Int → Int → jW → (Int × jW)} {R37 : Int} (hD : jDk Dy) (hQ : ∀ (v : Int32) hx9, jJ jSgM Dy hx9 → jSm fp_X12_mentions_r125d h0 hx9 → dr.1 = v.toInt → dr.2 = vw hx9 → Q (some (.int v)) hx9) (k37 : ∀ (l3 : Int32) (l4 : Int32) (l5 : Int32) (l6 : Int32) (l7 : Int32) (g0 : Int32) (h : jH), 600 - l7.toInt < R37 → 0 ≤ l3.toInt ∧ l3.toInt ≤ 1 → 0 ≤ l5.toInt ∧ l5.toInt ≤ 599 → 0 ≤ l7.toInt ∧ l7.toInt ≤ 600 → 0 ≤ g0.toInt ∧ g0.toInt ≤ 200 → jiv h 126 (0 : Int32).toNatClampNeg = g0 → jJ jSgM Dy h → jSm fp_X12_mentions_r125d h0 h → K37 l3.toInt l4.toInt l5.toInt l6.toInt l7.toInt (vw h) = dr → jX m_X12_mentions 10 0 0 37 [(0, .ref 125), (3, .int l3), (4, .int l4), (5, .int l5), (6, .int l6), (7, .int l7)] [] h 0 0 Q) : ∀ (l3 : Int32) (l4 : Int32) (l5 : Int32) (l6 : Int32) (l7 : Int32) (g0 : Int32) (h : jH), 0 ≤ l3.toInt ∧ l3.toInt ≤ 1 → 0 ≤ l5.toInt ∧ l5.toInt ≤ 599 → 0 ≤ l7.toInt ∧ l7.toInt ≤ 599 → 0 ≤ g0.toInt ∧ g0.toInt ≤ 200 → jiv h 126 (0 : Int32).toNatClampNeg = g0 → 600 - l7.toInt ≤ R37 → jJ jSgM Dy h → jSm fp_X12_mentions_r125d h0 h → d_X12_mentions_r125d_80 K37  l3.toInt l4.toInt l5.toInt l6.toInt l7.toInt (vw h) = dr → jX m_X12_mentions 10 0 0 80 [(0, .ref 125), (3, .int l3), (4, .int l4), (5, .int l5), (6, .int l6), (7, .int l7)] [] h 0 0 Q := by
  intro l3 l4 l5 l6 l7 g0 h y0 y1 y2 y3 z0 m37 J Sm D
  have el4 := jfull l4
  have el6 := jfull l6
  unfold d_X12_mentions_r125d_80 at D
  try rw [vrn (n := 0) (by decide) z0] at D
  refine z_iinc (x := l7) (lsx9 := fun v1 => [(7, .int v1), (0, .ref 125), (3, .int l3), (4, .int l4), (5, .int l5), (6, .int l6)]) rfl rfl rfl jko_1 (by omega) rfl (fun _ => rfl) (fun v1 ev1 => ?_)
  refine x_goto (tgt := 37) rfl rfl ?_
  try rw [show (l7.toInt + 1) = v1.toInt from by omega] at D
  exact jX.sub (jsb_c rfl (jsb_c rfl (jsb_c rfl (jsb_c rfl (jsb_c rfl (jsb_c rfl jsb_n)))))) (k37 l3 l4 l5 l6 v1 g0 h (by omega) (jr_of rfl (by omega)) (jr_of rfl (by omega)) (jr_of rfl (by omega)) (jr_of rfl (by omega)) z0 J Sm D)
set_option maxRecDepth 100000 in
set_option maxHeartbeats 4000000 in
theorem ct_X12_mentions_r125d_77 {Dy : jH → Prop} {h0 : jH} {Q : Option Value → jH → Prop} {dr : (Int × jW)} {K37 : Int → Int → Int → Int → Int → jW → (Int × jW)} {R37 : Int} (hD : jDk Dy) (hQ : ∀ (v : Int32) hx9, jJ jSgM Dy hx9 → jSm fp_X12_mentions_r125d h0 hx9 → dr.1 = v.toInt → dr.2 = vw hx9 → Q (some (.int v)) hx9) (k37 : ∀ (l3 : Int32) (l4 : Int32) (l5 : Int32) (l6 : Int32) (l7 : Int32) (g0 : Int32) (h : jH), 600 - l7.toInt < R37 → 0 ≤ l3.toInt ∧ l3.toInt ≤ 1 → 0 ≤ l5.toInt ∧ l5.toInt ≤ 599 → 0 ≤ l7.toInt ∧ l7.toInt ≤ 600 → 0 ≤ g0.toInt ∧ g0.toInt ≤ 200 → jiv h 126 (0 : Int32).toNatClampNeg = g0 → jJ jSgM Dy h → jSm fp_X12_mentions_r125d h0 h → K37 l3.toInt l4.toInt l5.toInt l6.toInt l7.toInt (vw h) = dr → jX m_X12_mentions 10 0 0 37 [(0, .ref 125), (3, .int l3), (4, .int l4), (5, .int l5), (6, .int l6), (7, .int l7)] [] h 0 0 Q) : ∀ (l3 : Int32) (l4 : Int32) (l5 : Int32) (l6 : Int32) (l7 : Int32) (g0 : Int32) (h : jH), 0 ≤ l3.toInt ∧ l3.toInt ≤ 1 → 0 ≤ l5.toInt ∧ l5.toInt ≤ 599 → 0 ≤ l7.toInt ∧ l7.toInt ≤ 599 → 0 ≤ g0.toInt ∧ g0.toInt ≤ 200 → jiv h 126 (0 : Int32).toNatClampNeg = g0 → 600 - l7.toInt ≤ R37 → jJ jSgM Dy h → jSm fp_X12_mentions_r125d h0 h → d_X12_mentions_r125d_77 K37  l3.toInt l4.toInt l5.toInt l6.toInt l7.toInt (vw h) = dr → jX m_X12_mentions 10 0 0 77 [(0, .ref 125), (3, .int l3), (4, .int l4), (5, .int l5), (6, .int l6), (7, .int l7)] [] h 0 0 Q := by
  intro l3 l4 l5 l6 l7 g0 h y0 y1 y2 y3 z0 m37 J Sm D
  have el4 := jfull l4
  have el6 := jfull l6
  unfold d_X12_mentions_r125d_77 at D
  try rw [vrn (n := 0) (by decide) z0] at D
  refine z_iincW (x := l6) (lsx9 := fun v1 => [(6, .int v1), (0, .ref 125), (3, .int l3), (4, .int l4), (5, .int l5), (7, .int l7)]) rfl rfl rfl jko_1 rfl (fun _ => rfl) (fun v1 ev1 => ?_)
  have fv1 := jfull v1
  try rw [← ev1] at D
  exact jX.sub (jsb_c rfl (jsb_c rfl (jsb_c rfl (jsb_c rfl (jsb_c rfl (jsb_c rfl jsb_n)))))) (ct_X12_mentions_r125d_80 hD hQ k37 l3 l4 l5 v1 l7 g0 h (jr_of rfl (by omega)) (jr_of rfl (by omega)) (jr_of rfl (by omega)) (jr_of rfl (by omega)) z0 (by omega) J Sm D)
set_option maxRecDepth 100000 in
set_option maxHeartbeats 4000000 in
theorem ct_X12_mentions_r125d_37 {Dy : jH → Prop} {h0 : jH} {Q : Option Value → jH → Prop} {dr : (Int × jW)} (hD : jDk Dy) (hQ : ∀ (v : Int32) hx9, jJ jSgM Dy hx9 → jSm fp_X12_mentions_r125d h0 hx9 → dr.1 = v.toInt → dr.2 = vw hx9 → Q (some (.int v)) hx9) : ∀ r : Nat, ∀ (l3 : Int32) (l4 : Int32) (l5 : Int32) (l6 : Int32) (l7 : Int32) (g0 : Int32) (h : jH), 600 - l7.toInt < (r : Int) → 0 ≤ l3.toInt ∧ l3.toInt ≤ 1 → 0 ≤ l5.toInt ∧ l5.toInt ≤ 599 → 0 ≤ l7.toInt ∧ l7.toInt ≤ 600 → 0 ≤ g0.toInt ∧ g0.toInt ≤ 200 → jiv h 126 (0 : Int32).toNatClampNeg = g0 → jJ jSgM Dy h → jSm fp_X12_mentions_r125d h0 h → d_X12_mentions_r125d_37 r l3.toInt l4.toInt l5.toInt l6.toInt l7.toInt (vw h) = dr → jX m_X12_mentions 10 0 0 37 [(0, .ref 125), (3, .int l3), (4, .int l4), (5, .int l5), (6, .int l6), (7, .int l7)] [] h 0 0 Q := by
  intro r
  induction r with
  | zero =>
    intro l3 l4 l5 l6 l7 g0 h hm y0 y1 y2 y3 z0  J Sm D
    exfalso
    have el4 := jfull l4
    have el6 := jfull l6
    omega
  | succ r ih =>
    intro l3 l4 l5 l6 l7 g0 h hm y0 y1 y2 y3 z0  J Sm D
    have el4 := jfull l4
    have el6 := jfull l6
    rw [d_X12_mentions_r125d_37.eq_2] at D
    try rw [vrn (n := 0) (by decide) z0] at D
    refine x_iload (x := l7) rfl rfl ?_
    refine x_iconst (v := 3) rfl ki_3 ?_
    refine x_aloadn (x := 125) rfl rfl ?_
    refine z_getR (N := 92) (b := 126) 12 2 rfl f_12_8 rfl J rfl 16002 ⟨rfl, rfl⟩ rfl ?_
    refine x_iconst (v := 0) rfl ki_0 ?_
    refine z_ialdM (N := 50660) (v := g0) rfl J rfl jk_0 (by omega) z0 ?_
    refine z_imul rfl jk_3 rfl (by omega) (fun v1 ev1 => ?_)
    refine x_icge (tgt := 86) rfl rfl (ti_ge rfl rfl ⟨fun c2 => ?_, fun c2 => ?_⟩)
    ·
      rw [if_pos (by omega)] at D
      refine x_iloadn (x := l3) rfl rfl ?_
      refine x_ifne (tgt := 95) rfl rfl (ti_ne rfl jk_0 ⟨fun c3 => ?_, fun c3 => ?_⟩)
      ·
        rw [if_neg (by omega)] at D
        refine x_iconst (v := (-1)) rfl ki_m1 ?_
        exact jX.sub jsb_n (ct_X12_mentions_r125d_100096 hD hQ  h J Sm D)
      ·
        rw [if_pos (by omega)] at D
        refine x_iload (x := l6) rfl rfl ?_
        refine x_goto (tgt := 96) rfl rfl ?_
        exact jX.sub jsb_n (ct_X12_mentions_r125d_96 hD hQ  l6 h J Sm D)
    ·
      rw [if_neg (by omega)] at D
      refine x_aloadn (x := 125) rfl rfl ?_
      refine z_getR (N := 92) (b := 139) 12 29 rfl f_12_72 rfl J rfl 16029 ⟨rfl, rfl⟩ rfl ?_
      refine x_iload (x := l7) rfl rfl ?_
      refine z_iald (N := 600) rfl J rfl sg_139_0_600_1_0_1 rfl (by omega) (fun v4 qv4 ev4 => ?_)
      try rw [vrd qv4 (show l7.toInt = l7.toInt from by omega)] at D
      refine x_iload (x := l5) rfl rfl ?_
      refine x_icne (tgt := 80) rfl rfl (ti_ne rfl rfl ⟨fun c5 => ?_, fun c5 => ?_⟩)
      ·
        rw [if_neg (by omega)] at D
        exact jX.sub (jsb_c rfl (jsb_c rfl (jsb_c rfl (jsb_c rfl (jsb_c rfl (jsb_c rfl jsb_n)))))) (ct_X12_mentions_r125d_80 hD hQ ih l3 l4 l5 l6 l7 g0 h (jr_of rfl (by omega)) (jr_of rfl (by omega)) (jr_of rfl (by omega)) (jr_of rfl (by omega)) z0 (by omega) J Sm D)
      ·
        rw [if_pos (by omega)] at D
        refine x_iloadn (x := l3) rfl rfl ?_
        refine x_iconst (v := 1) rfl ki_1 ?_
        refine x_icne (tgt := 77) rfl rfl (ti_ne rfl jk_1 ⟨fun c6 => ?_, fun c6 => ?_⟩)
        ·
          rw [if_neg (by omega)] at D
          exact jX.sub (jsb_c rfl (jsb_c rfl (jsb_c rfl (jsb_c rfl (jsb_c rfl (jsb_c rfl jsb_n)))))) (ct_X12_mentions_r125d_77 hD hQ ih l3 l4 l5 l6 l7 g0 h (jr_of rfl (by omega)) (jr_of rfl (by omega)) (jr_of rfl (by omega)) (jr_of rfl (by omega)) z0 (by omega) J Sm D)
        ·
          rw [if_pos (by omega)] at D
          refine x_iload (x := l6) rfl rfl ?_
          refine x_iload (x := l4) rfl rfl ?_
          refine x_icne (tgt := 77) rfl rfl (ti_ne rfl rfl ⟨fun c7 => ?_, fun c7 => ?_⟩)
          ·
            rw [if_neg (by omega)] at D
            exact jX.sub (jsb_c rfl (jsb_c rfl (jsb_c rfl (jsb_c rfl (jsb_c rfl (jsb_c rfl jsb_n)))))) (ct_X12_mentions_r125d_77 hD hQ ih l3 l4 l5 l6 l7 g0 h (jr_of rfl (by omega)) (jr_of rfl (by omega)) (jr_of rfl (by omega)) (jr_of rfl (by omega)) z0 (by omega) J Sm D)
          ·
            rw [if_pos (by omega)] at D
            refine x_iload (x := l7) rfl rfl ?_
            refine x_iret rfl rfl ?_
            exact hQ _ _ J Sm ((congrArg Prod.fst D).symm.trans (show l7.toInt = l7.toInt from by omega)) (congrArg Prod.snd D).symm
set_option maxRecDepth 100000 in
set_option maxHeartbeats 4000000 in
theorem sf_X12_mentions_r125d {Dy : jH → Prop} {h : jH} {Q : Option Value → jH → Prop} {dr : (Int × jW)} {a1 : Int32} {a2 : Int32} {a3 : Int32} {a4 : Int32} (hD : jDk Dy) (J : jJ jSgM Dy h) (D : d_X12_mentions_r125d a1.toInt a2.toInt a3.toInt a4.toInt (vw h) = dr) (hQ : ∀ (v : Int32) hx9, jJ jSgM Dy hx9 → jSm fp_X12_mentions_r125d h hx9 → dr.1 = v.toInt → dr.2 = vw hx9 → Q (some (.int v)) hx9) : jC m_X12_mentions 10 0 0 [.ref 125, .int a1, .int a2, .int a3, .int a4] h Q := by
  refine jC.of rfl k_X12_mentions rfl ?_
  have Sm := jSm_rf fp_X12_mentions_r125d h
  have ea1 := jfull a1
  have ea2 := jfull a2
  have ea3 := jfull a3
  have ea4 := jfull a4
  show jX m_X12_mentions 10 0 0 0 [(0, .ref 125), (1, .int a1), (2, .int a2), (3, .int a3), (4, .int a4)] [] _ 0 0 _
  unfold d_X12_mentions_r125d at D
  refine x_aloadn (x := 125) rfl rfl ?_
  refine x_iconst (v := 0) rfl ki_0 ?_
  refine z_putI (N := 92) (w := 0) 12 0 rfl f_12_180 rfl (jfin_no TX12 RX12 92 rfl rfl) hD J Sm rfl rfl jk_0 (pw_125_0 (by omega)) rfl (fun h w1 J Sm => ?_)
  rw [vwf w1 (show 0 = (0 : Int32).toInt from by have := jk_0; omega)] at D
  refine x_aloadn (x := 125) rfl rfl ?_
  refine x_iloadn (x := a1) rfl rfl ?_
  refine x_iloadn (x := a2) rfl rfl ?_
  refine x_inv (N := m_X12_soulAt) (As := [.int a1, .int a2]) (b := 125) (st := []) (dx9 := 9) (mc := 0) (ms := 0) (host := "") 12 rfl t_X12_soulAt ⟨Or.inl q_12_399, i_X12_soulAt.1, i_X12_soulAt.2⟩ ⟨by decide, rfl⟩ (congrArg Prod.fst (J.1.1 125 (12, 92) rfl)) rfl (by decide) rfl rfl ⟨by decide, by decide⟩ (jC.of rfl k_X12_soulAt rfl ?_)
  show jX m_X12_soulAt 9 0 0 0 [(0, .ref 125), (1, .int a1), (2, .int a2)] [] _ 0 0 _
  refine x_aloadn (x := 125) rfl rfl ?_
  refine x_iloadn (x := a1) rfl rfl ?_
  refine x_inv (N := m_X12_isMention) (As := [.int a1]) (b := 125) (st := []) (dx9 := 8) (mc := 0) (ms := 0) (host := "") 12 rfl t_X12_isMention ⟨Or.inl q_12_322, i_X12_isMention.1, i_X12_isMention.2⟩ ⟨by decide, rfl⟩ (congrArg Prod.fst (J.1.1 125 (12, 92) rfl)) rfl (by decide) rfl rfl ⟨by decide, by decide⟩ (jC.of rfl k_X12_isMention rfl ?_)
  show jX m_X12_isMention 8 0 0 0 [(0, .ref 125), (1, .int a1)] [] _ 0 0 _
  refine x_iloadn (x := a1) rfl rfl ?_
  refine x_iflt (tgt := 34) rfl rfl (ti_lt rfl jk_0 ⟨fun c2 => ?_, fun c2 => ?_⟩)
  ·
    rw [if_pos (by omega)] at D
    refine x_iconst (v := 0) rfl ki_0 ?_
    refine x_zret rfl rfl (by decide) ?_
    show jX m_X12_soulAt 9 0 0 5 [(0, .ref 125), (1, .int a1), (2, .int a2)] [.int 0] _ 0 0 _
    refine x_ifeq (tgt := 15) rfl rfl (ti_eq jk_0 jk_0 (br_t (by omega) ?_))
    refine x_iconst (v := (-1)) rfl ki_m1 ?_
    refine x_iret rfl rfl ?_
    show jX m_X12_mentions 10 0 0 11 [(0, .ref 125), (1, .int a1), (2, .int a2), (3, .int a3), (4, .int a4)] [.int (-1)] _ 0 0 _
    refine x_istore (lsx9 := [(5, .int (-1)), (0, .ref 125), (1, .int a1), (2, .int a2), (3, .int a3), (4, .int a4)]) rfl rfl rfl ?_
    refine x_iload (x := (-1)) rfl rfl ?_
    refine x_iconst (v := (-1)) rfl ki_m1 ?_
    refine x_iceq (tgt := 29) rfl rfl (ti_eq jk_m1 jk_m1 (br_t (by omega) ?_))
    exact jX.sub jsb_n (ct_X12_mentions_r125d_29 hD hQ  h J Sm D)
  ·
    rw [if_neg (by omega)] at D
    refine x_aloadn (x := 125) rfl rfl ?_
    refine x_iloadn (x := a1) rfl rfl ?_
    refine x_iconst (v := 3) rfl ki_3 ?_
    refine z_idiv rfl rfl jk_3 (by omega) (by omega) (fun v3 ev3 => ?_)
    refine x_inv (N := m_X12_isLine) (As := [.int v3]) (b := 125) (st := []) (dx9 := 7) (mc := 0) (ms := 0) (host := "") 12 rfl t_X12_isLine ⟨Or.inl q_12_293, i_X12_isLine.1, i_X12_isLine.2⟩ ⟨by decide, rfl⟩ (congrArg Prod.fst (J.1.1 125 (12, 92) rfl)) rfl (by decide) rfl rfl ⟨by decide, by decide⟩ (jC.of rfl k_X12_isLine rfl ?_)
    show jX m_X12_isLine 7 0 0 0 [(0, .ref 125), (1, .int v3)] [] _ 0 0 _
    refine x_iloadn (x := v3) rfl rfl ?_
    refine z_i2l rfl rfl (fun v4 ev4 => ?_)
    refine x_lconst (v := 0) rfl kl_0 ?_
    refine x_aloadn (x := 125) rfl rfl ?_
    refine z_getR (N := 92) (b := 126) 12 2 rfl f_12_8 rfl J rfl 16002 ⟨rfl, rfl⟩ rfl ?_
    refine x_iconst (v := 0) rfl ki_0 ?_
    refine z_iald (N := 50660) rfl J rfl sg_126_0_1_1_0_1 jk_0 (by omega) (fun v5 qv5 ev5 => ?_)
    try rw [vrn (n := 0) (by decide) (jmb_w w1 qv5 rfl)] at D
    refine z_i2l rfl rfl (fun v6 ev6 => ?_)
    refine x_lconst (v := 1) rfl kl_1 ?_
    refine z_lsub rfl rfl jkl_1 (by omega) (fun v7 ev7 => ?_)
    refine x_inst (N := m_X12_in) (As := [.long v4, .long 0, .long v7]) (st := []) (dx9 := 1) (mc := 0) (ms := 0) (host := "") rfl t_X12_in ⟨Or.inl q_12_188, s_X12_in⟩ rfl (by decide) rfl rfl ⟨by decide, by decide⟩ (zc_X12_in rfl jkl_0 rfl (fun v8 ev8 => ?_))
    show jX m_X12_isLine 7 0 0 15 [(0, .ref 125), (1, .int v3)] [.int v8] _ 0 0 _
    refine x_zret rfl rfl (jz01 (by omega)) ?_
    show jX m_X12_isMention 8 0 0 11 [(0, .ref 125), (1, .int a1)] [.int v8] _ 0 0 _
    refine x_ifeq (tgt := 34) rfl rfl (ti_eq rfl jk_0 ⟨fun c9 => ?_, fun c9 => ?_⟩)
    ·
      rw [if_neg (by omega)] at D
      refine x_iconst (v := 0) rfl ki_0 ?_
      refine x_zret rfl rfl (by decide) ?_
      show jX m_X12_soulAt 9 0 0 5 [(0, .ref 125), (1, .int a1), (2, .int a2)] [.int 0] _ 0 0 _
      refine x_ifeq (tgt := 15) rfl rfl (ti_eq jk_0 jk_0 (br_t (by omega) ?_))
      refine x_iconst (v := (-1)) rfl ki_m1 ?_
      refine x_iret rfl rfl ?_
      show jX m_X12_mentions 10 0 0 11 [(0, .ref 125), (1, .int a1), (2, .int a2), (3, .int a3), (4, .int a4)] [.int (-1)] _ 0 0 _
      refine x_istore (lsx9 := [(5, .int (-1)), (0, .ref 125), (1, .int a1), (2, .int a2), (3, .int a3), (4, .int a4)]) rfl rfl rfl ?_
      refine x_iload (x := (-1)) rfl rfl ?_
      refine x_iconst (v := (-1)) rfl ki_m1 ?_
      refine x_iceq (tgt := 29) rfl rfl (ti_eq jk_m1 jk_m1 (br_t (by omega) ?_))
      exact jX.sub jsb_n (ct_X12_mentions_r125d_29 hD hQ  h J Sm D)
    ·
      rw [if_pos (by omega)] at D
      refine x_iloadn (x := a1) rfl rfl ?_
      refine x_iconst (v := 3) rfl ki_3 ?_
      refine z_irem rfl rfl jk_3 (by omega) (by omega) (fun v10 ev10 => ?_)
      refine x_aloadn (x := 125) rfl rfl ?_
      refine x_iloadn (x := a1) rfl rfl ?_
      refine x_iconst (v := 3) rfl ki_3 ?_
      refine z_idiv rfl rfl jk_3 (by omega) (by omega) (fun v11 ev11 => ?_)
      refine x_inv (N := m_X12_bookOf) (As := [.int v11]) (b := 125) (st := [.int v10]) (dx9 := 7) (mc := 0) (ms := 0) (host := "") 12 rfl t_X12_bookOf ⟨Or.inl q_12_299, i_X12_bookOf.1, i_X12_bookOf.2⟩ ⟨by decide, rfl⟩ (congrArg Prod.fst (J.1.1 125 (12, 92) rfl)) rfl (by decide) rfl rfl ⟨by decide, by decide⟩ (jC.of rfl k_X12_bookOf rfl ?_)
      show jX m_X12_bookOf 7 0 0 0 [(0, .ref 125), (1, .int v11)] [] _ 0 0 _
      refine x_aloadn (x := 125) rfl rfl ?_
      refine z_getR (N := 92) (b := 126) 12 2 rfl f_12_8 rfl J rfl 16002 ⟨rfl, rfl⟩ rfl ?_
      refine x_aloadn (x := 125) rfl rfl ?_
      refine x_iloadn (x := v11) rfl rfl ?_
      refine x_inv (N := m_X12_at) (As := [.int v11]) (b := 125) (st := [.ref 126]) (dx9 := 6) (mc := 0) (ms := 0) (host := "") 12 rfl t_X12_at ⟨Or.inl q_12_254, i_X12_at.1, i_X12_at.2⟩ ⟨by decide, rfl⟩ (congrArg Prod.fst (J.1.1 125 (12, 92) rfl)) rfl (by decide) rfl rfl ⟨by decide, by decide⟩ (jC.of rfl k_X12_at rfl ?_)
      show jX m_X12_at 6 0 0 0 [(0, .ref 125), (1, .int v11)] [] _ 0 0 _
      refine x_bipush (v := 20) rfl kb_20 ?_
      refine x_bipush (v := 90) rfl kb_90 ?_
      refine x_iloadn (x := v11) rfl rfl ?_
      refine z_imul rfl jk_90 rfl (by omega) (fun v12 ev12 => ?_)
      refine z_iadd rfl jk_20 rfl (by omega) (fun v13 ev13 => ?_)
      refine x_iret rfl rfl ?_
      show jX m_X12_bookOf 7 0 0 9 [(0, .ref 125), (1, .int v11)] [.int v13, .ref 126] _ 0 0 _
      refine z_iald (N := 50660) rfl J rfl sg_126_20_18020_90_0_1 rfl (by omega) (fun v14 qv14 ev14 => ?_)
      try rw [vrd (jmb_w w1 qv14 rfl) (show (20 + (90 * (a1.toInt / 3))) = v13.toInt from by omega)] at D
      refine x_iret rfl rfl ?_
      show jX m_X12_isMention 8 0 0 24 [(0, .ref 125), (1, .int a1)] [.int v14, .int v10] _ 0 0 _
      refine x_inst (N := m_X12_rolesOf) (As := [.int v14]) (st := [.int v10]) (dx9 := 7) (mc := 0) (ms := 0) (host := "") rfl t_X12_rolesOf ⟨Or.inl q_12_286, s_X12_rolesOf⟩ rfl (by decide) rfl rfl ⟨by decide, by decide⟩ (jC.of rfl k_X12_rolesOf rfl ?_)
      show jX m_X12_rolesOf 7 0 0 0 [(0, .int v14)] [] _ 0 0 _
      refine x_iloadn (x := v14) rfl rfl ?_
      refine x_ifne (tgt := 8) rfl rfl (ti_ne rfl jk_0 ⟨fun c15 => ?_, fun c15 => ?_⟩)
      ·
        rw [if_neg (by omega)] at D
        refine x_iloadn (x := v14) rfl rfl ?_
        refine x_iconst (v := 1) rfl ki_1 ?_
        refine x_icne (tgt := 17) rfl rfl (ti_ne rfl jk_1 ⟨fun c16 => ?_, fun c16 => ?_⟩)
        ·
          rw [if_neg (by omega)] at D
          refine x_iconst (v := 1) rfl ki_1 ?_
          refine x_iret rfl rfl ?_
          show jX m_X12_isMention 8 0 0 27 [(0, .ref 125), (1, .int a1)] [.int 1, .int v10] _ 0 0 _
          refine x_icge (tgt := 34) rfl rfl (ti_ge rfl jk_1 ⟨fun c17 => ?_, fun c17 => ?_⟩)
          ·
            rw [if_pos (by omega)] at D
            refine x_iconst (v := 0) rfl ki_0 ?_
            refine x_zret rfl rfl (by decide) ?_
            show jX m_X12_soulAt 9 0 0 5 [(0, .ref 125), (1, .int a1), (2, .int a2)] [.int 0] _ 0 0 _
            refine x_ifeq (tgt := 15) rfl rfl (ti_eq jk_0 jk_0 (br_t (by omega) ?_))
            refine x_iconst (v := (-1)) rfl ki_m1 ?_
            refine x_iret rfl rfl ?_
            show jX m_X12_mentions 10 0 0 11 [(0, .ref 125), (1, .int a1), (2, .int a2), (3, .int a3), (4, .int a4)] [.int (-1)] _ 0 0 _
            refine x_istore (lsx9 := [(5, .int (-1)), (0, .ref 125), (1, .int a1), (2, .int a2), (3, .int a3), (4, .int a4)]) rfl rfl rfl ?_
            refine x_iload (x := (-1)) rfl rfl ?_
            refine x_iconst (v := (-1)) rfl ki_m1 ?_
            refine x_iceq (tgt := 29) rfl rfl (ti_eq jk_m1 jk_m1 (br_t (by omega) ?_))
            exact jX.sub jsb_n (ct_X12_mentions_r125d_29 hD hQ  h J Sm D)
          ·
            rw [if_neg (by omega)] at D
            refine x_iconst (v := 1) rfl ki_1 ?_
            refine x_goto (tgt := 35) rfl rfl ?_
            refine x_zret rfl rfl (by decide) ?_
            show jX m_X12_soulAt 9 0 0 5 [(0, .ref 125), (1, .int a1), (2, .int a2)] [.int 1] _ 0 0 _
            refine x_ifeq (tgt := 15) rfl rfl (ti_eq jk_1 jk_0 (br_f (by omega) ?_))
            refine x_iloadn (x := a2) rfl rfl ?_
            refine x_inst (N := m_X12_isDay) (As := [.int a2]) (st := []) (dx9 := 2) (mc := 0) (ms := 0) (host := "") rfl t_X12_isDay ⟨Or.inl q_12_273, s_X12_isDay⟩ rfl (by decide) rfl rfl ⟨by decide, by decide⟩ (zc_X12_isDay (d := 1) rfl (fun v18 ev18 => ?_))
            show jX m_X12_soulAt 9 0 0 12 [(0, .ref 125), (1, .int a1), (2, .int a2)] [.int v18] _ 0 0 _
            refine x_ifne (tgt := 17) rfl rfl (ti_ne rfl jk_0 ⟨fun c19 => ?_, fun c19 => ?_⟩)
            ·
              rw [if_pos (by omega)] at D
              refine x_aloadn (x := 125) rfl rfl ?_
              refine x_iloadn (x := a2) rfl rfl ?_
              refine x_inv (N := m_X12_find) (As := [.int a2]) (b := 125) (st := []) (dx9 := 8) (mc := 0) (ms := 0) (host := "") 12 rfl t_X12_find ⟨Or.inl q_12_393, i_X12_find.1, i_X12_find.2⟩ ⟨by decide, rfl⟩ (congrArg Prod.fst (J.1.1 125 (12, 92) rfl)) rfl (by decide) rfl rfl ⟨by decide, by decide⟩ (sf_X12_find_r125d (jr_of rfl (by omega)) hD J rfl  (fun h J S20 X21 => ?_))
              have Sm := jSm_tr rfl Sm S20
              rw [X21] at D
              show jX m_X12_soulAt 9 0 0 22 [(0, .ref 125), (1, .int a1), (2, .int a2)] [] _ 0 0 _
              refine x_aloadn (x := 125) rfl rfl ?_
              refine z_getR (N := 92) (b := 139) 12 29 rfl f_12_72 rfl J rfl 16029 ⟨rfl, rfl⟩ rfl ?_
              refine x_iloadn (x := a1) rfl rfl ?_
              refine z_iald (N := 600) rfl J rfl sg_139_0_600_1_0_1 rfl (by omega) (fun v22 qv22 ev22 => ?_)
              try rw [vrd qv22 (show a1.toInt = a1.toInt from by omega)] at D
              refine x_iret rfl rfl ?_
              show jX m_X12_mentions 10 0 0 11 [(0, .ref 125), (1, .int a1), (2, .int a2), (3, .int a3), (4, .int a4)] [.int v22] _ 0 0 _
              refine x_istore (lsx9 := [(5, .int v22), (0, .ref 125), (1, .int a1), (2, .int a2), (3, .int a3), (4, .int a4)]) rfl rfl rfl ?_
              refine x_iload (x := v22) rfl rfl ?_
              refine x_iconst (v := (-1)) rfl ki_m1 ?_
              refine x_iceq (tgt := 29) rfl rfl (ti_eq rfl jk_m1 ⟨fun c23 => ?_, fun c23 => ?_⟩)
              ·
                rw [if_pos (by omega)] at D
                exact jX.sub jsb_n (ct_X12_mentions_r125d_29 hD hQ  h J Sm D)
              ·
                rw [if_neg (by omega)] at D
                refine x_iloadn (x := a3) rfl rfl ?_
                refine z_i2l rfl rfl (fun v24 ev24 => ?_)
                refine x_lconst (v := 0) rfl kl_0 ?_
                refine x_lconst (v := 1) rfl kl_1 ?_
                refine x_inst (N := m_X12_in) (As := [.long v24, .long 0, .long 1]) (st := []) (dx9 := 1) (mc := 0) (ms := 0) (host := "") rfl t_X12_in ⟨Or.inl q_12_188, s_X12_in⟩ rfl (by decide) rfl rfl ⟨by decide, by decide⟩ (zc_X12_in rfl jkl_0 jkl_1 (fun v25 ev25 => ?_))
                show jX m_X12_mentions 10 0 0 26 [(5, .int v22), (0, .ref 125), (1, .int a1), (2, .int a2), (3, .int a3), (4, .int a4)] [.int v25] _ 0 0 _
                refine x_ifne (tgt := 31) rfl rfl (ti_ne rfl jk_0 ⟨fun c26 => ?_, fun c26 => ?_⟩)
                ·
                  rw [if_pos (by omega)] at D
                  refine x_iconst (v := 0) rfl ki_0 ?_
                  refine x_istore (lsx9 := [(6, .int 0), (5, .int v22), (0, .ref 125), (1, .int a1), (2, .int a2), (3, .int a3), (4, .int a4)]) rfl rfl rfl ?_
                  refine x_iconst (v := 0) rfl ki_0 ?_
                  refine x_istore (lsx9 := [(7, .int 0), (6, .int 0), (5, .int v22), (0, .ref 125), (1, .int a1), (2, .int a2), (3, .int a3), (4, .int a4)]) rfl rfl rfl ?_
                  exact jX.sub (jsb_c rfl (jsb_c rfl (jsb_c rfl (jsb_c rfl (jsb_c rfl (jsb_c rfl jsb_n)))))) (ct_X12_mentions_r125d_37 hD hQ  601 a3 a4 v22 0 0 v5 h (by have := jk_0; omega) (jr_of rfl (by omega)) (jr_of rfl (by omega)) (jr_of jk_0 (by omega)) (jr_of rfl (by omega)) (jmc S20 rfl qv5) J Sm (by rw [jk_0]; exact D))
                ·
                  rw [if_neg (by omega)] at D
                  exact jX.sub jsb_n (ct_X12_mentions_r125d_29 hD hQ  h J Sm D)
            ·
              rw [if_neg (by omega)] at D
              refine x_iconst (v := (-1)) rfl ki_m1 ?_
              refine x_iret rfl rfl ?_
              show jX m_X12_mentions 10 0 0 11 [(0, .ref 125), (1, .int a1), (2, .int a2), (3, .int a3), (4, .int a4)] [.int (-1)] _ 0 0 _
              refine x_istore (lsx9 := [(5, .int (-1)), (0, .ref 125), (1, .int a1), (2, .int a2), (3, .int a3), (4, .int a4)]) rfl rfl rfl ?_
              refine x_iload (x := (-1)) rfl rfl ?_
              refine x_iconst (v := (-1)) rfl ki_m1 ?_
              refine x_iceq (tgt := 29) rfl rfl (ti_eq jk_m1 jk_m1 (br_t (by omega) ?_))
              exact jX.sub jsb_n (ct_X12_mentions_r125d_29 hD hQ  h J Sm D)
        ·
          rw [if_pos (by omega)] at D
          refine x_iconst (v := 2) rfl ki_2 ?_
          refine x_goto (tgt := 18) rfl rfl ?_
          refine x_iret rfl rfl ?_
          show jX m_X12_isMention 8 0 0 27 [(0, .ref 125), (1, .int a1)] [.int 2, .int v10] _ 0 0 _
          refine x_icge (tgt := 34) rfl rfl (ti_ge rfl jk_2 ⟨fun c27 => ?_, fun c27 => ?_⟩)
          ·
            rw [if_pos (by omega)] at D
            refine x_iconst (v := 0) rfl ki_0 ?_
            refine x_zret rfl rfl (by decide) ?_
            show jX m_X12_soulAt 9 0 0 5 [(0, .ref 125), (1, .int a1), (2, .int a2)] [.int 0] _ 0 0 _
            refine x_ifeq (tgt := 15) rfl rfl (ti_eq jk_0 jk_0 (br_t (by omega) ?_))
            refine x_iconst (v := (-1)) rfl ki_m1 ?_
            refine x_iret rfl rfl ?_
            show jX m_X12_mentions 10 0 0 11 [(0, .ref 125), (1, .int a1), (2, .int a2), (3, .int a3), (4, .int a4)] [.int (-1)] _ 0 0 _
            refine x_istore (lsx9 := [(5, .int (-1)), (0, .ref 125), (1, .int a1), (2, .int a2), (3, .int a3), (4, .int a4)]) rfl rfl rfl ?_
            refine x_iload (x := (-1)) rfl rfl ?_
            refine x_iconst (v := (-1)) rfl ki_m1 ?_
            refine x_iceq (tgt := 29) rfl rfl (ti_eq jk_m1 jk_m1 (br_t (by omega) ?_))
            exact jX.sub jsb_n (ct_X12_mentions_r125d_29 hD hQ  h J Sm D)
          ·
            rw [if_neg (by omega)] at D
            refine x_iconst (v := 1) rfl ki_1 ?_
            refine x_goto (tgt := 35) rfl rfl ?_
            refine x_zret rfl rfl (by decide) ?_
            show jX m_X12_soulAt 9 0 0 5 [(0, .ref 125), (1, .int a1), (2, .int a2)] [.int 1] _ 0 0 _
            refine x_ifeq (tgt := 15) rfl rfl (ti_eq jk_1 jk_0 (br_f (by omega) ?_))
            refine x_iloadn (x := a2) rfl rfl ?_
            refine x_inst (N := m_X12_isDay) (As := [.int a2]) (st := []) (dx9 := 2) (mc := 0) (ms := 0) (host := "") rfl t_X12_isDay ⟨Or.inl q_12_273, s_X12_isDay⟩ rfl (by decide) rfl rfl ⟨by decide, by decide⟩ (zc_X12_isDay (d := 1) rfl (fun v28 ev28 => ?_))
            show jX m_X12_soulAt 9 0 0 12 [(0, .ref 125), (1, .int a1), (2, .int a2)] [.int v28] _ 0 0 _
            refine x_ifne (tgt := 17) rfl rfl (ti_ne rfl jk_0 ⟨fun c29 => ?_, fun c29 => ?_⟩)
            ·
              rw [if_pos (by omega)] at D
              refine x_aloadn (x := 125) rfl rfl ?_
              refine x_iloadn (x := a2) rfl rfl ?_
              refine x_inv (N := m_X12_find) (As := [.int a2]) (b := 125) (st := []) (dx9 := 8) (mc := 0) (ms := 0) (host := "") 12 rfl t_X12_find ⟨Or.inl q_12_393, i_X12_find.1, i_X12_find.2⟩ ⟨by decide, rfl⟩ (congrArg Prod.fst (J.1.1 125 (12, 92) rfl)) rfl (by decide) rfl rfl ⟨by decide, by decide⟩ (sf_X12_find_r125d (jr_of rfl (by omega)) hD J rfl  (fun h J S30 X31 => ?_))
              have Sm := jSm_tr rfl Sm S30
              rw [X31] at D
              show jX m_X12_soulAt 9 0 0 22 [(0, .ref 125), (1, .int a1), (2, .int a2)] [] _ 0 0 _
              refine x_aloadn (x := 125) rfl rfl ?_
              refine z_getR (N := 92) (b := 139) 12 29 rfl f_12_72 rfl J rfl 16029 ⟨rfl, rfl⟩ rfl ?_
              refine x_iloadn (x := a1) rfl rfl ?_
              refine z_iald (N := 600) rfl J rfl sg_139_0_600_1_0_1 rfl (by omega) (fun v32 qv32 ev32 => ?_)
              try rw [vrd qv32 (show a1.toInt = a1.toInt from by omega)] at D
              refine x_iret rfl rfl ?_
              show jX m_X12_mentions 10 0 0 11 [(0, .ref 125), (1, .int a1), (2, .int a2), (3, .int a3), (4, .int a4)] [.int v32] _ 0 0 _
              refine x_istore (lsx9 := [(5, .int v32), (0, .ref 125), (1, .int a1), (2, .int a2), (3, .int a3), (4, .int a4)]) rfl rfl rfl ?_
              refine x_iload (x := v32) rfl rfl ?_
              refine x_iconst (v := (-1)) rfl ki_m1 ?_
              refine x_iceq (tgt := 29) rfl rfl (ti_eq rfl jk_m1 ⟨fun c33 => ?_, fun c33 => ?_⟩)
              ·
                rw [if_pos (by omega)] at D
                exact jX.sub jsb_n (ct_X12_mentions_r125d_29 hD hQ  h J Sm D)
              ·
                rw [if_neg (by omega)] at D
                refine x_iloadn (x := a3) rfl rfl ?_
                refine z_i2l rfl rfl (fun v34 ev34 => ?_)
                refine x_lconst (v := 0) rfl kl_0 ?_
                refine x_lconst (v := 1) rfl kl_1 ?_
                refine x_inst (N := m_X12_in) (As := [.long v34, .long 0, .long 1]) (st := []) (dx9 := 1) (mc := 0) (ms := 0) (host := "") rfl t_X12_in ⟨Or.inl q_12_188, s_X12_in⟩ rfl (by decide) rfl rfl ⟨by decide, by decide⟩ (zc_X12_in rfl jkl_0 jkl_1 (fun v35 ev35 => ?_))
                show jX m_X12_mentions 10 0 0 26 [(5, .int v32), (0, .ref 125), (1, .int a1), (2, .int a2), (3, .int a3), (4, .int a4)] [.int v35] _ 0 0 _
                refine x_ifne (tgt := 31) rfl rfl (ti_ne rfl jk_0 ⟨fun c36 => ?_, fun c36 => ?_⟩)
                ·
                  rw [if_pos (by omega)] at D
                  refine x_iconst (v := 0) rfl ki_0 ?_
                  refine x_istore (lsx9 := [(6, .int 0), (5, .int v32), (0, .ref 125), (1, .int a1), (2, .int a2), (3, .int a3), (4, .int a4)]) rfl rfl rfl ?_
                  refine x_iconst (v := 0) rfl ki_0 ?_
                  refine x_istore (lsx9 := [(7, .int 0), (6, .int 0), (5, .int v32), (0, .ref 125), (1, .int a1), (2, .int a2), (3, .int a3), (4, .int a4)]) rfl rfl rfl ?_
                  exact jX.sub (jsb_c rfl (jsb_c rfl (jsb_c rfl (jsb_c rfl (jsb_c rfl (jsb_c rfl jsb_n)))))) (ct_X12_mentions_r125d_37 hD hQ  601 a3 a4 v32 0 0 v5 h (by have := jk_0; omega) (jr_of rfl (by omega)) (jr_of rfl (by omega)) (jr_of jk_0 (by omega)) (jr_of rfl (by omega)) (jmc S30 rfl qv5) J Sm (by rw [jk_0]; exact D))
                ·
                  rw [if_neg (by omega)] at D
                  exact jX.sub jsb_n (ct_X12_mentions_r125d_29 hD hQ  h J Sm D)
            ·
              rw [if_neg (by omega)] at D
              refine x_iconst (v := (-1)) rfl ki_m1 ?_
              refine x_iret rfl rfl ?_
              show jX m_X12_mentions 10 0 0 11 [(0, .ref 125), (1, .int a1), (2, .int a2), (3, .int a3), (4, .int a4)] [.int (-1)] _ 0 0 _
              refine x_istore (lsx9 := [(5, .int (-1)), (0, .ref 125), (1, .int a1), (2, .int a2), (3, .int a3), (4, .int a4)]) rfl rfl rfl ?_
              refine x_iload (x := (-1)) rfl rfl ?_
              refine x_iconst (v := (-1)) rfl ki_m1 ?_
              refine x_iceq (tgt := 29) rfl rfl (ti_eq jk_m1 jk_m1 (br_t (by omega) ?_))
              exact jX.sub jsb_n (ct_X12_mentions_r125d_29 hD hQ  h J Sm D)
      ·
        rw [if_pos (by omega)] at D
        refine x_iconst (v := 3) rfl ki_3 ?_
        refine x_goto (tgt := 18) rfl rfl ?_
        refine x_iret rfl rfl ?_
        show jX m_X12_isMention 8 0 0 27 [(0, .ref 125), (1, .int a1)] [.int 3, .int v10] _ 0 0 _
        refine x_icge (tgt := 34) rfl rfl (ti_ge rfl jk_3 (br_f (by omega) ?_))
        refine x_iconst (v := 1) rfl ki_1 ?_
        refine x_goto (tgt := 35) rfl rfl ?_
        refine x_zret rfl rfl (by decide) ?_
        show jX m_X12_soulAt 9 0 0 5 [(0, .ref 125), (1, .int a1), (2, .int a2)] [.int 1] _ 0 0 _
        refine x_ifeq (tgt := 15) rfl rfl (ti_eq jk_1 jk_0 (br_f (by omega) ?_))
        refine x_iloadn (x := a2) rfl rfl ?_
        refine x_inst (N := m_X12_isDay) (As := [.int a2]) (st := []) (dx9 := 2) (mc := 0) (ms := 0) (host := "") rfl t_X12_isDay ⟨Or.inl q_12_273, s_X12_isDay⟩ rfl (by decide) rfl rfl ⟨by decide, by decide⟩ (zc_X12_isDay (d := 1) rfl (fun v37 ev37 => ?_))
        show jX m_X12_soulAt 9 0 0 12 [(0, .ref 125), (1, .int a1), (2, .int a2)] [.int v37] _ 0 0 _
        refine x_ifne (tgt := 17) rfl rfl (ti_ne rfl jk_0 ⟨fun c38 => ?_, fun c38 => ?_⟩)
        ·
          rw [if_pos (by omega)] at D
          refine x_aloadn (x := 125) rfl rfl ?_
          refine x_iloadn (x := a2) rfl rfl ?_
          refine x_inv (N := m_X12_find) (As := [.int a2]) (b := 125) (st := []) (dx9 := 8) (mc := 0) (ms := 0) (host := "") 12 rfl t_X12_find ⟨Or.inl q_12_393, i_X12_find.1, i_X12_find.2⟩ ⟨by decide, rfl⟩ (congrArg Prod.fst (J.1.1 125 (12, 92) rfl)) rfl (by decide) rfl rfl ⟨by decide, by decide⟩ (sf_X12_find_r125d (jr_of rfl (by omega)) hD J rfl  (fun h J S39 X40 => ?_))
          have Sm := jSm_tr rfl Sm S39
          rw [X40] at D
          show jX m_X12_soulAt 9 0 0 22 [(0, .ref 125), (1, .int a1), (2, .int a2)] [] _ 0 0 _
          refine x_aloadn (x := 125) rfl rfl ?_
          refine z_getR (N := 92) (b := 139) 12 29 rfl f_12_72 rfl J rfl 16029 ⟨rfl, rfl⟩ rfl ?_
          refine x_iloadn (x := a1) rfl rfl ?_
          refine z_iald (N := 600) rfl J rfl sg_139_0_600_1_0_1 rfl (by omega) (fun v41 qv41 ev41 => ?_)
          try rw [vrd qv41 (show a1.toInt = a1.toInt from by omega)] at D
          refine x_iret rfl rfl ?_
          show jX m_X12_mentions 10 0 0 11 [(0, .ref 125), (1, .int a1), (2, .int a2), (3, .int a3), (4, .int a4)] [.int v41] _ 0 0 _
          refine x_istore (lsx9 := [(5, .int v41), (0, .ref 125), (1, .int a1), (2, .int a2), (3, .int a3), (4, .int a4)]) rfl rfl rfl ?_
          refine x_iload (x := v41) rfl rfl ?_
          refine x_iconst (v := (-1)) rfl ki_m1 ?_
          refine x_iceq (tgt := 29) rfl rfl (ti_eq rfl jk_m1 ⟨fun c42 => ?_, fun c42 => ?_⟩)
          ·
            rw [if_pos (by omega)] at D
            exact jX.sub jsb_n (ct_X12_mentions_r125d_29 hD hQ  h J Sm D)
          ·
            rw [if_neg (by omega)] at D
            refine x_iloadn (x := a3) rfl rfl ?_
            refine z_i2l rfl rfl (fun v43 ev43 => ?_)
            refine x_lconst (v := 0) rfl kl_0 ?_
            refine x_lconst (v := 1) rfl kl_1 ?_
            refine x_inst (N := m_X12_in) (As := [.long v43, .long 0, .long 1]) (st := []) (dx9 := 1) (mc := 0) (ms := 0) (host := "") rfl t_X12_in ⟨Or.inl q_12_188, s_X12_in⟩ rfl (by decide) rfl rfl ⟨by decide, by decide⟩ (zc_X12_in rfl jkl_0 jkl_1 (fun v44 ev44 => ?_))
            show jX m_X12_mentions 10 0 0 26 [(5, .int v41), (0, .ref 125), (1, .int a1), (2, .int a2), (3, .int a3), (4, .int a4)] [.int v44] _ 0 0 _
            refine x_ifne (tgt := 31) rfl rfl (ti_ne rfl jk_0 ⟨fun c45 => ?_, fun c45 => ?_⟩)
            ·
              rw [if_pos (by omega)] at D
              refine x_iconst (v := 0) rfl ki_0 ?_
              refine x_istore (lsx9 := [(6, .int 0), (5, .int v41), (0, .ref 125), (1, .int a1), (2, .int a2), (3, .int a3), (4, .int a4)]) rfl rfl rfl ?_
              refine x_iconst (v := 0) rfl ki_0 ?_
              refine x_istore (lsx9 := [(7, .int 0), (6, .int 0), (5, .int v41), (0, .ref 125), (1, .int a1), (2, .int a2), (3, .int a3), (4, .int a4)]) rfl rfl rfl ?_
              exact jX.sub (jsb_c rfl (jsb_c rfl (jsb_c rfl (jsb_c rfl (jsb_c rfl (jsb_c rfl jsb_n)))))) (ct_X12_mentions_r125d_37 hD hQ  601 a3 a4 v41 0 0 v5 h (by have := jk_0; omega) (jr_of rfl (by omega)) (jr_of rfl (by omega)) (jr_of jk_0 (by omega)) (jr_of rfl (by omega)) (jmc S39 rfl qv5) J Sm (by rw [jk_0]; exact D))
            ·
              rw [if_neg (by omega)] at D
              exact jX.sub jsb_n (ct_X12_mentions_r125d_29 hD hQ  h J Sm D)
        ·
          rw [if_neg (by omega)] at D
          refine x_iconst (v := (-1)) rfl ki_m1 ?_
          refine x_iret rfl rfl ?_
          show jX m_X12_mentions 10 0 0 11 [(0, .ref 125), (1, .int a1), (2, .int a2), (3, .int a3), (4, .int a4)] [.int (-1)] _ 0 0 _
          refine x_istore (lsx9 := [(5, .int (-1)), (0, .ref 125), (1, .int a1), (2, .int a2), (3, .int a3), (4, .int a4)]) rfl rfl rfl ?_
          refine x_iload (x := (-1)) rfl rfl ?_
          refine x_iconst (v := (-1)) rfl ki_m1 ?_
          refine x_iceq (tgt := 29) rfl rfl (ti_eq jk_m1 jk_m1 (br_t (by omega) ?_))
          exact jX.sub jsb_n (ct_X12_mentions_r125d_29 hD hQ  h J Sm D)
def fp_X12_name_r125d : jFp := [(125, 0, 1), (137, 0, 80), (138, 0, 2)]
set_option maxRecDepth 100000 in
set_option maxHeartbeats 4000000 in
theorem ct_X12_name_r125d_23 {Dy : jH → Prop} {h0 : jH} {Q : Option Value → jH → Prop} {dr : (Int × jW)} (hD : jDk Dy) (hQ : ∀ (v : Int32) hx9, (-1) ≤ v.toInt ∧ v.toInt ≤ 255 → jJ jSgM Dy hx9 → jSm fp_X12_name_r125d h0 hx9 → dr.1 = v.toInt → dr.2 = vw hx9 → Q (some (.int v)) hx9) : ∀ (h : jH), jJ jSgM Dy h → jSm fp_X12_name_r125d h0 h → d_X12_name_r125d_23  (vw h) = dr → jX m_X12_name 4 0 0 23 [] [] h 0 0 Q := by
  intro  h    J Sm D
  unfold d_X12_name_r125d_23 at D
  refine x_iconst (v := (-1)) rfl ki_m1 ?_
  refine x_iret rfl rfl ?_
  exact hQ _ _ (jr_of jk_m1 (by omega)) J Sm ((congrArg Prod.fst D).symm.trans (show (-1) = ((-1) : Int32).toInt from by have := jk_m1; omega)) (congrArg Prod.snd D).symm
set_option maxRecDepth 100000 in
set_option maxHeartbeats 4000000 in
theorem ct_X12_name_r125d_100074 {Dy : jH → Prop} {h0 : jH} {Q : Option Value → jH → Prop} {dr : (Int × jW)} (hD : jDk Dy) (hQ : ∀ (v : Int32) hx9, (-1) ≤ v.toInt ∧ v.toInt ≤ 255 → jJ jSgM Dy hx9 → jSm fp_X12_name_r125d h0 hx9 → dr.1 = v.toInt → dr.2 = vw hx9 → Q (some (.int v)) hx9) : ∀ (h : jH), jJ jSgM Dy h → jSm fp_X12_name_r125d h0 h → d_X12_name_r125d_100074  (vw h) = dr → jX m_X12_name 4 0 0 74 [] [.int (-1)] h 0 0 Q := by
  intro  h    J Sm D
  unfold d_X12_name_r125d_100074 at D
  refine x_iret rfl rfl ?_
  exact hQ _ _ (jr_of jk_m1 (by omega)) J Sm ((congrArg Prod.fst D).symm.trans (show (-1) = ((-1) : Int32).toInt from by have := jk_m1; omega)) (congrArg Prod.snd D).symm
set_option maxRecDepth 100000 in
set_option maxHeartbeats 4000000 in
theorem ct_X12_name_r125d_74 {Dy : jH → Prop} {h0 : jH} {Q : Option Value → jH → Prop} {dr : (Int × jW)} (hD : jDk Dy) (hQ : ∀ (v : Int32) hx9, (-1) ≤ v.toInt ∧ v.toInt ≤ 255 → jJ jSgM Dy hx9 → jSm fp_X12_name_r125d h0 hx9 → dr.1 = v.toInt → dr.2 = vw hx9 → Q (some (.int v)) hx9) : ∀ (s0 : Int32) (h : jH), 0 ≤ s0.toInt ∧ s0.toInt ≤ 255 → jJ jSgM Dy h → jSm fp_X12_name_r125d h0 h → d_X12_name_r125d_74  s0.toInt (vw h) = dr → jX m_X12_name 4 0 0 74 [] [.int s0] h 0 0 Q := by
  intro s0 h y0   J Sm D
  unfold d_X12_name_r125d_74 at D
  refine x_iret rfl rfl ?_
  exact hQ _ _ (jr_of rfl (by omega)) J Sm ((congrArg Prod.fst D).symm.trans (show s0.toInt = s0.toInt from by omega)) (congrArg Prod.snd D).symm
set_option maxRecDepth 100000 in
set_option maxHeartbeats 4000000 in
theorem sf_X12_name_r125d {Dy : jH → Prop} {h : jH} {Q : Option Value → jH → Prop} {dr : (Int × jW)} {a1 : Int32} {a2 : Int32} {a3 : Int32} (hD : jDk Dy) (J : jJ jSgM Dy h) (D : d_X12_name_r125d a1.toInt a2.toInt a3.toInt (vw h) = dr) (hQ : ∀ (v : Int32) hx9, (-1) ≤ v.toInt ∧ v.toInt ≤ 255 → jJ jSgM Dy hx9 → jSm fp_X12_name_r125d h hx9 → dr.1 = v.toInt → dr.2 = vw hx9 → Q (some (.int v)) hx9) : jC m_X12_name 4 0 0 [.ref 125, .int a1, .int a2, .int a3] h Q := by
  refine jC.of rfl k_X12_name rfl ?_
  have Sm := jSm_rf fp_X12_name_r125d h
  have ea1 := jfull a1
  have ea2 := jfull a2
  have ea3 := jfull a3
  show jX m_X12_name 4 0 0 0 [(0, .ref 125), (1, .int a1), (2, .int a2), (3, .int a3)] [] _ 0 0 _
  unfold d_X12_name_r125d at D
  refine x_aloadn (x := 125) rfl rfl ?_
  refine x_iconst (v := 0) rfl ki_0 ?_
  refine z_putI (N := 92) (w := 0) 12 0 rfl f_12_180 rfl (jfin_no TX12 RX12 92 rfl rfl) hD J Sm rfl rfl jk_0 (pw_125_0 (by omega)) rfl (fun h w1 J Sm => ?_)
  rw [vwf w1 (show 0 = (0 : Int32).toInt from by have := jk_0; omega)] at D
  refine x_aloadn (x := 125) rfl rfl ?_
  refine x_iloadn (x := a1) rfl rfl ?_
  refine x_inv (N := m_X12_isMention) (As := [.int a1]) (b := 125) (st := []) (dx9 := 3) (mc := 0) (ms := 0) (host := "") 12 rfl t_X12_isMention ⟨Or.inl q_12_322, i_X12_isMention.1, i_X12_isMention.2⟩ ⟨by decide, rfl⟩ (congrArg Prod.fst (J.1.1 125 (12, 92) rfl)) rfl (by decide) rfl rfl ⟨by decide, by decide⟩ (jC.of rfl k_X12_isMention rfl ?_)
  show jX m_X12_isMention 3 0 0 0 [(0, .ref 125), (1, .int a1)] [] _ 0 0 _
  refine x_iloadn (x := a1) rfl rfl ?_
  refine x_iflt (tgt := 34) rfl rfl (ti_lt rfl jk_0 ⟨fun c2 => ?_, fun c2 => ?_⟩)
  ·
    rw [if_pos (by omega)] at D
    refine x_iconst (v := 0) rfl ki_0 ?_
    refine x_zret rfl rfl (by decide) ?_
    show jX m_X12_name 4 0 0 10 [(0, .ref 125), (1, .int a1), (2, .int a2), (3, .int a3)] [.int 0] _ 0 0 _
    refine x_ifeq (tgt := 23) rfl rfl (ti_eq jk_0 jk_0 (br_t (by omega) ?_))
    exact jX.sub jsb_n (ct_X12_name_r125d_23 hD hQ  h J Sm D)
  ·
    rw [if_neg (by omega)] at D
    refine x_aloadn (x := 125) rfl rfl ?_
    refine x_iloadn (x := a1) rfl rfl ?_
    refine x_iconst (v := 3) rfl ki_3 ?_
    refine z_idiv rfl rfl jk_3 (by omega) (by omega) (fun v3 ev3 => ?_)
    refine x_inv (N := m_X12_isLine) (As := [.int v3]) (b := 125) (st := []) (dx9 := 2) (mc := 0) (ms := 0) (host := "") 12 rfl t_X12_isLine ⟨Or.inl q_12_293, i_X12_isLine.1, i_X12_isLine.2⟩ ⟨by decide, rfl⟩ (congrArg Prod.fst (J.1.1 125 (12, 92) rfl)) rfl (by decide) rfl rfl ⟨by decide, by decide⟩ (jC.of rfl k_X12_isLine rfl ?_)
    show jX m_X12_isLine 2 0 0 0 [(0, .ref 125), (1, .int v3)] [] _ 0 0 _
    refine x_iloadn (x := v3) rfl rfl ?_
    refine z_i2l rfl rfl (fun v4 ev4 => ?_)
    refine x_lconst (v := 0) rfl kl_0 ?_
    refine x_aloadn (x := 125) rfl rfl ?_
    refine z_getR (N := 92) (b := 126) 12 2 rfl f_12_8 rfl J rfl 16002 ⟨rfl, rfl⟩ rfl ?_
    refine x_iconst (v := 0) rfl ki_0 ?_
    refine z_iald (N := 50660) rfl J rfl sg_126_0_1_1_0_1 jk_0 (by omega) (fun v5 qv5 ev5 => ?_)
    try rw [vrn (n := 0) (by decide) (jmb_w w1 qv5 rfl)] at D
    refine z_i2l rfl rfl (fun v6 ev6 => ?_)
    refine x_lconst (v := 1) rfl kl_1 ?_
    refine z_lsub rfl rfl jkl_1 (by omega) (fun v7 ev7 => ?_)
    refine x_inst (N := m_X12_in) (As := [.long v4, .long 0, .long v7]) (st := []) (dx9 := 1) (mc := 0) (ms := 0) (host := "") rfl t_X12_in ⟨Or.inl q_12_188, s_X12_in⟩ rfl (by decide) rfl rfl ⟨by decide, by decide⟩ (zc_X12_in rfl jkl_0 rfl (fun v8 ev8 => ?_))
    show jX m_X12_isLine 2 0 0 15 [(0, .ref 125), (1, .int v3)] [.int v8] _ 0 0 _
    refine x_zret rfl rfl (jz01 (by omega)) ?_
    show jX m_X12_isMention 3 0 0 11 [(0, .ref 125), (1, .int a1)] [.int v8] _ 0 0 _
    refine x_ifeq (tgt := 34) rfl rfl (ti_eq rfl jk_0 ⟨fun c9 => ?_, fun c9 => ?_⟩)
    ·
      rw [if_neg (by omega)] at D
      refine x_iconst (v := 0) rfl ki_0 ?_
      refine x_zret rfl rfl (by decide) ?_
      show jX m_X12_name 4 0 0 10 [(0, .ref 125), (1, .int a1), (2, .int a2), (3, .int a3)] [.int 0] _ 0 0 _
      refine x_ifeq (tgt := 23) rfl rfl (ti_eq jk_0 jk_0 (br_t (by omega) ?_))
      exact jX.sub jsb_n (ct_X12_name_r125d_23 hD hQ  h J Sm D)
    ·
      rw [if_pos (by omega)] at D
      refine x_iloadn (x := a1) rfl rfl ?_
      refine x_iconst (v := 3) rfl ki_3 ?_
      refine z_irem rfl rfl jk_3 (by omega) (by omega) (fun v10 ev10 => ?_)
      refine x_aloadn (x := 125) rfl rfl ?_
      refine x_iloadn (x := a1) rfl rfl ?_
      refine x_iconst (v := 3) rfl ki_3 ?_
      refine z_idiv rfl rfl jk_3 (by omega) (by omega) (fun v11 ev11 => ?_)
      refine x_inv (N := m_X12_bookOf) (As := [.int v11]) (b := 125) (st := [.int v10]) (dx9 := 2) (mc := 0) (ms := 0) (host := "") 12 rfl t_X12_bookOf ⟨Or.inl q_12_299, i_X12_bookOf.1, i_X12_bookOf.2⟩ ⟨by decide, rfl⟩ (congrArg Prod.fst (J.1.1 125 (12, 92) rfl)) rfl (by decide) rfl rfl ⟨by decide, by decide⟩ (jC.of rfl k_X12_bookOf rfl ?_)
      show jX m_X12_bookOf 2 0 0 0 [(0, .ref 125), (1, .int v11)] [] _ 0 0 _
      refine x_aloadn (x := 125) rfl rfl ?_
      refine z_getR (N := 92) (b := 126) 12 2 rfl f_12_8 rfl J rfl 16002 ⟨rfl, rfl⟩ rfl ?_
      refine x_aloadn (x := 125) rfl rfl ?_
      refine x_iloadn (x := v11) rfl rfl ?_
      refine x_inv (N := m_X12_at) (As := [.int v11]) (b := 125) (st := [.ref 126]) (dx9 := 1) (mc := 0) (ms := 0) (host := "") 12 rfl t_X12_at ⟨Or.inl q_12_254, i_X12_at.1, i_X12_at.2⟩ ⟨by decide, rfl⟩ (congrArg Prod.fst (J.1.1 125 (12, 92) rfl)) rfl (by decide) rfl rfl ⟨by decide, by decide⟩ (jC.of rfl k_X12_at rfl ?_)
      show jX m_X12_at 1 0 0 0 [(0, .ref 125), (1, .int v11)] [] _ 0 0 _
      refine x_bipush (v := 20) rfl kb_20 ?_
      refine x_bipush (v := 90) rfl kb_90 ?_
      refine x_iloadn (x := v11) rfl rfl ?_
      refine z_imul rfl jk_90 rfl (by omega) (fun v12 ev12 => ?_)
      refine z_iadd rfl jk_20 rfl (by omega) (fun v13 ev13 => ?_)
      refine x_iret rfl rfl ?_
      show jX m_X12_bookOf 2 0 0 9 [(0, .ref 125), (1, .int v11)] [.int v13, .ref 126] _ 0 0 _
      refine z_iald (N := 50660) rfl J rfl sg_126_20_18020_90_0_1 rfl (by omega) (fun v14 qv14 ev14 => ?_)
      try rw [vrd (jmb_w w1 qv14 rfl) (show (20 + (90 * (a1.toInt / 3))) = v13.toInt from by omega)] at D
      refine x_iret rfl rfl ?_
      show jX m_X12_isMention 3 0 0 24 [(0, .ref 125), (1, .int a1)] [.int v14, .int v10] _ 0 0 _
      refine x_inst (N := m_X12_rolesOf) (As := [.int v14]) (st := [.int v10]) (dx9 := 2) (mc := 0) (ms := 0) (host := "") rfl t_X12_rolesOf ⟨Or.inl q_12_286, s_X12_rolesOf⟩ rfl (by decide) rfl rfl ⟨by decide, by decide⟩ (jC.of rfl k_X12_rolesOf rfl ?_)
      show jX m_X12_rolesOf 2 0 0 0 [(0, .int v14)] [] _ 0 0 _
      refine x_iloadn (x := v14) rfl rfl ?_
      refine x_ifne (tgt := 8) rfl rfl (ti_ne rfl jk_0 ⟨fun c15 => ?_, fun c15 => ?_⟩)
      ·
        rw [if_neg (by omega)] at D
        refine x_iloadn (x := v14) rfl rfl ?_
        refine x_iconst (v := 1) rfl ki_1 ?_
        refine x_icne (tgt := 17) rfl rfl (ti_ne rfl jk_1 ⟨fun c16 => ?_, fun c16 => ?_⟩)
        ·
          rw [if_neg (by omega)] at D
          refine x_iconst (v := 1) rfl ki_1 ?_
          refine x_iret rfl rfl ?_
          show jX m_X12_isMention 3 0 0 27 [(0, .ref 125), (1, .int a1)] [.int 1, .int v10] _ 0 0 _
          refine x_icge (tgt := 34) rfl rfl (ti_ge rfl jk_1 ⟨fun c17 => ?_, fun c17 => ?_⟩)
          ·
            rw [if_pos (by omega)] at D
            refine x_iconst (v := 0) rfl ki_0 ?_
            refine x_zret rfl rfl (by decide) ?_
            show jX m_X12_name 4 0 0 10 [(0, .ref 125), (1, .int a1), (2, .int a2), (3, .int a3)] [.int 0] _ 0 0 _
            refine x_ifeq (tgt := 23) rfl rfl (ti_eq jk_0 jk_0 (br_t (by omega) ?_))
            exact jX.sub jsb_n (ct_X12_name_r125d_23 hD hQ  h J Sm D)
          ·
            rw [if_neg (by omega)] at D
            refine x_iconst (v := 1) rfl ki_1 ?_
            refine x_goto (tgt := 35) rfl rfl ?_
            refine x_zret rfl rfl (by decide) ?_
            show jX m_X12_name 4 0 0 10 [(0, .ref 125), (1, .int a1), (2, .int a2), (3, .int a3)] [.int 1] _ 0 0 _
            refine x_ifeq (tgt := 23) rfl rfl (ti_eq jk_1 jk_0 (br_f (by omega) ?_))
            refine x_iloadn (x := a2) rfl rfl ?_
            refine z_i2l rfl rfl (fun v18 ev18 => ?_)
            refine x_lconst (v := 0) rfl kl_0 ?_
            refine x_lconst (v := 1) rfl kl_1 ?_
            refine x_inst (N := m_X12_in) (As := [.long v18, .long 0, .long 1]) (st := []) (dx9 := 1) (mc := 0) (ms := 0) (host := "") rfl t_X12_in ⟨Or.inl q_12_188, s_X12_in⟩ rfl (by decide) rfl rfl ⟨by decide, by decide⟩ (zc_X12_in rfl jkl_0 jkl_1 (fun v19 ev19 => ?_))
            show jX m_X12_name 4 0 0 20 [(0, .ref 125), (1, .int a1), (2, .int a2), (3, .int a3)] [.int v19] _ 0 0 _
            refine x_ifne (tgt := 25) rfl rfl (ti_ne rfl jk_0 ⟨fun c20 => ?_, fun c20 => ?_⟩)
            ·
              rw [if_pos (by omega)] at D
              refine x_aloadn (x := 125) rfl rfl ?_
              refine x_iloadn (x := a1) rfl rfl ?_
              refine x_iloadn (x := a2) rfl rfl ?_
              refine x_iconst (v := 0) rfl ki_0 ?_
              refine x_inv (N := m_X12_fold) (As := [.int a1, .int a2, .int 0]) (b := 125) (st := []) (dx9 := 3) (mc := 0) (ms := 0) (host := "") 12 rfl t_X12_fold ⟨Or.inl q_12_325, i_X12_fold.1, i_X12_fold.2⟩ ⟨by decide, rfl⟩ (congrArg Prod.fst (J.1.1 125 (12, 92) rfl)) rfl (by decide) rfl rfl ⟨by decide, by decide⟩ (sf_X12_fold_r125d (jr_of rfl (by omega)) (jr_of rfl (by omega)) (jr_of jk_0 (by omega)) hD J rfl  (fun h J S21 X22 => ?_))
              have Sm := jSm_tr rfl Sm S21
              try rw [jk_0] at X22
              rw [X22] at D
              show jX m_X12_name 4 0 0 32 [(0, .ref 125), (1, .int a1), (2, .int a2), (3, .int a3)] [] _ 0 0 _
              refine x_iloadn (x := a3) rfl rfl ?_
              refine x_iconst (v := (-1)) rfl ki_m1 ?_
              refine x_icne (tgt := 46) rfl rfl (ti_ne rfl jk_m1 ⟨fun c23 => ?_, fun c23 => ?_⟩)
              ·
                rw [if_neg (by omega)] at D
                refine x_iloadn (x := a3) rfl rfl ?_
                refine z_i2l rfl rfl (fun v24 ev24 => ?_)
                refine x_lconst (v := 0) rfl kl_0 ?_
                refine x_aloadn (x := 125) rfl rfl ?_
                refine z_getR (N := 92) (b := 138) 12 22 rfl f_12_54 rfl J rfl 16022 ⟨rfl, rfl⟩ rfl ?_
                refine x_iconst (v := 0) rfl ki_0 ?_
                refine z_iald (N := 2) rfl J rfl sg_138_0_2_1_0_1 jk_0 (by omega) (fun v25 qv25 ev25 => ?_)
                try rw [vrn (n := 0) (by decide) qv25] at D
                refine z_i2l rfl rfl (fun v26 ev26 => ?_)
                refine x_lconst (v := 1) rfl kl_1 ?_
                refine z_lsub rfl rfl jkl_1 (by omega) (fun v27 ev27 => ?_)
                refine x_inst (N := m_X12_in) (As := [.long v24, .long 0, .long v27]) (st := []) (dx9 := 1) (mc := 0) (ms := 0) (host := "") rfl t_X12_in ⟨Or.inl q_12_188, s_X12_in⟩ rfl (by decide) rfl rfl ⟨by decide, by decide⟩ (zc_X12_in rfl jkl_0 rfl (fun v28 ev28 => ?_))
                show jX m_X12_name 4 0 0 61 [(0, .ref 125), (1, .int a1), (2, .int a2), (3, .int a3)] [.int v28] _ 0 0 _
                refine x_ifeq (tgt := 73) rfl rfl (ti_eq rfl jk_0 ⟨fun c29 => ?_, fun c29 => ?_⟩)
                ·
                  rw [if_neg (by omega)] at D
                  refine x_iconst (v := (-1)) rfl ki_m1 ?_
                  exact jX.sub jsb_n (ct_X12_name_r125d_100074 hD hQ  h J Sm D)
                ·
                  rw [if_pos (by omega)] at D
                  refine x_aloadn (x := 125) rfl rfl ?_
                  refine z_getR (N := 92) (b := 137) 12 21 rfl f_12_51 rfl J rfl 16021 ⟨rfl, rfl⟩ rfl ?_
                  refine x_iloadn (x := a3) rfl rfl ?_
                  refine z_iald (N := 80) rfl J rfl sg_137_0_80_1_0_1 rfl (by omega) (fun v30 qv30 ev30 => ?_)
                  try rw [vrd qv30 (show a3.toInt = a3.toInt from by omega)] at D
                  refine x_goto (tgt := 74) rfl rfl ?_
                  exact jX.sub jsb_n (ct_X12_name_r125d_74 hD hQ  v30 h (jr_of rfl (by omega)) J Sm D)
              ·
                rw [if_pos (by omega)] at D
                refine x_aloadn (x := 125) rfl rfl ?_
                refine z_getR (N := 92) (b := 138) 12 22 rfl f_12_54 rfl J rfl 16022 ⟨rfl, rfl⟩ rfl ?_
                refine x_iconst (v := 0) rfl ki_0 ?_
                refine z_iald (N := 2) rfl J rfl sg_138_0_2_1_0_1 jk_0 (by omega) (fun v31 qv31 ev31 => ?_)
                try rw [vrn (n := 0) (by decide) qv31] at D
                refine x_goto (tgt := 74) rfl rfl ?_
                exact jX.sub jsb_n (ct_X12_name_r125d_74 hD hQ  v31 h (jr_of rfl (by omega)) J Sm D)
            ·
              rw [if_neg (by omega)] at D
              exact jX.sub jsb_n (ct_X12_name_r125d_23 hD hQ  h J Sm D)
        ·
          rw [if_pos (by omega)] at D
          refine x_iconst (v := 2) rfl ki_2 ?_
          refine x_goto (tgt := 18) rfl rfl ?_
          refine x_iret rfl rfl ?_
          show jX m_X12_isMention 3 0 0 27 [(0, .ref 125), (1, .int a1)] [.int 2, .int v10] _ 0 0 _
          refine x_icge (tgt := 34) rfl rfl (ti_ge rfl jk_2 ⟨fun c32 => ?_, fun c32 => ?_⟩)
          ·
            rw [if_pos (by omega)] at D
            refine x_iconst (v := 0) rfl ki_0 ?_
            refine x_zret rfl rfl (by decide) ?_
            show jX m_X12_name 4 0 0 10 [(0, .ref 125), (1, .int a1), (2, .int a2), (3, .int a3)] [.int 0] _ 0 0 _
            refine x_ifeq (tgt := 23) rfl rfl (ti_eq jk_0 jk_0 (br_t (by omega) ?_))
            exact jX.sub jsb_n (ct_X12_name_r125d_23 hD hQ  h J Sm D)
          ·
            rw [if_neg (by omega)] at D
            refine x_iconst (v := 1) rfl ki_1 ?_
            refine x_goto (tgt := 35) rfl rfl ?_
            refine x_zret rfl rfl (by decide) ?_
            show jX m_X12_name 4 0 0 10 [(0, .ref 125), (1, .int a1), (2, .int a2), (3, .int a3)] [.int 1] _ 0 0 _
            refine x_ifeq (tgt := 23) rfl rfl (ti_eq jk_1 jk_0 (br_f (by omega) ?_))
            refine x_iloadn (x := a2) rfl rfl ?_
            refine z_i2l rfl rfl (fun v33 ev33 => ?_)
            refine x_lconst (v := 0) rfl kl_0 ?_
            refine x_lconst (v := 1) rfl kl_1 ?_
            refine x_inst (N := m_X12_in) (As := [.long v33, .long 0, .long 1]) (st := []) (dx9 := 1) (mc := 0) (ms := 0) (host := "") rfl t_X12_in ⟨Or.inl q_12_188, s_X12_in⟩ rfl (by decide) rfl rfl ⟨by decide, by decide⟩ (zc_X12_in rfl jkl_0 jkl_1 (fun v34 ev34 => ?_))
            show jX m_X12_name 4 0 0 20 [(0, .ref 125), (1, .int a1), (2, .int a2), (3, .int a3)] [.int v34] _ 0 0 _
            refine x_ifne (tgt := 25) rfl rfl (ti_ne rfl jk_0 ⟨fun c35 => ?_, fun c35 => ?_⟩)
            ·
              rw [if_pos (by omega)] at D
              refine x_aloadn (x := 125) rfl rfl ?_
              refine x_iloadn (x := a1) rfl rfl ?_
              refine x_iloadn (x := a2) rfl rfl ?_
              refine x_iconst (v := 0) rfl ki_0 ?_
              refine x_inv (N := m_X12_fold) (As := [.int a1, .int a2, .int 0]) (b := 125) (st := []) (dx9 := 3) (mc := 0) (ms := 0) (host := "") 12 rfl t_X12_fold ⟨Or.inl q_12_325, i_X12_fold.1, i_X12_fold.2⟩ ⟨by decide, rfl⟩ (congrArg Prod.fst (J.1.1 125 (12, 92) rfl)) rfl (by decide) rfl rfl ⟨by decide, by decide⟩ (sf_X12_fold_r125d (jr_of rfl (by omega)) (jr_of rfl (by omega)) (jr_of jk_0 (by omega)) hD J rfl  (fun h J S36 X37 => ?_))
              have Sm := jSm_tr rfl Sm S36
              try rw [jk_0] at X37
              rw [X37] at D
              show jX m_X12_name 4 0 0 32 [(0, .ref 125), (1, .int a1), (2, .int a2), (3, .int a3)] [] _ 0 0 _
              refine x_iloadn (x := a3) rfl rfl ?_
              refine x_iconst (v := (-1)) rfl ki_m1 ?_
              refine x_icne (tgt := 46) rfl rfl (ti_ne rfl jk_m1 ⟨fun c38 => ?_, fun c38 => ?_⟩)
              ·
                rw [if_neg (by omega)] at D
                refine x_iloadn (x := a3) rfl rfl ?_
                refine z_i2l rfl rfl (fun v39 ev39 => ?_)
                refine x_lconst (v := 0) rfl kl_0 ?_
                refine x_aloadn (x := 125) rfl rfl ?_
                refine z_getR (N := 92) (b := 138) 12 22 rfl f_12_54 rfl J rfl 16022 ⟨rfl, rfl⟩ rfl ?_
                refine x_iconst (v := 0) rfl ki_0 ?_
                refine z_iald (N := 2) rfl J rfl sg_138_0_2_1_0_1 jk_0 (by omega) (fun v40 qv40 ev40 => ?_)
                try rw [vrn (n := 0) (by decide) qv40] at D
                refine z_i2l rfl rfl (fun v41 ev41 => ?_)
                refine x_lconst (v := 1) rfl kl_1 ?_
                refine z_lsub rfl rfl jkl_1 (by omega) (fun v42 ev42 => ?_)
                refine x_inst (N := m_X12_in) (As := [.long v39, .long 0, .long v42]) (st := []) (dx9 := 1) (mc := 0) (ms := 0) (host := "") rfl t_X12_in ⟨Or.inl q_12_188, s_X12_in⟩ rfl (by decide) rfl rfl ⟨by decide, by decide⟩ (zc_X12_in rfl jkl_0 rfl (fun v43 ev43 => ?_))
                show jX m_X12_name 4 0 0 61 [(0, .ref 125), (1, .int a1), (2, .int a2), (3, .int a3)] [.int v43] _ 0 0 _
                refine x_ifeq (tgt := 73) rfl rfl (ti_eq rfl jk_0 ⟨fun c44 => ?_, fun c44 => ?_⟩)
                ·
                  rw [if_neg (by omega)] at D
                  refine x_iconst (v := (-1)) rfl ki_m1 ?_
                  exact jX.sub jsb_n (ct_X12_name_r125d_100074 hD hQ  h J Sm D)
                ·
                  rw [if_pos (by omega)] at D
                  refine x_aloadn (x := 125) rfl rfl ?_
                  refine z_getR (N := 92) (b := 137) 12 21 rfl f_12_51 rfl J rfl 16021 ⟨rfl, rfl⟩ rfl ?_
                  refine x_iloadn (x := a3) rfl rfl ?_
                  refine z_iald (N := 80) rfl J rfl sg_137_0_80_1_0_1 rfl (by omega) (fun v45 qv45 ev45 => ?_)
                  try rw [vrd qv45 (show a3.toInt = a3.toInt from by omega)] at D
                  refine x_goto (tgt := 74) rfl rfl ?_
                  exact jX.sub jsb_n (ct_X12_name_r125d_74 hD hQ  v45 h (jr_of rfl (by omega)) J Sm D)
              ·
                rw [if_pos (by omega)] at D
                refine x_aloadn (x := 125) rfl rfl ?_
                refine z_getR (N := 92) (b := 138) 12 22 rfl f_12_54 rfl J rfl 16022 ⟨rfl, rfl⟩ rfl ?_
                refine x_iconst (v := 0) rfl ki_0 ?_
                refine z_iald (N := 2) rfl J rfl sg_138_0_2_1_0_1 jk_0 (by omega) (fun v46 qv46 ev46 => ?_)
                try rw [vrn (n := 0) (by decide) qv46] at D
                refine x_goto (tgt := 74) rfl rfl ?_
                exact jX.sub jsb_n (ct_X12_name_r125d_74 hD hQ  v46 h (jr_of rfl (by omega)) J Sm D)
            ·
              rw [if_neg (by omega)] at D
              exact jX.sub jsb_n (ct_X12_name_r125d_23 hD hQ  h J Sm D)
      ·
        rw [if_pos (by omega)] at D
        refine x_iconst (v := 3) rfl ki_3 ?_
        refine x_goto (tgt := 18) rfl rfl ?_
        refine x_iret rfl rfl ?_
        show jX m_X12_isMention 3 0 0 27 [(0, .ref 125), (1, .int a1)] [.int 3, .int v10] _ 0 0 _
        refine x_icge (tgt := 34) rfl rfl (ti_ge rfl jk_3 (br_f (by omega) ?_))
        refine x_iconst (v := 1) rfl ki_1 ?_
        refine x_goto (tgt := 35) rfl rfl ?_
        refine x_zret rfl rfl (by decide) ?_
        show jX m_X12_name 4 0 0 10 [(0, .ref 125), (1, .int a1), (2, .int a2), (3, .int a3)] [.int 1] _ 0 0 _
        refine x_ifeq (tgt := 23) rfl rfl (ti_eq jk_1 jk_0 (br_f (by omega) ?_))
        refine x_iloadn (x := a2) rfl rfl ?_
        refine z_i2l rfl rfl (fun v47 ev47 => ?_)
        refine x_lconst (v := 0) rfl kl_0 ?_
        refine x_lconst (v := 1) rfl kl_1 ?_
        refine x_inst (N := m_X12_in) (As := [.long v47, .long 0, .long 1]) (st := []) (dx9 := 1) (mc := 0) (ms := 0) (host := "") rfl t_X12_in ⟨Or.inl q_12_188, s_X12_in⟩ rfl (by decide) rfl rfl ⟨by decide, by decide⟩ (zc_X12_in rfl jkl_0 jkl_1 (fun v48 ev48 => ?_))
        show jX m_X12_name 4 0 0 20 [(0, .ref 125), (1, .int a1), (2, .int a2), (3, .int a3)] [.int v48] _ 0 0 _
        refine x_ifne (tgt := 25) rfl rfl (ti_ne rfl jk_0 ⟨fun c49 => ?_, fun c49 => ?_⟩)
        ·
          rw [if_pos (by omega)] at D
          refine x_aloadn (x := 125) rfl rfl ?_
          refine x_iloadn (x := a1) rfl rfl ?_
          refine x_iloadn (x := a2) rfl rfl ?_
          refine x_iconst (v := 0) rfl ki_0 ?_
          refine x_inv (N := m_X12_fold) (As := [.int a1, .int a2, .int 0]) (b := 125) (st := []) (dx9 := 3) (mc := 0) (ms := 0) (host := "") 12 rfl t_X12_fold ⟨Or.inl q_12_325, i_X12_fold.1, i_X12_fold.2⟩ ⟨by decide, rfl⟩ (congrArg Prod.fst (J.1.1 125 (12, 92) rfl)) rfl (by decide) rfl rfl ⟨by decide, by decide⟩ (sf_X12_fold_r125d (jr_of rfl (by omega)) (jr_of rfl (by omega)) (jr_of jk_0 (by omega)) hD J rfl  (fun h J S50 X51 => ?_))
          have Sm := jSm_tr rfl Sm S50
          try rw [jk_0] at X51
          rw [X51] at D
          show jX m_X12_name 4 0 0 32 [(0, .ref 125), (1, .int a1), (2, .int a2), (3, .int a3)] [] _ 0 0 _
          refine x_iloadn (x := a3) rfl rfl ?_
          refine x_iconst (v := (-1)) rfl ki_m1 ?_
          refine x_icne (tgt := 46) rfl rfl (ti_ne rfl jk_m1 ⟨fun c52 => ?_, fun c52 => ?_⟩)
          ·
            rw [if_neg (by omega)] at D
            refine x_iloadn (x := a3) rfl rfl ?_
            refine z_i2l rfl rfl (fun v53 ev53 => ?_)
            refine x_lconst (v := 0) rfl kl_0 ?_
            refine x_aloadn (x := 125) rfl rfl ?_
            refine z_getR (N := 92) (b := 138) 12 22 rfl f_12_54 rfl J rfl 16022 ⟨rfl, rfl⟩ rfl ?_
            refine x_iconst (v := 0) rfl ki_0 ?_
            refine z_iald (N := 2) rfl J rfl sg_138_0_2_1_0_1 jk_0 (by omega) (fun v54 qv54 ev54 => ?_)
            try rw [vrn (n := 0) (by decide) qv54] at D
            refine z_i2l rfl rfl (fun v55 ev55 => ?_)
            refine x_lconst (v := 1) rfl kl_1 ?_
            refine z_lsub rfl rfl jkl_1 (by omega) (fun v56 ev56 => ?_)
            refine x_inst (N := m_X12_in) (As := [.long v53, .long 0, .long v56]) (st := []) (dx9 := 1) (mc := 0) (ms := 0) (host := "") rfl t_X12_in ⟨Or.inl q_12_188, s_X12_in⟩ rfl (by decide) rfl rfl ⟨by decide, by decide⟩ (zc_X12_in rfl jkl_0 rfl (fun v57 ev57 => ?_))
            show jX m_X12_name 4 0 0 61 [(0, .ref 125), (1, .int a1), (2, .int a2), (3, .int a3)] [.int v57] _ 0 0 _
            refine x_ifeq (tgt := 73) rfl rfl (ti_eq rfl jk_0 ⟨fun c58 => ?_, fun c58 => ?_⟩)
            ·
              rw [if_neg (by omega)] at D
              refine x_iconst (v := (-1)) rfl ki_m1 ?_
              exact jX.sub jsb_n (ct_X12_name_r125d_100074 hD hQ  h J Sm D)
            ·
              rw [if_pos (by omega)] at D
              refine x_aloadn (x := 125) rfl rfl ?_
              refine z_getR (N := 92) (b := 137) 12 21 rfl f_12_51 rfl J rfl 16021 ⟨rfl, rfl⟩ rfl ?_
              refine x_iloadn (x := a3) rfl rfl ?_
              refine z_iald (N := 80) rfl J rfl sg_137_0_80_1_0_1 rfl (by omega) (fun v59 qv59 ev59 => ?_)
              try rw [vrd qv59 (show a3.toInt = a3.toInt from by omega)] at D
              refine x_goto (tgt := 74) rfl rfl ?_
              exact jX.sub jsb_n (ct_X12_name_r125d_74 hD hQ  v59 h (jr_of rfl (by omega)) J Sm D)
          ·
            rw [if_pos (by omega)] at D
            refine x_aloadn (x := 125) rfl rfl ?_
            refine z_getR (N := 92) (b := 138) 12 22 rfl f_12_54 rfl J rfl 16022 ⟨rfl, rfl⟩ rfl ?_
            refine x_iconst (v := 0) rfl ki_0 ?_
            refine z_iald (N := 2) rfl J rfl sg_138_0_2_1_0_1 jk_0 (by omega) (fun v60 qv60 ev60 => ?_)
            try rw [vrn (n := 0) (by decide) qv60] at D
            refine x_goto (tgt := 74) rfl rfl ?_
            exact jX.sub jsb_n (ct_X12_name_r125d_74 hD hQ  v60 h (jr_of rfl (by omega)) J Sm D)
        ·
          rw [if_neg (by omega)] at D
          exact jX.sub jsb_n (ct_X12_name_r125d_23 hD hQ  h J Sm D)
def fp_X12_of_r125d : jFp := [(125, 0, 1)]
set_option maxRecDepth 100000 in
set_option maxHeartbeats 4000000 in
theorem ct_X12_of_r125d_25 {Dy : jH → Prop} {h0 : jH} {Q : Option Value → jH → Prop} {dr : (Int × jW)} (hD : jDk Dy) (hQ : ∀ (v : Int32) hx9, jJ jSgM Dy hx9 → jSm fp_X12_of_r125d h0 hx9 → dr.1 = v.toInt → dr.2 = vw hx9 → Q (some (.int v)) hx9) : ∀ (h : jH), jJ jSgM Dy h → jSm fp_X12_of_r125d h0 h → d_X12_of_r125d_25  (vw h) = dr → jX m_X12_of 3 0 0 25 [] [] h 0 0 Q := by
  intro  h    J Sm D
  unfold d_X12_of_r125d_25 at D
  refine x_bipush (v := (-2)) rfl kb_m2 ?_
  refine x_iret rfl rfl ?_
  exact hQ _ _ J Sm ((congrArg Prod.fst D).symm.trans (show (-2) = ((-2) : Int32).toInt from by have := jk_m2; omega)) (congrArg Prod.snd D).symm
set_option maxRecDepth 100000 in
set_option maxHeartbeats 4000000 in
theorem ct_X12_of_r125d_300087 {Dy : jH → Prop} {h0 : jH} {Q : Option Value → jH → Prop} {dr : (Int × jW)} (hD : jDk Dy) (hQ : ∀ (v : Int32) hx9, jJ jSgM Dy hx9 → jSm fp_X12_of_r125d h0 hx9 → dr.1 = v.toInt → dr.2 = vw hx9 → Q (some (.int v)) hx9) : ∀ (h : jH), jJ jSgM Dy h → jSm fp_X12_of_r125d h0 h → d_X12_of_r125d_300087  (vw h) = dr → jX m_X12_of 3 0 0 87 [] [.int 1] h 0 0 Q := by
  intro  h    J Sm D
  unfold d_X12_of_r125d_300087 at D
  refine x_iret rfl rfl ?_
  exact hQ _ _ J Sm ((congrArg Prod.fst D).symm.trans (show 1 = (1 : Int32).toInt from by have := jk_1; omega)) (congrArg Prod.snd D).symm
set_option maxRecDepth 100000 in
set_option maxHeartbeats 4000000 in
theorem ct_X12_of_r125d_400087 {Dy : jH → Prop} {h0 : jH} {Q : Option Value → jH → Prop} {dr : (Int × jW)} (hD : jDk Dy) (hQ : ∀ (v : Int32) hx9, jJ jSgM Dy hx9 → jSm fp_X12_of_r125d h0 hx9 → dr.1 = v.toInt → dr.2 = vw hx9 → Q (some (.int v)) hx9) : ∀ (h : jH), jJ jSgM Dy h → jSm fp_X12_of_r125d h0 h → d_X12_of_r125d_400087  (vw h) = dr → jX m_X12_of 3 0 0 87 [] [.int 2] h 0 0 Q := by
  intro  h    J Sm D
  unfold d_X12_of_r125d_400087 at D
  refine x_iret rfl rfl ?_
  exact hQ _ _ J Sm ((congrArg Prod.fst D).symm.trans (show 2 = (2 : Int32).toInt from by have := jk_2; omega)) (congrArg Prod.snd D).symm
set_option maxRecDepth 100000 in
set_option maxHeartbeats 4000000 in
theorem ct_X12_of_r125d_500087 {Dy : jH → Prop} {h0 : jH} {Q : Option Value → jH → Prop} {dr : (Int × jW)} (hD : jDk Dy) (hQ : ∀ (v : Int32) hx9, jJ jSgM Dy hx9 → jSm fp_X12_of_r125d h0 hx9 → dr.1 = v.toInt → dr.2 = vw hx9 → Q (some (.int v)) hx9) : ∀ (h : jH), jJ jSgM Dy h → jSm fp_X12_of_r125d h0 h → d_X12_of_r125d_500087  (vw h) = dr → jX m_X12_of 3 0 0 87 [] [.int 3] h 0 0 Q := by
  intro  h    J Sm D
  unfold d_X12_of_r125d_500087 at D
  refine x_iret rfl rfl ?_
  exact hQ _ _ J Sm ((congrArg Prod.fst D).symm.trans (show 3 = (3 : Int32).toInt from by have := jk_3; omega)) (congrArg Prod.snd D).symm
set_option maxRecDepth 100000 in
set_option maxHeartbeats 4000000 in
theorem ct_X12_of_r125d_87 {Dy : jH → Prop} {h0 : jH} {Q : Option Value → jH → Prop} {dr : (Int × jW)} (hD : jDk Dy) (hQ : ∀ (v : Int32) hx9, jJ jSgM Dy hx9 → jSm fp_X12_of_r125d h0 hx9 → dr.1 = v.toInt → dr.2 = vw hx9 → Q (some (.int v)) hx9) : ∀ (s0 : Int32) (h : jH), jJ jSgM Dy h → jSm fp_X12_of_r125d h0 h → d_X12_of_r125d_87  s0.toInt (vw h) = dr → jX m_X12_of 3 0 0 87 [] [.int s0] h 0 0 Q := by
  intro s0 h    J Sm D
  have es0 := jfull s0
  unfold d_X12_of_r125d_87 at D
  refine x_iret rfl rfl ?_
  exact hQ _ _ J Sm ((congrArg Prod.fst D).symm.trans (show s0.toInt = s0.toInt from by omega)) (congrArg Prod.snd D).symm
set_option maxRecDepth 100000 in
set_option maxHeartbeats 4000000 in
theorem sf_X12_of_r125d {Dy : jH → Prop} {h : jH} {Q : Option Value → jH → Prop} {dr : (Int × jW)} {a1 : Int32} {a2 : Int32} (hD : jDk Dy) (J : jJ jSgM Dy h) (D : d_X12_of_r125d a1.toInt a2.toInt (vw h) = dr) (hQ : ∀ (v : Int32) hx9, jJ jSgM Dy hx9 → jSm fp_X12_of_r125d h hx9 → dr.1 = v.toInt → dr.2 = vw hx9 → Q (some (.int v)) hx9) : jC m_X12_of 3 0 0 [.ref 125, .int a1, .int a2] h Q := by
  refine jC.of rfl k_X12_of rfl ?_
  have Sm := jSm_rf fp_X12_of_r125d h
  have ea1 := jfull a1
  have ea2 := jfull a2
  show jX m_X12_of 3 0 0 0 [(0, .ref 125), (1, .int a1), (2, .int a2)] [] _ 0 0 _
  unfold d_X12_of_r125d at D
  refine x_aloadn (x := 125) rfl rfl ?_
  refine x_iconst (v := 0) rfl ki_0 ?_
  refine z_putI (N := 92) (w := 0) 12 0 rfl f_12_180 rfl (jfin_no TX12 RX12 92 rfl rfl) hD J Sm rfl rfl jk_0 (pw_125_0 (by omega)) rfl (fun h w1 J Sm => ?_)
  rw [vwf w1 (show 0 = (0 : Int32).toInt from by have := jk_0; omega)] at D
  refine x_aloadn (x := 125) rfl rfl ?_
  refine x_iloadn (x := a1) rfl rfl ?_
  refine x_inv (N := m_X12_isLine) (As := [.int a1]) (b := 125) (st := []) (dx9 := 2) (mc := 0) (ms := 0) (host := "") 12 rfl t_X12_isLine ⟨Or.inl q_12_293, i_X12_isLine.1, i_X12_isLine.2⟩ ⟨by decide, rfl⟩ (congrArg Prod.fst (J.1.1 125 (12, 92) rfl)) rfl (by decide) rfl rfl ⟨by decide, by decide⟩ (jC.of rfl k_X12_isLine rfl ?_)
  show jX m_X12_isLine 2 0 0 0 [(0, .ref 125), (1, .int a1)] [] _ 0 0 _
  refine x_iloadn (x := a1) rfl rfl ?_
  refine z_i2l rfl rfl (fun v2 ev2 => ?_)
  refine x_lconst (v := 0) rfl kl_0 ?_
  refine x_aloadn (x := 125) rfl rfl ?_
  refine z_getR (N := 92) (b := 126) 12 2 rfl f_12_8 rfl J rfl 16002 ⟨rfl, rfl⟩ rfl ?_
  refine x_iconst (v := 0) rfl ki_0 ?_
  refine z_iald (N := 50660) rfl J rfl sg_126_0_1_1_0_1 jk_0 (by omega) (fun v3 qv3 ev3 => ?_)
  try rw [vrn (n := 0) (by decide) (jmb_w w1 qv3 rfl)] at D
  refine z_i2l rfl rfl (fun v4 ev4 => ?_)
  refine x_lconst (v := 1) rfl kl_1 ?_
  refine z_lsub rfl rfl jkl_1 (by omega) (fun v5 ev5 => ?_)
  refine x_inst (N := m_X12_in) (As := [.long v2, .long 0, .long v5]) (st := []) (dx9 := 1) (mc := 0) (ms := 0) (host := "") rfl t_X12_in ⟨Or.inl q_12_188, s_X12_in⟩ rfl (by decide) rfl rfl ⟨by decide, by decide⟩ (zc_X12_in rfl jkl_0 rfl (fun v6 ev6 => ?_))
  show jX m_X12_isLine 2 0 0 15 [(0, .ref 125), (1, .int a1)] [.int v6] _ 0 0 _
  refine x_zret rfl rfl (jz01 (by omega)) ?_
  show jX m_X12_of 3 0 0 10 [(0, .ref 125), (1, .int a1), (2, .int a2)] [.int v6] _ 0 0 _
  refine x_ifeq (tgt := 25) rfl rfl (ti_eq rfl jk_0 ⟨fun c7 => ?_, fun c7 => ?_⟩)
  ·
    rw [if_neg (by omega)] at D
    exact jX.sub jsb_n (ct_X12_of_r125d_25 hD hQ  h J Sm D)
  ·
    rw [if_pos (by omega)] at D
    refine x_iloadn (x := a2) rfl rfl ?_
    refine z_i2l rfl rfl (fun v8 ev8 => ?_)
    refine x_lconst (v := 0) rfl kl_0 ?_
    refine x_ldc2 (v := 5) rfl z_12_269 ?_
    refine x_inst (N := m_X12_in) (As := [.long v8, .long 0, .long 5]) (st := []) (dx9 := 1) (mc := 0) (ms := 0) (host := "") rfl t_X12_in ⟨Or.inl q_12_188, s_X12_in⟩ rfl (by decide) rfl rfl ⟨by decide, by decide⟩ (zc_X12_in rfl jkl_0 jkl_5 (fun v9 ev9 => ?_))
    show jX m_X12_of 3 0 0 22 [(0, .ref 125), (1, .int a1), (2, .int a2)] [.int v9] _ 0 0 _
    refine x_ifne (tgt := 28) rfl rfl (ti_ne rfl jk_0 ⟨fun c10 => ?_, fun c10 => ?_⟩)
    ·
      rw [if_pos (by omega)] at D
      refine x_aloadn (x := 125) rfl rfl ?_
      refine x_iloadn (x := a1) rfl rfl ?_
      refine x_inv (N := m_X12_at) (As := [.int a1]) (b := 125) (st := []) (dx9 := 2) (mc := 0) (ms := 0) (host := "") 12 rfl t_X12_at ⟨Or.inl q_12_254, i_X12_at.1, i_X12_at.2⟩ ⟨by decide, rfl⟩ (congrArg Prod.fst (J.1.1 125 (12, 92) rfl)) rfl (by decide) rfl rfl ⟨by decide, by decide⟩ (jC.of rfl k_X12_at rfl ?_)
      show jX m_X12_at 2 0 0 0 [(0, .ref 125), (1, .int a1)] [] _ 0 0 _
      refine x_bipush (v := 20) rfl kb_20 ?_
      refine x_bipush (v := 90) rfl kb_90 ?_
      refine x_iloadn (x := a1) rfl rfl ?_
      refine z_imul rfl jk_90 rfl (by omega) (fun v11 ev11 => ?_)
      refine z_iadd rfl jk_20 rfl (by omega) (fun v12 ev12 => ?_)
      refine x_iret rfl rfl ?_
      show jX m_X12_of 3 0 0 33 [(0, .ref 125), (1, .int a1), (2, .int a2)] [.int v12] _ 0 0 _
      refine x_istoren (lsx9 := [(3, .int v12), (0, .ref 125), (1, .int a1), (2, .int a2)]) rfl rfl rfl ?_
      refine x_iloadn (x := a2) rfl rfl ?_
      refine x_iconst (v := 3) rfl ki_3 ?_
      refine x_icge (tgt := 50) rfl rfl (ti_ge rfl jk_3 ⟨fun c13 => ?_, fun c13 => ?_⟩)
      ·
        rw [if_pos (by omega)] at D
        refine x_iloadn (x := a2) rfl rfl ?_
        refine x_iconst (v := 3) rfl ki_3 ?_
        refine x_icne (tgt := 63) rfl rfl (ti_ne rfl jk_3 ⟨fun c14 => ?_, fun c14 => ?_⟩)
        ·
          rw [if_neg (by omega)] at D
          refine x_iloadn (x := a2) rfl rfl ?_
          refine x_iconst (v := 4) rfl ki_4 ?_
          refine x_icne (tgt := 79) rfl rfl (ti_ne rfl jk_4 ⟨fun c15 => ?_, fun c15 => ?_⟩)
          ·
            rw [if_neg (by omega)] at D
            refine x_aloadn (x := 125) rfl rfl ?_
            refine x_iloadn (x := a1) rfl rfl ?_
            refine x_inv (N := m_X12_bookOf) (As := [.int a1]) (b := 125) (st := []) (dx9 := 2) (mc := 0) (ms := 0) (host := "") 12 rfl t_X12_bookOf ⟨Or.inl q_12_299, i_X12_bookOf.1, i_X12_bookOf.2⟩ ⟨by decide, rfl⟩ (congrArg Prod.fst (J.1.1 125 (12, 92) rfl)) rfl (by decide) rfl rfl ⟨by decide, by decide⟩ (jC.of rfl k_X12_bookOf rfl ?_)
            show jX m_X12_bookOf 2 0 0 0 [(0, .ref 125), (1, .int a1)] [] _ 0 0 _
            refine x_aloadn (x := 125) rfl rfl ?_
            refine z_getR (N := 92) (b := 126) 12 2 rfl f_12_8 rfl J rfl 16002 ⟨rfl, rfl⟩ rfl ?_
            refine x_aloadn (x := 125) rfl rfl ?_
            refine x_iloadn (x := a1) rfl rfl ?_
            refine x_inv (N := m_X12_at) (As := [.int a1]) (b := 125) (st := [.ref 126]) (dx9 := 1) (mc := 0) (ms := 0) (host := "") 12 rfl t_X12_at ⟨Or.inl q_12_254, i_X12_at.1, i_X12_at.2⟩ ⟨by decide, rfl⟩ (congrArg Prod.fst (J.1.1 125 (12, 92) rfl)) rfl (by decide) rfl rfl ⟨by decide, by decide⟩ (jC.of rfl k_X12_at rfl ?_)
            show jX m_X12_at 1 0 0 0 [(0, .ref 125), (1, .int a1)] [] _ 0 0 _
            refine x_bipush (v := 20) rfl kb_20 ?_
            refine x_bipush (v := 90) rfl kb_90 ?_
            refine x_iloadn (x := a1) rfl rfl ?_
            refine z_imul rfl jk_90 rfl (by omega) (fun v16 ev16 => ?_)
            refine z_iadd rfl jk_20 rfl (by omega) (fun v17 ev17 => ?_)
            refine x_iret rfl rfl ?_
            show jX m_X12_bookOf 2 0 0 9 [(0, .ref 125), (1, .int a1)] [.int v17, .ref 126] _ 0 0 _
            refine z_iald (N := 50660) rfl J rfl sg_126_20_18020_90_0_1 rfl (by omega) (fun v18 qv18 ev18 => ?_)
            try rw [vrd (jmb_w w1 qv18 rfl) (show (20 + (90 * a1.toInt)) = v17.toInt from by omega)] at D
            refine x_iret rfl rfl ?_
            show jX m_X12_of 3 0 0 84 [(3, .int v12), (0, .ref 125), (1, .int a1), (2, .int a2)] [.int v18] _ 0 0 _
            refine x_inst (N := m_X12_rolesOf) (As := [.int v18]) (st := []) (dx9 := 2) (mc := 0) (ms := 0) (host := "") rfl t_X12_rolesOf ⟨Or.inl q_12_286, s_X12_rolesOf⟩ rfl (by decide) rfl rfl ⟨by decide, by decide⟩ (jC.of rfl k_X12_rolesOf rfl ?_)
            show jX m_X12_rolesOf 2 0 0 0 [(0, .int v18)] [] _ 0 0 _
            refine x_iloadn (x := v18) rfl rfl ?_
            refine x_ifne (tgt := 8) rfl rfl (ti_ne rfl jk_0 ⟨fun c19 => ?_, fun c19 => ?_⟩)
            ·
              rw [if_neg (by omega)] at D
              refine x_iloadn (x := v18) rfl rfl ?_
              refine x_iconst (v := 1) rfl ki_1 ?_
              refine x_icne (tgt := 17) rfl rfl (ti_ne rfl jk_1 ⟨fun c20 => ?_, fun c20 => ?_⟩)
              ·
                rw [if_neg (by omega)] at D
                refine x_iconst (v := 1) rfl ki_1 ?_
                refine x_iret rfl rfl ?_
                show jX m_X12_of 3 0 0 87 [(3, .int v12), (0, .ref 125), (1, .int a1), (2, .int a2)] [.int 1] _ 0 0 _
                exact jX.sub jsb_n (ct_X12_of_r125d_300087 hD hQ  h J Sm D)
              ·
                rw [if_pos (by omega)] at D
                refine x_iconst (v := 2) rfl ki_2 ?_
                refine x_goto (tgt := 18) rfl rfl ?_
                refine x_iret rfl rfl ?_
                show jX m_X12_of 3 0 0 87 [(3, .int v12), (0, .ref 125), (1, .int a1), (2, .int a2)] [.int 2] _ 0 0 _
                exact jX.sub jsb_n (ct_X12_of_r125d_400087 hD hQ  h J Sm D)
            ·
              rw [if_pos (by omega)] at D
              refine x_iconst (v := 3) rfl ki_3 ?_
              refine x_goto (tgt := 18) rfl rfl ?_
              refine x_iret rfl rfl ?_
              show jX m_X12_of 3 0 0 87 [(3, .int v12), (0, .ref 125), (1, .int a1), (2, .int a2)] [.int 3] _ 0 0 _
              exact jX.sub jsb_n (ct_X12_of_r125d_500087 hD hQ  h J Sm D)
          ·
            rw [if_pos (by omega)] at D
            refine x_aloadn (x := 125) rfl rfl ?_
            refine z_getR (N := 92) (b := 126) 12 2 rfl f_12_8 rfl J rfl 16002 ⟨rfl, rfl⟩ rfl ?_
            refine x_iloadn (x := v12) rfl rfl ?_
            refine x_iconst (v := 5) rfl ki_5 ?_
            refine z_iadd rfl rfl jk_5 (by omega) (fun v21 ev21 => ?_)
            refine z_iald (N := 50660) rfl J rfl sg_126_20_18020_90_5_6 rfl (by omega) (fun v22 qv22 ev22 => ?_)
            try rw [vrd (jmb_w w1 qv22 rfl) (show ((20 + (90 * a1.toInt)) + 5) = v21.toInt from by omega)] at D
            refine x_goto (tgt := 87) rfl rfl ?_
            exact jX.sub jsb_n (ct_X12_of_r125d_87 hD hQ  v22 h J Sm D)
        ·
          rw [if_pos (by omega)] at D
          refine x_aloadn (x := 125) rfl rfl ?_
          refine x_iloadn (x := a1) rfl rfl ?_
          refine x_inv (N := m_X12_numberOf) (As := [.int a1]) (b := 125) (st := []) (dx9 := 2) (mc := 0) (ms := 0) (host := "") 12 rfl t_X12_numberOf ⟨Or.inl q_12_296, i_X12_numberOf.1, i_X12_numberOf.2⟩ ⟨by decide, rfl⟩ (congrArg Prod.fst (J.1.1 125 (12, 92) rfl)) rfl (by decide) rfl rfl ⟨by decide, by decide⟩ (jC.of rfl k_X12_numberOf rfl ?_)
          show jX m_X12_numberOf 2 0 0 0 [(0, .ref 125), (1, .int a1)] [] _ 0 0 _
          refine x_aloadn (x := 125) rfl rfl ?_
          refine z_getR (N := 92) (b := 126) 12 2 rfl f_12_8 rfl J rfl 16002 ⟨rfl, rfl⟩ rfl ?_
          refine x_aloadn (x := 125) rfl rfl ?_
          refine x_iloadn (x := a1) rfl rfl ?_
          refine x_inv (N := m_X12_at) (As := [.int a1]) (b := 125) (st := [.ref 126]) (dx9 := 1) (mc := 0) (ms := 0) (host := "") 12 rfl t_X12_at ⟨Or.inl q_12_254, i_X12_at.1, i_X12_at.2⟩ ⟨by decide, rfl⟩ (congrArg Prod.fst (J.1.1 125 (12, 92) rfl)) rfl (by decide) rfl rfl ⟨by decide, by decide⟩ (jC.of rfl k_X12_at rfl ?_)
          show jX m_X12_at 1 0 0 0 [(0, .ref 125), (1, .int a1)] [] _ 0 0 _
          refine x_bipush (v := 20) rfl kb_20 ?_
          refine x_bipush (v := 90) rfl kb_90 ?_
          refine x_iloadn (x := a1) rfl rfl ?_
          refine z_imul rfl jk_90 rfl (by omega) (fun v23 ev23 => ?_)
          refine z_iadd rfl jk_20 rfl (by omega) (fun v24 ev24 => ?_)
          refine x_iret rfl rfl ?_
          show jX m_X12_numberOf 2 0 0 9 [(0, .ref 125), (1, .int a1)] [.int v24, .ref 126] _ 0 0 _
          refine x_iconst (v := 4) rfl ki_4 ?_
          refine z_iadd rfl rfl jk_4 (by omega) (fun v25 ev25 => ?_)
          refine z_iald0 (N := 50660) rfl J rfl rfl (by omega) (fun v26 qv26 => ?_)
          have ev26 := jfull v26
          try rw [vrd (jmb_w w1 qv26 rfl) (show ((20 + (90 * a1.toInt)) + 4) = v25.toInt from by omega)] at D
          refine x_iret rfl rfl ?_
          show jX m_X12_of 3 0 0 60 [(3, .int v12), (0, .ref 125), (1, .int a1), (2, .int a2)] [.int v26] _ 0 0 _
          refine x_goto (tgt := 87) rfl rfl ?_
          exact jX.sub jsb_n (ct_X12_of_r125d_87 hD hQ  v26 h J Sm D)
      ·
        rw [if_neg (by omega)] at D
        refine x_aloadn (x := 125) rfl rfl ?_
        refine z_getR (N := 92) (b := 126) 12 2 rfl f_12_8 rfl J rfl 16002 ⟨rfl, rfl⟩ rfl ?_
        refine x_iloadn (x := v12) rfl rfl ?_
        refine x_iloadn (x := a2) rfl rfl ?_
        refine z_iadd rfl rfl rfl (by omega) (fun v27 ev27 => ?_)
        refine z_ialdU (N := 50660) (lo := 0) (hi := 146399) rfl J rfl rfl (by omega) ((show (v27.toInt - 20) % 90 = 0 ∨ (v27.toInt - 20) % 90 = 1 ∨ (v27.toInt - 20) % 90 = 2 from by omega).elim (fun q => (jrg_w (jrg_c J sg_126_20_18020_90_0_1 rfl (by omega)) (by decide))) (fun q => q.elim (fun q => (jrg_w (jrg_c J sg_126_20_18020_90_1_2 rfl (by omega)) (by decide))) (fun q => (jrg_w (jrg_c J sg_126_20_18020_90_2_3 rfl (by omega)) (by decide))))) (fun v28 qv28 ev28 => ?_)
        try rw [vrd (jmb_w w1 qv28 rfl) (show ((20 + (90 * a1.toInt)) + a2.toInt) = v27.toInt from by omega)] at D
        refine x_goto (tgt := 87) rfl rfl ?_
        exact jX.sub jsb_n (ct_X12_of_r125d_87 hD hQ  v28 h J Sm D)
    ·
      rw [if_neg (by omega)] at D
      exact jX.sub jsb_n (ct_X12_of_r125d_25 hD hQ  h J Sm D)
