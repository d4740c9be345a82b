def fp_X12_line_r125 : jFp := [(125, 0, 1), (125, 1, 2), (125, 8, 9), (125, 9, 10), (125, 10, 11), (125, 11, 12), (125, 12, 13), (125, 13, 14), (125, 14, 15), (126, 0, 1), (126, 16, 17), (126, 20, 18020), (126, 49920, 50660)]
set_option maxRecDepth 100000 in
set_option maxHeartbeats 4000000 in
theorem ct_X12_line_r125_100094 {Dy : jH → Prop} {h0 : jH} {Q : Option Value → jH → Prop} (hD : jDk Dy) (hQ : ∀ (v : Int32) hx9, jJ jSgM Dy hx9 → jSm fp_X12_line_r125 h0 hx9 → ∀ u0 u1 u2 u3 u4 : Int32, jiv hx9 126 (16 : Int32).toNatClampNeg = u0 → jiv hx9 126 (0 : Int32).toNatClampNeg = u1 → jiv hx9 126 (4 : Int32).toNatClampNeg = u2 → jiv hx9 126 (5 : Int32).toNatClampNeg = u3 → jiv hx9 126 (7 : Int32).toNatClampNeg = u4 → u0.toInt = u1.toInt + u2.toInt + u3.toInt + u4.toInt → Q (some (.int v)) hx9) : ∀ (g0 : Int32) (g1 : Int32) (g2 : Int32) (g3 : Int32) (g4 : Int32) (g5 : Int32) (g6 : Int32) (g7 : Int32) (g8 : Int32) (h : jH), 0 ≤ g0.toInt ∧ g0.toInt ≤ 200 → 0 ≤ g1.toInt ∧ g1.toInt ≤ 370 → 0 ≤ g2.toInt ∧ g2.toInt ≤ 30 → 0 ≤ g3.toInt ∧ g3.toInt ≤ 100 → 0 ≤ g4.toInt ∧ g4.toInt ≤ 40 → 0 ≤ g5.toInt ∧ g5.toInt ≤ 400 → 0 ≤ g6.toInt ∧ g6.toInt ≤ 3 → 0 ≤ g7.toInt ∧ g7.toInt ≤ 0 → 0 ≤ g8.toInt ∧ g8.toInt ≤ 400 → g1.toInt = g0.toInt + g2.toInt + g3.toInt + g4.toInt → jiv h 126 (0 : Int32).toNatClampNeg = g0 → jiv h 126 (16 : Int32).toNatClampNeg = g1 → jiv h 126 (4 : Int32).toNatClampNeg = g2 → jiv h 126 (5 : Int32).toNatClampNeg = g3 → jiv h 126 (7 : Int32).toNatClampNeg = g4 → jiv h 125 10 = g5 → jiv h 125 11 = g6 → jiv h 125 8 = g7 → jiv h 125 9 = g8 → jJ jSgM Dy h → jSm fp_X12_line_r125 h0 h → jX m_X12_line 6 0 0 94 [] [.int (-1), .ref 125] h 0 0 Q := by
  intro g0 g1 g2 g3 g4 g5 g6 g7 g8 h y0 y1 y2 y3 y4 y5 y6 y7 y8 y9 z0 z1 z2 z3 z4 z5 z6 z7 z8  J Sm
  refine x_inv (N := m_X12_told) (As := [.int (-1)]) (b := 125) (st := []) (dx9 := 1) (mc := 0) (ms := 0) (host := "") 12 rfl t_X12_told ⟨Or.inl q_12_197, i_X12_told.1, i_X12_told.2⟩ ⟨by decide, rfl⟩ (congrArg Prod.fst (J.1.1 125 (12, 92) rfl)) rfl (by decide) rfl rfl ⟨by decide, by decide⟩ (sf_X12_told_r125  hD J  (fun v2 h J S1 => ?_))
  have ev2 := jfull v2
  have Sm := jSm_tr rfl Sm S1
  show jX m_X12_line 6 0 0 97 [] [.int v2] _ 0 0 _
  refine x_iret rfl rfl ?_
  exact hQ _ _ J Sm _ _ _ _ _ (jmc S1 rfl z1) (jmc S1 rfl z0) (jmc S1 rfl z2) (jmc S1 rfl z3) (jmc S1 rfl z4) (by omega)
set_option maxRecDepth 100000 in
set_option maxHeartbeats 4000000 in
theorem ct_X12_line_r125_94 {Dy : jH → Prop} {h0 : jH} {Q : Option Value → jH → Prop} (hD : jDk Dy) (hQ : ∀ (v : Int32) hx9, jJ jSgM Dy hx9 → jSm fp_X12_line_r125 h0 hx9 → ∀ u0 u1 u2 u3 u4 : Int32, jiv hx9 126 (16 : Int32).toNatClampNeg = u0 → jiv hx9 126 (0 : Int32).toNatClampNeg = u1 → jiv hx9 126 (4 : Int32).toNatClampNeg = u2 → jiv hx9 126 (5 : Int32).toNatClampNeg = u3 → jiv hx9 126 (7 : Int32).toNatClampNeg = u4 → u0.toInt = u1.toInt + u2.toInt + u3.toInt + u4.toInt → Q (some (.int v)) hx9) : ∀ (g0 : Int32) (g1 : Int32) (g2 : Int32) (g3 : Int32) (g4 : Int32) (g5 : Int32) (g6 : Int32) (g7 : Int32) (g8 : Int32) (h : jH), 0 ≤ g0.toInt ∧ g0.toInt ≤ 200 → 0 ≤ g1.toInt ∧ g1.toInt ≤ 370 → 0 ≤ g2.toInt ∧ g2.toInt ≤ 30 → 0 ≤ g3.toInt ∧ g3.toInt ≤ 100 → 0 ≤ g4.toInt ∧ g4.toInt ≤ 40 → 0 ≤ g5.toInt ∧ g5.toInt ≤ 400 → 0 ≤ g6.toInt ∧ g6.toInt ≤ 3 → 0 ≤ g7.toInt ∧ g7.toInt ≤ 0 → 0 ≤ g8.toInt ∧ g8.toInt ≤ 400 → g1.toInt = g0.toInt + g2.toInt + g3.toInt + g4.toInt → jiv h 126 (0 : Int32).toNatClampNeg = g0 → jiv h 126 (16 : Int32).toNatClampNeg = g1 → jiv h 126 (4 : Int32).toNatClampNeg = g2 → jiv h 126 (5 : Int32).toNatClampNeg = g3 → jiv h 126 (7 : Int32).toNatClampNeg = g4 → jiv h 125 10 = g5 → jiv h 125 11 = g6 → jiv h 125 8 = g7 → jiv h 125 9 = g8 → jJ jSgM Dy h → jSm fp_X12_line_r125 h0 h → jX m_X12_line 6 0 0 94 [] [.int (-5), .ref 125] h 0 0 Q := by
  intro g0 g1 g2 g3 g4 g5 g6 g7 g8 h y0 y1 y2 y3 y4 y5 y6 y7 y8 y9 z0 z1 z2 z3 z4 z5 z6 z7 z8  J Sm
  refine x_inv (N := m_X12_told) (As := [.int (-5)]) (b := 125) (st := []) (dx9 := 1) (mc := 0) (ms := 0) (host := "") 12 rfl t_X12_told ⟨Or.inl q_12_197, i_X12_told.1, i_X12_told.2⟩ ⟨by decide, rfl⟩ (congrArg Prod.fst (J.1.1 125 (12, 92) rfl)) rfl (by decide) rfl rfl ⟨by decide, by decide⟩ (sf_X12_told_r125  hD J  (fun v2 h J S1 => ?_))
  have ev2 := jfull v2
  have Sm := jSm_tr rfl Sm S1
  show jX m_X12_line 6 0 0 97 [] [.int v2] _ 0 0 _
  refine x_iret rfl rfl ?_
  exact hQ _ _ J Sm _ _ _ _ _ (jmc S1 rfl z1) (jmc S1 rfl z0) (jmc S1 rfl z2) (jmc S1 rfl z3) (jmc S1 rfl z4) (by omega)
set_option maxRecDepth 100000 in
set_option maxHeartbeats 4000000 in
theorem ct_X12_line_r125_77 {Dy : jH → Prop} {h0 : jH} {Q : Option Value → jH → Prop} (hD : jDk Dy) (hQ : ∀ (v : Int32) hx9, jJ jSgM Dy hx9 → jSm fp_X12_line_r125 h0 hx9 → ∀ u0 u1 u2 u3 u4 : Int32, jiv hx9 126 (16 : Int32).toNatClampNeg = u0 → jiv hx9 126 (0 : Int32).toNatClampNeg = u1 → jiv hx9 126 (4 : Int32).toNatClampNeg = u2 → jiv hx9 126 (5 : Int32).toNatClampNeg = u3 → jiv hx9 126 (7 : Int32).toNatClampNeg = u4 → u0.toInt = u1.toInt + u2.toInt + u3.toInt + u4.toInt → Q (some (.int v)) hx9) : ∀ (l6 : Int32) (g0 : Int32) (g1 : Int32) (g2 : Int32) (g3 : Int32) (g4 : Int32) (g5 : Int32) (g6 : Int32) (g7 : Int32) (g8 : Int32) (h : jH), 0 ≤ l6.toInt ∧ l6.toInt ≤ 1 → 0 ≤ g0.toInt ∧ g0.toInt ≤ 200 → 0 ≤ g1.toInt ∧ g1.toInt ≤ 370 → 0 ≤ g2.toInt ∧ g2.toInt ≤ 30 → 0 ≤ g3.toInt ∧ g3.toInt ≤ 100 → 0 ≤ g4.toInt ∧ g4.toInt ≤ 40 → 0 ≤ g5.toInt ∧ g5.toInt ≤ 400 → 0 ≤ g6.toInt ∧ g6.toInt ≤ 3 → 0 ≤ g7.toInt ∧ g7.toInt ≤ 400 → 0 ≤ g8.toInt ∧ g8.toInt ≤ 400 → g1.toInt = g0.toInt + g2.toInt + g3.toInt + g4.toInt → jiv h 126 (0 : Int32).toNatClampNeg = g0 → jiv h 126 (16 : Int32).toNatClampNeg = g1 → jiv h 126 (4 : Int32).toNatClampNeg = g2 → jiv h 126 (5 : Int32).toNatClampNeg = g3 → jiv h 126 (7 : Int32).toNatClampNeg = g4 → jiv h 125 10 = g5 → jiv h 125 11 = g6 → jiv h 125 8 = g7 → jiv h 125 9 = g8 → jJ jSgM Dy h → jSm fp_X12_line_r125 h0 h → jX m_X12_line 6 0 0 77 [(0, .ref 125), (6, .int l6)] [] h 0 0 Q := by
  intro l6 g0 g1 g2 g3 g4 g5 g6 g7 g8 h y0 y1 y2 y3 y4 y5 y6 y7 y8 y9 y10 z0 z1 z2 z3 z4 z5 z6 z7 z8  J Sm
  refine x_aloadn (x := 125) rfl rfl ?_
  refine x_iconst (v := 0) rfl ki_0 ?_
  refine z_putI (N := 92) (w := 0) 12 8 rfl f_12_201 rfl (jfin_no TX12 RX12 92 rfl rfl) hD J Sm rfl rfl jk_0 (pw_125_8 (by omega)) rfl (fun h w1 J Sm => ?_)
  refine x_aloadn (x := 125) rfl rfl ?_
  refine x_iload (x := l6) rfl rfl ?_
  refine x_ifeq (tgt := 93) rfl rfl (ti_eq rfl jk_0 ⟨fun c2 => ?_, fun c2 => ?_⟩)
  ·
    refine x_iconst (v := (-1)) rfl ki_m1 ?_
    exact jX.sub jsb_n (ct_X12_line_r125_100094 hD hQ  g0 g1 g2 g3 g4 g5 g6 0 g8 h (jr_of rfl (by omega)) (jr_of rfl (by omega)) (jr_of rfl (by omega)) (jr_of rfl (by omega)) (jr_of rfl (by omega)) (jr_of rfl (by omega)) (jr_of rfl (by omega)) (jr_of jk_0 (by omega)) (jr_of rfl (by omega)) (by omega) (jmo w1 rfl z0) (jmo w1 rfl z1) (jmo w1 rfl z2) (jmo w1 rfl z3) (jmo w1 rfl z4) (jmo w1 rfl z5) (jmo w1 rfl z6) (jmw w1) (jmo w1 rfl z8) J Sm)
  ·
    refine x_bipush (v := (-5)) rfl kb_m5 ?_
    refine x_goto (tgt := 94) rfl rfl ?_
    exact jX.sub jsb_n (ct_X12_line_r125_94 hD hQ  g0 g1 g2 g3 g4 g5 g6 0 g8 h (jr_of rfl (by omega)) (jr_of rfl (by omega)) (jr_of rfl (by omega)) (jr_of rfl (by omega)) (jr_of rfl (by omega)) (jr_of rfl (by omega)) (jr_of rfl (by omega)) (jr_of jk_0 (by omega)) (jr_of rfl (by omega)) (by omega) (jmo w1 rfl z0) (jmo w1 rfl z1) (jmo w1 rfl z2) (jmo w1 rfl z3) (jmo w1 rfl z4) (jmo w1 rfl z5) (jmo w1 rfl z6) (jmw w1) (jmo w1 rfl z8) J Sm)
set_option maxRecDepth 100000 in
set_option maxHeartbeats 4000000 in
theorem ct_X12_line_r125_300392 {Dy : jH → Prop} {h0 : jH} {Q : Option Value → jH → Prop} (hD : jDk Dy) (hQ : ∀ (v : Int32) hx9, jJ jSgM Dy hx9 → jSm fp_X12_line_r125 h0 hx9 → ∀ u0 u1 u2 u3 u4 : Int32, jiv hx9 126 (16 : Int32).toNatClampNeg = u0 → jiv hx9 126 (0 : Int32).toNatClampNeg = u1 → jiv hx9 126 (4 : Int32).toNatClampNeg = u2 → jiv hx9 126 (5 : Int32).toNatClampNeg = u3 → jiv hx9 126 (7 : Int32).toNatClampNeg = u4 → u0.toInt = u1.toInt + u2.toInt + u3.toInt + u4.toInt → Q (some (.int v)) hx9) : ∀ (l7 : Int32) (s1 : Int32) (g0 : Int32) (g1 : Int32) (g2 : Int32) (g3 : Int32) (g4 : Int32) (g5 : Int32) (g6 : Int32) (g7 : Int32) (g8 : Int32) (h : jH), 0 ≤ l7.toInt ∧ l7.toInt ≤ 199 → 25 ≤ s1.toInt ∧ s1.toInt ≤ 17935 → s1.toInt % 90 = 25 → 0 ≤ g0.toInt ∧ g0.toInt ≤ 199 → 0 ≤ g1.toInt ∧ g1.toInt ≤ 369 → 0 ≤ g2.toInt ∧ g2.toInt ≤ 30 → 0 ≤ g3.toInt ∧ g3.toInt ≤ 100 → 0 ≤ g4.toInt ∧ g4.toInt ≤ 40 → 0 ≤ g5.toInt ∧ g5.toInt ≤ 400 → 0 ≤ g6.toInt ∧ g6.toInt ≤ 3 → 0 ≤ g7.toInt ∧ g7.toInt ≤ 0 → 0 ≤ g8.toInt ∧ g8.toInt ≤ 400 → g1.toInt = g0.toInt + g2.toInt + g3.toInt + g4.toInt → (g6.toInt = 0 ∨ g8.toInt + 1 ≤ g5.toInt) → jiv h 126 (0 : Int32).toNatClampNeg = g0 → jiv h 126 (16 : Int32).toNatClampNeg = g1 → jiv h 126 (4 : Int32).toNatClampNeg = g2 → jiv h 126 (5 : Int32).toNatClampNeg = g3 → jiv h 126 (7 : Int32).toNatClampNeg = g4 → jiv h 125 10 = g5 → jiv h 125 11 = g6 → jiv h 125 8 = g7 → jiv h 125 9 = g8 → jJ jSgM Dy h → jSm fp_X12_line_r125 h0 h → jX m_X12_line 6 0 0 392 [(0, .ref 125), (7, .int l7)] [.int 1, .int s1, .ref 126] h 0 0 Q := by
  intro l7 s1 g0 g1 g2 g3 g4 g5 g6 g7 g8 h y0 y1 y2 y3 y4 y5 y6 y7 y8 y9 y10 y11 y12 y13 z0 z1 z2 z3 z4 z5 z6 z7 z8  J Sm
  refine z_iast (N := 50660) (l := 20) (u := 18020) (w := 1) rfl hD J Sm rfl rfl rfl (by omega) jk_1 (wr_126_20 (by omega) (fun q1 q2 q3 q4 => by omega) (fun q1 q2 q3 q4 => by omega) (fun q1 q2 q3 q4 => by omega) (fun q1 q2 q3 q4 => by omega) (fun q1 q2 q3 q4 => by omega) (fun q1 q2 q3 q4 => by omega) (fun q1 q2 q3 q4 => by omega) (fun q1 q2 q3 q4 => by omega) (fun q1 q2 q3 q4 => by omega) (fun q1 q2 q3 q4 => by omega) (fun q1 q2 q3 q4 => by omega) (fun q1 q2 q3 q4 => by omega) (fun q1 q2 q3 q4 => by omega) (fun q1 q2 q3 q4 => by omega) (fun q1 q2 q3 q4 => by omega) (fun q1 q2 q3 q4 => by omega) (fun q1 q2 q3 q4 => by omega) (fun q1 q2 q3 q4 => by omega) (fun q1 q2 q3 q4 => by omega) (fun q1 q2 q3 q4 => by omega) (fun q1 q2 q3 q4 => by omega) (fun q1 q2 q3 q4 => by omega) (fun q1 q2 q3 q4 => by omega)) rfl (fun h w1 J Sm => ?_)
  refine x_aloadn (x := 125) rfl rfl ?_
  refine z_getR (N := 92) (b := 126) 12 2 rfl f_12_8 rfl J rfl 16002 ⟨rfl, rfl⟩ rfl ?_
  refine x_iconst (v := 0) rfl ki_0 ?_
  refine x_dup2 rfl rfl rfl ?_
  refine z_ialdM (N := 50660) (v := g0) rfl J rfl jk_0 (by omega) (jmo2 w1 rfl jk_0 (by omega) z0) ?_
  refine x_iconst (v := 1) rfl ki_1 ?_
  refine z_iadd rfl rfl jk_1 (by omega) (fun v2 ev2 => ?_)
  refine z_iast (N := 50660) (l := 0) (u := 1) (w := v2.toInt) rfl hD J Sm rfl rfl jk_0 (by omega) rfl (wr_126_0 (by omega) (fun q1 q2 q3 q4 => by omega)) rfl (fun h w3 J Sm => ?_)
  refine x_aloadn (x := 125) rfl rfl ?_
  refine x_iconst (v := 0) rfl ki_0 ?_
  refine x_iload (x := l7) rfl rfl ?_
  refine x_inv (N := m_X12_thing) (As := [.int 0, .int l7]) (b := 125) (st := []) (dx9 := 5) (mc := 0) (ms := 0) (host := "") 12 rfl t_X12_thing ⟨Or.inl q_12_289, i_X12_thing.1, i_X12_thing.2⟩ ⟨by decide, rfl⟩ (congrArg Prod.fst (J.1.1 125 (12, 92) rfl)) rfl (by decide) rfl rfl ⟨by decide, by decide⟩ (jC.of rfl k_X12_thing rfl ?_)
  show jX m_X12_thing 5 0 0 0 [(0, .ref 125), (1, .int 0), (2, .int l7)] [] _ 0 0 _
  refine x_ldc (v := 49920) rfl z_12_194 ?_
  refine x_iconst (v := 2) rfl ki_2 ?_
  refine x_aloadn (x := 125) rfl rfl ?_
  refine z_getR (N := 92) (b := 126) 12 2 rfl f_12_8 rfl J rfl 16002 ⟨rfl, rfl⟩ rfl ?_
  refine x_bipush (v := 16) rfl kb_16 ?_
  refine z_ialdM (N := 50660) (v := g1) rfl J rfl jk_16 (by omega) (jmo2 w3 jk_0 jk_16 (by omega) (jmo2 w1 rfl jk_16 (by omega) z1)) ?_
  refine z_imul rfl jk_2 rfl (by omega) (fun v4 ev4 => ?_)
  refine z_iadd rfl jk_49920 rfl (by omega) (fun v5 ev5 => ?_)
  refine x_istoren (lsx9 := [(3, .int v5), (0, .ref 125), (1, .int 0), (2, .int l7)]) rfl rfl rfl ?_
  refine x_aloadn (x := 125) rfl rfl ?_
  refine z_getR (N := 92) (b := 126) 12 2 rfl f_12_8 rfl J rfl 16002 ⟨rfl, rfl⟩ rfl ?_
  refine x_iloadn (x := v5) rfl rfl ?_
  refine x_iloadn (x := 0) rfl rfl ?_
  refine z_iast (N := 50660) (l := 49920) (u := 50660) (w := 0) rfl hD J Sm rfl rfl rfl (by omega) jk_0 (wr_126_49920 (by omega) (fun q1 q2 q3 q4 => by omega) (fun q1 q2 q3 q4 => by omega)) rfl (fun h w6 J Sm => ?_)
  refine x_aloadn (x := 125) rfl rfl ?_
  refine z_getR (N := 92) (b := 126) 12 2 rfl f_12_8 rfl J rfl 16002 ⟨rfl, rfl⟩ rfl ?_
  refine x_iloadn (x := v5) rfl rfl ?_
  refine x_iconst (v := 1) rfl ki_1 ?_
  refine z_iadd rfl rfl jk_1 (by omega) (fun v7 ev7 => ?_)
  refine x_iloadn (x := l7) rfl rfl ?_
  refine z_iast (N := 50660) (l := 49920) (u := 50660) (w := l7.toInt) rfl hD J Sm rfl rfl rfl (by omega) rfl (wr_126_49920 (by omega) (fun q1 q2 q3 q4 => by omega) (fun q1 q2 q3 q4 => by omega)) rfl (fun h w8 J Sm => ?_)
  refine x_aloadn (x := 125) rfl rfl ?_
  refine z_getR (N := 92) (b := 126) 12 2 rfl f_12_8 rfl J rfl 16002 ⟨rfl, rfl⟩ rfl ?_
  refine x_bipush (v := 16) rfl kb_16 ?_
  refine x_dup2 rfl rfl rfl ?_
  refine z_ialdM (N := 50660) (v := g1) rfl J rfl jk_16 (by omega) (jmo2 w8 rfl jk_16 (by omega) (jmo2 w6 rfl jk_16 (by omega) (jmo2 w3 jk_0 jk_16 (by omega) (jmo2 w1 rfl jk_16 (by omega) z1)))) ?_
  refine x_iconst (v := 1) rfl ki_1 ?_
  refine z_iadd rfl rfl jk_1 (by omega) (fun v9 ev9 => ?_)
  refine z_iast (N := 50660) (l := 16) (u := 17) (w := v9.toInt) rfl hD J Sm rfl rfl jk_16 (by omega) rfl (wr_126_16 (by omega) (fun q1 q2 q3 q4 => by omega)) rfl (fun h w10 J Sm => ?_)
  refine x_vret rfl rfl ?_
  show jX m_X12_line 6 0 0 410 [(0, .ref 125), (7, .int l7)] [] _ 0 0 _
  refine x_aloadn (x := 125) rfl rfl ?_
  refine x_iload (x := l7) rfl rfl ?_
  refine x_inv (N := m_X12_told) (As := [.int l7]) (b := 125) (st := []) (dx9 := 1) (mc := 0) (ms := 0) (host := "") 12 rfl t_X12_told ⟨Or.inl q_12_197, i_X12_told.1, i_X12_told.2⟩ ⟨by decide, rfl⟩ (congrArg Prod.fst (J.1.1 125 (12, 92) rfl)) rfl (by decide) rfl rfl ⟨by decide, by decide⟩ (sf_X12_told_r125  hD J  (fun v12 h J S11 => ?_))
  have ev12 := jfull v12
  have Sm := jSm_tr rfl Sm S11
  show jX m_X12_line 6 0 0 416 [(0, .ref 125), (7, .int l7)] [.int v12] _ 0 0 _
  refine x_iret rfl rfl ?_
  exact hQ _ _ J Sm _ _ _ _ _ (jmc S11 rfl (jmw w10)) (jmc S11 rfl (jmo2 w10 jk_16 jk_0 (by omega) (jmo2 w8 rfl jk_0 (by omega) (jmo2 w6 rfl jk_0 (by omega) (jmw w3))))) (jmc S11 rfl (jmo2 w10 jk_16 jk_4 (by omega) (jmo2 w8 rfl jk_4 (by omega) (jmo2 w6 rfl jk_4 (by omega) (jmo2 w3 jk_0 jk_4 (by omega) (jmo2 w1 rfl jk_4 (by omega) z2)))))) (jmc S11 rfl (jmo2 w10 jk_16 jk_5 (by omega) (jmo2 w8 rfl jk_5 (by omega) (jmo2 w6 rfl jk_5 (by omega) (jmo2 w3 jk_0 jk_5 (by omega) (jmo2 w1 rfl jk_5 (by omega) z3)))))) (jmc S11 rfl (jmo2 w10 jk_16 jk_7 (by omega) (jmo2 w8 rfl jk_7 (by omega) (jmo2 w6 rfl jk_7 (by omega) (jmo2 w3 jk_0 jk_7 (by omega) (jmo2 w1 rfl jk_7 (by omega) z4)))))) (by omega)
set_option maxRecDepth 100000 in
set_option maxHeartbeats 4000000 in
theorem ct_X12_line_r125_200392 {Dy : jH → Prop} {h0 : jH} {Q : Option Value → jH → Prop} (hD : jDk Dy) (hQ : ∀ (v : Int32) hx9, jJ jSgM Dy hx9 → jSm fp_X12_line_r125 h0 hx9 → ∀ u0 u1 u2 u3 u4 : Int32, jiv hx9 126 (16 : Int32).toNatClampNeg = u0 → jiv hx9 126 (0 : Int32).toNatClampNeg = u1 → jiv hx9 126 (4 : Int32).toNatClampNeg = u2 → jiv hx9 126 (5 : Int32).toNatClampNeg = u3 → jiv hx9 126 (7 : Int32).toNatClampNeg = u4 → u0.toInt = u1.toInt + u2.toInt + u3.toInt + u4.toInt → Q (some (.int v)) hx9) : ∀ (l7 : Int32) (s1 : Int32) (g0 : Int32) (g1 : Int32) (g2 : Int32) (g3 : Int32) (g4 : Int32) (g5 : Int32) (g6 : Int32) (g7 : Int32) (g8 : Int32) (h : jH), 0 ≤ l7.toInt ∧ l7.toInt ≤ 199 → 25 ≤ s1.toInt ∧ s1.toInt ≤ 17935 → s1.toInt % 90 = 25 → 0 ≤ g0.toInt ∧ g0.toInt ≤ 199 → 0 ≤ g1.toInt ∧ g1.toInt ≤ 369 → 0 ≤ g2.toInt ∧ g2.toInt ≤ 30 → 0 ≤ g3.toInt ∧ g3.toInt ≤ 100 → 0 ≤ g4.toInt ∧ g4.toInt ≤ 40 → 0 ≤ g5.toInt ∧ g5.toInt ≤ 400 → 0 ≤ g6.toInt ∧ g6.toInt ≤ 3 → 0 ≤ g7.toInt ∧ g7.toInt ≤ 0 → 0 ≤ g8.toInt ∧ g8.toInt ≤ 400 → g1.toInt = g0.toInt + g2.toInt + g3.toInt + g4.toInt → (g6.toInt = 0 ∨ g8.toInt + 1 ≤ g5.toInt) → jiv h 126 (0 : Int32).toNatClampNeg = g0 → jiv h 126 (16 : Int32).toNatClampNeg = g1 → jiv h 126 (4 : Int32).toNatClampNeg = g2 → jiv h 126 (5 : Int32).toNatClampNeg = g3 → jiv h 126 (7 : Int32).toNatClampNeg = g4 → jiv h 125 10 = g5 → jiv h 125 11 = g6 → jiv h 125 8 = g7 → jiv h 125 9 = g8 → jJ jSgM Dy h → jSm fp_X12_line_r125 h0 h → jX m_X12_line 6 0 0 392 [(0, .ref 125), (7, .int l7)] [.int 0, .int s1, .ref 126] h 0 0 Q := by
  intro l7 s1 g0 g1 g2 g3 g4 g5 g6 g7 g8 h y0 y1 y2 y3 y4 y5 y6 y7 y8 y9 y10 y11 y12 y13 z0 z1 z2 z3 z4 z5 z6 z7 z8  J Sm
  refine z_iast (N := 50660) (l := 20) (u := 18020) (w := 0) rfl hD J Sm rfl rfl rfl (by omega) jk_0 (wr_126_20 (by omega) (fun q1 q2 q3 q4 => by omega) (fun q1 q2 q3 q4 => by omega) (fun q1 q2 q3 q4 => by omega) (fun q1 q2 q3 q4 => by omega) (fun q1 q2 q3 q4 => by omega) (fun q1 q2 q3 q4 => by omega) (fun q1 q2 q3 q4 => by omega) (fun q1 q2 q3 q4 => by omega) (fun q1 q2 q3 q4 => by omega) (fun q1 q2 q3 q4 => by omega) (fun q1 q2 q3 q4 => by omega) (fun q1 q2 q3 q4 => by omega) (fun q1 q2 q3 q4 => by omega) (fun q1 q2 q3 q4 => by omega) (fun q1 q2 q3 q4 => by omega) (fun q1 q2 q3 q4 => by omega) (fun q1 q2 q3 q4 => by omega) (fun q1 q2 q3 q4 => by omega) (fun q1 q2 q3 q4 => by omega) (fun q1 q2 q3 q4 => by omega) (fun q1 q2 q3 q4 => by omega) (fun q1 q2 q3 q4 => by omega) (fun q1 q2 q3 q4 => by omega)) rfl (fun h w1 J Sm => ?_)
  refine x_aloadn (x := 125) rfl rfl ?_
  refine z_getR (N := 92) (b := 126) 12 2 rfl f_12_8 rfl J rfl 16002 ⟨rfl, rfl⟩ rfl ?_
  refine x_iconst (v := 0) rfl ki_0 ?_
  refine x_dup2 rfl rfl rfl ?_
  refine z_ialdM (N := 50660) (v := g0) rfl J rfl jk_0 (by omega) (jmo2 w1 rfl jk_0 (by omega) z0) ?_
  refine x_iconst (v := 1) rfl ki_1 ?_
  refine z_iadd rfl rfl jk_1 (by omega) (fun v2 ev2 => ?_)
  refine z_iast (N := 50660) (l := 0) (u := 1) (w := v2.toInt) rfl hD J Sm rfl rfl jk_0 (by omega) rfl (wr_126_0 (by omega) (fun q1 q2 q3 q4 => by omega)) rfl (fun h w3 J Sm => ?_)
  refine x_aloadn (x := 125) rfl rfl ?_
  refine x_iconst (v := 0) rfl ki_0 ?_
  refine x_iload (x := l7) rfl rfl ?_
  refine x_inv (N := m_X12_thing) (As := [.int 0, .int l7]) (b := 125) (st := []) (dx9 := 5) (mc := 0) (ms := 0) (host := "") 12 rfl t_X12_thing ⟨Or.inl q_12_289, i_X12_thing.1, i_X12_thing.2⟩ ⟨by decide, rfl⟩ (congrArg Prod.fst (J.1.1 125 (12, 92) rfl)) rfl (by decide) rfl rfl ⟨by decide, by decide⟩ (jC.of rfl k_X12_thing rfl ?_)
  show jX m_X12_thing 5 0 0 0 [(0, .ref 125), (1, .int 0), (2, .int l7)] [] _ 0 0 _
  refine x_ldc (v := 49920) rfl z_12_194 ?_
  refine x_iconst (v := 2) rfl ki_2 ?_
  refine x_aloadn (x := 125) rfl rfl ?_
  refine z_getR (N := 92) (b := 126) 12 2 rfl f_12_8 rfl J rfl 16002 ⟨rfl, rfl⟩ rfl ?_
  refine x_bipush (v := 16) rfl kb_16 ?_
  refine z_ialdM (N := 50660) (v := g1) rfl J rfl jk_16 (by omega) (jmo2 w3 jk_0 jk_16 (by omega) (jmo2 w1 rfl jk_16 (by omega) z1)) ?_
  refine z_imul rfl jk_2 rfl (by omega) (fun v4 ev4 => ?_)
  refine z_iadd rfl jk_49920 rfl (by omega) (fun v5 ev5 => ?_)
  refine x_istoren (lsx9 := [(3, .int v5), (0, .ref 125), (1, .int 0), (2, .int l7)]) rfl rfl rfl ?_
  refine x_aloadn (x := 125) rfl rfl ?_
  refine z_getR (N := 92) (b := 126) 12 2 rfl f_12_8 rfl J rfl 16002 ⟨rfl, rfl⟩ rfl ?_
  refine x_iloadn (x := v5) rfl rfl ?_
  refine x_iloadn (x := 0) rfl rfl ?_
  refine z_iast (N := 50660) (l := 49920) (u := 50660) (w := 0) rfl hD J Sm rfl rfl rfl (by omega) jk_0 (wr_126_49920 (by omega) (fun q1 q2 q3 q4 => by omega) (fun q1 q2 q3 q4 => by omega)) rfl (fun h w6 J Sm => ?_)
  refine x_aloadn (x := 125) rfl rfl ?_
  refine z_getR (N := 92) (b := 126) 12 2 rfl f_12_8 rfl J rfl 16002 ⟨rfl, rfl⟩ rfl ?_
  refine x_iloadn (x := v5) rfl rfl ?_
  refine x_iconst (v := 1) rfl ki_1 ?_
  refine z_iadd rfl rfl jk_1 (by omega) (fun v7 ev7 => ?_)
  refine x_iloadn (x := l7) rfl rfl ?_
  refine z_iast (N := 50660) (l := 49920) (u := 50660) (w := l7.toInt) rfl hD J Sm rfl rfl rfl (by omega) rfl (wr_126_49920 (by omega) (fun q1 q2 q3 q4 => by omega) (fun q1 q2 q3 q4 => by omega)) rfl (fun h w8 J Sm => ?_)
  refine x_aloadn (x := 125) rfl rfl ?_
  refine z_getR (N := 92) (b := 126) 12 2 rfl f_12_8 rfl J rfl 16002 ⟨rfl, rfl⟩ rfl ?_
  refine x_bipush (v := 16) rfl kb_16 ?_
  refine x_dup2 rfl rfl rfl ?_
  refine z_ialdM (N := 50660) (v := g1) rfl J rfl jk_16 (by omega) (jmo2 w8 rfl jk_16 (by omega) (jmo2 w6 rfl jk_16 (by omega) (jmo2 w3 jk_0 jk_16 (by omega) (jmo2 w1 rfl jk_16 (by omega) z1)))) ?_
  refine x_iconst (v := 1) rfl ki_1 ?_
  refine z_iadd rfl rfl jk_1 (by omega) (fun v9 ev9 => ?_)
  refine z_iast (N := 50660) (l := 16) (u := 17) (w := v9.toInt) rfl hD J Sm rfl rfl jk_16 (by omega) rfl (wr_126_16 (by omega) (fun q1 q2 q3 q4 => by omega)) rfl (fun h w10 J Sm => ?_)
  refine x_vret rfl rfl ?_
  show jX m_X12_line 6 0 0 410 [(0, .ref 125), (7, .int l7)] [] _ 0 0 _
  refine x_aloadn (x := 125) rfl rfl ?_
  refine x_iload (x := l7) rfl rfl ?_
  refine x_inv (N := m_X12_told) (As := [.int l7]) (b := 125) (st := []) (dx9 := 1) (mc := 0) (ms := 0) (host := "") 12 rfl t_X12_told ⟨Or.inl q_12_197, i_X12_told.1, i_X12_told.2⟩ ⟨by decide, rfl⟩ (congrArg Prod.fst (J.1.1 125 (12, 92) rfl)) rfl (by decide) rfl rfl ⟨by decide, by decide⟩ (sf_X12_told_r125  hD J  (fun v12 h J S11 => ?_))
  have ev12 := jfull v12
  have Sm := jSm_tr rfl Sm S11
  show jX m_X12_line 6 0 0 416 [(0, .ref 125), (7, .int l7)] [.int v12] _ 0 0 _
  refine x_iret rfl rfl ?_
  exact hQ _ _ J Sm _ _ _ _ _ (jmc S11 rfl (jmw w10)) (jmc S11 rfl (jmo2 w10 jk_16 jk_0 (by omega) (jmo2 w8 rfl jk_0 (by omega) (jmo2 w6 rfl jk_0 (by omega) (jmw w3))))) (jmc S11 rfl (jmo2 w10 jk_16 jk_4 (by omega) (jmo2 w8 rfl jk_4 (by omega) (jmo2 w6 rfl jk_4 (by omega) (jmo2 w3 jk_0 jk_4 (by omega) (jmo2 w1 rfl jk_4 (by omega) z2)))))) (jmc S11 rfl (jmo2 w10 jk_16 jk_5 (by omega) (jmo2 w8 rfl jk_5 (by omega) (jmo2 w6 rfl jk_5 (by omega) (jmo2 w3 jk_0 jk_5 (by omega) (jmo2 w1 rfl jk_5 (by omega) z3)))))) (jmc S11 rfl (jmo2 w10 jk_16 jk_7 (by omega) (jmo2 w8 rfl jk_7 (by omega) (jmo2 w6 rfl jk_7 (by omega) (jmo2 w3 jk_0 jk_7 (by omega) (jmo2 w1 rfl jk_7 (by omega) z4)))))) (by omega)
set_option maxRecDepth 100000 in
set_option maxHeartbeats 4000000 in
theorem ct_X12_line_r125_305 {Dy : jH → Prop} {h0 : jH} {Q : Option Value → jH → Prop} (hD : jDk Dy) (hQ : ∀ (v : Int32) hx9, jJ jSgM Dy hx9 → jSm fp_X12_line_r125 h0 hx9 → ∀ u0 u1 u2 u3 u4 : Int32, jiv hx9 126 (16 : Int32).toNatClampNeg = u0 → jiv hx9 126 (0 : Int32).toNatClampNeg = u1 → jiv hx9 126 (4 : Int32).toNatClampNeg = u2 → jiv hx9 126 (5 : Int32).toNatClampNeg = u3 → jiv hx9 126 (7 : Int32).toNatClampNeg = u4 → u0.toInt = u1.toInt + u2.toInt + u3.toInt + u4.toInt → Q (some (.int v)) hx9) : ∀ (l1 : Int32) (l2 : Int32) (l3 : Int32) (l4 : Int32) (l5 : Int32) (l7 : Int32) (l8 : Int32) (l11 : Int32) (g0 : Int32) (g1 : Int32) (g2 : Int32) (g3 : Int32) (g4 : Int32) (g5 : Int32) (g6 : Int32) (g7 : Int32) (g8 : Int32) (g9 : Int32) (h : jH), 0 ≤ l1.toInt ∧ l1.toInt ≤ 5 → 0 ≤ l2.toInt ∧ l2.toInt ≤ 15 → 0 ≤ l3.toInt ∧ l3.toInt ≤ 146399 → 0 ≤ l4.toInt ∧ l4.toInt ≤ 146399 → (-1) ≤ l5.toInt ∧ l5.toInt ≤ 100000 → 0 ≤ l7.toInt ∧ l7.toInt ≤ 199 → 20 ≤ l8.toInt ∧ l8.toInt ≤ 17930 → l8.toInt % 90 = 20 → 0 ≤ l11.toInt ∧ l11.toInt ≤ 1 → 0 ≤ g0.toInt ∧ g0.toInt ≤ 199 → 0 ≤ g1.toInt ∧ g1.toInt ≤ 369 → 0 ≤ g2.toInt ∧ g2.toInt ≤ 30 → 0 ≤ g3.toInt ∧ g3.toInt ≤ 100 → 0 ≤ g4.toInt ∧ g4.toInt ≤ 40 → 0 ≤ g5.toInt ∧ g5.toInt ≤ 400 → 0 ≤ g6.toInt ∧ g6.toInt ≤ 3 → 0 ≤ g7.toInt ∧ g7.toInt ≤ 1 → 0 ≤ g8.toInt ∧ g8.toInt ≤ 400 → 0 ≤ g9.toInt ∧ g9.toInt ≤ 400 → g1.toInt = g0.toInt + g2.toInt + g3.toInt + g4.toInt → (g5.toInt ≤ g8.toInt ∧ g9.toInt ≤ g5.toInt) → (g6.toInt = 0 ∨ g9.toInt + 1 ≤ g5.toInt) → jiv h 126 (0 : Int32).toNatClampNeg = g0 → jiv h 126 (16 : Int32).toNatClampNeg = g1 → jiv h 126 (4 : Int32).toNatClampNeg = g2 → jiv h 126 (5 : Int32).toNatClampNeg = g3 → jiv h 126 (7 : Int32).toNatClampNeg = g4 → jiv h 125 10 = g5 → jiv h 125 11 = g6 → jiv h 125 14 = g7 → jiv h 125 8 = g8 → jiv h 125 9 = g9 → jJ jSgM Dy h → jSm fp_X12_line_r125 h0 h → jX m_X12_line 6 0 0 305 [(0, .ref 125), (1, .int l1), (2, .int l2), (3, .int l3), (4, .int l4), (5, .int l5), (7, .int l7), (8, .int l8), (11, .int l11)] [] h 0 0 Q := by
  intro l1 l2 l3 l4 l5 l7 l8 l11 g0 g1 g2 g3 g4 g5 g6 g7 g8 g9 h y0 y1 y2 y3 y4 y5 y6 y7 y8 y9 y10 y11 y12 y13 y14 y15 y16 y17 y18 y19 y20 y21 z0 z1 z2 z3 z4 z5 z6 z7 z8 z9  J Sm
  refine x_aloadn (x := 125) rfl rfl ?_
  refine x_iconst (v := 0) rfl ki_0 ?_
  refine z_putI (N := 92) (w := 0) 12 8 rfl f_12_201 rfl (jfin_no TX12 RX12 92 rfl rfl) hD J Sm rfl rfl jk_0 (pw_125_8 (by omega)) rfl (fun h w1 J Sm => ?_)
  refine x_aloadn (x := 125) rfl rfl ?_
  refine z_getM (N := 92) (v := g7) 12 14 rfl f_12_214 rfl J rfl (jmo w1 rfl z7) ?_
  refine x_ifeq (tgt := 324) rfl rfl (ti_eq rfl jk_0 ⟨fun c2 => ?_, fun c2 => ?_⟩)
  ·
    refine x_aloadn (x := 125) rfl rfl ?_
    refine z_getR (N := 92) (b := 126) 12 2 rfl f_12_8 rfl J rfl 16002 ⟨rfl, rfl⟩ rfl ?_
    refine x_iload (x := l8) rfl rfl ?_
    refine x_iloadn (x := l1) rfl rfl ?_
    refine z_iast (N := 50660) (l := 20) (u := 18020) (w := l1.toInt) rfl hD J Sm rfl rfl rfl (by omega) rfl (wr_126_20 (by omega) (fun q1 q2 q3 q4 => by omega) (fun q1 q2 q3 q4 => by omega) (fun q1 q2 q3 q4 => by omega) (fun q1 q2 q3 q4 => by omega) (fun q1 q2 q3 q4 => by omega) (fun q1 q2 q3 q4 => by omega) (fun q1 q2 q3 q4 => by omega) (fun q1 q2 q3 q4 => by omega) (fun q1 q2 q3 q4 => by omega) (fun q1 q2 q3 q4 => by omega) (fun q1 q2 q3 q4 => by omega) (fun q1 q2 q3 q4 => by omega) (fun q1 q2 q3 q4 => by omega) (fun q1 q2 q3 q4 => by omega) (fun q1 q2 q3 q4 => by omega) (fun q1 q2 q3 q4 => by omega) (fun q1 q2 q3 q4 => by omega) (fun q1 q2 q3 q4 => by omega) (fun q1 q2 q3 q4 => by omega) (fun q1 q2 q3 q4 => by omega) (fun q1 q2 q3 q4 => by omega) (fun q1 q2 q3 q4 => by omega) (fun q1 q2 q3 q4 => by omega)) rfl (fun h w3 J Sm => ?_)
    refine x_aloadn (x := 125) rfl rfl ?_
    refine z_getR (N := 92) (b := 126) 12 2 rfl f_12_8 rfl J rfl 16002 ⟨rfl, rfl⟩ rfl ?_
    refine x_iload (x := l8) rfl rfl ?_
    refine x_iconst (v := 1) rfl ki_1 ?_
    refine z_iadd rfl rfl jk_1 (by omega) (fun v4 ev4 => ?_)
    refine x_iloadn (x := l2) rfl rfl ?_
    refine z_iast (N := 50660) (l := 20) (u := 18020) (w := l2.toInt) rfl hD J Sm rfl rfl rfl (by omega) rfl (wr_126_20 (by omega) (fun q1 q2 q3 q4 => by omega) (fun q1 q2 q3 q4 => by omega) (fun q1 q2 q3 q4 => by omega) (fun q1 q2 q3 q4 => by omega) (fun q1 q2 q3 q4 => by omega) (fun q1 q2 q3 q4 => by omega) (fun q1 q2 q3 q4 => by omega) (fun q1 q2 q3 q4 => by omega) (fun q1 q2 q3 q4 => by omega) (fun q1 q2 q3 q4 => by omega) (fun q1 q2 q3 q4 => by omega) (fun q1 q2 q3 q4 => by omega) (fun q1 q2 q3 q4 => by omega) (fun q1 q2 q3 q4 => by omega) (fun q1 q2 q3 q4 => by omega) (fun q1 q2 q3 q4 => by omega) (fun q1 q2 q3 q4 => by omega) (fun q1 q2 q3 q4 => by omega) (fun q1 q2 q3 q4 => by omega) (fun q1 q2 q3 q4 => by omega) (fun q1 q2 q3 q4 => by omega) (fun q1 q2 q3 q4 => by omega) (fun q1 q2 q3 q4 => by omega)) rfl (fun h w5 J Sm => ?_)
    refine x_aloadn (x := 125) rfl rfl ?_
    refine z_getR (N := 92) (b := 126) 12 2 rfl f_12_8 rfl J rfl 16002 ⟨rfl, rfl⟩ rfl ?_
    refine x_iload (x := l8) rfl rfl ?_
    refine x_iconst (v := 2) rfl ki_2 ?_
    refine z_iadd rfl rfl jk_2 (by omega) (fun v6 ev6 => ?_)
    refine x_iloadn (x := l3) rfl rfl ?_
    refine z_iast (N := 50660) (l := 20) (u := 18020) (w := l3.toInt) rfl hD J Sm rfl rfl rfl (by omega) rfl (wr_126_20 (by omega) (fun q1 q2 q3 q4 => by omega) (fun q1 q2 q3 q4 => by omega) (fun q1 q2 q3 q4 => by omega) (fun q1 q2 q3 q4 => by omega) (fun q1 q2 q3 q4 => by omega) (fun q1 q2 q3 q4 => by omega) (fun q1 q2 q3 q4 => by omega) (fun q1 q2 q3 q4 => by omega) (fun q1 q2 q3 q4 => by omega) (fun q1 q2 q3 q4 => by omega) (fun q1 q2 q3 q4 => by omega) (fun q1 q2 q3 q4 => by omega) (fun q1 q2 q3 q4 => by omega) (fun q1 q2 q3 q4 => by omega) (fun q1 q2 q3 q4 => by omega) (fun q1 q2 q3 q4 => by omega) (fun q1 q2 q3 q4 => by omega) (fun q1 q2 q3 q4 => by omega) (fun q1 q2 q3 q4 => by omega) (fun q1 q2 q3 q4 => by omega) (fun q1 q2 q3 q4 => by omega) (fun q1 q2 q3 q4 => by omega) (fun q1 q2 q3 q4 => by omega)) rfl (fun h w7 J Sm => ?_)
    refine x_aloadn (x := 125) rfl rfl ?_
    refine z_getR (N := 92) (b := 126) 12 2 rfl f_12_8 rfl J rfl 16002 ⟨rfl, rfl⟩ rfl ?_
    refine x_iload (x := l8) rfl rfl ?_
    refine x_iconst (v := 3) rfl ki_3 ?_
    refine z_iadd rfl rfl jk_3 (by omega) (fun v8 ev8 => ?_)
    refine x_iload (x := l4) rfl rfl ?_
    refine z_iast (N := 50660) (l := 20) (u := 18020) (w := l4.toInt) rfl hD J Sm rfl rfl rfl (by omega) rfl (wr_126_20 (by omega) (fun q1 q2 q3 q4 => by omega) (fun q1 q2 q3 q4 => by omega) (fun q1 q2 q3 q4 => by omega) (fun q1 q2 q3 q4 => by omega) (fun q1 q2 q3 q4 => by omega) (fun q1 q2 q3 q4 => by omega) (fun q1 q2 q3 q4 => by omega) (fun q1 q2 q3 q4 => by omega) (fun q1 q2 q3 q4 => by omega) (fun q1 q2 q3 q4 => by omega) (fun q1 q2 q3 q4 => by omega) (fun q1 q2 q3 q4 => by omega) (fun q1 q2 q3 q4 => by omega) (fun q1 q2 q3 q4 => by omega) (fun q1 q2 q3 q4 => by omega) (fun q1 q2 q3 q4 => by omega) (fun q1 q2 q3 q4 => by omega) (fun q1 q2 q3 q4 => by omega) (fun q1 q2 q3 q4 => by omega) (fun q1 q2 q3 q4 => by omega) (fun q1 q2 q3 q4 => by omega) (fun q1 q2 q3 q4 => by omega) (fun q1 q2 q3 q4 => by omega)) rfl (fun h w9 J Sm => ?_)
    refine x_aloadn (x := 125) rfl rfl ?_
    refine z_getR (N := 92) (b := 126) 12 2 rfl f_12_8 rfl J rfl 16002 ⟨rfl, rfl⟩ rfl ?_
    refine x_iload (x := l8) rfl rfl ?_
    refine x_iconst (v := 4) rfl ki_4 ?_
    refine z_iadd rfl rfl jk_4 (by omega) (fun v10 ev10 => ?_)
    refine x_iload (x := l5) rfl rfl ?_
    refine z_iast (N := 50660) (l := 20) (u := 18020) (w := l5.toInt) rfl hD J Sm rfl rfl rfl (by omega) rfl (wr_126_20 (by omega) (fun q1 q2 q3 q4 => by omega) (fun q1 q2 q3 q4 => by omega) (fun q1 q2 q3 q4 => by omega) (fun q1 q2 q3 q4 => by omega) (fun q1 q2 q3 q4 => by omega) (fun q1 q2 q3 q4 => by omega) (fun q1 q2 q3 q4 => by omega) (fun q1 q2 q3 q4 => by omega) (fun q1 q2 q3 q4 => by omega) (fun q1 q2 q3 q4 => by omega) (fun q1 q2 q3 q4 => by omega) (fun q1 q2 q3 q4 => by omega) (fun q1 q2 q3 q4 => by omega) (fun q1 q2 q3 q4 => by omega) (fun q1 q2 q3 q4 => by omega) (fun q1 q2 q3 q4 => by omega) (fun q1 q2 q3 q4 => by omega) (fun q1 q2 q3 q4 => by omega) (fun q1 q2 q3 q4 => by omega) (fun q1 q2 q3 q4 => by omega) (fun q1 q2 q3 q4 => by omega) (fun q1 q2 q3 q4 => by omega) (fun q1 q2 q3 q4 => by omega)) rfl (fun h w11 J Sm => ?_)
    refine x_aloadn (x := 125) rfl rfl ?_
    refine z_getR (N := 92) (b := 126) 12 2 rfl f_12_8 rfl J rfl 16002 ⟨rfl, rfl⟩ rfl ?_
    refine x_iload (x := l8) rfl rfl ?_
    refine x_iconst (v := 5) rfl ki_5 ?_
    refine z_iadd rfl rfl jk_5 (by omega) (fun v12 ev12 => ?_)
    refine x_iload (x := l11) rfl rfl ?_
    refine x_ifeq (tgt := 391) rfl rfl (ti_eq rfl jk_0 ⟨fun c13 => ?_, fun c13 => ?_⟩)
    ·
      refine x_iconst (v := 1) rfl ki_1 ?_
      exact jX.sub (jsb_c rfl (jsb_c rfl jsb_n)) (ct_X12_line_r125_300392 hD hQ  l7 v12 g0 g1 g2 g3 g4 g5 g6 0 g9 h (jr_of rfl (by omega)) (jr_of rfl (by omega)) (jr_mod rfl (by omega)) (jr_of rfl (by omega)) (jr_of rfl (by omega)) (jr_of rfl (by omega)) (jr_of rfl (by omega)) (jr_of rfl (by omega)) (jr_of rfl (by omega)) (jr_of rfl (by omega)) (jr_of jk_0 (by omega)) (jr_of rfl (by omega)) (by omega) (by omega) (jmo2 w11 rfl jk_0 (by omega) (jmo2 w9 rfl jk_0 (by omega) (jmo2 w7 rfl jk_0 (by omega) (jmo2 w5 rfl jk_0 (by omega) (jmo2 w3 rfl jk_0 (by omega) (jmo w1 rfl z0)))))) (jmo2 w11 rfl jk_16 (by omega) (jmo2 w9 rfl jk_16 (by omega) (jmo2 w7 rfl jk_16 (by omega) (jmo2 w5 rfl jk_16 (by omega) (jmo2 w3 rfl jk_16 (by omega) (jmo w1 rfl z1)))))) (jmo2 w11 rfl jk_4 (by omega) (jmo2 w9 rfl jk_4 (by omega) (jmo2 w7 rfl jk_4 (by omega) (jmo2 w5 rfl jk_4 (by omega) (jmo2 w3 rfl jk_4 (by omega) (jmo w1 rfl z2)))))) (jmo2 w11 rfl jk_5 (by omega) (jmo2 w9 rfl jk_5 (by omega) (jmo2 w7 rfl jk_5 (by omega) (jmo2 w5 rfl jk_5 (by omega) (jmo2 w3 rfl jk_5 (by omega) (jmo w1 rfl z3)))))) (jmo2 w11 rfl jk_7 (by omega) (jmo2 w9 rfl jk_7 (by omega) (jmo2 w7 rfl jk_7 (by omega) (jmo2 w5 rfl jk_7 (by omega) (jmo2 w3 rfl jk_7 (by omega) (jmo w1 rfl z4)))))) (jmo w11 rfl (jmo w9 rfl (jmo w7 rfl (jmo w5 rfl (jmo w3 rfl (jmo w1 rfl z5)))))) (jmo w11 rfl (jmo w9 rfl (jmo w7 rfl (jmo w5 rfl (jmo w3 rfl (jmo w1 rfl z6)))))) (jmo w11 rfl (jmo w9 rfl (jmo w7 rfl (jmo w5 rfl (jmo w3 rfl (jmw w1)))))) (jmo w11 rfl (jmo w9 rfl (jmo w7 rfl (jmo w5 rfl (jmo w3 rfl (jmo w1 rfl z9)))))) J Sm)
    ·
      refine x_iconst (v := 0) rfl ki_0 ?_
      refine x_goto (tgt := 392) rfl rfl ?_
      exact jX.sub (jsb_c rfl (jsb_c rfl jsb_n)) (ct_X12_line_r125_200392 hD hQ  l7 v12 g0 g1 g2 g3 g4 g5 g6 0 g9 h (jr_of rfl (by omega)) (jr_of rfl (by omega)) (jr_mod rfl (by omega)) (jr_of rfl (by omega)) (jr_of rfl (by omega)) (jr_of rfl (by omega)) (jr_of rfl (by omega)) (jr_of rfl (by omega)) (jr_of rfl (by omega)) (jr_of rfl (by omega)) (jr_of jk_0 (by omega)) (jr_of rfl (by omega)) (by omega) (by omega) (jmo2 w11 rfl jk_0 (by omega) (jmo2 w9 rfl jk_0 (by omega) (jmo2 w7 rfl jk_0 (by omega) (jmo2 w5 rfl jk_0 (by omega) (jmo2 w3 rfl jk_0 (by omega) (jmo w1 rfl z0)))))) (jmo2 w11 rfl jk_16 (by omega) (jmo2 w9 rfl jk_16 (by omega) (jmo2 w7 rfl jk_16 (by omega) (jmo2 w5 rfl jk_16 (by omega) (jmo2 w3 rfl jk_16 (by omega) (jmo w1 rfl z1)))))) (jmo2 w11 rfl jk_4 (by omega) (jmo2 w9 rfl jk_4 (by omega) (jmo2 w7 rfl jk_4 (by omega) (jmo2 w5 rfl jk_4 (by omega) (jmo2 w3 rfl jk_4 (by omega) (jmo w1 rfl z2)))))) (jmo2 w11 rfl jk_5 (by omega) (jmo2 w9 rfl jk_5 (by omega) (jmo2 w7 rfl jk_5 (by omega) (jmo2 w5 rfl jk_5 (by omega) (jmo2 w3 rfl jk_5 (by omega) (jmo w1 rfl z3)))))) (jmo2 w11 rfl jk_7 (by omega) (jmo2 w9 rfl jk_7 (by omega) (jmo2 w7 rfl jk_7 (by omega) (jmo2 w5 rfl jk_7 (by omega) (jmo2 w3 rfl jk_7 (by omega) (jmo w1 rfl z4)))))) (jmo w11 rfl (jmo w9 rfl (jmo w7 rfl (jmo w5 rfl (jmo w3 rfl (jmo w1 rfl z5)))))) (jmo w11 rfl (jmo w9 rfl (jmo w7 rfl (jmo w5 rfl (jmo w3 rfl (jmo w1 rfl z6)))))) (jmo w11 rfl (jmo w9 rfl (jmo w7 rfl (jmo w5 rfl (jmo w3 rfl (jmw w1)))))) (jmo w11 rfl (jmo w9 rfl (jmo w7 rfl (jmo w5 rfl (jmo w3 rfl (jmo w1 rfl z9)))))) J Sm)
  ·
    refine x_aloadn (x := 125) rfl rfl ?_
    refine x_bipush (v := (-6)) rfl kb_m6 ?_
    refine x_inv (N := m_X12_told) (As := [.int (-6)]) (b := 125) (st := []) (dx9 := 1) (mc := 0) (ms := 0) (host := "") 12 rfl t_X12_told ⟨Or.inl q_12_197, i_X12_told.1, i_X12_told.2⟩ ⟨by decide, rfl⟩ (congrArg Prod.fst (J.1.1 125 (12, 92) rfl)) rfl (by decide) rfl rfl ⟨by decide, by decide⟩ (sf_X12_told_r125  hD J  (fun v15 h J S14 => ?_))
    have ev15 := jfull v15
    have Sm := jSm_tr rfl Sm S14
    show jX m_X12_line 6 0 0 323 [(0, .ref 125), (1, .int l1), (2, .int l2), (3, .int l3), (4, .int l4), (5, .int l5), (7, .int l7), (8, .int l8), (11, .int l11)] [.int v15] _ 0 0 _
    refine x_iret rfl rfl ?_
    exact hQ _ _ J Sm _ _ _ _ _ (jmc S14 rfl (jmo w1 rfl z1)) (jmc S14 rfl (jmo w1 rfl z0)) (jmc S14 rfl (jmo w1 rfl z2)) (jmc S14 rfl (jmo w1 rfl z3)) (jmc S14 rfl (jmo w1 rfl z4)) (by omega)
set_option maxRecDepth 100000 in
set_option maxHeartbeats 4000000 in
theorem ct_X12_line_r125_300269 {Dy : jH → Prop} {h0 : jH} {Q : Option Value → jH → Prop} (hD : jDk Dy) (hQ : ∀ (v : Int32) hx9, jJ jSgM Dy hx9 → jSm fp_X12_line_r125 h0 hx9 → ∀ u0 u1 u2 u3 u4 : Int32, jiv hx9 126 (16 : Int32).toNatClampNeg = u0 → jiv hx9 126 (0 : Int32).toNatClampNeg = u1 → jiv hx9 126 (4 : Int32).toNatClampNeg = u2 → jiv hx9 126 (5 : Int32).toNatClampNeg = u3 → jiv hx9 126 (7 : Int32).toNatClampNeg = u4 → u0.toInt = u1.toInt + u2.toInt + u3.toInt + u4.toInt → Q (some (.int v)) hx9) : ∀ (l1 : Int32) (l2 : Int32) (l3 : Int32) (l4 : Int32) (l5 : Int32) (l7 : Int32) (l8 : Int32) (g0 : Int32) (g1 : Int32) (g2 : Int32) (g3 : Int32) (g4 : Int32) (g5 : Int32) (g6 : Int32) (g7 : Int32) (g8 : Int32) (g9 : Int32) (h : jH), 0 ≤ l1.toInt ∧ l1.toInt ≤ 5 → 0 ≤ l2.toInt ∧ l2.toInt ≤ 15 → 0 ≤ l3.toInt ∧ l3.toInt ≤ 146399 → 0 ≤ l4.toInt ∧ l4.toInt ≤ 146399 → (-1) ≤ l5.toInt ∧ l5.toInt ≤ 100000 → 0 ≤ l7.toInt ∧ l7.toInt ≤ 199 → 20 ≤ l8.toInt ∧ l8.toInt ≤ 17930 → l8.toInt % 90 = 20 → 0 ≤ g0.toInt ∧ g0.toInt ≤ 199 → 0 ≤ g1.toInt ∧ g1.toInt ≤ 369 → 0 ≤ g2.toInt ∧ g2.toInt ≤ 30 → 0 ≤ g3.toInt ∧ g3.toInt ≤ 100 → 0 ≤ g4.toInt ∧ g4.toInt ≤ 40 → 0 ≤ g5.toInt ∧ g5.toInt ≤ 400 → 1 ≤ g6.toInt ∧ g6.toInt ≤ 3 → 0 ≤ g7.toInt ∧ g7.toInt ≤ 0 → 0 ≤ g8.toInt ∧ g8.toInt ≤ 400 → 0 ≤ g9.toInt ∧ g9.toInt ≤ 400 → g1.toInt = g0.toInt + g2.toInt + g3.toInt + g4.toInt → (g5.toInt ≤ g8.toInt ∧ g9.toInt ≤ g5.toInt) → (g6.toInt = 0 ∨ g9.toInt + 1 ≤ g5.toInt) → jiv h 126 (0 : Int32).toNatClampNeg = g0 → jiv h 126 (16 : Int32).toNatClampNeg = g1 → jiv h 126 (4 : Int32).toNatClampNeg = g2 → jiv h 126 (5 : Int32).toNatClampNeg = g3 → jiv h 126 (7 : Int32).toNatClampNeg = g4 → jiv h 125 10 = g5 → jiv h 125 11 = g6 → jiv h 125 14 = g7 → jiv h 125 8 = g8 → jiv h 125 9 = g9 → jJ jSgM Dy h → jSm fp_X12_line_r125 h0 h → jX m_X12_line 6 0 0 269 [(0, .ref 125), (1, .int l1), (2, .int l2), (3, .int l3), (4, .int l4), (5, .int l5), (7, .int l7), (8, .int l8)] [.int 1] h 0 0 Q := by
  intro l1 l2 l3 l4 l5 l7 l8 g0 g1 g2 g3 g4 g5 g6 g7 g8 g9 h y0 y1 y2 y3 y4 y5 y6 y7 y8 y9 y10 y11 y12 y13 y14 y15 y16 y17 y18 y19 y20 z0 z1 z2 z3 z4 z5 z6 z7 z8 z9  J Sm
  refine x_istore (lsx9 := [(11, .int 1), (0, .ref 125), (1, .int l1), (2, .int l2), (3, .int l3), (4, .int l4), (5, .int l5), (7, .int l7), (8, .int l8)]) rfl rfl rfl ?_
  refine x_iload (x := 1) rfl rfl ?_
  refine x_ifeq (tgt := 305) rfl rfl (ti_eq jk_1 jk_0 (br_f (by omega) ?_))
  refine x_aloadn (x := 125) rfl rfl ?_
  refine x_aloadn (x := 125) rfl rfl ?_
  refine x_bipush (v := 46) rfl kb_46 ?_
  refine x_inv (N := m_X12_isSign) (As := [.int 46]) (b := 125) (st := [.ref 125]) (dx9 := 5) (mc := 0) (ms := 0) (host := "") 12 rfl t_X12_isSign ⟨Or.inl q_12_257, i_X12_isSign.1, i_X12_isSign.2⟩ ⟨by decide, rfl⟩ (congrArg Prod.fst (J.1.1 125 (12, 92) rfl)) rfl (by decide) rfl rfl ⟨by decide, by decide⟩ (jC.of rfl k_X12_isSign rfl ?_)
  show jX m_X12_isSign 5 0 0 0 [(0, .ref 125), (1, .int 46)] [] _ 0 0 _
  refine x_aloadn (x := 125) rfl rfl ?_
  refine z_getM (N := 92) (v := g6) 12 11 rfl f_12_235 rfl J rfl z6 ?_
  refine x_iconst (v := 3) rfl ki_3 ?_
  refine x_icne (tgt := 22) rfl rfl (ti_ne rfl jk_3 ⟨fun c1 => ?_, fun c1 => ?_⟩)
  ·
    refine x_iconst (v := 0) rfl ki_0 ?_
    refine x_zret rfl rfl (by decide) ?_
    show jX m_X12_line 6 0 0 283 [(11, .int 1), (0, .ref 125), (1, .int l1), (2, .int l2), (3, .int l3), (4, .int l4), (5, .int l5), (7, .int l7), (8, .int l8)] [.int 0, .ref 125] _ 0 0 _
    refine x_inv (N := m_X12_must) (As := [.int 0]) (b := 125) (st := []) (dx9 := 5) (mc := 0) (ms := 0) (host := "") 12 rfl t_X12_must ⟨Or.inl q_12_250, i_X12_must.1, i_X12_must.2⟩ ⟨by decide, rfl⟩ (congrArg Prod.fst (J.1.1 125 (12, 92) rfl)) rfl (by decide) rfl rfl ⟨by decide, by decide⟩ (jC.of rfl k_X12_must rfl ?_)
    show jX m_X12_must 5 0 0 0 [(0, .ref 125), (1, .int 0)] [] _ 0 0 _
    refine x_aloadn (x := 125) rfl rfl ?_
    refine z_getM (N := 92) (v := g7) 12 14 rfl f_12_214 rfl J rfl z7 ?_
    refine x_ifne (tgt := 24) rfl rfl (ti_ne rfl jk_0 (bn_f (by omega) ?_))
    refine x_iloadn (x := 0) rfl rfl ?_
    refine x_ifne (tgt := 24) rfl rfl (ti_ne jk_0 jk_0 (bn_f (by omega) ?_))
    refine x_aloadn (x := 125) rfl rfl ?_
    refine x_iconst (v := 1) rfl ki_1 ?_
    refine z_putZ (N := 92) (w := 1) 12 14 rfl f_12_214 rfl (jfin_no TX12 RX12 92 rfl rfl) hD J Sm rfl rfl jk_1 (by omega) (pw_125_14 (by omega)) rfl (fun h w2 J Sm => ?_)
    refine x_aloadn (x := 125) rfl rfl ?_
    refine x_aloadn (x := 125) rfl rfl ?_
    refine z_getM (N := 92) (v := g9) 12 9 rfl f_12_221 rfl J rfl (jmo w2 rfl z9) ?_
    refine z_putI (N := 92) (w := g9.toInt) 12 13 rfl f_12_32 rfl (jfin_no TX12 RX12 92 rfl rfl) hD J Sm rfl rfl rfl (pw_125_13 (by omega)) rfl (fun h w3 J Sm => ?_)
    refine x_aloadn (x := 125) rfl rfl ?_
    refine z_getM (N := 92) (v := 1) 12 14 rfl f_12_214 rfl J rfl (jmo w3 rfl (jmw w2)) ?_
    refine x_ifne (tgt := 35) rfl rfl (ti_ne jk_1 jk_0 (bn_t (by omega) ?_))
    refine x_vret rfl rfl ?_
    show jX m_X12_line 6 0 0 286 [(11, .int 1), (0, .ref 125), (1, .int l1), (2, .int l2), (3, .int l3), (4, .int l4), (5, .int l5), (7, .int l7), (8, .int l8)] [] _ 0 0 _
    refine x_aloadn (x := 125) rfl rfl ?_
    refine z_getM (N := 92) (v := 1) 12 14 rfl f_12_214 rfl J rfl (jmo w3 rfl (jmw w2)) ?_
    refine x_ifne (tgt := 305) rfl rfl (ti_ne jk_1 jk_0 (bn_t (by omega) ?_))
    exact jX.sub (jsb_c rfl (jsb_c rfl (jsb_c rfl (jsb_c rfl (jsb_c rfl (jsb_c rfl (jsb_c rfl (jsb_c rfl (jsb_c rfl jsb_n))))))))) (ct_X12_line_r125_305 hD hQ  l1 l2 l3 l4 l5 l7 l8 1 g0 g1 g2 g3 g4 g5 g6 1 g8 g9 h (jr_of rfl (by omega)) (jr_of rfl (by omega)) (jr_of rfl (by omega)) (jr_of rfl (by omega)) (jr_of rfl (by omega)) (jr_of rfl (by omega)) (jr_of rfl (by omega)) (jr_mod rfl (by omega)) (jr_of jk_1 (by omega)) (jr_of rfl (by omega)) (jr_of rfl (by omega)) (jr_of rfl (by omega)) (jr_of rfl (by omega)) (jr_of rfl (by omega)) (jr_of rfl (by omega)) (jr_of rfl (by omega)) (jr_of jk_1 (by omega)) (jr_of rfl (by omega)) (jr_of rfl (by omega)) (by omega) (by omega) (by omega) (jmo w3 rfl (jmo w2 rfl z0)) (jmo w3 rfl (jmo w2 rfl z1)) (jmo w3 rfl (jmo w2 rfl z2)) (jmo w3 rfl (jmo w2 rfl z3)) (jmo w3 rfl (jmo w2 rfl z4)) (jmo w3 rfl (jmo w2 rfl z5)) (jmo w3 rfl (jmo w2 rfl z6)) (jmo w3 rfl (jmw w2)) (jmo w3 rfl (jmo w2 rfl z8)) (jmo w3 rfl (jmo w2 rfl z9)) J Sm)
  ·
    refine x_aloadn (x := 125) rfl rfl ?_
    refine z_getL0 (N := 92) 12 12 rfl f_12_224 rfl J rfl (fun v4 => ?_)
    have ev4 := jfullL v4
    refine x_iloadn (x := 46) rfl rfl ?_
    refine z_i2l rfl jk_46 (fun v5 ev5 => ?_)
    refine z_lcmp rfl rfl rfl (fun v6 ev6 => ?_)
    refine x_ifne (tgt := 22) rfl rfl (ti_ne rfl jk_0 ⟨fun c7 => ?_, fun c7 => ?_⟩)
    ·
      refine x_iconst (v := 0) rfl ki_0 ?_
      refine x_zret rfl rfl (by decide) ?_
      show jX m_X12_line 6 0 0 283 [(11, .int 1), (0, .ref 125), (1, .int l1), (2, .int l2), (3, .int l3), (4, .int l4), (5, .int l5), (7, .int l7), (8, .int l8)] [.int 0, .ref 125] _ 0 0 _
      refine x_inv (N := m_X12_must) (As := [.int 0]) (b := 125) (st := []) (dx9 := 5) (mc := 0) (ms := 0) (host := "") 12 rfl t_X12_must ⟨Or.inl q_12_250, i_X12_must.1, i_X12_must.2⟩ ⟨by decide, rfl⟩ (congrArg Prod.fst (J.1.1 125 (12, 92) rfl)) rfl (by decide) rfl rfl ⟨by decide, by decide⟩ (jC.of rfl k_X12_must rfl ?_)
      show jX m_X12_must 5 0 0 0 [(0, .ref 125), (1, .int 0)] [] _ 0 0 _
      refine x_aloadn (x := 125) rfl rfl ?_
      refine z_getM (N := 92) (v := g7) 12 14 rfl f_12_214 rfl J rfl z7 ?_
      refine x_ifne (tgt := 24) rfl rfl (ti_ne rfl jk_0 (bn_f (by omega) ?_))
      refine x_iloadn (x := 0) rfl rfl ?_
      refine x_ifne (tgt := 24) rfl rfl (ti_ne jk_0 jk_0 (bn_f (by omega) ?_))
      refine x_aloadn (x := 125) rfl rfl ?_
      refine x_iconst (v := 1) rfl ki_1 ?_
      refine z_putZ (N := 92) (w := 1) 12 14 rfl f_12_214 rfl (jfin_no TX12 RX12 92 rfl rfl) hD J Sm rfl rfl jk_1 (by omega) (pw_125_14 (by omega)) rfl (fun h w8 J Sm => ?_)
      refine x_aloadn (x := 125) rfl rfl ?_
      refine x_aloadn (x := 125) rfl rfl ?_
      refine z_getM (N := 92) (v := g9) 12 9 rfl f_12_221 rfl J rfl (jmo w8 rfl z9) ?_
      refine z_putI (N := 92) (w := g9.toInt) 12 13 rfl f_12_32 rfl (jfin_no TX12 RX12 92 rfl rfl) hD J Sm rfl rfl rfl (pw_125_13 (by omega)) rfl (fun h w9 J Sm => ?_)
      refine x_aloadn (x := 125) rfl rfl ?_
      refine z_getM (N := 92) (v := 1) 12 14 rfl f_12_214 rfl J rfl (jmo w9 rfl (jmw w8)) ?_
      refine x_ifne (tgt := 35) rfl rfl (ti_ne jk_1 jk_0 (bn_t (by omega) ?_))
      refine x_vret rfl rfl ?_
      show jX m_X12_line 6 0 0 286 [(11, .int 1), (0, .ref 125), (1, .int l1), (2, .int l2), (3, .int l3), (4, .int l4), (5, .int l5), (7, .int l7), (8, .int l8)] [] _ 0 0 _
      refine x_aloadn (x := 125) rfl rfl ?_
      refine z_getM (N := 92) (v := 1) 12 14 rfl f_12_214 rfl J rfl (jmo w9 rfl (jmw w8)) ?_
      refine x_ifne (tgt := 305) rfl rfl (ti_ne jk_1 jk_0 (bn_t (by omega) ?_))
      exact jX.sub (jsb_c rfl (jsb_c rfl (jsb_c rfl (jsb_c rfl (jsb_c rfl (jsb_c rfl (jsb_c rfl (jsb_c rfl (jsb_c rfl jsb_n))))))))) (ct_X12_line_r125_305 hD hQ  l1 l2 l3 l4 l5 l7 l8 1 g0 g1 g2 g3 g4 g5 g6 1 g8 g9 h (jr_of rfl (by omega)) (jr_of rfl (by omega)) (jr_of rfl (by omega)) (jr_of rfl (by omega)) (jr_of rfl (by omega)) (jr_of rfl (by omega)) (jr_of rfl (by omega)) (jr_mod rfl (by omega)) (jr_of jk_1 (by omega)) (jr_of rfl (by omega)) (jr_of rfl (by omega)) (jr_of rfl (by omega)) (jr_of rfl (by omega)) (jr_of rfl (by omega)) (jr_of rfl (by omega)) (jr_of rfl (by omega)) (jr_of jk_1 (by omega)) (jr_of rfl (by omega)) (jr_of rfl (by omega)) (by omega) (by omega) (by omega) (jmo w9 rfl (jmo w8 rfl z0)) (jmo w9 rfl (jmo w8 rfl z1)) (jmo w9 rfl (jmo w8 rfl z2)) (jmo w9 rfl (jmo w8 rfl z3)) (jmo w9 rfl (jmo w8 rfl z4)) (jmo w9 rfl (jmo w8 rfl z5)) (jmo w9 rfl (jmo w8 rfl z6)) (jmo w9 rfl (jmw w8)) (jmo w9 rfl (jmo w8 rfl z8)) (jmo w9 rfl (jmo w8 rfl z9)) J Sm)
    ·
      refine x_iconst (v := 1) rfl ki_1 ?_
      refine x_goto (tgt := 23) rfl rfl ?_
      refine x_zret rfl rfl (by decide) ?_
      show jX m_X12_line 6 0 0 283 [(11, .int 1), (0, .ref 125), (1, .int l1), (2, .int l2), (3, .int l3), (4, .int l4), (5, .int l5), (7, .int l7), (8, .int l8)] [.int 1, .ref 125] _ 0 0 _
      refine x_inv (N := m_X12_must) (As := [.int 1]) (b := 125) (st := []) (dx9 := 5) (mc := 0) (ms := 0) (host := "") 12 rfl t_X12_must ⟨Or.inl q_12_250, i_X12_must.1, i_X12_must.2⟩ ⟨by decide, rfl⟩ (congrArg Prod.fst (J.1.1 125 (12, 92) rfl)) rfl (by decide) rfl rfl ⟨by decide, by decide⟩ (jC.of rfl k_X12_must rfl ?_)
      show jX m_X12_must 5 0 0 0 [(0, .ref 125), (1, .int 1)] [] _ 0 0 _
      refine x_aloadn (x := 125) rfl rfl ?_
      refine z_getM (N := 92) (v := g7) 12 14 rfl f_12_214 rfl J rfl z7 ?_
      refine x_ifne (tgt := 24) rfl rfl (ti_ne rfl jk_0 (bn_f (by omega) ?_))
      refine x_iloadn (x := 1) rfl rfl ?_
      refine x_ifne (tgt := 24) rfl rfl (ti_ne jk_1 jk_0 (bn_t (by omega) ?_))
      refine x_aloadn (x := 125) rfl rfl ?_
      refine z_getM (N := 92) (v := g7) 12 14 rfl f_12_214 rfl J rfl z7 ?_
      refine x_ifne (tgt := 35) rfl rfl (ti_ne rfl jk_0 (bn_f (by omega) ?_))
      refine x_aloadn (x := 125) rfl rfl ?_
      refine x_inv (N := m_X12_next) (As := []) (b := 125) (st := []) (dx9 := 2) (mc := 0) (ms := 0) (host := "") 12 rfl t_X12_next ⟨Or.inl q_12_218, i_X12_next.1, i_X12_next.2⟩ ⟨by decide, rfl⟩ (congrArg Prod.fst (J.1.1 125 (12, 92) rfl)) rfl (by decide) rfl rfl ⟨by decide, by decide⟩ (sf_X12_next_r125  hD J z5 z8 (by omega)  (fun h J S10 u11 u12 u13 qu11 qu12 qu13 ru11 u14 u15 u16 qu14 qu15 qu16 ru14 P17 => ?_))
      have Sm := jSm_tr rfl Sm S10
      have eu11 := (show 0 ≤ u11.toInt ∧ u11.toInt ≤ 400 from qu11 ▸ jrg_f J sg_125_10_11_1_0_1)
      have eu12 := (show 0 ≤ u12.toInt ∧ u12.toInt ≤ 400 from qu12 ▸ jrg_f J sg_125_8_9_1_0_1)
      have eu13 := (show 0 ≤ u13.toInt ∧ u13.toInt ≤ 400 from qu13 ▸ jrg_f J sg_125_9_10_1_0_1)
      have eu14 := (show 0 ≤ u14.toInt ∧ u14.toInt ≤ 3 from qu14 ▸ jrg_f J sg_125_11_12_1_0_1)
      obtain rfl : u13 = u15 := qu13.symm.trans qu15
      obtain rfl : u11 = u16 := qu11.symm.trans qu16
      have nfP17 := jnf P17.1 z5 qu13
      show jX m_X12_must 5 0 0 35 [(0, .ref 125), (1, .int 1)] [] _ 0 0 _
      refine x_vret rfl rfl ?_
      show jX m_X12_line 6 0 0 286 [(11, .int 1), (0, .ref 125), (1, .int l1), (2, .int l2), (3, .int l3), (4, .int l4), (5, .int l5), (7, .int l7), (8, .int l8)] [] _ 0 0 _
      refine x_aloadn (x := 125) rfl rfl ?_
      refine z_getM (N := 92) (v := g7) 12 14 rfl f_12_214 rfl J rfl (jmc S10 rfl z7) ?_
      refine x_ifne (tgt := 305) rfl rfl (ti_ne rfl jk_0 (bn_f (by omega) ?_))
      refine x_aloadn (x := 125) rfl rfl ?_
      refine z_getM (N := 92) (v := u14) 12 11 rfl f_12_235 rfl J rfl qu14 ?_
      refine x_ifeq (tgt := 305) rfl rfl (ti_eq rfl jk_0 ⟨fun c18 => ?_, fun c18 => ?_⟩)
      ·
        exact jX.sub (jsb_c rfl (jsb_c rfl (jsb_c rfl (jsb_c rfl (jsb_c rfl (jsb_c rfl (jsb_c rfl (jsb_c rfl (jsb_c rfl jsb_n))))))))) (ct_X12_line_r125_305 hD hQ  l1 l2 l3 l4 l5 l7 l8 1 g0 g1 g2 g3 g4 u11 u14 g7 u12 u13 h (jr_of rfl (by omega)) (jr_of rfl (by omega)) (jr_of rfl (by omega)) (jr_of rfl (by omega)) (jr_of rfl (by omega)) (jr_of rfl (by omega)) (jr_of rfl (by omega)) (jr_mod rfl (by omega)) (jr_of jk_1 (by omega)) (jr_of rfl (by omega)) (jr_of rfl (by omega)) (jr_of rfl (by omega)) (jr_of rfl (by omega)) (jr_of rfl (by omega)) (jr_of rfl (by omega)) (jr_of rfl (by omega)) (jr_of rfl (by omega)) (jr_of rfl (by omega)) (jr_of rfl (by omega)) (by omega) (by omega) (by omega) (jmc S10 rfl z0) (jmc S10 rfl z1) (jmc S10 rfl z2) (jmc S10 rfl z3) (jmc S10 rfl z4) qu11 qu14 (jmc S10 rfl z7) qu12 qu13 J Sm)
      ·
        refine x_aloadn (x := 125) rfl rfl ?_
        refine x_iconst (v := 0) rfl ki_0 ?_
        refine x_inv (N := m_X12_must) (As := [.int 0]) (b := 125) (st := []) (dx9 := 5) (mc := 0) (ms := 0) (host := "") 12 rfl t_X12_must ⟨Or.inl q_12_250, i_X12_must.1, i_X12_must.2⟩ ⟨by decide, rfl⟩ (congrArg Prod.fst (J.1.1 125 (12, 92) rfl)) rfl (by decide) rfl rfl ⟨by decide, by decide⟩ (jC.of rfl k_X12_must rfl ?_)
        show jX m_X12_must 5 0 0 0 [(0, .ref 125), (1, .int 0)] [] _ 0 0 _
        refine x_aloadn (x := 125) rfl rfl ?_
        refine z_getM (N := 92) (v := g7) 12 14 rfl f_12_214 rfl J rfl (jmc S10 rfl z7) ?_
        refine x_ifne (tgt := 24) rfl rfl (ti_ne rfl jk_0 (bn_f (by omega) ?_))
        refine x_iloadn (x := 0) rfl rfl ?_
        refine x_ifne (tgt := 24) rfl rfl (ti_ne jk_0 jk_0 (bn_f (by omega) ?_))
        refine x_aloadn (x := 125) rfl rfl ?_
        refine x_iconst (v := 1) rfl ki_1 ?_
        refine z_putZ (N := 92) (w := 1) 12 14 rfl f_12_214 rfl (jfin_no TX12 RX12 92 rfl rfl) hD J Sm rfl rfl jk_1 (by omega) (pw_125_14 (by omega)) rfl (fun h w19 J Sm => ?_)
        refine x_aloadn (x := 125) rfl rfl ?_
        refine x_aloadn (x := 125) rfl rfl ?_
        refine z_getM (N := 92) (v := u13) 12 9 rfl f_12_221 rfl J rfl (jmo w19 rfl qu13) ?_
        refine z_putI (N := 92) (w := u13.toInt) 12 13 rfl f_12_32 rfl (jfin_no TX12 RX12 92 rfl rfl) hD J Sm rfl rfl rfl (pw_125_13 (by omega)) rfl (fun h w20 J Sm => ?_)
        refine x_aloadn (x := 125) rfl rfl ?_
        refine z_getM (N := 92) (v := 1) 12 14 rfl f_12_214 rfl J rfl (jmo w20 rfl (jmw w19)) ?_
        refine x_ifne (tgt := 35) rfl rfl (ti_ne jk_1 jk_0 (bn_t (by omega) ?_))
        refine x_vret rfl rfl ?_
        show jX m_X12_line 6 0 0 305 [(11, .int 1), (0, .ref 125), (1, .int l1), (2, .int l2), (3, .int l3), (4, .int l4), (5, .int l5), (7, .int l7), (8, .int l8)] [] _ 0 0 _
        exact jX.sub (jsb_c rfl (jsb_c rfl (jsb_c rfl (jsb_c rfl (jsb_c rfl (jsb_c rfl (jsb_c rfl (jsb_c rfl (jsb_c rfl jsb_n))))))))) (ct_X12_line_r125_305 hD hQ  l1 l2 l3 l4 l5 l7 l8 1 g0 g1 g2 g3 g4 u11 u14 1 u12 u13 h (jr_of rfl (by omega)) (jr_of rfl (by omega)) (jr_of rfl (by omega)) (jr_of rfl (by omega)) (jr_of rfl (by omega)) (jr_of rfl (by omega)) (jr_of rfl (by omega)) (jr_mod rfl (by omega)) (jr_of jk_1 (by omega)) (jr_of rfl (by omega)) (jr_of rfl (by omega)) (jr_of rfl (by omega)) (jr_of rfl (by omega)) (jr_of rfl (by omega)) (jr_of rfl (by omega)) (jr_of rfl (by omega)) (jr_of jk_1 (by omega)) (jr_of rfl (by omega)) (jr_of rfl (by omega)) (by omega) (by omega) (by omega) (jmo w20 rfl (jmo w19 rfl (jmc S10 rfl z0))) (jmo w20 rfl (jmo w19 rfl (jmc S10 rfl z1))) (jmo w20 rfl (jmo w19 rfl (jmc S10 rfl z2))) (jmo w20 rfl (jmo w19 rfl (jmc S10 rfl z3))) (jmo w20 rfl (jmo w19 rfl (jmc S10 rfl z4))) (jmo w20 rfl (jmo w19 rfl qu11)) (jmo w20 rfl (jmo w19 rfl qu14)) (jmo w20 rfl (jmw w19)) (jmo w20 rfl (jmo w19 rfl qu12)) (jmo w20 rfl (jmo w19 rfl qu13)) J Sm)
set_option maxRecDepth 100000 in
set_option maxHeartbeats 4000000 in
theorem ct_X12_line_r125_200269 {Dy : jH → Prop} {h0 : jH} {Q : Option Value → jH → Prop} (hD : jDk Dy) (hQ : ∀ (v : Int32) hx9, jJ jSgM Dy hx9 → jSm fp_X12_line_r125 h0 hx9 → ∀ u0 u1 u2 u3 u4 : Int32, jiv hx9 126 (16 : Int32).toNatClampNeg = u0 → jiv hx9 126 (0 : Int32).toNatClampNeg = u1 → jiv hx9 126 (4 : Int32).toNatClampNeg = u2 → jiv hx9 126 (5 : Int32).toNatClampNeg = u3 → jiv hx9 126 (7 : Int32).toNatClampNeg = u4 → u0.toInt = u1.toInt + u2.toInt + u3.toInt + u4.toInt → Q (some (.int v)) hx9) : ∀ (l1 : Int32) (l2 : Int32) (l3 : Int32) (l4 : Int32) (l5 : Int32) (l7 : Int32) (l8 : Int32) (g0 : Int32) (g1 : Int32) (g2 : Int32) (g3 : Int32) (g4 : Int32) (g5 : Int32) (g6 : Int32) (g7 : Int32) (g8 : Int32) (g9 : Int32) (h : jH), 0 ≤ l1.toInt ∧ l1.toInt ≤ 5 → 0 ≤ l2.toInt ∧ l2.toInt ≤ 15 → 0 ≤ l3.toInt ∧ l3.toInt ≤ 146399 → 0 ≤ l4.toInt ∧ l4.toInt ≤ 146399 → (-1) ≤ l5.toInt ∧ l5.toInt ≤ 100000 → 0 ≤ l7.toInt ∧ l7.toInt ≤ 199 → 20 ≤ l8.toInt ∧ l8.toInt ≤ 17930 → l8.toInt % 90 = 20 → 0 ≤ g0.toInt ∧ g0.toInt ≤ 199 → 0 ≤ g1.toInt ∧ g1.toInt ≤ 369 → 0 ≤ g2.toInt ∧ g2.toInt ≤ 30 → 0 ≤ g3.toInt ∧ g3.toInt ≤ 100 → 0 ≤ g4.toInt ∧ g4.toInt ≤ 40 → 0 ≤ g5.toInt ∧ g5.toInt ≤ 400 → 0 ≤ g6.toInt ∧ g6.toInt ≤ 3 → 0 ≤ g7.toInt ∧ g7.toInt ≤ 1 → 0 ≤ g8.toInt ∧ g8.toInt ≤ 400 → 0 ≤ g9.toInt ∧ g9.toInt ≤ 400 → g1.toInt = g0.toInt + g2.toInt + g3.toInt + g4.toInt → (g5.toInt ≤ g8.toInt ∧ g9.toInt ≤ g5.toInt) → (g6.toInt = 0 ∨ g9.toInt + 1 ≤ g5.toInt) → jiv h 126 (0 : Int32).toNatClampNeg = g0 → jiv h 126 (16 : Int32).toNatClampNeg = g1 → jiv h 126 (4 : Int32).toNatClampNeg = g2 → jiv h 126 (5 : Int32).toNatClampNeg = g3 → jiv h 126 (7 : Int32).toNatClampNeg = g4 → jiv h 125 10 = g5 → jiv h 125 11 = g6 → jiv h 125 14 = g7 → jiv h 125 8 = g8 → jiv h 125 9 = g9 → jJ jSgM Dy h → jSm fp_X12_line_r125 h0 h → jX m_X12_line 6 0 0 269 [(0, .ref 125), (1, .int l1), (2, .int l2), (3, .int l3), (4, .int l4), (5, .int l5), (7, .int l7), (8, .int l8)] [.int 0] h 0 0 Q := by
  intro l1 l2 l3 l4 l5 l7 l8 g0 g1 g2 g3 g4 g5 g6 g7 g8 g9 h y0 y1 y2 y3 y4 y5 y6 y7 y8 y9 y10 y11 y12 y13 y14 y15 y16 y17 y18 y19 y20 z0 z1 z2 z3 z4 z5 z6 z7 z8 z9  J Sm
  refine x_istore (lsx9 := [(11, .int 0), (0, .ref 125), (1, .int l1), (2, .int l2), (3, .int l3), (4, .int l4), (5, .int l5), (7, .int l7), (8, .int l8)]) rfl rfl rfl ?_
  refine x_iload (x := 0) rfl rfl ?_
  refine x_ifeq (tgt := 305) rfl rfl (ti_eq jk_0 jk_0 (br_t (by omega) ?_))
  exact jX.sub (jsb_c rfl (jsb_c rfl (jsb_c rfl (jsb_c rfl (jsb_c rfl (jsb_c rfl (jsb_c rfl (jsb_c rfl (jsb_c rfl jsb_n))))))))) (ct_X12_line_r125_305 hD hQ  l1 l2 l3 l4 l5 l7 l8 0 g0 g1 g2 g3 g4 g5 g6 g7 g8 g9 h (jr_of rfl (by omega)) (jr_of rfl (by omega)) (jr_of rfl (by omega)) (jr_of rfl (by omega)) (jr_of rfl (by omega)) (jr_of rfl (by omega)) (jr_of rfl (by omega)) (jr_mod rfl (by omega)) (jr_of jk_0 (by omega)) (jr_of rfl (by omega)) (jr_of rfl (by omega)) (jr_of rfl (by omega)) (jr_of rfl (by omega)) (jr_of rfl (by omega)) (jr_of rfl (by omega)) (jr_of rfl (by omega)) (jr_of rfl (by omega)) (jr_of rfl (by omega)) (jr_of rfl (by omega)) (by omega) (by omega) (by omega) z0 z1 z2 z3 z4 z5 z6 z7 z8 z9 J Sm)
set_option maxRecDepth 100000 in
set_option maxHeartbeats 4000000 in
theorem ct_X12_line_r125_268 {Dy : jH → Prop} {h0 : jH} {Q : Option Value → jH → Prop} (hD : jDk Dy) (hQ : ∀ (v : Int32) hx9, jJ jSgM Dy hx9 → jSm fp_X12_line_r125 h0 hx9 → ∀ u0 u1 u2 u3 u4 : Int32, jiv hx9 126 (16 : Int32).toNatClampNeg = u0 → jiv hx9 126 (0 : Int32).toNatClampNeg = u1 → jiv hx9 126 (4 : Int32).toNatClampNeg = u2 → jiv hx9 126 (5 : Int32).toNatClampNeg = u3 → jiv hx9 126 (7 : Int32).toNatClampNeg = u4 → u0.toInt = u1.toInt + u2.toInt + u3.toInt + u4.toInt → Q (some (.int v)) hx9) : ∀ (l1 : Int32) (l2 : Int32) (l3 : Int32) (l4 : Int32) (l5 : Int32) (l7 : Int32) (l8 : Int32) (g0 : Int32) (g1 : Int32) (g2 : Int32) (g3 : Int32) (g4 : Int32) (g5 : Int32) (g6 : Int32) (g7 : Int32) (g8 : Int32) (g9 : Int32) (h : jH), 0 ≤ l1.toInt ∧ l1.toInt ≤ 5 → 0 ≤ l2.toInt ∧ l2.toInt ≤ 15 → 0 ≤ l3.toInt ∧ l3.toInt ≤ 146399 → 0 ≤ l4.toInt ∧ l4.toInt ≤ 146399 → (-1) ≤ l5.toInt ∧ l5.toInt ≤ 100000 → 0 ≤ l7.toInt ∧ l7.toInt ≤ 199 → 20 ≤ l8.toInt ∧ l8.toInt ≤ 17930 → l8.toInt % 90 = 20 → 0 ≤ g0.toInt ∧ g0.toInt ≤ 199 → 0 ≤ g1.toInt ∧ g1.toInt ≤ 369 → 0 ≤ g2.toInt ∧ g2.toInt ≤ 30 → 0 ≤ g3.toInt ∧ g3.toInt ≤ 100 → 0 ≤ g4.toInt ∧ g4.toInt ≤ 40 → 0 ≤ g5.toInt ∧ g5.toInt ≤ 400 → 0 ≤ g6.toInt ∧ g6.toInt ≤ 3 → 0 ≤ g7.toInt ∧ g7.toInt ≤ 1 → 0 ≤ g8.toInt ∧ g8.toInt ≤ 400 → 0 ≤ g9.toInt ∧ g9.toInt ≤ 400 → g1.toInt = g0.toInt + g2.toInt + g3.toInt + g4.toInt → (g5.toInt ≤ g8.toInt ∧ g9.toInt ≤ g5.toInt) → (g6.toInt = 0 ∨ g9.toInt + 1 ≤ g5.toInt) → jiv h 126 (0 : Int32).toNatClampNeg = g0 → jiv h 126 (16 : Int32).toNatClampNeg = g1 → jiv h 126 (4 : Int32).toNatClampNeg = g2 → jiv h 126 (5 : Int32).toNatClampNeg = g3 → jiv h 126 (7 : Int32).toNatClampNeg = g4 → jiv h 125 10 = g5 → jiv h 125 11 = g6 → jiv h 125 14 = g7 → jiv h 125 8 = g8 → jiv h 125 9 = g9 → jJ jSgM Dy h → jSm fp_X12_line_r125 h0 h → jX m_X12_line 6 0 0 268 [(0, .ref 125), (1, .int l1), (2, .int l2), (3, .int l3), (4, .int l4), (5, .int l5), (7, .int l7), (8, .int l8)] [] h 0 0 Q := by
  intro l1 l2 l3 l4 l5 l7 l8 g0 g1 g2 g3 g4 g5 g6 g7 g8 g9 h y0 y1 y2 y3 y4 y5 y6 y7 y8 y9 y10 y11 y12 y13 y14 y15 y16 y17 y18 y19 y20 z0 z1 z2 z3 z4 z5 z6 z7 z8 z9  J Sm
  refine x_iconst (v := 0) rfl ki_0 ?_
  exact jX.sub (jsb_c rfl (jsb_c rfl (jsb_c rfl (jsb_c rfl (jsb_c rfl (jsb_c rfl (jsb_c rfl (jsb_c rfl jsb_n)))))))) (ct_X12_line_r125_200269 hD hQ  l1 l2 l3 l4 l5 l7 l8 g0 g1 g2 g3 g4 g5 g6 g7 g8 g9 h (jr_of rfl (by omega)) (jr_of rfl (by omega)) (jr_of rfl (by omega)) (jr_of rfl (by omega)) (jr_of rfl (by omega)) (jr_of rfl (by omega)) (jr_of rfl (by omega)) (jr_mod rfl (by omega)) (jr_of rfl (by omega)) (jr_of rfl (by omega)) (jr_of rfl (by omega)) (jr_of rfl (by omega)) (jr_of rfl (by omega)) (jr_of rfl (by omega)) (jr_of rfl (by omega)) (jr_of rfl (by omega)) (jr_of rfl (by omega)) (jr_of rfl (by omega)) (by omega) (by omega) (by omega) z0 z1 z2 z3 z4 z5 z6 z7 z8 z9 J Sm)
set_option maxRecDepth 100000 in
set_option maxHeartbeats 4000000 in
theorem ct_X12_line_r125_250 {Dy : jH → Prop} {h0 : jH} {Q : Option Value → jH → Prop} (hD : jDk Dy) (hQ : ∀ (v : Int32) hx9, jJ jSgM Dy hx9 → jSm fp_X12_line_r125 h0 hx9 → ∀ u0 u1 u2 u3 u4 : Int32, jiv hx9 126 (16 : Int32).toNatClampNeg = u0 → jiv hx9 126 (0 : Int32).toNatClampNeg = u1 → jiv hx9 126 (4 : Int32).toNatClampNeg = u2 → jiv hx9 126 (5 : Int32).toNatClampNeg = u3 → jiv hx9 126 (7 : Int32).toNatClampNeg = u4 → u0.toInt = u1.toInt + u2.toInt + u3.toInt + u4.toInt → Q (some (.int v)) hx9) : ∀ (l1 : Int32) (l2 : Int32) (l3 : Int32) (l4 : Int32) (l5 : Int32) (l7 : Int32) (l8 : Int32) (g0 : Int32) (g1 : Int32) (g2 : Int32) (g3 : Int32) (g4 : Int32) (g5 : Int32) (g6 : Int32) (g7 : Int32) (g8 : Int32) (g9 : Int32) (h : jH), 0 ≤ l1.toInt ∧ l1.toInt ≤ 5 → 0 ≤ l2.toInt ∧ l2.toInt ≤ 15 → 0 ≤ l3.toInt ∧ l3.toInt ≤ 146399 → 0 ≤ l4.toInt ∧ l4.toInt ≤ 146399 → (-1) ≤ l5.toInt ∧ l5.toInt ≤ 100000 → 0 ≤ l7.toInt ∧ l7.toInt ≤ 199 → 20 ≤ l8.toInt ∧ l8.toInt ≤ 17930 → l8.toInt % 90 = 20 → 0 ≤ g0.toInt ∧ g0.toInt ≤ 199 → 0 ≤ g1.toInt ∧ g1.toInt ≤ 369 → 0 ≤ g2.toInt ∧ g2.toInt ≤ 30 → 0 ≤ g3.toInt ∧ g3.toInt ≤ 100 → 0 ≤ g4.toInt ∧ g4.toInt ≤ 40 → 0 ≤ g5.toInt ∧ g5.toInt ≤ 400 → 0 ≤ g6.toInt ∧ g6.toInt ≤ 3 → 0 ≤ g7.toInt ∧ g7.toInt ≤ 1 → 0 ≤ g8.toInt ∧ g8.toInt ≤ 400 → 0 ≤ g9.toInt ∧ g9.toInt ≤ 400 → g1.toInt = g0.toInt + g2.toInt + g3.toInt + g4.toInt → (g5.toInt ≤ g8.toInt ∧ g9.toInt ≤ g5.toInt) → (g6.toInt = 0 ∨ g9.toInt + 1 ≤ g5.toInt) → jiv h 126 (0 : Int32).toNatClampNeg = g0 → jiv h 126 (16 : Int32).toNatClampNeg = g1 → jiv h 126 (4 : Int32).toNatClampNeg = g2 → jiv h 126 (5 : Int32).toNatClampNeg = g3 → jiv h 126 (7 : Int32).toNatClampNeg = g4 → jiv h 125 10 = g5 → jiv h 125 11 = g6 → jiv h 125 14 = g7 → jiv h 125 8 = g8 → jiv h 125 9 = g9 → jJ jSgM Dy h → jSm fp_X12_line_r125 h0 h → jX m_X12_line 6 0 0 250 [(0, .ref 125), (1, .int l1), (2, .int l2), (3, .int l3), (4, .int l4), (5, .int l5), (7, .int l7), (8, .int l8)] [] h 0 0 Q := by
  intro l1 l2 l3 l4 l5 l7 l8 g0 g1 g2 g3 g4 g5 g6 g7 g8 g9 h y0 y1 y2 y3 y4 y5 y6 y7 y8 y9 y10 y11 y12 y13 y14 y15 y16 y17 y18 y19 y20 z0 z1 z2 z3 z4 z5 z6 z7 z8 z9  J Sm
  refine x_aloadn (x := 125) rfl rfl ?_
  refine z_getM (N := 92) (v := g7) 12 14 rfl f_12_214 rfl J rfl z7 ?_
  refine x_ifne (tgt := 268) rfl rfl (ti_ne rfl jk_0 ⟨fun c1 => ?_, fun c1 => ?_⟩)
  ·
    exact jX.sub (jsb_c rfl (jsb_c rfl (jsb_c rfl (jsb_c rfl (jsb_c rfl (jsb_c rfl (jsb_c rfl (jsb_c rfl jsb_n)))))))) (ct_X12_line_r125_268 hD hQ  l1 l2 l3 l4 l5 l7 l8 g0 g1 g2 g3 g4 g5 g6 g7 g8 g9 h (jr_of rfl (by omega)) (jr_of rfl (by omega)) (jr_of rfl (by omega)) (jr_of rfl (by omega)) (jr_of rfl (by omega)) (jr_of rfl (by omega)) (jr_of rfl (by omega)) (jr_mod rfl (by omega)) (jr_of rfl (by omega)) (jr_of rfl (by omega)) (jr_of rfl (by omega)) (jr_of rfl (by omega)) (jr_of rfl (by omega)) (jr_of rfl (by omega)) (jr_of rfl (by omega)) (jr_of rfl (by omega)) (jr_of rfl (by omega)) (jr_of rfl (by omega)) (by omega) (by omega) (by omega) z0 z1 z2 z3 z4 z5 z6 z7 z8 z9 J Sm)
  ·
    refine x_aloadn (x := 125) rfl rfl ?_
    refine z_getM (N := 92) (v := g6) 12 11 rfl f_12_235 rfl J rfl z6 ?_
    refine x_ifeq (tgt := 268) rfl rfl (ti_eq rfl jk_0 ⟨fun c2 => ?_, fun c2 => ?_⟩)
    ·
      exact jX.sub (jsb_c rfl (jsb_c rfl (jsb_c rfl (jsb_c rfl (jsb_c rfl (jsb_c rfl (jsb_c rfl (jsb_c rfl jsb_n)))))))) (ct_X12_line_r125_268 hD hQ  l1 l2 l3 l4 l5 l7 l8 g0 g1 g2 g3 g4 g5 g6 g7 g8 g9 h (jr_of rfl (by omega)) (jr_of rfl (by omega)) (jr_of rfl (by omega)) (jr_of rfl (by omega)) (jr_of rfl (by omega)) (jr_of rfl (by omega)) (jr_of rfl (by omega)) (jr_mod rfl (by omega)) (jr_of rfl (by omega)) (jr_of rfl (by omega)) (jr_of rfl (by omega)) (jr_of rfl (by omega)) (jr_of rfl (by omega)) (jr_of rfl (by omega)) (jr_of rfl (by omega)) (jr_of rfl (by omega)) (jr_of rfl (by omega)) (jr_of rfl (by omega)) (by omega) (by omega) (by omega) z0 z1 z2 z3 z4 z5 z6 z7 z8 z9 J Sm)
    ·
      refine x_iconst (v := 1) rfl ki_1 ?_
      refine x_goto (tgt := 269) rfl rfl ?_
      exact jX.sub (jsb_c rfl (jsb_c rfl (jsb_c rfl (jsb_c rfl (jsb_c rfl (jsb_c rfl (jsb_c rfl (jsb_c rfl jsb_n)))))))) (ct_X12_line_r125_300269 hD hQ  l1 l2 l3 l4 l5 l7 l8 g0 g1 g2 g3 g4 g5 g6 g7 g8 g9 h (jr_of rfl (by omega)) (jr_of rfl (by omega)) (jr_of rfl (by omega)) (jr_of rfl (by omega)) (jr_of rfl (by omega)) (jr_of rfl (by omega)) (jr_of rfl (by omega)) (jr_mod rfl (by omega)) (jr_of rfl (by omega)) (jr_of rfl (by omega)) (jr_of rfl (by omega)) (jr_of rfl (by omega)) (jr_of rfl (by omega)) (jr_of rfl (by omega)) (jr_of rfl (by omega)) (jr_of rfl (by omega)) (jr_of rfl (by omega)) (jr_of rfl (by omega)) (by omega) (by omega) (by omega) z0 z1 z2 z3 z4 z5 z6 z7 z8 z9 J Sm)
set_option maxRecDepth 100000 in
set_option maxHeartbeats 4000000 in
theorem ct_X12_line_r125_200244 {Dy : jH → Prop} {h0 : jH} {Q : Option Value → jH → Prop} {R171 : Int} (hD : jDk Dy) (hQ : ∀ (v : Int32) hx9, jJ jSgM Dy hx9 → jSm fp_X12_line_r125 h0 hx9 → ∀ u0 u1 u2 u3 u4 : Int32, jiv hx9 126 (16 : Int32).toNatClampNeg = u0 → jiv hx9 126 (0 : Int32).toNatClampNeg = u1 → jiv hx9 126 (4 : Int32).toNatClampNeg = u2 → jiv hx9 126 (5 : Int32).toNatClampNeg = u3 → jiv hx9 126 (7 : Int32).toNatClampNeg = u4 → u0.toInt = u1.toInt + u2.toInt + u3.toInt + u4.toInt → Q (some (.int v)) hx9) (k171 : ∀ (l1 : Int32) (l2 : Int32) (l3 : Int32) (l4 : Int32) (l5 : Int32) (l7 : Int32) (l8 : Int32) (l9 : Int32) (l10 : Int32) (g0 : Int32) (g1 : Int32) (g2 : Int32) (g3 : Int32) (g4 : Int32) (g5 : Int32) (g6 : Int32) (g7 : Int32) (g8 : Int32) (g9 : Int32) (h : jH), 3 - l9.toInt < R171 → 0 ≤ l1.toInt ∧ l1.toInt ≤ 5 → 0 ≤ l2.toInt ∧ l2.toInt ≤ 15 → 0 ≤ l3.toInt ∧ l3.toInt ≤ 146399 → 0 ≤ l4.toInt ∧ l4.toInt ≤ 146399 → (-1) ≤ l5.toInt ∧ l5.toInt ≤ 100000 → 0 ≤ l7.toInt ∧ l7.toInt ≤ 199 → 20 ≤ l8.toInt ∧ l8.toInt ≤ 17930 → l8.toInt % 90 = 20 → 0 ≤ l9.toInt ∧ l9.toInt ≤ 3 → 0 ≤ l10.toInt ∧ l10.toInt ≤ 1 → 0 ≤ g0.toInt ∧ g0.toInt ≤ 199 → 0 ≤ g1.toInt ∧ g1.toInt ≤ 369 → 0 ≤ g2.toInt ∧ g2.toInt ≤ 30 → 0 ≤ g3.toInt ∧ g3.toInt ≤ 100 → 0 ≤ g4.toInt ∧ g4.toInt ≤ 40 → 0 ≤ g5.toInt ∧ g5.toInt ≤ 400 → 0 ≤ g6.toInt ∧ g6.toInt ≤ 3 → 0 ≤ g7.toInt ∧ g7.toInt ≤ 1 → 0 ≤ g8.toInt ∧ g8.toInt ≤ 400 → 0 ≤ g9.toInt ∧ g9.toInt ≤ 400 → (l10.toInt = 0 ∨ g7.toInt ≠ 0 ∨ l9.toInt ≤ 2) → g1.toInt = g0.toInt + g2.toInt + g3.toInt + g4.toInt → (g5.toInt ≤ g8.toInt ∧ g9.toInt ≤ g5.toInt) → (g6.toInt = 0 ∨ g9.toInt + 1 ≤ g5.toInt) → jiv h 126 (0 : Int32).toNatClampNeg = g0 → jiv h 126 (16 : Int32).toNatClampNeg = g1 → jiv h 126 (4 : Int32).toNatClampNeg = g2 → jiv h 126 (5 : Int32).toNatClampNeg = g3 → jiv h 126 (7 : Int32).toNatClampNeg = g4 → jiv h 125 10 = g5 → jiv h 125 11 = g6 → jiv h 125 14 = g7 → jiv h 125 8 = g8 → jiv h 125 9 = g9 → jJ jSgM Dy h → jSm fp_X12_line_r125 h0 h → jX m_X12_line 6 0 0 171 [(0, .ref 125), (1, .int l1), (2, .int l2), (3, .int l3), (4, .int l4), (5, .int l5), (7, .int l7), (8, .int l8), (9, .int l9), (10, .int l10)] [] h 0 0 Q) : ∀ (l1 : Int32) (l2 : Int32) (l3 : Int32) (l4 : Int32) (l5 : Int32) (l7 : Int32) (l8 : Int32) (l9 : Int32) (g0 : Int32) (g1 : Int32) (g2 : Int32) (g3 : Int32) (g4 : Int32) (g5 : Int32) (g6 : Int32) (g7 : Int32) (g8 : Int32) (g9 : Int32) (h : jH), 0 ≤ l1.toInt ∧ l1.toInt ≤ 5 → 0 ≤ l2.toInt ∧ l2.toInt ≤ 15 → 0 ≤ l3.toInt ∧ l3.toInt ≤ 146399 → 0 ≤ l4.toInt ∧ l4.toInt ≤ 146399 → (-1) ≤ l5.toInt ∧ l5.toInt ≤ 100000 → 0 ≤ l7.toInt ∧ l7.toInt ≤ 199 → 20 ≤ l8.toInt ∧ l8.toInt ≤ 17930 → l8.toInt % 90 = 20 → 1 ≤ l9.toInt ∧ l9.toInt ≤ 3 → 0 ≤ g0.toInt ∧ g0.toInt ≤ 199 → 0 ≤ g1.toInt ∧ g1.toInt ≤ 369 → 0 ≤ g2.toInt ∧ g2.toInt ≤ 30 → 0 ≤ g3.toInt ∧ g3.toInt ≤ 100 → 0 ≤ g4.toInt ∧ g4.toInt ≤ 40 → 0 ≤ g5.toInt ∧ g5.toInt ≤ 400 → 3 ≤ g6.toInt ∧ g6.toInt ≤ 3 → 0 ≤ g7.toInt ∧ g7.toInt ≤ 0 → 0 ≤ g8.toInt ∧ g8.toInt ≤ 400 → 0 ≤ g9.toInt ∧ g9.toInt ≤ 400 → g1.toInt = g0.toInt + g2.toInt + g3.toInt + g4.toInt → (g5.toInt ≤ g8.toInt ∧ g9.toInt ≤ g5.toInt) → (g6.toInt = 0 ∨ g9.toInt + 1 ≤ g5.toInt) → jiv h 126 (0 : Int32).toNatClampNeg = g0 → jiv h 126 (16 : Int32).toNatClampNeg = g1 → jiv h 126 (4 : Int32).toNatClampNeg = g2 → jiv h 126 (5 : Int32).toNatClampNeg = g3 → jiv h 126 (7 : Int32).toNatClampNeg = g4 → jiv h 125 10 = g5 → jiv h 125 11 = g6 → jiv h 125 14 = g7 → jiv h 125 8 = g8 → jiv h 125 9 = g9 → 3 - l9.toInt < R171 → jJ jSgM Dy h → jSm fp_X12_line_r125 h0 h → jX m_X12_line 6 0 0 244 [(0, .ref 125), (1, .int l1), (2, .int l2), (3, .int l3), (4, .int l4), (5, .int l5), (7, .int l7), (8, .int l8), (9, .int l9), (10, .int 1)] [.int 0, .ref 125] h 0 0 Q := by
  intro l1 l2 l3 l4 l5 l7 l8 l9 g0 g1 g2 g3 g4 g5 g6 g7 g8 g9 h y0 y1 y2 y3 y4 y5 y6 y7 y8 y9 y10 y11 y12 y13 y14 y15 y16 y17 y18 y19 y20 y21 z0 z1 z2 z3 z4 z5 z6 z7 z8 z9 m171 J Sm
  refine x_inv (N := m_X12_must) (As := [.int 0]) (b := 125) (st := []) (dx9 := 5) (mc := 0) (ms := 0) (host := "") 12 rfl t_X12_must ⟨Or.inl q_12_250, i_X12_must.1, i_X12_must.2⟩ ⟨by decide, rfl⟩ (congrArg Prod.fst (J.1.1 125 (12, 92) rfl)) rfl (by decide) rfl rfl ⟨by decide, by decide⟩ (jC.of rfl k_X12_must rfl ?_)
  show jX m_X12_must 5 0 0 0 [(0, .ref 125), (1, .int 0)] [] _ 0 0 _
  refine x_aloadn (x := 125) rfl rfl ?_
  refine z_getM (N := 92) (v := g7) 12 14 rfl f_12_214 rfl J rfl z7 ?_
  refine x_ifne (tgt := 24) rfl rfl (ti_ne rfl jk_0 (bn_f (by omega) ?_))
  refine x_iloadn (x := 0) rfl rfl ?_
  refine x_ifne (tgt := 24) rfl rfl (ti_ne jk_0 jk_0 (bn_f (by omega) ?_))
  refine x_aloadn (x := 125) rfl rfl ?_
  refine x_iconst (v := 1) rfl ki_1 ?_
  refine z_putZ (N := 92) (w := 1) 12 14 rfl f_12_214 rfl (jfin_no TX12 RX12 92 rfl rfl) hD J Sm rfl rfl jk_1 (by omega) (pw_125_14 (by omega)) rfl (fun h w1 J Sm => ?_)
  refine x_aloadn (x := 125) rfl rfl ?_
  refine x_aloadn (x := 125) rfl rfl ?_
  refine z_getM (N := 92) (v := g9) 12 9 rfl f_12_221 rfl J rfl (jmo w1 rfl z9) ?_
  refine z_putI (N := 92) (w := g9.toInt) 12 13 rfl f_12_32 rfl (jfin_no TX12 RX12 92 rfl rfl) hD J Sm rfl rfl rfl (pw_125_13 (by omega)) rfl (fun h w2 J Sm => ?_)
  refine x_aloadn (x := 125) rfl rfl ?_
  refine z_getM (N := 92) (v := 1) 12 14 rfl f_12_214 rfl J rfl (jmo w2 rfl (jmw w1)) ?_
  refine x_ifne (tgt := 35) rfl rfl (ti_ne jk_1 jk_0 (bn_t (by omega) ?_))
  refine x_vret rfl rfl ?_
  show jX m_X12_line 6 0 0 247 [(0, .ref 125), (1, .int l1), (2, .int l2), (3, .int l3), (4, .int l4), (5, .int l5), (7, .int l7), (8, .int l8), (9, .int l9), (10, .int 1)] [] _ 0 0 _
  refine x_goto (tgt := 171) rfl rfl ?_
  exact jX.sub (jsb_c rfl (jsb_c rfl (jsb_c rfl (jsb_c rfl (jsb_c rfl (jsb_c rfl (jsb_c rfl (jsb_c rfl (jsb_c rfl (jsb_c rfl jsb_n)))))))))) (k171 l1 l2 l3 l4 l5 l7 l8 l9 1 g0 g1 g2 g3 g4 g5 g6 1 g8 g9 h (by omega) (jr_of rfl (by omega)) (jr_of rfl (by omega)) (jr_of rfl (by omega)) (jr_of rfl (by omega)) (jr_of rfl (by omega)) (jr_of rfl (by omega)) (jr_of rfl (by omega)) (jr_mod rfl (by omega)) (jr_of rfl (by omega)) (jr_of jk_1 (by omega)) (jr_of rfl (by omega)) (jr_of rfl (by omega)) (jr_of rfl (by omega)) (jr_of rfl (by omega)) (jr_of rfl (by omega)) (jr_of rfl (by omega)) (jr_of rfl (by omega)) (jr_of jk_1 (by omega)) (jr_of rfl (by omega)) (jr_of rfl (by omega)) (by have := jk_1; have := jk_1; omega) (by omega) (by omega) (by omega) (jmo w2 rfl (jmo w1 rfl z0)) (jmo w2 rfl (jmo w1 rfl z1)) (jmo w2 rfl (jmo w1 rfl z2)) (jmo w2 rfl (jmo w1 rfl z3)) (jmo w2 rfl (jmo w1 rfl z4)) (jmo w2 rfl (jmo w1 rfl z5)) (jmo w2 rfl (jmo w1 rfl z6)) (jmo w2 rfl (jmw w1)) (jmo w2 rfl (jmo w1 rfl z8)) (jmo w2 rfl (jmo w1 rfl z9)) J Sm)
set_option maxRecDepth 100000 in
set_option maxHeartbeats 4000000 in
theorem ct_X12_line_r125_300244 {Dy : jH → Prop} {h0 : jH} {Q : Option Value → jH → Prop} {R171 : Int} (hD : jDk Dy) (hQ : ∀ (v : Int32) hx9, jJ jSgM Dy hx9 → jSm fp_X12_line_r125 h0 hx9 → ∀ u0 u1 u2 u3 u4 : Int32, jiv hx9 126 (16 : Int32).toNatClampNeg = u0 → jiv hx9 126 (0 : Int32).toNatClampNeg = u1 → jiv hx9 126 (4 : Int32).toNatClampNeg = u2 → jiv hx9 126 (5 : Int32).toNatClampNeg = u3 → jiv hx9 126 (7 : Int32).toNatClampNeg = u4 → u0.toInt = u1.toInt + u2.toInt + u3.toInt + u4.toInt → Q (some (.int v)) hx9) (k171 : ∀ (l1 : Int32) (l2 : Int32) (l3 : Int32) (l4 : Int32) (l5 : Int32) (l7 : Int32) (l8 : Int32) (l9 : Int32) (l10 : Int32) (g0 : Int32) (g1 : Int32) (g2 : Int32) (g3 : Int32) (g4 : Int32) (g5 : Int32) (g6 : Int32) (g7 : Int32) (g8 : Int32) (g9 : Int32) (h : jH), 3 - l9.toInt < R171 → 0 ≤ l1.toInt ∧ l1.toInt ≤ 5 → 0 ≤ l2.toInt ∧ l2.toInt ≤ 15 → 0 ≤ l3.toInt ∧ l3.toInt ≤ 146399 → 0 ≤ l4.toInt ∧ l4.toInt ≤ 146399 → (-1) ≤ l5.toInt ∧ l5.toInt ≤ 100000 → 0 ≤ l7.toInt ∧ l7.toInt ≤ 199 → 20 ≤ l8.toInt ∧ l8.toInt ≤ 17930 → l8.toInt % 90 = 20 → 0 ≤ l9.toInt ∧ l9.toInt ≤ 3 → 0 ≤ l10.toInt ∧ l10.toInt ≤ 1 → 0 ≤ g0.toInt ∧ g0.toInt ≤ 199 → 0 ≤ g1.toInt ∧ g1.toInt ≤ 369 → 0 ≤ g2.toInt ∧ g2.toInt ≤ 30 → 0 ≤ g3.toInt ∧ g3.toInt ≤ 100 → 0 ≤ g4.toInt ∧ g4.toInt ≤ 40 → 0 ≤ g5.toInt ∧ g5.toInt ≤ 400 → 0 ≤ g6.toInt ∧ g6.toInt ≤ 3 → 0 ≤ g7.toInt ∧ g7.toInt ≤ 1 → 0 ≤ g8.toInt ∧ g8.toInt ≤ 400 → 0 ≤ g9.toInt ∧ g9.toInt ≤ 400 → (l10.toInt = 0 ∨ g7.toInt ≠ 0 ∨ l9.toInt ≤ 2) → g1.toInt = g0.toInt + g2.toInt + g3.toInt + g4.toInt → (g5.toInt ≤ g8.toInt ∧ g9.toInt ≤ g5.toInt) → (g6.toInt = 0 ∨ g9.toInt + 1 ≤ g5.toInt) → jiv h 126 (0 : Int32).toNatClampNeg = g0 → jiv h 126 (16 : Int32).toNatClampNeg = g1 → jiv h 126 (4 : Int32).toNatClampNeg = g2 → jiv h 126 (5 : Int32).toNatClampNeg = g3 → jiv h 126 (7 : Int32).toNatClampNeg = g4 → jiv h 125 10 = g5 → jiv h 125 11 = g6 → jiv h 125 14 = g7 → jiv h 125 8 = g8 → jiv h 125 9 = g9 → jJ jSgM Dy h → jSm fp_X12_line_r125 h0 h → jX m_X12_line 6 0 0 171 [(0, .ref 125), (1, .int l1), (2, .int l2), (3, .int l3), (4, .int l4), (5, .int l5), (7, .int l7), (8, .int l8), (9, .int l9), (10, .int l10)] [] h 0 0 Q) : ∀ (l1 : Int32) (l2 : Int32) (l3 : Int32) (l4 : Int32) (l5 : Int32) (l7 : Int32) (l8 : Int32) (l9 : Int32) (g0 : Int32) (g1 : Int32) (g2 : Int32) (g3 : Int32) (g4 : Int32) (g5 : Int32) (g6 : Int32) (g7 : Int32) (g8 : Int32) (g9 : Int32) (h : jH), 0 ≤ l1.toInt ∧ l1.toInt ≤ 1 → 0 ≤ l2.toInt ∧ l2.toInt ≤ 15 → 0 ≤ l3.toInt ∧ l3.toInt ≤ 146399 → 0 ≤ l4.toInt ∧ l4.toInt ≤ 146399 → (-1) ≤ l5.toInt ∧ l5.toInt ≤ 100000 → 0 ≤ l7.toInt ∧ l7.toInt ≤ 199 → 20 ≤ l8.toInt ∧ l8.toInt ≤ 17930 → l8.toInt % 90 = 20 → 1 ≤ l9.toInt ∧ l9.toInt ≤ 2 → 0 ≤ g0.toInt ∧ g0.toInt ≤ 199 → 0 ≤ g1.toInt ∧ g1.toInt ≤ 369 → 0 ≤ g2.toInt ∧ g2.toInt ≤ 30 → 0 ≤ g3.toInt ∧ g3.toInt ≤ 100 → 0 ≤ g4.toInt ∧ g4.toInt ≤ 40 → 0 ≤ g5.toInt ∧ g5.toInt ≤ 400 → 3 ≤ g6.toInt ∧ g6.toInt ≤ 3 → 0 ≤ g7.toInt ∧ g7.toInt ≤ 0 → 0 ≤ g8.toInt ∧ g8.toInt ≤ 400 → 0 ≤ g9.toInt ∧ g9.toInt ≤ 400 → g1.toInt = g0.toInt + g2.toInt + g3.toInt + g4.toInt → (g5.toInt ≤ g8.toInt ∧ g9.toInt ≤ g5.toInt) → (g6.toInt = 0 ∨ g9.toInt + 1 ≤ g5.toInt) → jiv h 126 (0 : Int32).toNatClampNeg = g0 → jiv h 126 (16 : Int32).toNatClampNeg = g1 → jiv h 126 (4 : Int32).toNatClampNeg = g2 → jiv h 126 (5 : Int32).toNatClampNeg = g3 → jiv h 126 (7 : Int32).toNatClampNeg = g4 → jiv h 125 10 = g5 → jiv h 125 11 = g6 → jiv h 125 14 = g7 → jiv h 125 8 = g8 → jiv h 125 9 = g9 → 3 - l9.toInt < R171 → jJ jSgM Dy h → jSm fp_X12_line_r125 h0 h → jX m_X12_line 6 0 0 244 [(0, .ref 125), (1, .int l1), (2, .int l2), (3, .int l3), (4, .int l4), (5, .int l5), (7, .int l7), (8, .int l8), (9, .int l9), (10, .int 1)] [.int 1, .ref 125] h 0 0 Q := by
  intro l1 l2 l3 l4 l5 l7 l8 l9 g0 g1 g2 g3 g4 g5 g6 g7 g8 g9 h y0 y1 y2 y3 y4 y5 y6 y7 y8 y9 y10 y11 y12 y13 y14 y15 y16 y17 y18 y19 y20 y21 z0 z1 z2 z3 z4 z5 z6 z7 z8 z9 m171 J Sm
  refine x_inv (N := m_X12_must) (As := [.int 1]) (b := 125) (st := []) (dx9 := 5) (mc := 0) (ms := 0) (host := "") 12 rfl t_X12_must ⟨Or.inl q_12_250, i_X12_must.1, i_X12_must.2⟩ ⟨by decide, rfl⟩ (congrArg Prod.fst (J.1.1 125 (12, 92) rfl)) rfl (by decide) rfl rfl ⟨by decide, by decide⟩ (jC.of rfl k_X12_must rfl ?_)
  show jX m_X12_must 5 0 0 0 [(0, .ref 125), (1, .int 1)] [] _ 0 0 _
  refine x_aloadn (x := 125) rfl rfl ?_
  refine z_getM (N := 92) (v := g7) 12 14 rfl f_12_214 rfl J rfl z7 ?_
  refine x_ifne (tgt := 24) rfl rfl (ti_ne rfl jk_0 (bn_f (by omega) ?_))
  refine x_iloadn (x := 1) rfl rfl ?_
  refine x_ifne (tgt := 24) rfl rfl (ti_ne jk_1 jk_0 (bn_t (by omega) ?_))
  refine x_aloadn (x := 125) rfl rfl ?_
  refine z_getM (N := 92) (v := g7) 12 14 rfl f_12_214 rfl J rfl z7 ?_
  refine x_ifne (tgt := 35) rfl rfl (ti_ne rfl jk_0 (bn_f (by omega) ?_))
  refine x_aloadn (x := 125) rfl rfl ?_
  refine x_inv (N := m_X12_next) (As := []) (b := 125) (st := []) (dx9 := 2) (mc := 0) (ms := 0) (host := "") 12 rfl t_X12_next ⟨Or.inl q_12_218, i_X12_next.1, i_X12_next.2⟩ ⟨by decide, rfl⟩ (congrArg Prod.fst (J.1.1 125 (12, 92) rfl)) rfl (by decide) rfl rfl ⟨by decide, by decide⟩ (sf_X12_next_r125  hD J z5 z8 (by omega)  (fun h J S1 u2 u3 u4 qu2 qu3 qu4 ru2 u5 u6 u7 qu5 qu6 qu7 ru5 P8 => ?_))
  have Sm := jSm_tr rfl Sm S1
  have eu2 := (show 0 ≤ u2.toInt ∧ u2.toInt ≤ 400 from qu2 ▸ jrg_f J sg_125_10_11_1_0_1)
  have eu3 := (show 0 ≤ u3.toInt ∧ u3.toInt ≤ 400 from qu3 ▸ jrg_f J sg_125_8_9_1_0_1)
  have eu4 := (show 0 ≤ u4.toInt ∧ u4.toInt ≤ 400 from qu4 ▸ jrg_f J sg_125_9_10_1_0_1)
  have eu5 := (show 0 ≤ u5.toInt ∧ u5.toInt ≤ 3 from qu5 ▸ jrg_f J sg_125_11_12_1_0_1)
  obtain rfl : u4 = u6 := qu4.symm.trans qu6
  obtain rfl : u2 = u7 := qu2.symm.trans qu7
  have nfP8 := jnf P8.1 z5 qu4
  show jX m_X12_must 5 0 0 35 [(0, .ref 125), (1, .int 1)] [] _ 0 0 _
  refine x_vret rfl rfl ?_
  show jX m_X12_line 6 0 0 247 [(0, .ref 125), (1, .int l1), (2, .int l2), (3, .int l3), (4, .int l4), (5, .int l5), (7, .int l7), (8, .int l8), (9, .int l9), (10, .int 1)] [] _ 0 0 _
  refine x_goto (tgt := 171) rfl rfl ?_
  exact jX.sub (jsb_c rfl (jsb_c rfl (jsb_c rfl (jsb_c rfl (jsb_c rfl (jsb_c rfl (jsb_c rfl (jsb_c rfl (jsb_c rfl (jsb_c rfl jsb_n)))))))))) (k171 l1 l2 l3 l4 l5 l7 l8 l9 1 g0 g1 g2 g3 g4 u2 u5 g7 u3 u4 h (by omega) (jr_of rfl (by omega)) (jr_of rfl (by omega)) (jr_of rfl (by omega)) (jr_of rfl (by omega)) (jr_of rfl (by omega)) (jr_of rfl (by omega)) (jr_of rfl (by omega)) (jr_mod rfl (by omega)) (jr_of rfl (by omega)) (jr_of jk_1 (by omega)) (jr_of rfl (by omega)) (jr_of rfl (by omega)) (jr_of rfl (by omega)) (jr_of rfl (by omega)) (jr_of rfl (by omega)) (jr_of rfl (by omega)) (jr_of rfl (by omega)) (jr_of rfl (by omega)) (jr_of rfl (by omega)) (jr_of rfl (by omega)) (by have := jk_1; omega) (by omega) (by omega) (by omega) (jmc S1 rfl z0) (jmc S1 rfl z1) (jmc S1 rfl z2) (jmc S1 rfl z3) (jmc S1 rfl z4) qu2 qu5 (jmc S1 rfl z7) qu3 qu4 J Sm)
set_option maxRecDepth 100000 in
set_option maxHeartbeats 4000000 in
theorem ct_X12_line_r125_300222 {Dy : jH → Prop} {h0 : jH} {Q : Option Value → jH → Prop} {R171 : Int} (hD : jDk Dy) (hQ : ∀ (v : Int32) hx9, jJ jSgM Dy hx9 → jSm fp_X12_line_r125 h0 hx9 → ∀ u0 u1 u2 u3 u4 : Int32, jiv hx9 126 (16 : Int32).toNatClampNeg = u0 → jiv hx9 126 (0 : Int32).toNatClampNeg = u1 → jiv hx9 126 (4 : Int32).toNatClampNeg = u2 → jiv hx9 126 (5 : Int32).toNatClampNeg = u3 → jiv hx9 126 (7 : Int32).toNatClampNeg = u4 → u0.toInt = u1.toInt + u2.toInt + u3.toInt + u4.toInt → Q (some (.int v)) hx9) (k171 : ∀ (l1 : Int32) (l2 : Int32) (l3 : Int32) (l4 : Int32) (l5 : Int32) (l7 : Int32) (l8 : Int32) (l9 : Int32) (l10 : Int32) (g0 : Int32) (g1 : Int32) (g2 : Int32) (g3 : Int32) (g4 : Int32) (g5 : Int32) (g6 : Int32) (g7 : Int32) (g8 : Int32) (g9 : Int32) (h : jH), 3 - l9.toInt < R171 → 0 ≤ l1.toInt ∧ l1.toInt ≤ 5 → 0 ≤ l2.toInt ∧ l2.toInt ≤ 15 → 0 ≤ l3.toInt ∧ l3.toInt ≤ 146399 → 0 ≤ l4.toInt ∧ l4.toInt ≤ 146399 → (-1) ≤ l5.toInt ∧ l5.toInt ≤ 100000 → 0 ≤ l7.toInt ∧ l7.toInt ≤ 199 → 20 ≤ l8.toInt ∧ l8.toInt ≤ 17930 → l8.toInt % 90 = 20 → 0 ≤ l9.toInt ∧ l9.toInt ≤ 3 → 0 ≤ l10.toInt ∧ l10.toInt ≤ 1 → 0 ≤ g0.toInt ∧ g0.toInt ≤ 199 → 0 ≤ g1.toInt ∧ g1.toInt ≤ 369 → 0 ≤ g2.toInt ∧ g2.toInt ≤ 30 → 0 ≤ g3.toInt ∧ g3.toInt ≤ 100 → 0 ≤ g4.toInt ∧ g4.toInt ≤ 40 → 0 ≤ g5.toInt ∧ g5.toInt ≤ 400 → 0 ≤ g6.toInt ∧ g6.toInt ≤ 3 → 0 ≤ g7.toInt ∧ g7.toInt ≤ 1 → 0 ≤ g8.toInt ∧ g8.toInt ≤ 400 → 0 ≤ g9.toInt ∧ g9.toInt ≤ 400 → (l10.toInt = 0 ∨ g7.toInt ≠ 0 ∨ l9.toInt ≤ 2) → g1.toInt = g0.toInt + g2.toInt + g3.toInt + g4.toInt → (g5.toInt ≤ g8.toInt ∧ g9.toInt ≤ g5.toInt) → (g6.toInt = 0 ∨ g9.toInt + 1 ≤ g5.toInt) → jiv h 126 (0 : Int32).toNatClampNeg = g0 → jiv h 126 (16 : Int32).toNatClampNeg = g1 → jiv h 126 (4 : Int32).toNatClampNeg = g2 → jiv h 126 (5 : Int32).toNatClampNeg = g3 → jiv h 126 (7 : Int32).toNatClampNeg = g4 → jiv h 125 10 = g5 → jiv h 125 11 = g6 → jiv h 125 14 = g7 → jiv h 125 8 = g8 → jiv h 125 9 = g9 → jJ jSgM Dy h → jSm fp_X12_line_r125 h0 h → jX m_X12_line 6 0 0 171 [(0, .ref 125), (1, .int l1), (2, .int l2), (3, .int l3), (4, .int l4), (5, .int l5), (7, .int l7), (8, .int l8), (9, .int l9), (10, .int l10)] [] h 0 0 Q) : ∀ (l1 : Int32) (l2 : Int32) (l3 : Int32) (l4 : Int32) (l5 : Int32) (l7 : Int32) (l8 : Int32) (l9 : Int32) (g0 : Int32) (g1 : Int32) (g2 : Int32) (g3 : Int32) (g4 : Int32) (g5 : Int32) (g6 : Int32) (g7 : Int32) (g8 : Int32) (g9 : Int32) (h : jH), 0 ≤ l1.toInt ∧ l1.toInt ≤ 5 → 0 ≤ l2.toInt ∧ l2.toInt ≤ 15 → 0 ≤ l3.toInt ∧ l3.toInt ≤ 146399 → 0 ≤ l4.toInt ∧ l4.toInt ≤ 146399 → (-1) ≤ l5.toInt ∧ l5.toInt ≤ 100000 → 0 ≤ l7.toInt ∧ l7.toInt ≤ 199 → 20 ≤ l8.toInt ∧ l8.toInt ≤ 17930 → l8.toInt % 90 = 20 → 1 ≤ l9.toInt ∧ l9.toInt ≤ 3 → 0 ≤ g0.toInt ∧ g0.toInt ≤ 199 → 0 ≤ g1.toInt ∧ g1.toInt ≤ 369 → 0 ≤ g2.toInt ∧ g2.toInt ≤ 30 → 0 ≤ g3.toInt ∧ g3.toInt ≤ 100 → 0 ≤ g4.toInt ∧ g4.toInt ≤ 40 → 0 ≤ g5.toInt ∧ g5.toInt ≤ 400 → 3 ≤ g6.toInt ∧ g6.toInt ≤ 3 → 0 ≤ g7.toInt ∧ g7.toInt ≤ 0 → 0 ≤ g8.toInt ∧ g8.toInt ≤ 400 → 0 ≤ g9.toInt ∧ g9.toInt ≤ 400 → g1.toInt = g0.toInt + g2.toInt + g3.toInt + g4.toInt → (g5.toInt ≤ g8.toInt ∧ g9.toInt ≤ g5.toInt) → (g6.toInt = 0 ∨ g9.toInt + 1 ≤ g5.toInt) → jiv h 126 (0 : Int32).toNatClampNeg = g0 → jiv h 126 (16 : Int32).toNatClampNeg = g1 → jiv h 126 (4 : Int32).toNatClampNeg = g2 → jiv h 126 (5 : Int32).toNatClampNeg = g3 → jiv h 126 (7 : Int32).toNatClampNeg = g4 → jiv h 125 10 = g5 → jiv h 125 11 = g6 → jiv h 125 14 = g7 → jiv h 125 8 = g8 → jiv h 125 9 = g9 → 3 - l9.toInt < R171 → jJ jSgM Dy h → jSm fp_X12_line_r125 h0 h → jX m_X12_line 6 0 0 222 [(0, .ref 125), (1, .int l1), (2, .int l2), (3, .int l3), (4, .int l4), (5, .int l5), (7, .int l7), (8, .int l8), (9, .int l9)] [.int 1] h 0 0 Q := by
  intro l1 l2 l3 l4 l5 l7 l8 l9 g0 g1 g2 g3 g4 g5 g6 g7 g8 g9 h y0 y1 y2 y3 y4 y5 y6 y7 y8 y9 y10 y11 y12 y13 y14 y15 y16 y17 y18 y19 y20 y21 z0 z1 z2 z3 z4 z5 z6 z7 z8 z9 m171 J Sm
  refine x_istore (lsx9 := [(10, .int 1), (0, .ref 125), (1, .int l1), (2, .int l2), (3, .int l3), (4, .int l4), (5, .int l5), (7, .int l7), (8, .int l8), (9, .int l9)]) rfl rfl rfl ?_
  refine x_iload (x := 1) rfl rfl ?_
  refine x_ifeq (tgt := 171) rfl rfl (ti_eq jk_1 jk_0 (br_f (by omega) ?_))
  refine x_aloadn (x := 125) rfl rfl ?_
  refine x_iload (x := l9) rfl rfl ?_
  refine x_iloadn (x := l1) rfl rfl ?_
  refine x_inst (N := m_X12_rolesOf) (As := [.int l1]) (st := [.int l9, .ref 125]) (dx9 := 5) (mc := 0) (ms := 0) (host := "") rfl t_X12_rolesOf ⟨Or.inl q_12_286, s_X12_rolesOf⟩ rfl (by decide) rfl rfl ⟨by decide, by decide⟩ (jC.of rfl k_X12_rolesOf rfl ?_)
  show jX m_X12_rolesOf 5 0 0 0 [(0, .int l1)] [] _ 0 0 _
  refine x_iloadn (x := l1) rfl rfl ?_
  refine x_ifne (tgt := 8) rfl rfl (ti_ne rfl jk_0 ⟨fun c1 => ?_, fun c1 => ?_⟩)
  ·
    refine x_iloadn (x := l1) rfl rfl ?_
    refine x_iconst (v := 1) rfl ki_1 ?_
    refine x_icne (tgt := 17) rfl rfl (ti_ne rfl jk_1 ⟨fun c2 => ?_, fun c2 => ?_⟩)
    ·
      refine x_iconst (v := 1) rfl ki_1 ?_
      refine x_iret rfl rfl ?_
      show jX m_X12_line 6 0 0 236 [(10, .int 1), (0, .ref 125), (1, .int l1), (2, .int l2), (3, .int l3), (4, .int l4), (5, .int l5), (7, .int l7), (8, .int l8), (9, .int l9)] [.int 1, .int l9, .ref 125] _ 0 0 _
      refine x_icge (tgt := 243) rfl rfl (ti_ge rfl jk_1 (br_t (by omega) ?_))
      refine x_iconst (v := 0) rfl ki_0 ?_
      exact jX.sub (jsb_c rfl (jsb_c rfl (jsb_c rfl (jsb_c rfl (jsb_c rfl (jsb_c rfl (jsb_c rfl (jsb_c rfl (jsb_c rfl (jsb_c rfl jsb_n)))))))))) (ct_X12_line_r125_200244 hD hQ k171 l1 l2 l3 l4 l5 l7 l8 l9 g0 g1 g2 g3 g4 g5 g6 g7 g8 g9 h (jr_of rfl (by omega)) (jr_of rfl (by omega)) (jr_of rfl (by omega)) (jr_of rfl (by omega)) (jr_of rfl (by omega)) (jr_of rfl (by omega)) (jr_of rfl (by omega)) (jr_mod rfl (by omega)) (jr_of rfl (by omega)) (jr_of rfl (by omega)) (jr_of rfl (by omega)) (jr_of rfl (by omega)) (jr_of rfl (by omega)) (jr_of rfl (by omega)) (jr_of rfl (by omega)) (jr_of rfl (by omega)) (jr_of rfl (by omega)) (jr_of rfl (by omega)) (jr_of rfl (by omega)) (by omega) (by omega) (by omega) z0 z1 z2 z3 z4 z5 z6 z7 z8 z9 (by omega) J Sm)
    ·
      refine x_iconst (v := 2) rfl ki_2 ?_
      refine x_goto (tgt := 18) rfl rfl ?_
      refine x_iret rfl rfl ?_
      show jX m_X12_line 6 0 0 236 [(10, .int 1), (0, .ref 125), (1, .int l1), (2, .int l2), (3, .int l3), (4, .int l4), (5, .int l5), (7, .int l7), (8, .int l8), (9, .int l9)] [.int 2, .int l9, .ref 125] _ 0 0 _
      refine x_icge (tgt := 243) rfl rfl (ti_ge rfl jk_2 ⟨fun c3 => ?_, fun c3 => ?_⟩)
      ·
        refine x_iconst (v := 0) rfl ki_0 ?_
        exact jX.sub (jsb_c rfl (jsb_c rfl (jsb_c rfl (jsb_c rfl (jsb_c rfl (jsb_c rfl (jsb_c rfl (jsb_c rfl (jsb_c rfl (jsb_c rfl jsb_n)))))))))) (ct_X12_line_r125_200244 hD hQ k171 l1 l2 l3 l4 l5 l7 l8 l9 g0 g1 g2 g3 g4 g5 g6 g7 g8 g9 h (jr_of rfl (by omega)) (jr_of rfl (by omega)) (jr_of rfl (by omega)) (jr_of rfl (by omega)) (jr_of rfl (by omega)) (jr_of rfl (by omega)) (jr_of rfl (by omega)) (jr_mod rfl (by omega)) (jr_of rfl (by omega)) (jr_of rfl (by omega)) (jr_of rfl (by omega)) (jr_of rfl (by omega)) (jr_of rfl (by omega)) (jr_of rfl (by omega)) (jr_of rfl (by omega)) (jr_of rfl (by omega)) (jr_of rfl (by omega)) (jr_of rfl (by omega)) (jr_of rfl (by omega)) (by omega) (by omega) (by omega) z0 z1 z2 z3 z4 z5 z6 z7 z8 z9 (by omega) J Sm)
      ·
        refine x_iconst (v := 1) rfl ki_1 ?_
        refine x_goto (tgt := 244) rfl rfl ?_
        exact jX.sub (jsb_c rfl (jsb_c rfl (jsb_c rfl (jsb_c rfl (jsb_c rfl (jsb_c rfl (jsb_c rfl (jsb_c rfl (jsb_c rfl (jsb_c rfl jsb_n)))))))))) (ct_X12_line_r125_300244 hD hQ k171 l1 l2 l3 l4 l5 l7 l8 l9 g0 g1 g2 g3 g4 g5 g6 g7 g8 g9 h (jr_of rfl (by omega)) (jr_of rfl (by omega)) (jr_of rfl (by omega)) (jr_of rfl (by omega)) (jr_of rfl (by omega)) (jr_of rfl (by omega)) (jr_of rfl (by omega)) (jr_mod rfl (by omega)) (jr_of rfl (by omega)) (jr_of rfl (by omega)) (jr_of rfl (by omega)) (jr_of rfl (by omega)) (jr_of rfl (by omega)) (jr_of rfl (by omega)) (jr_of rfl (by omega)) (jr_of rfl (by omega)) (jr_of rfl (by omega)) (jr_of rfl (by omega)) (jr_of rfl (by omega)) (by omega) (by omega) (by omega) z0 z1 z2 z3 z4 z5 z6 z7 z8 z9 (by omega) J Sm)
  ·
    refine x_iconst (v := 3) rfl ki_3 ?_
    refine x_goto (tgt := 18) rfl rfl ?_
    refine x_iret rfl rfl ?_
    show jX m_X12_line 6 0 0 236 [(10, .int 1), (0, .ref 125), (1, .int l1), (2, .int l2), (3, .int l3), (4, .int l4), (5, .int l5), (7, .int l7), (8, .int l8), (9, .int l9)] [.int 3, .int l9, .ref 125] _ 0 0 _
    refine x_icge (tgt := 243) rfl rfl (ti_ge rfl jk_3 ⟨fun c4 => ?_, fun c4 => ?_⟩)
    ·
      refine x_iconst (v := 0) rfl ki_0 ?_
      exact jX.sub (jsb_c rfl (jsb_c rfl (jsb_c rfl (jsb_c rfl (jsb_c rfl (jsb_c rfl (jsb_c rfl (jsb_c rfl (jsb_c rfl (jsb_c rfl jsb_n)))))))))) (ct_X12_line_r125_200244 hD hQ k171 l1 l2 l3 l4 l5 l7 l8 l9 g0 g1 g2 g3 g4 g5 g6 g7 g8 g9 h (jr_of rfl (by omega)) (jr_of rfl (by omega)) (jr_of rfl (by omega)) (jr_of rfl (by omega)) (jr_of rfl (by omega)) (jr_of rfl (by omega)) (jr_of rfl (by omega)) (jr_mod rfl (by omega)) (jr_of rfl (by omega)) (jr_of rfl (by omega)) (jr_of rfl (by omega)) (jr_of rfl (by omega)) (jr_of rfl (by omega)) (jr_of rfl (by omega)) (jr_of rfl (by omega)) (jr_of rfl (by omega)) (jr_of rfl (by omega)) (jr_of rfl (by omega)) (jr_of rfl (by omega)) (by omega) (by omega) (by omega) z0 z1 z2 z3 z4 z5 z6 z7 z8 z9 (by omega) J Sm)
    ·
      refine x_iconst (v := 1) rfl ki_1 ?_
      refine x_goto (tgt := 244) rfl rfl ?_
      exact jX.sub (jsb_c rfl (jsb_c rfl (jsb_c rfl (jsb_c rfl (jsb_c rfl (jsb_c rfl (jsb_c rfl (jsb_c rfl (jsb_c rfl (jsb_c rfl jsb_n)))))))))) (ct_X12_line_r125_300244 hD hQ k171 l1 l2 l3 l4 l5 l7 l8 l9 g0 g1 g2 g3 g4 g5 g6 g7 g8 g9 h (jr_of rfl (by omega)) (jr_of rfl (by omega)) (jr_of rfl (by omega)) (jr_of rfl (by omega)) (jr_of rfl (by omega)) (jr_of rfl (by omega)) (jr_of rfl (by omega)) (jr_mod rfl (by omega)) (jr_of rfl (by omega)) (jr_of rfl (by omega)) (jr_of rfl (by omega)) (jr_of rfl (by omega)) (jr_of rfl (by omega)) (jr_of rfl (by omega)) (jr_of rfl (by omega)) (jr_of rfl (by omega)) (jr_of rfl (by omega)) (jr_of rfl (by omega)) (jr_of rfl (by omega)) (by omega) (by omega) (by omega) z0 z1 z2 z3 z4 z5 z6 z7 z8 z9 (by omega) J Sm)
set_option maxRecDepth 100000 in
set_option maxHeartbeats 4000000 in
theorem ct_X12_line_r125_200222 {Dy : jH → Prop} {h0 : jH} {Q : Option Value → jH → Prop} {R171 : Int} (hD : jDk Dy) (hQ : ∀ (v : Int32) hx9, jJ jSgM Dy hx9 → jSm fp_X12_line_r125 h0 hx9 → ∀ u0 u1 u2 u3 u4 : Int32, jiv hx9 126 (16 : Int32).toNatClampNeg = u0 → jiv hx9 126 (0 : Int32).toNatClampNeg = u1 → jiv hx9 126 (4 : Int32).toNatClampNeg = u2 → jiv hx9 126 (5 : Int32).toNatClampNeg = u3 → jiv hx9 126 (7 : Int32).toNatClampNeg = u4 → u0.toInt = u1.toInt + u2.toInt + u3.toInt + u4.toInt → Q (some (.int v)) hx9) (k171 : ∀ (l1 : Int32) (l2 : Int32) (l3 : Int32) (l4 : Int32) (l5 : Int32) (l7 : Int32) (l8 : Int32) (l9 : Int32) (l10 : Int32) (g0 : Int32) (g1 : Int32) (g2 : Int32) (g3 : Int32) (g4 : Int32) (g5 : Int32) (g6 : Int32) (g7 : Int32) (g8 : Int32) (g9 : Int32) (h : jH), 3 - l9.toInt < R171 → 0 ≤ l1.toInt ∧ l1.toInt ≤ 5 → 0 ≤ l2.toInt ∧ l2.toInt ≤ 15 → 0 ≤ l3.toInt ∧ l3.toInt ≤ 146399 → 0 ≤ l4.toInt ∧ l4.toInt ≤ 146399 → (-1) ≤ l5.toInt ∧ l5.toInt ≤ 100000 → 0 ≤ l7.toInt ∧ l7.toInt ≤ 199 → 20 ≤ l8.toInt ∧ l8.toInt ≤ 17930 → l8.toInt % 90 = 20 → 0 ≤ l9.toInt ∧ l9.toInt ≤ 3 → 0 ≤ l10.toInt ∧ l10.toInt ≤ 1 → 0 ≤ g0.toInt ∧ g0.toInt ≤ 199 → 0 ≤ g1.toInt ∧ g1.toInt ≤ 369 → 0 ≤ g2.toInt ∧ g2.toInt ≤ 30 → 0 ≤ g3.toInt ∧ g3.toInt ≤ 100 → 0 ≤ g4.toInt ∧ g4.toInt ≤ 40 → 0 ≤ g5.toInt ∧ g5.toInt ≤ 400 → 0 ≤ g6.toInt ∧ g6.toInt ≤ 3 → 0 ≤ g7.toInt ∧ g7.toInt ≤ 1 → 0 ≤ g8.toInt ∧ g8.toInt ≤ 400 → 0 ≤ g9.toInt ∧ g9.toInt ≤ 400 → (l10.toInt = 0 ∨ g7.toInt ≠ 0 ∨ l9.toInt ≤ 2) → g1.toInt = g0.toInt + g2.toInt + g3.toInt + g4.toInt → (g5.toInt ≤ g8.toInt ∧ g9.toInt ≤ g5.toInt) → (g6.toInt = 0 ∨ g9.toInt + 1 ≤ g5.toInt) → jiv h 126 (0 : Int32).toNatClampNeg = g0 → jiv h 126 (16 : Int32).toNatClampNeg = g1 → jiv h 126 (4 : Int32).toNatClampNeg = g2 → jiv h 126 (5 : Int32).toNatClampNeg = g3 → jiv h 126 (7 : Int32).toNatClampNeg = g4 → jiv h 125 10 = g5 → jiv h 125 11 = g6 → jiv h 125 14 = g7 → jiv h 125 8 = g8 → jiv h 125 9 = g9 → jJ jSgM Dy h → jSm fp_X12_line_r125 h0 h → jX m_X12_line 6 0 0 171 [(0, .ref 125), (1, .int l1), (2, .int l2), (3, .int l3), (4, .int l4), (5, .int l5), (7, .int l7), (8, .int l8), (9, .int l9), (10, .int l10)] [] h 0 0 Q) : ∀ (l1 : Int32) (l2 : Int32) (l3 : Int32) (l4 : Int32) (l5 : Int32) (l7 : Int32) (l8 : Int32) (l9 : Int32) (g0 : Int32) (g1 : Int32) (g2 : Int32) (g3 : Int32) (g4 : Int32) (g5 : Int32) (g6 : Int32) (g7 : Int32) (g8 : Int32) (g9 : Int32) (h : jH), 0 ≤ l1.toInt ∧ l1.toInt ≤ 5 → 0 ≤ l2.toInt ∧ l2.toInt ≤ 15 → 0 ≤ l3.toInt ∧ l3.toInt ≤ 146399 → 0 ≤ l4.toInt ∧ l4.toInt ≤ 146399 → (-1) ≤ l5.toInt ∧ l5.toInt ≤ 100000 → 0 ≤ l7.toInt ∧ l7.toInt ≤ 199 → 20 ≤ l8.toInt ∧ l8.toInt ≤ 17930 → l8.toInt % 90 = 20 → 1 ≤ l9.toInt ∧ l9.toInt ≤ 3 → 0 ≤ g0.toInt ∧ g0.toInt ≤ 199 → 0 ≤ g1.toInt ∧ g1.toInt ≤ 369 → 0 ≤ g2.toInt ∧ g2.toInt ≤ 30 → 0 ≤ g3.toInt ∧ g3.toInt ≤ 100 → 0 ≤ g4.toInt ∧ g4.toInt ≤ 40 → 0 ≤ g5.toInt ∧ g5.toInt ≤ 400 → 0 ≤ g6.toInt ∧ g6.toInt ≤ 3 → 0 ≤ g7.toInt ∧ g7.toInt ≤ 1 → 0 ≤ g8.toInt ∧ g8.toInt ≤ 400 → 0 ≤ g9.toInt ∧ g9.toInt ≤ 400 → g1.toInt = g0.toInt + g2.toInt + g3.toInt + g4.toInt → (g5.toInt ≤ g8.toInt ∧ g9.toInt ≤ g5.toInt) → (g6.toInt = 0 ∨ g9.toInt + 1 ≤ g5.toInt) → jiv h 126 (0 : Int32).toNatClampNeg = g0 → jiv h 126 (16 : Int32).toNatClampNeg = g1 → jiv h 126 (4 : Int32).toNatClampNeg = g2 → jiv h 126 (5 : Int32).toNatClampNeg = g3 → jiv h 126 (7 : Int32).toNatClampNeg = g4 → jiv h 125 10 = g5 → jiv h 125 11 = g6 → jiv h 125 14 = g7 → jiv h 125 8 = g8 → jiv h 125 9 = g9 → 3 - l9.toInt < R171 → jJ jSgM Dy h → jSm fp_X12_line_r125 h0 h → jX m_X12_line 6 0 0 222 [(0, .ref 125), (1, .int l1), (2, .int l2), (3, .int l3), (4, .int l4), (5, .int l5), (7, .int l7), (8, .int l8), (9, .int l9)] [.int 0] h 0 0 Q := by
  intro l1 l2 l3 l4 l5 l7 l8 l9 g0 g1 g2 g3 g4 g5 g6 g7 g8 g9 h y0 y1 y2 y3 y4 y5 y6 y7 y8 y9 y10 y11 y12 y13 y14 y15 y16 y17 y18 y19 y20 y21 z0 z1 z2 z3 z4 z5 z6 z7 z8 z9 m171 J Sm
  refine x_istore (lsx9 := [(10, .int 0), (0, .ref 125), (1, .int l1), (2, .int l2), (3, .int l3), (4, .int l4), (5, .int l5), (7, .int l7), (8, .int l8), (9, .int l9)]) rfl rfl rfl ?_
  refine x_iload (x := 0) rfl rfl ?_
  refine x_ifeq (tgt := 171) rfl rfl (ti_eq jk_0 jk_0 (br_t (by omega) ?_))
  exact jX.sub (jsb_c rfl (jsb_c rfl (jsb_c rfl (jsb_c rfl (jsb_c rfl (jsb_c rfl (jsb_c rfl (jsb_c rfl (jsb_c rfl (jsb_c rfl jsb_n)))))))))) (k171 l1 l2 l3 l4 l5 l7 l8 l9 0 g0 g1 g2 g3 g4 g5 g6 g7 g8 g9 h (by omega) (jr_of rfl (by omega)) (jr_of rfl (by omega)) (jr_of rfl (by omega)) (jr_of rfl (by omega)) (jr_of rfl (by omega)) (jr_of rfl (by omega)) (jr_of rfl (by omega)) (jr_mod rfl (by omega)) (jr_of rfl (by omega)) (jr_of jk_0 (by omega)) (jr_of rfl (by omega)) (jr_of rfl (by omega)) (jr_of rfl (by omega)) (jr_of rfl (by omega)) (jr_of rfl (by omega)) (jr_of rfl (by omega)) (jr_of rfl (by omega)) (jr_of rfl (by omega)) (jr_of rfl (by omega)) (jr_of rfl (by omega)) (by have := jk_0; omega) (by omega) (by omega) (by omega) z0 z1 z2 z3 z4 z5 z6 z7 z8 z9 J Sm)
set_option maxRecDepth 100000 in
set_option maxHeartbeats 4000000 in
theorem ct_X12_line_r125_221 {Dy : jH → Prop} {h0 : jH} {Q : Option Value → jH → Prop} {R171 : Int} (hD : jDk Dy) (hQ : ∀ (v : Int32) hx9, jJ jSgM Dy hx9 → jSm fp_X12_line_r125 h0 hx9 → ∀ u0 u1 u2 u3 u4 : Int32, jiv hx9 126 (16 : Int32).toNatClampNeg = u0 → jiv hx9 126 (0 : Int32).toNatClampNeg = u1 → jiv hx9 126 (4 : Int32).toNatClampNeg = u2 → jiv hx9 126 (5 : Int32).toNatClampNeg = u3 → jiv hx9 126 (7 : Int32).toNatClampNeg = u4 → u0.toInt = u1.toInt + u2.toInt + u3.toInt + u4.toInt → Q (some (.int v)) hx9) (k171 : ∀ (l1 : Int32) (l2 : Int32) (l3 : Int32) (l4 : Int32) (l5 : Int32) (l7 : Int32) (l8 : Int32) (l9 : Int32) (l10 : Int32) (g0 : Int32) (g1 : Int32) (g2 : Int32) (g3 : Int32) (g4 : Int32) (g5 : Int32) (g6 : Int32) (g7 : Int32) (g8 : Int32) (g9 : Int32) (h : jH), 3 - l9.toInt < R171 → 0 ≤ l1.toInt ∧ l1.toInt ≤ 5 → 0 ≤ l2.toInt ∧ l2.toInt ≤ 15 → 0 ≤ l3.toInt ∧ l3.toInt ≤ 146399 → 0 ≤ l4.toInt ∧ l4.toInt ≤ 146399 → (-1) ≤ l5.toInt ∧ l5.toInt ≤ 100000 → 0 ≤ l7.toInt ∧ l7.toInt ≤ 199 → 20 ≤ l8.toInt ∧ l8.toInt ≤ 17930 → l8.toInt % 90 = 20 → 0 ≤ l9.toInt ∧ l9.toInt ≤ 3 → 0 ≤ l10.toInt ∧ l10.toInt ≤ 1 → 0 ≤ g0.toInt ∧ g0.toInt ≤ 199 → 0 ≤ g1.toInt ∧ g1.toInt ≤ 369 → 0 ≤ g2.toInt ∧ g2.toInt ≤ 30 → 0 ≤ g3.toInt ∧ g3.toInt ≤ 100 → 0 ≤ g4.toInt ∧ g4.toInt ≤ 40 → 0 ≤ g5.toInt ∧ g5.toInt ≤ 400 → 0 ≤ g6.toInt ∧ g6.toInt ≤ 3 → 0 ≤ g7.toInt ∧ g7.toInt ≤ 1 → 0 ≤ g8.toInt ∧ g8.toInt ≤ 400 → 0 ≤ g9.toInt ∧ g9.toInt ≤ 400 → (l10.toInt = 0 ∨ g7.toInt ≠ 0 ∨ l9.toInt ≤ 2) → g1.toInt = g0.toInt + g2.toInt + g3.toInt + g4.toInt → (g5.toInt ≤ g8.toInt ∧ g9.toInt ≤ g5.toInt) → (g6.toInt = 0 ∨ g9.toInt + 1 ≤ g5.toInt) → jiv h 126 (0 : Int32).toNatClampNeg = g0 → jiv h 126 (16 : Int32).toNatClampNeg = g1 → jiv h 126 (4 : Int32).toNatClampNeg = g2 → jiv h 126 (5 : Int32).toNatClampNeg = g3 → jiv h 126 (7 : Int32).toNatClampNeg = g4 → jiv h 125 10 = g5 → jiv h 125 11 = g6 → jiv h 125 14 = g7 → jiv h 125 8 = g8 → jiv h 125 9 = g9 → jJ jSgM Dy h → jSm fp_X12_line_r125 h0 h → jX m_X12_line 6 0 0 171 [(0, .ref 125), (1, .int l1), (2, .int l2), (3, .int l3), (4, .int l4), (5, .int l5), (7, .int l7), (8, .int l8), (9, .int l9), (10, .int l10)] [] h 0 0 Q) : ∀ (l1 : Int32) (l2 : Int32) (l3 : Int32) (l4 : Int32) (l5 : Int32) (l7 : Int32) (l8 : Int32) (l9 : Int32) (g0 : Int32) (g1 : Int32) (g2 : Int32) (g3 : Int32) (g4 : Int32) (g5 : Int32) (g6 : Int32) (g7 : Int32) (g8 : Int32) (g9 : Int32) (h : jH), 0 ≤ l1.toInt ∧ l1.toInt ≤ 5 → 0 ≤ l2.toInt ∧ l2.toInt ≤ 15 → 0 ≤ l3.toInt ∧ l3.toInt ≤ 146399 → 0 ≤ l4.toInt ∧ l4.toInt ≤ 146399 → (-1) ≤ l5.toInt ∧ l5.toInt ≤ 100000 → 0 ≤ l7.toInt ∧ l7.toInt ≤ 199 → 20 ≤ l8.toInt ∧ l8.toInt ≤ 17930 → l8.toInt % 90 = 20 → 1 ≤ l9.toInt ∧ l9.toInt ≤ 3 → 0 ≤ g0.toInt ∧ g0.toInt ≤ 199 → 0 ≤ g1.toInt ∧ g1.toInt ≤ 369 → 0 ≤ g2.toInt ∧ g2.toInt ≤ 30 → 0 ≤ g3.toInt ∧ g3.toInt ≤ 100 → 0 ≤ g4.toInt ∧ g4.toInt ≤ 40 → 0 ≤ g5.toInt ∧ g5.toInt ≤ 400 → 0 ≤ g6.toInt ∧ g6.toInt ≤ 3 → 0 ≤ g7.toInt ∧ g7.toInt ≤ 1 → 0 ≤ g8.toInt ∧ g8.toInt ≤ 400 → 0 ≤ g9.toInt ∧ g9.toInt ≤ 400 → g1.toInt = g0.toInt + g2.toInt + g3.toInt + g4.toInt → (g5.toInt ≤ g8.toInt ∧ g9.toInt ≤ g5.toInt) → (g6.toInt = 0 ∨ g9.toInt + 1 ≤ g5.toInt) → jiv h 126 (0 : Int32).toNatClampNeg = g0 → jiv h 126 (16 : Int32).toNatClampNeg = g1 → jiv h 126 (4 : Int32).toNatClampNeg = g2 → jiv h 126 (5 : Int32).toNatClampNeg = g3 → jiv h 126 (7 : Int32).toNatClampNeg = g4 → jiv h 125 10 = g5 → jiv h 125 11 = g6 → jiv h 125 14 = g7 → jiv h 125 8 = g8 → jiv h 125 9 = g9 → 3 - l9.toInt < R171 → jJ jSgM Dy h → jSm fp_X12_line_r125 h0 h → jX m_X12_line 6 0 0 221 [(0, .ref 125), (1, .int l1), (2, .int l2), (3, .int l3), (4, .int l4), (5, .int l5), (7, .int l7), (8, .int l8), (9, .int l9)] [] h 0 0 Q := by
  intro l1 l2 l3 l4 l5 l7 l8 l9 g0 g1 g2 g3 g4 g5 g6 g7 g8 g9 h y0 y1 y2 y3 y4 y5 y6 y7 y8 y9 y10 y11 y12 y13 y14 y15 y16 y17 y18 y19 y20 y21 z0 z1 z2 z3 z4 z5 z6 z7 z8 z9 m171 J Sm
  refine x_iconst (v := 0) rfl ki_0 ?_
  exact jX.sub (jsb_c rfl (jsb_c rfl (jsb_c rfl (jsb_c rfl (jsb_c rfl (jsb_c rfl (jsb_c rfl (jsb_c rfl (jsb_c rfl jsb_n))))))))) (ct_X12_line_r125_200222 hD hQ k171 l1 l2 l3 l4 l5 l7 l8 l9 g0 g1 g2 g3 g4 g5 g6 g7 g8 g9 h (jr_of rfl (by omega)) (jr_of rfl (by omega)) (jr_of rfl (by omega)) (jr_of rfl (by omega)) (jr_of rfl (by omega)) (jr_of rfl (by omega)) (jr_of rfl (by omega)) (jr_mod rfl (by omega)) (jr_of rfl (by omega)) (jr_of rfl (by omega)) (jr_of rfl (by omega)) (jr_of rfl (by omega)) (jr_of rfl (by omega)) (jr_of rfl (by omega)) (jr_of rfl (by omega)) (jr_of rfl (by omega)) (jr_of rfl (by omega)) (jr_of rfl (by omega)) (jr_of rfl (by omega)) (by omega) (by omega) (by omega) z0 z1 z2 z3 z4 z5 z6 z7 z8 z9 (by omega) J Sm)
set_option maxRecDepth 100000 in
set_option maxHeartbeats 4000000 in
theorem ct_X12_line_r125_171 {Dy : jH → Prop} {h0 : jH} {Q : Option Value → jH → Prop} (hD : jDk Dy) (hQ : ∀ (v : Int32) hx9, jJ jSgM Dy hx9 → jSm fp_X12_line_r125 h0 hx9 → ∀ u0 u1 u2 u3 u4 : Int32, jiv hx9 126 (16 : Int32).toNatClampNeg = u0 → jiv hx9 126 (0 : Int32).toNatClampNeg = u1 → jiv hx9 126 (4 : Int32).toNatClampNeg = u2 → jiv hx9 126 (5 : Int32).toNatClampNeg = u3 → jiv hx9 126 (7 : Int32).toNatClampNeg = u4 → u0.toInt = u1.toInt + u2.toInt + u3.toInt + u4.toInt → Q (some (.int v)) hx9) : ∀ r : Nat, ∀ (l1 : Int32) (l2 : Int32) (l3 : Int32) (l4 : Int32) (l5 : Int32) (l7 : Int32) (l8 : Int32) (l9 : Int32) (l10 : Int32) (g0 : Int32) (g1 : Int32) (g2 : Int32) (g3 : Int32) (g4 : Int32) (g5 : Int32) (g6 : Int32) (g7 : Int32) (g8 : Int32) (g9 : Int32) (h : jH), 3 - l9.toInt < (r : Int) → 0 ≤ l1.toInt ∧ l1.toInt ≤ 5 → 0 ≤ l2.toInt ∧ l2.toInt ≤ 15 → 0 ≤ l3.toInt ∧ l3.toInt ≤ 146399 → 0 ≤ l4.toInt ∧ l4.toInt ≤ 146399 → (-1) ≤ l5.toInt ∧ l5.toInt ≤ 100000 → 0 ≤ l7.toInt ∧ l7.toInt ≤ 199 → 20 ≤ l8.toInt ∧ l8.toInt ≤ 17930 → l8.toInt % 90 = 20 → 0 ≤ l9.toInt ∧ l9.toInt ≤ 3 → 0 ≤ l10.toInt ∧ l10.toInt ≤ 1 → 0 ≤ g0.toInt ∧ g0.toInt ≤ 199 → 0 ≤ g1.toInt ∧ g1.toInt ≤ 369 → 0 ≤ g2.toInt ∧ g2.toInt ≤ 30 → 0 ≤ g3.toInt ∧ g3.toInt ≤ 100 → 0 ≤ g4.toInt ∧ g4.toInt ≤ 40 → 0 ≤ g5.toInt ∧ g5.toInt ≤ 400 → 0 ≤ g6.toInt ∧ g6.toInt ≤ 3 → 0 ≤ g7.toInt ∧ g7.toInt ≤ 1 → 0 ≤ g8.toInt ∧ g8.toInt ≤ 400 → 0 ≤ g9.toInt ∧ g9.toInt ≤ 400 → (l10.toInt = 0 ∨ g7.toInt ≠ 0 ∨ l9.toInt ≤ 2) → g1.toInt = g0.toInt + g2.toInt + g3.toInt + g4.toInt → (g5.toInt ≤ g8.toInt ∧ g9.toInt ≤ g5.toInt) → (g6.toInt = 0 ∨ g9.toInt + 1 ≤ g5.toInt) → jiv h 126 (0 : Int32).toNatClampNeg = g0 → jiv h 126 (16 : Int32).toNatClampNeg = g1 → jiv h 126 (4 : Int32).toNatClampNeg = g2 → jiv h 126 (5 : Int32).toNatClampNeg = g3 → jiv h 126 (7 : Int32).toNatClampNeg = g4 → jiv h 125 10 = g5 → jiv h 125 11 = g6 → jiv h 125 14 = g7 → jiv h 125 8 = g8 → jiv h 125 9 = g9 → jJ jSgM Dy h → jSm fp_X12_line_r125 h0 h → jX m_X12_line 6 0 0 171 [(0, .ref 125), (1, .int l1), (2, .int l2), (3, .int l3), (4, .int l4), (5, .int l5), (7, .int l7), (8, .int l8), (9, .int l9), (10, .int l10)] [] h 0 0 Q := by
  intro r
  induction r with
  | zero =>
    intro l1 l2 l3 l4 l5 l7 l8 l9 l10 g0 g1 g2 g3 g4 g5 g6 g7 g8 g9 h hm y0 y1 y2 y3 y4 y5 y6 y7 y8 y9 y10 y11 y12 y13 y14 y15 y16 y17 y18 y19 y20 y21 y22 y23 z0 z1 z2 z3 z4 z5 z6 z7 z8 z9  J Sm
    exfalso
    omega
  | succ r ih =>
    intro l1 l2 l3 l4 l5 l7 l8 l9 l10 g0 g1 g2 g3 g4 g5 g6 g7 g8 g9 h hm y0 y1 y2 y3 y4 y5 y6 y7 y8 y9 y10 y11 y12 y13 y14 y15 y16 y17 y18 y19 y20 y21 y22 y23 z0 z1 z2 z3 z4 z5 z6 z7 z8 z9  J Sm
    refine x_iload (x := l10) rfl rfl ?_
    refine x_ifeq (tgt := 250) rfl rfl (ti_eq rfl jk_0 ⟨fun c1 => ?_, fun c1 => ?_⟩)
    ·
      exact jX.sub (jsb_c rfl (jsb_c rfl (jsb_c rfl (jsb_c rfl (jsb_c rfl (jsb_c rfl (jsb_c rfl (jsb_c rfl jsb_n)))))))) (ct_X12_line_r125_250 hD hQ  l1 l2 l3 l4 l5 l7 l8 g0 g1 g2 g3 g4 g5 g6 g7 g8 g9 h (jr_of rfl (by omega)) (jr_of rfl (by omega)) (jr_of rfl (by omega)) (jr_of rfl (by omega)) (jr_of rfl (by omega)) (jr_of rfl (by omega)) (jr_of rfl (by omega)) (jr_mod rfl (by omega)) (jr_of rfl (by omega)) (jr_of rfl (by omega)) (jr_of rfl (by omega)) (jr_of rfl (by omega)) (jr_of rfl (by omega)) (jr_of rfl (by omega)) (jr_of rfl (by omega)) (jr_of rfl (by omega)) (jr_of rfl (by omega)) (jr_of rfl (by omega)) (by omega) (by omega) (by omega) z0 z1 z2 z3 z4 z5 z6 z7 z8 z9 J Sm)
    ·
      refine x_aloadn (x := 125) rfl rfl ?_
      refine z_getM (N := 92) (v := g7) 12 14 rfl f_12_214 rfl J rfl z7 ?_
      refine x_ifne (tgt := 250) rfl rfl (ti_ne rfl jk_0 ⟨fun c2 => ?_, fun c2 => ?_⟩)
      ·
        exact jX.sub (jsb_c rfl (jsb_c rfl (jsb_c rfl (jsb_c rfl (jsb_c rfl (jsb_c rfl (jsb_c rfl (jsb_c rfl jsb_n)))))))) (ct_X12_line_r125_250 hD hQ  l1 l2 l3 l4 l5 l7 l8 g0 g1 g2 g3 g4 g5 g6 g7 g8 g9 h (jr_of rfl (by omega)) (jr_of rfl (by omega)) (jr_of rfl (by omega)) (jr_of rfl (by omega)) (jr_of rfl (by omega)) (jr_of rfl (by omega)) (jr_of rfl (by omega)) (jr_mod rfl (by omega)) (jr_of rfl (by omega)) (jr_of rfl (by omega)) (jr_of rfl (by omega)) (jr_of rfl (by omega)) (jr_of rfl (by omega)) (jr_of rfl (by omega)) (jr_of rfl (by omega)) (jr_of rfl (by omega)) (jr_of rfl (by omega)) (jr_of rfl (by omega)) (by omega) (by omega) (by omega) z0 z1 z2 z3 z4 z5 z6 z7 z8 z9 J Sm)
      ·
        refine x_aloadn (x := 125) rfl rfl ?_
        refine x_iload (x := l8) rfl rfl ?_
        refine x_bipush (v := 6) rfl kb_6 ?_
        refine z_iadd rfl rfl jk_6 (by omega) (fun v3 ev3 => ?_)
        refine x_bipush (v := 28) rfl kb_28 ?_
        refine x_iload (x := l9) rfl rfl ?_
        refine z_imul rfl jk_28 rfl (by omega) (fun v4 ev4 => ?_)
        refine z_iadd rfl rfl rfl (by omega) (fun v5 ev5 => ?_)
        have rn5 := jrole (a := l8.toInt) (b := l9.toInt) (v := v5.toInt) (by omega) (by omega) (by omega)
        refine x_inv (N := m_X12_readRole) (As := [.int v5]) (b := 125) (st := []) (dx9 := 5) (mc := 0) (ms := 0) (host := "") 12 rfl t_X12_readRole ⟨Or.inl q_12_283, i_X12_readRole.1, i_X12_readRole.2⟩ ⟨by decide, rfl⟩ (congrArg Prod.fst (J.1.1 125 (12, 92) rfl)) rfl (by decide) rfl rfl ⟨by decide, by decide⟩ (jC.of rfl k_X12_readRole rfl ?_)
        show jX m_X12_readRole 5 0 0 0 [(0, .ref 125), (1, .int v5)] [] _ 0 0 _
        refine x_aloadn (x := 125) rfl rfl ?_
        refine x_bipush (v := 63) rfl kb_63 ?_
        refine x_inv (N := m_X12_isSign) (As := [.int 63]) (b := 125) (st := []) (dx9 := 4) (mc := 0) (ms := 0) (host := "") 12 rfl t_X12_isSign ⟨Or.inl q_12_257, i_X12_isSign.1, i_X12_isSign.2⟩ ⟨by decide, rfl⟩ (congrArg Prod.fst (J.1.1 125 (12, 92) rfl)) rfl (by decide) rfl rfl ⟨by decide, by decide⟩ (jC.of rfl k_X12_isSign rfl ?_)
        show jX m_X12_isSign 4 0 0 0 [(0, .ref 125), (1, .int 63)] [] _ 0 0 _
        refine x_aloadn (x := 125) rfl rfl ?_
        refine z_getM (N := 92) (v := g6) 12 11 rfl f_12_235 rfl J rfl z6 ?_
        refine x_iconst (v := 3) rfl ki_3 ?_
        refine x_icne (tgt := 22) rfl rfl (ti_ne rfl jk_3 ⟨fun c6 => ?_, fun c6 => ?_⟩)
        ·
          refine x_iconst (v := 0) rfl ki_0 ?_
          refine x_zret rfl rfl (by decide) ?_
          show jX m_X12_readRole 5 0 0 6 [(0, .ref 125), (1, .int v5)] [.int 0] _ 0 0 _
          refine x_istoren (lsx9 := [(2, .int 0), (0, .ref 125), (1, .int v5)]) rfl rfl rfl ?_
          refine x_aloadn (x := 125) rfl rfl ?_
          refine x_iloadn (x := v5) rfl rfl ?_
          refine x_inv (N := m_X12_readName) (As := [.int v5]) (b := 125) (st := []) (dx9 := 4) (mc := 0) (ms := 0) (host := "") 12 rfl t_X12_readName ⟨Or.inl q_12_260, i_X12_readName.1, i_X12_readName.2⟩ ⟨by decide, rfl⟩ (congrArg Prod.fst (J.1.1 125 (12, 92) rfl)) rfl (by decide) rfl rfl ⟨by decide, by decide⟩ (sf_X12_readName_r125 (jr_of rfl (by omega)) (jr_mod rfl (by omega)) (by omega) hD J z5 z8 z9 (by omega) z6 z9 z5 (by omega)  (fun h J S7 u8 u9 u10 qu8 qu9 qu10 ru8 u11 u12 u13 qu11 qu12 qu13 ru11 => ?_))
          have Sm := jSm_tr rfl Sm S7
          have eu8 := (show 0 ≤ u8.toInt ∧ u8.toInt ≤ 400 from qu8 ▸ jrg_f J sg_125_10_11_1_0_1)
          have eu9 := (show 0 ≤ u9.toInt ∧ u9.toInt ≤ 400 from qu9 ▸ jrg_f J sg_125_8_9_1_0_1)
          have eu10 := (show 0 ≤ u10.toInt ∧ u10.toInt ≤ 400 from qu10 ▸ jrg_f J sg_125_9_10_1_0_1)
          have eu11 := (show 0 ≤ u11.toInt ∧ u11.toInt ≤ 3 from qu11 ▸ jrg_f J sg_125_11_12_1_0_1)
          obtain rfl : u10 = u12 := qu10.symm.trans qu12
          obtain rfl : u8 = u13 := qu8.symm.trans qu13
          show jX m_X12_readRole 5 0 0 12 [(2, .int 0), (0, .ref 125), (1, .int v5)] [] _ 0 0 _
          refine x_aloadn (x := 125) rfl rfl ?_
          refine z_getI (N := 92) 12 14 rfl f_12_214 rfl J rfl sg_125_14_15_1_0_1 (fun v14 qv14 ev14 => ?_)
          refine x_ifeq (tgt := 20) rfl rfl (ti_eq rfl jk_0 ⟨fun c15 => ?_, fun c15 => ?_⟩)
          ·
            refine x_iloadn (x := 0) rfl rfl ?_
            refine x_ifeq (tgt := 70) rfl rfl (ti_eq jk_0 jk_0 (br_t (by omega) ?_))
            refine x_aloadn (x := 125) rfl rfl ?_
            refine x_iloadn (x := v5) rfl rfl ?_
            refine x_bipush (v := 14) rfl kb_14 ?_
            refine z_iadd rfl rfl jk_14 (by omega) (fun v16 ev16 => ?_)
            refine x_inv (N := m_X12_readName) (As := [.int v16]) (b := 125) (st := []) (dx9 := 4) (mc := 0) (ms := 0) (host := "") 12 rfl t_X12_readName ⟨Or.inl q_12_260, i_X12_readName.1, i_X12_readName.2⟩ ⟨by decide, rfl⟩ (congrArg Prod.fst (J.1.1 125 (12, 92) rfl)) rfl (by decide) rfl rfl ⟨by decide, by decide⟩ (sf_X12_readName_r125 (jr_of rfl (by omega)) (jr_mod rfl (by omega)) (by omega) hD J qu8 qu9 qu10 (by omega) qu11 qu10 qu8 (by omega)  (fun h J S17 u18 u19 u20 qu18 qu19 qu20 ru18 u21 u22 u23 qu21 qu22 qu23 ru21 => ?_))
            have Sm := jSm_tr rfl Sm S17
            have eu18 := (show 0 ≤ u18.toInt ∧ u18.toInt ≤ 400 from qu18 ▸ jrg_f J sg_125_10_11_1_0_1)
            have eu19 := (show 0 ≤ u19.toInt ∧ u19.toInt ≤ 400 from qu19 ▸ jrg_f J sg_125_8_9_1_0_1)
            have eu20 := (show 0 ≤ u20.toInt ∧ u20.toInt ≤ 400 from qu20 ▸ jrg_f J sg_125_9_10_1_0_1)
            have eu21 := (show 0 ≤ u21.toInt ∧ u21.toInt ≤ 3 from qu21 ▸ jrg_f J sg_125_11_12_1_0_1)
            obtain rfl : u20 = u22 := qu20.symm.trans qu22
            obtain rfl : u18 = u23 := qu18.symm.trans qu23
            show jX m_X12_readRole 5 0 0 78 [(2, .int 0), (0, .ref 125), (1, .int v5)] [] _ 0 0 _
            refine x_vret rfl rfl ?_
            show jX m_X12_line 6 0 0 198 [(0, .ref 125), (1, .int l1), (2, .int l2), (3, .int l3), (4, .int l4), (5, .int l5), (7, .int l7), (8, .int l8), (9, .int l9), (10, .int l10)] [] _ 0 0 _
            refine z_iinc (x := l9) (lsx9 := fun v24 => [(9, .int v24), (0, .ref 125), (1, .int l1), (2, .int l2), (3, .int l3), (4, .int l4), (5, .int l5), (7, .int l7), (8, .int l8), (10, .int l10)]) rfl rfl rfl jko_1 (by omega) rfl (fun _ => rfl) (fun v24 ev24 => ?_)
            refine x_aloadn (x := 125) rfl rfl ?_
            refine z_getI (N := 92) 12 14 rfl f_12_214 rfl J rfl sg_125_14_15_1_0_1 (fun v25 qv25 ev25 => ?_)
            refine x_ifne (tgt := 221) rfl rfl (ti_ne rfl jk_0 ⟨fun c26 => ?_, fun c26 => ?_⟩)
            ·
              exact jX.sub (jsb_c rfl (jsb_c rfl (jsb_c rfl (jsb_c rfl (jsb_c rfl (jsb_c rfl (jsb_c rfl (jsb_c rfl (jsb_c rfl jsb_n))))))))) (ct_X12_line_r125_221 hD hQ ih l1 l2 l3 l4 l5 l7 l8 v24 g0 g1 g2 g3 g4 u18 u21 v25 u19 u20 h (jr_of rfl (by omega)) (jr_of rfl (by omega)) (jr_of rfl (by omega)) (jr_of rfl (by omega)) (jr_of rfl (by omega)) (jr_of rfl (by omega)) (jr_of rfl (by omega)) (jr_mod rfl (by omega)) (jr_of rfl (by omega)) (jr_of rfl (by omega)) (jr_of rfl (by omega)) (jr_of rfl (by omega)) (jr_of rfl (by omega)) (jr_of rfl (by omega)) (jr_of rfl (by omega)) (jr_of rfl (by omega)) (jr_of rfl (by omega)) (jr_of rfl (by omega)) (jr_of rfl (by omega)) (by omega) (by omega) (by omega) (jmc S17 rfl (jmc S7 rfl z0)) (jmc S17 rfl (jmc S7 rfl z1)) (jmc S17 rfl (jmc S7 rfl z2)) (jmc S17 rfl (jmc S7 rfl z3)) (jmc S17 rfl (jmc S7 rfl z4)) qu18 qu21 qv25 qu19 qu20 (by omega) J Sm)
            ·
              refine x_aloadn (x := 125) rfl rfl ?_
              refine x_bipush (v := 44) rfl kb_44 ?_
              refine x_inv (N := m_X12_isSign) (As := [.int 44]) (b := 125) (st := []) (dx9 := 5) (mc := 0) (ms := 0) (host := "") 12 rfl t_X12_isSign ⟨Or.inl q_12_257, i_X12_isSign.1, i_X12_isSign.2⟩ ⟨by decide, rfl⟩ (congrArg Prod.fst (J.1.1 125 (12, 92) rfl)) rfl (by decide) rfl rfl ⟨by decide, by decide⟩ (jC.of rfl k_X12_isSign rfl ?_)
              show jX m_X12_isSign 5 0 0 0 [(0, .ref 125), (1, .int 44)] [] _ 0 0 _
              refine x_aloadn (x := 125) rfl rfl ?_
              refine z_getM (N := 92) (v := u21) 12 11 rfl f_12_235 rfl J rfl qu21 ?_
              refine x_iconst (v := 3) rfl ki_3 ?_
              refine x_icne (tgt := 22) rfl rfl (ti_ne rfl jk_3 ⟨fun c27 => ?_, fun c27 => ?_⟩)
              ·
                refine x_iconst (v := 0) rfl ki_0 ?_
                refine x_zret rfl rfl (by decide) ?_
                show jX m_X12_line 6 0 0 214 [(9, .int v24), (0, .ref 125), (1, .int l1), (2, .int l2), (3, .int l3), (4, .int l4), (5, .int l5), (7, .int l7), (8, .int l8), (10, .int l10)] [.int 0] _ 0 0 _
                refine x_ifeq (tgt := 221) rfl rfl (ti_eq jk_0 jk_0 (br_t (by omega) ?_))
                exact jX.sub (jsb_c rfl (jsb_c rfl (jsb_c rfl (jsb_c rfl (jsb_c rfl (jsb_c rfl (jsb_c rfl (jsb_c rfl (jsb_c rfl jsb_n))))))))) (ct_X12_line_r125_221 hD hQ ih l1 l2 l3 l4 l5 l7 l8 v24 g0 g1 g2 g3 g4 u18 u21 v25 u19 u20 h (jr_of rfl (by omega)) (jr_of rfl (by omega)) (jr_of rfl (by omega)) (jr_of rfl (by omega)) (jr_of rfl (by omega)) (jr_of rfl (by omega)) (jr_of rfl (by omega)) (jr_mod rfl (by omega)) (jr_of rfl (by omega)) (jr_of rfl (by omega)) (jr_of rfl (by omega)) (jr_of rfl (by omega)) (jr_of rfl (by omega)) (jr_of rfl (by omega)) (jr_of rfl (by omega)) (jr_of rfl (by omega)) (jr_of rfl (by omega)) (jr_of rfl (by omega)) (jr_of rfl (by omega)) (by omega) (by omega) (by omega) (jmc S17 rfl (jmc S7 rfl z0)) (jmc S17 rfl (jmc S7 rfl z1)) (jmc S17 rfl (jmc S7 rfl z2)) (jmc S17 rfl (jmc S7 rfl z3)) (jmc S17 rfl (jmc S7 rfl z4)) qu18 qu21 qv25 qu19 qu20 (by omega) J Sm)
              ·
                refine x_aloadn (x := 125) rfl rfl ?_
                refine z_getL0 (N := 92) 12 12 rfl f_12_224 rfl J rfl (fun v28 => ?_)
                have ev28 := jfullL v28
                refine x_iloadn (x := 44) rfl rfl ?_
                refine z_i2l rfl jk_44 (fun v29 ev29 => ?_)
                refine z_lcmp rfl rfl rfl (fun v30 ev30 => ?_)
                refine x_ifne (tgt := 22) rfl rfl (ti_ne rfl jk_0 ⟨fun c31 => ?_, fun c31 => ?_⟩)
                ·
                  refine x_iconst (v := 0) rfl ki_0 ?_
                  refine x_zret rfl rfl (by decide) ?_
                  show jX m_X12_line 6 0 0 214 [(9, .int v24), (0, .ref 125), (1, .int l1), (2, .int l2), (3, .int l3), (4, .int l4), (5, .int l5), (7, .int l7), (8, .int l8), (10, .int l10)] [.int 0] _ 0 0 _
                  refine x_ifeq (tgt := 221) rfl rfl (ti_eq jk_0 jk_0 (br_t (by omega) ?_))
                  exact jX.sub (jsb_c rfl (jsb_c rfl (jsb_c rfl (jsb_c rfl (jsb_c rfl (jsb_c rfl (jsb_c rfl (jsb_c rfl (jsb_c rfl jsb_n))))))))) (ct_X12_line_r125_221 hD hQ ih l1 l2 l3 l4 l5 l7 l8 v24 g0 g1 g2 g3 g4 u18 u21 v25 u19 u20 h (jr_of rfl (by omega)) (jr_of rfl (by omega)) (jr_of rfl (by omega)) (jr_of rfl (by omega)) (jr_of rfl (by omega)) (jr_of rfl (by omega)) (jr_of rfl (by omega)) (jr_mod rfl (by omega)) (jr_of rfl (by omega)) (jr_of rfl (by omega)) (jr_of rfl (by omega)) (jr_of rfl (by omega)) (jr_of rfl (by omega)) (jr_of rfl (by omega)) (jr_of rfl (by omega)) (jr_of rfl (by omega)) (jr_of rfl (by omega)) (jr_of rfl (by omega)) (jr_of rfl (by omega)) (by omega) (by omega) (by omega) (jmc S17 rfl (jmc S7 rfl z0)) (jmc S17 rfl (jmc S7 rfl z1)) (jmc S17 rfl (jmc S7 rfl z2)) (jmc S17 rfl (jmc S7 rfl z3)) (jmc S17 rfl (jmc S7 rfl z4)) qu18 qu21 qv25 qu19 qu20 (by omega) J Sm)
                ·
                  refine x_iconst (v := 1) rfl ki_1 ?_
                  refine x_goto (tgt := 23) rfl rfl ?_
                  refine x_zret rfl rfl (by decide) ?_
                  show jX m_X12_line 6 0 0 214 [(9, .int v24), (0, .ref 125), (1, .int l1), (2, .int l2), (3, .int l3), (4, .int l4), (5, .int l5), (7, .int l7), (8, .int l8), (10, .int l10)] [.int 1] _ 0 0 _
                  refine x_ifeq (tgt := 221) rfl rfl (ti_eq jk_1 jk_0 (br_f (by omega) ?_))
                  refine x_iconst (v := 1) rfl ki_1 ?_
                  refine x_goto (tgt := 222) rfl rfl ?_
                  exact jX.sub (jsb_c rfl (jsb_c rfl (jsb_c rfl (jsb_c rfl (jsb_c rfl (jsb_c rfl (jsb_c rfl (jsb_c rfl (jsb_c rfl jsb_n))))))))) (ct_X12_line_r125_300222 hD hQ ih l1 l2 l3 l4 l5 l7 l8 v24 g0 g1 g2 g3 g4 u18 u21 v25 u19 u20 h (jr_of rfl (by omega)) (jr_of rfl (by omega)) (jr_of rfl (by omega)) (jr_of rfl (by omega)) (jr_of rfl (by omega)) (jr_of rfl (by omega)) (jr_of rfl (by omega)) (jr_mod rfl (by omega)) (jr_of rfl (by omega)) (jr_of rfl (by omega)) (jr_of rfl (by omega)) (jr_of rfl (by omega)) (jr_of rfl (by omega)) (jr_of rfl (by omega)) (jr_of rfl (by omega)) (jr_of rfl (by omega)) (jr_of rfl (by omega)) (jr_of rfl (by omega)) (jr_of rfl (by omega)) (by omega) (by omega) (by omega) (jmc S17 rfl (jmc S7 rfl z0)) (jmc S17 rfl (jmc S7 rfl z1)) (jmc S17 rfl (jmc S7 rfl z2)) (jmc S17 rfl (jmc S7 rfl z3)) (jmc S17 rfl (jmc S7 rfl z4)) qu18 qu21 qv25 qu19 qu20 (by omega) J Sm)
          ·
            refine x_vret rfl rfl ?_
            show jX m_X12_line 6 0 0 198 [(0, .ref 125), (1, .int l1), (2, .int l2), (3, .int l3), (4, .int l4), (5, .int l5), (7, .int l7), (8, .int l8), (9, .int l9), (10, .int l10)] [] _ 0 0 _
            refine z_iinc (x := l9) (lsx9 := fun v32 => [(9, .int v32), (0, .ref 125), (1, .int l1), (2, .int l2), (3, .int l3), (4, .int l4), (5, .int l5), (7, .int l7), (8, .int l8), (10, .int l10)]) rfl rfl rfl jko_1 (by omega) rfl (fun _ => rfl) (fun v32 ev32 => ?_)
            refine x_aloadn (x := 125) rfl rfl ?_
            refine z_getM (N := 92) (v := v14) 12 14 rfl f_12_214 rfl J rfl qv14 ?_
            refine x_ifne (tgt := 221) rfl rfl (ti_ne rfl jk_0 (bn_t (by omega) ?_))
            exact jX.sub (jsb_c rfl (jsb_c rfl (jsb_c rfl (jsb_c rfl (jsb_c rfl (jsb_c rfl (jsb_c rfl (jsb_c rfl (jsb_c rfl jsb_n))))))))) (ct_X12_line_r125_221 hD hQ ih l1 l2 l3 l4 l5 l7 l8 v32 g0 g1 g2 g3 g4 u8 u11 v14 u9 u10 h (jr_of rfl (by omega)) (jr_of rfl (by omega)) (jr_of rfl (by omega)) (jr_of rfl (by omega)) (jr_of rfl (by omega)) (jr_of rfl (by omega)) (jr_of rfl (by omega)) (jr_mod rfl (by omega)) (jr_of rfl (by omega)) (jr_of rfl (by omega)) (jr_of rfl (by omega)) (jr_of rfl (by omega)) (jr_of rfl (by omega)) (jr_of rfl (by omega)) (jr_of rfl (by omega)) (jr_of rfl (by omega)) (jr_of rfl (by omega)) (jr_of rfl (by omega)) (jr_of rfl (by omega)) (by omega) (by omega) (by omega) (jmc S7 rfl z0) (jmc S7 rfl z1) (jmc S7 rfl z2) (jmc S7 rfl z3) (jmc S7 rfl z4) qu8 qu11 qv14 qu9 qu10 (by omega) J Sm)
        ·
          refine x_aloadn (x := 125) rfl rfl ?_
          refine z_getL0 (N := 92) 12 12 rfl f_12_224 rfl J rfl (fun v33 => ?_)
          have ev33 := jfullL v33
          refine x_iloadn (x := 63) rfl rfl ?_
          refine z_i2l rfl jk_63 (fun v34 ev34 => ?_)
          refine z_lcmp rfl rfl rfl (fun v35 ev35 => ?_)
          refine x_ifne (tgt := 22) rfl rfl (ti_ne rfl jk_0 ⟨fun c36 => ?_, fun c36 => ?_⟩)
          ·
            refine x_iconst (v := 0) rfl ki_0 ?_
            refine x_zret rfl rfl (by decide) ?_
            show jX m_X12_readRole 5 0 0 6 [(0, .ref 125), (1, .int v5)] [.int 0] _ 0 0 _
            refine x_istoren (lsx9 := [(2, .int 0), (0, .ref 125), (1, .int v5)]) rfl rfl rfl ?_
            refine x_aloadn (x := 125) rfl rfl ?_
            refine x_iloadn (x := v5) rfl rfl ?_
            refine x_inv (N := m_X12_readName) (As := [.int v5]) (b := 125) (st := []) (dx9 := 4) (mc := 0) (ms := 0) (host := "") 12 rfl t_X12_readName ⟨Or.inl q_12_260, i_X12_readName.1, i_X12_readName.2⟩ ⟨by decide, rfl⟩ (congrArg Prod.fst (J.1.1 125 (12, 92) rfl)) rfl (by decide) rfl rfl ⟨by decide, by decide⟩ (sf_X12_readName_r125 (jr_of rfl (by omega)) (jr_mod rfl (by omega)) (by omega) hD J z5 z8 z9 (by omega) z6 z9 z5 (by omega)  (fun h J S37 u38 u39 u40 qu38 qu39 qu40 ru38 u41 u42 u43 qu41 qu42 qu43 ru41 => ?_))
            have Sm := jSm_tr rfl Sm S37
            have eu38 := (show 0 ≤ u38.toInt ∧ u38.toInt ≤ 400 from qu38 ▸ jrg_f J sg_125_10_11_1_0_1)
            have eu39 := (show 0 ≤ u39.toInt ∧ u39.toInt ≤ 400 from qu39 ▸ jrg_f J sg_125_8_9_1_0_1)
            have eu40 := (show 0 ≤ u40.toInt ∧ u40.toInt ≤ 400 from qu40 ▸ jrg_f J sg_125_9_10_1_0_1)
            have eu41 := (show 0 ≤ u41.toInt ∧ u41.toInt ≤ 3 from qu41 ▸ jrg_f J sg_125_11_12_1_0_1)
            obtain rfl : u40 = u42 := qu40.symm.trans qu42
            obtain rfl : u38 = u43 := qu38.symm.trans qu43
            show jX m_X12_readRole 5 0 0 12 [(2, .int 0), (0, .ref 125), (1, .int v5)] [] _ 0 0 _
            refine x_aloadn (x := 125) rfl rfl ?_
            refine z_getI (N := 92) 12 14 rfl f_12_214 rfl J rfl sg_125_14_15_1_0_1 (fun v44 qv44 ev44 => ?_)
            refine x_ifeq (tgt := 20) rfl rfl (ti_eq rfl jk_0 ⟨fun c45 => ?_, fun c45 => ?_⟩)
            ·
              refine x_iloadn (x := 0) rfl rfl ?_
              refine x_ifeq (tgt := 70) rfl rfl (ti_eq jk_0 jk_0 (br_t (by omega) ?_))
              refine x_aloadn (x := 125) rfl rfl ?_
              refine x_iloadn (x := v5) rfl rfl ?_
              refine x_bipush (v := 14) rfl kb_14 ?_
              refine z_iadd rfl rfl jk_14 (by omega) (fun v46 ev46 => ?_)
              refine x_inv (N := m_X12_readName) (As := [.int v46]) (b := 125) (st := []) (dx9 := 4) (mc := 0) (ms := 0) (host := "") 12 rfl t_X12_readName ⟨Or.inl q_12_260, i_X12_readName.1, i_X12_readName.2⟩ ⟨by decide, rfl⟩ (congrArg Prod.fst (J.1.1 125 (12, 92) rfl)) rfl (by decide) rfl rfl ⟨by decide, by decide⟩ (sf_X12_readName_r125 (jr_of rfl (by omega)) (jr_mod rfl (by omega)) (by omega) hD J qu38 qu39 qu40 (by omega) qu41 qu40 qu38 (by omega)  (fun h J S47 u48 u49 u50 qu48 qu49 qu50 ru48 u51 u52 u53 qu51 qu52 qu53 ru51 => ?_))
              have Sm := jSm_tr rfl Sm S47
              have eu48 := (show 0 ≤ u48.toInt ∧ u48.toInt ≤ 400 from qu48 ▸ jrg_f J sg_125_10_11_1_0_1)
              have eu49 := (show 0 ≤ u49.toInt ∧ u49.toInt ≤ 400 from qu49 ▸ jrg_f J sg_125_8_9_1_0_1)
              have eu50 := (show 0 ≤ u50.toInt ∧ u50.toInt ≤ 400 from qu50 ▸ jrg_f J sg_125_9_10_1_0_1)
              have eu51 := (show 0 ≤ u51.toInt ∧ u51.toInt ≤ 3 from qu51 ▸ jrg_f J sg_125_11_12_1_0_1)
              obtain rfl : u50 = u52 := qu50.symm.trans qu52
              obtain rfl : u48 = u53 := qu48.symm.trans qu53
              show jX m_X12_readRole 5 0 0 78 [(2, .int 0), (0, .ref 125), (1, .int v5)] [] _ 0 0 _
              refine x_vret rfl rfl ?_
              show jX m_X12_line 6 0 0 198 [(0, .ref 125), (1, .int l1), (2, .int l2), (3, .int l3), (4, .int l4), (5, .int l5), (7, .int l7), (8, .int l8), (9, .int l9), (10, .int l10)] [] _ 0 0 _
              refine z_iinc (x := l9) (lsx9 := fun v54 => [(9, .int v54), (0, .ref 125), (1, .int l1), (2, .int l2), (3, .int l3), (4, .int l4), (5, .int l5), (7, .int l7), (8, .int l8), (10, .int l10)]) rfl rfl rfl jko_1 (by omega) rfl (fun _ => rfl) (fun v54 ev54 => ?_)
              refine x_aloadn (x := 125) rfl rfl ?_
              refine z_getI (N := 92) 12 14 rfl f_12_214 rfl J rfl sg_125_14_15_1_0_1 (fun v55 qv55 ev55 => ?_)
              refine x_ifne (tgt := 221) rfl rfl (ti_ne rfl jk_0 ⟨fun c56 => ?_, fun c56 => ?_⟩)
              ·
                exact jX.sub (jsb_c rfl (jsb_c rfl (jsb_c rfl (jsb_c rfl (jsb_c rfl (jsb_c rfl (jsb_c rfl (jsb_c rfl (jsb_c rfl jsb_n))))))))) (ct_X12_line_r125_221 hD hQ ih l1 l2 l3 l4 l5 l7 l8 v54 g0 g1 g2 g3 g4 u48 u51 v55 u49 u50 h (jr_of rfl (by omega)) (jr_of rfl (by omega)) (jr_of rfl (by omega)) (jr_of rfl (by omega)) (jr_of rfl (by omega)) (jr_of rfl (by omega)) (jr_of rfl (by omega)) (jr_mod rfl (by omega)) (jr_of rfl (by omega)) (jr_of rfl (by omega)) (jr_of rfl (by omega)) (jr_of rfl (by omega)) (jr_of rfl (by omega)) (jr_of rfl (by omega)) (jr_of rfl (by omega)) (jr_of rfl (by omega)) (jr_of rfl (by omega)) (jr_of rfl (by omega)) (jr_of rfl (by omega)) (by omega) (by omega) (by omega) (jmc S47 rfl (jmc S37 rfl z0)) (jmc S47 rfl (jmc S37 rfl z1)) (jmc S47 rfl (jmc S37 rfl z2)) (jmc S47 rfl (jmc S37 rfl z3)) (jmc S47 rfl (jmc S37 rfl z4)) qu48 qu51 qv55 qu49 qu50 (by omega) J Sm)
              ·
                refine x_aloadn (x := 125) rfl rfl ?_
                refine x_bipush (v := 44) rfl kb_44 ?_
                refine x_inv (N := m_X12_isSign) (As := [.int 44]) (b := 125) (st := []) (dx9 := 5) (mc := 0) (ms := 0) (host := "") 12 rfl t_X12_isSign ⟨Or.inl q_12_257, i_X12_isSign.1, i_X12_isSign.2⟩ ⟨by decide, rfl⟩ (congrArg Prod.fst (J.1.1 125 (12, 92) rfl)) rfl (by decide) rfl rfl ⟨by decide, by decide⟩ (jC.of rfl k_X12_isSign rfl ?_)
                show jX m_X12_isSign 5 0 0 0 [(0, .ref 125), (1, .int 44)] [] _ 0 0 _
                refine x_aloadn (x := 125) rfl rfl ?_
                refine z_getM (N := 92) (v := u51) 12 11 rfl f_12_235 rfl J rfl qu51 ?_
                refine x_iconst (v := 3) rfl ki_3 ?_
                refine x_icne (tgt := 22) rfl rfl (ti_ne rfl jk_3 ⟨fun c57 => ?_, fun c57 => ?_⟩)
                ·
                  refine x_iconst (v := 0) rfl ki_0 ?_
                  refine x_zret rfl rfl (by decide) ?_
                  show jX m_X12_line 6 0 0 214 [(9, .int v54), (0, .ref 125), (1, .int l1), (2, .int l2), (3, .int l3), (4, .int l4), (5, .int l5), (7, .int l7), (8, .int l8), (10, .int l10)] [.int 0] _ 0 0 _
                  refine x_ifeq (tgt := 221) rfl rfl (ti_eq jk_0 jk_0 (br_t (by omega) ?_))
                  exact jX.sub (jsb_c rfl (jsb_c rfl (jsb_c rfl (jsb_c rfl (jsb_c rfl (jsb_c rfl (jsb_c rfl (jsb_c rfl (jsb_c rfl jsb_n))))))))) (ct_X12_line_r125_221 hD hQ ih l1 l2 l3 l4 l5 l7 l8 v54 g0 g1 g2 g3 g4 u48 u51 v55 u49 u50 h (jr_of rfl (by omega)) (jr_of rfl (by omega)) (jr_of rfl (by omega)) (jr_of rfl (by omega)) (jr_of rfl (by omega)) (jr_of rfl (by omega)) (jr_of rfl (by omega)) (jr_mod rfl (by omega)) (jr_of rfl (by omega)) (jr_of rfl (by omega)) (jr_of rfl (by omega)) (jr_of rfl (by omega)) (jr_of rfl (by omega)) (jr_of rfl (by omega)) (jr_of rfl (by omega)) (jr_of rfl (by omega)) (jr_of rfl (by omega)) (jr_of rfl (by omega)) (jr_of rfl (by omega)) (by omega) (by omega) (by omega) (jmc S47 rfl (jmc S37 rfl z0)) (jmc S47 rfl (jmc S37 rfl z1)) (jmc S47 rfl (jmc S37 rfl z2)) (jmc S47 rfl (jmc S37 rfl z3)) (jmc S47 rfl (jmc S37 rfl z4)) qu48 qu51 qv55 qu49 qu50 (by omega) J Sm)
                ·
                  refine x_aloadn (x := 125) rfl rfl ?_
                  refine z_getL0 (N := 92) 12 12 rfl f_12_224 rfl J rfl (fun v58 => ?_)
                  have ev58 := jfullL v58
                  refine x_iloadn (x := 44) rfl rfl ?_
                  refine z_i2l rfl jk_44 (fun v59 ev59 => ?_)
                  refine z_lcmp rfl rfl rfl (fun v60 ev60 => ?_)
                  refine x_ifne (tgt := 22) rfl rfl (ti_ne rfl jk_0 ⟨fun c61 => ?_, fun c61 => ?_⟩)
                  ·
                    refine x_iconst (v := 0) rfl ki_0 ?_
                    refine x_zret rfl rfl (by decide) ?_
                    show jX m_X12_line 6 0 0 214 [(9, .int v54), (0, .ref 125), (1, .int l1), (2, .int l2), (3, .int l3), (4, .int l4), (5, .int l5), (7, .int l7), (8, .int l8), (10, .int l10)] [.int 0] _ 0 0 _
                    refine x_ifeq (tgt := 221) rfl rfl (ti_eq jk_0 jk_0 (br_t (by omega) ?_))
                    exact jX.sub (jsb_c rfl (jsb_c rfl (jsb_c rfl (jsb_c rfl (jsb_c rfl (jsb_c rfl (jsb_c rfl (jsb_c rfl (jsb_c rfl jsb_n))))))))) (ct_X12_line_r125_221 hD hQ ih l1 l2 l3 l4 l5 l7 l8 v54 g0 g1 g2 g3 g4 u48 u51 v55 u49 u50 h (jr_of rfl (by omega)) (jr_of rfl (by omega)) (jr_of rfl (by omega)) (jr_of rfl (by omega)) (jr_of rfl (by omega)) (jr_of rfl (by omega)) (jr_of rfl (by omega)) (jr_mod rfl (by omega)) (jr_of rfl (by omega)) (jr_of rfl (by omega)) (jr_of rfl (by omega)) (jr_of rfl (by omega)) (jr_of rfl (by omega)) (jr_of rfl (by omega)) (jr_of rfl (by omega)) (jr_of rfl (by omega)) (jr_of rfl (by omega)) (jr_of rfl (by omega)) (jr_of rfl (by omega)) (by omega) (by omega) (by omega) (jmc S47 rfl (jmc S37 rfl z0)) (jmc S47 rfl (jmc S37 rfl z1)) (jmc S47 rfl (jmc S37 rfl z2)) (jmc S47 rfl (jmc S37 rfl z3)) (jmc S47 rfl (jmc S37 rfl z4)) qu48 qu51 qv55 qu49 qu50 (by omega) J Sm)
                  ·
                    refine x_iconst (v := 1) rfl ki_1 ?_
                    refine x_goto (tgt := 23) rfl rfl ?_
                    refine x_zret rfl rfl (by decide) ?_
                    show jX m_X12_line 6 0 0 214 [(9, .int v54), (0, .ref 125), (1, .int l1), (2, .int l2), (3, .int l3), (4, .int l4), (5, .int l5), (7, .int l7), (8, .int l8), (10, .int l10)] [.int 1] _ 0 0 _
                    refine x_ifeq (tgt := 221) rfl rfl (ti_eq jk_1 jk_0 (br_f (by omega) ?_))
                    refine x_iconst (v := 1) rfl ki_1 ?_
                    refine x_goto (tgt := 222) rfl rfl ?_
                    exact jX.sub (jsb_c rfl (jsb_c rfl (jsb_c rfl (jsb_c rfl (jsb_c rfl (jsb_c rfl (jsb_c rfl (jsb_c rfl (jsb_c rfl jsb_n))))))))) (ct_X12_line_r125_300222 hD hQ ih l1 l2 l3 l4 l5 l7 l8 v54 g0 g1 g2 g3 g4 u48 u51 v55 u49 u50 h (jr_of rfl (by omega)) (jr_of rfl (by omega)) (jr_of rfl (by omega)) (jr_of rfl (by omega)) (jr_of rfl (by omega)) (jr_of rfl (by omega)) (jr_of rfl (by omega)) (jr_mod rfl (by omega)) (jr_of rfl (by omega)) (jr_of rfl (by omega)) (jr_of rfl (by omega)) (jr_of rfl (by omega)) (jr_of rfl (by omega)) (jr_of rfl (by omega)) (jr_of rfl (by omega)) (jr_of rfl (by omega)) (jr_of rfl (by omega)) (jr_of rfl (by omega)) (jr_of rfl (by omega)) (by omega) (by omega) (by omega) (jmc S47 rfl (jmc S37 rfl z0)) (jmc S47 rfl (jmc S37 rfl z1)) (jmc S47 rfl (jmc S37 rfl z2)) (jmc S47 rfl (jmc S37 rfl z3)) (jmc S47 rfl (jmc S37 rfl z4)) qu48 qu51 qv55 qu49 qu50 (by omega) J Sm)
            ·
              refine x_vret rfl rfl ?_
              show jX m_X12_line 6 0 0 198 [(0, .ref 125), (1, .int l1), (2, .int l2), (3, .int l3), (4, .int l4), (5, .int l5), (7, .int l7), (8, .int l8), (9, .int l9), (10, .int l10)] [] _ 0 0 _
              refine z_iinc (x := l9) (lsx9 := fun v62 => [(9, .int v62), (0, .ref 125), (1, .int l1), (2, .int l2), (3, .int l3), (4, .int l4), (5, .int l5), (7, .int l7), (8, .int l8), (10, .int l10)]) rfl rfl rfl jko_1 (by omega) rfl (fun _ => rfl) (fun v62 ev62 => ?_)
              refine x_aloadn (x := 125) rfl rfl ?_
              refine z_getM (N := 92) (v := v44) 12 14 rfl f_12_214 rfl J rfl qv44 ?_
              refine x_ifne (tgt := 221) rfl rfl (ti_ne rfl jk_0 (bn_t (by omega) ?_))
              exact jX.sub (jsb_c rfl (jsb_c rfl (jsb_c rfl (jsb_c rfl (jsb_c rfl (jsb_c rfl (jsb_c rfl (jsb_c rfl (jsb_c rfl jsb_n))))))))) (ct_X12_line_r125_221 hD hQ ih l1 l2 l3 l4 l5 l7 l8 v62 g0 g1 g2 g3 g4 u38 u41 v44 u39 u40 h (jr_of rfl (by omega)) (jr_of rfl (by omega)) (jr_of rfl (by omega)) (jr_of rfl (by omega)) (jr_of rfl (by omega)) (jr_of rfl (by omega)) (jr_of rfl (by omega)) (jr_mod rfl (by omega)) (jr_of rfl (by omega)) (jr_of rfl (by omega)) (jr_of rfl (by omega)) (jr_of rfl (by omega)) (jr_of rfl (by omega)) (jr_of rfl (by omega)) (jr_of rfl (by omega)) (jr_of rfl (by omega)) (jr_of rfl (by omega)) (jr_of rfl (by omega)) (jr_of rfl (by omega)) (by omega) (by omega) (by omega) (jmc S37 rfl z0) (jmc S37 rfl z1) (jmc S37 rfl z2) (jmc S37 rfl z3) (jmc S37 rfl z4) qu38 qu41 qv44 qu39 qu40 (by omega) J Sm)
          ·
            refine x_iconst (v := 1) rfl ki_1 ?_
            refine x_goto (tgt := 23) rfl rfl ?_
            refine x_zret rfl rfl (by decide) ?_
            show jX m_X12_readRole 5 0 0 6 [(0, .ref 125), (1, .int v5)] [.int 1] _ 0 0 _
            refine x_istoren (lsx9 := [(2, .int 1), (0, .ref 125), (1, .int v5)]) rfl rfl rfl ?_
            refine x_aloadn (x := 125) rfl rfl ?_
            refine x_iloadn (x := v5) rfl rfl ?_
            refine x_inv (N := m_X12_readName) (As := [.int v5]) (b := 125) (st := []) (dx9 := 4) (mc := 0) (ms := 0) (host := "") 12 rfl t_X12_readName ⟨Or.inl q_12_260, i_X12_readName.1, i_X12_readName.2⟩ ⟨by decide, rfl⟩ (congrArg Prod.fst (J.1.1 125 (12, 92) rfl)) rfl (by decide) rfl rfl ⟨by decide, by decide⟩ (sf_X12_readName_r125 (jr_of rfl (by omega)) (jr_mod rfl (by omega)) (by omega) hD J z5 z8 z9 (by omega) z6 z9 z5 (by omega)  (fun h J S63 u64 u65 u66 qu64 qu65 qu66 ru64 u67 u68 u69 qu67 qu68 qu69 ru67 => ?_))
            have Sm := jSm_tr rfl Sm S63
            have eu64 := (show 0 ≤ u64.toInt ∧ u64.toInt ≤ 400 from qu64 ▸ jrg_f J sg_125_10_11_1_0_1)
            have eu65 := (show 0 ≤ u65.toInt ∧ u65.toInt ≤ 400 from qu65 ▸ jrg_f J sg_125_8_9_1_0_1)
            have eu66 := (show 0 ≤ u66.toInt ∧ u66.toInt ≤ 400 from qu66 ▸ jrg_f J sg_125_9_10_1_0_1)
            have eu67 := (show 0 ≤ u67.toInt ∧ u67.toInt ≤ 3 from qu67 ▸ jrg_f J sg_125_11_12_1_0_1)
            obtain rfl : u66 = u68 := qu66.symm.trans qu68
            obtain rfl : u64 = u69 := qu64.symm.trans qu69
            show jX m_X12_readRole 5 0 0 12 [(2, .int 1), (0, .ref 125), (1, .int v5)] [] _ 0 0 _
            refine x_aloadn (x := 125) rfl rfl ?_
            refine z_getI (N := 92) 12 14 rfl f_12_214 rfl J rfl sg_125_14_15_1_0_1 (fun v70 qv70 ev70 => ?_)
            refine x_ifeq (tgt := 20) rfl rfl (ti_eq rfl jk_0 ⟨fun c71 => ?_, fun c71 => ?_⟩)
            ·
              refine x_iloadn (x := 1) rfl rfl ?_
              refine x_ifeq (tgt := 70) rfl rfl (ti_eq jk_1 jk_0 (br_f (by omega) ?_))
              refine x_aloadn (x := 125) rfl rfl ?_
              refine x_bipush (v := 44) rfl kb_44 ?_
              refine x_inv (N := m_X12_isSign) (As := [.int 44]) (b := 125) (st := []) (dx9 := 4) (mc := 0) (ms := 0) (host := "") 12 rfl t_X12_isSign ⟨Or.inl q_12_257, i_X12_isSign.1, i_X12_isSign.2⟩ ⟨by decide, rfl⟩ (congrArg Prod.fst (J.1.1 125 (12, 92) rfl)) rfl (by decide) rfl rfl ⟨by decide, by decide⟩ (jC.of rfl k_X12_isSign rfl ?_)
              show jX m_X12_isSign 4 0 0 0 [(0, .ref 125), (1, .int 44)] [] _ 0 0 _
              refine x_aloadn (x := 125) rfl rfl ?_
              refine z_getM (N := 92) (v := u67) 12 11 rfl f_12_235 rfl J rfl qu67 ?_
              refine x_iconst (v := 3) rfl ki_3 ?_
              refine x_icne (tgt := 22) rfl rfl (ti_ne rfl jk_3 ⟨fun c72 => ?_, fun c72 => ?_⟩)
              ·
                refine x_iconst (v := 0) rfl ki_0 ?_
                refine x_zret rfl rfl (by decide) ?_
                show jX m_X12_readRole 5 0 0 30 [(2, .int 1), (0, .ref 125), (1, .int v5)] [.int 0] _ 0 0 _
                refine x_ifne (tgt := 49) rfl rfl (ti_ne jk_0 jk_0 (bn_f (by omega) ?_))
                refine x_aloadn (x := 125) rfl rfl ?_
                refine x_bipush (v := 46) rfl kb_46 ?_
                refine x_inv (N := m_X12_isSign) (As := [.int 46]) (b := 125) (st := []) (dx9 := 4) (mc := 0) (ms := 0) (host := "") 12 rfl t_X12_isSign ⟨Or.inl q_12_257, i_X12_isSign.1, i_X12_isSign.2⟩ ⟨by decide, rfl⟩ (congrArg Prod.fst (J.1.1 125 (12, 92) rfl)) rfl (by decide) rfl rfl ⟨by decide, by decide⟩ (jC.of rfl k_X12_isSign rfl ?_)
                show jX m_X12_isSign 4 0 0 0 [(0, .ref 125), (1, .int 46)] [] _ 0 0 _
                refine x_aloadn (x := 125) rfl rfl ?_
                refine z_getM (N := 92) (v := u67) 12 11 rfl f_12_235 rfl J rfl qu67 ?_
                refine x_iconst (v := 3) rfl ki_3 ?_
                refine x_icne (tgt := 22) rfl rfl (ti_ne rfl jk_3 (bn_t (by omega) ?_))
                refine x_iconst (v := 0) rfl ki_0 ?_
                refine x_zret rfl rfl (by decide) ?_
                show jX m_X12_readRole 5 0 0 39 [(2, .int 1), (0, .ref 125), (1, .int v5)] [.int 0] _ 0 0 _
                refine x_ifne (tgt := 49) rfl rfl (ti_ne jk_0 jk_0 (bn_f (by omega) ?_))
                refine x_aloadn (x := 125) rfl rfl ?_
                refine z_getM (N := 92) (v := u67) 12 11 rfl f_12_235 rfl J rfl qu67 ?_
                refine x_ifne (tgt := 70) rfl rfl (ti_ne rfl jk_0 ⟨fun c73 => ?_, fun c73 => ?_⟩)
                ·
                  refine x_aloadn (x := 125) rfl rfl ?_
                  refine x_iloadn (x := v5) rfl rfl ?_
                  refine x_bipush (v := 14) rfl kb_14 ?_
                  refine z_iadd rfl rfl jk_14 (by omega) (fun v74 ev74 => ?_)
                  refine x_inv (N := m_X12_readName) (As := [.int v74]) (b := 125) (st := []) (dx9 := 4) (mc := 0) (ms := 0) (host := "") 12 rfl t_X12_readName ⟨Or.inl q_12_260, i_X12_readName.1, i_X12_readName.2⟩ ⟨by decide, rfl⟩ (congrArg Prod.fst (J.1.1 125 (12, 92) rfl)) rfl (by decide) rfl rfl ⟨by decide, by decide⟩ (sf_X12_readName_r125 (jr_of rfl (by omega)) (jr_mod rfl (by omega)) (by omega) hD J qu64 qu65 qu66 (by omega) qu67 qu66 qu64 (by omega)  (fun h J S75 u76 u77 u78 qu76 qu77 qu78 ru76 u79 u80 u81 qu79 qu80 qu81 ru79 => ?_))
                  have Sm := jSm_tr rfl Sm S75
                  have eu76 := (show 0 ≤ u76.toInt ∧ u76.toInt ≤ 400 from qu76 ▸ jrg_f J sg_125_10_11_1_0_1)
                  have eu77 := (show 0 ≤ u77.toInt ∧ u77.toInt ≤ 400 from qu77 ▸ jrg_f J sg_125_8_9_1_0_1)
                  have eu78 := (show 0 ≤ u78.toInt ∧ u78.toInt ≤ 400 from qu78 ▸ jrg_f J sg_125_9_10_1_0_1)
                  have eu79 := (show 0 ≤ u79.toInt ∧ u79.toInt ≤ 3 from qu79 ▸ jrg_f J sg_125_11_12_1_0_1)
                  obtain rfl : u78 = u80 := qu78.symm.trans qu80
                  obtain rfl : u76 = u81 := qu76.symm.trans qu81
                  show jX m_X12_readRole 5 0 0 78 [(2, .int 1), (0, .ref 125), (1, .int v5)] [] _ 0 0 _
                  refine x_vret rfl rfl ?_
                  show jX m_X12_line 6 0 0 198 [(0, .ref 125), (1, .int l1), (2, .int l2), (3, .int l3), (4, .int l4), (5, .int l5), (7, .int l7), (8, .int l8), (9, .int l9), (10, .int l10)] [] _ 0 0 _
                  refine z_iinc (x := l9) (lsx9 := fun v82 => [(9, .int v82), (0, .ref 125), (1, .int l1), (2, .int l2), (3, .int l3), (4, .int l4), (5, .int l5), (7, .int l7), (8, .int l8), (10, .int l10)]) rfl rfl rfl jko_1 (by omega) rfl (fun _ => rfl) (fun v82 ev82 => ?_)
                  refine x_aloadn (x := 125) rfl rfl ?_
                  refine z_getI (N := 92) 12 14 rfl f_12_214 rfl J rfl sg_125_14_15_1_0_1 (fun v83 qv83 ev83 => ?_)
                  refine x_ifne (tgt := 221) rfl rfl (ti_ne rfl jk_0 ⟨fun c84 => ?_, fun c84 => ?_⟩)
                  ·
                    exact jX.sub (jsb_c rfl (jsb_c rfl (jsb_c rfl (jsb_c rfl (jsb_c rfl (jsb_c rfl (jsb_c rfl (jsb_c rfl (jsb_c rfl jsb_n))))))))) (ct_X12_line_r125_221 hD hQ ih l1 l2 l3 l4 l5 l7 l8 v82 g0 g1 g2 g3 g4 u76 u79 v83 u77 u78 h (jr_of rfl (by omega)) (jr_of rfl (by omega)) (jr_of rfl (by omega)) (jr_of rfl (by omega)) (jr_of rfl (by omega)) (jr_of rfl (by omega)) (jr_of rfl (by omega)) (jr_mod rfl (by omega)) (jr_of rfl (by omega)) (jr_of rfl (by omega)) (jr_of rfl (by omega)) (jr_of rfl (by omega)) (jr_of rfl (by omega)) (jr_of rfl (by omega)) (jr_of rfl (by omega)) (jr_of rfl (by omega)) (jr_of rfl (by omega)) (jr_of rfl (by omega)) (jr_of rfl (by omega)) (by omega) (by omega) (by omega) (jmc S75 rfl (jmc S63 rfl z0)) (jmc S75 rfl (jmc S63 rfl z1)) (jmc S75 rfl (jmc S63 rfl z2)) (jmc S75 rfl (jmc S63 rfl z3)) (jmc S75 rfl (jmc S63 rfl z4)) qu76 qu79 qv83 qu77 qu78 (by omega) J Sm)
                  ·
                    refine x_aloadn (x := 125) rfl rfl ?_
                    refine x_bipush (v := 44) rfl kb_44 ?_
                    refine x_inv (N := m_X12_isSign) (As := [.int 44]) (b := 125) (st := []) (dx9 := 5) (mc := 0) (ms := 0) (host := "") 12 rfl t_X12_isSign ⟨Or.inl q_12_257, i_X12_isSign.1, i_X12_isSign.2⟩ ⟨by decide, rfl⟩ (congrArg Prod.fst (J.1.1 125 (12, 92) rfl)) rfl (by decide) rfl rfl ⟨by decide, by decide⟩ (jC.of rfl k_X12_isSign rfl ?_)
                    show jX m_X12_isSign 5 0 0 0 [(0, .ref 125), (1, .int 44)] [] _ 0 0 _
                    refine x_aloadn (x := 125) rfl rfl ?_
                    refine z_getM (N := 92) (v := u79) 12 11 rfl f_12_235 rfl J rfl qu79 ?_
                    refine x_iconst (v := 3) rfl ki_3 ?_
                    refine x_icne (tgt := 22) rfl rfl (ti_ne rfl jk_3 ⟨fun c85 => ?_, fun c85 => ?_⟩)
                    ·
                      refine x_iconst (v := 0) rfl ki_0 ?_
                      refine x_zret rfl rfl (by decide) ?_
                      show jX m_X12_line 6 0 0 214 [(9, .int v82), (0, .ref 125), (1, .int l1), (2, .int l2), (3, .int l3), (4, .int l4), (5, .int l5), (7, .int l7), (8, .int l8), (10, .int l10)] [.int 0] _ 0 0 _
                      refine x_ifeq (tgt := 221) rfl rfl (ti_eq jk_0 jk_0 (br_t (by omega) ?_))
                      exact jX.sub (jsb_c rfl (jsb_c rfl (jsb_c rfl (jsb_c rfl (jsb_c rfl (jsb_c rfl (jsb_c rfl (jsb_c rfl (jsb_c rfl jsb_n))))))))) (ct_X12_line_r125_221 hD hQ ih l1 l2 l3 l4 l5 l7 l8 v82 g0 g1 g2 g3 g4 u76 u79 v83 u77 u78 h (jr_of rfl (by omega)) (jr_of rfl (by omega)) (jr_of rfl (by omega)) (jr_of rfl (by omega)) (jr_of rfl (by omega)) (jr_of rfl (by omega)) (jr_of rfl (by omega)) (jr_mod rfl (by omega)) (jr_of rfl (by omega)) (jr_of rfl (by omega)) (jr_of rfl (by omega)) (jr_of rfl (by omega)) (jr_of rfl (by omega)) (jr_of rfl (by omega)) (jr_of rfl (by omega)) (jr_of rfl (by omega)) (jr_of rfl (by omega)) (jr_of rfl (by omega)) (jr_of rfl (by omega)) (by omega) (by omega) (by omega) (jmc S75 rfl (jmc S63 rfl z0)) (jmc S75 rfl (jmc S63 rfl z1)) (jmc S75 rfl (jmc S63 rfl z2)) (jmc S75 rfl (jmc S63 rfl z3)) (jmc S75 rfl (jmc S63 rfl z4)) qu76 qu79 qv83 qu77 qu78 (by omega) J Sm)
                    ·
                      refine x_aloadn (x := 125) rfl rfl ?_
                      refine z_getL0 (N := 92) 12 12 rfl f_12_224 rfl J rfl (fun v86 => ?_)
                      have ev86 := jfullL v86
                      refine x_iloadn (x := 44) rfl rfl ?_
                      refine z_i2l rfl jk_44 (fun v87 ev87 => ?_)
                      refine z_lcmp rfl rfl rfl (fun v88 ev88 => ?_)
                      refine x_ifne (tgt := 22) rfl rfl (ti_ne rfl jk_0 ⟨fun c89 => ?_, fun c89 => ?_⟩)
                      ·
                        refine x_iconst (v := 0) rfl ki_0 ?_
                        refine x_zret rfl rfl (by decide) ?_
                        show jX m_X12_line 6 0 0 214 [(9, .int v82), (0, .ref 125), (1, .int l1), (2, .int l2), (3, .int l3), (4, .int l4), (5, .int l5), (7, .int l7), (8, .int l8), (10, .int l10)] [.int 0] _ 0 0 _
                        refine x_ifeq (tgt := 221) rfl rfl (ti_eq jk_0 jk_0 (br_t (by omega) ?_))
                        exact jX.sub (jsb_c rfl (jsb_c rfl (jsb_c rfl (jsb_c rfl (jsb_c rfl (jsb_c rfl (jsb_c rfl (jsb_c rfl (jsb_c rfl jsb_n))))))))) (ct_X12_line_r125_221 hD hQ ih l1 l2 l3 l4 l5 l7 l8 v82 g0 g1 g2 g3 g4 u76 u79 v83 u77 u78 h (jr_of rfl (by omega)) (jr_of rfl (by omega)) (jr_of rfl (by omega)) (jr_of rfl (by omega)) (jr_of rfl (by omega)) (jr_of rfl (by omega)) (jr_of rfl (by omega)) (jr_mod rfl (by omega)) (jr_of rfl (by omega)) (jr_of rfl (by omega)) (jr_of rfl (by omega)) (jr_of rfl (by omega)) (jr_of rfl (by omega)) (jr_of rfl (by omega)) (jr_of rfl (by omega)) (jr_of rfl (by omega)) (jr_of rfl (by omega)) (jr_of rfl (by omega)) (jr_of rfl (by omega)) (by omega) (by omega) (by omega) (jmc S75 rfl (jmc S63 rfl z0)) (jmc S75 rfl (jmc S63 rfl z1)) (jmc S75 rfl (jmc S63 rfl z2)) (jmc S75 rfl (jmc S63 rfl z3)) (jmc S75 rfl (jmc S63 rfl z4)) qu76 qu79 qv83 qu77 qu78 (by omega) J Sm)
                      ·
                        refine x_iconst (v := 1) rfl ki_1 ?_
                        refine x_goto (tgt := 23) rfl rfl ?_
                        refine x_zret rfl rfl (by decide) ?_
                        show jX m_X12_line 6 0 0 214 [(9, .int v82), (0, .ref 125), (1, .int l1), (2, .int l2), (3, .int l3), (4, .int l4), (5, .int l5), (7, .int l7), (8, .int l8), (10, .int l10)] [.int 1] _ 0 0 _
                        refine x_ifeq (tgt := 221) rfl rfl (ti_eq jk_1 jk_0 (br_f (by omega) ?_))
                        refine x_iconst (v := 1) rfl ki_1 ?_
                        refine x_goto (tgt := 222) rfl rfl ?_
                        exact jX.sub (jsb_c rfl (jsb_c rfl (jsb_c rfl (jsb_c rfl (jsb_c rfl (jsb_c rfl (jsb_c rfl (jsb_c rfl (jsb_c rfl jsb_n))))))))) (ct_X12_line_r125_300222 hD hQ ih l1 l2 l3 l4 l5 l7 l8 v82 g0 g1 g2 g3 g4 u76 u79 v83 u77 u78 h (jr_of rfl (by omega)) (jr_of rfl (by omega)) (jr_of rfl (by omega)) (jr_of rfl (by omega)) (jr_of rfl (by omega)) (jr_of rfl (by omega)) (jr_of rfl (by omega)) (jr_mod rfl (by omega)) (jr_of rfl (by omega)) (jr_of rfl (by omega)) (jr_of rfl (by omega)) (jr_of rfl (by omega)) (jr_of rfl (by omega)) (jr_of rfl (by omega)) (jr_of rfl (by omega)) (jr_of rfl (by omega)) (jr_of rfl (by omega)) (jr_of rfl (by omega)) (jr_of rfl (by omega)) (by omega) (by omega) (by omega) (jmc S75 rfl (jmc S63 rfl z0)) (jmc S75 rfl (jmc S63 rfl z1)) (jmc S75 rfl (jmc S63 rfl z2)) (jmc S75 rfl (jmc S63 rfl z3)) (jmc S75 rfl (jmc S63 rfl z4)) qu76 qu79 qv83 qu77 qu78 (by omega) J Sm)
                ·
                  refine x_aloadn (x := 125) rfl rfl ?_
                  refine z_getR (N := 92) (b := 126) 12 2 rfl f_12_8 rfl J rfl 16002 ⟨rfl, rfl⟩ rfl ?_
                  refine x_iloadn (x := v5) rfl rfl ?_
                  refine x_bipush (v := 14) rfl kb_14 ?_
                  refine z_iadd rfl rfl jk_14 (by omega) (fun v90 ev90 => ?_)
                  refine x_iconst (v := 0) rfl ki_0 ?_
                  refine z_iast (N := 50660) (l := 20) (u := 18020) (w := 0) rfl hD J Sm rfl rfl rfl (by omega) jk_0 (wr_126_20 (by omega) (fun q1 q2 q3 q4 => by omega) (fun q1 q2 q3 q4 => by omega) (fun q1 q2 q3 q4 => by omega) (fun q1 q2 q3 q4 => by omega) (fun q1 q2 q3 q4 => by omega) (fun q1 q2 q3 q4 => by omega) (fun q1 q2 q3 q4 => by omega) (fun q1 q2 q3 q4 => by omega) (fun q1 q2 q3 q4 => by omega) (fun q1 q2 q3 q4 => by omega) (fun q1 q2 q3 q4 => by omega) (fun q1 q2 q3 q4 => by omega) (fun q1 q2 q3 q4 => by omega) (fun q1 q2 q3 q4 => by omega) (fun q1 q2 q3 q4 => by omega) (fun q1 q2 q3 q4 => by omega) (fun q1 q2 q3 q4 => by omega) (fun q1 q2 q3 q4 => by omega) (fun q1 q2 q3 q4 => by omega) (fun q1 q2 q3 q4 => by omega) (fun q1 q2 q3 q4 => by omega) (fun q1 q2 q3 q4 => by omega) (fun q1 q2 q3 q4 => by omega)) rfl (fun h w91 J Sm => ?_)
                  refine x_aloadn (x := 125) rfl rfl ?_
                  refine z_getR (N := 92) (b := 126) 12 2 rfl f_12_8 rfl J rfl 16002 ⟨rfl, rfl⟩ rfl ?_
                  refine x_iloadn (x := v5) rfl rfl ?_
                  refine x_bipush (v := 15) rfl kb_15 ?_
                  refine z_iadd rfl rfl jk_15 (by omega) (fun v92 ev92 => ?_)
                  refine x_iconst (v := 0) rfl ki_0 ?_
                  refine z_iast (N := 50660) (l := 20) (u := 18020) (w := 0) rfl hD J Sm rfl rfl rfl (by omega) jk_0 (wr_126_20 (by omega) (fun q1 q2 q3 q4 => by omega) (fun q1 q2 q3 q4 => by omega) (fun q1 q2 q3 q4 => by omega) (fun q1 q2 q3 q4 => by omega) (fun q1 q2 q3 q4 => by omega) (fun q1 q2 q3 q4 => by omega) (fun q1 q2 q3 q4 => by omega) (fun q1 q2 q3 q4 => by omega) (fun q1 q2 q3 q4 => by omega) (fun q1 q2 q3 q4 => by omega) (fun q1 q2 q3 q4 => by omega) (fun q1 q2 q3 q4 => by omega) (fun q1 q2 q3 q4 => by omega) (fun q1 q2 q3 q4 => by omega) (fun q1 q2 q3 q4 => by omega) (fun q1 q2 q3 q4 => by omega) (fun q1 q2 q3 q4 => by omega) (fun q1 q2 q3 q4 => by omega) (fun q1 q2 q3 q4 => by omega) (fun q1 q2 q3 q4 => by omega) (fun q1 q2 q3 q4 => by omega) (fun q1 q2 q3 q4 => by omega) (fun q1 q2 q3 q4 => by omega)) rfl (fun h w93 J Sm => ?_)
                  refine x_vret rfl rfl ?_
                  show jX m_X12_line 6 0 0 198 [(0, .ref 125), (1, .int l1), (2, .int l2), (3, .int l3), (4, .int l4), (5, .int l5), (7, .int l7), (8, .int l8), (9, .int l9), (10, .int l10)] [] _ 0 0 _
                  refine z_iinc (x := l9) (lsx9 := fun v94 => [(9, .int v94), (0, .ref 125), (1, .int l1), (2, .int l2), (3, .int l3), (4, .int l4), (5, .int l5), (7, .int l7), (8, .int l8), (10, .int l10)]) rfl rfl rfl jko_1 (by omega) rfl (fun _ => rfl) (fun v94 ev94 => ?_)
                  refine x_aloadn (x := 125) rfl rfl ?_
                  refine z_getM (N := 92) (v := v70) 12 14 rfl f_12_214 rfl J rfl (jmo w93 rfl (jmo w91 rfl qv70)) ?_
                  refine x_ifne (tgt := 221) rfl rfl (ti_ne rfl jk_0 (bn_f (by omega) ?_))
                  refine x_aloadn (x := 125) rfl rfl ?_
                  refine x_bipush (v := 44) rfl kb_44 ?_
                  refine x_inv (N := m_X12_isSign) (As := [.int 44]) (b := 125) (st := []) (dx9 := 5) (mc := 0) (ms := 0) (host := "") 12 rfl t_X12_isSign ⟨Or.inl q_12_257, i_X12_isSign.1, i_X12_isSign.2⟩ ⟨by decide, rfl⟩ (congrArg Prod.fst (J.1.1 125 (12, 92) rfl)) rfl (by decide) rfl rfl ⟨by decide, by decide⟩ (jC.of rfl k_X12_isSign rfl ?_)
                  show jX m_X12_isSign 5 0 0 0 [(0, .ref 125), (1, .int 44)] [] _ 0 0 _
                  refine x_aloadn (x := 125) rfl rfl ?_
                  refine z_getM (N := 92) (v := u67) 12 11 rfl f_12_235 rfl J rfl (jmo w93 rfl (jmo w91 rfl qu67)) ?_
                  refine x_iconst (v := 3) rfl ki_3 ?_
                  refine x_icne (tgt := 22) rfl rfl (ti_ne rfl jk_3 (bn_t (by omega) ?_))
                  refine x_iconst (v := 0) rfl ki_0 ?_
                  refine x_zret rfl rfl (by decide) ?_
                  show jX m_X12_line 6 0 0 214 [(9, .int v94), (0, .ref 125), (1, .int l1), (2, .int l2), (3, .int l3), (4, .int l4), (5, .int l5), (7, .int l7), (8, .int l8), (10, .int l10)] [.int 0] _ 0 0 _
                  refine x_ifeq (tgt := 221) rfl rfl (ti_eq jk_0 jk_0 (br_t (by omega) ?_))
                  exact jX.sub (jsb_c rfl (jsb_c rfl (jsb_c rfl (jsb_c rfl (jsb_c rfl (jsb_c rfl (jsb_c rfl (jsb_c rfl (jsb_c rfl jsb_n))))))))) (ct_X12_line_r125_221 hD hQ ih l1 l2 l3 l4 l5 l7 l8 v94 g0 g1 g2 g3 g4 u64 u67 v70 u65 u66 h (jr_of rfl (by omega)) (jr_of rfl (by omega)) (jr_of rfl (by omega)) (jr_of rfl (by omega)) (jr_of rfl (by omega)) (jr_of rfl (by omega)) (jr_of rfl (by omega)) (jr_mod rfl (by omega)) (jr_of rfl (by omega)) (jr_of rfl (by omega)) (jr_of rfl (by omega)) (jr_of rfl (by omega)) (jr_of rfl (by omega)) (jr_of rfl (by omega)) (jr_of rfl (by omega)) (jr_of rfl (by omega)) (jr_of rfl (by omega)) (jr_of rfl (by omega)) (jr_of rfl (by omega)) (by omega) (by omega) (by omega) (jmo2 w93 rfl jk_0 (by omega) (jmo2 w91 rfl jk_0 (by omega) (jmc S63 rfl z0))) (jmo2 w93 rfl jk_16 (by omega) (jmo2 w91 rfl jk_16 (by omega) (jmc S63 rfl z1))) (jmo2 w93 rfl jk_4 (by omega) (jmo2 w91 rfl jk_4 (by omega) (jmc S63 rfl z2))) (jmo2 w93 rfl jk_5 (by omega) (jmo2 w91 rfl jk_5 (by omega) (jmc S63 rfl z3))) (jmo2 w93 rfl jk_7 (by omega) (jmo2 w91 rfl jk_7 (by omega) (jmc S63 rfl z4))) (jmo w93 rfl (jmo w91 rfl qu64)) (jmo w93 rfl (jmo w91 rfl qu67)) (jmo w93 rfl (jmo w91 rfl qv70)) (jmo w93 rfl (jmo w91 rfl qu65)) (jmo w93 rfl (jmo w91 rfl qu66)) (by omega) J Sm)
              ·
                refine x_aloadn (x := 125) rfl rfl ?_
                refine z_getL0 (N := 92) 12 12 rfl f_12_224 rfl J rfl (fun v95 => ?_)
                have ev95 := jfullL v95
                refine x_iloadn (x := 44) rfl rfl ?_
                refine z_i2l rfl jk_44 (fun v96 ev96 => ?_)
                refine z_lcmp rfl rfl rfl (fun v97 ev97 => ?_)
                refine x_ifne (tgt := 22) rfl rfl (ti_ne rfl jk_0 ⟨fun c98 => ?_, fun c98 => ?_⟩)
                ·
                  refine x_iconst (v := 0) rfl ki_0 ?_
                  refine x_zret rfl rfl (by decide) ?_
                  show jX m_X12_readRole 5 0 0 30 [(2, .int 1), (0, .ref 125), (1, .int v5)] [.int 0] _ 0 0 _
                  refine x_ifne (tgt := 49) rfl rfl (ti_ne jk_0 jk_0 (bn_f (by omega) ?_))
                  refine x_aloadn (x := 125) rfl rfl ?_
                  refine x_bipush (v := 46) rfl kb_46 ?_
                  refine x_inv (N := m_X12_isSign) (As := [.int 46]) (b := 125) (st := []) (dx9 := 4) (mc := 0) (ms := 0) (host := "") 12 rfl t_X12_isSign ⟨Or.inl q_12_257, i_X12_isSign.1, i_X12_isSign.2⟩ ⟨by decide, rfl⟩ (congrArg Prod.fst (J.1.1 125 (12, 92) rfl)) rfl (by decide) rfl rfl ⟨by decide, by decide⟩ (jC.of rfl k_X12_isSign rfl ?_)
                  show jX m_X12_isSign 4 0 0 0 [(0, .ref 125), (1, .int 46)] [] _ 0 0 _
                  refine x_aloadn (x := 125) rfl rfl ?_
                  refine z_getM (N := 92) (v := u67) 12 11 rfl f_12_235 rfl J rfl qu67 ?_
                  refine x_iconst (v := 3) rfl ki_3 ?_
                  refine x_icne (tgt := 22) rfl rfl (ti_ne rfl jk_3 (bn_f (by omega) ?_))
                  refine x_aloadn (x := 125) rfl rfl ?_
                  refine z_getL0 (N := 92) 12 12 rfl f_12_224 rfl J rfl (fun v99 => ?_)
                  have ev99 := jfullL v99
                  refine x_iloadn (x := 46) rfl rfl ?_
                  refine z_i2l rfl jk_46 (fun v100 ev100 => ?_)
                  refine z_lcmp rfl rfl rfl (fun v101 ev101 => ?_)
                  refine x_ifne (tgt := 22) rfl rfl (ti_ne rfl jk_0 ⟨fun c102 => ?_, fun c102 => ?_⟩)
                  ·
                    refine x_iconst (v := 0) rfl ki_0 ?_
                    refine x_zret rfl rfl (by decide) ?_
                    show jX m_X12_readRole 5 0 0 39 [(2, .int 1), (0, .ref 125), (1, .int v5)] [.int 0] _ 0 0 _
                    refine x_ifne (tgt := 49) rfl rfl (ti_ne jk_0 jk_0 (bn_f (by omega) ?_))
                    refine x_aloadn (x := 125) rfl rfl ?_
                    refine z_getM (N := 92) (v := u67) 12 11 rfl f_12_235 rfl J rfl qu67 ?_
                    refine x_ifne (tgt := 70) rfl rfl (ti_ne rfl jk_0 (bn_t (by omega) ?_))
                    refine x_aloadn (x := 125) rfl rfl ?_
                    refine x_iloadn (x := v5) rfl rfl ?_
                    refine x_bipush (v := 14) rfl kb_14 ?_
                    refine z_iadd rfl rfl jk_14 (by omega) (fun v103 ev103 => ?_)
                    refine x_inv (N := m_X12_readName) (As := [.int v103]) (b := 125) (st := []) (dx9 := 4) (mc := 0) (ms := 0) (host := "") 12 rfl t_X12_readName ⟨Or.inl q_12_260, i_X12_readName.1, i_X12_readName.2⟩ ⟨by decide, rfl⟩ (congrArg Prod.fst (J.1.1 125 (12, 92) rfl)) rfl (by decide) rfl rfl ⟨by decide, by decide⟩ (sf_X12_readName_r125 (jr_of rfl (by omega)) (jr_mod rfl (by omega)) (by omega) hD J qu64 qu65 qu66 (by omega) qu67 qu66 qu64 (by omega)  (fun h J S104 u105 u106 u107 qu105 qu106 qu107 ru105 u108 u109 u110 qu108 qu109 qu110 ru108 => ?_))
                    have Sm := jSm_tr rfl Sm S104
                    have eu105 := (show 0 ≤ u105.toInt ∧ u105.toInt ≤ 400 from qu105 ▸ jrg_f J sg_125_10_11_1_0_1)
                    have eu106 := (show 0 ≤ u106.toInt ∧ u106.toInt ≤ 400 from qu106 ▸ jrg_f J sg_125_8_9_1_0_1)
                    have eu107 := (show 0 ≤ u107.toInt ∧ u107.toInt ≤ 400 from qu107 ▸ jrg_f J sg_125_9_10_1_0_1)
                    have eu108 := (show 0 ≤ u108.toInt ∧ u108.toInt ≤ 3 from qu108 ▸ jrg_f J sg_125_11_12_1_0_1)
                    obtain rfl : u107 = u109 := qu107.symm.trans qu109
                    obtain rfl : u105 = u110 := qu105.symm.trans qu110
                    show jX m_X12_readRole 5 0 0 78 [(2, .int 1), (0, .ref 125), (1, .int v5)] [] _ 0 0 _
                    refine x_vret rfl rfl ?_
                    show jX m_X12_line 6 0 0 198 [(0, .ref 125), (1, .int l1), (2, .int l2), (3, .int l3), (4, .int l4), (5, .int l5), (7, .int l7), (8, .int l8), (9, .int l9), (10, .int l10)] [] _ 0 0 _
                    refine z_iinc (x := l9) (lsx9 := fun v111 => [(9, .int v111), (0, .ref 125), (1, .int l1), (2, .int l2), (3, .int l3), (4, .int l4), (5, .int l5), (7, .int l7), (8, .int l8), (10, .int l10)]) rfl rfl rfl jko_1 (by omega) rfl (fun _ => rfl) (fun v111 ev111 => ?_)
                    refine x_aloadn (x := 125) rfl rfl ?_
                    refine z_getI (N := 92) 12 14 rfl f_12_214 rfl J rfl sg_125_14_15_1_0_1 (fun v112 qv112 ev112 => ?_)
                    refine x_ifne (tgt := 221) rfl rfl (ti_ne rfl jk_0 ⟨fun c113 => ?_, fun c113 => ?_⟩)
                    ·
                      exact jX.sub (jsb_c rfl (jsb_c rfl (jsb_c rfl (jsb_c rfl (jsb_c rfl (jsb_c rfl (jsb_c rfl (jsb_c rfl (jsb_c rfl jsb_n))))))))) (ct_X12_line_r125_221 hD hQ ih l1 l2 l3 l4 l5 l7 l8 v111 g0 g1 g2 g3 g4 u105 u108 v112 u106 u107 h (jr_of rfl (by omega)) (jr_of rfl (by omega)) (jr_of rfl (by omega)) (jr_of rfl (by omega)) (jr_of rfl (by omega)) (jr_of rfl (by omega)) (jr_of rfl (by omega)) (jr_mod rfl (by omega)) (jr_of rfl (by omega)) (jr_of rfl (by omega)) (jr_of rfl (by omega)) (jr_of rfl (by omega)) (jr_of rfl (by omega)) (jr_of rfl (by omega)) (jr_of rfl (by omega)) (jr_of rfl (by omega)) (jr_of rfl (by omega)) (jr_of rfl (by omega)) (jr_of rfl (by omega)) (by omega) (by omega) (by omega) (jmc S104 rfl (jmc S63 rfl z0)) (jmc S104 rfl (jmc S63 rfl z1)) (jmc S104 rfl (jmc S63 rfl z2)) (jmc S104 rfl (jmc S63 rfl z3)) (jmc S104 rfl (jmc S63 rfl z4)) qu105 qu108 qv112 qu106 qu107 (by omega) J Sm)
                    ·
                      refine x_aloadn (x := 125) rfl rfl ?_
                      refine x_bipush (v := 44) rfl kb_44 ?_
                      refine x_inv (N := m_X12_isSign) (As := [.int 44]) (b := 125) (st := []) (dx9 := 5) (mc := 0) (ms := 0) (host := "") 12 rfl t_X12_isSign ⟨Or.inl q_12_257, i_X12_isSign.1, i_X12_isSign.2⟩ ⟨by decide, rfl⟩ (congrArg Prod.fst (J.1.1 125 (12, 92) rfl)) rfl (by decide) rfl rfl ⟨by decide, by decide⟩ (jC.of rfl k_X12_isSign rfl ?_)
                      show jX m_X12_isSign 5 0 0 0 [(0, .ref 125), (1, .int 44)] [] _ 0 0 _
                      refine x_aloadn (x := 125) rfl rfl ?_
                      refine z_getM (N := 92) (v := u108) 12 11 rfl f_12_235 rfl J rfl qu108 ?_
                      refine x_iconst (v := 3) rfl ki_3 ?_
                      refine x_icne (tgt := 22) rfl rfl (ti_ne rfl jk_3 ⟨fun c114 => ?_, fun c114 => ?_⟩)
                      ·
                        refine x_iconst (v := 0) rfl ki_0 ?_
                        refine x_zret rfl rfl (by decide) ?_
                        show jX m_X12_line 6 0 0 214 [(9, .int v111), (0, .ref 125), (1, .int l1), (2, .int l2), (3, .int l3), (4, .int l4), (5, .int l5), (7, .int l7), (8, .int l8), (10, .int l10)] [.int 0] _ 0 0 _
                        refine x_ifeq (tgt := 221) rfl rfl (ti_eq jk_0 jk_0 (br_t (by omega) ?_))
                        exact jX.sub (jsb_c rfl (jsb_c rfl (jsb_c rfl (jsb_c rfl (jsb_c rfl (jsb_c rfl (jsb_c rfl (jsb_c rfl (jsb_c rfl jsb_n))))))))) (ct_X12_line_r125_221 hD hQ ih l1 l2 l3 l4 l5 l7 l8 v111 g0 g1 g2 g3 g4 u105 u108 v112 u106 u107 h (jr_of rfl (by omega)) (jr_of rfl (by omega)) (jr_of rfl (by omega)) (jr_of rfl (by omega)) (jr_of rfl (by omega)) (jr_of rfl (by omega)) (jr_of rfl (by omega)) (jr_mod rfl (by omega)) (jr_of rfl (by omega)) (jr_of rfl (by omega)) (jr_of rfl (by omega)) (jr_of rfl (by omega)) (jr_of rfl (by omega)) (jr_of rfl (by omega)) (jr_of rfl (by omega)) (jr_of rfl (by omega)) (jr_of rfl (by omega)) (jr_of rfl (by omega)) (jr_of rfl (by omega)) (by omega) (by omega) (by omega) (jmc S104 rfl (jmc S63 rfl z0)) (jmc S104 rfl (jmc S63 rfl z1)) (jmc S104 rfl (jmc S63 rfl z2)) (jmc S104 rfl (jmc S63 rfl z3)) (jmc S104 rfl (jmc S63 rfl z4)) qu105 qu108 qv112 qu106 qu107 (by omega) J Sm)
                      ·
                        refine x_aloadn (x := 125) rfl rfl ?_
                        refine z_getL0 (N := 92) 12 12 rfl f_12_224 rfl J rfl (fun v115 => ?_)
                        have ev115 := jfullL v115
                        refine x_iloadn (x := 44) rfl rfl ?_
                        refine z_i2l rfl jk_44 (fun v116 ev116 => ?_)
                        refine z_lcmp rfl rfl rfl (fun v117 ev117 => ?_)
                        refine x_ifne (tgt := 22) rfl rfl (ti_ne rfl jk_0 ⟨fun c118 => ?_, fun c118 => ?_⟩)
                        ·
                          refine x_iconst (v := 0) rfl ki_0 ?_
                          refine x_zret rfl rfl (by decide) ?_
                          show jX m_X12_line 6 0 0 214 [(9, .int v111), (0, .ref 125), (1, .int l1), (2, .int l2), (3, .int l3), (4, .int l4), (5, .int l5), (7, .int l7), (8, .int l8), (10, .int l10)] [.int 0] _ 0 0 _
                          refine x_ifeq (tgt := 221) rfl rfl (ti_eq jk_0 jk_0 (br_t (by omega) ?_))
                          exact jX.sub (jsb_c rfl (jsb_c rfl (jsb_c rfl (jsb_c rfl (jsb_c rfl (jsb_c rfl (jsb_c rfl (jsb_c rfl (jsb_c rfl jsb_n))))))))) (ct_X12_line_r125_221 hD hQ ih l1 l2 l3 l4 l5 l7 l8 v111 g0 g1 g2 g3 g4 u105 u108 v112 u106 u107 h (jr_of rfl (by omega)) (jr_of rfl (by omega)) (jr_of rfl (by omega)) (jr_of rfl (by omega)) (jr_of rfl (by omega)) (jr_of rfl (by omega)) (jr_of rfl (by omega)) (jr_mod rfl (by omega)) (jr_of rfl (by omega)) (jr_of rfl (by omega)) (jr_of rfl (by omega)) (jr_of rfl (by omega)) (jr_of rfl (by omega)) (jr_of rfl (by omega)) (jr_of rfl (by omega)) (jr_of rfl (by omega)) (jr_of rfl (by omega)) (jr_of rfl (by omega)) (jr_of rfl (by omega)) (by omega) (by omega) (by omega) (jmc S104 rfl (jmc S63 rfl z0)) (jmc S104 rfl (jmc S63 rfl z1)) (jmc S104 rfl (jmc S63 rfl z2)) (jmc S104 rfl (jmc S63 rfl z3)) (jmc S104 rfl (jmc S63 rfl z4)) qu105 qu108 qv112 qu106 qu107 (by omega) J Sm)
                        ·
                          refine x_iconst (v := 1) rfl ki_1 ?_
                          refine x_goto (tgt := 23) rfl rfl ?_
                          refine x_zret rfl rfl (by decide) ?_
                          show jX m_X12_line 6 0 0 214 [(9, .int v111), (0, .ref 125), (1, .int l1), (2, .int l2), (3, .int l3), (4, .int l4), (5, .int l5), (7, .int l7), (8, .int l8), (10, .int l10)] [.int 1] _ 0 0 _
                          refine x_ifeq (tgt := 221) rfl rfl (ti_eq jk_1 jk_0 (br_f (by omega) ?_))
                          refine x_iconst (v := 1) rfl ki_1 ?_
                          refine x_goto (tgt := 222) rfl rfl ?_
                          exact jX.sub (jsb_c rfl (jsb_c rfl (jsb_c rfl (jsb_c rfl (jsb_c rfl (jsb_c rfl (jsb_c rfl (jsb_c rfl (jsb_c rfl jsb_n))))))))) (ct_X12_line_r125_300222 hD hQ ih l1 l2 l3 l4 l5 l7 l8 v111 g0 g1 g2 g3 g4 u105 u108 v112 u106 u107 h (jr_of rfl (by omega)) (jr_of rfl (by omega)) (jr_of rfl (by omega)) (jr_of rfl (by omega)) (jr_of rfl (by omega)) (jr_of rfl (by omega)) (jr_of rfl (by omega)) (jr_mod rfl (by omega)) (jr_of rfl (by omega)) (jr_of rfl (by omega)) (jr_of rfl (by omega)) (jr_of rfl (by omega)) (jr_of rfl (by omega)) (jr_of rfl (by omega)) (jr_of rfl (by omega)) (jr_of rfl (by omega)) (jr_of rfl (by omega)) (jr_of rfl (by omega)) (jr_of rfl (by omega)) (by omega) (by omega) (by omega) (jmc S104 rfl (jmc S63 rfl z0)) (jmc S104 rfl (jmc S63 rfl z1)) (jmc S104 rfl (jmc S63 rfl z2)) (jmc S104 rfl (jmc S63 rfl z3)) (jmc S104 rfl (jmc S63 rfl z4)) qu105 qu108 qv112 qu106 qu107 (by omega) J Sm)
                  ·
                    refine x_iconst (v := 1) rfl ki_1 ?_
                    refine x_goto (tgt := 23) rfl rfl ?_
                    refine x_zret rfl rfl (by decide) ?_
                    show jX m_X12_readRole 5 0 0 39 [(2, .int 1), (0, .ref 125), (1, .int v5)] [.int 1] _ 0 0 _
                    refine x_ifne (tgt := 49) rfl rfl (ti_ne jk_1 jk_0 (bn_t (by omega) ?_))
                    refine x_aloadn (x := 125) rfl rfl ?_
                    refine z_getR (N := 92) (b := 126) 12 2 rfl f_12_8 rfl J rfl 16002 ⟨rfl, rfl⟩ rfl ?_
                    refine x_iloadn (x := v5) rfl rfl ?_
                    refine x_bipush (v := 14) rfl kb_14 ?_
                    refine z_iadd rfl rfl jk_14 (by omega) (fun v119 ev119 => ?_)
                    refine x_iconst (v := 0) rfl ki_0 ?_
                    refine z_iast (N := 50660) (l := 20) (u := 18020) (w := 0) rfl hD J Sm rfl rfl rfl (by omega) jk_0 (wr_126_20 (by omega) (fun q1 q2 q3 q4 => by omega) (fun q1 q2 q3 q4 => by omega) (fun q1 q2 q3 q4 => by omega) (fun q1 q2 q3 q4 => by omega) (fun q1 q2 q3 q4 => by omega) (fun q1 q2 q3 q4 => by omega) (fun q1 q2 q3 q4 => by omega) (fun q1 q2 q3 q4 => by omega) (fun q1 q2 q3 q4 => by omega) (fun q1 q2 q3 q4 => by omega) (fun q1 q2 q3 q4 => by omega) (fun q1 q2 q3 q4 => by omega) (fun q1 q2 q3 q4 => by omega) (fun q1 q2 q3 q4 => by omega) (fun q1 q2 q3 q4 => by omega) (fun q1 q2 q3 q4 => by omega) (fun q1 q2 q3 q4 => by omega) (fun q1 q2 q3 q4 => by omega) (fun q1 q2 q3 q4 => by omega) (fun q1 q2 q3 q4 => by omega) (fun q1 q2 q3 q4 => by omega) (fun q1 q2 q3 q4 => by omega) (fun q1 q2 q3 q4 => by omega)) rfl (fun h w120 J Sm => ?_)
                    refine x_aloadn (x := 125) rfl rfl ?_
                    refine z_getR (N := 92) (b := 126) 12 2 rfl f_12_8 rfl J rfl 16002 ⟨rfl, rfl⟩ rfl ?_
                    refine x_iloadn (x := v5) rfl rfl ?_
                    refine x_bipush (v := 15) rfl kb_15 ?_
                    refine z_iadd rfl rfl jk_15 (by omega) (fun v121 ev121 => ?_)
                    refine x_iconst (v := 0) rfl ki_0 ?_
                    refine z_iast (N := 50660) (l := 20) (u := 18020) (w := 0) rfl hD J Sm rfl rfl rfl (by omega) jk_0 (wr_126_20 (by omega) (fun q1 q2 q3 q4 => by omega) (fun q1 q2 q3 q4 => by omega) (fun q1 q2 q3 q4 => by omega) (fun q1 q2 q3 q4 => by omega) (fun q1 q2 q3 q4 => by omega) (fun q1 q2 q3 q4 => by omega) (fun q1 q2 q3 q4 => by omega) (fun q1 q2 q3 q4 => by omega) (fun q1 q2 q3 q4 => by omega) (fun q1 q2 q3 q4 => by omega) (fun q1 q2 q3 q4 => by omega) (fun q1 q2 q3 q4 => by omega) (fun q1 q2 q3 q4 => by omega) (fun q1 q2 q3 q4 => by omega) (fun q1 q2 q3 q4 => by omega) (fun q1 q2 q3 q4 => by omega) (fun q1 q2 q3 q4 => by omega) (fun q1 q2 q3 q4 => by omega) (fun q1 q2 q3 q4 => by omega) (fun q1 q2 q3 q4 => by omega) (fun q1 q2 q3 q4 => by omega) (fun q1 q2 q3 q4 => by omega) (fun q1 q2 q3 q4 => by omega)) rfl (fun h w122 J Sm => ?_)
                    refine x_vret rfl rfl ?_
                    show jX m_X12_line 6 0 0 198 [(0, .ref 125), (1, .int l1), (2, .int l2), (3, .int l3), (4, .int l4), (5, .int l5), (7, .int l7), (8, .int l8), (9, .int l9), (10, .int l10)] [] _ 0 0 _
                    refine z_iinc (x := l9) (lsx9 := fun v123 => [(9, .int v123), (0, .ref 125), (1, .int l1), (2, .int l2), (3, .int l3), (4, .int l4), (5, .int l5), (7, .int l7), (8, .int l8), (10, .int l10)]) rfl rfl rfl jko_1 (by omega) rfl (fun _ => rfl) (fun v123 ev123 => ?_)
                    refine x_aloadn (x := 125) rfl rfl ?_
                    refine z_getM (N := 92) (v := v70) 12 14 rfl f_12_214 rfl J rfl (jmo w122 rfl (jmo w120 rfl qv70)) ?_
                    refine x_ifne (tgt := 221) rfl rfl (ti_ne rfl jk_0 (bn_f (by omega) ?_))
                    refine x_aloadn (x := 125) rfl rfl ?_
                    refine x_bipush (v := 44) rfl kb_44 ?_
                    refine x_inv (N := m_X12_isSign) (As := [.int 44]) (b := 125) (st := []) (dx9 := 5) (mc := 0) (ms := 0) (host := "") 12 rfl t_X12_isSign ⟨Or.inl q_12_257, i_X12_isSign.1, i_X12_isSign.2⟩ ⟨by decide, rfl⟩ (congrArg Prod.fst (J.1.1 125 (12, 92) rfl)) rfl (by decide) rfl rfl ⟨by decide, by decide⟩ (jC.of rfl k_X12_isSign rfl ?_)
                    show jX m_X12_isSign 5 0 0 0 [(0, .ref 125), (1, .int 44)] [] _ 0 0 _
                    refine x_aloadn (x := 125) rfl rfl ?_
                    refine z_getM (N := 92) (v := u67) 12 11 rfl f_12_235 rfl J rfl (jmo w122 rfl (jmo w120 rfl qu67)) ?_
                    refine x_iconst (v := 3) rfl ki_3 ?_
                    refine x_icne (tgt := 22) rfl rfl (ti_ne rfl jk_3 (bn_f (by omega) ?_))
                    refine x_aloadn (x := 125) rfl rfl ?_
                    refine z_getL0 (N := 92) 12 12 rfl f_12_224 rfl J rfl (fun v124 => ?_)
                    have ev124 := jfullL v124
                    refine x_iloadn (x := 44) rfl rfl ?_
                    refine z_i2l rfl jk_44 (fun v125 ev125 => ?_)
                    refine z_lcmp rfl rfl rfl (fun v126 ev126 => ?_)
                    refine x_ifne (tgt := 22) rfl rfl (ti_ne rfl jk_0 ⟨fun c127 => ?_, fun c127 => ?_⟩)
                    ·
                      refine x_iconst (v := 0) rfl ki_0 ?_
                      refine x_zret rfl rfl (by decide) ?_
                      show jX m_X12_line 6 0 0 214 [(9, .int v123), (0, .ref 125), (1, .int l1), (2, .int l2), (3, .int l3), (4, .int l4), (5, .int l5), (7, .int l7), (8, .int l8), (10, .int l10)] [.int 0] _ 0 0 _
                      refine x_ifeq (tgt := 221) rfl rfl (ti_eq jk_0 jk_0 (br_t (by omega) ?_))
                      exact jX.sub (jsb_c rfl (jsb_c rfl (jsb_c rfl (jsb_c rfl (jsb_c rfl (jsb_c rfl (jsb_c rfl (jsb_c rfl (jsb_c rfl jsb_n))))))))) (ct_X12_line_r125_221 hD hQ ih l1 l2 l3 l4 l5 l7 l8 v123 g0 g1 g2 g3 g4 u64 u67 v70 u65 u66 h (jr_of rfl (by omega)) (jr_of rfl (by omega)) (jr_of rfl (by omega)) (jr_of rfl (by omega)) (jr_of rfl (by omega)) (jr_of rfl (by omega)) (jr_of rfl (by omega)) (jr_mod rfl (by omega)) (jr_of rfl (by omega)) (jr_of rfl (by omega)) (jr_of rfl (by omega)) (jr_of rfl (by omega)) (jr_of rfl (by omega)) (jr_of rfl (by omega)) (jr_of rfl (by omega)) (jr_of rfl (by omega)) (jr_of rfl (by omega)) (jr_of rfl (by omega)) (jr_of rfl (by omega)) (by omega) (by omega) (by omega) (jmo2 w122 rfl jk_0 (by omega) (jmo2 w120 rfl jk_0 (by omega) (jmc S63 rfl z0))) (jmo2 w122 rfl jk_16 (by omega) (jmo2 w120 rfl jk_16 (by omega) (jmc S63 rfl z1))) (jmo2 w122 rfl jk_4 (by omega) (jmo2 w120 rfl jk_4 (by omega) (jmc S63 rfl z2))) (jmo2 w122 rfl jk_5 (by omega) (jmo2 w120 rfl jk_5 (by omega) (jmc S63 rfl z3))) (jmo2 w122 rfl jk_7 (by omega) (jmo2 w120 rfl jk_7 (by omega) (jmc S63 rfl z4))) (jmo w122 rfl (jmo w120 rfl qu64)) (jmo w122 rfl (jmo w120 rfl qu67)) (jmo w122 rfl (jmo w120 rfl qv70)) (jmo w122 rfl (jmo w120 rfl qu65)) (jmo w122 rfl (jmo w120 rfl qu66)) (by omega) J Sm)
                    ·
                      refine x_iconst (v := 1) rfl ki_1 ?_
                      refine x_goto (tgt := 23) rfl rfl ?_
                      refine x_zret rfl rfl (by decide) ?_
                      show jX m_X12_line 6 0 0 214 [(9, .int v123), (0, .ref 125), (1, .int l1), (2, .int l2), (3, .int l3), (4, .int l4), (5, .int l5), (7, .int l7), (8, .int l8), (10, .int l10)] [.int 1] _ 0 0 _
                      refine x_ifeq (tgt := 221) rfl rfl (ti_eq jk_1 jk_0 (br_f (by omega) ?_))
                      refine x_iconst (v := 1) rfl ki_1 ?_
                      refine x_goto (tgt := 222) rfl rfl ?_
                      exact jX.sub (jsb_c rfl (jsb_c rfl (jsb_c rfl (jsb_c rfl (jsb_c rfl (jsb_c rfl (jsb_c rfl (jsb_c rfl (jsb_c rfl jsb_n))))))))) (ct_X12_line_r125_300222 hD hQ ih l1 l2 l3 l4 l5 l7 l8 v123 g0 g1 g2 g3 g4 u64 u67 v70 u65 u66 h (jr_of rfl (by omega)) (jr_of rfl (by omega)) (jr_of rfl (by omega)) (jr_of rfl (by omega)) (jr_of rfl (by omega)) (jr_of rfl (by omega)) (jr_of rfl (by omega)) (jr_mod rfl (by omega)) (jr_of rfl (by omega)) (jr_of rfl (by omega)) (jr_of rfl (by omega)) (jr_of rfl (by omega)) (jr_of rfl (by omega)) (jr_of rfl (by omega)) (jr_of rfl (by omega)) (jr_of rfl (by omega)) (jr_of rfl (by omega)) (jr_of rfl (by omega)) (jr_of rfl (by omega)) (by omega) (by omega) (by omega) (jmo2 w122 rfl jk_0 (by omega) (jmo2 w120 rfl jk_0 (by omega) (jmc S63 rfl z0))) (jmo2 w122 rfl jk_16 (by omega) (jmo2 w120 rfl jk_16 (by omega) (jmc S63 rfl z1))) (jmo2 w122 rfl jk_4 (by omega) (jmo2 w120 rfl jk_4 (by omega) (jmc S63 rfl z2))) (jmo2 w122 rfl jk_5 (by omega) (jmo2 w120 rfl jk_5 (by omega) (jmc S63 rfl z3))) (jmo2 w122 rfl jk_7 (by omega) (jmo2 w120 rfl jk_7 (by omega) (jmc S63 rfl z4))) (jmo w122 rfl (jmo w120 rfl qu64)) (jmo w122 rfl (jmo w120 rfl qu67)) (jmo w122 rfl (jmo w120 rfl qv70)) (jmo w122 rfl (jmo w120 rfl qu65)) (jmo w122 rfl (jmo w120 rfl qu66)) (by omega) J Sm)
                ·
                  refine x_iconst (v := 1) rfl ki_1 ?_
                  refine x_goto (tgt := 23) rfl rfl ?_
                  refine x_zret rfl rfl (by decide) ?_
                  show jX m_X12_readRole 5 0 0 30 [(2, .int 1), (0, .ref 125), (1, .int v5)] [.int 1] _ 0 0 _
                  refine x_ifne (tgt := 49) rfl rfl (ti_ne jk_1 jk_0 (bn_t (by omega) ?_))
                  refine x_aloadn (x := 125) rfl rfl ?_
                  refine z_getR (N := 92) (b := 126) 12 2 rfl f_12_8 rfl J rfl 16002 ⟨rfl, rfl⟩ rfl ?_
                  refine x_iloadn (x := v5) rfl rfl ?_
                  refine x_bipush (v := 14) rfl kb_14 ?_
                  refine z_iadd rfl rfl jk_14 (by omega) (fun v128 ev128 => ?_)
                  refine x_iconst (v := 0) rfl ki_0 ?_
                  refine z_iast (N := 50660) (l := 20) (u := 18020) (w := 0) rfl hD J Sm rfl rfl rfl (by omega) jk_0 (wr_126_20 (by omega) (fun q1 q2 q3 q4 => by omega) (fun q1 q2 q3 q4 => by omega) (fun q1 q2 q3 q4 => by omega) (fun q1 q2 q3 q4 => by omega) (fun q1 q2 q3 q4 => by omega) (fun q1 q2 q3 q4 => by omega) (fun q1 q2 q3 q4 => by omega) (fun q1 q2 q3 q4 => by omega) (fun q1 q2 q3 q4 => by omega) (fun q1 q2 q3 q4 => by omega) (fun q1 q2 q3 q4 => by omega) (fun q1 q2 q3 q4 => by omega) (fun q1 q2 q3 q4 => by omega) (fun q1 q2 q3 q4 => by omega) (fun q1 q2 q3 q4 => by omega) (fun q1 q2 q3 q4 => by omega) (fun q1 q2 q3 q4 => by omega) (fun q1 q2 q3 q4 => by omega) (fun q1 q2 q3 q4 => by omega) (fun q1 q2 q3 q4 => by omega) (fun q1 q2 q3 q4 => by omega) (fun q1 q2 q3 q4 => by omega) (fun q1 q2 q3 q4 => by omega)) rfl (fun h w129 J Sm => ?_)
                  refine x_aloadn (x := 125) rfl rfl ?_
                  refine z_getR (N := 92) (b := 126) 12 2 rfl f_12_8 rfl J rfl 16002 ⟨rfl, rfl⟩ rfl ?_
                  refine x_iloadn (x := v5) rfl rfl ?_
                  refine x_bipush (v := 15) rfl kb_15 ?_
                  refine z_iadd rfl rfl jk_15 (by omega) (fun v130 ev130 => ?_)
                  refine x_iconst (v := 0) rfl ki_0 ?_
                  refine z_iast (N := 50660) (l := 20) (u := 18020) (w := 0) rfl hD J Sm rfl rfl rfl (by omega) jk_0 (wr_126_20 (by omega) (fun q1 q2 q3 q4 => by omega) (fun q1 q2 q3 q4 => by omega) (fun q1 q2 q3 q4 => by omega) (fun q1 q2 q3 q4 => by omega) (fun q1 q2 q3 q4 => by omega) (fun q1 q2 q3 q4 => by omega) (fun q1 q2 q3 q4 => by omega) (fun q1 q2 q3 q4 => by omega) (fun q1 q2 q3 q4 => by omega) (fun q1 q2 q3 q4 => by omega) (fun q1 q2 q3 q4 => by omega) (fun q1 q2 q3 q4 => by omega) (fun q1 q2 q3 q4 => by omega) (fun q1 q2 q3 q4 => by omega) (fun q1 q2 q3 q4 => by omega) (fun q1 q2 q3 q4 => by omega) (fun q1 q2 q3 q4 => by omega) (fun q1 q2 q3 q4 => by omega) (fun q1 q2 q3 q4 => by omega) (fun q1 q2 q3 q4 => by omega) (fun q1 q2 q3 q4 => by omega) (fun q1 q2 q3 q4 => by omega) (fun q1 q2 q3 q4 => by omega)) rfl (fun h w131 J Sm => ?_)
                  refine x_vret rfl rfl ?_
                  show jX m_X12_line 6 0 0 198 [(0, .ref 125), (1, .int l1), (2, .int l2), (3, .int l3), (4, .int l4), (5, .int l5), (7, .int l7), (8, .int l8), (9, .int l9), (10, .int l10)] [] _ 0 0 _
                  refine z_iinc (x := l9) (lsx9 := fun v132 => [(9, .int v132), (0, .ref 125), (1, .int l1), (2, .int l2), (3, .int l3), (4, .int l4), (5, .int l5), (7, .int l7), (8, .int l8), (10, .int l10)]) rfl rfl rfl jko_1 (by omega) rfl (fun _ => rfl) (fun v132 ev132 => ?_)
                  refine x_aloadn (x := 125) rfl rfl ?_
                  refine z_getM (N := 92) (v := v70) 12 14 rfl f_12_214 rfl J rfl (jmo w131 rfl (jmo w129 rfl qv70)) ?_
                  refine x_ifne (tgt := 221) rfl rfl (ti_ne rfl jk_0 (bn_f (by omega) ?_))
                  refine x_aloadn (x := 125) rfl rfl ?_
                  refine x_bipush (v := 44) rfl kb_44 ?_
                  refine x_inv (N := m_X12_isSign) (As := [.int 44]) (b := 125) (st := []) (dx9 := 5) (mc := 0) (ms := 0) (host := "") 12 rfl t_X12_isSign ⟨Or.inl q_12_257, i_X12_isSign.1, i_X12_isSign.2⟩ ⟨by decide, rfl⟩ (congrArg Prod.fst (J.1.1 125 (12, 92) rfl)) rfl (by decide) rfl rfl ⟨by decide, by decide⟩ (jC.of rfl k_X12_isSign rfl ?_)
                  show jX m_X12_isSign 5 0 0 0 [(0, .ref 125), (1, .int 44)] [] _ 0 0 _
                  refine x_aloadn (x := 125) rfl rfl ?_
                  refine z_getM (N := 92) (v := u67) 12 11 rfl f_12_235 rfl J rfl (jmo w131 rfl (jmo w129 rfl qu67)) ?_
                  refine x_iconst (v := 3) rfl ki_3 ?_
                  refine x_icne (tgt := 22) rfl rfl (ti_ne rfl jk_3 (bn_f (by omega) ?_))
                  refine x_aloadn (x := 125) rfl rfl ?_
                  refine z_getL0 (N := 92) 12 12 rfl f_12_224 rfl J rfl (fun v133 => ?_)
                  have ev133 := jfullL v133
                  refine x_iloadn (x := 44) rfl rfl ?_
                  refine z_i2l rfl jk_44 (fun v134 ev134 => ?_)
                  refine z_lcmp rfl rfl rfl (fun v135 ev135 => ?_)
                  refine x_ifne (tgt := 22) rfl rfl (ti_ne rfl jk_0 ⟨fun c136 => ?_, fun c136 => ?_⟩)
                  ·
                    refine x_iconst (v := 0) rfl ki_0 ?_
                    refine x_zret rfl rfl (by decide) ?_
                    show jX m_X12_line 6 0 0 214 [(9, .int v132), (0, .ref 125), (1, .int l1), (2, .int l2), (3, .int l3), (4, .int l4), (5, .int l5), (7, .int l7), (8, .int l8), (10, .int l10)] [.int 0] _ 0 0 _
                    refine x_ifeq (tgt := 221) rfl rfl (ti_eq jk_0 jk_0 (br_t (by omega) ?_))
                    exact jX.sub (jsb_c rfl (jsb_c rfl (jsb_c rfl (jsb_c rfl (jsb_c rfl (jsb_c rfl (jsb_c rfl (jsb_c rfl (jsb_c rfl jsb_n))))))))) (ct_X12_line_r125_221 hD hQ ih l1 l2 l3 l4 l5 l7 l8 v132 g0 g1 g2 g3 g4 u64 u67 v70 u65 u66 h (jr_of rfl (by omega)) (jr_of rfl (by omega)) (jr_of rfl (by omega)) (jr_of rfl (by omega)) (jr_of rfl (by omega)) (jr_of rfl (by omega)) (jr_of rfl (by omega)) (jr_mod rfl (by omega)) (jr_of rfl (by omega)) (jr_of rfl (by omega)) (jr_of rfl (by omega)) (jr_of rfl (by omega)) (jr_of rfl (by omega)) (jr_of rfl (by omega)) (jr_of rfl (by omega)) (jr_of rfl (by omega)) (jr_of rfl (by omega)) (jr_of rfl (by omega)) (jr_of rfl (by omega)) (by omega) (by omega) (by omega) (jmo2 w131 rfl jk_0 (by omega) (jmo2 w129 rfl jk_0 (by omega) (jmc S63 rfl z0))) (jmo2 w131 rfl jk_16 (by omega) (jmo2 w129 rfl jk_16 (by omega) (jmc S63 rfl z1))) (jmo2 w131 rfl jk_4 (by omega) (jmo2 w129 rfl jk_4 (by omega) (jmc S63 rfl z2))) (jmo2 w131 rfl jk_5 (by omega) (jmo2 w129 rfl jk_5 (by omega) (jmc S63 rfl z3))) (jmo2 w131 rfl jk_7 (by omega) (jmo2 w129 rfl jk_7 (by omega) (jmc S63 rfl z4))) (jmo w131 rfl (jmo w129 rfl qu64)) (jmo w131 rfl (jmo w129 rfl qu67)) (jmo w131 rfl (jmo w129 rfl qv70)) (jmo w131 rfl (jmo w129 rfl qu65)) (jmo w131 rfl (jmo w129 rfl qu66)) (by omega) J Sm)
                  ·
                    refine x_iconst (v := 1) rfl ki_1 ?_
                    refine x_goto (tgt := 23) rfl rfl ?_
                    refine x_zret rfl rfl (by decide) ?_
                    show jX m_X12_line 6 0 0 214 [(9, .int v132), (0, .ref 125), (1, .int l1), (2, .int l2), (3, .int l3), (4, .int l4), (5, .int l5), (7, .int l7), (8, .int l8), (10, .int l10)] [.int 1] _ 0 0 _
                    refine x_ifeq (tgt := 221) rfl rfl (ti_eq jk_1 jk_0 (br_f (by omega) ?_))
                    refine x_iconst (v := 1) rfl ki_1 ?_
                    refine x_goto (tgt := 222) rfl rfl ?_
                    exact jX.sub (jsb_c rfl (jsb_c rfl (jsb_c rfl (jsb_c rfl (jsb_c rfl (jsb_c rfl (jsb_c rfl (jsb_c rfl (jsb_c rfl jsb_n))))))))) (ct_X12_line_r125_300222 hD hQ ih l1 l2 l3 l4 l5 l7 l8 v132 g0 g1 g2 g3 g4 u64 u67 v70 u65 u66 h (jr_of rfl (by omega)) (jr_of rfl (by omega)) (jr_of rfl (by omega)) (jr_of rfl (by omega)) (jr_of rfl (by omega)) (jr_of rfl (by omega)) (jr_of rfl (by omega)) (jr_mod rfl (by omega)) (jr_of rfl (by omega)) (jr_of rfl (by omega)) (jr_of rfl (by omega)) (jr_of rfl (by omega)) (jr_of rfl (by omega)) (jr_of rfl (by omega)) (jr_of rfl (by omega)) (jr_of rfl (by omega)) (jr_of rfl (by omega)) (jr_of rfl (by omega)) (jr_of rfl (by omega)) (by omega) (by omega) (by omega) (jmo2 w131 rfl jk_0 (by omega) (jmo2 w129 rfl jk_0 (by omega) (jmc S63 rfl z0))) (jmo2 w131 rfl jk_16 (by omega) (jmo2 w129 rfl jk_16 (by omega) (jmc S63 rfl z1))) (jmo2 w131 rfl jk_4 (by omega) (jmo2 w129 rfl jk_4 (by omega) (jmc S63 rfl z2))) (jmo2 w131 rfl jk_5 (by omega) (jmo2 w129 rfl jk_5 (by omega) (jmc S63 rfl z3))) (jmo2 w131 rfl jk_7 (by omega) (jmo2 w129 rfl jk_7 (by omega) (jmc S63 rfl z4))) (jmo w131 rfl (jmo w129 rfl qu64)) (jmo w131 rfl (jmo w129 rfl qu67)) (jmo w131 rfl (jmo w129 rfl qv70)) (jmo w131 rfl (jmo w129 rfl qu65)) (jmo w131 rfl (jmo w129 rfl qu66)) (by omega) J Sm)
            ·
              refine x_vret rfl rfl ?_
              show jX m_X12_line 6 0 0 198 [(0, .ref 125), (1, .int l1), (2, .int l2), (3, .int l3), (4, .int l4), (5, .int l5), (7, .int l7), (8, .int l8), (9, .int l9), (10, .int l10)] [] _ 0 0 _
              refine z_iinc (x := l9) (lsx9 := fun v137 => [(9, .int v137), (0, .ref 125), (1, .int l1), (2, .int l2), (3, .int l3), (4, .int l4), (5, .int l5), (7, .int l7), (8, .int l8), (10, .int l10)]) rfl rfl rfl jko_1 (by omega) rfl (fun _ => rfl) (fun v137 ev137 => ?_)
              refine x_aloadn (x := 125) rfl rfl ?_
              refine z_getM (N := 92) (v := v70) 12 14 rfl f_12_214 rfl J rfl qv70 ?_
              refine x_ifne (tgt := 221) rfl rfl (ti_ne rfl jk_0 (bn_t (by omega) ?_))
              exact jX.sub (jsb_c rfl (jsb_c rfl (jsb_c rfl (jsb_c rfl (jsb_c rfl (jsb_c rfl (jsb_c rfl (jsb_c rfl (jsb_c rfl jsb_n))))))))) (ct_X12_line_r125_221 hD hQ ih l1 l2 l3 l4 l5 l7 l8 v137 g0 g1 g2 g3 g4 u64 u67 v70 u65 u66 h (jr_of rfl (by omega)) (jr_of rfl (by omega)) (jr_of rfl (by omega)) (jr_of rfl (by omega)) (jr_of rfl (by omega)) (jr_of rfl (by omega)) (jr_of rfl (by omega)) (jr_mod rfl (by omega)) (jr_of rfl (by omega)) (jr_of rfl (by omega)) (jr_of rfl (by omega)) (jr_of rfl (by omega)) (jr_of rfl (by omega)) (jr_of rfl (by omega)) (jr_of rfl (by omega)) (jr_of rfl (by omega)) (jr_of rfl (by omega)) (jr_of rfl (by omega)) (jr_of rfl (by omega)) (by omega) (by omega) (by omega) (jmc S63 rfl z0) (jmc S63 rfl z1) (jmc S63 rfl z2) (jmc S63 rfl z3) (jmc S63 rfl z4) qu64 qu67 qv70 qu65 qu66 (by omega) J Sm)
set_option maxRecDepth 100000 in
set_option maxHeartbeats 4000000 in
theorem ct_X12_line_r125_300169 {Dy : jH → Prop} {h0 : jH} {Q : Option Value → jH → Prop} (hD : jDk Dy) (hQ : ∀ (v : Int32) hx9, jJ jSgM Dy hx9 → jSm fp_X12_line_r125 h0 hx9 → ∀ u0 u1 u2 u3 u4 : Int32, jiv hx9 126 (16 : Int32).toNatClampNeg = u0 → jiv hx9 126 (0 : Int32).toNatClampNeg = u1 → jiv hx9 126 (4 : Int32).toNatClampNeg = u2 → jiv hx9 126 (5 : Int32).toNatClampNeg = u3 → jiv hx9 126 (7 : Int32).toNatClampNeg = u4 → u0.toInt = u1.toInt + u2.toInt + u3.toInt + u4.toInt → Q (some (.int v)) hx9) : ∀ (l1 : Int32) (l2 : Int32) (l3 : Int32) (l4 : Int32) (l5 : Int32) (l7 : Int32) (l8 : Int32) (g0 : Int32) (g1 : Int32) (g2 : Int32) (g3 : Int32) (g4 : Int32) (g5 : Int32) (g6 : Int32) (g7 : Int32) (g8 : Int32) (g9 : Int32) (h : jH), 0 ≤ l1.toInt ∧ l1.toInt ≤ 5 → 0 ≤ l2.toInt ∧ l2.toInt ≤ 15 → 0 ≤ l3.toInt ∧ l3.toInt ≤ 146399 → 0 ≤ l4.toInt ∧ l4.toInt ≤ 146399 → (-1) ≤ l5.toInt ∧ l5.toInt ≤ 100000 → 0 ≤ l7.toInt ∧ l7.toInt ≤ 199 → 20 ≤ l8.toInt ∧ l8.toInt ≤ 17930 → l8.toInt % 90 = 20 → 0 ≤ g0.toInt ∧ g0.toInt ≤ 199 → 0 ≤ g1.toInt ∧ g1.toInt ≤ 369 → 0 ≤ g2.toInt ∧ g2.toInt ≤ 30 → 0 ≤ g3.toInt ∧ g3.toInt ≤ 100 → 0 ≤ g4.toInt ∧ g4.toInt ≤ 40 → 0 ≤ g5.toInt ∧ g5.toInt ≤ 400 → 1 ≤ g6.toInt ∧ g6.toInt ≤ 3 → 0 ≤ g7.toInt ∧ g7.toInt ≤ 0 → 0 ≤ g8.toInt ∧ g8.toInt ≤ 400 → 0 ≤ g9.toInt ∧ g9.toInt ≤ 400 → g1.toInt = g0.toInt + g2.toInt + g3.toInt + g4.toInt → (g5.toInt ≤ g8.toInt ∧ g9.toInt ≤ g5.toInt) → (g6.toInt = 0 ∨ g9.toInt + 1 ≤ g5.toInt) → jiv h 126 (0 : Int32).toNatClampNeg = g0 → jiv h 126 (16 : Int32).toNatClampNeg = g1 → jiv h 126 (4 : Int32).toNatClampNeg = g2 → jiv h 126 (5 : Int32).toNatClampNeg = g3 → jiv h 126 (7 : Int32).toNatClampNeg = g4 → jiv h 125 10 = g5 → jiv h 125 11 = g6 → jiv h 125 14 = g7 → jiv h 125 8 = g8 → jiv h 125 9 = g9 → jJ jSgM Dy h → jSm fp_X12_line_r125 h0 h → jX m_X12_line 6 0 0 169 [(0, .ref 125), (1, .int l1), (2, .int l2), (3, .int l3), (4, .int l4), (5, .int l5), (7, .int l7), (8, .int l8), (9, .int 0)] [.int 1] h 0 0 Q := by
  intro l1 l2 l3 l4 l5 l7 l8 g0 g1 g2 g3 g4 g5 g6 g7 g8 g9 h y0 y1 y2 y3 y4 y5 y6 y7 y8 y9 y10 y11 y12 y13 y14 y15 y16 y17 y18 y19 y20 z0 z1 z2 z3 z4 z5 z6 z7 z8 z9  J Sm
  refine x_istore (lsx9 := [(10, .int 1), (0, .ref 125), (1, .int l1), (2, .int l2), (3, .int l3), (4, .int l4), (5, .int l5), (7, .int l7), (8, .int l8), (9, .int 0)]) rfl rfl rfl ?_
  exact jX.sub (jsb_c rfl (jsb_c rfl (jsb_c rfl (jsb_c rfl (jsb_c rfl (jsb_c rfl (jsb_c rfl (jsb_c rfl (jsb_c rfl (jsb_c rfl jsb_n)))))))))) (ct_X12_line_r125_171 hD hQ  4 l1 l2 l3 l4 l5 l7 l8 0 1 g0 g1 g2 g3 g4 g5 g6 g7 g8 g9 h (by have := jk_0; omega) (jr_of rfl (by omega)) (jr_of rfl (by omega)) (jr_of rfl (by omega)) (jr_of rfl (by omega)) (jr_of rfl (by omega)) (jr_of rfl (by omega)) (jr_of rfl (by omega)) (jr_mod rfl (by omega)) (jr_of jk_0 (by omega)) (jr_of jk_1 (by omega)) (jr_of rfl (by omega)) (jr_of rfl (by omega)) (jr_of rfl (by omega)) (jr_of rfl (by omega)) (jr_of rfl (by omega)) (jr_of rfl (by omega)) (jr_of rfl (by omega)) (jr_of rfl (by omega)) (jr_of rfl (by omega)) (jr_of rfl (by omega)) (by have := jk_1; have := jk_0; omega) (by omega) (by omega) (by omega) z0 z1 z2 z3 z4 z5 z6 z7 z8 z9 J Sm)
set_option maxRecDepth 100000 in
set_option maxHeartbeats 4000000 in
theorem ct_X12_line_r125_200169 {Dy : jH → Prop} {h0 : jH} {Q : Option Value → jH → Prop} (hD : jDk Dy) (hQ : ∀ (v : Int32) hx9, jJ jSgM Dy hx9 → jSm fp_X12_line_r125 h0 hx9 → ∀ u0 u1 u2 u3 u4 : Int32, jiv hx9 126 (16 : Int32).toNatClampNeg = u0 → jiv hx9 126 (0 : Int32).toNatClampNeg = u1 → jiv hx9 126 (4 : Int32).toNatClampNeg = u2 → jiv hx9 126 (5 : Int32).toNatClampNeg = u3 → jiv hx9 126 (7 : Int32).toNatClampNeg = u4 → u0.toInt = u1.toInt + u2.toInt + u3.toInt + u4.toInt → Q (some (.int v)) hx9) : ∀ (l1 : Int32) (l2 : Int32) (l3 : Int32) (l4 : Int32) (l5 : Int32) (l7 : Int32) (l8 : Int32) (g0 : Int32) (g1 : Int32) (g2 : Int32) (g3 : Int32) (g4 : Int32) (g5 : Int32) (g6 : Int32) (g7 : Int32) (g8 : Int32) (g9 : Int32) (h : jH), 0 ≤ l1.toInt ∧ l1.toInt ≤ 5 → 0 ≤ l2.toInt ∧ l2.toInt ≤ 15 → 0 ≤ l3.toInt ∧ l3.toInt ≤ 146399 → 0 ≤ l4.toInt ∧ l4.toInt ≤ 146399 → (-1) ≤ l5.toInt ∧ l5.toInt ≤ 100000 → 0 ≤ l7.toInt ∧ l7.toInt ≤ 199 → 20 ≤ l8.toInt ∧ l8.toInt ≤ 17930 → l8.toInt % 90 = 20 → 0 ≤ g0.toInt ∧ g0.toInt ≤ 199 → 0 ≤ g1.toInt ∧ g1.toInt ≤ 369 → 0 ≤ g2.toInt ∧ g2.toInt ≤ 30 → 0 ≤ g3.toInt ∧ g3.toInt ≤ 100 → 0 ≤ g4.toInt ∧ g4.toInt ≤ 40 → 0 ≤ g5.toInt ∧ g5.toInt ≤ 400 → 0 ≤ g6.toInt ∧ g6.toInt ≤ 3 → 0 ≤ g7.toInt ∧ g7.toInt ≤ 0 → 0 ≤ g8.toInt ∧ g8.toInt ≤ 400 → 0 ≤ g9.toInt ∧ g9.toInt ≤ 400 → g1.toInt = g0.toInt + g2.toInt + g3.toInt + g4.toInt → (g5.toInt ≤ g8.toInt ∧ g9.toInt ≤ g5.toInt) → (g6.toInt = 0 ∨ g9.toInt + 1 ≤ g5.toInt) → jiv h 126 (0 : Int32).toNatClampNeg = g0 → jiv h 126 (16 : Int32).toNatClampNeg = g1 → jiv h 126 (4 : Int32).toNatClampNeg = g2 → jiv h 126 (5 : Int32).toNatClampNeg = g3 → jiv h 126 (7 : Int32).toNatClampNeg = g4 → jiv h 125 10 = g5 → jiv h 125 11 = g6 → jiv h 125 14 = g7 → jiv h 125 8 = g8 → jiv h 125 9 = g9 → jJ jSgM Dy h → jSm fp_X12_line_r125 h0 h → jX m_X12_line 6 0 0 169 [(0, .ref 125), (1, .int l1), (2, .int l2), (3, .int l3), (4, .int l4), (5, .int l5), (7, .int l7), (8, .int l8), (9, .int 0)] [.int 0] h 0 0 Q := by
  intro l1 l2 l3 l4 l5 l7 l8 g0 g1 g2 g3 g4 g5 g6 g7 g8 g9 h y0 y1 y2 y3 y4 y5 y6 y7 y8 y9 y10 y11 y12 y13 y14 y15 y16 y17 y18 y19 y20 z0 z1 z2 z3 z4 z5 z6 z7 z8 z9  J Sm
  refine x_istore (lsx9 := [(10, .int 0), (0, .ref 125), (1, .int l1), (2, .int l2), (3, .int l3), (4, .int l4), (5, .int l5), (7, .int l7), (8, .int l8), (9, .int 0)]) rfl rfl rfl ?_
  exact jX.sub (jsb_c rfl (jsb_c rfl (jsb_c rfl (jsb_c rfl (jsb_c rfl (jsb_c rfl (jsb_c rfl (jsb_c rfl (jsb_c rfl (jsb_c rfl jsb_n)))))))))) (ct_X12_line_r125_171 hD hQ  4 l1 l2 l3 l4 l5 l7 l8 0 0 g0 g1 g2 g3 g4 g5 g6 g7 g8 g9 h (by have := jk_0; omega) (jr_of rfl (by omega)) (jr_of rfl (by omega)) (jr_of rfl (by omega)) (jr_of rfl (by omega)) (jr_of rfl (by omega)) (jr_of rfl (by omega)) (jr_of rfl (by omega)) (jr_mod rfl (by omega)) (jr_of jk_0 (by omega)) (jr_of jk_0 (by omega)) (jr_of rfl (by omega)) (jr_of rfl (by omega)) (jr_of rfl (by omega)) (jr_of rfl (by omega)) (jr_of rfl (by omega)) (jr_of rfl (by omega)) (jr_of rfl (by omega)) (jr_of rfl (by omega)) (jr_of rfl (by omega)) (jr_of rfl (by omega)) (by have := jk_0; have := jk_0; omega) (by omega) (by omega) (by omega) z0 z1 z2 z3 z4 z5 z6 z7 z8 z9 J Sm)
set_option maxRecDepth 100000 in
set_option maxHeartbeats 4000000 in
theorem ct_X12_line_r125_168 {Dy : jH → Prop} {h0 : jH} {Q : Option Value → jH → Prop} (hD : jDk Dy) (hQ : ∀ (v : Int32) hx9, jJ jSgM Dy hx9 → jSm fp_X12_line_r125 h0 hx9 → ∀ u0 u1 u2 u3 u4 : Int32, jiv hx9 126 (16 : Int32).toNatClampNeg = u0 → jiv hx9 126 (0 : Int32).toNatClampNeg = u1 → jiv hx9 126 (4 : Int32).toNatClampNeg = u2 → jiv hx9 126 (5 : Int32).toNatClampNeg = u3 → jiv hx9 126 (7 : Int32).toNatClampNeg = u4 → u0.toInt = u1.toInt + u2.toInt + u3.toInt + u4.toInt → Q (some (.int v)) hx9) : ∀ (l1 : Int32) (l2 : Int32) (l3 : Int32) (l4 : Int32) (l5 : Int32) (l7 : Int32) (l8 : Int32) (g0 : Int32) (g1 : Int32) (g2 : Int32) (g3 : Int32) (g4 : Int32) (g5 : Int32) (g6 : Int32) (g7 : Int32) (g8 : Int32) (g9 : Int32) (h : jH), 0 ≤ l1.toInt ∧ l1.toInt ≤ 5 → 0 ≤ l2.toInt ∧ l2.toInt ≤ 15 → 0 ≤ l3.toInt ∧ l3.toInt ≤ 146399 → 0 ≤ l4.toInt ∧ l4.toInt ≤ 146399 → (-1) ≤ l5.toInt ∧ l5.toInt ≤ 100000 → 0 ≤ l7.toInt ∧ l7.toInt ≤ 199 → 20 ≤ l8.toInt ∧ l8.toInt ≤ 17930 → l8.toInt % 90 = 20 → 0 ≤ g0.toInt ∧ g0.toInt ≤ 199 → 0 ≤ g1.toInt ∧ g1.toInt ≤ 369 → 0 ≤ g2.toInt ∧ g2.toInt ≤ 30 → 0 ≤ g3.toInt ∧ g3.toInt ≤ 100 → 0 ≤ g4.toInt ∧ g4.toInt ≤ 40 → 0 ≤ g5.toInt ∧ g5.toInt ≤ 400 → 0 ≤ g6.toInt ∧ g6.toInt ≤ 3 → 0 ≤ g7.toInt ∧ g7.toInt ≤ 0 → 0 ≤ g8.toInt ∧ g8.toInt ≤ 400 → 0 ≤ g9.toInt ∧ g9.toInt ≤ 400 → g1.toInt = g0.toInt + g2.toInt + g3.toInt + g4.toInt → (g5.toInt ≤ g8.toInt ∧ g9.toInt ≤ g5.toInt) → (g6.toInt = 0 ∨ g9.toInt + 1 ≤ g5.toInt) → jiv h 126 (0 : Int32).toNatClampNeg = g0 → jiv h 126 (16 : Int32).toNatClampNeg = g1 → jiv h 126 (4 : Int32).toNatClampNeg = g2 → jiv h 126 (5 : Int32).toNatClampNeg = g3 → jiv h 126 (7 : Int32).toNatClampNeg = g4 → jiv h 125 10 = g5 → jiv h 125 11 = g6 → jiv h 125 14 = g7 → jiv h 125 8 = g8 → jiv h 125 9 = g9 → jJ jSgM Dy h → jSm fp_X12_line_r125 h0 h → jX m_X12_line 6 0 0 168 [(0, .ref 125), (1, .int l1), (2, .int l2), (3, .int l3), (4, .int l4), (5, .int l5), (7, .int l7), (8, .int l8), (9, .int 0)] [] h 0 0 Q := by
  intro l1 l2 l3 l4 l5 l7 l8 g0 g1 g2 g3 g4 g5 g6 g7 g8 g9 h y0 y1 y2 y3 y4 y5 y6 y7 y8 y9 y10 y11 y12 y13 y14 y15 y16 y17 y18 y19 y20 z0 z1 z2 z3 z4 z5 z6 z7 z8 z9  J Sm
  refine x_iconst (v := 0) rfl ki_0 ?_
  exact jX.sub (jsb_c rfl (jsb_c rfl (jsb_c rfl (jsb_c rfl (jsb_c rfl (jsb_c rfl (jsb_c rfl (jsb_c rfl (jsb_c rfl jsb_n))))))))) (ct_X12_line_r125_200169 hD hQ  l1 l2 l3 l4 l5 l7 l8 g0 g1 g2 g3 g4 g5 g6 g7 g8 g9 h (jr_of rfl (by omega)) (jr_of rfl (by omega)) (jr_of rfl (by omega)) (jr_of rfl (by omega)) (jr_of rfl (by omega)) (jr_of rfl (by omega)) (jr_of rfl (by omega)) (jr_mod rfl (by omega)) (jr_of rfl (by omega)) (jr_of rfl (by omega)) (jr_of rfl (by omega)) (jr_of rfl (by omega)) (jr_of rfl (by omega)) (jr_of rfl (by omega)) (jr_of rfl (by omega)) (jr_of rfl (by omega)) (jr_of rfl (by omega)) (jr_of rfl (by omega)) (by omega) (by omega) (by omega) z0 z1 z2 z3 z4 z5 z6 z7 z8 z9 J Sm)
set_option maxRecDepth 100000 in
set_option maxHeartbeats 4000000 in
theorem ct_X12_line_r125_117 {Dy : jH → Prop} {h0 : jH} {Q : Option Value → jH → Prop} (hD : jDk Dy) (hQ : ∀ (v : Int32) hx9, jJ jSgM Dy hx9 → jSm fp_X12_line_r125 h0 hx9 → ∀ u0 u1 u2 u3 u4 : Int32, jiv hx9 126 (16 : Int32).toNatClampNeg = u0 → jiv hx9 126 (0 : Int32).toNatClampNeg = u1 → jiv hx9 126 (4 : Int32).toNatClampNeg = u2 → jiv hx9 126 (5 : Int32).toNatClampNeg = u3 → jiv hx9 126 (7 : Int32).toNatClampNeg = u4 → u0.toInt = u1.toInt + u2.toInt + u3.toInt + u4.toInt → Q (some (.int v)) hx9) : ∀ r : Nat, ∀ (l1 : Int32) (l2 : Int32) (l3 : Int32) (l4 : Int32) (l5 : Int32) (l7 : Int32) (l8 : Int32) (l9 : Int32) (g0 : Int32) (g1 : Int32) (g2 : Int32) (g3 : Int32) (g4 : Int32) (g5 : Int32) (g6 : Int32) (g7 : Int32) (g8 : Int32) (h : jH), 90 - l9.toInt < (r : Int) → 0 ≤ l1.toInt ∧ l1.toInt ≤ 5 → 0 ≤ l2.toInt ∧ l2.toInt ≤ 15 → 0 ≤ l3.toInt ∧ l3.toInt ≤ 146399 → 0 ≤ l4.toInt ∧ l4.toInt ≤ 146399 → (-1) ≤ l5.toInt ∧ l5.toInt ≤ 100000 → 0 ≤ l7.toInt ∧ l7.toInt ≤ 199 → 20 ≤ l8.toInt ∧ l8.toInt ≤ 17930 → l8.toInt % 90 = 20 → 0 ≤ l9.toInt ∧ l9.toInt ≤ 90 → 0 ≤ g0.toInt ∧ g0.toInt ≤ 199 → 0 ≤ g1.toInt ∧ g1.toInt ≤ 369 → 0 ≤ g2.toInt ∧ g2.toInt ≤ 30 → 0 ≤ g3.toInt ∧ g3.toInt ≤ 100 → 0 ≤ g4.toInt ∧ g4.toInt ≤ 40 → 0 ≤ g5.toInt ∧ g5.toInt ≤ 400 → 0 ≤ g6.toInt ∧ g6.toInt ≤ 3 → 0 ≤ g7.toInt ∧ g7.toInt ≤ 400 → 0 ≤ g8.toInt ∧ g8.toInt ≤ 400 → g1.toInt = g0.toInt + g2.toInt + g3.toInt + g4.toInt → jiv h 126 (0 : Int32).toNatClampNeg = g0 → jiv h 126 (16 : Int32).toNatClampNeg = g1 → jiv h 126 (4 : Int32).toNatClampNeg = g2 → jiv h 126 (5 : Int32).toNatClampNeg = g3 → jiv h 126 (7 : Int32).toNatClampNeg = g4 → jiv h 125 10 = g5 → jiv h 125 11 = g6 → jiv h 125 8 = g7 → jiv h 125 9 = g8 → jJ jSgM Dy h → jSm fp_X12_line_r125 h0 h → jX m_X12_line 6 0 0 117 [(0, .ref 125), (1, .int l1), (2, .int l2), (3, .int l3), (4, .int l4), (5, .int l5), (7, .int l7), (8, .int l8), (9, .int l9)] [] h 0 0 Q := by
  intro r
  induction r with
  | zero =>
    intro l1 l2 l3 l4 l5 l7 l8 l9 g0 g1 g2 g3 g4 g5 g6 g7 g8 h hm y0 y1 y2 y3 y4 y5 y6 y7 y8 y9 y10 y11 y12 y13 y14 y15 y16 y17 y18 z0 z1 z2 z3 z4 z5 z6 z7 z8  J Sm
    exfalso
    omega
  | succ r ih =>
    intro l1 l2 l3 l4 l5 l7 l8 l9 g0 g1 g2 g3 g4 g5 g6 g7 g8 h hm y0 y1 y2 y3 y4 y5 y6 y7 y8 y9 y10 y11 y12 y13 y14 y15 y16 y17 y18 z0 z1 z2 z3 z4 z5 z6 z7 z8  J Sm
    refine x_iload (x := l9) rfl rfl ?_
    refine x_bipush (v := 90) rfl kb_90 ?_
    refine x_icge (tgt := 141) rfl rfl (ti_ge rfl jk_90 ⟨fun c1 => ?_, fun c1 => ?_⟩)
    ·
      refine x_aloadn (x := 125) rfl rfl ?_
      refine x_inv (N := m_X12_begin) (As := []) (b := 125) (st := []) (dx9 := 5) (mc := 0) (ms := 0) (host := "") 12 rfl t_X12_begin ⟨Or.inl q_12_280, i_X12_begin.1, i_X12_begin.2⟩ ⟨by decide, rfl⟩ (congrArg Prod.fst (J.1.1 125 (12, 92) rfl)) rfl (by decide) rfl rfl ⟨by decide, by decide⟩ (jC.of rfl k_X12_begin rfl ?_)
      show jX m_X12_begin 5 0 0 0 [(0, .ref 125)] [] _ 0 0 _
      refine x_aloadn (x := 125) rfl rfl ?_
      refine x_iconst (v := 0) rfl ki_0 ?_
      refine z_putI (N := 92) (w := 0) 12 10 rfl f_12_211 rfl (jfin_no TX12 RX12 92 rfl rfl) hD J Sm rfl rfl jk_0 (pw_125_10 (by omega)) rfl (fun h w2 J Sm => ?_)
      refine x_aloadn (x := 125) rfl rfl ?_
      refine x_iconst (v := 0) rfl ki_0 ?_
      refine z_putZ (N := 92) (w := 0) 12 14 rfl f_12_214 rfl (jfin_no TX12 RX12 92 rfl rfl) hD J Sm rfl rfl jk_0 (by omega) (pw_125_14 (by omega)) rfl (fun h w3 J Sm => ?_)
      refine x_aloadn (x := 125) rfl rfl ?_
      refine x_iconst (v := (-1)) rfl ki_m1 ?_
      refine z_putI (N := 92) (w := (-1)) 12 13 rfl f_12_32 rfl (jfin_no TX12 RX12 92 rfl rfl) hD J Sm rfl rfl jk_m1 (pw_125_13 (by omega)) rfl (fun h w4 J Sm => ?_)
      refine x_aloadn (x := 125) rfl rfl ?_
      refine x_inv (N := m_X12_next) (As := []) (b := 125) (st := []) (dx9 := 2) (mc := 0) (ms := 0) (host := "") 12 rfl t_X12_next ⟨Or.inl q_12_218, i_X12_next.1, i_X12_next.2⟩ ⟨by decide, rfl⟩ (congrArg Prod.fst (J.1.1 125 (12, 92) rfl)) rfl (by decide) rfl rfl ⟨by decide, by decide⟩ (sf_X12_next_r125  hD J (jmo w4 rfl (jmo w3 rfl (jmw w2))) (jmo w4 rfl (jmo w3 rfl (jmo w2 rfl z7))) (by have := jk_0; omega)  (fun h J S5 u6 u7 u8 qu6 qu7 qu8 ru6 u9 u10 u11 qu9 qu10 qu11 ru9 P12 => ?_))
      have Sm := jSm_tr rfl Sm S5
      have eu6 := (show 0 ≤ u6.toInt ∧ u6.toInt ≤ 400 from qu6 ▸ jrg_f J sg_125_10_11_1_0_1)
      have eu7 := (show 0 ≤ u7.toInt ∧ u7.toInt ≤ 400 from qu7 ▸ jrg_f J sg_125_8_9_1_0_1)
      have eu8 := (show 0 ≤ u8.toInt ∧ u8.toInt ≤ 400 from qu8 ▸ jrg_f J sg_125_9_10_1_0_1)
      have eu9 := (show 0 ≤ u9.toInt ∧ u9.toInt ≤ 3 from qu9 ▸ jrg_f J sg_125_11_12_1_0_1)
      obtain rfl : u8 = u10 := qu8.symm.trans qu10
      obtain rfl : u6 = u11 := qu6.symm.trans qu11
      have nfP12 := jnf P12.1 (jmo w4 rfl (jmo w3 rfl (jmw w2))) qu8
      show jX m_X12_begin 5 0 0 19 [(0, .ref 125)] [] _ 0 0 _
      refine x_vret rfl rfl ?_
      show jX m_X12_line 6 0 0 145 [(0, .ref 125), (1, .int l1), (2, .int l2), (3, .int l3), (4, .int l4), (5, .int l5), (7, .int l7), (8, .int l8), (9, .int l9)] [] _ 0 0 _
      refine x_iconst (v := 0) rfl ki_0 ?_
      refine x_istore (lsx9 := [(9, .int 0), (0, .ref 125), (1, .int l1), (2, .int l2), (3, .int l3), (4, .int l4), (5, .int l5), (7, .int l7), (8, .int l8)]) rfl rfl rfl ?_
      refine x_aloadn (x := 125) rfl rfl ?_
      refine z_getM (N := 92) (v := u9) 12 11 rfl f_12_235 rfl J rfl qu9 ?_
      refine x_ifeq (tgt := 168) rfl rfl (ti_eq rfl jk_0 ⟨fun c13 => ?_, fun c13 => ?_⟩)
      ·
        exact jX.sub (jsb_c rfl (jsb_c rfl (jsb_c rfl (jsb_c rfl (jsb_c rfl (jsb_c rfl (jsb_c rfl (jsb_c rfl (jsb_c rfl jsb_n))))))))) (ct_X12_line_r125_168 hD hQ  l1 l2 l3 l4 l5 l7 l8 g0 g1 g2 g3 g4 u6 u9 0 u7 u8 h (jr_of rfl (by omega)) (jr_of rfl (by omega)) (jr_of rfl (by omega)) (jr_of rfl (by omega)) (jr_of rfl (by omega)) (jr_of rfl (by omega)) (jr_of rfl (by omega)) (jr_mod rfl (by omega)) (jr_of rfl (by omega)) (jr_of rfl (by omega)) (jr_of rfl (by omega)) (jr_of rfl (by omega)) (jr_of rfl (by omega)) (jr_of rfl (by omega)) (jr_of rfl (by omega)) (jr_of jk_0 (by omega)) (jr_of rfl (by omega)) (jr_of rfl (by omega)) (by omega) (by omega) (by omega) (jmc S5 rfl (jmo w4 rfl (jmo w3 rfl (jmo w2 rfl z0)))) (jmc S5 rfl (jmo w4 rfl (jmo w3 rfl (jmo w2 rfl z1)))) (jmc S5 rfl (jmo w4 rfl (jmo w3 rfl (jmo w2 rfl z2)))) (jmc S5 rfl (jmo w4 rfl (jmo w3 rfl (jmo w2 rfl z3)))) (jmc S5 rfl (jmo w4 rfl (jmo w3 rfl (jmo w2 rfl z4)))) qu6 qu9 (jmc S5 rfl (jmo w4 rfl (jmw w3))) qu7 qu8 J Sm)
      ·
        refine x_aloadn (x := 125) rfl rfl ?_
        refine x_bipush (v := 46) rfl kb_46 ?_
        refine x_inv (N := m_X12_isSign) (As := [.int 46]) (b := 125) (st := []) (dx9 := 5) (mc := 0) (ms := 0) (host := "") 12 rfl t_X12_isSign ⟨Or.inl q_12_257, i_X12_isSign.1, i_X12_isSign.2⟩ ⟨by decide, rfl⟩ (congrArg Prod.fst (J.1.1 125 (12, 92) rfl)) rfl (by decide) rfl rfl ⟨by decide, by decide⟩ (jC.of rfl k_X12_isSign rfl ?_)
        show jX m_X12_isSign 5 0 0 0 [(0, .ref 125), (1, .int 46)] [] _ 0 0 _
        refine x_aloadn (x := 125) rfl rfl ?_
        refine z_getM (N := 92) (v := u9) 12 11 rfl f_12_235 rfl J rfl qu9 ?_
        refine x_iconst (v := 3) rfl ki_3 ?_
        refine x_icne (tgt := 22) rfl rfl (ti_ne rfl jk_3 ⟨fun c14 => ?_, fun c14 => ?_⟩)
        ·
          refine x_iconst (v := 0) rfl ki_0 ?_
          refine x_zret rfl rfl (by decide) ?_
          show jX m_X12_line 6 0 0 161 [(9, .int 0), (0, .ref 125), (1, .int l1), (2, .int l2), (3, .int l3), (4, .int l4), (5, .int l5), (7, .int l7), (8, .int l8)] [.int 0] _ 0 0 _
          refine x_ifne (tgt := 168) rfl rfl (ti_ne jk_0 jk_0 (bn_f (by omega) ?_))
          refine x_iconst (v := 1) rfl ki_1 ?_
          refine x_goto (tgt := 169) rfl rfl ?_
          exact jX.sub (jsb_c rfl (jsb_c rfl (jsb_c rfl (jsb_c rfl (jsb_c rfl (jsb_c rfl (jsb_c rfl (jsb_c rfl (jsb_c rfl jsb_n))))))))) (ct_X12_line_r125_300169 hD hQ  l1 l2 l3 l4 l5 l7 l8 g0 g1 g2 g3 g4 u6 u9 0 u7 u8 h (jr_of rfl (by omega)) (jr_of rfl (by omega)) (jr_of rfl (by omega)) (jr_of rfl (by omega)) (jr_of rfl (by omega)) (jr_of rfl (by omega)) (jr_of rfl (by omega)) (jr_mod rfl (by omega)) (jr_of rfl (by omega)) (jr_of rfl (by omega)) (jr_of rfl (by omega)) (jr_of rfl (by omega)) (jr_of rfl (by omega)) (jr_of rfl (by omega)) (jr_of rfl (by omega)) (jr_of jk_0 (by omega)) (jr_of rfl (by omega)) (jr_of rfl (by omega)) (by omega) (by omega) (by omega) (jmc S5 rfl (jmo w4 rfl (jmo w3 rfl (jmo w2 rfl z0)))) (jmc S5 rfl (jmo w4 rfl (jmo w3 rfl (jmo w2 rfl z1)))) (jmc S5 rfl (jmo w4 rfl (jmo w3 rfl (jmo w2 rfl z2)))) (jmc S5 rfl (jmo w4 rfl (jmo w3 rfl (jmo w2 rfl z3)))) (jmc S5 rfl (jmo w4 rfl (jmo w3 rfl (jmo w2 rfl z4)))) qu6 qu9 (jmc S5 rfl (jmo w4 rfl (jmw w3))) qu7 qu8 J Sm)
        ·
          refine x_aloadn (x := 125) rfl rfl ?_
          refine z_getL0 (N := 92) 12 12 rfl f_12_224 rfl J rfl (fun v15 => ?_)
          have ev15 := jfullL v15
          refine x_iloadn (x := 46) rfl rfl ?_
          refine z_i2l rfl jk_46 (fun v16 ev16 => ?_)
          refine z_lcmp rfl rfl rfl (fun v17 ev17 => ?_)
          refine x_ifne (tgt := 22) rfl rfl (ti_ne rfl jk_0 ⟨fun c18 => ?_, fun c18 => ?_⟩)
          ·
            refine x_iconst (v := 0) rfl ki_0 ?_
            refine x_zret rfl rfl (by decide) ?_
            show jX m_X12_line 6 0 0 161 [(9, .int 0), (0, .ref 125), (1, .int l1), (2, .int l2), (3, .int l3), (4, .int l4), (5, .int l5), (7, .int l7), (8, .int l8)] [.int 0] _ 0 0 _
            refine x_ifne (tgt := 168) rfl rfl (ti_ne jk_0 jk_0 (bn_f (by omega) ?_))
            refine x_iconst (v := 1) rfl ki_1 ?_
            refine x_goto (tgt := 169) rfl rfl ?_
            exact jX.sub (jsb_c rfl (jsb_c rfl (jsb_c rfl (jsb_c rfl (jsb_c rfl (jsb_c rfl (jsb_c rfl (jsb_c rfl (jsb_c rfl jsb_n))))))))) (ct_X12_line_r125_300169 hD hQ  l1 l2 l3 l4 l5 l7 l8 g0 g1 g2 g3 g4 u6 u9 0 u7 u8 h (jr_of rfl (by omega)) (jr_of rfl (by omega)) (jr_of rfl (by omega)) (jr_of rfl (by omega)) (jr_of rfl (by omega)) (jr_of rfl (by omega)) (jr_of rfl (by omega)) (jr_mod rfl (by omega)) (jr_of rfl (by omega)) (jr_of rfl (by omega)) (jr_of rfl (by omega)) (jr_of rfl (by omega)) (jr_of rfl (by omega)) (jr_of rfl (by omega)) (jr_of rfl (by omega)) (jr_of jk_0 (by omega)) (jr_of rfl (by omega)) (jr_of rfl (by omega)) (by omega) (by omega) (by omega) (jmc S5 rfl (jmo w4 rfl (jmo w3 rfl (jmo w2 rfl z0)))) (jmc S5 rfl (jmo w4 rfl (jmo w3 rfl (jmo w2 rfl z1)))) (jmc S5 rfl (jmo w4 rfl (jmo w3 rfl (jmo w2 rfl z2)))) (jmc S5 rfl (jmo w4 rfl (jmo w3 rfl (jmo w2 rfl z3)))) (jmc S5 rfl (jmo w4 rfl (jmo w3 rfl (jmo w2 rfl z4)))) qu6 qu9 (jmc S5 rfl (jmo w4 rfl (jmw w3))) qu7 qu8 J Sm)
          ·
            refine x_iconst (v := 1) rfl ki_1 ?_
            refine x_goto (tgt := 23) rfl rfl ?_
            refine x_zret rfl rfl (by decide) ?_
            show jX m_X12_line 6 0 0 161 [(9, .int 0), (0, .ref 125), (1, .int l1), (2, .int l2), (3, .int l3), (4, .int l4), (5, .int l5), (7, .int l7), (8, .int l8)] [.int 1] _ 0 0 _
            refine x_ifne (tgt := 168) rfl rfl (ti_ne jk_1 jk_0 (bn_t (by omega) ?_))
            exact jX.sub (jsb_c rfl (jsb_c rfl (jsb_c rfl (jsb_c rfl (jsb_c rfl (jsb_c rfl (jsb_c rfl (jsb_c rfl (jsb_c rfl jsb_n))))))))) (ct_X12_line_r125_168 hD hQ  l1 l2 l3 l4 l5 l7 l8 g0 g1 g2 g3 g4 u6 u9 0 u7 u8 h (jr_of rfl (by omega)) (jr_of rfl (by omega)) (jr_of rfl (by omega)) (jr_of rfl (by omega)) (jr_of rfl (by omega)) (jr_of rfl (by omega)) (jr_of rfl (by omega)) (jr_mod rfl (by omega)) (jr_of rfl (by omega)) (jr_of rfl (by omega)) (jr_of rfl (by omega)) (jr_of rfl (by omega)) (jr_of rfl (by omega)) (jr_of rfl (by omega)) (jr_of rfl (by omega)) (jr_of jk_0 (by omega)) (jr_of rfl (by omega)) (jr_of rfl (by omega)) (by omega) (by omega) (by omega) (jmc S5 rfl (jmo w4 rfl (jmo w3 rfl (jmo w2 rfl z0)))) (jmc S5 rfl (jmo w4 rfl (jmo w3 rfl (jmo w2 rfl z1)))) (jmc S5 rfl (jmo w4 rfl (jmo w3 rfl (jmo w2 rfl z2)))) (jmc S5 rfl (jmo w4 rfl (jmo w3 rfl (jmo w2 rfl z3)))) (jmc S5 rfl (jmo w4 rfl (jmo w3 rfl (jmo w2 rfl z4)))) qu6 qu9 (jmc S5 rfl (jmo w4 rfl (jmw w3))) qu7 qu8 J Sm)
    ·
      refine x_aloadn (x := 125) rfl rfl ?_
      refine z_getR (N := 92) (b := 126) 12 2 rfl f_12_8 rfl J rfl 16002 ⟨rfl, rfl⟩ rfl ?_
      refine x_iload (x := l8) rfl rfl ?_
      refine x_iload (x := l9) rfl rfl ?_
      refine z_iadd rfl rfl rfl (by omega) (fun v19 ev19 => ?_)
      refine x_iconst (v := 0) rfl ki_0 ?_
      refine z_iast (N := 50660) (l := 20) (u := 18020) (w := 0) rfl hD J Sm rfl rfl rfl (by omega) jk_0 (wr_126_20 (by omega) (fun q1 q2 q3 q4 => by omega) (fun q1 q2 q3 q4 => by omega) (fun q1 q2 q3 q4 => by omega) (fun q1 q2 q3 q4 => by omega) (fun q1 q2 q3 q4 => by omega) (fun q1 q2 q3 q4 => by omega) (fun q1 q2 q3 q4 => by omega) (fun q1 q2 q3 q4 => by omega) (fun q1 q2 q3 q4 => by omega) (fun q1 q2 q3 q4 => by omega) (fun q1 q2 q3 q4 => by omega) (fun q1 q2 q3 q4 => by omega) (fun q1 q2 q3 q4 => by omega) (fun q1 q2 q3 q4 => by omega) (fun q1 q2 q3 q4 => by omega) (fun q1 q2 q3 q4 => by omega) (fun q1 q2 q3 q4 => by omega) (fun q1 q2 q3 q4 => by omega) (fun q1 q2 q3 q4 => by omega) (fun q1 q2 q3 q4 => by omega) (fun q1 q2 q3 q4 => by omega) (fun q1 q2 q3 q4 => by omega) (fun q1 q2 q3 q4 => by omega)) rfl (fun h w20 J Sm => ?_)
      refine z_iinc (x := l9) (lsx9 := fun v21 => [(9, .int v21), (0, .ref 125), (1, .int l1), (2, .int l2), (3, .int l3), (4, .int l4), (5, .int l5), (7, .int l7), (8, .int l8)]) rfl rfl rfl jko_1 (by omega) rfl (fun _ => rfl) (fun v21 ev21 => ?_)
      refine x_goto (tgt := 117) rfl rfl ?_
      exact jX.sub (jsb_c rfl (jsb_c rfl (jsb_c rfl (jsb_c rfl (jsb_c rfl (jsb_c rfl (jsb_c rfl (jsb_c rfl (jsb_c rfl jsb_n))))))))) (ih l1 l2 l3 l4 l5 l7 l8 v21 g0 g1 g2 g3 g4 g5 g6 g7 g8 h (by omega) (jr_of rfl (by omega)) (jr_of rfl (by omega)) (jr_of rfl (by omega)) (jr_of rfl (by omega)) (jr_of rfl (by omega)) (jr_of rfl (by omega)) (jr_of rfl (by omega)) (jr_mod rfl (by omega)) (jr_of rfl (by omega)) (jr_of rfl (by omega)) (jr_of rfl (by omega)) (jr_of rfl (by omega)) (jr_of rfl (by omega)) (jr_of rfl (by omega)) (jr_of rfl (by omega)) (jr_of rfl (by omega)) (jr_of rfl (by omega)) (jr_of rfl (by omega)) (by omega) (jmo2 w20 rfl jk_0 (by omega) z0) (jmo2 w20 rfl jk_16 (by omega) z1) (jmo2 w20 rfl jk_4 (by omega) z2) (jmo2 w20 rfl jk_5 (by omega) z3) (jmo2 w20 rfl jk_7 (by omega) z4) (jmo w20 rfl z5) (jmo w20 rfl z6) (jmo w20 rfl z7) (jmo w20 rfl z8) J Sm)
set_option maxRecDepth 100000 in
set_option maxHeartbeats 4000000 in
theorem ct_X12_line_r125_300058 {Dy : jH → Prop} {h0 : jH} {Q : Option Value → jH → Prop} (hD : jDk Dy) (hQ : ∀ (v : Int32) hx9, jJ jSgM Dy hx9 → jSm fp_X12_line_r125 h0 hx9 → ∀ u0 u1 u2 u3 u4 : Int32, jiv hx9 126 (16 : Int32).toNatClampNeg = u0 → jiv hx9 126 (0 : Int32).toNatClampNeg = u1 → jiv hx9 126 (4 : Int32).toNatClampNeg = u2 → jiv hx9 126 (5 : Int32).toNatClampNeg = u3 → jiv hx9 126 (7 : Int32).toNatClampNeg = u4 → u0.toInt = u1.toInt + u2.toInt + u3.toInt + u4.toInt → Q (some (.int v)) hx9) : ∀ (l1 : Int32) (l2 : Int32) (l3 : Int32) (l4 : Int32) (l5 : Int32) (g0 : Int32) (g1 : Int32) (g2 : Int32) (g3 : Int32) (g4 : Int32) (g5 : Int32) (g6 : Int32) (g7 : Int32) (g8 : Int32) (h : jH), 0 ≤ l1.toInt ∧ l1.toInt ≤ 5 → 0 ≤ l2.toInt ∧ l2.toInt ≤ 15 → 0 ≤ l3.toInt ∧ l3.toInt ≤ 146399 → 0 ≤ l4.toInt ∧ l4.toInt ≤ 146399 → (-1) ≤ l5.toInt ∧ l5.toInt ≤ 100000 → 0 ≤ g0.toInt ∧ g0.toInt ≤ 200 → 0 ≤ g1.toInt ∧ g1.toInt ≤ 370 → 0 ≤ g2.toInt ∧ g2.toInt ≤ 30 → 0 ≤ g3.toInt ∧ g3.toInt ≤ 100 → 0 ≤ g4.toInt ∧ g4.toInt ≤ 40 → 0 ≤ g5.toInt ∧ g5.toInt ≤ 400 → 0 ≤ g6.toInt ∧ g6.toInt ≤ 3 → 0 ≤ g7.toInt ∧ g7.toInt ≤ 400 → 0 ≤ g8.toInt ∧ g8.toInt ≤ 400 → g1.toInt = g0.toInt + g2.toInt + g3.toInt + g4.toInt → jiv h 126 (0 : Int32).toNatClampNeg = g0 → jiv h 126 (16 : Int32).toNatClampNeg = g1 → jiv h 126 (4 : Int32).toNatClampNeg = g2 → jiv h 126 (5 : Int32).toNatClampNeg = g3 → jiv h 126 (7 : Int32).toNatClampNeg = g4 → jiv h 125 10 = g5 → jiv h 125 11 = g6 → jiv h 125 8 = g7 → jiv h 125 9 = g8 → jJ jSgM Dy h → jSm fp_X12_line_r125 h0 h → jX m_X12_line 6 0 0 58 [(0, .ref 125), (1, .int l1), (2, .int l2), (3, .int l3), (4, .int l4), (5, .int l5)] [.int 1] h 0 0 Q := by
  intro l1 l2 l3 l4 l5 g0 g1 g2 g3 g4 g5 g6 g7 g8 h y0 y1 y2 y3 y4 y5 y6 y7 y8 y9 y10 y11 y12 y13 y14 z0 z1 z2 z3 z4 z5 z6 z7 z8  J Sm
  refine x_istore (lsx9 := [(6, .int 1), (0, .ref 125), (1, .int l1), (2, .int l2), (3, .int l3), (4, .int l4), (5, .int l5)]) rfl rfl rfl ?_
  refine x_iload (x := 1) rfl rfl ?_
  refine x_ifeq (tgt := 77) rfl rfl (ti_eq jk_1 jk_0 (br_f (by omega) ?_))
  refine x_aloadn (x := 125) rfl rfl ?_
  refine z_getR (N := 92) (b := 126) 12 2 rfl f_12_8 rfl J rfl 16002 ⟨rfl, rfl⟩ rfl ?_
  refine x_iconst (v := 0) rfl ki_0 ?_
  refine z_ialdM (N := 50660) (v := g0) rfl J rfl jk_0 (by omega) z0 ?_
  refine x_sipush (v := 200) rfl ks_200 ?_
  refine x_icne (tgt := 98) rfl rfl (ti_ne rfl jk_200 ⟨fun c1 => ?_, fun c1 => ?_⟩)
  ·
    refine x_aloadn (x := 125) rfl rfl ?_
    refine z_getR (N := 92) (b := 126) 12 2 rfl f_12_8 rfl J rfl 16002 ⟨rfl, rfl⟩ rfl ?_
    refine x_iconst (v := 0) rfl ki_0 ?_
    refine z_ialdM (N := 50660) (v := g0) rfl J rfl jk_0 (by omega) z0 ?_
    refine x_istore (lsx9 := [(7, .int g0), (6, .int 1), (0, .ref 125), (1, .int l1), (2, .int l2), (3, .int l3), (4, .int l4), (5, .int l5)]) rfl rfl rfl ?_
    refine x_aloadn (x := 125) rfl rfl ?_
    refine x_iload (x := g0) rfl rfl ?_
    refine x_inv (N := m_X12_at) (As := [.int g0]) (b := 125) (st := []) (dx9 := 5) (mc := 0) (ms := 0) (host := "") 12 rfl t_X12_at ⟨Or.inl q_12_254, i_X12_at.1, i_X12_at.2⟩ ⟨by decide, rfl⟩ (congrArg Prod.fst (J.1.1 125 (12, 92) rfl)) rfl (by decide) rfl rfl ⟨by decide, by decide⟩ (jC.of rfl k_X12_at rfl ?_)
    show jX m_X12_at 5 0 0 0 [(0, .ref 125), (1, .int g0)] [] _ 0 0 _
    refine x_bipush (v := 20) rfl kb_20 ?_
    refine x_bipush (v := 90) rfl kb_90 ?_
    refine x_iloadn (x := g0) rfl rfl ?_
    refine z_imul rfl jk_90 rfl (by omega) (fun v2 ev2 => ?_)
    refine z_iadd rfl jk_20 rfl (by omega) (fun v3 ev3 => ?_)
    refine x_iret rfl rfl ?_
    show jX m_X12_line 6 0 0 112 [(7, .int g0), (6, .int 1), (0, .ref 125), (1, .int l1), (2, .int l2), (3, .int l3), (4, .int l4), (5, .int l5)] [.int v3] _ 0 0 _
    refine x_istore (lsx9 := [(8, .int v3), (7, .int g0), (6, .int 1), (0, .ref 125), (1, .int l1), (2, .int l2), (3, .int l3), (4, .int l4), (5, .int l5)]) rfl rfl rfl ?_
    refine x_iconst (v := 0) rfl ki_0 ?_
    refine x_istore (lsx9 := [(9, .int 0), (8, .int v3), (7, .int g0), (6, .int 1), (0, .ref 125), (1, .int l1), (2, .int l2), (3, .int l3), (4, .int l4), (5, .int l5)]) rfl rfl rfl ?_
    exact jX.sub (jsb_c rfl (jsb_c rfl (jsb_c rfl (jsb_c rfl (jsb_c rfl (jsb_c rfl (jsb_c rfl (jsb_c rfl (jsb_c rfl jsb_n))))))))) (ct_X12_line_r125_117 hD hQ  91 l1 l2 l3 l4 l5 g0 v3 0 g0 g1 g2 g3 g4 g5 g6 g7 g8 h (by have := jk_0; omega) (jr_of rfl (by omega)) (jr_of rfl (by omega)) (jr_of rfl (by omega)) (jr_of rfl (by omega)) (jr_of rfl (by omega)) (jr_of rfl (by omega)) (jr_of rfl (by omega)) (jr_mod rfl (by omega)) (jr_of jk_0 (by omega)) (jr_of rfl (by omega)) (jr_of rfl (by omega)) (jr_of rfl (by omega)) (jr_of rfl (by omega)) (jr_of rfl (by omega)) (jr_of rfl (by omega)) (jr_of rfl (by omega)) (jr_of rfl (by omega)) (jr_of rfl (by omega)) (by omega) z0 z1 z2 z3 z4 z5 z6 z7 z8 J Sm)
  ·
    exact jX.sub (jsb_c rfl (jsb_c rfl jsb_n)) (ct_X12_line_r125_77 hD hQ  1 g0 g1 g2 g3 g4 g5 g6 g7 g8 h (jr_of jk_1 (by omega)) (jr_of rfl (by omega)) (jr_of rfl (by omega)) (jr_of rfl (by omega)) (jr_of rfl (by omega)) (jr_of rfl (by omega)) (jr_of rfl (by omega)) (jr_of rfl (by omega)) (jr_of rfl (by omega)) (jr_of rfl (by omega)) (by omega) z0 z1 z2 z3 z4 z5 z6 z7 z8 J Sm)
set_option maxRecDepth 100000 in
set_option maxHeartbeats 4000000 in
theorem ct_X12_line_r125_200058 {Dy : jH → Prop} {h0 : jH} {Q : Option Value → jH → Prop} (hD : jDk Dy) (hQ : ∀ (v : Int32) hx9, jJ jSgM Dy hx9 → jSm fp_X12_line_r125 h0 hx9 → ∀ u0 u1 u2 u3 u4 : Int32, jiv hx9 126 (16 : Int32).toNatClampNeg = u0 → jiv hx9 126 (0 : Int32).toNatClampNeg = u1 → jiv hx9 126 (4 : Int32).toNatClampNeg = u2 → jiv hx9 126 (5 : Int32).toNatClampNeg = u3 → jiv hx9 126 (7 : Int32).toNatClampNeg = u4 → u0.toInt = u1.toInt + u2.toInt + u3.toInt + u4.toInt → Q (some (.int v)) hx9) : ∀ (l1 : Int32) (l2 : Int32) (l3 : Int32) (l4 : Int32) (l5 : Int32) (g0 : Int32) (g1 : Int32) (g2 : Int32) (g3 : Int32) (g4 : Int32) (g5 : Int32) (g6 : Int32) (g7 : Int32) (g8 : Int32) (h : jH), 0 ≤ g0.toInt ∧ g0.toInt ≤ 200 → 0 ≤ g1.toInt ∧ g1.toInt ≤ 370 → 0 ≤ g2.toInt ∧ g2.toInt ≤ 30 → 0 ≤ g3.toInt ∧ g3.toInt ≤ 100 → 0 ≤ g4.toInt ∧ g4.toInt ≤ 40 → 0 ≤ g5.toInt ∧ g5.toInt ≤ 400 → 0 ≤ g6.toInt ∧ g6.toInt ≤ 3 → 0 ≤ g7.toInt ∧ g7.toInt ≤ 400 → 0 ≤ g8.toInt ∧ g8.toInt ≤ 400 → g1.toInt = g0.toInt + g2.toInt + g3.toInt + g4.toInt → jiv h 126 (0 : Int32).toNatClampNeg = g0 → jiv h 126 (16 : Int32).toNatClampNeg = g1 → jiv h 126 (4 : Int32).toNatClampNeg = g2 → jiv h 126 (5 : Int32).toNatClampNeg = g3 → jiv h 126 (7 : Int32).toNatClampNeg = g4 → jiv h 125 10 = g5 → jiv h 125 11 = g6 → jiv h 125 8 = g7 → jiv h 125 9 = g8 → jJ jSgM Dy h → jSm fp_X12_line_r125 h0 h → jX m_X12_line 6 0 0 58 [(0, .ref 125), (1, .int l1), (2, .int l2), (3, .int l3), (4, .int l4), (5, .int l5)] [.int 0] h 0 0 Q := by
  intro l1 l2 l3 l4 l5 g0 g1 g2 g3 g4 g5 g6 g7 g8 h y0 y1 y2 y3 y4 y5 y6 y7 y8 y9 z0 z1 z2 z3 z4 z5 z6 z7 z8  J Sm
  have el1 := jfull l1
  have el2 := jfull l2
  have el3 := jfull l3
  have el4 := jfull l4
  have el5 := jfull l5
  refine x_istore (lsx9 := [(6, .int 0), (0, .ref 125), (1, .int l1), (2, .int l2), (3, .int l3), (4, .int l4), (5, .int l5)]) rfl rfl rfl ?_
  refine x_iload (x := 0) rfl rfl ?_
  refine x_ifeq (tgt := 77) rfl rfl (ti_eq jk_0 jk_0 (br_t (by omega) ?_))
  exact jX.sub (jsb_c rfl (jsb_c rfl jsb_n)) (ct_X12_line_r125_77 hD hQ  0 g0 g1 g2 g3 g4 g5 g6 g7 g8 h (jr_of jk_0 (by omega)) (jr_of rfl (by omega)) (jr_of rfl (by omega)) (jr_of rfl (by omega)) (jr_of rfl (by omega)) (jr_of rfl (by omega)) (jr_of rfl (by omega)) (jr_of rfl (by omega)) (jr_of rfl (by omega)) (jr_of rfl (by omega)) (by omega) z0 z1 z2 z3 z4 z5 z6 z7 z8 J Sm)
set_option maxRecDepth 100000 in
set_option maxHeartbeats 4000000 in
theorem ct_X12_line_r125_57 {Dy : jH → Prop} {h0 : jH} {Q : Option Value → jH → Prop} (hD : jDk Dy) (hQ : ∀ (v : Int32) hx9, jJ jSgM Dy hx9 → jSm fp_X12_line_r125 h0 hx9 → ∀ u0 u1 u2 u3 u4 : Int32, jiv hx9 126 (16 : Int32).toNatClampNeg = u0 → jiv hx9 126 (0 : Int32).toNatClampNeg = u1 → jiv hx9 126 (4 : Int32).toNatClampNeg = u2 → jiv hx9 126 (5 : Int32).toNatClampNeg = u3 → jiv hx9 126 (7 : Int32).toNatClampNeg = u4 → u0.toInt = u1.toInt + u2.toInt + u3.toInt + u4.toInt → Q (some (.int v)) hx9) : ∀ (l1 : Int32) (l2 : Int32) (l3 : Int32) (l4 : Int32) (l5 : Int32) (g0 : Int32) (g1 : Int32) (g2 : Int32) (g3 : Int32) (g4 : Int32) (g5 : Int32) (g6 : Int32) (g7 : Int32) (g8 : Int32) (h : jH), 0 ≤ g0.toInt ∧ g0.toInt ≤ 200 → 0 ≤ g1.toInt ∧ g1.toInt ≤ 370 → 0 ≤ g2.toInt ∧ g2.toInt ≤ 30 → 0 ≤ g3.toInt ∧ g3.toInt ≤ 100 → 0 ≤ g4.toInt ∧ g4.toInt ≤ 40 → 0 ≤ g5.toInt ∧ g5.toInt ≤ 400 → 0 ≤ g6.toInt ∧ g6.toInt ≤ 3 → 0 ≤ g7.toInt ∧ g7.toInt ≤ 400 → 0 ≤ g8.toInt ∧ g8.toInt ≤ 400 → g1.toInt = g0.toInt + g2.toInt + g3.toInt + g4.toInt → jiv h 126 (0 : Int32).toNatClampNeg = g0 → jiv h 126 (16 : Int32).toNatClampNeg = g1 → jiv h 126 (4 : Int32).toNatClampNeg = g2 → jiv h 126 (5 : Int32).toNatClampNeg = g3 → jiv h 126 (7 : Int32).toNatClampNeg = g4 → jiv h 125 10 = g5 → jiv h 125 11 = g6 → jiv h 125 8 = g7 → jiv h 125 9 = g8 → jJ jSgM Dy h → jSm fp_X12_line_r125 h0 h → jX m_X12_line 6 0 0 57 [(0, .ref 125), (1, .int l1), (2, .int l2), (3, .int l3), (4, .int l4), (5, .int l5)] [] h 0 0 Q := by
  intro l1 l2 l3 l4 l5 g0 g1 g2 g3 g4 g5 g6 g7 g8 h y0 y1 y2 y3 y4 y5 y6 y7 y8 y9 z0 z1 z2 z3 z4 z5 z6 z7 z8  J Sm
  have el1 := jfull l1
  have el2 := jfull l2
  have el3 := jfull l3
  have el4 := jfull l4
  have el5 := jfull l5
  refine x_iconst (v := 0) rfl ki_0 ?_
  exact jX.sub (jsb_c rfl (jsb_c rfl (jsb_c rfl (jsb_c rfl (jsb_c rfl (jsb_c rfl jsb_n)))))) (ct_X12_line_r125_200058 hD hQ  l1 l2 l3 l4 l5 g0 g1 g2 g3 g4 g5 g6 g7 g8 h (jr_of rfl (by omega)) (jr_of rfl (by omega)) (jr_of rfl (by omega)) (jr_of rfl (by omega)) (jr_of rfl (by omega)) (jr_of rfl (by omega)) (jr_of rfl (by omega)) (jr_of rfl (by omega)) (jr_of rfl (by omega)) (by omega) z0 z1 z2 z3 z4 z5 z6 z7 z8 J Sm)
set_option maxRecDepth 100000 in
set_option maxHeartbeats 4000000 in
theorem sf_X12_line_r125 {Dy : jH → Prop} {h : jH} {Q : Option Value → jH → Prop} {a1 : Int32} {a2 : Int32} {a3 : Int32} {a4 : Int32} {a5 : Int32} (hD : jDk Dy) (J : jJ jSgM Dy h) {p0 p1 p2 p3 p4 : Int32} (zp0 : jiv h 126 (16 : Int32).toNatClampNeg = p0) (zp1 : jiv h 126 (0 : Int32).toNatClampNeg = p1) (zp2 : jiv h 126 (4 : Int32).toNatClampNeg = p2) (zp3 : jiv h 126 (5 : Int32).toNatClampNeg = p3) (zp4 : jiv h 126 (7 : Int32).toNatClampNeg = p4) (rl_p0 : p0.toInt = p1.toInt + p2.toInt + p3.toInt + p4.toInt) (hQ : ∀ (v : Int32) hx9, jJ jSgM Dy hx9 → jSm fp_X12_line_r125 h hx9 → ∀ u0 u1 u2 u3 u4 : Int32, jiv hx9 126 (16 : Int32).toNatClampNeg = u0 → jiv hx9 126 (0 : Int32).toNatClampNeg = u1 → jiv hx9 126 (4 : Int32).toNatClampNeg = u2 → jiv hx9 126 (5 : Int32).toNatClampNeg = u3 → jiv hx9 126 (7 : Int32).toNatClampNeg = u4 → u0.toInt = u1.toInt + u2.toInt + u3.toInt + u4.toInt → Q (some (.int v)) hx9) : jC m_X12_line 6 0 0 [.ref 125, .int a1, .int a2, .int a3, .int a4, .int a5] h Q := by
  refine jC.of rfl k_X12_line rfl ?_
  have Sm := jSm_rf fp_X12_line_r125 h
  have ep0 := (show 0 ≤ p0.toInt ∧ p0.toInt ≤ 370 from zp0 ▸ jrg_c J sg_126_16_17_1_0_1 jk_16 (by omega))
  have ep1 := (show 0 ≤ p1.toInt ∧ p1.toInt ≤ 200 from zp1 ▸ jrg_c J sg_126_0_1_1_0_1 jk_0 (by omega))
  have ep2 := (show 0 ≤ p2.toInt ∧ p2.toInt ≤ 30 from zp2 ▸ jrg_c J sg_126_4_5_1_0_1 jk_4 (by omega))
  have ep3 := (show 0 ≤ p3.toInt ∧ p3.toInt ≤ 100 from zp3 ▸ jrg_c J sg_126_5_6_1_0_1 jk_5 (by omega))
  have ep4 := (show 0 ≤ p4.toInt ∧ p4.toInt ≤ 40 from zp4 ▸ jrg_c J sg_126_7_8_1_0_1 jk_7 (by omega))
  have ea1 := jfull a1
  have ea2 := jfull a2
  have ea3 := jfull a3
  have ea4 := jfull a4
  have ea5 := jfull a5
  show jX m_X12_line 6 0 0 0 [(0, .ref 125), (1, .int a1), (2, .int a2), (3, .int a3), (4, .int a4), (5, .int a5)] [] _ 0 0 _
  refine x_aloadn (x := 125) rfl rfl ?_
  refine x_iconst (v := 0) rfl ki_0 ?_
  refine z_putI (N := 92) (w := 0) 12 0 rfl f_12_180 rfl (jfin_no TX12 RX12 92 rfl rfl) hD J Sm rfl rfl jk_0 (pw_125_0 (by omega)) rfl (fun h w1 J Sm => ?_)
  refine x_iloadn (x := a1) rfl rfl ?_
  refine z_i2l rfl rfl (fun v2 ev2 => ?_)
  refine x_lconst (v := 0) rfl kl_0 ?_
  refine x_ldc2 (v := 5) rfl z_12_269 ?_
  refine x_inst (N := m_X12_in) (As := [.long v2, .long 0, .long 5]) (st := []) (dx9 := 1) (mc := 0) (ms := 0) (host := "") rfl t_X12_in ⟨Or.inl q_12_188, s_X12_in⟩ rfl (by decide) rfl rfl ⟨by decide, by decide⟩ (zc_X12_in rfl jkl_0 jkl_5 (fun v3 ev3 => ?_))
  show jX m_X12_line 6 0 0 14 [(0, .ref 125), (1, .int a1), (2, .int a2), (3, .int a3), (4, .int a4), (5, .int a5)] [.int v3] _ 0 0 _
  refine x_ifeq (tgt := 57) rfl rfl (ti_eq rfl jk_0 ⟨fun c4 => ?_, fun c4 => ?_⟩)
  ·
    obtain ⟨u5, qu5⟩ : ∃ v : Int32, jiv h 125 10 = v := ⟨_, rfl⟩
    have eu5 := (show 0 ≤ u5.toInt ∧ u5.toInt ≤ 400 from qu5 ▸ jrg_f J sg_125_10_11_1_0_1)
    obtain ⟨u6, qu6⟩ : ∃ v : Int32, jiv h 125 11 = v := ⟨_, rfl⟩
    have eu6 := (show 0 ≤ u6.toInt ∧ u6.toInt ≤ 3 from qu6 ▸ jrg_f J sg_125_11_12_1_0_1)
    obtain ⟨u7, qu7⟩ : ∃ v : Int32, jiv h 125 8 = v := ⟨_, rfl⟩
    have eu7 := (show 0 ≤ u7.toInt ∧ u7.toInt ≤ 400 from qu7 ▸ jrg_f J sg_125_8_9_1_0_1)
    obtain ⟨u8, qu8⟩ : ∃ v : Int32, jiv h 125 9 = v := ⟨_, rfl⟩
    have eu8 := (show 0 ≤ u8.toInt ∧ u8.toInt ≤ 400 from qu8 ▸ jrg_f J sg_125_9_10_1_0_1)
    exact jX.sub (jsb_c rfl (jsb_c rfl (jsb_c rfl (jsb_c rfl (jsb_c rfl (jsb_c rfl jsb_n)))))) (ct_X12_line_r125_57 hD hQ  a1 a2 a3 a4 a5 p1 p0 p2 p3 p4 u5 u6 u7 u8 h (jr_of rfl (by omega)) (jr_of rfl (by omega)) (jr_of rfl (by omega)) (jr_of rfl (by omega)) (jr_of rfl (by omega)) (jr_of rfl (by omega)) (jr_of rfl (by omega)) (jr_of rfl (by omega)) (jr_of rfl (by omega)) (by omega) (jmo w1 rfl zp1) (jmo w1 rfl zp0) (jmo w1 rfl zp2) (jmo w1 rfl zp3) (jmo w1 rfl zp4) qu5 qu6 qu7 qu8 J Sm)
  ·
    refine x_iloadn (x := a2) rfl rfl ?_
    refine z_i2l rfl rfl (fun v9 ev9 => ?_)
    refine x_lconst (v := 0) rfl kl_0 ?_
    refine x_ldc2 (v := 15) rfl z_12_271 ?_
    refine x_inst (N := m_X12_in) (As := [.long v9, .long 0, .long 15]) (st := []) (dx9 := 1) (mc := 0) (ms := 0) (host := "") rfl t_X12_in ⟨Or.inl q_12_188, s_X12_in⟩ rfl (by decide) rfl rfl ⟨by decide, by decide⟩ (zc_X12_in rfl jkl_0 jkl_15 (fun v10 ev10 => ?_))
    show jX m_X12_line 6 0 0 26 [(0, .ref 125), (1, .int a1), (2, .int a2), (3, .int a3), (4, .int a4), (5, .int a5)] [.int v10] _ 0 0 _
    refine x_ifeq (tgt := 57) rfl rfl (ti_eq rfl jk_0 ⟨fun c11 => ?_, fun c11 => ?_⟩)
    ·
      obtain ⟨u12, qu12⟩ : ∃ v : Int32, jiv h 125 10 = v := ⟨_, rfl⟩
      have eu12 := (show 0 ≤ u12.toInt ∧ u12.toInt ≤ 400 from qu12 ▸ jrg_f J sg_125_10_11_1_0_1)
      obtain ⟨u13, qu13⟩ : ∃ v : Int32, jiv h 125 11 = v := ⟨_, rfl⟩
      have eu13 := (show 0 ≤ u13.toInt ∧ u13.toInt ≤ 3 from qu13 ▸ jrg_f J sg_125_11_12_1_0_1)
      obtain ⟨u14, qu14⟩ : ∃ v : Int32, jiv h 125 8 = v := ⟨_, rfl⟩
      have eu14 := (show 0 ≤ u14.toInt ∧ u14.toInt ≤ 400 from qu14 ▸ jrg_f J sg_125_8_9_1_0_1)
      obtain ⟨u15, qu15⟩ : ∃ v : Int32, jiv h 125 9 = v := ⟨_, rfl⟩
      have eu15 := (show 0 ≤ u15.toInt ∧ u15.toInt ≤ 400 from qu15 ▸ jrg_f J sg_125_9_10_1_0_1)
      exact jX.sub (jsb_c rfl (jsb_c rfl (jsb_c rfl (jsb_c rfl (jsb_c rfl (jsb_c rfl jsb_n)))))) (ct_X12_line_r125_57 hD hQ  a1 a2 a3 a4 a5 p1 p0 p2 p3 p4 u12 u13 u14 u15 h (jr_of rfl (by omega)) (jr_of rfl (by omega)) (jr_of rfl (by omega)) (jr_of rfl (by omega)) (jr_of rfl (by omega)) (jr_of rfl (by omega)) (jr_of rfl (by omega)) (jr_of rfl (by omega)) (jr_of rfl (by omega)) (by omega) (jmo w1 rfl zp1) (jmo w1 rfl zp0) (jmo w1 rfl zp2) (jmo w1 rfl zp3) (jmo w1 rfl zp4) qu12 qu13 qu14 qu15 J Sm)
    ·
      refine x_iloadn (x := a3) rfl rfl ?_
      refine x_inst (N := m_X12_isDay) (As := [.int a3]) (st := []) (dx9 := 2) (mc := 0) (ms := 0) (host := "") rfl t_X12_isDay ⟨Or.inl q_12_273, s_X12_isDay⟩ rfl (by decide) rfl rfl ⟨by decide, by decide⟩ (zc_X12_isDay (d := 1) rfl (fun v16 ev16 => ?_))
      show jX m_X12_line 6 0 0 33 [(0, .ref 125), (1, .int a1), (2, .int a2), (3, .int a3), (4, .int a4), (5, .int a5)] [.int v16] _ 0 0 _
      refine x_ifeq (tgt := 57) rfl rfl (ti_eq rfl jk_0 ⟨fun c17 => ?_, fun c17 => ?_⟩)
      ·
        obtain ⟨u18, qu18⟩ : ∃ v : Int32, jiv h 125 10 = v := ⟨_, rfl⟩
        have eu18 := (show 0 ≤ u18.toInt ∧ u18.toInt ≤ 400 from qu18 ▸ jrg_f J sg_125_10_11_1_0_1)
        obtain ⟨u19, qu19⟩ : ∃ v : Int32, jiv h 125 11 = v := ⟨_, rfl⟩
        have eu19 := (show 0 ≤ u19.toInt ∧ u19.toInt ≤ 3 from qu19 ▸ jrg_f J sg_125_11_12_1_0_1)
        obtain ⟨u20, qu20⟩ : ∃ v : Int32, jiv h 125 8 = v := ⟨_, rfl⟩
        have eu20 := (show 0 ≤ u20.toInt ∧ u20.toInt ≤ 400 from qu20 ▸ jrg_f J sg_125_8_9_1_0_1)
        obtain ⟨u21, qu21⟩ : ∃ v : Int32, jiv h 125 9 = v := ⟨_, rfl⟩
        have eu21 := (show 0 ≤ u21.toInt ∧ u21.toInt ≤ 400 from qu21 ▸ jrg_f J sg_125_9_10_1_0_1)
        exact jX.sub (jsb_c rfl (jsb_c rfl (jsb_c rfl (jsb_c rfl (jsb_c rfl (jsb_c rfl jsb_n)))))) (ct_X12_line_r125_57 hD hQ  a1 a2 a3 a4 a5 p1 p0 p2 p3 p4 u18 u19 u20 u21 h (jr_of rfl (by omega)) (jr_of rfl (by omega)) (jr_of rfl (by omega)) (jr_of rfl (by omega)) (jr_of rfl (by omega)) (jr_of rfl (by omega)) (jr_of rfl (by omega)) (jr_of rfl (by omega)) (jr_of rfl (by omega)) (by omega) (jmo w1 rfl zp1) (jmo w1 rfl zp0) (jmo w1 rfl zp2) (jmo w1 rfl zp3) (jmo w1 rfl zp4) qu18 qu19 qu20 qu21 J Sm)
      ·
        refine x_iload (x := a4) rfl rfl ?_
        refine x_inst (N := m_X12_isDay) (As := [.int a4]) (st := []) (dx9 := 2) (mc := 0) (ms := 0) (host := "") rfl t_X12_isDay ⟨Or.inl q_12_273, s_X12_isDay⟩ rfl (by decide) rfl rfl ⟨by decide, by decide⟩ (zc_X12_isDay (d := 1) rfl (fun v22 ev22 => ?_))
        show jX m_X12_line 6 0 0 41 [(0, .ref 125), (1, .int a1), (2, .int a2), (3, .int a3), (4, .int a4), (5, .int a5)] [.int v22] _ 0 0 _
        refine x_ifeq (tgt := 57) rfl rfl (ti_eq rfl jk_0 ⟨fun c23 => ?_, fun c23 => ?_⟩)
        ·
          obtain ⟨u24, qu24⟩ : ∃ v : Int32, jiv h 125 10 = v := ⟨_, rfl⟩
          have eu24 := (show 0 ≤ u24.toInt ∧ u24.toInt ≤ 400 from qu24 ▸ jrg_f J sg_125_10_11_1_0_1)
          obtain ⟨u25, qu25⟩ : ∃ v : Int32, jiv h 125 11 = v := ⟨_, rfl⟩
          have eu25 := (show 0 ≤ u25.toInt ∧ u25.toInt ≤ 3 from qu25 ▸ jrg_f J sg_125_11_12_1_0_1)
          obtain ⟨u26, qu26⟩ : ∃ v : Int32, jiv h 125 8 = v := ⟨_, rfl⟩
          have eu26 := (show 0 ≤ u26.toInt ∧ u26.toInt ≤ 400 from qu26 ▸ jrg_f J sg_125_8_9_1_0_1)
          obtain ⟨u27, qu27⟩ : ∃ v : Int32, jiv h 125 9 = v := ⟨_, rfl⟩
          have eu27 := (show 0 ≤ u27.toInt ∧ u27.toInt ≤ 400 from qu27 ▸ jrg_f J sg_125_9_10_1_0_1)
          exact jX.sub (jsb_c rfl (jsb_c rfl (jsb_c rfl (jsb_c rfl (jsb_c rfl (jsb_c rfl jsb_n)))))) (ct_X12_line_r125_57 hD hQ  a1 a2 a3 a4 a5 p1 p0 p2 p3 p4 u24 u25 u26 u27 h (jr_of rfl (by omega)) (jr_of rfl (by omega)) (jr_of rfl (by omega)) (jr_of rfl (by omega)) (jr_of rfl (by omega)) (jr_of rfl (by omega)) (jr_of rfl (by omega)) (jr_of rfl (by omega)) (jr_of rfl (by omega)) (by omega) (jmo w1 rfl zp1) (jmo w1 rfl zp0) (jmo w1 rfl zp2) (jmo w1 rfl zp3) (jmo w1 rfl zp4) qu24 qu25 qu26 qu27 J Sm)
        ·
          refine x_iloadn (x := a1) rfl rfl ?_
          refine x_iload (x := a5) rfl rfl ?_
          refine x_inst (N := m_X12_isNumber) (As := [.int a1, .int a5]) (st := []) (dx9 := 5) (mc := 0) (ms := 0) (host := "") rfl t_X12_isNumber ⟨Or.inl q_12_276, s_X12_isNumber⟩ rfl (by decide) rfl rfl ⟨by decide, by decide⟩ (jC.of rfl k_X12_isNumber rfl ?_)
          show jX m_X12_isNumber 5 0 0 0 [(0, .int a1), (1, .int a5)] [] _ 0 0 _
          refine x_iloadn (x := a1) rfl rfl ?_
          by_cases c28 : a1.toInt = 2
          ·
            refine x_tableIn (tgt := 32) 2 rfl c28 (by decide) (by decide) rfl rfl ?_
            refine x_iloadn (x := a5) rfl rfl ?_
            refine z_i2l rfl rfl (fun v29 ev29 => ?_)
            refine x_ldc2 (v := (-1)) rfl z_12_242 ?_
            refine x_ldc2 (v := 120) rfl z_12_263 ?_
            refine x_inst (N := m_X12_in) (As := [.long v29, .long (-1), .long 120]) (st := []) (dx9 := 1) (mc := 0) (ms := 0) (host := "") rfl t_X12_in ⟨Or.inl q_12_188, s_X12_in⟩ rfl (by decide) rfl rfl ⟨by decide, by decide⟩ (zc_X12_in rfl jkl_m1 jkl_120 (fun v30 ev30 => ?_))
            show jX m_X12_isNumber 5 0 0 43 [(0, .int a1), (1, .int a5)] [.int v30] _ 0 0 _
            refine x_zret rfl rfl (jz01 (by omega)) ?_
            show jX m_X12_line 6 0 0 50 [(0, .ref 125), (1, .int a1), (2, .int a2), (3, .int a3), (4, .int a4), (5, .int a5)] [.int v30] _ 0 0 _
            refine x_ifeq (tgt := 57) rfl rfl (ti_eq rfl jk_0 ⟨fun c31 => ?_, fun c31 => ?_⟩)
            ·
              obtain ⟨u32, qu32⟩ : ∃ v : Int32, jiv h 125 10 = v := ⟨_, rfl⟩
              have eu32 := (show 0 ≤ u32.toInt ∧ u32.toInt ≤ 400 from qu32 ▸ jrg_f J sg_125_10_11_1_0_1)
              obtain ⟨u33, qu33⟩ : ∃ v : Int32, jiv h 125 11 = v := ⟨_, rfl⟩
              have eu33 := (show 0 ≤ u33.toInt ∧ u33.toInt ≤ 3 from qu33 ▸ jrg_f J sg_125_11_12_1_0_1)
              obtain ⟨u34, qu34⟩ : ∃ v : Int32, jiv h 125 8 = v := ⟨_, rfl⟩
              have eu34 := (show 0 ≤ u34.toInt ∧ u34.toInt ≤ 400 from qu34 ▸ jrg_f J sg_125_8_9_1_0_1)
              obtain ⟨u35, qu35⟩ : ∃ v : Int32, jiv h 125 9 = v := ⟨_, rfl⟩
              have eu35 := (show 0 ≤ u35.toInt ∧ u35.toInt ≤ 400 from qu35 ▸ jrg_f J sg_125_9_10_1_0_1)
              exact jX.sub (jsb_c rfl (jsb_c rfl (jsb_c rfl (jsb_c rfl (jsb_c rfl (jsb_c rfl jsb_n)))))) (ct_X12_line_r125_57 hD hQ  a1 a2 a3 a4 a5 p1 p0 p2 p3 p4 u32 u33 u34 u35 h (jr_of rfl (by omega)) (jr_of rfl (by omega)) (jr_of rfl (by omega)) (jr_of rfl (by omega)) (jr_of rfl (by omega)) (jr_of rfl (by omega)) (jr_of rfl (by omega)) (jr_of rfl (by omega)) (jr_of rfl (by omega)) (by omega) (jmo w1 rfl zp1) (jmo w1 rfl zp0) (jmo w1 rfl zp2) (jmo w1 rfl zp3) (jmo w1 rfl zp4) qu32 qu33 qu34 qu35 J Sm)
            ·
              refine x_iconst (v := 1) rfl ki_1 ?_
              refine x_goto (tgt := 58) rfl rfl ?_
              obtain ⟨u36, qu36⟩ : ∃ v : Int32, jiv h 125 10 = v := ⟨_, rfl⟩
              have eu36 := (show 0 ≤ u36.toInt ∧ u36.toInt ≤ 400 from qu36 ▸ jrg_f J sg_125_10_11_1_0_1)
              obtain ⟨u37, qu37⟩ : ∃ v : Int32, jiv h 125 11 = v := ⟨_, rfl⟩
              have eu37 := (show 0 ≤ u37.toInt ∧ u37.toInt ≤ 3 from qu37 ▸ jrg_f J sg_125_11_12_1_0_1)
              obtain ⟨u38, qu38⟩ : ∃ v : Int32, jiv h 125 8 = v := ⟨_, rfl⟩
              have eu38 := (show 0 ≤ u38.toInt ∧ u38.toInt ≤ 400 from qu38 ▸ jrg_f J sg_125_8_9_1_0_1)
              obtain ⟨u39, qu39⟩ : ∃ v : Int32, jiv h 125 9 = v := ⟨_, rfl⟩
              have eu39 := (show 0 ≤ u39.toInt ∧ u39.toInt ≤ 400 from qu39 ▸ jrg_f J sg_125_9_10_1_0_1)
              exact jX.sub (jsb_c rfl (jsb_c rfl (jsb_c rfl (jsb_c rfl (jsb_c rfl (jsb_c rfl jsb_n)))))) (ct_X12_line_r125_300058 hD hQ  a1 a2 a3 a4 a5 p1 p0 p2 p3 p4 u36 u37 u38 u39 h (jr_of rfl (by omega)) (jr_of rfl (by omega)) (jr_of rfl (by omega)) (jr_of rfl (by omega)) (jr_of rfl (by omega)) (jr_of rfl (by omega)) (jr_of rfl (by omega)) (jr_of rfl (by omega)) (jr_of rfl (by omega)) (jr_of rfl (by omega)) (jr_of rfl (by omega)) (jr_of rfl (by omega)) (jr_of rfl (by omega)) (jr_of rfl (by omega)) (by omega) (jmo w1 rfl zp1) (jmo w1 rfl zp0) (jmo w1 rfl zp2) (jmo w1 rfl zp3) (jmo w1 rfl zp4) qu36 qu37 qu38 qu39 J Sm)
          by_cases c40 : a1.toInt = 3
          ·
            refine x_tableIn (tgt := 44) 3 rfl c40 (by decide) (by decide) rfl rfl ?_
            refine x_iloadn (x := a5) rfl rfl ?_
            refine z_i2l rfl rfl (fun v41 ev41 => ?_)
            refine x_lconst (v := 0) rfl kl_0 ?_
            refine x_ldc2 (v := 100000) rfl z_12_265 ?_
            refine x_inst (N := m_X12_in) (As := [.long v41, .long 0, .long 100000]) (st := []) (dx9 := 1) (mc := 0) (ms := 0) (host := "") rfl t_X12_in ⟨Or.inl q_12_188, s_X12_in⟩ rfl (by decide) rfl rfl ⟨by decide, by decide⟩ (zc_X12_in rfl jkl_0 jkl_100000 (fun v42 ev42 => ?_))
            show jX m_X12_isNumber 5 0 0 53 [(0, .int a1), (1, .int a5)] [.int v42] _ 0 0 _
            refine x_zret rfl rfl (jz01 (by omega)) ?_
            show jX m_X12_line 6 0 0 50 [(0, .ref 125), (1, .int a1), (2, .int a2), (3, .int a3), (4, .int a4), (5, .int a5)] [.int v42] _ 0 0 _
            refine x_ifeq (tgt := 57) rfl rfl (ti_eq rfl jk_0 ⟨fun c43 => ?_, fun c43 => ?_⟩)
            ·
              obtain ⟨u44, qu44⟩ : ∃ v : Int32, jiv h 125 10 = v := ⟨_, rfl⟩
              have eu44 := (show 0 ≤ u44.toInt ∧ u44.toInt ≤ 400 from qu44 ▸ jrg_f J sg_125_10_11_1_0_1)
              obtain ⟨u45, qu45⟩ : ∃ v : Int32, jiv h 125 11 = v := ⟨_, rfl⟩
              have eu45 := (show 0 ≤ u45.toInt ∧ u45.toInt ≤ 3 from qu45 ▸ jrg_f J sg_125_11_12_1_0_1)
              obtain ⟨u46, qu46⟩ : ∃ v : Int32, jiv h 125 8 = v := ⟨_, rfl⟩
              have eu46 := (show 0 ≤ u46.toInt ∧ u46.toInt ≤ 400 from qu46 ▸ jrg_f J sg_125_8_9_1_0_1)
              obtain ⟨u47, qu47⟩ : ∃ v : Int32, jiv h 125 9 = v := ⟨_, rfl⟩
              have eu47 := (show 0 ≤ u47.toInt ∧ u47.toInt ≤ 400 from qu47 ▸ jrg_f J sg_125_9_10_1_0_1)
              exact jX.sub (jsb_c rfl (jsb_c rfl (jsb_c rfl (jsb_c rfl (jsb_c rfl (jsb_c rfl jsb_n)))))) (ct_X12_line_r125_57 hD hQ  a1 a2 a3 a4 a5 p1 p0 p2 p3 p4 u44 u45 u46 u47 h (jr_of rfl (by omega)) (jr_of rfl (by omega)) (jr_of rfl (by omega)) (jr_of rfl (by omega)) (jr_of rfl (by omega)) (jr_of rfl (by omega)) (jr_of rfl (by omega)) (jr_of rfl (by omega)) (jr_of rfl (by omega)) (by omega) (jmo w1 rfl zp1) (jmo w1 rfl zp0) (jmo w1 rfl zp2) (jmo w1 rfl zp3) (jmo w1 rfl zp4) qu44 qu45 qu46 qu47 J Sm)
            ·
              refine x_iconst (v := 1) rfl ki_1 ?_
              refine x_goto (tgt := 58) rfl rfl ?_
              obtain ⟨u48, qu48⟩ : ∃ v : Int32, jiv h 125 10 = v := ⟨_, rfl⟩
              have eu48 := (show 0 ≤ u48.toInt ∧ u48.toInt ≤ 400 from qu48 ▸ jrg_f J sg_125_10_11_1_0_1)
              obtain ⟨u49, qu49⟩ : ∃ v : Int32, jiv h 125 11 = v := ⟨_, rfl⟩
              have eu49 := (show 0 ≤ u49.toInt ∧ u49.toInt ≤ 3 from qu49 ▸ jrg_f J sg_125_11_12_1_0_1)
              obtain ⟨u50, qu50⟩ : ∃ v : Int32, jiv h 125 8 = v := ⟨_, rfl⟩
              have eu50 := (show 0 ≤ u50.toInt ∧ u50.toInt ≤ 400 from qu50 ▸ jrg_f J sg_125_8_9_1_0_1)
              obtain ⟨u51, qu51⟩ : ∃ v : Int32, jiv h 125 9 = v := ⟨_, rfl⟩
              have eu51 := (show 0 ≤ u51.toInt ∧ u51.toInt ≤ 400 from qu51 ▸ jrg_f J sg_125_9_10_1_0_1)
              exact jX.sub (jsb_c rfl (jsb_c rfl (jsb_c rfl (jsb_c rfl (jsb_c rfl (jsb_c rfl jsb_n)))))) (ct_X12_line_r125_300058 hD hQ  a1 a2 a3 a4 a5 p1 p0 p2 p3 p4 u48 u49 u50 u51 h (jr_of rfl (by omega)) (jr_of rfl (by omega)) (jr_of rfl (by omega)) (jr_of rfl (by omega)) (jr_of rfl (by omega)) (jr_of rfl (by omega)) (jr_of rfl (by omega)) (jr_of rfl (by omega)) (jr_of rfl (by omega)) (jr_of rfl (by omega)) (jr_of rfl (by omega)) (jr_of rfl (by omega)) (jr_of rfl (by omega)) (jr_of rfl (by omega)) (by omega) (jmo w1 rfl zp1) (jmo w1 rfl zp0) (jmo w1 rfl zp2) (jmo w1 rfl zp3) (jmo w1 rfl zp4) qu48 qu49 qu50 qu51 J Sm)
          by_cases c52 : a1.toInt = 4
          ·
            refine x_tableIn (tgt := 44) 4 rfl c52 (by decide) (by decide) rfl rfl ?_
            refine x_iloadn (x := a5) rfl rfl ?_
            refine z_i2l rfl rfl (fun v53 ev53 => ?_)
            refine x_lconst (v := 0) rfl kl_0 ?_
            refine x_ldc2 (v := 100000) rfl z_12_265 ?_
            refine x_inst (N := m_X12_in) (As := [.long v53, .long 0, .long 100000]) (st := []) (dx9 := 1) (mc := 0) (ms := 0) (host := "") rfl t_X12_in ⟨Or.inl q_12_188, s_X12_in⟩ rfl (by decide) rfl rfl ⟨by decide, by decide⟩ (zc_X12_in rfl jkl_0 jkl_100000 (fun v54 ev54 => ?_))
            show jX m_X12_isNumber 5 0 0 53 [(0, .int a1), (1, .int a5)] [.int v54] _ 0 0 _
            refine x_zret rfl rfl (jz01 (by omega)) ?_
            show jX m_X12_line 6 0 0 50 [(0, .ref 125), (1, .int a1), (2, .int a2), (3, .int a3), (4, .int a4), (5, .int a5)] [.int v54] _ 0 0 _
            refine x_ifeq (tgt := 57) rfl rfl (ti_eq rfl jk_0 ⟨fun c55 => ?_, fun c55 => ?_⟩)
            ·
              obtain ⟨u56, qu56⟩ : ∃ v : Int32, jiv h 125 10 = v := ⟨_, rfl⟩
              have eu56 := (show 0 ≤ u56.toInt ∧ u56.toInt ≤ 400 from qu56 ▸ jrg_f J sg_125_10_11_1_0_1)
              obtain ⟨u57, qu57⟩ : ∃ v : Int32, jiv h 125 11 = v := ⟨_, rfl⟩
              have eu57 := (show 0 ≤ u57.toInt ∧ u57.toInt ≤ 3 from qu57 ▸ jrg_f J sg_125_11_12_1_0_1)
              obtain ⟨u58, qu58⟩ : ∃ v : Int32, jiv h 125 8 = v := ⟨_, rfl⟩
              have eu58 := (show 0 ≤ u58.toInt ∧ u58.toInt ≤ 400 from qu58 ▸ jrg_f J sg_125_8_9_1_0_1)
              obtain ⟨u59, qu59⟩ : ∃ v : Int32, jiv h 125 9 = v := ⟨_, rfl⟩
              have eu59 := (show 0 ≤ u59.toInt ∧ u59.toInt ≤ 400 from qu59 ▸ jrg_f J sg_125_9_10_1_0_1)
              exact jX.sub (jsb_c rfl (jsb_c rfl (jsb_c rfl (jsb_c rfl (jsb_c rfl (jsb_c rfl jsb_n)))))) (ct_X12_line_r125_57 hD hQ  a1 a2 a3 a4 a5 p1 p0 p2 p3 p4 u56 u57 u58 u59 h (jr_of rfl (by omega)) (jr_of rfl (by omega)) (jr_of rfl (by omega)) (jr_of rfl (by omega)) (jr_of rfl (by omega)) (jr_of rfl (by omega)) (jr_of rfl (by omega)) (jr_of rfl (by omega)) (jr_of rfl (by omega)) (by omega) (jmo w1 rfl zp1) (jmo w1 rfl zp0) (jmo w1 rfl zp2) (jmo w1 rfl zp3) (jmo w1 rfl zp4) qu56 qu57 qu58 qu59 J Sm)
            ·
              refine x_iconst (v := 1) rfl ki_1 ?_
              refine x_goto (tgt := 58) rfl rfl ?_
              obtain ⟨u60, qu60⟩ : ∃ v : Int32, jiv h 125 10 = v := ⟨_, rfl⟩
              have eu60 := (show 0 ≤ u60.toInt ∧ u60.toInt ≤ 400 from qu60 ▸ jrg_f J sg_125_10_11_1_0_1)
              obtain ⟨u61, qu61⟩ : ∃ v : Int32, jiv h 125 11 = v := ⟨_, rfl⟩
              have eu61 := (show 0 ≤ u61.toInt ∧ u61.toInt ≤ 3 from qu61 ▸ jrg_f J sg_125_11_12_1_0_1)
              obtain ⟨u62, qu62⟩ : ∃ v : Int32, jiv h 125 8 = v := ⟨_, rfl⟩
              have eu62 := (show 0 ≤ u62.toInt ∧ u62.toInt ≤ 400 from qu62 ▸ jrg_f J sg_125_8_9_1_0_1)
              obtain ⟨u63, qu63⟩ : ∃ v : Int32, jiv h 125 9 = v := ⟨_, rfl⟩
              have eu63 := (show 0 ≤ u63.toInt ∧ u63.toInt ≤ 400 from qu63 ▸ jrg_f J sg_125_9_10_1_0_1)
              exact jX.sub (jsb_c rfl (jsb_c rfl (jsb_c rfl (jsb_c rfl (jsb_c rfl (jsb_c rfl jsb_n)))))) (ct_X12_line_r125_300058 hD hQ  a1 a2 a3 a4 a5 p1 p0 p2 p3 p4 u60 u61 u62 u63 h (jr_of rfl (by omega)) (jr_of rfl (by omega)) (jr_of rfl (by omega)) (jr_of rfl (by omega)) (jr_of rfl (by omega)) (jr_of rfl (by omega)) (jr_of rfl (by omega)) (jr_of rfl (by omega)) (jr_of rfl (by omega)) (jr_of rfl (by omega)) (jr_of rfl (by omega)) (jr_of rfl (by omega)) (jr_of rfl (by omega)) (jr_of rfl (by omega)) (by omega) (jmo w1 rfl zp1) (jmo w1 rfl zp0) (jmo w1 rfl zp2) (jmo w1 rfl zp3) (jmo w1 rfl zp4) qu60 qu61 qu62 qu63 J Sm)
          by_cases c64 : a1.toInt = 5
          ·
            refine x_tableIn (tgt := 54) 5 rfl c64 (by decide) (by decide) rfl rfl ?_
            refine x_iloadn (x := a5) rfl rfl ?_
            refine z_i2l rfl rfl (fun v65 ev65 => ?_)
            refine x_lconst (v := 1) rfl kl_1 ?_
            refine x_ldc2 (v := 11) rfl z_12_267 ?_
            refine x_inst (N := m_X12_in) (As := [.long v65, .long 1, .long 11]) (st := []) (dx9 := 1) (mc := 0) (ms := 0) (host := "") rfl t_X12_in ⟨Or.inl q_12_188, s_X12_in⟩ rfl (by decide) rfl rfl ⟨by decide, by decide⟩ (zc_X12_in rfl jkl_1 jkl_11 (fun v66 ev66 => ?_))
            show jX m_X12_isNumber 5 0 0 63 [(0, .int a1), (1, .int a5)] [.int v66] _ 0 0 _
            refine x_zret rfl rfl (jz01 (by omega)) ?_
            show jX m_X12_line 6 0 0 50 [(0, .ref 125), (1, .int a1), (2, .int a2), (3, .int a3), (4, .int a4), (5, .int a5)] [.int v66] _ 0 0 _
            refine x_ifeq (tgt := 57) rfl rfl (ti_eq rfl jk_0 ⟨fun c67 => ?_, fun c67 => ?_⟩)
            ·
              obtain ⟨u68, qu68⟩ : ∃ v : Int32, jiv h 125 10 = v := ⟨_, rfl⟩
              have eu68 := (show 0 ≤ u68.toInt ∧ u68.toInt ≤ 400 from qu68 ▸ jrg_f J sg_125_10_11_1_0_1)
              obtain ⟨u69, qu69⟩ : ∃ v : Int32, jiv h 125 11 = v := ⟨_, rfl⟩
              have eu69 := (show 0 ≤ u69.toInt ∧ u69.toInt ≤ 3 from qu69 ▸ jrg_f J sg_125_11_12_1_0_1)
              obtain ⟨u70, qu70⟩ : ∃ v : Int32, jiv h 125 8 = v := ⟨_, rfl⟩
              have eu70 := (show 0 ≤ u70.toInt ∧ u70.toInt ≤ 400 from qu70 ▸ jrg_f J sg_125_8_9_1_0_1)
              obtain ⟨u71, qu71⟩ : ∃ v : Int32, jiv h 125 9 = v := ⟨_, rfl⟩
              have eu71 := (show 0 ≤ u71.toInt ∧ u71.toInt ≤ 400 from qu71 ▸ jrg_f J sg_125_9_10_1_0_1)
              exact jX.sub (jsb_c rfl (jsb_c rfl (jsb_c rfl (jsb_c rfl (jsb_c rfl (jsb_c rfl jsb_n)))))) (ct_X12_line_r125_57 hD hQ  a1 a2 a3 a4 a5 p1 p0 p2 p3 p4 u68 u69 u70 u71 h (jr_of rfl (by omega)) (jr_of rfl (by omega)) (jr_of rfl (by omega)) (jr_of rfl (by omega)) (jr_of rfl (by omega)) (jr_of rfl (by omega)) (jr_of rfl (by omega)) (jr_of rfl (by omega)) (jr_of rfl (by omega)) (by omega) (jmo w1 rfl zp1) (jmo w1 rfl zp0) (jmo w1 rfl zp2) (jmo w1 rfl zp3) (jmo w1 rfl zp4) qu68 qu69 qu70 qu71 J Sm)
            ·
              refine x_iconst (v := 1) rfl ki_1 ?_
              refine x_goto (tgt := 58) rfl rfl ?_
              obtain ⟨u72, qu72⟩ : ∃ v : Int32, jiv h 125 10 = v := ⟨_, rfl⟩
              have eu72 := (show 0 ≤ u72.toInt ∧ u72.toInt ≤ 400 from qu72 ▸ jrg_f J sg_125_10_11_1_0_1)
              obtain ⟨u73, qu73⟩ : ∃ v : Int32, jiv h 125 11 = v := ⟨_, rfl⟩
              have eu73 := (show 0 ≤ u73.toInt ∧ u73.toInt ≤ 3 from qu73 ▸ jrg_f J sg_125_11_12_1_0_1)
              obtain ⟨u74, qu74⟩ : ∃ v : Int32, jiv h 125 8 = v := ⟨_, rfl⟩
              have eu74 := (show 0 ≤ u74.toInt ∧ u74.toInt ≤ 400 from qu74 ▸ jrg_f J sg_125_8_9_1_0_1)
              obtain ⟨u75, qu75⟩ : ∃ v : Int32, jiv h 125 9 = v := ⟨_, rfl⟩
              have eu75 := (show 0 ≤ u75.toInt ∧ u75.toInt ≤ 400 from qu75 ▸ jrg_f J sg_125_9_10_1_0_1)
              exact jX.sub (jsb_c rfl (jsb_c rfl (jsb_c rfl (jsb_c rfl (jsb_c rfl (jsb_c rfl jsb_n)))))) (ct_X12_line_r125_300058 hD hQ  a1 a2 a3 a4 a5 p1 p0 p2 p3 p4 u72 u73 u74 u75 h (jr_of rfl (by omega)) (jr_of rfl (by omega)) (jr_of rfl (by omega)) (jr_of rfl (by omega)) (jr_of rfl (by omega)) (jr_of rfl (by omega)) (jr_of rfl (by omega)) (jr_of rfl (by omega)) (jr_of rfl (by omega)) (jr_of rfl (by omega)) (jr_of rfl (by omega)) (jr_of rfl (by omega)) (jr_of rfl (by omega)) (jr_of rfl (by omega)) (by omega) (jmo w1 rfl zp1) (jmo w1 rfl zp0) (jmo w1 rfl zp2) (jmo w1 rfl zp3) (jmo w1 rfl zp4) qu72 qu73 qu74 qu75 J Sm)
          refine x_tableOut (tgt := 64) rfl (by omega) rfl ?_
          refine x_iloadn (x := a5) rfl rfl ?_
          refine x_iconst (v := (-1)) rfl ki_m1 ?_
          refine x_icne (tgt := 73) rfl rfl (ti_ne rfl jk_m1 ⟨fun c76 => ?_, fun c76 => ?_⟩)
          ·
            refine x_iconst (v := 0) rfl ki_0 ?_
            refine x_zret rfl rfl (by decide) ?_
            show jX m_X12_line 6 0 0 50 [(0, .ref 125), (1, .int a1), (2, .int a2), (3, .int a3), (4, .int a4), (5, .int a5)] [.int 0] _ 0 0 _
            refine x_ifeq (tgt := 57) rfl rfl (ti_eq jk_0 jk_0 (br_t (by omega) ?_))
            obtain ⟨u77, qu77⟩ : ∃ v : Int32, jiv h 125 10 = v := ⟨_, rfl⟩
            have eu77 := (show 0 ≤ u77.toInt ∧ u77.toInt ≤ 400 from qu77 ▸ jrg_f J sg_125_10_11_1_0_1)
            obtain ⟨u78, qu78⟩ : ∃ v : Int32, jiv h 125 11 = v := ⟨_, rfl⟩
            have eu78 := (show 0 ≤ u78.toInt ∧ u78.toInt ≤ 3 from qu78 ▸ jrg_f J sg_125_11_12_1_0_1)
            obtain ⟨u79, qu79⟩ : ∃ v : Int32, jiv h 125 8 = v := ⟨_, rfl⟩
            have eu79 := (show 0 ≤ u79.toInt ∧ u79.toInt ≤ 400 from qu79 ▸ jrg_f J sg_125_8_9_1_0_1)
            obtain ⟨u80, qu80⟩ : ∃ v : Int32, jiv h 125 9 = v := ⟨_, rfl⟩
            have eu80 := (show 0 ≤ u80.toInt ∧ u80.toInt ≤ 400 from qu80 ▸ jrg_f J sg_125_9_10_1_0_1)
            exact jX.sub (jsb_c rfl (jsb_c rfl (jsb_c rfl (jsb_c rfl (jsb_c rfl (jsb_c rfl jsb_n)))))) (ct_X12_line_r125_57 hD hQ  a1 a2 a3 a4 a5 p1 p0 p2 p3 p4 u77 u78 u79 u80 h (jr_of rfl (by omega)) (jr_of rfl (by omega)) (jr_of rfl (by omega)) (jr_of rfl (by omega)) (jr_of rfl (by omega)) (jr_of rfl (by omega)) (jr_of rfl (by omega)) (jr_of rfl (by omega)) (jr_of rfl (by omega)) (by omega) (jmo w1 rfl zp1) (jmo w1 rfl zp0) (jmo w1 rfl zp2) (jmo w1 rfl zp3) (jmo w1 rfl zp4) qu77 qu78 qu79 qu80 J Sm)
          ·
            refine x_iconst (v := 1) rfl ki_1 ?_
            refine x_goto (tgt := 74) rfl rfl ?_
            refine x_zret rfl rfl (by decide) ?_
            show jX m_X12_line 6 0 0 50 [(0, .ref 125), (1, .int a1), (2, .int a2), (3, .int a3), (4, .int a4), (5, .int a5)] [.int 1] _ 0 0 _
            refine x_ifeq (tgt := 57) rfl rfl (ti_eq jk_1 jk_0 (br_f (by omega) ?_))
            refine x_iconst (v := 1) rfl ki_1 ?_
            refine x_goto (tgt := 58) rfl rfl ?_
            obtain ⟨u81, qu81⟩ : ∃ v : Int32, jiv h 125 10 = v := ⟨_, rfl⟩
            have eu81 := (show 0 ≤ u81.toInt ∧ u81.toInt ≤ 400 from qu81 ▸ jrg_f J sg_125_10_11_1_0_1)
            obtain ⟨u82, qu82⟩ : ∃ v : Int32, jiv h 125 11 = v := ⟨_, rfl⟩
            have eu82 := (show 0 ≤ u82.toInt ∧ u82.toInt ≤ 3 from qu82 ▸ jrg_f J sg_125_11_12_1_0_1)
            obtain ⟨u83, qu83⟩ : ∃ v : Int32, jiv h 125 8 = v := ⟨_, rfl⟩
            have eu83 := (show 0 ≤ u83.toInt ∧ u83.toInt ≤ 400 from qu83 ▸ jrg_f J sg_125_8_9_1_0_1)
            obtain ⟨u84, qu84⟩ : ∃ v : Int32, jiv h 125 9 = v := ⟨_, rfl⟩
            have eu84 := (show 0 ≤ u84.toInt ∧ u84.toInt ≤ 400 from qu84 ▸ jrg_f J sg_125_9_10_1_0_1)
            exact jX.sub (jsb_c rfl (jsb_c rfl (jsb_c rfl (jsb_c rfl (jsb_c rfl (jsb_c rfl jsb_n)))))) (ct_X12_line_r125_300058 hD hQ  a1 a2 a3 a4 a5 p1 p0 p2 p3 p4 u81 u82 u83 u84 h (jr_of rfl (by omega)) (jr_of rfl (by omega)) (jr_of rfl (by omega)) (jr_of rfl (by omega)) (jr_of rfl (by omega)) (jr_of rfl (by omega)) (jr_of rfl (by omega)) (jr_of rfl (by omega)) (jr_of rfl (by omega)) (jr_of rfl (by omega)) (jr_of rfl (by omega)) (jr_of rfl (by omega)) (jr_of rfl (by omega)) (jr_of rfl (by omega)) (by omega) (jmo w1 rfl zp1) (jmo w1 rfl zp0) (jmo w1 rfl zp2) (jmo w1 rfl zp3) (jmo w1 rfl zp4) qu81 qu82 qu83 qu84 J Sm)
def fp_X12_mentions_r125 : jFp := [(125, 0, 1), (125, 28, 29), (125, 31, 32), (125, 57, 58), (137, 0, 80), (138, 0, 2), (139, 0, 600), (140, 0, 200)]
set_option maxRecDepth 100000 in
set_option maxHeartbeats 4000000 in
theorem ct_X12_mentions_r125_29 {Dy : jH → Prop} {h0 : jH} {Q : Option Value → jH → Prop} (hD : jDk Dy) (hQ : ∀ (v : Int32) hx9, jJ jSgM Dy hx9 → jSm fp_X12_mentions_r125 h0 hx9 → Q (some (.int v)) hx9) : ∀ (h : jH), jJ jSgM Dy h → jSm fp_X12_mentions_r125 h0 h → jX m_X12_mentions 10 0 0 29 [] [] h 0 0 Q := by
  intro  h    J Sm
  refine x_iconst (v := (-1)) rfl ki_m1 ?_
  refine x_iret rfl rfl ?_
  exact hQ _ _ J Sm
set_option maxRecDepth 100000 in
set_option maxHeartbeats 4000000 in
theorem ct_X12_mentions_r125_100096 {Dy : jH → Prop} {h0 : jH} {Q : Option Value → jH → Prop} (hD : jDk Dy) (hQ : ∀ (v : Int32) hx9, jJ jSgM Dy hx9 → jSm fp_X12_mentions_r125 h0 hx9 → Q (some (.int v)) hx9) : ∀ (h : jH), jJ jSgM Dy h → jSm fp_X12_mentions_r125 h0 h → jX m_X12_mentions 10 0 0 96 [] [.int (-1)] h 0 0 Q := by
  intro  h    J Sm
  refine x_iret rfl rfl ?_
  exact hQ _ _ J Sm
set_option maxRecDepth 100000 in
set_option maxHeartbeats 4000000 in
theorem ct_X12_mentions_r125_96 {Dy : jH → Prop} {h0 : jH} {Q : Option Value → jH → Prop} (hD : jDk Dy) (hQ : ∀ (v : Int32) hx9, jJ jSgM Dy hx9 → jSm fp_X12_mentions_r125 h0 hx9 → Q (some (.int v)) hx9) : ∀ (s0 : Int32) (h : jH), jJ jSgM Dy h → jSm fp_X12_mentions_r125 h0 h → jX m_X12_mentions 10 0 0 96 [] [.int s0] h 0 0 Q := by
  intro s0 h    J Sm
  have es0 := jfull s0
  refine x_iret rfl rfl ?_
  exact hQ _ _ J Sm
set_option maxRecDepth 100000 in
set_option maxHeartbeats 4000000 in
theorem ct_X12_mentions_r125_80 {Dy : jH → Prop} {h0 : jH} {Q : Option Value → jH → Prop} {R37 : Int} (hD : jDk Dy) (hQ : ∀ (v : Int32) hx9, jJ jSgM Dy hx9 → jSm fp_X12_mentions_r125 h0 hx9 → Q (some (.int v)) hx9) (k37 : ∀ (l3 : Int32) (l4 : Int32) (l5 : Int32) (l6 : Int32) (l7 : Int32) (g0 : Int32) (h : jH), 600 - l7.toInt < R37 → 0 ≤ l3.toInt ∧ l3.toInt ≤ 1 → 0 ≤ l5.toInt ∧ l5.toInt ≤ 599 → 0 ≤ l7.toInt ∧ l7.toInt ≤ 600 → 0 ≤ g0.toInt ∧ g0.toInt ≤ 200 → jiv h 126 (0 : Int32).toNatClampNeg = g0 → jJ jSgM Dy h → jSm fp_X12_mentions_r125 h0 h → jX m_X12_mentions 10 0 0 37 [(0, .ref 125), (3, .int l3), (4, .int l4), (5, .int l5), (6, .int l6), (7, .int l7)] [] h 0 0 Q) : ∀ (l3 : Int32) (l4 : Int32) (l5 : Int32) (l6 : Int32) (l7 : Int32) (g0 : Int32) (h : jH), 0 ≤ l3.toInt ∧ l3.toInt ≤ 1 → 0 ≤ l5.toInt ∧ l5.toInt ≤ 599 → 0 ≤ l7.toInt ∧ l7.toInt ≤ 599 → 0 ≤ g0.toInt ∧ g0.toInt ≤ 200 → jiv h 126 (0 : Int32).toNatClampNeg = g0 → 600 - l7.toInt ≤ R37 → jJ jSgM Dy h → jSm fp_X12_mentions_r125 h0 h → jX m_X12_mentions 10 0 0 80 [(0, .ref 125), (3, .int l3), (4, .int l4), (5, .int l5), (6, .int l6), (7, .int l7)] [] h 0 0 Q := by
  intro l3 l4 l5 l6 l7 g0 h y0 y1 y2 y3 z0 m37 J Sm
  have el4 := jfull l4
  have el6 := jfull l6
  refine z_iinc (x := l7) (lsx9 := fun v1 => [(7, .int v1), (0, .ref 125), (3, .int l3), (4, .int l4), (5, .int l5), (6, .int l6)]) rfl rfl rfl jko_1 (by omega) rfl (fun _ => rfl) (fun v1 ev1 => ?_)
  refine x_goto (tgt := 37) rfl rfl ?_
  exact jX.sub (jsb_c rfl (jsb_c rfl (jsb_c rfl (jsb_c rfl (jsb_c rfl (jsb_c rfl jsb_n)))))) (k37 l3 l4 l5 l6 v1 g0 h (by omega) (jr_of rfl (by omega)) (jr_of rfl (by omega)) (jr_of rfl (by omega)) (jr_of rfl (by omega)) z0 J Sm)
set_option maxRecDepth 100000 in
set_option maxHeartbeats 4000000 in
theorem ct_X12_mentions_r125_77 {Dy : jH → Prop} {h0 : jH} {Q : Option Value → jH → Prop} {R37 : Int} (hD : jDk Dy) (hQ : ∀ (v : Int32) hx9, jJ jSgM Dy hx9 → jSm fp_X12_mentions_r125 h0 hx9 → Q (some (.int v)) hx9) (k37 : ∀ (l3 : Int32) (l4 : Int32) (l5 : Int32) (l6 : Int32) (l7 : Int32) (g0 : Int32) (h : jH), 600 - l7.toInt < R37 → 0 ≤ l3.toInt ∧ l3.toInt ≤ 1 → 0 ≤ l5.toInt ∧ l5.toInt ≤ 599 → 0 ≤ l7.toInt ∧ l7.toInt ≤ 600 → 0 ≤ g0.toInt ∧ g0.toInt ≤ 200 → jiv h 126 (0 : Int32).toNatClampNeg = g0 → jJ jSgM Dy h → jSm fp_X12_mentions_r125 h0 h → jX m_X12_mentions 10 0 0 37 [(0, .ref 125), (3, .int l3), (4, .int l4), (5, .int l5), (6, .int l6), (7, .int l7)] [] h 0 0 Q) : ∀ (l3 : Int32) (l4 : Int32) (l5 : Int32) (l6 : Int32) (l7 : Int32) (g0 : Int32) (h : jH), 0 ≤ l3.toInt ∧ l3.toInt ≤ 1 → 0 ≤ l5.toInt ∧ l5.toInt ≤ 599 → 0 ≤ l7.toInt ∧ l7.toInt ≤ 599 → 0 ≤ g0.toInt ∧ g0.toInt ≤ 200 → jiv h 126 (0 : Int32).toNatClampNeg = g0 → 600 - l7.toInt ≤ R37 → jJ jSgM Dy h → jSm fp_X12_mentions_r125 h0 h → jX m_X12_mentions 10 0 0 77 [(0, .ref 125), (3, .int l3), (4, .int l4), (5, .int l5), (6, .int l6), (7, .int l7)] [] h 0 0 Q := by
  intro l3 l4 l5 l6 l7 g0 h y0 y1 y2 y3 z0 m37 J Sm
  have el4 := jfull l4
  have el6 := jfull l6
  refine z_iinc0 (x := l6) (lsx9 := fun v1 => [(6, .int v1), (0, .ref 125), (3, .int l3), (4, .int l4), (5, .int l5), (7, .int l7)]) rfl rfl rfl (fun _ => rfl) (fun v1 => ?_)
  have ev1 := jfull v1
  exact jX.sub (jsb_c rfl (jsb_c rfl (jsb_c rfl (jsb_c rfl (jsb_c rfl (jsb_c rfl jsb_n)))))) (ct_X12_mentions_r125_80 hD hQ k37 l3 l4 l5 v1 l7 g0 h (jr_of rfl (by omega)) (jr_of rfl (by omega)) (jr_of rfl (by omega)) (jr_of rfl (by omega)) z0 (by omega) J Sm)
set_option maxRecDepth 100000 in
set_option maxHeartbeats 4000000 in
theorem ct_X12_mentions_r125_37 {Dy : jH → Prop} {h0 : jH} {Q : Option Value → jH → Prop} (hD : jDk Dy) (hQ : ∀ (v : Int32) hx9, jJ jSgM Dy hx9 → jSm fp_X12_mentions_r125 h0 hx9 → Q (some (.int v)) hx9) : ∀ r : Nat, ∀ (l3 : Int32) (l4 : Int32) (l5 : Int32) (l6 : Int32) (l7 : Int32) (g0 : Int32) (h : jH), 600 - l7.toInt < (r : Int) → 0 ≤ l3.toInt ∧ l3.toInt ≤ 1 → 0 ≤ l5.toInt ∧ l5.toInt ≤ 599 → 0 ≤ l7.toInt ∧ l7.toInt ≤ 600 → 0 ≤ g0.toInt ∧ g0.toInt ≤ 200 → jiv h 126 (0 : Int32).toNatClampNeg = g0 → jJ jSgM Dy h → jSm fp_X12_mentions_r125 h0 h → jX m_X12_mentions 10 0 0 37 [(0, .ref 125), (3, .int l3), (4, .int l4), (5, .int l5), (6, .int l6), (7, .int l7)] [] h 0 0 Q := by
  intro r
  induction r with
  | zero =>
    intro l3 l4 l5 l6 l7 g0 h hm y0 y1 y2 y3 z0  J Sm
    exfalso
    have el4 := jfull l4
    have el6 := jfull l6
    omega
  | succ r ih =>
    intro l3 l4 l5 l6 l7 g0 h hm y0 y1 y2 y3 z0  J Sm
    have el4 := jfull l4
    have el6 := jfull l6
    refine x_iload (x := l7) rfl rfl ?_
    refine x_iconst (v := 3) rfl ki_3 ?_
    refine x_aloadn (x := 125) rfl rfl ?_
    refine z_getR (N := 92) (b := 126) 12 2 rfl f_12_8 rfl J rfl 16002 ⟨rfl, rfl⟩ rfl ?_
    refine x_iconst (v := 0) rfl ki_0 ?_
    refine z_ialdM (N := 50660) (v := g0) rfl J rfl jk_0 (by omega) z0 ?_
    refine z_imul rfl jk_3 rfl (by omega) (fun v1 ev1 => ?_)
    refine x_icge (tgt := 86) rfl rfl (ti_ge rfl rfl ⟨fun c2 => ?_, fun c2 => ?_⟩)
    ·
      refine x_iloadn (x := l3) rfl rfl ?_
      refine x_ifne (tgt := 95) rfl rfl (ti_ne rfl jk_0 ⟨fun c3 => ?_, fun c3 => ?_⟩)
      ·
        refine x_iconst (v := (-1)) rfl ki_m1 ?_
        exact jX.sub jsb_n (ct_X12_mentions_r125_100096 hD hQ  h J Sm)
      ·
        refine x_iload (x := l6) rfl rfl ?_
        refine x_goto (tgt := 96) rfl rfl ?_
        exact jX.sub jsb_n (ct_X12_mentions_r125_96 hD hQ  l6 h J Sm)
    ·
      refine x_aloadn (x := 125) rfl rfl ?_
      refine z_getR (N := 92) (b := 139) 12 29 rfl f_12_72 rfl J rfl 16029 ⟨rfl, rfl⟩ rfl ?_
      refine x_iload (x := l7) rfl rfl ?_
      refine z_iald (N := 600) rfl J rfl sg_139_0_600_1_0_1 rfl (by omega) (fun v4 qv4 ev4 => ?_)
      refine x_iload (x := l5) rfl rfl ?_
      refine x_icne (tgt := 80) rfl rfl (ti_ne rfl rfl ⟨fun c5 => ?_, fun c5 => ?_⟩)
      ·
        exact jX.sub (jsb_c rfl (jsb_c rfl (jsb_c rfl (jsb_c rfl (jsb_c rfl (jsb_c rfl jsb_n)))))) (ct_X12_mentions_r125_80 hD hQ ih l3 l4 l5 l6 l7 g0 h (jr_of rfl (by omega)) (jr_of rfl (by omega)) (jr_of rfl (by omega)) (jr_of rfl (by omega)) z0 (by omega) J Sm)
      ·
        refine x_iloadn (x := l3) rfl rfl ?_
        refine x_iconst (v := 1) rfl ki_1 ?_
        refine x_icne (tgt := 77) rfl rfl (ti_ne rfl jk_1 ⟨fun c6 => ?_, fun c6 => ?_⟩)
        ·
          exact jX.sub (jsb_c rfl (jsb_c rfl (jsb_c rfl (jsb_c rfl (jsb_c rfl (jsb_c rfl jsb_n)))))) (ct_X12_mentions_r125_77 hD hQ ih l3 l4 l5 l6 l7 g0 h (jr_of rfl (by omega)) (jr_of rfl (by omega)) (jr_of rfl (by omega)) (jr_of rfl (by omega)) z0 (by omega) J Sm)
        ·
          refine x_iload (x := l6) rfl rfl ?_
          refine x_iload (x := l4) rfl rfl ?_
          refine x_icne (tgt := 77) rfl rfl (ti_ne rfl rfl ⟨fun c7 => ?_, fun c7 => ?_⟩)
          ·
            exact jX.sub (jsb_c rfl (jsb_c rfl (jsb_c rfl (jsb_c rfl (jsb_c rfl (jsb_c rfl jsb_n)))))) (ct_X12_mentions_r125_77 hD hQ ih l3 l4 l5 l6 l7 g0 h (jr_of rfl (by omega)) (jr_of rfl (by omega)) (jr_of rfl (by omega)) (jr_of rfl (by omega)) z0 (by omega) J Sm)
          ·
            refine x_iload (x := l7) rfl rfl ?_
            refine x_iret rfl rfl ?_
            exact hQ _ _ J Sm
set_option maxRecDepth 100000 in
set_option maxHeartbeats 4000000 in
theorem sf_X12_mentions_r125 {Dy : jH → Prop} {h : jH} {Q : Option Value → jH → Prop} {a1 : Int32} {a2 : Int32} {a3 : Int32} {a4 : Int32} (hD : jDk Dy) (J : jJ jSgM Dy h) (hQ : ∀ (v : Int32) hx9, jJ jSgM Dy hx9 → jSm fp_X12_mentions_r125 h hx9 → Q (some (.int v)) hx9) : jC m_X12_mentions 10 0 0 [.ref 125, .int a1, .int a2, .int a3, .int a4] h Q := by
  refine jC.of rfl k_X12_mentions rfl ?_
  have Sm := jSm_rf fp_X12_mentions_r125 h
  have ea1 := jfull a1
  have ea2 := jfull a2
  have ea3 := jfull a3
  have ea4 := jfull a4
  show jX m_X12_mentions 10 0 0 0 [(0, .ref 125), (1, .int a1), (2, .int a2), (3, .int a3), (4, .int a4)] [] _ 0 0 _
  refine x_aloadn (x := 125) rfl rfl ?_
  refine x_iconst (v := 0) rfl ki_0 ?_
  refine z_putI (N := 92) (w := 0) 12 0 rfl f_12_180 rfl (jfin_no TX12 RX12 92 rfl rfl) hD J Sm rfl rfl jk_0 (pw_125_0 (by omega)) rfl (fun h w1 J Sm => ?_)
  refine x_aloadn (x := 125) rfl rfl ?_
  refine x_iloadn (x := a1) rfl rfl ?_
  refine x_iloadn (x := a2) rfl rfl ?_
  refine x_inv (N := m_X12_soulAt) (As := [.int a1, .int a2]) (b := 125) (st := []) (dx9 := 9) (mc := 0) (ms := 0) (host := "") 12 rfl t_X12_soulAt ⟨Or.inl q_12_399, i_X12_soulAt.1, i_X12_soulAt.2⟩ ⟨by decide, rfl⟩ (congrArg Prod.fst (J.1.1 125 (12, 92) rfl)) rfl (by decide) rfl rfl ⟨by decide, by decide⟩ (jC.of rfl k_X12_soulAt rfl ?_)
  show jX m_X12_soulAt 9 0 0 0 [(0, .ref 125), (1, .int a1), (2, .int a2)] [] _ 0 0 _
  refine x_aloadn (x := 125) rfl rfl ?_
  refine x_iloadn (x := a1) rfl rfl ?_
  refine x_inv (N := m_X12_isMention) (As := [.int a1]) (b := 125) (st := []) (dx9 := 8) (mc := 0) (ms := 0) (host := "") 12 rfl t_X12_isMention ⟨Or.inl q_12_322, i_X12_isMention.1, i_X12_isMention.2⟩ ⟨by decide, rfl⟩ (congrArg Prod.fst (J.1.1 125 (12, 92) rfl)) rfl (by decide) rfl rfl ⟨by decide, by decide⟩ (jC.of rfl k_X12_isMention rfl ?_)
  show jX m_X12_isMention 8 0 0 0 [(0, .ref 125), (1, .int a1)] [] _ 0 0 _
  refine x_iloadn (x := a1) rfl rfl ?_
  refine x_iflt (tgt := 34) rfl rfl (ti_lt rfl jk_0 ⟨fun c2 => ?_, fun c2 => ?_⟩)
  ·
    refine x_iconst (v := 0) rfl ki_0 ?_
    refine x_zret rfl rfl (by decide) ?_
    show jX m_X12_soulAt 9 0 0 5 [(0, .ref 125), (1, .int a1), (2, .int a2)] [.int 0] _ 0 0 _
    refine x_ifeq (tgt := 15) rfl rfl (ti_eq jk_0 jk_0 (br_t (by omega) ?_))
    refine x_iconst (v := (-1)) rfl ki_m1 ?_
    refine x_iret rfl rfl ?_
    show jX m_X12_mentions 10 0 0 11 [(0, .ref 125), (1, .int a1), (2, .int a2), (3, .int a3), (4, .int a4)] [.int (-1)] _ 0 0 _
    refine x_istore (lsx9 := [(5, .int (-1)), (0, .ref 125), (1, .int a1), (2, .int a2), (3, .int a3), (4, .int a4)]) rfl rfl rfl ?_
    refine x_iload (x := (-1)) rfl rfl ?_
    refine x_iconst (v := (-1)) rfl ki_m1 ?_
    refine x_iceq (tgt := 29) rfl rfl (ti_eq jk_m1 jk_m1 (br_t (by omega) ?_))
    exact jX.sub jsb_n (ct_X12_mentions_r125_29 hD hQ  h J Sm)
  ·
    refine x_aloadn (x := 125) rfl rfl ?_
    refine x_iloadn (x := a1) rfl rfl ?_
    refine x_iconst (v := 3) rfl ki_3 ?_
    refine z_idiv rfl rfl jk_3 (by omega) (by omega) (fun v3 ev3 => ?_)
    refine x_inv (N := m_X12_isLine) (As := [.int v3]) (b := 125) (st := []) (dx9 := 7) (mc := 0) (ms := 0) (host := "") 12 rfl t_X12_isLine ⟨Or.inl q_12_293, i_X12_isLine.1, i_X12_isLine.2⟩ ⟨by decide, rfl⟩ (congrArg Prod.fst (J.1.1 125 (12, 92) rfl)) rfl (by decide) rfl rfl ⟨by decide, by decide⟩ (jC.of rfl k_X12_isLine rfl ?_)
    show jX m_X12_isLine 7 0 0 0 [(0, .ref 125), (1, .int v3)] [] _ 0 0 _
    refine x_iloadn (x := v3) rfl rfl ?_
    refine z_i2l rfl rfl (fun v4 ev4 => ?_)
    refine x_lconst (v := 0) rfl kl_0 ?_
    refine x_aloadn (x := 125) rfl rfl ?_
    refine z_getR (N := 92) (b := 126) 12 2 rfl f_12_8 rfl J rfl 16002 ⟨rfl, rfl⟩ rfl ?_
    refine x_iconst (v := 0) rfl ki_0 ?_
    refine z_iald (N := 50660) rfl J rfl sg_126_0_1_1_0_1 jk_0 (by omega) (fun v5 qv5 ev5 => ?_)
    refine z_i2l rfl rfl (fun v6 ev6 => ?_)
    refine x_lconst (v := 1) rfl kl_1 ?_
    refine z_lsub rfl rfl jkl_1 (by omega) (fun v7 ev7 => ?_)
    refine x_inst (N := m_X12_in) (As := [.long v4, .long 0, .long v7]) (st := []) (dx9 := 1) (mc := 0) (ms := 0) (host := "") rfl t_X12_in ⟨Or.inl q_12_188, s_X12_in⟩ rfl (by decide) rfl rfl ⟨by decide, by decide⟩ (zc_X12_in rfl jkl_0 rfl (fun v8 ev8 => ?_))
    show jX m_X12_isLine 7 0 0 15 [(0, .ref 125), (1, .int v3)] [.int v8] _ 0 0 _
    refine x_zret rfl rfl (jz01 (by omega)) ?_
    show jX m_X12_isMention 8 0 0 11 [(0, .ref 125), (1, .int a1)] [.int v8] _ 0 0 _
    refine x_ifeq (tgt := 34) rfl rfl (ti_eq rfl jk_0 ⟨fun c9 => ?_, fun c9 => ?_⟩)
    ·
      refine x_iconst (v := 0) rfl ki_0 ?_
      refine x_zret rfl rfl (by decide) ?_
      show jX m_X12_soulAt 9 0 0 5 [(0, .ref 125), (1, .int a1), (2, .int a2)] [.int 0] _ 0 0 _
      refine x_ifeq (tgt := 15) rfl rfl (ti_eq jk_0 jk_0 (br_t (by omega) ?_))
      refine x_iconst (v := (-1)) rfl ki_m1 ?_
      refine x_iret rfl rfl ?_
      show jX m_X12_mentions 10 0 0 11 [(0, .ref 125), (1, .int a1), (2, .int a2), (3, .int a3), (4, .int a4)] [.int (-1)] _ 0 0 _
      refine x_istore (lsx9 := [(5, .int (-1)), (0, .ref 125), (1, .int a1), (2, .int a2), (3, .int a3), (4, .int a4)]) rfl rfl rfl ?_
      refine x_iload (x := (-1)) rfl rfl ?_
      refine x_iconst (v := (-1)) rfl ki_m1 ?_
      refine x_iceq (tgt := 29) rfl rfl (ti_eq jk_m1 jk_m1 (br_t (by omega) ?_))
      exact jX.sub jsb_n (ct_X12_mentions_r125_29 hD hQ  h J Sm)
    ·
      refine x_iloadn (x := a1) rfl rfl ?_
      refine x_iconst (v := 3) rfl ki_3 ?_
      refine z_irem rfl rfl jk_3 (by omega) (by omega) (fun v10 ev10 => ?_)
      refine x_aloadn (x := 125) rfl rfl ?_
      refine x_iloadn (x := a1) rfl rfl ?_
      refine x_iconst (v := 3) rfl ki_3 ?_
      refine z_idiv rfl rfl jk_3 (by omega) (by omega) (fun v11 ev11 => ?_)
      refine x_inv (N := m_X12_bookOf) (As := [.int v11]) (b := 125) (st := [.int v10]) (dx9 := 7) (mc := 0) (ms := 0) (host := "") 12 rfl t_X12_bookOf ⟨Or.inl q_12_299, i_X12_bookOf.1, i_X12_bookOf.2⟩ ⟨by decide, rfl⟩ (congrArg Prod.fst (J.1.1 125 (12, 92) rfl)) rfl (by decide) rfl rfl ⟨by decide, by decide⟩ (jC.of rfl k_X12_bookOf rfl ?_)
      show jX m_X12_bookOf 7 0 0 0 [(0, .ref 125), (1, .int v11)] [] _ 0 0 _
      refine x_aloadn (x := 125) rfl rfl ?_
      refine z_getR (N := 92) (b := 126) 12 2 rfl f_12_8 rfl J rfl 16002 ⟨rfl, rfl⟩ rfl ?_
      refine x_aloadn (x := 125) rfl rfl ?_
      refine x_iloadn (x := v11) rfl rfl ?_
      refine x_inv (N := m_X12_at) (As := [.int v11]) (b := 125) (st := [.ref 126]) (dx9 := 6) (mc := 0) (ms := 0) (host := "") 12 rfl t_X12_at ⟨Or.inl q_12_254, i_X12_at.1, i_X12_at.2⟩ ⟨by decide, rfl⟩ (congrArg Prod.fst (J.1.1 125 (12, 92) rfl)) rfl (by decide) rfl rfl ⟨by decide, by decide⟩ (jC.of rfl k_X12_at rfl ?_)
      show jX m_X12_at 6 0 0 0 [(0, .ref 125), (1, .int v11)] [] _ 0 0 _
      refine x_bipush (v := 20) rfl kb_20 ?_
      refine x_bipush (v := 90) rfl kb_90 ?_
      refine x_iloadn (x := v11) rfl rfl ?_
      refine z_imul rfl jk_90 rfl (by omega) (fun v12 ev12 => ?_)
      refine z_iadd rfl jk_20 rfl (by omega) (fun v13 ev13 => ?_)
      refine x_iret rfl rfl ?_
      show jX m_X12_bookOf 7 0 0 9 [(0, .ref 125), (1, .int v11)] [.int v13, .ref 126] _ 0 0 _
      refine z_iald (N := 50660) rfl J rfl sg_126_20_18020_90_0_1 rfl (by omega) (fun v14 qv14 ev14 => ?_)
      refine x_iret rfl rfl ?_
      show jX m_X12_isMention 8 0 0 24 [(0, .ref 125), (1, .int a1)] [.int v14, .int v10] _ 0 0 _
      refine x_inst (N := m_X12_rolesOf) (As := [.int v14]) (st := [.int v10]) (dx9 := 7) (mc := 0) (ms := 0) (host := "") rfl t_X12_rolesOf ⟨Or.inl q_12_286, s_X12_rolesOf⟩ rfl (by decide) rfl rfl ⟨by decide, by decide⟩ (jC.of rfl k_X12_rolesOf rfl ?_)
      show jX m_X12_rolesOf 7 0 0 0 [(0, .int v14)] [] _ 0 0 _
      refine x_iloadn (x := v14) rfl rfl ?_
      refine x_ifne (tgt := 8) rfl rfl (ti_ne rfl jk_0 ⟨fun c15 => ?_, fun c15 => ?_⟩)
      ·
        refine x_iloadn (x := v14) rfl rfl ?_
        refine x_iconst (v := 1) rfl ki_1 ?_
        refine x_icne (tgt := 17) rfl rfl (ti_ne rfl jk_1 ⟨fun c16 => ?_, fun c16 => ?_⟩)
        ·
          refine x_iconst (v := 1) rfl ki_1 ?_
          refine x_iret rfl rfl ?_
          show jX m_X12_isMention 8 0 0 27 [(0, .ref 125), (1, .int a1)] [.int 1, .int v10] _ 0 0 _
          refine x_icge (tgt := 34) rfl rfl (ti_ge rfl jk_1 ⟨fun c17 => ?_, fun c17 => ?_⟩)
          ·
            refine x_iconst (v := 0) rfl ki_0 ?_
            refine x_zret rfl rfl (by decide) ?_
            show jX m_X12_soulAt 9 0 0 5 [(0, .ref 125), (1, .int a1), (2, .int a2)] [.int 0] _ 0 0 _
            refine x_ifeq (tgt := 15) rfl rfl (ti_eq jk_0 jk_0 (br_t (by omega) ?_))
            refine x_iconst (v := (-1)) rfl ki_m1 ?_
            refine x_iret rfl rfl ?_
            show jX m_X12_mentions 10 0 0 11 [(0, .ref 125), (1, .int a1), (2, .int a2), (3, .int a3), (4, .int a4)] [.int (-1)] _ 0 0 _
            refine x_istore (lsx9 := [(5, .int (-1)), (0, .ref 125), (1, .int a1), (2, .int a2), (3, .int a3), (4, .int a4)]) rfl rfl rfl ?_
            refine x_iload (x := (-1)) rfl rfl ?_
            refine x_iconst (v := (-1)) rfl ki_m1 ?_
            refine x_iceq (tgt := 29) rfl rfl (ti_eq jk_m1 jk_m1 (br_t (by omega) ?_))
            exact jX.sub jsb_n (ct_X12_mentions_r125_29 hD hQ  h J Sm)
          ·
            refine x_iconst (v := 1) rfl ki_1 ?_
            refine x_goto (tgt := 35) rfl rfl ?_
            refine x_zret rfl rfl (by decide) ?_
            show jX m_X12_soulAt 9 0 0 5 [(0, .ref 125), (1, .int a1), (2, .int a2)] [.int 1] _ 0 0 _
            refine x_ifeq (tgt := 15) rfl rfl (ti_eq jk_1 jk_0 (br_f (by omega) ?_))
            refine x_iloadn (x := a2) rfl rfl ?_
            refine x_inst (N := m_X12_isDay) (As := [.int a2]) (st := []) (dx9 := 2) (mc := 0) (ms := 0) (host := "") rfl t_X12_isDay ⟨Or.inl q_12_273, s_X12_isDay⟩ rfl (by decide) rfl rfl ⟨by decide, by decide⟩ (zc_X12_isDay (d := 1) rfl (fun v18 ev18 => ?_))
            show jX m_X12_soulAt 9 0 0 12 [(0, .ref 125), (1, .int a1), (2, .int a2)] [.int v18] _ 0 0 _
            refine x_ifne (tgt := 17) rfl rfl (ti_ne rfl jk_0 ⟨fun c19 => ?_, fun c19 => ?_⟩)
            ·
              refine x_aloadn (x := 125) rfl rfl ?_
              refine x_iloadn (x := a2) rfl rfl ?_
              refine x_inv (N := m_X12_find) (As := [.int a2]) (b := 125) (st := []) (dx9 := 8) (mc := 0) (ms := 0) (host := "") 12 rfl t_X12_find ⟨Or.inl q_12_393, i_X12_find.1, i_X12_find.2⟩ ⟨by decide, rfl⟩ (congrArg Prod.fst (J.1.1 125 (12, 92) rfl)) rfl (by decide) rfl rfl ⟨by decide, by decide⟩ (sf_X12_find_r125 (jr_of rfl (by omega)) hD J  (fun h J S20 => ?_))
              have Sm := jSm_tr rfl Sm S20
              show jX m_X12_soulAt 9 0 0 22 [(0, .ref 125), (1, .int a1), (2, .int a2)] [] _ 0 0 _
              refine x_aloadn (x := 125) rfl rfl ?_
              refine z_getR (N := 92) (b := 139) 12 29 rfl f_12_72 rfl J rfl 16029 ⟨rfl, rfl⟩ rfl ?_
              refine x_iloadn (x := a1) rfl rfl ?_
              refine z_iald (N := 600) rfl J rfl sg_139_0_600_1_0_1 rfl (by omega) (fun v21 qv21 ev21 => ?_)
              refine x_iret rfl rfl ?_
              show jX m_X12_mentions 10 0 0 11 [(0, .ref 125), (1, .int a1), (2, .int a2), (3, .int a3), (4, .int a4)] [.int v21] _ 0 0 _
              refine x_istore (lsx9 := [(5, .int v21), (0, .ref 125), (1, .int a1), (2, .int a2), (3, .int a3), (4, .int a4)]) rfl rfl rfl ?_
              refine x_iload (x := v21) rfl rfl ?_
              refine x_iconst (v := (-1)) rfl ki_m1 ?_
              refine x_iceq (tgt := 29) rfl rfl (ti_eq rfl jk_m1 ⟨fun c22 => ?_, fun c22 => ?_⟩)
              ·
                exact jX.sub jsb_n (ct_X12_mentions_r125_29 hD hQ  h J Sm)
              ·
                refine x_iloadn (x := a3) rfl rfl ?_
                refine z_i2l rfl rfl (fun v23 ev23 => ?_)
                refine x_lconst (v := 0) rfl kl_0 ?_
                refine x_lconst (v := 1) rfl kl_1 ?_
                refine x_inst (N := m_X12_in) (As := [.long v23, .long 0, .long 1]) (st := []) (dx9 := 1) (mc := 0) (ms := 0) (host := "") rfl t_X12_in ⟨Or.inl q_12_188, s_X12_in⟩ rfl (by decide) rfl rfl ⟨by decide, by decide⟩ (zc_X12_in rfl jkl_0 jkl_1 (fun v24 ev24 => ?_))
                show jX m_X12_mentions 10 0 0 26 [(5, .int v21), (0, .ref 125), (1, .int a1), (2, .int a2), (3, .int a3), (4, .int a4)] [.int v24] _ 0 0 _
                refine x_ifne (tgt := 31) rfl rfl (ti_ne rfl jk_0 ⟨fun c25 => ?_, fun c25 => ?_⟩)
                ·
                  refine x_iconst (v := 0) rfl ki_0 ?_
                  refine x_istore (lsx9 := [(6, .int 0), (5, .int v21), (0, .ref 125), (1, .int a1), (2, .int a2), (3, .int a3), (4, .int a4)]) rfl rfl rfl ?_
                  refine x_iconst (v := 0) rfl ki_0 ?_
                  refine x_istore (lsx9 := [(7, .int 0), (6, .int 0), (5, .int v21), (0, .ref 125), (1, .int a1), (2, .int a2), (3, .int a3), (4, .int a4)]) rfl rfl rfl ?_
                  exact jX.sub (jsb_c rfl (jsb_c rfl (jsb_c rfl (jsb_c rfl (jsb_c rfl (jsb_c rfl jsb_n)))))) (ct_X12_mentions_r125_37 hD hQ  601 a3 a4 v21 0 0 v5 h (by have := jk_0; omega) (jr_of rfl (by omega)) (jr_of rfl (by omega)) (jr_of jk_0 (by omega)) (jr_of rfl (by omega)) (jmc S20 rfl qv5) J Sm)
                ·
                  exact jX.sub jsb_n (ct_X12_mentions_r125_29 hD hQ  h J Sm)
            ·
              refine x_iconst (v := (-1)) rfl ki_m1 ?_
              refine x_iret rfl rfl ?_
              show jX m_X12_mentions 10 0 0 11 [(0, .ref 125), (1, .int a1), (2, .int a2), (3, .int a3), (4, .int a4)] [.int (-1)] _ 0 0 _
              refine x_istore (lsx9 := [(5, .int (-1)), (0, .ref 125), (1, .int a1), (2, .int a2), (3, .int a3), (4, .int a4)]) rfl rfl rfl ?_
              refine x_iload (x := (-1)) rfl rfl ?_
              refine x_iconst (v := (-1)) rfl ki_m1 ?_
              refine x_iceq (tgt := 29) rfl rfl (ti_eq jk_m1 jk_m1 (br_t (by omega) ?_))
              exact jX.sub jsb_n (ct_X12_mentions_r125_29 hD hQ  h J Sm)
        ·
          refine x_iconst (v := 2) rfl ki_2 ?_
          refine x_goto (tgt := 18) rfl rfl ?_
          refine x_iret rfl rfl ?_
          show jX m_X12_isMention 8 0 0 27 [(0, .ref 125), (1, .int a1)] [.int 2, .int v10] _ 0 0 _
          refine x_icge (tgt := 34) rfl rfl (ti_ge rfl jk_2 ⟨fun c26 => ?_, fun c26 => ?_⟩)
          ·
            refine x_iconst (v := 0) rfl ki_0 ?_
            refine x_zret rfl rfl (by decide) ?_
            show jX m_X12_soulAt 9 0 0 5 [(0, .ref 125), (1, .int a1), (2, .int a2)] [.int 0] _ 0 0 _
            refine x_ifeq (tgt := 15) rfl rfl (ti_eq jk_0 jk_0 (br_t (by omega) ?_))
            refine x_iconst (v := (-1)) rfl ki_m1 ?_
            refine x_iret rfl rfl ?_
            show jX m_X12_mentions 10 0 0 11 [(0, .ref 125), (1, .int a1), (2, .int a2), (3, .int a3), (4, .int a4)] [.int (-1)] _ 0 0 _
            refine x_istore (lsx9 := [(5, .int (-1)), (0, .ref 125), (1, .int a1), (2, .int a2), (3, .int a3), (4, .int a4)]) rfl rfl rfl ?_
            refine x_iload (x := (-1)) rfl rfl ?_
            refine x_iconst (v := (-1)) rfl ki_m1 ?_
            refine x_iceq (tgt := 29) rfl rfl (ti_eq jk_m1 jk_m1 (br_t (by omega) ?_))
            exact jX.sub jsb_n (ct_X12_mentions_r125_29 hD hQ  h J Sm)
          ·
            refine x_iconst (v := 1) rfl ki_1 ?_
            refine x_goto (tgt := 35) rfl rfl ?_
            refine x_zret rfl rfl (by decide) ?_
            show jX m_X12_soulAt 9 0 0 5 [(0, .ref 125), (1, .int a1), (2, .int a2)] [.int 1] _ 0 0 _
            refine x_ifeq (tgt := 15) rfl rfl (ti_eq jk_1 jk_0 (br_f (by omega) ?_))
            refine x_iloadn (x := a2) rfl rfl ?_
            refine x_inst (N := m_X12_isDay) (As := [.int a2]) (st := []) (dx9 := 2) (mc := 0) (ms := 0) (host := "") rfl t_X12_isDay ⟨Or.inl q_12_273, s_X12_isDay⟩ rfl (by decide) rfl rfl ⟨by decide, by decide⟩ (zc_X12_isDay (d := 1) rfl (fun v27 ev27 => ?_))
            show jX m_X12_soulAt 9 0 0 12 [(0, .ref 125), (1, .int a1), (2, .int a2)] [.int v27] _ 0 0 _
            refine x_ifne (tgt := 17) rfl rfl (ti_ne rfl jk_0 ⟨fun c28 => ?_, fun c28 => ?_⟩)
            ·
              refine x_aloadn (x := 125) rfl rfl ?_
              refine x_iloadn (x := a2) rfl rfl ?_
              refine x_inv (N := m_X12_find) (As := [.int a2]) (b := 125) (st := []) (dx9 := 8) (mc := 0) (ms := 0) (host := "") 12 rfl t_X12_find ⟨Or.inl q_12_393, i_X12_find.1, i_X12_find.2⟩ ⟨by decide, rfl⟩ (congrArg Prod.fst (J.1.1 125 (12, 92) rfl)) rfl (by decide) rfl rfl ⟨by decide, by decide⟩ (sf_X12_find_r125 (jr_of rfl (by omega)) hD J  (fun h J S29 => ?_))
              have Sm := jSm_tr rfl Sm S29
              show jX m_X12_soulAt 9 0 0 22 [(0, .ref 125), (1, .int a1), (2, .int a2)] [] _ 0 0 _
              refine x_aloadn (x := 125) rfl rfl ?_
              refine z_getR (N := 92) (b := 139) 12 29 rfl f_12_72 rfl J rfl 16029 ⟨rfl, rfl⟩ rfl ?_
              refine x_iloadn (x := a1) rfl rfl ?_
              refine z_iald (N := 600) rfl J rfl sg_139_0_600_1_0_1 rfl (by omega) (fun v30 qv30 ev30 => ?_)
              refine x_iret rfl rfl ?_
              show jX m_X12_mentions 10 0 0 11 [(0, .ref 125), (1, .int a1), (2, .int a2), (3, .int a3), (4, .int a4)] [.int v30] _ 0 0 _
              refine x_istore (lsx9 := [(5, .int v30), (0, .ref 125), (1, .int a1), (2, .int a2), (3, .int a3), (4, .int a4)]) rfl rfl rfl ?_
              refine x_iload (x := v30) rfl rfl ?_
              refine x_iconst (v := (-1)) rfl ki_m1 ?_
              refine x_iceq (tgt := 29) rfl rfl (ti_eq rfl jk_m1 ⟨fun c31 => ?_, fun c31 => ?_⟩)
              ·
                exact jX.sub jsb_n (ct_X12_mentions_r125_29 hD hQ  h J Sm)
              ·
                refine x_iloadn (x := a3) rfl rfl ?_
                refine z_i2l rfl rfl (fun v32 ev32 => ?_)
                refine x_lconst (v := 0) rfl kl_0 ?_
                refine x_lconst (v := 1) rfl kl_1 ?_
                refine x_inst (N := m_X12_in) (As := [.long v32, .long 0, .long 1]) (st := []) (dx9 := 1) (mc := 0) (ms := 0) (host := "") rfl t_X12_in ⟨Or.inl q_12_188, s_X12_in⟩ rfl (by decide) rfl rfl ⟨by decide, by decide⟩ (zc_X12_in rfl jkl_0 jkl_1 (fun v33 ev33 => ?_))
                show jX m_X12_mentions 10 0 0 26 [(5, .int v30), (0, .ref 125), (1, .int a1), (2, .int a2), (3, .int a3), (4, .int a4)] [.int v33] _ 0 0 _
                refine x_ifne (tgt := 31) rfl rfl (ti_ne rfl jk_0 ⟨fun c34 => ?_, fun c34 => ?_⟩)
                ·
                  refine x_iconst (v := 0) rfl ki_0 ?_
                  refine x_istore (lsx9 := [(6, .int 0), (5, .int v30), (0, .ref 125), (1, .int a1), (2, .int a2), (3, .int a3), (4, .int a4)]) rfl rfl rfl ?_
                  refine x_iconst (v := 0) rfl ki_0 ?_
                  refine x_istore (lsx9 := [(7, .int 0), (6, .int 0), (5, .int v30), (0, .ref 125), (1, .int a1), (2, .int a2), (3, .int a3), (4, .int a4)]) rfl rfl rfl ?_
                  exact jX.sub (jsb_c rfl (jsb_c rfl (jsb_c rfl (jsb_c rfl (jsb_c rfl (jsb_c rfl jsb_n)))))) (ct_X12_mentions_r125_37 hD hQ  601 a3 a4 v30 0 0 v5 h (by have := jk_0; omega) (jr_of rfl (by omega)) (jr_of rfl (by omega)) (jr_of jk_0 (by omega)) (jr_of rfl (by omega)) (jmc S29 rfl qv5) J Sm)
                ·
                  exact jX.sub jsb_n (ct_X12_mentions_r125_29 hD hQ  h J Sm)
            ·
              refine x_iconst (v := (-1)) rfl ki_m1 ?_
              refine x_iret rfl rfl ?_
              show jX m_X12_mentions 10 0 0 11 [(0, .ref 125), (1, .int a1), (2, .int a2), (3, .int a3), (4, .int a4)] [.int (-1)] _ 0 0 _
              refine x_istore (lsx9 := [(5, .int (-1)), (0, .ref 125), (1, .int a1), (2, .int a2), (3, .int a3), (4, .int a4)]) rfl rfl rfl ?_
              refine x_iload (x := (-1)) rfl rfl ?_
              refine x_iconst (v := (-1)) rfl ki_m1 ?_
              refine x_iceq (tgt := 29) rfl rfl (ti_eq jk_m1 jk_m1 (br_t (by omega) ?_))
              exact jX.sub jsb_n (ct_X12_mentions_r125_29 hD hQ  h J Sm)
      ·
        refine x_iconst (v := 3) rfl ki_3 ?_
        refine x_goto (tgt := 18) rfl rfl ?_
        refine x_iret rfl rfl ?_
        show jX m_X12_isMention 8 0 0 27 [(0, .ref 125), (1, .int a1)] [.int 3, .int v10] _ 0 0 _
        refine x_icge (tgt := 34) rfl rfl (ti_ge rfl jk_3 (br_f (by omega) ?_))
        refine x_iconst (v := 1) rfl ki_1 ?_
        refine x_goto (tgt := 35) rfl rfl ?_
        refine x_zret rfl rfl (by decide) ?_
        show jX m_X12_soulAt 9 0 0 5 [(0, .ref 125), (1, .int a1), (2, .int a2)] [.int 1] _ 0 0 _
        refine x_ifeq (tgt := 15) rfl rfl (ti_eq jk_1 jk_0 (br_f (by omega) ?_))
        refine x_iloadn (x := a2) rfl rfl ?_
        refine x_inst (N := m_X12_isDay) (As := [.int a2]) (st := []) (dx9 := 2) (mc := 0) (ms := 0) (host := "") rfl t_X12_isDay ⟨Or.inl q_12_273, s_X12_isDay⟩ rfl (by decide) rfl rfl ⟨by decide, by decide⟩ (zc_X12_isDay (d := 1) rfl (fun v35 ev35 => ?_))
        show jX m_X12_soulAt 9 0 0 12 [(0, .ref 125), (1, .int a1), (2, .int a2)] [.int v35] _ 0 0 _
        refine x_ifne (tgt := 17) rfl rfl (ti_ne rfl jk_0 ⟨fun c36 => ?_, fun c36 => ?_⟩)
        ·
          refine x_aloadn (x := 125) rfl rfl ?_
          refine x_iloadn (x := a2) rfl rfl ?_
          refine x_inv (N := m_X12_find) (As := [.int a2]) (b := 125) (st := []) (dx9 := 8) (mc := 0) (ms := 0) (host := "") 12 rfl t_X12_find ⟨Or.inl q_12_393, i_X12_find.1, i_X12_find.2⟩ ⟨by decide, rfl⟩ (congrArg Prod.fst (J.1.1 125 (12, 92) rfl)) rfl (by decide) rfl rfl ⟨by decide, by decide⟩ (sf_X12_find_r125 (jr_of rfl (by omega)) hD J  (fun h J S37 => ?_))
          have Sm := jSm_tr rfl Sm S37
          show jX m_X12_soulAt 9 0 0 22 [(0, .ref 125), (1, .int a1), (2, .int a2)] [] _ 0 0 _
          refine x_aloadn (x := 125) rfl rfl ?_
          refine z_getR (N := 92) (b := 139) 12 29 rfl f_12_72 rfl J rfl 16029 ⟨rfl, rfl⟩ rfl ?_
          refine x_iloadn (x := a1) rfl rfl ?_
          refine z_iald (N := 600) rfl J rfl sg_139_0_600_1_0_1 rfl (by omega) (fun v38 qv38 ev38 => ?_)
          refine x_iret rfl rfl ?_
          show jX m_X12_mentions 10 0 0 11 [(0, .ref 125), (1, .int a1), (2, .int a2), (3, .int a3), (4, .int a4)] [.int v38] _ 0 0 _
          refine x_istore (lsx9 := [(5, .int v38), (0, .ref 125), (1, .int a1), (2, .int a2), (3, .int a3), (4, .int a4)]) rfl rfl rfl ?_
          refine x_iload (x := v38) rfl rfl ?_
          refine x_iconst (v := (-1)) rfl ki_m1 ?_
          refine x_iceq (tgt := 29) rfl rfl (ti_eq rfl jk_m1 ⟨fun c39 => ?_, fun c39 => ?_⟩)
          ·
            exact jX.sub jsb_n (ct_X12_mentions_r125_29 hD hQ  h J Sm)
          ·
            refine x_iloadn (x := a3) rfl rfl ?_
            refine z_i2l rfl rfl (fun v40 ev40 => ?_)
            refine x_lconst (v := 0) rfl kl_0 ?_
            refine x_lconst (v := 1) rfl kl_1 ?_
            refine x_inst (N := m_X12_in) (As := [.long v40, .long 0, .long 1]) (st := []) (dx9 := 1) (mc := 0) (ms := 0) (host := "") rfl t_X12_in ⟨Or.inl q_12_188, s_X12_in⟩ rfl (by decide) rfl rfl ⟨by decide, by decide⟩ (zc_X12_in rfl jkl_0 jkl_1 (fun v41 ev41 => ?_))
            show jX m_X12_mentions 10 0 0 26 [(5, .int v38), (0, .ref 125), (1, .int a1), (2, .int a2), (3, .int a3), (4, .int a4)] [.int v41] _ 0 0 _
            refine x_ifne (tgt := 31) rfl rfl (ti_ne rfl jk_0 ⟨fun c42 => ?_, fun c42 => ?_⟩)
            ·
              refine x_iconst (v := 0) rfl ki_0 ?_
              refine x_istore (lsx9 := [(6, .int 0), (5, .int v38), (0, .ref 125), (1, .int a1), (2, .int a2), (3, .int a3), (4, .int a4)]) rfl rfl rfl ?_
              refine x_iconst (v := 0) rfl ki_0 ?_
              refine x_istore (lsx9 := [(7, .int 0), (6, .int 0), (5, .int v38), (0, .ref 125), (1, .int a1), (2, .int a2), (3, .int a3), (4, .int a4)]) rfl rfl rfl ?_
              exact jX.sub (jsb_c rfl (jsb_c rfl (jsb_c rfl (jsb_c rfl (jsb_c rfl (jsb_c rfl jsb_n)))))) (ct_X12_mentions_r125_37 hD hQ  601 a3 a4 v38 0 0 v5 h (by have := jk_0; omega) (jr_of rfl (by omega)) (jr_of rfl (by omega)) (jr_of jk_0 (by omega)) (jr_of rfl (by omega)) (jmc S37 rfl qv5) J Sm)
            ·
              exact jX.sub jsb_n (ct_X12_mentions_r125_29 hD hQ  h J Sm)
        ·
          refine x_iconst (v := (-1)) rfl ki_m1 ?_
          refine x_iret rfl rfl ?_
          show jX m_X12_mentions 10 0 0 11 [(0, .ref 125), (1, .int a1), (2, .int a2), (3, .int a3), (4, .int a4)] [.int (-1)] _ 0 0 _
          refine x_istore (lsx9 := [(5, .int (-1)), (0, .ref 125), (1, .int a1), (2, .int a2), (3, .int a3), (4, .int a4)]) rfl rfl rfl ?_
          refine x_iload (x := (-1)) rfl rfl ?_
          refine x_iconst (v := (-1)) rfl ki_m1 ?_
          refine x_iceq (tgt := 29) rfl rfl (ti_eq jk_m1 jk_m1 (br_t (by omega) ?_))
          exact jX.sub jsb_n (ct_X12_mentions_r125_29 hD hQ  h J Sm)
def fp_X12_name_r125 : jFp := [(125, 0, 1), (137, 0, 80), (138, 0, 2)]
set_option maxRecDepth 100000 in
set_option maxHeartbeats 4000000 in
theorem ct_X12_name_r125_23 {Dy : jH → Prop} {h0 : jH} {Q : Option Value → jH → Prop} (hD : jDk Dy) (hQ : ∀ (v : Int32) hx9, (-1) ≤ v.toInt ∧ v.toInt ≤ 255 → jJ jSgM Dy hx9 → jSm fp_X12_name_r125 h0 hx9 → Q (some (.int v)) hx9) : ∀ (h : jH), jJ jSgM Dy h → jSm fp_X12_name_r125 h0 h → jX m_X12_name 4 0 0 23 [] [] h 0 0 Q := by
  intro  h    J Sm
  refine x_iconst (v := (-1)) rfl ki_m1 ?_
  refine x_iret rfl rfl ?_
  exact hQ _ _ (jr_of jk_m1 (by omega)) J Sm
set_option maxRecDepth 100000 in
set_option maxHeartbeats 4000000 in
theorem ct_X12_name_r125_100074 {Dy : jH → Prop} {h0 : jH} {Q : Option Value → jH → Prop} (hD : jDk Dy) (hQ : ∀ (v : Int32) hx9, (-1) ≤ v.toInt ∧ v.toInt ≤ 255 → jJ jSgM Dy hx9 → jSm fp_X12_name_r125 h0 hx9 → Q (some (.int v)) hx9) : ∀ (h : jH), jJ jSgM Dy h → jSm fp_X12_name_r125 h0 h → jX m_X12_name 4 0 0 74 [] [.int (-1)] h 0 0 Q := by
  intro  h    J Sm
  refine x_iret rfl rfl ?_
  exact hQ _ _ (jr_of jk_m1 (by omega)) J Sm
set_option maxRecDepth 100000 in
set_option maxHeartbeats 4000000 in
theorem ct_X12_name_r125_74 {Dy : jH → Prop} {h0 : jH} {Q : Option Value → jH → Prop} (hD : jDk Dy) (hQ : ∀ (v : Int32) hx9, (-1) ≤ v.toInt ∧ v.toInt ≤ 255 → jJ jSgM Dy hx9 → jSm fp_X12_name_r125 h0 hx9 → Q (some (.int v)) hx9) : ∀ (s0 : Int32) (h : jH), 0 ≤ s0.toInt ∧ s0.toInt ≤ 255 → jJ jSgM Dy h → jSm fp_X12_name_r125 h0 h → jX m_X12_name 4 0 0 74 [] [.int s0] h 0 0 Q := by
  intro s0 h y0   J Sm
  refine x_iret rfl rfl ?_
  exact hQ _ _ (jr_of rfl (by omega)) J Sm
set_option maxRecDepth 100000 in
set_option maxHeartbeats 4000000 in
theorem sf_X12_name_r125 {Dy : jH → Prop} {h : jH} {Q : Option Value → jH → Prop} {a1 : Int32} {a2 : Int32} {a3 : Int32} (hD : jDk Dy) (J : jJ jSgM Dy h) (hQ : ∀ (v : Int32) hx9, (-1) ≤ v.toInt ∧ v.toInt ≤ 255 → jJ jSgM Dy hx9 → jSm fp_X12_name_r125 h hx9 → Q (some (.int v)) hx9) : jC m_X12_name 4 0 0 [.ref 125, .int a1, .int a2, .int a3] h Q := by
  refine jC.of rfl k_X12_name rfl ?_
  have Sm := jSm_rf fp_X12_name_r125 h
  have ea1 := jfull a1
  have ea2 := jfull a2
  have ea3 := jfull a3
  show jX m_X12_name 4 0 0 0 [(0, .ref 125), (1, .int a1), (2, .int a2), (3, .int a3)] [] _ 0 0 _
  refine x_aloadn (x := 125) rfl rfl ?_
  refine x_iconst (v := 0) rfl ki_0 ?_
  refine z_putI (N := 92) (w := 0) 12 0 rfl f_12_180 rfl (jfin_no TX12 RX12 92 rfl rfl) hD J Sm rfl rfl jk_0 (pw_125_0 (by omega)) rfl (fun h w1 J Sm => ?_)
  refine x_aloadn (x := 125) rfl rfl ?_
  refine x_iloadn (x := a1) rfl rfl ?_
  refine x_inv (N := m_X12_isMention) (As := [.int a1]) (b := 125) (st := []) (dx9 := 3) (mc := 0) (ms := 0) (host := "") 12 rfl t_X12_isMention ⟨Or.inl q_12_322, i_X12_isMention.1, i_X12_isMention.2⟩ ⟨by decide, rfl⟩ (congrArg Prod.fst (J.1.1 125 (12, 92) rfl)) rfl (by decide) rfl rfl ⟨by decide, by decide⟩ (jC.of rfl k_X12_isMention rfl ?_)
  show jX m_X12_isMention 3 0 0 0 [(0, .ref 125), (1, .int a1)] [] _ 0 0 _
  refine x_iloadn (x := a1) rfl rfl ?_
  refine x_iflt (tgt := 34) rfl rfl (ti_lt rfl jk_0 ⟨fun c2 => ?_, fun c2 => ?_⟩)
  ·
    refine x_iconst (v := 0) rfl ki_0 ?_
    refine x_zret rfl rfl (by decide) ?_
    show jX m_X12_name 4 0 0 10 [(0, .ref 125), (1, .int a1), (2, .int a2), (3, .int a3)] [.int 0] _ 0 0 _
    refine x_ifeq (tgt := 23) rfl rfl (ti_eq jk_0 jk_0 (br_t (by omega) ?_))
    exact jX.sub jsb_n (ct_X12_name_r125_23 hD hQ  h J Sm)
  ·
    refine x_aloadn (x := 125) rfl rfl ?_
    refine x_iloadn (x := a1) rfl rfl ?_
    refine x_iconst (v := 3) rfl ki_3 ?_
    refine z_idiv rfl rfl jk_3 (by omega) (by omega) (fun v3 ev3 => ?_)
    refine x_inv (N := m_X12_isLine) (As := [.int v3]) (b := 125) (st := []) (dx9 := 2) (mc := 0) (ms := 0) (host := "") 12 rfl t_X12_isLine ⟨Or.inl q_12_293, i_X12_isLine.1, i_X12_isLine.2⟩ ⟨by decide, rfl⟩ (congrArg Prod.fst (J.1.1 125 (12, 92) rfl)) rfl (by decide) rfl rfl ⟨by decide, by decide⟩ (jC.of rfl k_X12_isLine rfl ?_)
    show jX m_X12_isLine 2 0 0 0 [(0, .ref 125), (1, .int v3)] [] _ 0 0 _
    refine x_iloadn (x := v3) rfl rfl ?_
    refine z_i2l rfl rfl (fun v4 ev4 => ?_)
    refine x_lconst (v := 0) rfl kl_0 ?_
    refine x_aloadn (x := 125) rfl rfl ?_
    refine z_getR (N := 92) (b := 126) 12 2 rfl f_12_8 rfl J rfl 16002 ⟨rfl, rfl⟩ rfl ?_
    refine x_iconst (v := 0) rfl ki_0 ?_
    refine z_iald (N := 50660) rfl J rfl sg_126_0_1_1_0_1 jk_0 (by omega) (fun v5 qv5 ev5 => ?_)
    refine z_i2l rfl rfl (fun v6 ev6 => ?_)
    refine x_lconst (v := 1) rfl kl_1 ?_
    refine z_lsub rfl rfl jkl_1 (by omega) (fun v7 ev7 => ?_)
    refine x_inst (N := m_X12_in) (As := [.long v4, .long 0, .long v7]) (st := []) (dx9 := 1) (mc := 0) (ms := 0) (host := "") rfl t_X12_in ⟨Or.inl q_12_188, s_X12_in⟩ rfl (by decide) rfl rfl ⟨by decide, by decide⟩ (zc_X12_in rfl jkl_0 rfl (fun v8 ev8 => ?_))
    show jX m_X12_isLine 2 0 0 15 [(0, .ref 125), (1, .int v3)] [.int v8] _ 0 0 _
    refine x_zret rfl rfl (jz01 (by omega)) ?_
    show jX m_X12_isMention 3 0 0 11 [(0, .ref 125), (1, .int a1)] [.int v8] _ 0 0 _
    refine x_ifeq (tgt := 34) rfl rfl (ti_eq rfl jk_0 ⟨fun c9 => ?_, fun c9 => ?_⟩)
    ·
      refine x_iconst (v := 0) rfl ki_0 ?_
      refine x_zret rfl rfl (by decide) ?_
      show jX m_X12_name 4 0 0 10 [(0, .ref 125), (1, .int a1), (2, .int a2), (3, .int a3)] [.int 0] _ 0 0 _
      refine x_ifeq (tgt := 23) rfl rfl (ti_eq jk_0 jk_0 (br_t (by omega) ?_))
      exact jX.sub jsb_n (ct_X12_name_r125_23 hD hQ  h J Sm)
    ·
      refine x_iloadn (x := a1) rfl rfl ?_
      refine x_iconst (v := 3) rfl ki_3 ?_
      refine z_irem rfl rfl jk_3 (by omega) (by omega) (fun v10 ev10 => ?_)
      refine x_aloadn (x := 125) rfl rfl ?_
      refine x_iloadn (x := a1) rfl rfl ?_
      refine x_iconst (v := 3) rfl ki_3 ?_
      refine z_idiv rfl rfl jk_3 (by omega) (by omega) (fun v11 ev11 => ?_)
      refine x_inv (N := m_X12_bookOf) (As := [.int v11]) (b := 125) (st := [.int v10]) (dx9 := 2) (mc := 0) (ms := 0) (host := "") 12 rfl t_X12_bookOf ⟨Or.inl q_12_299, i_X12_bookOf.1, i_X12_bookOf.2⟩ ⟨by decide, rfl⟩ (congrArg Prod.fst (J.1.1 125 (12, 92) rfl)) rfl (by decide) rfl rfl ⟨by decide, by decide⟩ (jC.of rfl k_X12_bookOf rfl ?_)
      show jX m_X12_bookOf 2 0 0 0 [(0, .ref 125), (1, .int v11)] [] _ 0 0 _
      refine x_aloadn (x := 125) rfl rfl ?_
      refine z_getR (N := 92) (b := 126) 12 2 rfl f_12_8 rfl J rfl 16002 ⟨rfl, rfl⟩ rfl ?_
      refine x_aloadn (x := 125) rfl rfl ?_
      refine x_iloadn (x := v11) rfl rfl ?_
      refine x_inv (N := m_X12_at) (As := [.int v11]) (b := 125) (st := [.ref 126]) (dx9 := 1) (mc := 0) (ms := 0) (host := "") 12 rfl t_X12_at ⟨Or.inl q_12_254, i_X12_at.1, i_X12_at.2⟩ ⟨by decide, rfl⟩ (congrArg Prod.fst (J.1.1 125 (12, 92) rfl)) rfl (by decide) rfl rfl ⟨by decide, by decide⟩ (jC.of rfl k_X12_at rfl ?_)
      show jX m_X12_at 1 0 0 0 [(0, .ref 125), (1, .int v11)] [] _ 0 0 _
      refine x_bipush (v := 20) rfl kb_20 ?_
      refine x_bipush (v := 90) rfl kb_90 ?_
      refine x_iloadn (x := v11) rfl rfl ?_
      refine z_imul rfl jk_90 rfl (by omega) (fun v12 ev12 => ?_)
      refine z_iadd rfl jk_20 rfl (by omega) (fun v13 ev13 => ?_)
      refine x_iret rfl rfl ?_
      show jX m_X12_bookOf 2 0 0 9 [(0, .ref 125), (1, .int v11)] [.int v13, .ref 126] _ 0 0 _
      refine z_iald (N := 50660) rfl J rfl sg_126_20_18020_90_0_1 rfl (by omega) (fun v14 qv14 ev14 => ?_)
      refine x_iret rfl rfl ?_
      show jX m_X12_isMention 3 0 0 24 [(0, .ref 125), (1, .int a1)] [.int v14, .int v10] _ 0 0 _
      refine x_inst (N := m_X12_rolesOf) (As := [.int v14]) (st := [.int v10]) (dx9 := 2) (mc := 0) (ms := 0) (host := "") rfl t_X12_rolesOf ⟨Or.inl q_12_286, s_X12_rolesOf⟩ rfl (by decide) rfl rfl ⟨by decide, by decide⟩ (jC.of rfl k_X12_rolesOf rfl ?_)
      show jX m_X12_rolesOf 2 0 0 0 [(0, .int v14)] [] _ 0 0 _
      refine x_iloadn (x := v14) rfl rfl ?_
      refine x_ifne (tgt := 8) rfl rfl (ti_ne rfl jk_0 ⟨fun c15 => ?_, fun c15 => ?_⟩)
      ·
        refine x_iloadn (x := v14) rfl rfl ?_
        refine x_iconst (v := 1) rfl ki_1 ?_
        refine x_icne (tgt := 17) rfl rfl (ti_ne rfl jk_1 ⟨fun c16 => ?_, fun c16 => ?_⟩)
        ·
          refine x_iconst (v := 1) rfl ki_1 ?_
          refine x_iret rfl rfl ?_
          show jX m_X12_isMention 3 0 0 27 [(0, .ref 125), (1, .int a1)] [.int 1, .int v10] _ 0 0 _
          refine x_icge (tgt := 34) rfl rfl (ti_ge rfl jk_1 ⟨fun c17 => ?_, fun c17 => ?_⟩)
          ·
            refine x_iconst (v := 0) rfl ki_0 ?_
            refine x_zret rfl rfl (by decide) ?_
            show jX m_X12_name 4 0 0 10 [(0, .ref 125), (1, .int a1), (2, .int a2), (3, .int a3)] [.int 0] _ 0 0 _
            refine x_ifeq (tgt := 23) rfl rfl (ti_eq jk_0 jk_0 (br_t (by omega) ?_))
            exact jX.sub jsb_n (ct_X12_name_r125_23 hD hQ  h J Sm)
          ·
            refine x_iconst (v := 1) rfl ki_1 ?_
            refine x_goto (tgt := 35) rfl rfl ?_
            refine x_zret rfl rfl (by decide) ?_
            show jX m_X12_name 4 0 0 10 [(0, .ref 125), (1, .int a1), (2, .int a2), (3, .int a3)] [.int 1] _ 0 0 _
            refine x_ifeq (tgt := 23) rfl rfl (ti_eq jk_1 jk_0 (br_f (by omega) ?_))
            refine x_iloadn (x := a2) rfl rfl ?_
            refine z_i2l rfl rfl (fun v18 ev18 => ?_)
            refine x_lconst (v := 0) rfl kl_0 ?_
            refine x_lconst (v := 1) rfl kl_1 ?_
            refine x_inst (N := m_X12_in) (As := [.long v18, .long 0, .long 1]) (st := []) (dx9 := 1) (mc := 0) (ms := 0) (host := "") rfl t_X12_in ⟨Or.inl q_12_188, s_X12_in⟩ rfl (by decide) rfl rfl ⟨by decide, by decide⟩ (zc_X12_in rfl jkl_0 jkl_1 (fun v19 ev19 => ?_))
            show jX m_X12_name 4 0 0 20 [(0, .ref 125), (1, .int a1), (2, .int a2), (3, .int a3)] [.int v19] _ 0 0 _
            refine x_ifne (tgt := 25) rfl rfl (ti_ne rfl jk_0 ⟨fun c20 => ?_, fun c20 => ?_⟩)
            ·
              refine x_aloadn (x := 125) rfl rfl ?_
              refine x_iloadn (x := a1) rfl rfl ?_
              refine x_iloadn (x := a2) rfl rfl ?_
              refine x_iconst (v := 0) rfl ki_0 ?_
              refine x_inv (N := m_X12_fold) (As := [.int a1, .int a2, .int 0]) (b := 125) (st := []) (dx9 := 3) (mc := 0) (ms := 0) (host := "") 12 rfl t_X12_fold ⟨Or.inl q_12_325, i_X12_fold.1, i_X12_fold.2⟩ ⟨by decide, rfl⟩ (congrArg Prod.fst (J.1.1 125 (12, 92) rfl)) rfl (by decide) rfl rfl ⟨by decide, by decide⟩ (sf_X12_fold_r125 (jr_of rfl (by omega)) (jr_of rfl (by omega)) (jr_of jk_0 (by omega)) hD J  (fun h J S21 => ?_))
              have Sm := jSm_tr rfl Sm S21
              show jX m_X12_name 4 0 0 32 [(0, .ref 125), (1, .int a1), (2, .int a2), (3, .int a3)] [] _ 0 0 _
              refine x_iloadn (x := a3) rfl rfl ?_
              refine x_iconst (v := (-1)) rfl ki_m1 ?_
              refine x_icne (tgt := 46) rfl rfl (ti_ne rfl jk_m1 ⟨fun c22 => ?_, fun c22 => ?_⟩)
              ·
                refine x_iloadn (x := a3) rfl rfl ?_
                refine z_i2l rfl rfl (fun v23 ev23 => ?_)
                refine x_lconst (v := 0) rfl kl_0 ?_
                refine x_aloadn (x := 125) rfl rfl ?_
                refine z_getR (N := 92) (b := 138) 12 22 rfl f_12_54 rfl J rfl 16022 ⟨rfl, rfl⟩ rfl ?_
                refine x_iconst (v := 0) rfl ki_0 ?_
                refine z_iald (N := 2) rfl J rfl sg_138_0_2_1_0_1 jk_0 (by omega) (fun v24 qv24 ev24 => ?_)
                refine z_i2l rfl rfl (fun v25 ev25 => ?_)
                refine x_lconst (v := 1) rfl kl_1 ?_
                refine z_lsub rfl rfl jkl_1 (by omega) (fun v26 ev26 => ?_)
                refine x_inst (N := m_X12_in) (As := [.long v23, .long 0, .long v26]) (st := []) (dx9 := 1) (mc := 0) (ms := 0) (host := "") rfl t_X12_in ⟨Or.inl q_12_188, s_X12_in⟩ rfl (by decide) rfl rfl ⟨by decide, by decide⟩ (zc_X12_in rfl jkl_0 rfl (fun v27 ev27 => ?_))
                show jX m_X12_name 4 0 0 61 [(0, .ref 125), (1, .int a1), (2, .int a2), (3, .int a3)] [.int v27] _ 0 0 _
                refine x_ifeq (tgt := 73) rfl rfl (ti_eq rfl jk_0 ⟨fun c28 => ?_, fun c28 => ?_⟩)
                ·
                  refine x_iconst (v := (-1)) rfl ki_m1 ?_
                  exact jX.sub jsb_n (ct_X12_name_r125_100074 hD hQ  h J Sm)
                ·
                  refine x_aloadn (x := 125) rfl rfl ?_
                  refine z_getR (N := 92) (b := 137) 12 21 rfl f_12_51 rfl J rfl 16021 ⟨rfl, rfl⟩ rfl ?_
                  refine x_iloadn (x := a3) rfl rfl ?_
                  refine z_iald (N := 80) rfl J rfl sg_137_0_80_1_0_1 rfl (by omega) (fun v29 qv29 ev29 => ?_)
                  refine x_goto (tgt := 74) rfl rfl ?_
                  exact jX.sub jsb_n (ct_X12_name_r125_74 hD hQ  v29 h (jr_of rfl (by omega)) J Sm)
              ·
                refine x_aloadn (x := 125) rfl rfl ?_
                refine z_getR (N := 92) (b := 138) 12 22 rfl f_12_54 rfl J rfl 16022 ⟨rfl, rfl⟩ rfl ?_
                refine x_iconst (v := 0) rfl ki_0 ?_
                refine z_iald (N := 2) rfl J rfl sg_138_0_2_1_0_1 jk_0 (by omega) (fun v30 qv30 ev30 => ?_)
                refine x_goto (tgt := 74) rfl rfl ?_
                exact jX.sub jsb_n (ct_X12_name_r125_74 hD hQ  v30 h (jr_of rfl (by omega)) J Sm)
            ·
              exact jX.sub jsb_n (ct_X12_name_r125_23 hD hQ  h J Sm)
        ·
          refine x_iconst (v := 2) rfl ki_2 ?_
          refine x_goto (tgt := 18) rfl rfl ?_
          refine x_iret rfl rfl ?_
          show jX m_X12_isMention 3 0 0 27 [(0, .ref 125), (1, .int a1)] [.int 2, .int v10] _ 0 0 _
          refine x_icge (tgt := 34) rfl rfl (ti_ge rfl jk_2 ⟨fun c31 => ?_, fun c31 => ?_⟩)
          ·
            refine x_iconst (v := 0) rfl ki_0 ?_
            refine x_zret rfl rfl (by decide) ?_
            show jX m_X12_name 4 0 0 10 [(0, .ref 125), (1, .int a1), (2, .int a2), (3, .int a3)] [.int 0] _ 0 0 _
            refine x_ifeq (tgt := 23) rfl rfl (ti_eq jk_0 jk_0 (br_t (by omega) ?_))
            exact jX.sub jsb_n (ct_X12_name_r125_23 hD hQ  h J Sm)
          ·
            refine x_iconst (v := 1) rfl ki_1 ?_
            refine x_goto (tgt := 35) rfl rfl ?_
            refine x_zret rfl rfl (by decide) ?_
            show jX m_X12_name 4 0 0 10 [(0, .ref 125), (1, .int a1), (2, .int a2), (3, .int a3)] [.int 1] _ 0 0 _
            refine x_ifeq (tgt := 23) rfl rfl (ti_eq jk_1 jk_0 (br_f (by omega) ?_))
            refine x_iloadn (x := a2) rfl rfl ?_
            refine z_i2l rfl rfl (fun v32 ev32 => ?_)
            refine x_lconst (v := 0) rfl kl_0 ?_
            refine x_lconst (v := 1) rfl kl_1 ?_
            refine x_inst (N := m_X12_in) (As := [.long v32, .long 0, .long 1]) (st := []) (dx9 := 1) (mc := 0) (ms := 0) (host := "") rfl t_X12_in ⟨Or.inl q_12_188, s_X12_in⟩ rfl (by decide) rfl rfl ⟨by decide, by decide⟩ (zc_X12_in rfl jkl_0 jkl_1 (fun v33 ev33 => ?_))
            show jX m_X12_name 4 0 0 20 [(0, .ref 125), (1, .int a1), (2, .int a2), (3, .int a3)] [.int v33] _ 0 0 _
            refine x_ifne (tgt := 25) rfl rfl (ti_ne rfl jk_0 ⟨fun c34 => ?_, fun c34 => ?_⟩)
            ·
              refine x_aloadn (x := 125) rfl rfl ?_
              refine x_iloadn (x := a1) rfl rfl ?_
              refine x_iloadn (x := a2) rfl rfl ?_
              refine x_iconst (v := 0) rfl ki_0 ?_
              refine x_inv (N := m_X12_fold) (As := [.int a1, .int a2, .int 0]) (b := 125) (st := []) (dx9 := 3) (mc := 0) (ms := 0) (host := "") 12 rfl t_X12_fold ⟨Or.inl q_12_325, i_X12_fold.1, i_X12_fold.2⟩ ⟨by decide, rfl⟩ (congrArg Prod.fst (J.1.1 125 (12, 92) rfl)) rfl (by decide) rfl rfl ⟨by decide, by decide⟩ (sf_X12_fold_r125 (jr_of rfl (by omega)) (jr_of rfl (by omega)) (jr_of jk_0 (by omega)) hD J  (fun h J S35 => ?_))
              have Sm := jSm_tr rfl Sm S35
              show jX m_X12_name 4 0 0 32 [(0, .ref 125), (1, .int a1), (2, .int a2), (3, .int a3)] [] _ 0 0 _
              refine x_iloadn (x := a3) rfl rfl ?_
              refine x_iconst (v := (-1)) rfl ki_m1 ?_
              refine x_icne (tgt := 46) rfl rfl (ti_ne rfl jk_m1 ⟨fun c36 => ?_, fun c36 => ?_⟩)
              ·
                refine x_iloadn (x := a3) rfl rfl ?_
                refine z_i2l rfl rfl (fun v37 ev37 => ?_)
                refine x_lconst (v := 0) rfl kl_0 ?_
                refine x_aloadn (x := 125) rfl rfl ?_
                refine z_getR (N := 92) (b := 138) 12 22 rfl f_12_54 rfl J rfl 16022 ⟨rfl, rfl⟩ rfl ?_
                refine x_iconst (v := 0) rfl ki_0 ?_
                refine z_iald (N := 2) rfl J rfl sg_138_0_2_1_0_1 jk_0 (by omega) (fun v38 qv38 ev38 => ?_)
                refine z_i2l rfl rfl (fun v39 ev39 => ?_)
                refine x_lconst (v := 1) rfl kl_1 ?_
                refine z_lsub rfl rfl jkl_1 (by omega) (fun v40 ev40 => ?_)
                refine x_inst (N := m_X12_in) (As := [.long v37, .long 0, .long v40]) (st := []) (dx9 := 1) (mc := 0) (ms := 0) (host := "") rfl t_X12_in ⟨Or.inl q_12_188, s_X12_in⟩ rfl (by decide) rfl rfl ⟨by decide, by decide⟩ (zc_X12_in rfl jkl_0 rfl (fun v41 ev41 => ?_))
                show jX m_X12_name 4 0 0 61 [(0, .ref 125), (1, .int a1), (2, .int a2), (3, .int a3)] [.int v41] _ 0 0 _
                refine x_ifeq (tgt := 73) rfl rfl (ti_eq rfl jk_0 ⟨fun c42 => ?_, fun c42 => ?_⟩)
                ·
                  refine x_iconst (v := (-1)) rfl ki_m1 ?_
                  exact jX.sub jsb_n (ct_X12_name_r125_100074 hD hQ  h J Sm)
                ·
                  refine x_aloadn (x := 125) rfl rfl ?_
                  refine z_getR (N := 92) (b := 137) 12 21 rfl f_12_51 rfl J rfl 16021 ⟨rfl, rfl⟩ rfl ?_
                  refine x_iloadn (x := a3) rfl rfl ?_
                  refine z_iald (N := 80) rfl J rfl sg_137_0_80_1_0_1 rfl (by omega) (fun v43 qv43 ev43 => ?_)
                  refine x_goto (tgt := 74) rfl rfl ?_
                  exact jX.sub jsb_n (ct_X12_name_r125_74 hD hQ  v43 h (jr_of rfl (by omega)) J Sm)
              ·
                refine x_aloadn (x := 125) rfl rfl ?_
                refine z_getR (N := 92) (b := 138) 12 22 rfl f_12_54 rfl J rfl 16022 ⟨rfl, rfl⟩ rfl ?_
                refine x_iconst (v := 0) rfl ki_0 ?_
                refine z_iald (N := 2) rfl J rfl sg_138_0_2_1_0_1 jk_0 (by omega) (fun v44 qv44 ev44 => ?_)
                refine x_goto (tgt := 74) rfl rfl ?_
                exact jX.sub jsb_n (ct_X12_name_r125_74 hD hQ  v44 h (jr_of rfl (by omega)) J Sm)
            ·
              exact jX.sub jsb_n (ct_X12_name_r125_23 hD hQ  h J Sm)
      ·
        refine x_iconst (v := 3) rfl ki_3 ?_
        refine x_goto (tgt := 18) rfl rfl ?_
        refine x_iret rfl rfl ?_
        show jX m_X12_isMention 3 0 0 27 [(0, .ref 125), (1, .int a1)] [.int 3, .int v10] _ 0 0 _
        refine x_icge (tgt := 34) rfl rfl (ti_ge rfl jk_3 (br_f (by omega) ?_))
        refine x_iconst (v := 1) rfl ki_1 ?_
        refine x_goto (tgt := 35) rfl rfl ?_
        refine x_zret rfl rfl (by decide) ?_
        show jX m_X12_name 4 0 0 10 [(0, .ref 125), (1, .int a1), (2, .int a2), (3, .int a3)] [.int 1] _ 0 0 _
        refine x_ifeq (tgt := 23) rfl rfl (ti_eq jk_1 jk_0 (br_f (by omega) ?_))
        refine x_iloadn (x := a2) rfl rfl ?_
        refine z_i2l rfl rfl (fun v45 ev45 => ?_)
        refine x_lconst (v := 0) rfl kl_0 ?_
        refine x_lconst (v := 1) rfl kl_1 ?_
        refine x_inst (N := m_X12_in) (As := [.long v45, .long 0, .long 1]) (st := []) (dx9 := 1) (mc := 0) (ms := 0) (host := "") rfl t_X12_in ⟨Or.inl q_12_188, s_X12_in⟩ rfl (by decide) rfl rfl ⟨by decide, by decide⟩ (zc_X12_in rfl jkl_0 jkl_1 (fun v46 ev46 => ?_))
        show jX m_X12_name 4 0 0 20 [(0, .ref 125), (1, .int a1), (2, .int a2), (3, .int a3)] [.int v46] _ 0 0 _
        refine x_ifne (tgt := 25) rfl rfl (ti_ne rfl jk_0 ⟨fun c47 => ?_, fun c47 => ?_⟩)
        ·
          refine x_aloadn (x := 125) rfl rfl ?_
          refine x_iloadn (x := a1) rfl rfl ?_
          refine x_iloadn (x := a2) rfl rfl ?_
          refine x_iconst (v := 0) rfl ki_0 ?_
          refine x_inv (N := m_X12_fold) (As := [.int a1, .int a2, .int 0]) (b := 125) (st := []) (dx9 := 3) (mc := 0) (ms := 0) (host := "") 12 rfl t_X12_fold ⟨Or.inl q_12_325, i_X12_fold.1, i_X12_fold.2⟩ ⟨by decide, rfl⟩ (congrArg Prod.fst (J.1.1 125 (12, 92) rfl)) rfl (by decide) rfl rfl ⟨by decide, by decide⟩ (sf_X12_fold_r125 (jr_of rfl (by omega)) (jr_of rfl (by omega)) (jr_of jk_0 (by omega)) hD J  (fun h J S48 => ?_))
          have Sm := jSm_tr rfl Sm S48
          show jX m_X12_name 4 0 0 32 [(0, .ref 125), (1, .int a1), (2, .int a2), (3, .int a3)] [] _ 0 0 _
          refine x_iloadn (x := a3) rfl rfl ?_
          refine x_iconst (v := (-1)) rfl ki_m1 ?_
          refine x_icne (tgt := 46) rfl rfl (ti_ne rfl jk_m1 ⟨fun c49 => ?_, fun c49 => ?_⟩)
          ·
            refine x_iloadn (x := a3) rfl rfl ?_
            refine z_i2l rfl rfl (fun v50 ev50 => ?_)
            refine x_lconst (v := 0) rfl kl_0 ?_
            refine x_aloadn (x := 125) rfl rfl ?_
            refine z_getR (N := 92) (b := 138) 12 22 rfl f_12_54 rfl J rfl 16022 ⟨rfl, rfl⟩ rfl ?_
            refine x_iconst (v := 0) rfl ki_0 ?_
            refine z_iald (N := 2) rfl J rfl sg_138_0_2_1_0_1 jk_0 (by omega) (fun v51 qv51 ev51 => ?_)
            refine z_i2l rfl rfl (fun v52 ev52 => ?_)
            refine x_lconst (v := 1) rfl kl_1 ?_
            refine z_lsub rfl rfl jkl_1 (by omega) (fun v53 ev53 => ?_)
            refine x_inst (N := m_X12_in) (As := [.long v50, .long 0, .long v53]) (st := []) (dx9 := 1) (mc := 0) (ms := 0) (host := "") rfl t_X12_in ⟨Or.inl q_12_188, s_X12_in⟩ rfl (by decide) rfl rfl ⟨by decide, by decide⟩ (zc_X12_in rfl jkl_0 rfl (fun v54 ev54 => ?_))
            show jX m_X12_name 4 0 0 61 [(0, .ref 125), (1, .int a1), (2, .int a2), (3, .int a3)] [.int v54] _ 0 0 _
            refine x_ifeq (tgt := 73) rfl rfl (ti_eq rfl jk_0 ⟨fun c55 => ?_, fun c55 => ?_⟩)
            ·
              refine x_iconst (v := (-1)) rfl ki_m1 ?_
              exact jX.sub jsb_n (ct_X12_name_r125_100074 hD hQ  h J Sm)
            ·
              refine x_aloadn (x := 125) rfl rfl ?_
              refine z_getR (N := 92) (b := 137) 12 21 rfl f_12_51 rfl J rfl 16021 ⟨rfl, rfl⟩ rfl ?_
              refine x_iloadn (x := a3) rfl rfl ?_
              refine z_iald (N := 80) rfl J rfl sg_137_0_80_1_0_1 rfl (by omega) (fun v56 qv56 ev56 => ?_)
              refine x_goto (tgt := 74) rfl rfl ?_
              exact jX.sub jsb_n (ct_X12_name_r125_74 hD hQ  v56 h (jr_of rfl (by omega)) J Sm)
          ·
            refine x_aloadn (x := 125) rfl rfl ?_
            refine z_getR (N := 92) (b := 138) 12 22 rfl f_12_54 rfl J rfl 16022 ⟨rfl, rfl⟩ rfl ?_
            refine x_iconst (v := 0) rfl ki_0 ?_
            refine z_iald (N := 2) rfl J rfl sg_138_0_2_1_0_1 jk_0 (by omega) (fun v57 qv57 ev57 => ?_)
            refine x_goto (tgt := 74) rfl rfl ?_
            exact jX.sub jsb_n (ct_X12_name_r125_74 hD hQ  v57 h (jr_of rfl (by omega)) J Sm)
        ·
          exact jX.sub jsb_n (ct_X12_name_r125_23 hD hQ  h J Sm)
def fp_X12_of_r125 : jFp := [(125, 0, 1)]
set_option maxRecDepth 100000 in
set_option maxHeartbeats 4000000 in
theorem ct_X12_of_r125_25 {Dy : jH → Prop} {h0 : jH} {Q : Option Value → jH → Prop} (hD : jDk Dy) (hQ : ∀ (v : Int32) hx9, jJ jSgM Dy hx9 → jSm fp_X12_of_r125 h0 hx9 → Q (some (.int v)) hx9) : ∀ (h : jH), jJ jSgM Dy h → jSm fp_X12_of_r125 h0 h → jX m_X12_of 3 0 0 25 [] [] h 0 0 Q := by
  intro  h    J Sm
  refine x_bipush (v := (-2)) rfl kb_m2 ?_
  refine x_iret rfl rfl ?_
  exact hQ _ _ J Sm
set_option maxRecDepth 100000 in
set_option maxHeartbeats 4000000 in
theorem ct_X12_of_r125_300087 {Dy : jH → Prop} {h0 : jH} {Q : Option Value → jH → Prop} (hD : jDk Dy) (hQ : ∀ (v : Int32) hx9, jJ jSgM Dy hx9 → jSm fp_X12_of_r125 h0 hx9 → Q (some (.int v)) hx9) : ∀ (h : jH), jJ jSgM Dy h → jSm fp_X12_of_r125 h0 h → jX m_X12_of 3 0 0 87 [] [.int 1] h 0 0 Q := by
  intro  h    J Sm
  refine x_iret rfl rfl ?_
  exact hQ _ _ J Sm
set_option maxRecDepth 100000 in
set_option maxHeartbeats 4000000 in
theorem ct_X12_of_r125_400087 {Dy : jH → Prop} {h0 : jH} {Q : Option Value → jH → Prop} (hD : jDk Dy) (hQ : ∀ (v : Int32) hx9, jJ jSgM Dy hx9 → jSm fp_X12_of_r125 h0 hx9 → Q (some (.int v)) hx9) : ∀ (h : jH), jJ jSgM Dy h → jSm fp_X12_of_r125 h0 h → jX m_X12_of 3 0 0 87 [] [.int 2] h 0 0 Q := by
  intro  h    J Sm
  refine x_iret rfl rfl ?_
  exact hQ _ _ J Sm
set_option maxRecDepth 100000 in
set_option maxHeartbeats 4000000 in
theorem ct_X12_of_r125_500087 {Dy : jH → Prop} {h0 : jH} {Q : Option Value → jH → Prop} (hD : jDk Dy) (hQ : ∀ (v : Int32) hx9, jJ jSgM Dy hx9 → jSm fp_X12_of_r125 h0 hx9 → Q (some (.int v)) hx9) : ∀ (h : jH), jJ jSgM Dy h → jSm fp_X12_of_r125 h0 h → jX m_X12_of 3 0 0 87 [] [.int 3] h 0 0 Q := by
  intro  h    J Sm
  refine x_iret rfl rfl ?_
  exact hQ _ _ J Sm
set_option maxRecDepth 100000 in
set_option maxHeartbeats 4000000 in
theorem ct_X12_of_r125_87 {Dy : jH → Prop} {h0 : jH} {Q : Option Value → jH → Prop} (hD : jDk Dy) (hQ : ∀ (v : Int32) hx9, jJ jSgM Dy hx9 → jSm fp_X12_of_r125 h0 hx9 → Q (some (.int v)) hx9) : ∀ (s0 : Int32) (h : jH), jJ jSgM Dy h → jSm fp_X12_of_r125 h0 h → jX m_X12_of 3 0 0 87 [] [.int s0] h 0 0 Q := by
  intro s0 h    J Sm
  have es0 := jfull s0
  refine x_iret rfl rfl ?_
  exact hQ _ _ J Sm
set_option maxRecDepth 100000 in
set_option maxHeartbeats 4000000 in
theorem sf_X12_of_r125 {Dy : jH → Prop} {h : jH} {Q : Option Value → jH → Prop} {a1 : Int32} {a2 : Int32} (hD : jDk Dy) (J : jJ jSgM Dy h) (hQ : ∀ (v : Int32) hx9, jJ jSgM Dy hx9 → jSm fp_X12_of_r125 h hx9 → Q (some (.int v)) hx9) : jC m_X12_of 3 0 0 [.ref 125, .int a1, .int a2] h Q := by
  refine jC.of rfl k_X12_of rfl ?_
  have Sm := jSm_rf fp_X12_of_r125 h
  have ea1 := jfull a1
  have ea2 := jfull a2
  show jX m_X12_of 3 0 0 0 [(0, .ref 125), (1, .int a1), (2, .int a2)] [] _ 0 0 _
  refine x_aloadn (x := 125) rfl rfl ?_
  refine x_iconst (v := 0) rfl ki_0 ?_
  refine z_putI (N := 92) (w := 0) 12 0 rfl f_12_180 rfl (jfin_no TX12 RX12 92 rfl rfl) hD J Sm rfl rfl jk_0 (pw_125_0 (by omega)) rfl (fun h w1 J Sm => ?_)
  refine x_aloadn (x := 125) rfl rfl ?_
  refine x_iloadn (x := a1) rfl rfl ?_
  refine x_inv (N := m_X12_isLine) (As := [.int a1]) (b := 125) (st := []) (dx9 := 2) (mc := 0) (ms := 0) (host := "") 12 rfl t_X12_isLine ⟨Or.inl q_12_293, i_X12_isLine.1, i_X12_isLine.2⟩ ⟨by decide, rfl⟩ (congrArg Prod.fst (J.1.1 125 (12, 92) rfl)) rfl (by decide) rfl rfl ⟨by decide, by decide⟩ (jC.of rfl k_X12_isLine rfl ?_)
  show jX m_X12_isLine 2 0 0 0 [(0, .ref 125), (1, .int a1)] [] _ 0 0 _
  refine x_iloadn (x := a1) rfl rfl ?_
  refine z_i2l rfl rfl (fun v2 ev2 => ?_)
  refine x_lconst (v := 0) rfl kl_0 ?_
  refine x_aloadn (x := 125) rfl rfl ?_
  refine z_getR (N := 92) (b := 126) 12 2 rfl f_12_8 rfl J rfl 16002 ⟨rfl, rfl⟩ rfl ?_
  refine x_iconst (v := 0) rfl ki_0 ?_
  refine z_iald (N := 50660) rfl J rfl sg_126_0_1_1_0_1 jk_0 (by omega) (fun v3 qv3 ev3 => ?_)
  refine z_i2l rfl rfl (fun v4 ev4 => ?_)
  refine x_lconst (v := 1) rfl kl_1 ?_
  refine z_lsub rfl rfl jkl_1 (by omega) (fun v5 ev5 => ?_)
  refine x_inst (N := m_X12_in) (As := [.long v2, .long 0, .long v5]) (st := []) (dx9 := 1) (mc := 0) (ms := 0) (host := "") rfl t_X12_in ⟨Or.inl q_12_188, s_X12_in⟩ rfl (by decide) rfl rfl ⟨by decide, by decide⟩ (zc_X12_in rfl jkl_0 rfl (fun v6 ev6 => ?_))
  show jX m_X12_isLine 2 0 0 15 [(0, .ref 125), (1, .int a1)] [.int v6] _ 0 0 _
  refine x_zret rfl rfl (jz01 (by omega)) ?_
  show jX m_X12_of 3 0 0 10 [(0, .ref 125), (1, .int a1), (2, .int a2)] [.int v6] _ 0 0 _
  refine x_ifeq (tgt := 25) rfl rfl (ti_eq rfl jk_0 ⟨fun c7 => ?_, fun c7 => ?_⟩)
  ·
    exact jX.sub jsb_n (ct_X12_of_r125_25 hD hQ  h J Sm)
  ·
    refine x_iloadn (x := a2) rfl rfl ?_
    refine z_i2l rfl rfl (fun v8 ev8 => ?_)
    refine x_lconst (v := 0) rfl kl_0 ?_
    refine x_ldc2 (v := 5) rfl z_12_269 ?_
    refine x_inst (N := m_X12_in) (As := [.long v8, .long 0, .long 5]) (st := []) (dx9 := 1) (mc := 0) (ms := 0) (host := "") rfl t_X12_in ⟨Or.inl q_12_188, s_X12_in⟩ rfl (by decide) rfl rfl ⟨by decide, by decide⟩ (zc_X12_in rfl jkl_0 jkl_5 (fun v9 ev9 => ?_))
    show jX m_X12_of 3 0 0 22 [(0, .ref 125), (1, .int a1), (2, .int a2)] [.int v9] _ 0 0 _
    refine x_ifne (tgt := 28) rfl rfl (ti_ne rfl jk_0 ⟨fun c10 => ?_, fun c10 => ?_⟩)
    ·
      refine x_aloadn (x := 125) rfl rfl ?_
      refine x_iloadn (x := a1) rfl rfl ?_
      refine x_inv (N := m_X12_at) (As := [.int a1]) (b := 125) (st := []) (dx9 := 2) (mc := 0) (ms := 0) (host := "") 12 rfl t_X12_at ⟨Or.inl q_12_254, i_X12_at.1, i_X12_at.2⟩ ⟨by decide, rfl⟩ (congrArg Prod.fst (J.1.1 125 (12, 92) rfl)) rfl (by decide) rfl rfl ⟨by decide, by decide⟩ (jC.of rfl k_X12_at rfl ?_)
      show jX m_X12_at 2 0 0 0 [(0, .ref 125), (1, .int a1)] [] _ 0 0 _
      refine x_bipush (v := 20) rfl kb_20 ?_
      refine x_bipush (v := 90) rfl kb_90 ?_
      refine x_iloadn (x := a1) rfl rfl ?_
      refine z_imul rfl jk_90 rfl (by omega) (fun v11 ev11 => ?_)
      refine z_iadd rfl jk_20 rfl (by omega) (fun v12 ev12 => ?_)
      refine x_iret rfl rfl ?_
      show jX m_X12_of 3 0 0 33 [(0, .ref 125), (1, .int a1), (2, .int a2)] [.int v12] _ 0 0 _
      refine x_istoren (lsx9 := [(3, .int v12), (0, .ref 125), (1, .int a1), (2, .int a2)]) rfl rfl rfl ?_
      refine x_iloadn (x := a2) rfl rfl ?_
      refine x_iconst (v := 3) rfl ki_3 ?_
      refine x_icge (tgt := 50) rfl rfl (ti_ge rfl jk_3 ⟨fun c13 => ?_, fun c13 => ?_⟩)
      ·
        refine x_iloadn (x := a2) rfl rfl ?_
        refine x_iconst (v := 3) rfl ki_3 ?_
        refine x_icne (tgt := 63) rfl rfl (ti_ne rfl jk_3 ⟨fun c14 => ?_, fun c14 => ?_⟩)
        ·
          refine x_iloadn (x := a2) rfl rfl ?_
          refine x_iconst (v := 4) rfl ki_4 ?_
          refine x_icne (tgt := 79) rfl rfl (ti_ne rfl jk_4 ⟨fun c15 => ?_, fun c15 => ?_⟩)
          ·
            refine x_aloadn (x := 125) rfl rfl ?_
            refine x_iloadn (x := a1) rfl rfl ?_
            refine x_inv (N := m_X12_bookOf) (As := [.int a1]) (b := 125) (st := []) (dx9 := 2) (mc := 0) (ms := 0) (host := "") 12 rfl t_X12_bookOf ⟨Or.inl q_12_299, i_X12_bookOf.1, i_X12_bookOf.2⟩ ⟨by decide, rfl⟩ (congrArg Prod.fst (J.1.1 125 (12, 92) rfl)) rfl (by decide) rfl rfl ⟨by decide, by decide⟩ (jC.of rfl k_X12_bookOf rfl ?_)
            show jX m_X12_bookOf 2 0 0 0 [(0, .ref 125), (1, .int a1)] [] _ 0 0 _
            refine x_aloadn (x := 125) rfl rfl ?_
            refine z_getR (N := 92) (b := 126) 12 2 rfl f_12_8 rfl J rfl 16002 ⟨rfl, rfl⟩ rfl ?_
            refine x_aloadn (x := 125) rfl rfl ?_
            refine x_iloadn (x := a1) rfl rfl ?_
            refine x_inv (N := m_X12_at) (As := [.int a1]) (b := 125) (st := [.ref 126]) (dx9 := 1) (mc := 0) (ms := 0) (host := "") 12 rfl t_X12_at ⟨Or.inl q_12_254, i_X12_at.1, i_X12_at.2⟩ ⟨by decide, rfl⟩ (congrArg Prod.fst (J.1.1 125 (12, 92) rfl)) rfl (by decide) rfl rfl ⟨by decide, by decide⟩ (jC.of rfl k_X12_at rfl ?_)
            show jX m_X12_at 1 0 0 0 [(0, .ref 125), (1, .int a1)] [] _ 0 0 _
            refine x_bipush (v := 20) rfl kb_20 ?_
            refine x_bipush (v := 90) rfl kb_90 ?_
            refine x_iloadn (x := a1) rfl rfl ?_
            refine z_imul rfl jk_90 rfl (by omega) (fun v16 ev16 => ?_)
            refine z_iadd rfl jk_20 rfl (by omega) (fun v17 ev17 => ?_)
            refine x_iret rfl rfl ?_
            show jX m_X12_bookOf 2 0 0 9 [(0, .ref 125), (1, .int a1)] [.int v17, .ref 126] _ 0 0 _
            refine z_iald (N := 50660) rfl J rfl sg_126_20_18020_90_0_1 rfl (by omega) (fun v18 qv18 ev18 => ?_)
            refine x_iret rfl rfl ?_
            show jX m_X12_of 3 0 0 84 [(3, .int v12), (0, .ref 125), (1, .int a1), (2, .int a2)] [.int v18] _ 0 0 _
            refine x_inst (N := m_X12_rolesOf) (As := [.int v18]) (st := []) (dx9 := 2) (mc := 0) (ms := 0) (host := "") rfl t_X12_rolesOf ⟨Or.inl q_12_286, s_X12_rolesOf⟩ rfl (by decide) rfl rfl ⟨by decide, by decide⟩ (jC.of rfl k_X12_rolesOf rfl ?_)
            show jX m_X12_rolesOf 2 0 0 0 [(0, .int v18)] [] _ 0 0 _
            refine x_iloadn (x := v18) rfl rfl ?_
            refine x_ifne (tgt := 8) rfl rfl (ti_ne rfl jk_0 ⟨fun c19 => ?_, fun c19 => ?_⟩)
            ·
              refine x_iloadn (x := v18) rfl rfl ?_
              refine x_iconst (v := 1) rfl ki_1 ?_
              refine x_icne (tgt := 17) rfl rfl (ti_ne rfl jk_1 ⟨fun c20 => ?_, fun c20 => ?_⟩)
              ·
                refine x_iconst (v := 1) rfl ki_1 ?_
                refine x_iret rfl rfl ?_
                show jX m_X12_of 3 0 0 87 [(3, .int v12), (0, .ref 125), (1, .int a1), (2, .int a2)] [.int 1] _ 0 0 _
                exact jX.sub jsb_n (ct_X12_of_r125_300087 hD hQ  h J Sm)
              ·
                refine x_iconst (v := 2) rfl ki_2 ?_
                refine x_goto (tgt := 18) rfl rfl ?_
                refine x_iret rfl rfl ?_
                show jX m_X12_of 3 0 0 87 [(3, .int v12), (0, .ref 125), (1, .int a1), (2, .int a2)] [.int 2] _ 0 0 _
                exact jX.sub jsb_n (ct_X12_of_r125_400087 hD hQ  h J Sm)
            ·
              refine x_iconst (v := 3) rfl ki_3 ?_
              refine x_goto (tgt := 18) rfl rfl ?_
              refine x_iret rfl rfl ?_
              show jX m_X12_of 3 0 0 87 [(3, .int v12), (0, .ref 125), (1, .int a1), (2, .int a2)] [.int 3] _ 0 0 _
              exact jX.sub jsb_n (ct_X12_of_r125_500087 hD hQ  h J Sm)
          ·
            refine x_aloadn (x := 125) rfl rfl ?_
            refine z_getR (N := 92) (b := 126) 12 2 rfl f_12_8 rfl J rfl 16002 ⟨rfl, rfl⟩ rfl ?_
            refine x_iloadn (x := v12) rfl rfl ?_
            refine x_iconst (v := 5) rfl ki_5 ?_
            refine z_iadd rfl rfl jk_5 (by omega) (fun v21 ev21 => ?_)
            refine z_iald (N := 50660) rfl J rfl sg_126_20_18020_90_5_6 rfl (by omega) (fun v22 qv22 ev22 => ?_)
            refine x_goto (tgt := 87) rfl rfl ?_
            exact jX.sub jsb_n (ct_X12_of_r125_87 hD hQ  v22 h J Sm)
        ·
          refine x_aloadn (x := 125) rfl rfl ?_
          refine x_iloadn (x := a1) rfl rfl ?_
          refine x_inv (N := m_X12_numberOf) (As := [.int a1]) (b := 125) (st := []) (dx9 := 2) (mc := 0) (ms := 0) (host := "") 12 rfl t_X12_numberOf ⟨Or.inl q_12_296, i_X12_numberOf.1, i_X12_numberOf.2⟩ ⟨by decide, rfl⟩ (congrArg Prod.fst (J.1.1 125 (12, 92) rfl)) rfl (by decide) rfl rfl ⟨by decide, by decide⟩ (jC.of rfl k_X12_numberOf rfl ?_)
          show jX m_X12_numberOf 2 0 0 0 [(0, .ref 125), (1, .int a1)] [] _ 0 0 _
          refine x_aloadn (x := 125) rfl rfl ?_
          refine z_getR (N := 92) (b := 126) 12 2 rfl f_12_8 rfl J rfl 16002 ⟨rfl, rfl⟩ rfl ?_
          refine x_aloadn (x := 125) rfl rfl ?_
          refine x_iloadn (x := a1) rfl rfl ?_
          refine x_inv (N := m_X12_at) (As := [.int a1]) (b := 125) (st := [.ref 126]) (dx9 := 1) (mc := 0) (ms := 0) (host := "") 12 rfl t_X12_at ⟨Or.inl q_12_254, i_X12_at.1, i_X12_at.2⟩ ⟨by decide, rfl⟩ (congrArg Prod.fst (J.1.1 125 (12, 92) rfl)) rfl (by decide) rfl rfl ⟨by decide, by decide⟩ (jC.of rfl k_X12_at rfl ?_)
          show jX m_X12_at 1 0 0 0 [(0, .ref 125), (1, .int a1)] [] _ 0 0 _
          refine x_bipush (v := 20) rfl kb_20 ?_
          refine x_bipush (v := 90) rfl kb_90 ?_
          refine x_iloadn (x := a1) rfl rfl ?_
          refine z_imul rfl jk_90 rfl (by omega) (fun v23 ev23 => ?_)
          refine z_iadd rfl jk_20 rfl (by omega) (fun v24 ev24 => ?_)
          refine x_iret rfl rfl ?_
          show jX m_X12_numberOf 2 0 0 9 [(0, .ref 125), (1, .int a1)] [.int v24, .ref 126] _ 0 0 _
          refine x_iconst (v := 4) rfl ki_4 ?_
          refine z_iadd rfl rfl jk_4 (by omega) (fun v25 ev25 => ?_)
          refine z_iald0 (N := 50660) rfl J rfl rfl (by omega) (fun v26 qv26 => ?_)
          have ev26 := jfull v26
          refine x_iret rfl rfl ?_
          show jX m_X12_of 3 0 0 60 [(3, .int v12), (0, .ref 125), (1, .int a1), (2, .int a2)] [.int v26] _ 0 0 _
          refine x_goto (tgt := 87) rfl rfl ?_
          exact jX.sub jsb_n (ct_X12_of_r125_87 hD hQ  v26 h J Sm)
      ·
        refine x_aloadn (x := 125) rfl rfl ?_
        refine z_getR (N := 92) (b := 126) 12 2 rfl f_12_8 rfl J rfl 16002 ⟨rfl, rfl⟩ rfl ?_
        refine x_iloadn (x := v12) rfl rfl ?_
        refine x_iloadn (x := a2) rfl rfl ?_
        refine z_iadd rfl rfl rfl (by omega) (fun v27 ev27 => ?_)
        refine z_ialdU (N := 50660) (lo := 0) (hi := 146399) rfl J rfl rfl (by omega) ((show (v27.toInt - 20) % 90 = 0 ∨ (v27.toInt - 20) % 90 = 1 ∨ (v27.toInt - 20) % 90 = 2 from by omega).elim (fun q => (jrg_w (jrg_c J sg_126_20_18020_90_0_1 rfl (by omega)) (by decide))) (fun q => q.elim (fun q => (jrg_w (jrg_c J sg_126_20_18020_90_1_2 rfl (by omega)) (by decide))) (fun q => (jrg_w (jrg_c J sg_126_20_18020_90_2_3 rfl (by omega)) (by decide))))) (fun v28 qv28 ev28 => ?_)
        refine x_goto (tgt := 87) rfl rfl ?_
        exact jX.sub jsb_n (ct_X12_of_r125_87 hD hQ  v28 h J Sm)
    ·
      exact jX.sub jsb_n (ct_X12_of_r125_25 hD hQ  h J Sm)
