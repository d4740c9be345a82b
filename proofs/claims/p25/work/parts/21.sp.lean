def fp_X12_text_r125 : jFp := [(125, 0, 1), (125, 1, 2), (125, 8, 9), (125, 9, 10), (125, 10, 11), (125, 11, 12), (125, 12, 13), (125, 13, 14), (125, 14, 15), (125, 47, 48), (125, 49, 50), (125, 52, 53), (125, 55, 56), (125, 56, 57), (126, 4, 5), (126, 16, 17), (126, 18820, 46540), (126, 49920, 50660), (147, 0, 120), (148, 0, 400), (149, 0, 400), (150, 0, 400), (151, 0, 400)]
set_option maxRecDepth 100000 in
set_option maxHeartbeats 4000000 in
theorem ct_X12_text_r125_100069 {Dy : jH → Prop} {h0 : jH} {Q : Option Value → jH → Prop} (hD : jDk Dy) (hQ : ∀ (v : Int32) hx9, jJ jSgM Dy hx9 → jSm fp_X12_text_r125 h0 hx9 → ∀ u0 u1 u2 u3 u4 : Int32, jiv hx9 126 (16 : Int32).toNatClampNeg = u0 → jiv hx9 126 (0 : Int32).toNatClampNeg = u1 → jiv hx9 126 (4 : Int32).toNatClampNeg = u2 → jiv hx9 126 (5 : Int32).toNatClampNeg = u3 → jiv hx9 126 (7 : Int32).toNatClampNeg = u4 → u0.toInt = u1.toInt + u2.toInt + u3.toInt + u4.toInt → Q (some (.int v)) hx9) : ∀ (g0 : Int32) (g1 : Int32) (g2 : Int32) (g3 : Int32) (g4 : Int32) (g5 : Int32) (g6 : Int32) (g7 : Int32) (g8 : Int32) (h : jH), 0 ≤ g0.toInt ∧ g0.toInt ≤ 200 → 0 ≤ g1.toInt ∧ g1.toInt ≤ 370 → 0 ≤ g2.toInt ∧ g2.toInt ≤ 30 → 0 ≤ g3.toInt ∧ g3.toInt ≤ 100 → 0 ≤ g4.toInt ∧ g4.toInt ≤ 40 → 0 ≤ g5.toInt ∧ g5.toInt ≤ 400 → 0 ≤ g6.toInt ∧ g6.toInt ≤ 3 → 0 ≤ g7.toInt ∧ g7.toInt ≤ 0 → 0 ≤ g8.toInt ∧ g8.toInt ≤ 400 → g1.toInt = g0.toInt + g2.toInt + g3.toInt + g4.toInt → jiv h 126 (0 : Int32).toNatClampNeg = g0 → jiv h 126 (16 : Int32).toNatClampNeg = g1 → jiv h 126 (4 : Int32).toNatClampNeg = g2 → jiv h 126 (5 : Int32).toNatClampNeg = g3 → jiv h 126 (7 : Int32).toNatClampNeg = g4 → jiv h 125 10 = g5 → jiv h 125 11 = g6 → jiv h 125 8 = g7 → jiv h 125 9 = g8 → jJ jSgM Dy h → jSm fp_X12_text_r125 h0 h → jX m_X12_text 10 0 0 69 [] [.int (-1), .ref 125] h 0 0 Q := by
  intro g0 g1 g2 g3 g4 g5 g6 g7 g8 h y0 y1 y2 y3 y4 y5 y6 y7 y8 y9 z0 z1 z2 z3 z4 z5 z6 z7 z8  J Sm
  refine x_inv (N := m_X12_told) (As := [.int (-1)]) (b := 125) (st := []) (dx9 := 1) (mc := 0) (ms := 0) (host := "") 12 rfl t_X12_told ⟨Or.inl q_12_197, i_X12_told.1, i_X12_told.2⟩ ⟨by decide, rfl⟩ (congrArg Prod.fst (J.1.1 125 (12, 92) rfl)) rfl (by decide) rfl rfl ⟨by decide, by decide⟩ (sf_X12_told_r125  hD J  (fun v2 h J S1 => ?_))
  have ev2 := jfull v2
  have Sm := jSm_tr rfl Sm S1
  show jX m_X12_text 10 0 0 72 [] [.int v2] _ 0 0 _
  refine x_iret rfl rfl ?_
  exact hQ _ _ J Sm _ _ _ _ _ (jmc S1 rfl z1) (jmc S1 rfl z0) (jmc S1 rfl z2) (jmc S1 rfl z3) (jmc S1 rfl z4) (by omega)
set_option maxRecDepth 100000 in
set_option maxHeartbeats 4000000 in
theorem ct_X12_text_r125_69 {Dy : jH → Prop} {h0 : jH} {Q : Option Value → jH → Prop} (hD : jDk Dy) (hQ : ∀ (v : Int32) hx9, jJ jSgM Dy hx9 → jSm fp_X12_text_r125 h0 hx9 → ∀ u0 u1 u2 u3 u4 : Int32, jiv hx9 126 (16 : Int32).toNatClampNeg = u0 → jiv hx9 126 (0 : Int32).toNatClampNeg = u1 → jiv hx9 126 (4 : Int32).toNatClampNeg = u2 → jiv hx9 126 (5 : Int32).toNatClampNeg = u3 → jiv hx9 126 (7 : Int32).toNatClampNeg = u4 → u0.toInt = u1.toInt + u2.toInt + u3.toInt + u4.toInt → Q (some (.int v)) hx9) : ∀ (g0 : Int32) (g1 : Int32) (g2 : Int32) (g3 : Int32) (g4 : Int32) (g5 : Int32) (g6 : Int32) (g7 : Int32) (g8 : Int32) (h : jH), 0 ≤ g0.toInt ∧ g0.toInt ≤ 200 → 0 ≤ g1.toInt ∧ g1.toInt ≤ 370 → 0 ≤ g2.toInt ∧ g2.toInt ≤ 30 → 0 ≤ g3.toInt ∧ g3.toInt ≤ 100 → 0 ≤ g4.toInt ∧ g4.toInt ≤ 40 → 0 ≤ g5.toInt ∧ g5.toInt ≤ 400 → 0 ≤ g6.toInt ∧ g6.toInt ≤ 3 → 0 ≤ g7.toInt ∧ g7.toInt ≤ 0 → 0 ≤ g8.toInt ∧ g8.toInt ≤ 400 → g1.toInt = g0.toInt + g2.toInt + g3.toInt + g4.toInt → jiv h 126 (0 : Int32).toNatClampNeg = g0 → jiv h 126 (16 : Int32).toNatClampNeg = g1 → jiv h 126 (4 : Int32).toNatClampNeg = g2 → jiv h 126 (5 : Int32).toNatClampNeg = g3 → jiv h 126 (7 : Int32).toNatClampNeg = g4 → jiv h 125 10 = g5 → jiv h 125 11 = g6 → jiv h 125 8 = g7 → jiv h 125 9 = g8 → jJ jSgM Dy h → jSm fp_X12_text_r125 h0 h → jX m_X12_text 10 0 0 69 [] [.int (-5), .ref 125] h 0 0 Q := by
  intro g0 g1 g2 g3 g4 g5 g6 g7 g8 h y0 y1 y2 y3 y4 y5 y6 y7 y8 y9 z0 z1 z2 z3 z4 z5 z6 z7 z8  J Sm
  refine x_inv (N := m_X12_told) (As := [.int (-5)]) (b := 125) (st := []) (dx9 := 1) (mc := 0) (ms := 0) (host := "") 12 rfl t_X12_told ⟨Or.inl q_12_197, i_X12_told.1, i_X12_told.2⟩ ⟨by decide, rfl⟩ (congrArg Prod.fst (J.1.1 125 (12, 92) rfl)) rfl (by decide) rfl rfl ⟨by decide, by decide⟩ (sf_X12_told_r125  hD J  (fun v2 h J S1 => ?_))
  have ev2 := jfull v2
  have Sm := jSm_tr rfl Sm S1
  show jX m_X12_text 10 0 0 72 [] [.int v2] _ 0 0 _
  refine x_iret rfl rfl ?_
  exact hQ _ _ J Sm _ _ _ _ _ (jmc S1 rfl z1) (jmc S1 rfl z0) (jmc S1 rfl z2) (jmc S1 rfl z3) (jmc S1 rfl z4) (by omega)
set_option maxRecDepth 100000 in
set_option maxHeartbeats 4000000 in
theorem ct_X12_text_r125_52 {Dy : jH → Prop} {h0 : jH} {Q : Option Value → jH → Prop} (hD : jDk Dy) (hQ : ∀ (v : Int32) hx9, jJ jSgM Dy hx9 → jSm fp_X12_text_r125 h0 hx9 → ∀ u0 u1 u2 u3 u4 : Int32, jiv hx9 126 (16 : Int32).toNatClampNeg = u0 → jiv hx9 126 (0 : Int32).toNatClampNeg = u1 → jiv hx9 126 (4 : Int32).toNatClampNeg = u2 → jiv hx9 126 (5 : Int32).toNatClampNeg = u3 → jiv hx9 126 (7 : Int32).toNatClampNeg = u4 → u0.toInt = u1.toInt + u2.toInt + u3.toInt + u4.toInt → Q (some (.int v)) hx9) : ∀ (l4 : Int32) (g0 : Int32) (g1 : Int32) (g2 : Int32) (g3 : Int32) (g4 : Int32) (g5 : Int32) (g6 : Int32) (g7 : Int32) (g8 : Int32) (h : jH), 0 ≤ l4.toInt ∧ l4.toInt ≤ 1 → 0 ≤ g0.toInt ∧ g0.toInt ≤ 200 → 0 ≤ g1.toInt ∧ g1.toInt ≤ 370 → 0 ≤ g2.toInt ∧ g2.toInt ≤ 30 → 0 ≤ g3.toInt ∧ g3.toInt ≤ 100 → 0 ≤ g4.toInt ∧ g4.toInt ≤ 40 → 0 ≤ g5.toInt ∧ g5.toInt ≤ 400 → 0 ≤ g6.toInt ∧ g6.toInt ≤ 3 → 0 ≤ g7.toInt ∧ g7.toInt ≤ 400 → 0 ≤ g8.toInt ∧ g8.toInt ≤ 400 → g1.toInt = g0.toInt + g2.toInt + g3.toInt + g4.toInt → jiv h 126 (0 : Int32).toNatClampNeg = g0 → jiv h 126 (16 : Int32).toNatClampNeg = g1 → jiv h 126 (4 : Int32).toNatClampNeg = g2 → jiv h 126 (5 : Int32).toNatClampNeg = g3 → jiv h 126 (7 : Int32).toNatClampNeg = g4 → jiv h 125 10 = g5 → jiv h 125 11 = g6 → jiv h 125 8 = g7 → jiv h 125 9 = g8 → jJ jSgM Dy h → jSm fp_X12_text_r125 h0 h → jX m_X12_text 10 0 0 52 [(0, .ref 125), (4, .int l4)] [] h 0 0 Q := by
  intro l4 g0 g1 g2 g3 g4 g5 g6 g7 g8 h y0 y1 y2 y3 y4 y5 y6 y7 y8 y9 y10 z0 z1 z2 z3 z4 z5 z6 z7 z8  J Sm
  refine x_aloadn (x := 125) rfl rfl ?_
  refine x_iconst (v := 0) rfl ki_0 ?_
  refine z_putI (N := 92) (w := 0) 12 8 rfl f_12_201 rfl (jfin_no TX12 RX12 92 rfl rfl) hD J Sm rfl rfl jk_0 (pw_125_8 (by omega)) rfl (fun h w1 J Sm => ?_)
  refine x_aloadn (x := 125) rfl rfl ?_
  refine x_iload (x := l4) rfl rfl ?_
  refine x_ifeq (tgt := 68) rfl rfl (ti_eq rfl jk_0 ⟨fun c2 => ?_, fun c2 => ?_⟩)
  ·
    refine x_iconst (v := (-1)) rfl ki_m1 ?_
    exact jX.sub jsb_n (ct_X12_text_r125_100069 hD hQ  g0 g1 g2 g3 g4 g5 g6 0 g8 h (jr_of rfl (by omega)) (jr_of rfl (by omega)) (jr_of rfl (by omega)) (jr_of rfl (by omega)) (jr_of rfl (by omega)) (jr_of rfl (by omega)) (jr_of rfl (by omega)) (jr_of jk_0 (by omega)) (jr_of rfl (by omega)) (by omega) (jmo w1 rfl z0) (jmo w1 rfl z1) (jmo w1 rfl z2) (jmo w1 rfl z3) (jmo w1 rfl z4) (jmo w1 rfl z5) (jmo w1 rfl z6) (jmw w1) (jmo w1 rfl z8) J Sm)
  ·
    refine x_bipush (v := (-5)) rfl kb_m5 ?_
    refine x_goto (tgt := 69) rfl rfl ?_
    exact jX.sub jsb_n (ct_X12_text_r125_69 hD hQ  g0 g1 g2 g3 g4 g5 g6 0 g8 h (jr_of rfl (by omega)) (jr_of rfl (by omega)) (jr_of rfl (by omega)) (jr_of rfl (by omega)) (jr_of rfl (by omega)) (jr_of rfl (by omega)) (jr_of rfl (by omega)) (jr_of jk_0 (by omega)) (jr_of rfl (by omega)) (by omega) (jmo w1 rfl z0) (jmo w1 rfl z1) (jmo w1 rfl z2) (jmo w1 rfl z3) (jmo w1 rfl z4) (jmo w1 rfl z5) (jmo w1 rfl z6) (jmw w1) (jmo w1 rfl z8) J Sm)
set_option maxRecDepth 100000 in
set_option maxHeartbeats 4000000 in
theorem ct_X12_text_r125_142 {Dy : jH → Prop} {h0 : jH} {Q : Option Value → jH → Prop} (hD : jDk Dy) (hQ : ∀ (v : Int32) hx9, jJ jSgM Dy hx9 → jSm fp_X12_text_r125 h0 hx9 → ∀ u0 u1 u2 u3 u4 : Int32, jiv hx9 126 (16 : Int32).toNatClampNeg = u0 → jiv hx9 126 (0 : Int32).toNatClampNeg = u1 → jiv hx9 126 (4 : Int32).toNatClampNeg = u2 → jiv hx9 126 (5 : Int32).toNatClampNeg = u3 → jiv hx9 126 (7 : Int32).toNatClampNeg = u4 → u0.toInt = u1.toInt + u2.toInt + u3.toInt + u4.toInt → Q (some (.int v)) hx9) : ∀ (l1 : Int32) (l2 : Int32) (l3 : Int32) (g0 : Int32) (g1 : Int32) (g2 : Int32) (g3 : Int32) (g4 : Int32) (g5 : Int32) (g6 : Int32) (g7 : Int32) (g8 : Int32) (h : jH), 0 ≤ l1.toInt ∧ l1.toInt ≤ 1 → 0 ≤ l2.toInt ∧ l2.toInt ≤ 146399 → 0 ≤ l3.toInt ∧ l3.toInt ≤ 146399 → 0 ≤ g0.toInt ∧ g0.toInt ≤ 200 → 0 ≤ g1.toInt ∧ g1.toInt ≤ 369 → 0 ≤ g2.toInt ∧ g2.toInt ≤ 29 → 0 ≤ g3.toInt ∧ g3.toInt ≤ 100 → 0 ≤ g4.toInt ∧ g4.toInt ≤ 40 → 0 ≤ g5.toInt ∧ g5.toInt ≤ 400 → 0 ≤ g6.toInt ∧ g6.toInt ≤ 3 → 0 ≤ g7.toInt ∧ g7.toInt ≤ 400 → 0 ≤ g8.toInt ∧ g8.toInt ≤ 400 → jRk (jnK h) h h → g1.toInt = g0.toInt + g2.toInt + g3.toInt + g4.toInt → (g5.toInt ≤ g7.toInt ∧ g8.toInt ≤ g5.toInt) → (g6.toInt = 0 ∨ g8.toInt + 1 ≤ g5.toInt) → jiv h 126 (0 : Int32).toNatClampNeg = g0 → jiv h 126 (16 : Int32).toNatClampNeg = g1 → jiv h 126 (4 : Int32).toNatClampNeg = g2 → jiv h 126 (5 : Int32).toNatClampNeg = g3 → jiv h 126 (7 : Int32).toNatClampNeg = g4 → jiv h 125 10 = g5 → jiv h 125 11 = g6 → jiv h 125 8 = g7 → jiv h 125 9 = g8 → jJ jSgM Dy h → jSm fp_X12_text_r125 h0 h → jX m_X12_text 10 0 0 142 [(0, .ref 125), (1, .int l1), (2, .int l2), (3, .int l3)] [] h 0 0 Q := by
  intro l1 l2 l3 g0 g1 g2 g3 g4 g5 g6 g7 g8 h y0 y1 y2 y3 y4 y5 y6 y7 y8 y9 y10 y11 C0 y13 y14 y15 z0 z1 z2 z3 z4 z5 z6 z7 z8  J Sm
  refine x_aloadn (x := 125) rfl rfl ?_
  refine x_iconst (v := 0) rfl ki_0 ?_
  refine z_putI (N := 92) (w := 0) 12 8 rfl f_12_201 rfl (jfin_no TX12 RX12 92 rfl rfl) hD J Sm rfl rfl jk_0 (pw_125_8 (by omega)) rfl (fun h w1 J Sm => ?_)
  refine x_aloadn (x := 125) rfl rfl ?_
  refine z_getI (N := 92) 12 14 rfl f_12_214 rfl J rfl sg_125_14_15_1_0_1 (fun v2 qv2 ev2 => ?_)
  refine x_ifeq (tgt := 161) rfl rfl (ti_eq rfl jk_0 ⟨fun c3 => ?_, fun c3 => ?_⟩)
  ·
    exact jX.sub (jsb_c rfl (jsb_c rfl (jsb_c rfl (jsb_c rfl jsb_n)))) (tx_tail hD J Sm rfl rfl rfl rfl rfl (by omega) (by omega) (by omega) (rk_z C0 (ke_o w1 rfl rfl rfl rfl)) qv2 (by omega) (jmo w1 rfl z1) (jmo w1 rfl z0) (jmo w1 rfl z2) (jmo w1 rfl z3) (jmo w1 rfl z4) (by omega) (by omega) hQ)
  ·
    refine x_aloadn (x := 125) rfl rfl ?_
    refine x_bipush (v := (-6)) rfl kb_m6 ?_
    refine x_inv (N := m_X12_told) (As := [.int (-6)]) (b := 125) (st := []) (dx9 := 1) (mc := 0) (ms := 0) (host := "") 12 rfl t_X12_told ⟨Or.inl q_12_197, i_X12_told.1, i_X12_told.2⟩ ⟨by decide, rfl⟩ (congrArg Prod.fst (J.1.1 125 (12, 92) rfl)) rfl (by decide) rfl rfl ⟨by decide, by decide⟩ (sf_X12_told_r125  hD J  (fun v5 h J S4 => ?_))
    have ev5 := jfull v5
    have Sm := jSm_tr rfl Sm S4
    show jX m_X12_text 10 0 0 160 [(0, .ref 125), (1, .int l1), (2, .int l2), (3, .int l3)] [.int v5] _ 0 0 _
    refine x_iret rfl rfl ?_
    exact hQ _ _ J Sm _ _ _ _ _ (jmc S4 rfl (jmo w1 rfl z1)) (jmc S4 rfl (jmo w1 rfl z0)) (jmc S4 rfl (jmo w1 rfl z2)) (jmc S4 rfl (jmo w1 rfl z3)) (jmc S4 rfl (jmo w1 rfl z4)) (by omega)
set_option maxRecDepth 100000 in
set_option maxHeartbeats 4000000 in
theorem ct_X12_text_r125_123 {Dy : jH → Prop} {h0 : jH} {Q : Option Value → jH → Prop} (hD : jDk Dy) (hQ : ∀ (v : Int32) hx9, jJ jSgM Dy hx9 → jSm fp_X12_text_r125 h0 hx9 → ∀ u0 u1 u2 u3 u4 : Int32, jiv hx9 126 (16 : Int32).toNatClampNeg = u0 → jiv hx9 126 (0 : Int32).toNatClampNeg = u1 → jiv hx9 126 (4 : Int32).toNatClampNeg = u2 → jiv hx9 126 (5 : Int32).toNatClampNeg = u3 → jiv hx9 126 (7 : Int32).toNatClampNeg = u4 → u0.toInt = u1.toInt + u2.toInt + u3.toInt + u4.toInt → Q (some (.int v)) hx9) : ∀ (l1 : Int32) (l2 : Int32) (l3 : Int32) (g0 : Int32) (g1 : Int32) (g2 : Int32) (g3 : Int32) (g4 : Int32) (g5 : Int32) (g6 : Int32) (g7 : Int32) (g8 : Int32) (g9 : Int32) (h : jH), 0 ≤ l1.toInt ∧ l1.toInt ≤ 1 → 0 ≤ l2.toInt ∧ l2.toInt ≤ 146399 → 0 ≤ l3.toInt ∧ l3.toInt ≤ 146399 → 0 ≤ g0.toInt ∧ g0.toInt ≤ 200 → 0 ≤ g1.toInt ∧ g1.toInt ≤ 369 → 0 ≤ g2.toInt ∧ g2.toInt ≤ 29 → 0 ≤ g3.toInt ∧ g3.toInt ≤ 100 → 0 ≤ g4.toInt ∧ g4.toInt ≤ 40 → 0 ≤ g5.toInt ∧ g5.toInt ≤ 400 → 0 ≤ g6.toInt ∧ g6.toInt ≤ 3 → 0 ≤ g7.toInt ∧ g7.toInt ≤ 1 → 0 ≤ g8.toInt ∧ g8.toInt ≤ 400 → 0 ≤ g9.toInt ∧ g9.toInt ≤ 400 → jRk (jnK h) h h → g1.toInt = g0.toInt + g2.toInt + g3.toInt + g4.toInt → (g5.toInt ≤ g8.toInt ∧ g9.toInt ≤ g5.toInt) → (g6.toInt = 0 ∨ g9.toInt + 1 ≤ g5.toInt) → jiv h 126 (0 : Int32).toNatClampNeg = g0 → jiv h 126 (16 : Int32).toNatClampNeg = g1 → jiv h 126 (4 : Int32).toNatClampNeg = g2 → jiv h 126 (5 : Int32).toNatClampNeg = g3 → jiv h 126 (7 : Int32).toNatClampNeg = g4 → jiv h 125 10 = g5 → jiv h 125 11 = g6 → jiv h 125 14 = g7 → jiv h 125 8 = g8 → jiv h 125 9 = g9 → jJ jSgM Dy h → jSm fp_X12_text_r125 h0 h → jX m_X12_text 10 0 0 123 [(0, .ref 125), (1, .int l1), (2, .int l2), (3, .int l3)] [] h 0 0 Q := by
  intro l1 l2 l3 g0 g1 g2 g3 g4 g5 g6 g7 g8 g9 h y0 y1 y2 y3 y4 y5 y6 y7 y8 y9 y10 y11 y12 C0 y14 y15 y16 z0 z1 z2 z3 z4 z5 z6 z7 z8 z9  J Sm
  refine x_aloadn (x := 125) rfl rfl ?_
  refine z_getM (N := 92) (v := g7) 12 14 rfl f_12_214 rfl J rfl z7 ?_
  refine x_ifne (tgt := 142) rfl rfl (ti_ne rfl jk_0 ⟨fun c1 => ?_, fun c1 => ?_⟩)
  ·
    exact jX.sub (jsb_c rfl (jsb_c rfl (jsb_c rfl (jsb_c rfl jsb_n)))) (ct_X12_text_r125_142 hD hQ  l1 l2 l3 g0 g1 g2 g3 g4 g5 g6 g8 g9 h (jr_of rfl (by omega)) (jr_of rfl (by omega)) (jr_of rfl (by omega)) (jr_of rfl (by omega)) (jr_of rfl (by omega)) (jr_of rfl (by omega)) (jr_of rfl (by omega)) (jr_of rfl (by omega)) (jr_of rfl (by omega)) (jr_of rfl (by omega)) (jr_of rfl (by omega)) (jr_of rfl (by omega)) C0 (by omega) (by omega) (by omega) z0 z1 z2 z3 z4 z5 z6 z8 z9 J Sm)
  ·
    refine x_aloadn (x := 125) rfl rfl ?_
    refine z_getM (N := 92) (v := g6) 12 11 rfl f_12_235 rfl J rfl z6 ?_
    refine x_ifeq (tgt := 142) rfl rfl (ti_eq rfl jk_0 ⟨fun c2 => ?_, fun c2 => ?_⟩)
    ·
      exact jX.sub (jsb_c rfl (jsb_c rfl (jsb_c rfl (jsb_c rfl jsb_n)))) (ct_X12_text_r125_142 hD hQ  l1 l2 l3 g0 g1 g2 g3 g4 g5 g6 g8 g9 h (jr_of rfl (by omega)) (jr_of rfl (by omega)) (jr_of rfl (by omega)) (jr_of rfl (by omega)) (jr_of rfl (by omega)) (jr_of rfl (by omega)) (jr_of rfl (by omega)) (jr_of rfl (by omega)) (jr_of rfl (by omega)) (jr_of rfl (by omega)) (jr_of rfl (by omega)) (jr_of rfl (by omega)) C0 (by omega) (by omega) (by omega) z0 z1 z2 z3 z4 z5 z6 z8 z9 J Sm)
    ·
      refine x_aloadn (x := 125) rfl rfl ?_
      refine x_iconst (v := 0) rfl ki_0 ?_
      refine x_inv (N := m_X12_must) (As := [.int 0]) (b := 125) (st := []) (dx9 := 3) (mc := 0) (ms := 0) (host := "") 12 rfl t_X12_must ⟨Or.inl q_12_250, i_X12_must.1, i_X12_must.2⟩ ⟨by decide, rfl⟩ (congrArg Prod.fst (J.1.1 125 (12, 92) rfl)) rfl (by decide) rfl rfl ⟨by decide, by decide⟩ (sf_X12_must_r125 (jr_of jk_0 (by omega)) hD J z5 z8 z9 (by omega) z6 z9 z5 (by omega)  (fun h J S3 u4 u5 u6 qu4 qu5 qu6 ru4 u7 u8 u9 qu7 qu8 qu9 ru7 P10 => ?_))
      have Sm := jSm_tr rfl Sm S3
      have eu4 := (show 0 ≤ u4.toInt ∧ u4.toInt ≤ 400 from qu4 ▸ jrg_f J sg_125_10_11_1_0_1)
      have eu5 := (show 0 ≤ u5.toInt ∧ u5.toInt ≤ 400 from qu5 ▸ jrg_f J sg_125_8_9_1_0_1)
      have eu6 := (show 0 ≤ u6.toInt ∧ u6.toInt ≤ 400 from qu6 ▸ jrg_f J sg_125_9_10_1_0_1)
      have eu7 := (show 0 ≤ u7.toInt ∧ u7.toInt ≤ 3 from qu7 ▸ jrg_f J sg_125_11_12_1_0_1)
      obtain rfl : u6 = u8 := qu6.symm.trans qu8
      obtain rfl : u4 = u9 := qu4.symm.trans qu9
      show jX m_X12_text 10 0 0 142 [(0, .ref 125), (1, .int l1), (2, .int l2), (3, .int l3)] [] _ 0 0 _
      exact jX.sub (jsb_c rfl (jsb_c rfl (jsb_c rfl (jsb_c rfl jsb_n)))) (ct_X12_text_r125_142 hD hQ  l1 l2 l3 g0 g1 g2 g3 g4 u4 u7 u5 u6 h (jr_of rfl (by omega)) (jr_of rfl (by omega)) (jr_of rfl (by omega)) (jr_of rfl (by omega)) (jr_of rfl (by omega)) (jr_of rfl (by omega)) (jr_of rfl (by omega)) (jr_of rfl (by omega)) (jr_of rfl (by omega)) (jr_of rfl (by omega)) (jr_of rfl (by omega)) (jr_of rfl (by omega)) (rk_h (rk_z C0 (ke_c S3 rfl rfl rfl rfl rfl P10.1))) (by omega) (by omega) (by omega) (jmc S3 rfl z0) (jmc S3 rfl z1) (jmc S3 rfl z2) (jmc S3 rfl z3) (jmc S3 rfl z4) qu4 qu7 qu5 qu6 J Sm)
set_option maxRecDepth 100000 in
set_option maxHeartbeats 4000000 in
theorem ct_X12_text_r125_96 {Dy : jH → Prop} {h0 : jH} {Q : Option Value → jH → Prop} (hD : jDk Dy) (hQ : ∀ (v : Int32) hx9, jJ jSgM Dy hx9 → jSm fp_X12_text_r125 h0 hx9 → ∀ u0 u1 u2 u3 u4 : Int32, jiv hx9 126 (16 : Int32).toNatClampNeg = u0 → jiv hx9 126 (0 : Int32).toNatClampNeg = u1 → jiv hx9 126 (4 : Int32).toNatClampNeg = u2 → jiv hx9 126 (5 : Int32).toNatClampNeg = u3 → jiv hx9 126 (7 : Int32).toNatClampNeg = u4 → u0.toInt = u1.toInt + u2.toInt + u3.toInt + u4.toInt → Q (some (.int v)) hx9) : ∀ r : Nat, ∀ (l1 : Int32) (l2 : Int32) (l3 : Int32) (g0 : Int32) (g1 : Int32) (g2 : Int32) (g3 : Int32) (g4 : Int32) (g5 : Int32) (g6 : Int32) (g7 : Int32) (g8 : Int32) (h : jH), 400 - g8.toInt < (r : Int) → 0 ≤ l1.toInt ∧ l1.toInt ≤ 1 → 0 ≤ l2.toInt ∧ l2.toInt ≤ 146399 → 0 ≤ l3.toInt ∧ l3.toInt ≤ 146399 → 0 ≤ g0.toInt ∧ g0.toInt ≤ 200 → 0 ≤ g1.toInt ∧ g1.toInt ≤ 369 → 0 ≤ g2.toInt ∧ g2.toInt ≤ 29 → 0 ≤ g3.toInt ∧ g3.toInt ≤ 100 → 0 ≤ g4.toInt ∧ g4.toInt ≤ 40 → 0 ≤ g5.toInt ∧ g5.toInt ≤ 400 → 0 ≤ g6.toInt ∧ g6.toInt ≤ 3 → 0 ≤ g7.toInt ∧ g7.toInt ≤ 400 → 0 ≤ g8.toInt ∧ g8.toInt ≤ 400 → jRk (jnK h) h h → g1.toInt = g0.toInt + g2.toInt + g3.toInt + g4.toInt → (g5.toInt ≤ g7.toInt ∧ g8.toInt ≤ g5.toInt) → (g6.toInt = 0 ∨ g8.toInt + 1 ≤ g5.toInt) → jiv h 126 (0 : Int32).toNatClampNeg = g0 → jiv h 126 (16 : Int32).toNatClampNeg = g1 → jiv h 126 (4 : Int32).toNatClampNeg = g2 → jiv h 126 (5 : Int32).toNatClampNeg = g3 → jiv h 126 (7 : Int32).toNatClampNeg = g4 → jiv h 125 10 = g5 → jiv h 125 11 = g6 → jiv h 125 8 = g7 → jiv h 125 9 = g8 → jJ jSgM Dy h → jSm fp_X12_text_r125 h0 h → jX m_X12_text 10 0 0 96 [(0, .ref 125), (1, .int l1), (2, .int l2), (3, .int l3)] [] h 0 0 Q := by
  intro r
  induction r with
  | zero =>
    intro l1 l2 l3 g0 g1 g2 g3 g4 g5 g6 g7 g8 h hm y0 y1 y2 y3 y4 y5 y6 y7 y8 y9 y10 y11 C0 y13 y14 y15 z0 z1 z2 z3 z4 z5 z6 z7 z8  J Sm
    exfalso
    omega
  | succ r ih =>
    intro l1 l2 l3 g0 g1 g2 g3 g4 g5 g6 g7 g8 h hm y0 y1 y2 y3 y4 y5 y6 y7 y8 y9 y10 y11 C0 y13 y14 y15 z0 z1 z2 z3 z4 z5 z6 z7 z8  J Sm
    refine x_aloadn (x := 125) rfl rfl ?_
    refine z_getI (N := 92) 12 14 rfl f_12_214 rfl J rfl sg_125_14_15_1_0_1 (fun v1 qv1 ev1 => ?_)
    refine x_ifne (tgt := 123) rfl rfl (ti_ne rfl jk_0 ⟨fun c2 => ?_, fun c2 => ?_⟩)
    ·
      exact jX.sub (jsb_c rfl (jsb_c rfl (jsb_c rfl (jsb_c rfl jsb_n)))) (ct_X12_text_r125_123 hD hQ  l1 l2 l3 g0 g1 g2 g3 g4 g5 g6 v1 g7 g8 h (jr_of rfl (by omega)) (jr_of rfl (by omega)) (jr_of rfl (by omega)) (jr_of rfl (by omega)) (jr_of rfl (by omega)) (jr_of rfl (by omega)) (jr_of rfl (by omega)) (jr_of rfl (by omega)) (jr_of rfl (by omega)) (jr_of rfl (by omega)) (jr_of rfl (by omega)) (jr_of rfl (by omega)) (jr_of rfl (by omega)) C0 (by omega) (by omega) (by omega) z0 z1 z2 z3 z4 z5 z6 qv1 z7 z8 J Sm)
    ·
      refine x_aloadn (x := 125) rfl rfl ?_
      refine x_bipush (v := 59) rfl kb_59 ?_
      refine x_inv (N := m_X12_isSign) (As := [.int 59]) (b := 125) (st := []) (dx9 := 9) (mc := 0) (ms := 0) (host := "") 12 rfl t_X12_isSign ⟨Or.inl q_12_257, i_X12_isSign.1, i_X12_isSign.2⟩ ⟨by decide, rfl⟩ (congrArg Prod.fst (J.1.1 125 (12, 92) rfl)) rfl (by decide) rfl rfl ⟨by decide, by decide⟩ (jC.of rfl k_X12_isSign rfl ?_)
      show jX m_X12_isSign 9 0 0 0 [(0, .ref 125), (1, .int 59)] [] _ 0 0 _
      refine x_aloadn (x := 125) rfl rfl ?_
      refine z_getM (N := 92) (v := g6) 12 11 rfl f_12_235 rfl J rfl z6 ?_
      refine x_iconst (v := 3) rfl ki_3 ?_
      refine x_icne (tgt := 22) rfl rfl (ti_ne rfl jk_3 ⟨fun c3 => ?_, fun c3 => ?_⟩)
      ·
        refine x_iconst (v := 0) rfl ki_0 ?_
        refine x_zret rfl rfl (by decide) ?_
        show jX m_X12_text 10 0 0 109 [(0, .ref 125), (1, .int l1), (2, .int l2), (3, .int l3)] [.int 0] _ 0 0 _
        refine x_ifeq (tgt := 123) rfl rfl (ti_eq jk_0 jk_0 (br_t (by omega) ?_))
        exact jX.sub (jsb_c rfl (jsb_c rfl (jsb_c rfl (jsb_c rfl jsb_n)))) (ct_X12_text_r125_123 hD hQ  l1 l2 l3 g0 g1 g2 g3 g4 g5 g6 v1 g7 g8 h (jr_of rfl (by omega)) (jr_of rfl (by omega)) (jr_of rfl (by omega)) (jr_of rfl (by omega)) (jr_of rfl (by omega)) (jr_of rfl (by omega)) (jr_of rfl (by omega)) (jr_of rfl (by omega)) (jr_of rfl (by omega)) (jr_of rfl (by omega)) (jr_of rfl (by omega)) (jr_of rfl (by omega)) (jr_of rfl (by omega)) C0 (by omega) (by omega) (by omega) z0 z1 z2 z3 z4 z5 z6 qv1 z7 z8 J Sm)
      ·
        refine x_aloadn (x := 125) rfl rfl ?_
        refine z_getL0 (N := 92) 12 12 rfl f_12_224 rfl J rfl (fun v4 => ?_)
        have ev4 := jfullL v4
        refine x_iloadn (x := 59) rfl rfl ?_
        refine z_i2l rfl jk_59 (fun v5 ev5 => ?_)
        refine z_lcmp rfl rfl rfl (fun v6 ev6 => ?_)
        refine x_ifne (tgt := 22) rfl rfl (ti_ne rfl jk_0 ⟨fun c7 => ?_, fun c7 => ?_⟩)
        ·
          refine x_iconst (v := 0) rfl ki_0 ?_
          refine x_zret rfl rfl (by decide) ?_
          show jX m_X12_text 10 0 0 109 [(0, .ref 125), (1, .int l1), (2, .int l2), (3, .int l3)] [.int 0] _ 0 0 _
          refine x_ifeq (tgt := 123) rfl rfl (ti_eq jk_0 jk_0 (br_t (by omega) ?_))
          exact jX.sub (jsb_c rfl (jsb_c rfl (jsb_c rfl (jsb_c rfl jsb_n)))) (ct_X12_text_r125_123 hD hQ  l1 l2 l3 g0 g1 g2 g3 g4 g5 g6 v1 g7 g8 h (jr_of rfl (by omega)) (jr_of rfl (by omega)) (jr_of rfl (by omega)) (jr_of rfl (by omega)) (jr_of rfl (by omega)) (jr_of rfl (by omega)) (jr_of rfl (by omega)) (jr_of rfl (by omega)) (jr_of rfl (by omega)) (jr_of rfl (by omega)) (jr_of rfl (by omega)) (jr_of rfl (by omega)) (jr_of rfl (by omega)) C0 (by omega) (by omega) (by omega) z0 z1 z2 z3 z4 z5 z6 qv1 z7 z8 J Sm)
        ·
          refine x_iconst (v := 1) rfl ki_1 ?_
          refine x_goto (tgt := 23) rfl rfl ?_
          refine x_zret rfl rfl (by decide) ?_
          show jX m_X12_text 10 0 0 109 [(0, .ref 125), (1, .int l1), (2, .int l2), (3, .int l3)] [.int 1] _ 0 0 _
          refine x_ifeq (tgt := 123) rfl rfl (ti_eq jk_1 jk_0 (br_f (by omega) ?_))
          refine x_aloadn (x := 125) rfl rfl ?_
          refine x_inv (N := m_X12_next) (As := []) (b := 125) (st := []) (dx9 := 2) (mc := 0) (ms := 0) (host := "") 12 rfl t_X12_next ⟨Or.inl q_12_218, i_X12_next.1, i_X12_next.2⟩ ⟨by decide, rfl⟩ (congrArg Prod.fst (J.1.1 125 (12, 92) rfl)) rfl (by decide) rfl rfl ⟨by decide, by decide⟩ (sf_X12_next_r125  hD J z5 z7 (by omega)  (fun h J S8 u9 u10 u11 qu9 qu10 qu11 ru9 u12 u13 u14 qu12 qu13 qu14 ru12 P15 => ?_))
          have Sm := jSm_tr rfl Sm S8
          have eu9 := (show 0 ≤ u9.toInt ∧ u9.toInt ≤ 400 from qu9 ▸ jrg_f J sg_125_10_11_1_0_1)
          have eu10 := (show 0 ≤ u10.toInt ∧ u10.toInt ≤ 400 from qu10 ▸ jrg_f J sg_125_8_9_1_0_1)
          have eu11 := (show 0 ≤ u11.toInt ∧ u11.toInt ≤ 400 from qu11 ▸ jrg_f J sg_125_9_10_1_0_1)
          have eu12 := (show 0 ≤ u12.toInt ∧ u12.toInt ≤ 3 from qu12 ▸ jrg_f J sg_125_11_12_1_0_1)
          obtain rfl : u11 = u13 := qu11.symm.trans qu13
          obtain rfl : u9 = u14 := qu9.symm.trans qu14
          have nfP15 := jnf P15.1 z5 qu11
          show jX m_X12_text 10 0 0 116 [(0, .ref 125), (1, .int l1), (2, .int l2), (3, .int l3)] [] _ 0 0 _
          refine x_aloadn (x := 125) rfl rfl ?_
          refine x_inv (N := m_X12_readClause) (As := []) (b := 125) (st := []) (dx9 := 9) (mc := 0) (ms := 0) (host := "") 12 rfl t_X12_readClause ⟨Or.inl q_12_673, i_X12_readClause.1, i_X12_readClause.2⟩ ⟨by decide, rfl⟩ (congrArg Prod.fst (J.1.1 125 (12, 92) rfl)) rfl (by decide) rfl rfl ⟨by decide, by decide⟩ (sf_X12_readClause_r125  (rk_h (rk_z C0 (ke_f S8 rfl rfl rfl rfl rfl rfl z8 qu11 (by omega)))) hD J qu9 qu10 qu11 (by omega) qu12 qu11 qu9 (by omega)  (fun h J S16 u17 u18 u19 qu17 qu18 qu19 ru17 u20 u21 u22 qu20 qu21 qu22 ru20 P23 => ?_))
          have Sm := jSm_tr rfl Sm S16
          have eu17 := (show 0 ≤ u17.toInt ∧ u17.toInt ≤ 400 from qu17 ▸ jrg_f J sg_125_10_11_1_0_1)
          have eu18 := (show 0 ≤ u18.toInt ∧ u18.toInt ≤ 400 from qu18 ▸ jrg_f J sg_125_8_9_1_0_1)
          have eu19 := (show 0 ≤ u19.toInt ∧ u19.toInt ≤ 400 from qu19 ▸ jrg_f J sg_125_9_10_1_0_1)
          have eu20 := (show 0 ≤ u20.toInt ∧ u20.toInt ≤ 3 from qu20 ▸ jrg_f J sg_125_11_12_1_0_1)
          obtain rfl : u19 = u21 := qu19.symm.trans qu21
          obtain rfl : u17 = u22 := qu17.symm.trans qu22
          have nkP23 := rk_f P23 qu11 qu19
          show jX m_X12_text 10 0 0 120 [(0, .ref 125), (1, .int l1), (2, .int l2), (3, .int l3)] [] _ 0 0 _
          refine x_goto (tgt := 96) rfl rfl ?_
          exact jX.sub (jsb_c rfl (jsb_c rfl (jsb_c rfl (jsb_c rfl jsb_n)))) (ih l1 l2 l3 g0 g1 g2 g3 g4 u17 u20 u18 u19 h (by omega) (jr_of rfl (by omega)) (jr_of rfl (by omega)) (jr_of rfl (by omega)) (jr_of rfl (by omega)) (jr_of rfl (by omega)) (jr_of rfl (by omega)) (jr_of rfl (by omega)) (jr_of rfl (by omega)) (jr_of rfl (by omega)) (jr_of rfl (by omega)) (jr_of rfl (by omega)) (jr_of rfl (by omega)) (rk_h P23) (by omega) (by omega) (by omega) (jmc S16 rfl (jmc S8 rfl z0)) (jmc S16 rfl (jmc S8 rfl z1)) (jmc S16 rfl (jmc S8 rfl z2)) (jmc S16 rfl (jmc S8 rfl z3)) (jmc S16 rfl (jmc S8 rfl z4)) qu17 qu20 qu18 qu19 J Sm)
set_option maxRecDepth 100000 in
set_option maxHeartbeats 4000000 in
theorem ct_X12_text_r125_300034 {Dy : jH → Prop} {h0 : jH} {Q : Option Value → jH → Prop} (hD : jDk Dy) (hQ : ∀ (v : Int32) hx9, jJ jSgM Dy hx9 → jSm fp_X12_text_r125 h0 hx9 → ∀ u0 u1 u2 u3 u4 : Int32, jiv hx9 126 (16 : Int32).toNatClampNeg = u0 → jiv hx9 126 (0 : Int32).toNatClampNeg = u1 → jiv hx9 126 (4 : Int32).toNatClampNeg = u2 → jiv hx9 126 (5 : Int32).toNatClampNeg = u3 → jiv hx9 126 (7 : Int32).toNatClampNeg = u4 → u0.toInt = u1.toInt + u2.toInt + u3.toInt + u4.toInt → Q (some (.int v)) hx9) : ∀ (l1 : Int32) (l2 : Int32) (l3 : Int32) (g0 : Int32) (g1 : Int32) (g2 : Int32) (g3 : Int32) (g4 : Int32) (g5 : Int32) (g6 : Int32) (g7 : Int32) (g8 : Int32) (h : jH), 0 ≤ l1.toInt ∧ l1.toInt ≤ 1 → 0 ≤ l2.toInt ∧ l2.toInt ≤ 146399 → 0 ≤ l3.toInt ∧ l3.toInt ≤ 146399 → 0 ≤ g0.toInt ∧ g0.toInt ≤ 200 → 0 ≤ g1.toInt ∧ g1.toInt ≤ 370 → 0 ≤ g2.toInt ∧ g2.toInt ≤ 30 → 0 ≤ g3.toInt ∧ g3.toInt ≤ 100 → 0 ≤ g4.toInt ∧ g4.toInt ≤ 40 → 0 ≤ g5.toInt ∧ g5.toInt ≤ 400 → 0 ≤ g6.toInt ∧ g6.toInt ≤ 3 → 0 ≤ g7.toInt ∧ g7.toInt ≤ 400 → 0 ≤ g8.toInt ∧ g8.toInt ≤ 400 → g1.toInt = g0.toInt + g2.toInt + g3.toInt + g4.toInt → jiv h 126 (0 : Int32).toNatClampNeg = g0 → jiv h 126 (16 : Int32).toNatClampNeg = g1 → jiv h 126 (4 : Int32).toNatClampNeg = g2 → jiv h 126 (5 : Int32).toNatClampNeg = g3 → jiv h 126 (7 : Int32).toNatClampNeg = g4 → jiv h 125 10 = g5 → jiv h 125 11 = g6 → jiv h 125 8 = g7 → jiv h 125 9 = g8 → jJ jSgM Dy h → jSm fp_X12_text_r125 h0 h → jX m_X12_text 10 0 0 34 [(0, .ref 125), (1, .int l1), (2, .int l2), (3, .int l3)] [.int 1] h 0 0 Q := by
  intro l1 l2 l3 g0 g1 g2 g3 g4 g5 g6 g7 g8 h y0 y1 y2 y3 y4 y5 y6 y7 y8 y9 y10 y11 y12 z0 z1 z2 z3 z4 z5 z6 z7 z8  J Sm
  refine x_istore (lsx9 := [(4, .int 1), (0, .ref 125), (1, .int l1), (2, .int l2), (3, .int l3)]) rfl rfl rfl ?_
  refine x_iload (x := 1) rfl rfl ?_
  refine x_ifeq (tgt := 52) rfl rfl (ti_eq jk_1 jk_0 (br_f (by omega) ?_))
  refine x_aloadn (x := 125) rfl rfl ?_
  refine z_getR (N := 92) (b := 126) 12 2 rfl f_12_8 rfl J rfl 16002 ⟨rfl, rfl⟩ rfl ?_
  refine x_iconst (v := 4) rfl ki_4 ?_
  refine z_ialdM (N := 50660) (v := g2) rfl J rfl jk_4 (by omega) z2 ?_
  refine x_bipush (v := 30) rfl kb_30 ?_
  refine x_icne (tgt := 73) rfl rfl (ti_ne rfl jk_30 ⟨fun c1 => ?_, fun c1 => ?_⟩)
  ·
    refine x_aloadn (x := 125) rfl rfl ?_
    refine x_inv (N := m_X12_begin) (As := []) (b := 125) (st := []) (dx9 := 9) (mc := 0) (ms := 0) (host := "") 12 rfl t_X12_begin ⟨Or.inl q_12_280, i_X12_begin.1, i_X12_begin.2⟩ ⟨by decide, rfl⟩ (congrArg Prod.fst (J.1.1 125 (12, 92) rfl)) rfl (by decide) rfl rfl ⟨by decide, by decide⟩ (jC.of rfl k_X12_begin rfl ?_)
    show jX m_X12_begin 9 0 0 0 [(0, .ref 125)] [] _ 0 0 _
    refine x_aloadn (x := 125) rfl rfl ?_
    refine x_iconst (v := 0) rfl ki_0 ?_
    refine z_putI (N := 92) (w := 0) 12 10 rfl f_12_211 rfl (jfin_no TX12 RX12 92 rfl rfl) hD J Sm rfl rfl jk_0 (pw_125_10 (by omega)) rfl (fun h w2 J Sm => ?_)
    refine x_aloadn (x := 125) rfl rfl ?_
    refine x_iconst (v := 0) rfl ki_0 ?_
    refine z_putZ (N := 92) (w := 0) 12 14 rfl f_12_214 rfl (jfin_no TX12 RX12 92 rfl rfl) hD J Sm rfl rfl jk_0 (by omega) (pw_125_14 (by omega)) rfl (fun h w3 J Sm => ?_)
    refine x_aloadn (x := 125) rfl rfl ?_
    refine x_iconst (v := (-1)) rfl ki_m1 ?_
    refine z_putI (N := 92) (w := (-1)) 12 13 rfl f_12_32 rfl (jfin_no TX12 RX12 92 rfl rfl) hD J Sm rfl rfl jk_m1 (pw_125_13 (by omega)) rfl (fun h w4 J Sm => ?_)
    refine x_aloadn (x := 125) rfl rfl ?_
    refine x_inv (N := m_X12_next) (As := []) (b := 125) (st := []) (dx9 := 2) (mc := 0) (ms := 0) (host := "") 12 rfl t_X12_next ⟨Or.inl q_12_218, i_X12_next.1, i_X12_next.2⟩ ⟨by decide, rfl⟩ (congrArg Prod.fst (J.1.1 125 (12, 92) rfl)) rfl (by decide) rfl rfl ⟨by decide, by decide⟩ (sf_X12_next_r125  hD J (jmo w4 rfl (jmo w3 rfl (jmw w2))) (jmo w4 rfl (jmo w3 rfl (jmo w2 rfl z7))) (by have := jk_0; omega)  (fun h J S5 u6 u7 u8 qu6 qu7 qu8 ru6 u9 u10 u11 qu9 qu10 qu11 ru9 P12 => ?_))
    have Sm := jSm_tr rfl Sm S5
    have eu6 := (show 0 ≤ u6.toInt ∧ u6.toInt ≤ 400 from qu6 ▸ jrg_f J sg_125_10_11_1_0_1)
    have eu7 := (show 0 ≤ u7.toInt ∧ u7.toInt ≤ 400 from qu7 ▸ jrg_f J sg_125_8_9_1_0_1)
    have eu8 := (show 0 ≤ u8.toInt ∧ u8.toInt ≤ 400 from qu8 ▸ jrg_f J sg_125_9_10_1_0_1)
    have eu9 := (show 0 ≤ u9.toInt ∧ u9.toInt ≤ 3 from qu9 ▸ jrg_f J sg_125_11_12_1_0_1)
    obtain rfl : u8 = u10 := qu8.symm.trans qu10
    obtain rfl : u6 = u11 := qu6.symm.trans qu11
    have nfP12 := jnf P12.1 (jmo w4 rfl (jmo w3 rfl (jmw w2))) qu8
    show jX m_X12_begin 9 0 0 19 [(0, .ref 125)] [] _ 0 0 _
    refine x_vret rfl rfl ?_
    show jX m_X12_text 10 0 0 77 [(4, .int 1), (0, .ref 125), (1, .int l1), (2, .int l2), (3, .int l3)] [] _ 0 0 _
    refine x_aloadn (x := 125) rfl rfl ?_
    refine x_iconst (v := 0) rfl ki_0 ?_
    refine z_putI (N := 92) (w := 0) 12 47 rfl f_12_636 rfl (jfin_no TX12 RX12 92 rfl rfl) hD J Sm rfl rfl jk_0 (pw_125_47 (by omega)) rfl (fun h w13 J Sm => ?_)
    refine x_aloadn (x := 125) rfl rfl ?_
    refine x_iconst (v := 0) rfl ki_0 ?_
    refine z_putI (N := 92) (w := 0) 12 49 rfl f_12_493 rfl (jfin_no TX12 RX12 92 rfl rfl) hD J Sm rfl rfl jk_0 (pw_125_49 (by omega)) rfl (fun h w14 J Sm => ?_)
    refine x_aloadn (x := 125) rfl rfl ?_
    refine x_iconst (v := 0) rfl ki_0 ?_
    refine z_putI (N := 92) (w := 0) 12 52 rfl f_12_542 rfl (jfin_no TX12 RX12 92 rfl rfl) hD J Sm rfl rfl jk_0 (pw_125_52 (by omega)) rfl (fun h w15 J Sm => ?_)
    refine x_aloadn (x := 125) rfl rfl ?_
    refine x_inv (N := m_X12_readClause) (As := []) (b := 125) (st := []) (dx9 := 9) (mc := 0) (ms := 0) (host := "") 12 rfl t_X12_readClause ⟨Or.inl q_12_673, i_X12_readClause.1, i_X12_readClause.2⟩ ⟨by decide, rfl⟩ (congrArg Prod.fst (J.1.1 125 (12, 92) rfl)) rfl (by decide) rfl rfl ⟨by decide, by decide⟩ (sf_X12_readClause_r125  (rk_0 (jmo w15 rfl (jmo w14 rfl (jmw w13))) (jmo w15 rfl (jmw w14)) (jmo w15 rfl (jmo w14 rfl (jmo w13 rfl qu8))) (by omega)) hD J (jmo w15 rfl (jmo w14 rfl (jmo w13 rfl qu6))) (jmo w15 rfl (jmo w14 rfl (jmo w13 rfl qu7))) (jmo w15 rfl (jmo w14 rfl (jmo w13 rfl qu8))) (by omega) (jmo w15 rfl (jmo w14 rfl (jmo w13 rfl qu9))) (jmo w15 rfl (jmo w14 rfl (jmo w13 rfl qu8))) (jmo w15 rfl (jmo w14 rfl (jmo w13 rfl qu6))) (by omega)  (fun h J S16 u17 u18 u19 qu17 qu18 qu19 ru17 u20 u21 u22 qu20 qu21 qu22 ru20 P23 => ?_))
    have Sm := jSm_tr rfl Sm S16
    have eu17 := (show 0 ≤ u17.toInt ∧ u17.toInt ≤ 400 from qu17 ▸ jrg_f J sg_125_10_11_1_0_1)
    have eu18 := (show 0 ≤ u18.toInt ∧ u18.toInt ≤ 400 from qu18 ▸ jrg_f J sg_125_8_9_1_0_1)
    have eu19 := (show 0 ≤ u19.toInt ∧ u19.toInt ≤ 400 from qu19 ▸ jrg_f J sg_125_9_10_1_0_1)
    have eu20 := (show 0 ≤ u20.toInt ∧ u20.toInt ≤ 3 from qu20 ▸ jrg_f J sg_125_11_12_1_0_1)
    obtain rfl : u19 = u21 := qu19.symm.trans qu21
    obtain rfl : u17 = u22 := qu17.symm.trans qu22
    have nkP23 := rk_f P23 (jmo w15 rfl (jmo w14 rfl (jmo w13 rfl qu8))) qu19
    show jX m_X12_text 10 0 0 96 [(4, .int 1), (0, .ref 125), (1, .int l1), (2, .int l2), (3, .int l3)] [] _ 0 0 _
    exact jX.sub (jsb_c rfl (jsb_c rfl (jsb_c rfl (jsb_c rfl jsb_n)))) (ct_X12_text_r125_96 hD hQ  401 l1 l2 l3 g0 g1 g2 g3 g4 u17 u20 u18 u19 h (by omega) (jr_of rfl (by omega)) (jr_of rfl (by omega)) (jr_of rfl (by omega)) (jr_of rfl (by omega)) (jr_of rfl (by omega)) (jr_of rfl (by omega)) (jr_of rfl (by omega)) (jr_of rfl (by omega)) (jr_of rfl (by omega)) (jr_of rfl (by omega)) (jr_of rfl (by omega)) (jr_of rfl (by omega)) (rk_h P23) (by omega) (by omega) (by omega) (jmc S16 rfl (jmo w15 rfl (jmo w14 rfl (jmo w13 rfl (jmc S5 rfl (jmo w4 rfl (jmo w3 rfl (jmo w2 rfl z0)))))))) (jmc S16 rfl (jmo w15 rfl (jmo w14 rfl (jmo w13 rfl (jmc S5 rfl (jmo w4 rfl (jmo w3 rfl (jmo w2 rfl z1)))))))) (jmc S16 rfl (jmo w15 rfl (jmo w14 rfl (jmo w13 rfl (jmc S5 rfl (jmo w4 rfl (jmo w3 rfl (jmo w2 rfl z2)))))))) (jmc S16 rfl (jmo w15 rfl (jmo w14 rfl (jmo w13 rfl (jmc S5 rfl (jmo w4 rfl (jmo w3 rfl (jmo w2 rfl z3)))))))) (jmc S16 rfl (jmo w15 rfl (jmo w14 rfl (jmo w13 rfl (jmc S5 rfl (jmo w4 rfl (jmo w3 rfl (jmo w2 rfl z4)))))))) qu17 qu20 qu18 qu19 J Sm)
  ·
    exact jX.sub (jsb_c rfl (jsb_c rfl jsb_n)) (ct_X12_text_r125_52 hD hQ  1 g0 g1 g2 g3 g4 g5 g6 g7 g8 h (jr_of jk_1 (by omega)) (jr_of rfl (by omega)) (jr_of rfl (by omega)) (jr_of rfl (by omega)) (jr_of rfl (by omega)) (jr_of rfl (by omega)) (jr_of rfl (by omega)) (jr_of rfl (by omega)) (jr_of rfl (by omega)) (jr_of rfl (by omega)) (by omega) z0 z1 z2 z3 z4 z5 z6 z7 z8 J Sm)
set_option maxRecDepth 100000 in
set_option maxHeartbeats 4000000 in
theorem ct_X12_text_r125_200034 {Dy : jH → Prop} {h0 : jH} {Q : Option Value → jH → Prop} (hD : jDk Dy) (hQ : ∀ (v : Int32) hx9, jJ jSgM Dy hx9 → jSm fp_X12_text_r125 h0 hx9 → ∀ u0 u1 u2 u3 u4 : Int32, jiv hx9 126 (16 : Int32).toNatClampNeg = u0 → jiv hx9 126 (0 : Int32).toNatClampNeg = u1 → jiv hx9 126 (4 : Int32).toNatClampNeg = u2 → jiv hx9 126 (5 : Int32).toNatClampNeg = u3 → jiv hx9 126 (7 : Int32).toNatClampNeg = u4 → u0.toInt = u1.toInt + u2.toInt + u3.toInt + u4.toInt → Q (some (.int v)) hx9) : ∀ (l1 : Int32) (l2 : Int32) (l3 : Int32) (g0 : Int32) (g1 : Int32) (g2 : Int32) (g3 : Int32) (g4 : Int32) (g5 : Int32) (g6 : Int32) (g7 : Int32) (g8 : Int32) (h : jH), 0 ≤ g0.toInt ∧ g0.toInt ≤ 200 → 0 ≤ g1.toInt ∧ g1.toInt ≤ 370 → 0 ≤ g2.toInt ∧ g2.toInt ≤ 30 → 0 ≤ g3.toInt ∧ g3.toInt ≤ 100 → 0 ≤ g4.toInt ∧ g4.toInt ≤ 40 → 0 ≤ g5.toInt ∧ g5.toInt ≤ 400 → 0 ≤ g6.toInt ∧ g6.toInt ≤ 3 → 0 ≤ g7.toInt ∧ g7.toInt ≤ 400 → 0 ≤ g8.toInt ∧ g8.toInt ≤ 400 → g1.toInt = g0.toInt + g2.toInt + g3.toInt + g4.toInt → jiv h 126 (0 : Int32).toNatClampNeg = g0 → jiv h 126 (16 : Int32).toNatClampNeg = g1 → jiv h 126 (4 : Int32).toNatClampNeg = g2 → jiv h 126 (5 : Int32).toNatClampNeg = g3 → jiv h 126 (7 : Int32).toNatClampNeg = g4 → jiv h 125 10 = g5 → jiv h 125 11 = g6 → jiv h 125 8 = g7 → jiv h 125 9 = g8 → jJ jSgM Dy h → jSm fp_X12_text_r125 h0 h → jX m_X12_text 10 0 0 34 [(0, .ref 125), (1, .int l1), (2, .int l2), (3, .int l3)] [.int 0] h 0 0 Q := by
  intro l1 l2 l3 g0 g1 g2 g3 g4 g5 g6 g7 g8 h y0 y1 y2 y3 y4 y5 y6 y7 y8 y9 z0 z1 z2 z3 z4 z5 z6 z7 z8  J Sm
  have el1 := jfull l1
  have el2 := jfull l2
  have el3 := jfull l3
  refine x_istore (lsx9 := [(4, .int 0), (0, .ref 125), (1, .int l1), (2, .int l2), (3, .int l3)]) rfl rfl rfl ?_
  refine x_iload (x := 0) rfl rfl ?_
  refine x_ifeq (tgt := 52) rfl rfl (ti_eq jk_0 jk_0 (br_t (by omega) ?_))
  exact jX.sub (jsb_c rfl (jsb_c rfl jsb_n)) (ct_X12_text_r125_52 hD hQ  0 g0 g1 g2 g3 g4 g5 g6 g7 g8 h (jr_of jk_0 (by omega)) (jr_of rfl (by omega)) (jr_of rfl (by omega)) (jr_of rfl (by omega)) (jr_of rfl (by omega)) (jr_of rfl (by omega)) (jr_of rfl (by omega)) (jr_of rfl (by omega)) (jr_of rfl (by omega)) (jr_of rfl (by omega)) (by omega) z0 z1 z2 z3 z4 z5 z6 z7 z8 J Sm)
set_option maxRecDepth 100000 in
set_option maxHeartbeats 4000000 in
theorem ct_X12_text_r125_33 {Dy : jH → Prop} {h0 : jH} {Q : Option Value → jH → Prop} (hD : jDk Dy) (hQ : ∀ (v : Int32) hx9, jJ jSgM Dy hx9 → jSm fp_X12_text_r125 h0 hx9 → ∀ u0 u1 u2 u3 u4 : Int32, jiv hx9 126 (16 : Int32).toNatClampNeg = u0 → jiv hx9 126 (0 : Int32).toNatClampNeg = u1 → jiv hx9 126 (4 : Int32).toNatClampNeg = u2 → jiv hx9 126 (5 : Int32).toNatClampNeg = u3 → jiv hx9 126 (7 : Int32).toNatClampNeg = u4 → u0.toInt = u1.toInt + u2.toInt + u3.toInt + u4.toInt → Q (some (.int v)) hx9) : ∀ (l1 : Int32) (l2 : Int32) (l3 : Int32) (g0 : Int32) (g1 : Int32) (g2 : Int32) (g3 : Int32) (g4 : Int32) (g5 : Int32) (g6 : Int32) (g7 : Int32) (g8 : Int32) (h : jH), 0 ≤ g0.toInt ∧ g0.toInt ≤ 200 → 0 ≤ g1.toInt ∧ g1.toInt ≤ 370 → 0 ≤ g2.toInt ∧ g2.toInt ≤ 30 → 0 ≤ g3.toInt ∧ g3.toInt ≤ 100 → 0 ≤ g4.toInt ∧ g4.toInt ≤ 40 → 0 ≤ g5.toInt ∧ g5.toInt ≤ 400 → 0 ≤ g6.toInt ∧ g6.toInt ≤ 3 → 0 ≤ g7.toInt ∧ g7.toInt ≤ 400 → 0 ≤ g8.toInt ∧ g8.toInt ≤ 400 → g1.toInt = g0.toInt + g2.toInt + g3.toInt + g4.toInt → jiv h 126 (0 : Int32).toNatClampNeg = g0 → jiv h 126 (16 : Int32).toNatClampNeg = g1 → jiv h 126 (4 : Int32).toNatClampNeg = g2 → jiv h 126 (5 : Int32).toNatClampNeg = g3 → jiv h 126 (7 : Int32).toNatClampNeg = g4 → jiv h 125 10 = g5 → jiv h 125 11 = g6 → jiv h 125 8 = g7 → jiv h 125 9 = g8 → jJ jSgM Dy h → jSm fp_X12_text_r125 h0 h → jX m_X12_text 10 0 0 33 [(0, .ref 125), (1, .int l1), (2, .int l2), (3, .int l3)] [] h 0 0 Q := by
  intro l1 l2 l3 g0 g1 g2 g3 g4 g5 g6 g7 g8 h y0 y1 y2 y3 y4 y5 y6 y7 y8 y9 z0 z1 z2 z3 z4 z5 z6 z7 z8  J Sm
  have el1 := jfull l1
  have el2 := jfull l2
  have el3 := jfull l3
  refine x_iconst (v := 0) rfl ki_0 ?_
  exact jX.sub (jsb_c rfl (jsb_c rfl (jsb_c rfl (jsb_c rfl jsb_n)))) (ct_X12_text_r125_200034 hD hQ  l1 l2 l3 g0 g1 g2 g3 g4 g5 g6 g7 g8 h (jr_of rfl (by omega)) (jr_of rfl (by omega)) (jr_of rfl (by omega)) (jr_of rfl (by omega)) (jr_of rfl (by omega)) (jr_of rfl (by omega)) (jr_of rfl (by omega)) (jr_of rfl (by omega)) (jr_of rfl (by omega)) (by omega) z0 z1 z2 z3 z4 z5 z6 z7 z8 J Sm)
set_option maxRecDepth 100000 in
set_option maxHeartbeats 4000000 in
theorem sf_X12_text_r125 {Dy : jH → Prop} {h : jH} {Q : Option Value → jH → Prop} {a1 : Int32} {a2 : Int32} {a3 : Int32} (hD : jDk Dy) (J : jJ jSgM Dy h) {p0 p1 p2 p3 p4 : Int32} (zp0 : jiv h 126 (16 : Int32).toNatClampNeg = p0) (zp1 : jiv h 126 (0 : Int32).toNatClampNeg = p1) (zp2 : jiv h 126 (4 : Int32).toNatClampNeg = p2) (zp3 : jiv h 126 (5 : Int32).toNatClampNeg = p3) (zp4 : jiv h 126 (7 : Int32).toNatClampNeg = p4) (rl_p0 : p0.toInt = p1.toInt + p2.toInt + p3.toInt + p4.toInt) (hQ : ∀ (v : Int32) hx9, jJ jSgM Dy hx9 → jSm fp_X12_text_r125 h hx9 → ∀ u0 u1 u2 u3 u4 : Int32, jiv hx9 126 (16 : Int32).toNatClampNeg = u0 → jiv hx9 126 (0 : Int32).toNatClampNeg = u1 → jiv hx9 126 (4 : Int32).toNatClampNeg = u2 → jiv hx9 126 (5 : Int32).toNatClampNeg = u3 → jiv hx9 126 (7 : Int32).toNatClampNeg = u4 → u0.toInt = u1.toInt + u2.toInt + u3.toInt + u4.toInt → Q (some (.int v)) hx9) : jC m_X12_text 10 0 0 [.ref 125, .int a1, .int a2, .int a3] h Q := by
  refine jC.of rfl k_X12_text rfl ?_
  have Sm := jSm_rf fp_X12_text_r125 h
  have ep0 := (show 0 ≤ p0.toInt ∧ p0.toInt ≤ 370 from zp0 ▸ jrg_c J sg_126_16_17_1_0_1 jk_16 (by omega))
  have ep1 := (show 0 ≤ p1.toInt ∧ p1.toInt ≤ 200 from zp1 ▸ jrg_c J sg_126_0_1_1_0_1 jk_0 (by omega))
  have ep2 := (show 0 ≤ p2.toInt ∧ p2.toInt ≤ 30 from zp2 ▸ jrg_c J sg_126_4_5_1_0_1 jk_4 (by omega))
  have ep3 := (show 0 ≤ p3.toInt ∧ p3.toInt ≤ 100 from zp3 ▸ jrg_c J sg_126_5_6_1_0_1 jk_5 (by omega))
  have ep4 := (show 0 ≤ p4.toInt ∧ p4.toInt ≤ 40 from zp4 ▸ jrg_c J sg_126_7_8_1_0_1 jk_7 (by omega))
  have ea1 := jfull a1
  have ea2 := jfull a2
  have ea3 := jfull a3
  show jX m_X12_text 10 0 0 0 [(0, .ref 125), (1, .int a1), (2, .int a2), (3, .int a3)] [] _ 0 0 _
  refine x_aloadn (x := 125) rfl rfl ?_
  refine x_iconst (v := 0) rfl ki_0 ?_
  refine z_putI (N := 92) (w := 0) 12 0 rfl f_12_180 rfl (jfin_no TX12 RX12 92 rfl rfl) hD J Sm rfl rfl jk_0 (pw_125_0 (by omega)) rfl (fun h w1 J Sm => ?_)
  refine x_iloadn (x := a1) rfl rfl ?_
  refine z_i2l rfl rfl (fun v2 ev2 => ?_)
  refine x_lconst (v := 0) rfl kl_0 ?_
  refine x_lconst (v := 1) rfl kl_1 ?_
  refine x_inst (N := m_X12_in) (As := [.long v2, .long 0, .long 1]) (st := []) (dx9 := 1) (mc := 0) (ms := 0) (host := "") rfl t_X12_in ⟨Or.inl q_12_188, s_X12_in⟩ rfl (by decide) rfl rfl ⟨by decide, by decide⟩ (zc_X12_in rfl jkl_0 jkl_1 (fun v3 ev3 => ?_))
  show jX m_X12_text 10 0 0 12 [(0, .ref 125), (1, .int a1), (2, .int a2), (3, .int a3)] [.int v3] _ 0 0 _
  refine x_ifeq (tgt := 33) rfl rfl (ti_eq rfl jk_0 ⟨fun c4 => ?_, fun c4 => ?_⟩)
  ·
    obtain ⟨u5, qu5⟩ : ∃ v : Int32, jiv h 125 10 = v := ⟨_, rfl⟩
    have eu5 := (show 0 ≤ u5.toInt ∧ u5.toInt ≤ 400 from qu5 ▸ jrg_f J sg_125_10_11_1_0_1)
    obtain ⟨u6, qu6⟩ : ∃ v : Int32, jiv h 125 11 = v := ⟨_, rfl⟩
    have eu6 := (show 0 ≤ u6.toInt ∧ u6.toInt ≤ 3 from qu6 ▸ jrg_f J sg_125_11_12_1_0_1)
    obtain ⟨u7, qu7⟩ : ∃ v : Int32, jiv h 125 8 = v := ⟨_, rfl⟩
    have eu7 := (show 0 ≤ u7.toInt ∧ u7.toInt ≤ 400 from qu7 ▸ jrg_f J sg_125_8_9_1_0_1)
    obtain ⟨u8, qu8⟩ : ∃ v : Int32, jiv h 125 9 = v := ⟨_, rfl⟩
    have eu8 := (show 0 ≤ u8.toInt ∧ u8.toInt ≤ 400 from qu8 ▸ jrg_f J sg_125_9_10_1_0_1)
    exact jX.sub (jsb_c rfl (jsb_c rfl (jsb_c rfl (jsb_c rfl jsb_n)))) (ct_X12_text_r125_33 hD hQ  a1 a2 a3 p1 p0 p2 p3 p4 u5 u6 u7 u8 h (jr_of rfl (by omega)) (jr_of rfl (by omega)) (jr_of rfl (by omega)) (jr_of rfl (by omega)) (jr_of rfl (by omega)) (jr_of rfl (by omega)) (jr_of rfl (by omega)) (jr_of rfl (by omega)) (jr_of rfl (by omega)) (by omega) (jmo w1 rfl zp1) (jmo w1 rfl zp0) (jmo w1 rfl zp2) (jmo w1 rfl zp3) (jmo w1 rfl zp4) qu5 qu6 qu7 qu8 J Sm)
  ·
    refine x_iloadn (x := a2) rfl rfl ?_
    refine x_inst (N := m_X12_isDay) (As := [.int a2]) (st := []) (dx9 := 2) (mc := 0) (ms := 0) (host := "") rfl t_X12_isDay ⟨Or.inl q_12_273, s_X12_isDay⟩ rfl (by decide) rfl rfl ⟨by decide, by decide⟩ (zc_X12_isDay (d := 1) rfl (fun v9 ev9 => ?_))
    show jX m_X12_text 10 0 0 19 [(0, .ref 125), (1, .int a1), (2, .int a2), (3, .int a3)] [.int v9] _ 0 0 _
    refine x_ifeq (tgt := 33) rfl rfl (ti_eq rfl jk_0 ⟨fun c10 => ?_, fun c10 => ?_⟩)
    ·
      obtain ⟨u11, qu11⟩ : ∃ v : Int32, jiv h 125 10 = v := ⟨_, rfl⟩
      have eu11 := (show 0 ≤ u11.toInt ∧ u11.toInt ≤ 400 from qu11 ▸ jrg_f J sg_125_10_11_1_0_1)
      obtain ⟨u12, qu12⟩ : ∃ v : Int32, jiv h 125 11 = v := ⟨_, rfl⟩
      have eu12 := (show 0 ≤ u12.toInt ∧ u12.toInt ≤ 3 from qu12 ▸ jrg_f J sg_125_11_12_1_0_1)
      obtain ⟨u13, qu13⟩ : ∃ v : Int32, jiv h 125 8 = v := ⟨_, rfl⟩
      have eu13 := (show 0 ≤ u13.toInt ∧ u13.toInt ≤ 400 from qu13 ▸ jrg_f J sg_125_8_9_1_0_1)
      obtain ⟨u14, qu14⟩ : ∃ v : Int32, jiv h 125 9 = v := ⟨_, rfl⟩
      have eu14 := (show 0 ≤ u14.toInt ∧ u14.toInt ≤ 400 from qu14 ▸ jrg_f J sg_125_9_10_1_0_1)
      exact jX.sub (jsb_c rfl (jsb_c rfl (jsb_c rfl (jsb_c rfl jsb_n)))) (ct_X12_text_r125_33 hD hQ  a1 a2 a3 p1 p0 p2 p3 p4 u11 u12 u13 u14 h (jr_of rfl (by omega)) (jr_of rfl (by omega)) (jr_of rfl (by omega)) (jr_of rfl (by omega)) (jr_of rfl (by omega)) (jr_of rfl (by omega)) (jr_of rfl (by omega)) (jr_of rfl (by omega)) (jr_of rfl (by omega)) (by omega) (jmo w1 rfl zp1) (jmo w1 rfl zp0) (jmo w1 rfl zp2) (jmo w1 rfl zp3) (jmo w1 rfl zp4) qu11 qu12 qu13 qu14 J Sm)
    ·
      refine x_iloadn (x := a3) rfl rfl ?_
      refine x_inst (N := m_X12_isDay) (As := [.int a3]) (st := []) (dx9 := 2) (mc := 0) (ms := 0) (host := "") rfl t_X12_isDay ⟨Or.inl q_12_273, s_X12_isDay⟩ rfl (by decide) rfl rfl ⟨by decide, by decide⟩ (zc_X12_isDay (d := 1) rfl (fun v15 ev15 => ?_))
      show jX m_X12_text 10 0 0 26 [(0, .ref 125), (1, .int a1), (2, .int a2), (3, .int a3)] [.int v15] _ 0 0 _
      refine x_ifeq (tgt := 33) rfl rfl (ti_eq rfl jk_0 ⟨fun c16 => ?_, fun c16 => ?_⟩)
      ·
        obtain ⟨u17, qu17⟩ : ∃ v : Int32, jiv h 125 10 = v := ⟨_, rfl⟩
        have eu17 := (show 0 ≤ u17.toInt ∧ u17.toInt ≤ 400 from qu17 ▸ jrg_f J sg_125_10_11_1_0_1)
        obtain ⟨u18, qu18⟩ : ∃ v : Int32, jiv h 125 11 = v := ⟨_, rfl⟩
        have eu18 := (show 0 ≤ u18.toInt ∧ u18.toInt ≤ 3 from qu18 ▸ jrg_f J sg_125_11_12_1_0_1)
        obtain ⟨u19, qu19⟩ : ∃ v : Int32, jiv h 125 8 = v := ⟨_, rfl⟩
        have eu19 := (show 0 ≤ u19.toInt ∧ u19.toInt ≤ 400 from qu19 ▸ jrg_f J sg_125_8_9_1_0_1)
        obtain ⟨u20, qu20⟩ : ∃ v : Int32, jiv h 125 9 = v := ⟨_, rfl⟩
        have eu20 := (show 0 ≤ u20.toInt ∧ u20.toInt ≤ 400 from qu20 ▸ jrg_f J sg_125_9_10_1_0_1)
        exact jX.sub (jsb_c rfl (jsb_c rfl (jsb_c rfl (jsb_c rfl jsb_n)))) (ct_X12_text_r125_33 hD hQ  a1 a2 a3 p1 p0 p2 p3 p4 u17 u18 u19 u20 h (jr_of rfl (by omega)) (jr_of rfl (by omega)) (jr_of rfl (by omega)) (jr_of rfl (by omega)) (jr_of rfl (by omega)) (jr_of rfl (by omega)) (jr_of rfl (by omega)) (jr_of rfl (by omega)) (jr_of rfl (by omega)) (by omega) (jmo w1 rfl zp1) (jmo w1 rfl zp0) (jmo w1 rfl zp2) (jmo w1 rfl zp3) (jmo w1 rfl zp4) qu17 qu18 qu19 qu20 J Sm)
      ·
        refine x_iconst (v := 1) rfl ki_1 ?_
        refine x_goto (tgt := 34) rfl rfl ?_
        obtain ⟨u21, qu21⟩ : ∃ v : Int32, jiv h 125 10 = v := ⟨_, rfl⟩
        have eu21 := (show 0 ≤ u21.toInt ∧ u21.toInt ≤ 400 from qu21 ▸ jrg_f J sg_125_10_11_1_0_1)
        obtain ⟨u22, qu22⟩ : ∃ v : Int32, jiv h 125 11 = v := ⟨_, rfl⟩
        have eu22 := (show 0 ≤ u22.toInt ∧ u22.toInt ≤ 3 from qu22 ▸ jrg_f J sg_125_11_12_1_0_1)
        obtain ⟨u23, qu23⟩ : ∃ v : Int32, jiv h 125 8 = v := ⟨_, rfl⟩
        have eu23 := (show 0 ≤ u23.toInt ∧ u23.toInt ≤ 400 from qu23 ▸ jrg_f J sg_125_8_9_1_0_1)
        obtain ⟨u24, qu24⟩ : ∃ v : Int32, jiv h 125 9 = v := ⟨_, rfl⟩
        have eu24 := (show 0 ≤ u24.toInt ∧ u24.toInt ≤ 400 from qu24 ▸ jrg_f J sg_125_9_10_1_0_1)
        exact jX.sub (jsb_c rfl (jsb_c rfl (jsb_c rfl (jsb_c rfl jsb_n)))) (ct_X12_text_r125_300034 hD hQ  a1 a2 a3 p1 p0 p2 p3 p4 u21 u22 u23 u24 h (jr_of rfl (by omega)) (jr_of rfl (by omega)) (jr_of rfl (by omega)) (jr_of rfl (by omega)) (jr_of rfl (by omega)) (jr_of rfl (by omega)) (jr_of rfl (by omega)) (jr_of rfl (by omega)) (jr_of rfl (by omega)) (jr_of rfl (by omega)) (jr_of rfl (by omega)) (jr_of rfl (by omega)) (by omega) (jmo w1 rfl zp1) (jmo w1 rfl zp0) (jmo w1 rfl zp2) (jmo w1 rfl zp3) (jmo w1 rfl zp4) qu21 qu22 qu23 qu24 J Sm)
