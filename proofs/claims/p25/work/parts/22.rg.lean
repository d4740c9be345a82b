def fp_X12_acres_r125p : jFp := [(125, 0, 1), (125, 1, 2), (173, 0, 120)]
set_option maxRecDepth 100000 in
set_option maxHeartbeats 4000000 in
theorem ct_X12_acres_r125p_29 {Dy : jH → Prop} {h0 : jH} {Q : Option Value → jH → Prop} {a1 : Int32} (yy_a1 : (-2147483648) ≤ a1.toInt ∧ a1.toInt ≤ 2147483647) {a2 : Int32} (yy_a2 : (-2147483648) ≤ a2.toInt ∧ a2.toInt ≤ 2147483647) {a3 : Int32} (yy_a3 : (-2147483648) ≤ a3.toInt ∧ a3.toInt ≤ 2147483647) (hD : jDk Dy) (hQ : ∀ (v : Int32) hx9, (-2) ≤ v.toInt ∧ v.toInt ≤ 0 → jJ jSgM Dy hx9 → jSm fp_X12_acres_r125p h0 hx9 → ((¬ (0 ≤ a2.toInt ∧ a2.toInt ≤ 2 ∧ 0 ≤ a3.toInt ∧ a3.toInt ≤ 1000) ∧ v.toInt = -1 ∧ jiv hx9 173 = jiv h0 173) ∨ ((0 ≤ a2.toInt ∧ a2.toInt ≤ 2 ∧ 0 ≤ a3.toInt ∧ a3.toInt ≤ 1000) ∧ ¬ (0 ≤ a1.toInt ∧ a1.toInt < (jiv h0 126 7).toInt) ∧ v.toInt = -2 ∧ jiv hx9 173 = jiv h0 173) ∨ ((0 ≤ a2.toInt ∧ a2.toInt ≤ 2 ∧ 0 ≤ a3.toInt ∧ a3.toInt ≤ 1000) ∧ (0 ≤ a1.toInt ∧ a1.toInt < (jiv h0 126 7).toInt) ∧ v.toInt = 0 ∧ jiv hx9 173 = jov (jiv h0 173) (3 * a1.toNatClampNeg + a2.toNatClampNeg) a3)) → Q (some (.int v)) hx9) : ∀ (h : jH), (h = jsi h0 125 0 0 ∧ ¬ (0 ≤ a2.toInt ∧ a2.toInt ≤ 2 ∧ 0 ≤ a3.toInt ∧ a3.toInt ≤ 1000)) → jJ jSgM Dy h → jSm fp_X12_acres_r125p h0 h → jX m_X12_acres 3 0 0 29 [(0, .ref 125)] [] h 0 0 Q := by
  intro  h C0   J Sm
  refine x_aloadn (x := 125) rfl rfl ?_
  refine x_iconst (v := (-1)) rfl ki_m1 ?_
  refine x_inv (N := m_X12_told) (As := [.int (-1)]) (b := 125) (st := []) (dx9 := 2) (mc := 0) (ms := 0) (host := "") 12 rfl t_X12_told ⟨Or.inl q_12_197, i_X12_told.1, i_X12_told.2⟩ ⟨by decide, rfl⟩ (congrArg Prod.fst (J.1.1 125 (12, 92) rfl)) rfl (by decide) rfl rfl ⟨by decide, by decide⟩ (jC.of rfl k_X12_told rfl ?_)
  show jX m_X12_told 2 0 0 0 [(0, .ref 125), (1, .int (-1))] [] _ 0 0 _
  refine x_aloadn (x := 125) rfl rfl ?_
  refine x_iloadn (x := (-1)) rfl rfl ?_
  refine x_ifge (tgt := 9) rfl rfl (ti_ge jk_m1 jk_0 (br_f (by omega) ?_))
  refine x_iloadn (x := (-1)) rfl rfl ?_
  refine x_goto (tgt := 10) rfl rfl ?_
  refine z_putI (N := 92) (w := (-1)) 12 1 rfl f_12_183 rfl (jfin_no TX12 RX12 92 rfl rfl) hD J Sm rfl rfl jk_m1 (pw_125_1 (by omega)) rfl (fun h w1 J Sm => ?_)
  refine x_iloadn (x := (-1)) rfl rfl ?_
  refine x_iret rfl rfl ?_
  show jX m_X12_acres 3 0 0 34 [(0, .ref 125)] [.int (-1)] _ 0 0 _
  refine x_iret rfl rfl ?_
  exact hQ _ _ (jr_of jk_m1 (by omega)) J Sm (Or.inl ⟨C0.2, jk_m1, (ov_o w1 rfl (ov_e1 C0.1 rfl))⟩)
set_option maxRecDepth 100000 in
set_option maxHeartbeats 4000000 in
theorem sf_X12_acres_r125p {Dy : jH → Prop} {h : jH} {Q : Option Value → jH → Prop} {a1 : Int32} {a2 : Int32} {a3 : Int32} (hD : jDk Dy) (J : jJ jSgM Dy h) (hQ : ∀ (v : Int32) hx9, (-2) ≤ v.toInt ∧ v.toInt ≤ 0 → jJ jSgM Dy hx9 → jSm fp_X12_acres_r125p h hx9 → ((¬ (0 ≤ a2.toInt ∧ a2.toInt ≤ 2 ∧ 0 ≤ a3.toInt ∧ a3.toInt ≤ 1000) ∧ v.toInt = -1 ∧ jiv hx9 173 = jiv h 173) ∨ ((0 ≤ a2.toInt ∧ a2.toInt ≤ 2 ∧ 0 ≤ a3.toInt ∧ a3.toInt ≤ 1000) ∧ ¬ (0 ≤ a1.toInt ∧ a1.toInt < (jiv h 126 7).toInt) ∧ v.toInt = -2 ∧ jiv hx9 173 = jiv h 173) ∨ ((0 ≤ a2.toInt ∧ a2.toInt ≤ 2 ∧ 0 ≤ a3.toInt ∧ a3.toInt ≤ 1000) ∧ (0 ≤ a1.toInt ∧ a1.toInt < (jiv h 126 7).toInt) ∧ v.toInt = 0 ∧ jiv hx9 173 = jov (jiv h 173) (3 * a1.toNatClampNeg + a2.toNatClampNeg) a3)) → Q (some (.int v)) hx9) : jC m_X12_acres 3 0 0 [.ref 125, .int a1, .int a2, .int a3] h Q := by
  refine jC.of rfl k_X12_acres rfl ?_
  have Sm := jSm_rf fp_X12_acres_r125p h
  have yy_a1 := jfull a1
  have yy_a2 := jfull a2
  have yy_a3 := jfull a3
  have ea1 := jfull a1
  have ea2 := jfull a2
  have ea3 := jfull a3
  show jX m_X12_acres 3 0 0 0 [(0, .ref 125), (1, .int a1), (2, .int a2), (3, .int a3)] [] _ 0 0 _
  obtain ⟨u1, qu1⟩ : ∃ v : Int32, jiv h 126 (7 : Int32).toNatClampNeg = v := ⟨_, rfl⟩
  have eu1 := (show 0 ≤ u1.toInt ∧ u1.toInt ≤ 40 from qu1 ▸ jrg_c J sg_126_7_8_1_0_1 jk_7 (by omega))
  have ou1 := ov_n (n := 7) (by decide) qu1
  refine x_aloadn (x := 125) rfl rfl ?_
  refine x_iconst (v := 0) rfl ki_0 ?_
  refine z_putI (N := 92) (w := 0) 12 0 rfl f_12_180 rfl (jfin_no TX12 RX12 92 rfl rfl) hD J Sm rfl rfl jk_0 (pw_125_0 (by omega)) rfl (fun h w2 J Sm => ?_)
  refine x_iloadn (x := a2) rfl rfl ?_
  refine z_i2l rfl rfl (fun v3 ev3 => ?_)
  refine x_lconst (v := 0) rfl kl_0 ?_
  refine x_ldc2 (v := 2) rfl z_12_482 ?_
  refine x_inst (N := m_X12_in) (As := [.long v3, .long 0, .long 2]) (st := []) (dx9 := 1) (mc := 0) (ms := 0) (host := "") rfl t_X12_in ⟨Or.inl q_12_188, s_X12_in⟩ rfl (by decide) rfl rfl ⟨by decide, by decide⟩ (zc_X12_in rfl jkl_0 jkl_2 (fun v4 ev4 => ?_))
  show jX m_X12_acres 3 0 0 14 [(0, .ref 125), (1, .int a1), (2, .int a2), (3, .int a3)] [.int v4] _ 0 0 _
  refine x_ifeq (tgt := 29) rfl rfl (ti_eq rfl jk_0 ⟨fun c5 => ?_, fun c5 => ?_⟩)
  ·
    exact jX.sub (jsb_c rfl jsb_n) (ct_X12_acres_r125p_29 yy_a1 yy_a2 yy_a3 hD hQ  h ⟨w2, by omega⟩ J Sm)
  ·
    refine x_iloadn (x := a3) rfl rfl ?_
    refine z_i2l rfl rfl (fun v6 ev6 => ?_)
    refine x_lconst (v := 0) rfl kl_0 ?_
    refine x_ldc2 (v := 1000) rfl z_12_466 ?_
    refine x_inst (N := m_X12_in) (As := [.long v6, .long 0, .long 1000]) (st := []) (dx9 := 1) (mc := 0) (ms := 0) (host := "") rfl t_X12_in ⟨Or.inl q_12_188, s_X12_in⟩ rfl (by decide) rfl rfl ⟨by decide, by decide⟩ (zc_X12_in rfl jkl_0 jkl_1000 (fun v7 ev7 => ?_))
    show jX m_X12_acres 3 0 0 26 [(0, .ref 125), (1, .int a1), (2, .int a2), (3, .int a3)] [.int v7] _ 0 0 _
    refine x_ifne (tgt := 35) rfl rfl (ti_ne rfl jk_0 ⟨fun c8 => ?_, fun c8 => ?_⟩)
    ·
      refine x_aloadn (x := 125) rfl rfl ?_
      refine x_iloadn (x := a1) rfl rfl ?_
      refine x_inv (N := m_X12_isHolding) (As := [.int a1]) (b := 125) (st := []) (dx9 := 2) (mc := 0) (ms := 0) (host := "") 12 rfl t_X12_isHolding ⟨Or.inl q_12_811, i_X12_isHolding.1, i_X12_isHolding.2⟩ ⟨by decide, rfl⟩ (congrArg Prod.fst (J.1.1 125 (12, 92) rfl)) rfl (by decide) rfl rfl ⟨by decide, by decide⟩ (jC.of rfl k_X12_isHolding rfl ?_)
      show jX m_X12_isHolding 2 0 0 0 [(0, .ref 125), (1, .int a1)] [] _ 0 0 _
      refine x_iloadn (x := a1) rfl rfl ?_
      refine z_i2l rfl rfl (fun v9 ev9 => ?_)
      refine x_lconst (v := 0) rfl kl_0 ?_
      refine x_aloadn (x := 125) rfl rfl ?_
      refine z_getR (N := 92) (b := 126) 12 2 rfl f_12_8 rfl J rfl 16002 ⟨rfl, rfl⟩ rfl ?_
      refine x_bipush (v := 7) rfl kb_7 ?_
      refine z_ialdM (N := 50660) (v := u1) rfl J rfl jk_7 (by omega) (jmo w2 rfl qu1) ?_
      refine z_i2l rfl rfl (fun v10 ev10 => ?_)
      refine x_lconst (v := 1) rfl kl_1 ?_
      refine z_lsub rfl rfl jkl_1 (by omega) (fun v11 ev11 => ?_)
      refine x_inst (N := m_X12_in) (As := [.long v9, .long 0, .long v11]) (st := []) (dx9 := 1) (mc := 0) (ms := 0) (host := "") rfl t_X12_in ⟨Or.inl q_12_188, s_X12_in⟩ rfl (by decide) rfl rfl ⟨by decide, by decide⟩ (zc_X12_in rfl jkl_0 rfl (fun v12 ev12 => ?_))
      show jX m_X12_isHolding 2 0 0 16 [(0, .ref 125), (1, .int a1)] [.int v12] _ 0 0 _
      refine x_zret rfl rfl (jz01 (by omega)) ?_
      show jX m_X12_acres 3 0 0 40 [(0, .ref 125), (1, .int a1), (2, .int a2), (3, .int a3)] [.int v12] _ 0 0 _
      refine x_ifne (tgt := 50) rfl rfl (ti_ne rfl jk_0 ⟨fun c13 => ?_, fun c13 => ?_⟩)
      ·
        refine x_aloadn (x := 125) rfl rfl ?_
        refine z_getR (N := 92) (b := 173) 12 88 rfl f_12_177 rfl J rfl 16088 ⟨rfl, rfl⟩ rfl ?_
        refine x_iconst (v := 3) rfl ki_3 ?_
        refine x_iloadn (x := a1) rfl rfl ?_
        refine z_imul rfl jk_3 rfl (by omega) (fun v14 ev14 => ?_)
        refine x_iloadn (x := a2) rfl rfl ?_
        refine z_iadd rfl rfl rfl (by omega) (fun v15 ev15 => ?_)
        refine x_iloadn (x := a3) rfl rfl ?_
        refine z_iast (N := 120) (l := 0) (u := 120) (w := a3.toInt) rfl hD J Sm rfl rfl rfl (by omega) rfl (wr_173 (fun q1 q2 q3 q4 => by omega)) rfl (fun h w16 J Sm => ?_)
        refine x_aloadn (x := 125) rfl rfl ?_
        refine x_iconst (v := 0) rfl ki_0 ?_
        refine x_inv (N := m_X12_told) (As := [.int 0]) (b := 125) (st := []) (dx9 := 2) (mc := 0) (ms := 0) (host := "") 12 rfl t_X12_told ⟨Or.inl q_12_197, i_X12_told.1, i_X12_told.2⟩ ⟨by decide, rfl⟩ (congrArg Prod.fst (J.1.1 125 (12, 92) rfl)) rfl (by decide) rfl rfl ⟨by decide, by decide⟩ (jC.of rfl k_X12_told rfl ?_)
        show jX m_X12_told 2 0 0 0 [(0, .ref 125), (1, .int 0)] [] _ 0 0 _
        refine x_aloadn (x := 125) rfl rfl ?_
        refine x_iloadn (x := 0) rfl rfl ?_
        refine x_ifge (tgt := 9) rfl rfl (ti_ge jk_0 jk_0 (br_t (by omega) ?_))
        refine x_iconst (v := 0) rfl ki_0 ?_
        refine z_putI (N := 92) (w := 0) 12 1 rfl f_12_183 rfl (jfin_no TX12 RX12 92 rfl rfl) hD J Sm rfl rfl jk_0 (pw_125_1 (by omega)) rfl (fun h w17 J Sm => ?_)
        refine x_iloadn (x := 0) rfl rfl ?_
        refine x_iret rfl rfl ?_
        show jX m_X12_acres 3 0 0 66 [(0, .ref 125), (1, .int a1), (2, .int a2), (3, .int a3)] [.int 0] _ 0 0 _
        refine x_iret rfl rfl ?_
        exact hQ _ _ (jr_of jk_0 (by omega)) J Sm (Or.inr (Or.inr ⟨(by omega), (by omega), jk_0, (ac_1 (ov_o w17 rfl (ov_w w16 (ov_o w2 rfl rfl))) (by omega) (by omega) (by omega) (by omega))⟩))
      ·
        refine x_aloadn (x := 125) rfl rfl ?_
        refine x_bipush (v := (-2)) rfl kb_m2 ?_
        refine x_inv (N := m_X12_told) (As := [.int (-2)]) (b := 125) (st := []) (dx9 := 2) (mc := 0) (ms := 0) (host := "") 12 rfl t_X12_told ⟨Or.inl q_12_197, i_X12_told.1, i_X12_told.2⟩ ⟨by decide, rfl⟩ (congrArg Prod.fst (J.1.1 125 (12, 92) rfl)) rfl (by decide) rfl rfl ⟨by decide, by decide⟩ (jC.of rfl k_X12_told rfl ?_)
        show jX m_X12_told 2 0 0 0 [(0, .ref 125), (1, .int (-2))] [] _ 0 0 _
        refine x_aloadn (x := 125) rfl rfl ?_
        refine x_iloadn (x := (-2)) rfl rfl ?_
        refine x_ifge (tgt := 9) rfl rfl (ti_ge jk_m2 jk_0 (br_f (by omega) ?_))
        refine x_iloadn (x := (-2)) rfl rfl ?_
        refine x_goto (tgt := 10) rfl rfl ?_
        refine z_putI (N := 92) (w := (-2)) 12 1 rfl f_12_183 rfl (jfin_no TX12 RX12 92 rfl rfl) hD J Sm rfl rfl jk_m2 (pw_125_1 (by omega)) rfl (fun h w18 J Sm => ?_)
        refine x_iloadn (x := (-2)) rfl rfl ?_
        refine x_iret rfl rfl ?_
        show jX m_X12_acres 3 0 0 49 [(0, .ref 125), (1, .int a1), (2, .int a2), (3, .int a3)] [.int (-2)] _ 0 0 _
        refine x_iret rfl rfl ?_
        exact hQ _ _ (jr_of jk_m2 (by omega)) J Sm (Or.inr (Or.inl ⟨(by omega), (by omega), jk_m2, (ov_o w18 rfl (ov_o w2 rfl rfl))⟩))
    ·
      exact jX.sub (jsb_c rfl jsb_n) (ct_X12_acres_r125p_29 yy_a1 yy_a2 yy_a3 hD hQ  h ⟨w2, by omega⟩ J Sm)
def fp_X12_back_r125p : jFp := [(125, 0, 1), (125, 1, 2), (125, 8, 9), (125, 36, 37), (126, 0, 50660), (129, 0, 1600)]
set_option maxRecDepth 100000 in
set_option maxHeartbeats 4000000 in
theorem ct_X12_back_r125p_72 {Dy : jH → Prop} {h0 : jH} {Q : Option Value → jH → Prop} {a1 : Int32} (yy_a1 : (-2147483648) ≤ a1.toInt ∧ a1.toInt ≤ 2147483647) (hB : jDb Dy) (hD : jDk Dy) (hQ : ∀ (v : Int32) hx9, (-2) ≤ v.toInt ∧ v.toInt ≤ 0 → jJ jSgM Dy hx9 → jSm fp_X12_back_r125p h0 hx9 → ∀ u0 u1 u2 u3 u4 : Int32, jiv hx9 126 (16 : Int32).toNatClampNeg = u0 → jiv hx9 126 (0 : Int32).toNatClampNeg = u1 → jiv hx9 126 (4 : Int32).toNatClampNeg = u2 → jiv hx9 126 (5 : Int32).toNatClampNeg = u3 → jiv hx9 126 (7 : Int32).toNatClampNeg = u4 → u0.toInt = u1.toInt + u2.toInt + u3.toInt + u4.toInt → ∀ u5 u6 : Int32, jiv hx9 126 (9 : Int32).toNatClampNeg = u5 → jiv hx9 126 (7 : Int32).toNatClampNeg = u6 → u5.toInt ≤ u6.toInt → ((¬ (0 ≤ a1.toInt ∧ a1.toInt ≤ 3) ∧ v.toInt = -1 ∧ jSm [(125, 0, 2)] h0 hx9) ∨ ((0 ≤ a1.toInt ∧ a1.toInt ≤ 3) ∧ (jiv h0 128 a1.toNatClampNeg).toInt = 0 ∧ v.toInt = -2 ∧ jSm [(125, 0, 2)] h0 hx9) ∨ ((0 ≤ a1.toInt ∧ a1.toInt ≤ 3) ∧ (jiv h0 128 a1.toNatClampNeg).toInt ≠ 0 ∧ v.toInt = 0 ∧ (jiv hx9 125 8).toInt = 0 ∧ jBm h0 hx9 a1 50660)) → Q (some (.int v)) hx9) : ∀ r : Nat, ∀ (l2 : Int32) (g0 : Int32) (g1 : Int32) (g2 : Int32) (g3 : Int32) (g4 : Int32) (g5 : Int32) (h : jH), 1600 - l2.toInt < (r : Int) → 0 ≤ l2.toInt ∧ l2.toInt ≤ 1600 → 0 ≤ g0.toInt ∧ g0.toInt ≤ 200 → 0 ≤ g1.toInt ∧ g1.toInt ≤ 370 → 0 ≤ g2.toInt ∧ g2.toInt ≤ 30 → 0 ≤ g3.toInt ∧ g3.toInt ≤ 100 → 0 ≤ g4.toInt ∧ g4.toInt ≤ 40 → 0 ≤ g5.toInt ∧ g5.toInt ≤ 40 → (0 ≤ a1.toInt ∧ a1.toInt ≤ 3) → (jBm h0 h a1 50660 ∧ (jiv h0 128 a1.toNatClampNeg).toInt ≠ 0) → g1.toInt = g0.toInt + g2.toInt + g3.toInt + g4.toInt → g5.toInt ≤ g4.toInt → jiv h 126 (0 : Int32).toNatClampNeg = g0 → jiv h 126 (16 : Int32).toNatClampNeg = g1 → jiv h 126 (4 : Int32).toNatClampNeg = g2 → jiv h 126 (5 : Int32).toNatClampNeg = g3 → jiv h 126 (7 : Int32).toNatClampNeg = g4 → jiv h 126 (9 : Int32).toNatClampNeg = g5 → jJ jSgM Dy h → jSm fp_X12_back_r125p h0 h → jX m_X12_back 2 0 0 72 [(0, .ref 125), (1, .int a1), (2, .int l2)] [] h 0 0 Q := by
  intro r
  induction r with
  | zero =>
    intro l2 g0 g1 g2 g3 g4 g5 h hm y0 y1 y2 y3 y4 y5 y6 y7 C0 y9 y10 z0 z1 z2 z3 z4 z5  J Sm
    exfalso
    omega
  | succ r ih =>
    intro l2 g0 g1 g2 g3 g4 g5 h hm y0 y1 y2 y3 y4 y5 y6 y7 C0 y9 y10 z0 z1 z2 z3 z4 z5  J Sm
    refine x_iloadn (x := l2) rfl rfl ?_
    refine x_sipush (v := 1600) rfl ks_1600 ?_
    refine x_icge (tgt := 103) rfl rfl (ti_ge rfl jk_1600 ⟨fun c1 => ?_, fun c1 => ?_⟩)
    ·
      refine x_aloadn (x := 125) rfl rfl ?_
      refine x_iconst (v := 0) rfl ki_0 ?_
      refine z_putI (N := 92) (w := 0) 12 8 rfl f_12_201 rfl (jfin_no TX12 RX12 92 rfl rfl) hD J Sm rfl rfl jk_0 (pw_125_8 (by omega)) rfl (fun h w2 J Sm => ?_)
      refine x_aloadn (x := 125) rfl rfl ?_
      refine x_iconst (v := 0) rfl ki_0 ?_
      refine z_putI (N := 92) (w := 0) 12 36 rfl f_12_204 rfl (jfin_no TX12 RX12 92 rfl rfl) hD J Sm rfl rfl jk_0 (pw_125_36 (by omega)) rfl (fun h w3 J Sm => ?_)
      refine x_aloadn (x := 125) rfl rfl ?_
      refine x_iconst (v := 0) rfl ki_0 ?_
      refine x_inv (N := m_X12_told) (As := [.int 0]) (b := 125) (st := []) (dx9 := 1) (mc := 0) (ms := 0) (host := "") 12 rfl t_X12_told ⟨Or.inl q_12_197, i_X12_told.1, i_X12_told.2⟩ ⟨by decide, rfl⟩ (congrArg Prod.fst (J.1.1 125 (12, 92) rfl)) rfl (by decide) rfl rfl ⟨by decide, by decide⟩ (jC.of rfl k_X12_told rfl ?_)
      show jX m_X12_told 1 0 0 0 [(0, .ref 125), (1, .int 0)] [] _ 0 0 _
      refine x_aloadn (x := 125) rfl rfl ?_
      refine x_iloadn (x := 0) rfl rfl ?_
      refine x_ifge (tgt := 9) rfl rfl (ti_ge jk_0 jk_0 (br_t (by omega) ?_))
      refine x_iconst (v := 0) rfl ki_0 ?_
      refine z_putI (N := 92) (w := 0) 12 1 rfl f_12_183 rfl (jfin_no TX12 RX12 92 rfl rfl) hD J Sm rfl rfl jk_0 (pw_125_1 (by omega)) rfl (fun h w4 J Sm => ?_)
      refine x_iloadn (x := 0) rfl rfl ?_
      refine x_iret rfl rfl ?_
      show jX m_X12_back 2 0 0 118 [(0, .ref 125), (1, .int a1), (2, .int l2)] [.int 0] _ 0 0 _
      refine x_iret rfl rfl ?_
      exact hQ _ _ (jr_of jk_0 (by omega)) J Sm _ _ _ _ _ (jmo w4 rfl (jmo w3 rfl (jmo w2 rfl z1))) (jmo w4 rfl (jmo w3 rfl (jmo w2 rfl z0))) (jmo w4 rfl (jmo w3 rfl (jmo w2 rfl z2))) (jmo w4 rfl (jmo w3 rfl (jmo w2 rfl z3))) (jmo w4 rfl (jmo w3 rfl (jmo w2 rfl z4))) (by omega) _ _ (jmo w4 rfl (jmo w3 rfl (jmo w2 rfl z5))) (jmo w4 rfl (jmo w3 rfl (jmo w2 rfl z4))) (by omega) (Or.inr (Or.inr ⟨by omega, C0.2, jk_0, (by have := congrArg Int32.toInt (jmo w4 rfl (jmo w3 rfl (jmw w2))); have := jk_0; omega), bm_m C0.1 (ov_o w4 rfl (ov_o w3 rfl (ov_o w2 rfl rfl)))⟩))
    ·
      refine x_aloadn (x := 125) rfl rfl ?_
      refine z_getR (N := 92) (b := 129) 12 5 rfl f_12_22 rfl J rfl 16005 ⟨rfl, rfl⟩ rfl ?_
      refine x_iloadn (x := l2) rfl rfl ?_
      refine x_aloadn (x := 125) rfl rfl ?_
      refine z_getR (N := 92) (b := 130) 12 6 rfl f_12_26 rfl J rfl 16006 ⟨rfl, rfl⟩ rfl ?_
      refine x_sipush (v := 1600) rfl ks_1600 ?_
      refine x_iloadn (x := a1) rfl rfl ?_
      refine z_imul rfl jk_1600 rfl (by omega) (fun v5 ev5 => ?_)
      refine x_iloadn (x := l2) rfl rfl ?_
      refine z_iadd rfl rfl rfl (by omega) (fun v6 ev6 => ?_)
      refine z_lald0 (N := 6400) rfl J rfl rfl (by omega) (fun v7 => ?_)
      have ev7 := jfullL v7
      refine z_last (N := 1600) (l := 0) (u := 1600) rfl hD J Sm rfl rfl rfl (by omega) rfl (fun h w8 J Sm => ?_)
      refine z_iinc (x := l2) (lsx9 := fun v9 => [(2, .int v9), (0, .ref 125), (1, .int a1)]) rfl rfl rfl jko_1 (by omega) rfl (fun _ => rfl) (fun v9 ev9 => ?_)
      refine x_goto (tgt := 72) rfl rfl ?_
      exact jX.sub (jsb_c rfl (jsb_c rfl (jsb_c rfl jsb_n))) (ih v9 g0 g1 g2 g3 g4 g5 h (by omega) (jr_of rfl (by omega)) (jr_of rfl (by omega)) (jr_of rfl (by omega)) (jr_of rfl (by omega)) (jr_of rfl (by omega)) (jr_of rfl (by omega)) (jr_of rfl (by omega)) (by omega) ⟨bm_m C0.1 (ov_l w8 rfl), C0.2⟩ (by omega) (by omega) (jml w8 z0) (jml w8 z1) (jml w8 z2) (jml w8 z3) (jml w8 z4) (jml w8 z5) J Sm)
set_option maxRecDepth 100000 in
set_option maxHeartbeats 4000000 in
theorem ct_X12_back_r125p_41 {Dy : jH → Prop} {h0 : jH} {Q : Option Value → jH → Prop} {a1 : Int32} (yy_a1 : (-2147483648) ≤ a1.toInt ∧ a1.toInt ≤ 2147483647) (hB : jDb Dy) (hD : jDk Dy) (hQ : ∀ (v : Int32) hx9, (-2) ≤ v.toInt ∧ v.toInt ≤ 0 → jJ jSgM Dy hx9 → jSm fp_X12_back_r125p h0 hx9 → ∀ u0 u1 u2 u3 u4 : Int32, jiv hx9 126 (16 : Int32).toNatClampNeg = u0 → jiv hx9 126 (0 : Int32).toNatClampNeg = u1 → jiv hx9 126 (4 : Int32).toNatClampNeg = u2 → jiv hx9 126 (5 : Int32).toNatClampNeg = u3 → jiv hx9 126 (7 : Int32).toNatClampNeg = u4 → u0.toInt = u1.toInt + u2.toInt + u3.toInt + u4.toInt → ∀ u5 u6 : Int32, jiv hx9 126 (9 : Int32).toNatClampNeg = u5 → jiv hx9 126 (7 : Int32).toNatClampNeg = u6 → u5.toInt ≤ u6.toInt → ((¬ (0 ≤ a1.toInt ∧ a1.toInt ≤ 3) ∧ v.toInt = -1 ∧ jSm [(125, 0, 2)] h0 hx9) ∨ ((0 ≤ a1.toInt ∧ a1.toInt ≤ 3) ∧ (jiv h0 128 a1.toNatClampNeg).toInt = 0 ∧ v.toInt = -2 ∧ jSm [(125, 0, 2)] h0 hx9) ∨ ((0 ≤ a1.toInt ∧ a1.toInt ≤ 3) ∧ (jiv h0 128 a1.toNatClampNeg).toInt ≠ 0 ∧ v.toInt = 0 ∧ (jiv hx9 125 8).toInt = 0 ∧ jBm h0 hx9 a1 50660)) → Q (some (.int v)) hx9) : ∀ r : Nat, ∀ (l2 : Int32) (g0 : Int32) (g1 : Int32) (g2 : Int32) (g3 : Int32) (g4 : Int32) (g5 : Int32) (h : jH), 0 - l2.toInt < (r : Int) → 0 ≤ l2.toInt ∧ l2.toInt ≤ 0 → 0 ≤ g0.toInt ∧ g0.toInt ≤ 200 → 0 ≤ g1.toInt ∧ g1.toInt ≤ 370 → 0 ≤ g2.toInt ∧ g2.toInt ≤ 30 → 0 ≤ g3.toInt ∧ g3.toInt ≤ 100 → 0 ≤ g4.toInt ∧ g4.toInt ≤ 40 → 0 ≤ g5.toInt ∧ g5.toInt ≤ 40 → (0 ≤ a1.toInt ∧ a1.toInt ≤ 3) → (h = jsi h0 125 0 0 ∧ (jiv h0 128 a1.toNatClampNeg).toInt ≠ 0) → g1.toInt = g0.toInt + g2.toInt + g3.toInt + g4.toInt → g5.toInt ≤ g4.toInt → jiv h 126 (0 : Int32).toNatClampNeg = g0 → jiv h 126 (16 : Int32).toNatClampNeg = g1 → jiv h 126 (4 : Int32).toNatClampNeg = g2 → jiv h 126 (5 : Int32).toNatClampNeg = g3 → jiv h 126 (7 : Int32).toNatClampNeg = g4 → jiv h 126 (9 : Int32).toNatClampNeg = g5 → jJ jSgM Dy h → jSm fp_X12_back_r125p h0 h → jX m_X12_back 2 0 0 41 [(0, .ref 125), (1, .int a1), (2, .int l2)] [] h 0 0 Q := by
  intro r
  induction r with
  | zero =>
    intro l2 g0 g1 g2 g3 g4 g5 h hm y0 y1 y2 y3 y4 y5 y6 y7 C0 y9 y10 z0 z1 z2 z3 z4 z5  J Sm
    exfalso
    omega
  | succ r ih =>
    intro l2 g0 g1 g2 g3 g4 g5 h hm y0 y1 y2 y3 y4 y5 y6 y7 C0 y9 y10 z0 z1 z2 z3 z4 z5  J Sm
    refine jX.sub (jsb_c rfl (jsb_c rfl (jsb_c rfl jsb_n))) (bk_loopP hD hB J Sm rfl (by omega) (by omega) (fun v2 h J Sm S1 R3 T4 => ?_))
    have ev2 := jfull v2
    obtain ⟨u5, qu5⟩ : ∃ v : Int32, jiv h 126 (16 : Int32).toNatClampNeg = v := ⟨_, rfl⟩
    have eu5 := (show 0 ≤ u5.toInt ∧ u5.toInt ≤ 370 from qu5 ▸ jrg_c J sg_126_16_17_1_0_1 jk_16 (by omega))
    obtain ⟨u6, qu6⟩ : ∃ v : Int32, jiv h 126 (0 : Int32).toNatClampNeg = v := ⟨_, rfl⟩
    have eu6 := (show 0 ≤ u6.toInt ∧ u6.toInt ≤ 200 from qu6 ▸ jrg_c J sg_126_0_1_1_0_1 jk_0 (by omega))
    obtain ⟨u7, qu7⟩ : ∃ v : Int32, jiv h 126 (4 : Int32).toNatClampNeg = v := ⟨_, rfl⟩
    have eu7 := (show 0 ≤ u7.toInt ∧ u7.toInt ≤ 30 from qu7 ▸ jrg_c J sg_126_4_5_1_0_1 jk_4 (by omega))
    obtain ⟨u8, qu8⟩ : ∃ v : Int32, jiv h 126 (5 : Int32).toNatClampNeg = v := ⟨_, rfl⟩
    have eu8 := (show 0 ≤ u8.toInt ∧ u8.toInt ≤ 100 from qu8 ▸ jrg_c J sg_126_5_6_1_0_1 jk_5 (by omega))
    obtain ⟨u9, qu9⟩ : ∃ v : Int32, jiv h 126 (7 : Int32).toNatClampNeg = v := ⟨_, rfl⟩
    have eu9 := (show 0 ≤ u9.toInt ∧ u9.toInt ≤ 40 from qu9 ▸ jrg_c J sg_126_7_8_1_0_1 jk_7 (by omega))
    have rr2 : u5.toInt = u6.toInt + u7.toInt + u8.toInt + u9.toInt := by rw [← qu5, ← qu6, ← qu7, ← qu8, ← qu9]; exact R3.1
    obtain ⟨u10, qu10⟩ : ∃ v : Int32, jiv h 126 (9 : Int32).toNatClampNeg = v := ⟨_, rfl⟩
    have eu10 := (show 0 ≤ u10.toInt ∧ u10.toInt ≤ 40 from qu10 ▸ jrg_c J sg_126_9_10_1_0_1 jk_9 (by omega))
    have rr3 : u10.toInt ≤ u9.toInt := by rw [← qu10, ← qu9]; exact R3.2
    refine x_iconst (v := 0) rfl ki_0 ?_
    refine x_istoren (lsx9 := [(2, .int 0), (0, .ref 125), (1, .int a1)]) rfl rfl rfl ?_
    exact jX.sub (jsb_c rfl (jsb_c rfl (jsb_c rfl jsb_n))) (ct_X12_back_r125p_72 yy_a1 hB hD hQ  1601 0 u6 u5 u7 u8 u9 u10 h (by have := jk_0; omega) (jr_of jk_0 (by omega)) (jr_of rfl (by omega)) (jr_of rfl (by omega)) (jr_of rfl (by omega)) (jr_of rfl (by omega)) (jr_of rfl (by omega)) (jr_of rfl (by omega)) (by omega) ⟨bm_m (bm_e T4 C0.1 rfl) rfl, C0.2⟩ (by omega) (by omega) qu6 qu5 qu7 qu8 qu9 qu10 J Sm)
set_option maxRecDepth 100000 in
set_option maxHeartbeats 4000000 in
theorem sf_X12_back_r125p {Dy : jH → Prop} {h : jH} {Q : Option Value → jH → Prop} {a1 : Int32} (hB : jDb Dy) (hD : jDk Dy) (J : jJ jSgM Dy h) {p0 p1 p2 p3 p4 : Int32} {p5 p6 : Int32} (zp0 : jiv h 126 (16 : Int32).toNatClampNeg = p0) (zp1 : jiv h 126 (0 : Int32).toNatClampNeg = p1) (zp2 : jiv h 126 (4 : Int32).toNatClampNeg = p2) (zp3 : jiv h 126 (5 : Int32).toNatClampNeg = p3) (zp4 : jiv h 126 (7 : Int32).toNatClampNeg = p4) (rl_p0 : p0.toInt = p1.toInt + p2.toInt + p3.toInt + p4.toInt) (zp5 : jiv h 126 (9 : Int32).toNatClampNeg = p5) (zp6 : jiv h 126 (7 : Int32).toNatClampNeg = p6) (rl_p5 : p5.toInt ≤ p6.toInt) (hQ : ∀ (v : Int32) hx9, (-2) ≤ v.toInt ∧ v.toInt ≤ 0 → jJ jSgM Dy hx9 → jSm fp_X12_back_r125p h hx9 → ∀ u0 u1 u2 u3 u4 : Int32, jiv hx9 126 (16 : Int32).toNatClampNeg = u0 → jiv hx9 126 (0 : Int32).toNatClampNeg = u1 → jiv hx9 126 (4 : Int32).toNatClampNeg = u2 → jiv hx9 126 (5 : Int32).toNatClampNeg = u3 → jiv hx9 126 (7 : Int32).toNatClampNeg = u4 → u0.toInt = u1.toInt + u2.toInt + u3.toInt + u4.toInt → ∀ u5 u6 : Int32, jiv hx9 126 (9 : Int32).toNatClampNeg = u5 → jiv hx9 126 (7 : Int32).toNatClampNeg = u6 → u5.toInt ≤ u6.toInt → ((¬ (0 ≤ a1.toInt ∧ a1.toInt ≤ 3) ∧ v.toInt = -1 ∧ jSm [(125, 0, 2)] h hx9) ∨ ((0 ≤ a1.toInt ∧ a1.toInt ≤ 3) ∧ (jiv h 128 a1.toNatClampNeg).toInt = 0 ∧ v.toInt = -2 ∧ jSm [(125, 0, 2)] h hx9) ∨ ((0 ≤ a1.toInt ∧ a1.toInt ≤ 3) ∧ (jiv h 128 a1.toNatClampNeg).toInt ≠ 0 ∧ v.toInt = 0 ∧ (jiv hx9 125 8).toInt = 0 ∧ jBm h hx9 a1 50660)) → Q (some (.int v)) hx9) : jC m_X12_back 2 0 0 [.ref 125, .int a1] h Q := by
  refine jC.of rfl k_X12_back rfl ?_
  have Sm := jSm_rf fp_X12_back_r125p h
  have ep0 := (show 0 ≤ p0.toInt ∧ p0.toInt ≤ 370 from zp0 ▸ jrg_c J sg_126_16_17_1_0_1 jk_16 (by omega))
  have ep1 := (show 0 ≤ p1.toInt ∧ p1.toInt ≤ 200 from zp1 ▸ jrg_c J sg_126_0_1_1_0_1 jk_0 (by omega))
  have ep2 := (show 0 ≤ p2.toInt ∧ p2.toInt ≤ 30 from zp2 ▸ jrg_c J sg_126_4_5_1_0_1 jk_4 (by omega))
  have ep3 := (show 0 ≤ p3.toInt ∧ p3.toInt ≤ 100 from zp3 ▸ jrg_c J sg_126_5_6_1_0_1 jk_5 (by omega))
  have ep4 := (show 0 ≤ p4.toInt ∧ p4.toInt ≤ 40 from zp4 ▸ jrg_c J sg_126_7_8_1_0_1 jk_7 (by omega))
  have ep5 := (show 0 ≤ p5.toInt ∧ p5.toInt ≤ 40 from zp5 ▸ jrg_c J sg_126_9_10_1_0_1 jk_9 (by omega))
  have ep6 := (show 0 ≤ p6.toInt ∧ p6.toInt ≤ 40 from zp6 ▸ jrg_c J sg_126_7_8_1_0_1 jk_7 (by omega))
  obtain rfl : p4 = p6 := zp4.symm.trans zp6
  skip
  have yy_a1 := jfull a1
  have ea1 := jfull a1
  show jX m_X12_back 2 0 0 0 [(0, .ref 125), (1, .int a1)] [] _ 0 0 _
  refine x_aloadn (x := 125) rfl rfl ?_
  refine x_iconst (v := 0) rfl ki_0 ?_
  refine z_putI (N := 92) (w := 0) 12 0 rfl f_12_180 rfl (jfin_no TX12 RX12 92 rfl rfl) hD J Sm rfl rfl jk_0 (pw_125_0 (by omega)) rfl (fun h w1 J Sm => ?_)
  refine x_iloadn (x := a1) rfl rfl ?_
  refine z_i2l rfl rfl (fun v2 ev2 => ?_)
  refine x_lconst (v := 0) rfl kl_0 ?_
  refine x_ldc2 (v := 3) rfl z_12_195 ?_
  refine x_inst (N := m_X12_in) (As := [.long v2, .long 0, .long 3]) (st := []) (dx9 := 1) (mc := 0) (ms := 0) (host := "") rfl t_X12_in ⟨Or.inl q_12_188, s_X12_in⟩ rfl (by decide) rfl rfl ⟨by decide, by decide⟩ (zc_X12_in rfl jkl_0 jkl_3 (fun v3 ev3 => ?_))
  show jX m_X12_back 2 0 0 14 [(0, .ref 125), (1, .int a1)] [.int v3] _ 0 0 _
  refine x_ifne (tgt := 23) rfl rfl (ti_ne rfl jk_0 ⟨fun c4 => ?_, fun c4 => ?_⟩)
  ·
    refine x_aloadn (x := 125) rfl rfl ?_
    refine z_getR (N := 92) (b := 128) 12 4 rfl f_12_18 rfl J rfl 16004 ⟨rfl, rfl⟩ rfl ?_
    refine x_iloadn (x := a1) rfl rfl ?_
    refine z_zald (N := 4) rfl J rfl sg_128_0_4_1_0_1 rfl (by omega) (fun v5 qv5 ev5 => ?_)
    have kk := congrArg Int32.toInt ((congrFun (ov_e1 (a := 128) w1 rfl) _).symm.trans qv5)
    refine x_ifne (tgt := 39) rfl rfl (ti_ne rfl jk_0 ⟨fun c6 => ?_, fun c6 => ?_⟩)
    ·
      refine x_iconst (v := 0) rfl ki_0 ?_
      refine x_istoren (lsx9 := [(2, .int 0), (0, .ref 125), (1, .int a1)]) rfl rfl rfl ?_
      exact jX.sub (jsb_c rfl (jsb_c rfl (jsb_c rfl jsb_n))) (ct_X12_back_r125p_41 yy_a1 hB hD hQ  1 0 p1 p0 p2 p3 p4 p5 h (by have := jk_0; omega) (jr_of jk_0 (by omega)) (jr_of rfl (by omega)) (jr_of rfl (by omega)) (jr_of rfl (by omega)) (jr_of rfl (by omega)) (jr_of rfl (by omega)) (jr_of rfl (by omega)) (by omega) ⟨w1, by omega⟩ (by omega) (by omega) (jmo w1 rfl zp1) (jmo w1 rfl zp0) (jmo w1 rfl zp2) (jmo w1 rfl zp3) (jmo w1 rfl zp4) (jmo w1 rfl zp5) J Sm)
    ·
      refine x_aloadn (x := 125) rfl rfl ?_
      refine x_bipush (v := (-2)) rfl kb_m2 ?_
      refine x_inv (N := m_X12_told) (As := [.int (-2)]) (b := 125) (st := []) (dx9 := 1) (mc := 0) (ms := 0) (host := "") 12 rfl t_X12_told ⟨Or.inl q_12_197, i_X12_told.1, i_X12_told.2⟩ ⟨by decide, rfl⟩ (congrArg Prod.fst (J.1.1 125 (12, 92) rfl)) rfl (by decide) rfl rfl ⟨by decide, by decide⟩ (jC.of rfl k_X12_told rfl ?_)
      show jX m_X12_told 1 0 0 0 [(0, .ref 125), (1, .int (-2))] [] _ 0 0 _
      refine x_aloadn (x := 125) rfl rfl ?_
      refine x_iloadn (x := (-2)) rfl rfl ?_
      refine x_ifge (tgt := 9) rfl rfl (ti_ge jk_m2 jk_0 (br_f (by omega) ?_))
      refine x_iloadn (x := (-2)) rfl rfl ?_
      refine x_goto (tgt := 10) rfl rfl ?_
      refine z_putI (N := 92) (w := (-2)) 12 1 rfl f_12_183 rfl (jfin_no TX12 RX12 92 rfl rfl) hD J Sm rfl rfl jk_m2 (pw_125_1 (by omega)) rfl (fun h w7 J Sm => ?_)
      refine x_iloadn (x := (-2)) rfl rfl ?_
      refine x_iret rfl rfl ?_
      show jX m_X12_back 2 0 0 38 [(0, .ref 125), (1, .int a1)] [.int (-2)] _ 0 0 _
      refine x_iret rfl rfl ?_
      exact hQ _ _ (jr_of jk_m2 (by omega)) J Sm _ _ _ _ _ (jmo w7 rfl (jmo w1 rfl zp0)) (jmo w7 rfl (jmo w1 rfl zp1)) (jmo w7 rfl (jmo w1 rfl zp2)) (jmo w7 rfl (jmo w1 rfl zp3)) (jmo w7 rfl (jmo w1 rfl zp4)) (by omega) _ _ (jmo w7 rfl (jmo w1 rfl zp5)) (jmo w7 rfl (jmo w1 rfl zp4)) (by omega) (Or.inr (Or.inl ⟨by omega, by omega, jk_m2, (sm_w (sm_w (jSm_rf _ _) w1 rfl) w7 rfl)⟩))
  ·
    refine x_aloadn (x := 125) rfl rfl ?_
    refine x_iconst (v := (-1)) rfl ki_m1 ?_
    refine x_inv (N := m_X12_told) (As := [.int (-1)]) (b := 125) (st := []) (dx9 := 1) (mc := 0) (ms := 0) (host := "") 12 rfl t_X12_told ⟨Or.inl q_12_197, i_X12_told.1, i_X12_told.2⟩ ⟨by decide, rfl⟩ (congrArg Prod.fst (J.1.1 125 (12, 92) rfl)) rfl (by decide) rfl rfl ⟨by decide, by decide⟩ (jC.of rfl k_X12_told rfl ?_)
    show jX m_X12_told 1 0 0 0 [(0, .ref 125), (1, .int (-1))] [] _ 0 0 _
    refine x_aloadn (x := 125) rfl rfl ?_
    refine x_iloadn (x := (-1)) rfl rfl ?_
    refine x_ifge (tgt := 9) rfl rfl (ti_ge jk_m1 jk_0 (br_f (by omega) ?_))
    refine x_iloadn (x := (-1)) rfl rfl ?_
    refine x_goto (tgt := 10) rfl rfl ?_
    refine z_putI (N := 92) (w := (-1)) 12 1 rfl f_12_183 rfl (jfin_no TX12 RX12 92 rfl rfl) hD J Sm rfl rfl jk_m1 (pw_125_1 (by omega)) rfl (fun h w8 J Sm => ?_)
    refine x_iloadn (x := (-1)) rfl rfl ?_
    refine x_iret rfl rfl ?_
    show jX m_X12_back 2 0 0 22 [(0, .ref 125), (1, .int a1)] [.int (-1)] _ 0 0 _
    refine x_iret rfl rfl ?_
    exact hQ _ _ (jr_of jk_m1 (by omega)) J Sm _ _ _ _ _ (jmo w8 rfl (jmo w1 rfl zp0)) (jmo w8 rfl (jmo w1 rfl zp1)) (jmo w8 rfl (jmo w1 rfl zp2)) (jmo w8 rfl (jmo w1 rfl zp3)) (jmo w8 rfl (jmo w1 rfl zp4)) (by omega) _ _ (jmo w8 rfl (jmo w1 rfl zp5)) (jmo w8 rfl (jmo w1 rfl zp4)) (by omega) (Or.inl ⟨by omega, jk_m1, (sm_w (sm_w (jSm_rf _ _) w1 rfl) w8 rfl)⟩)
def fp_X12_end_r125p : jFp := [(125, 0, 1), (125, 8, 9)]
set_option maxRecDepth 100000 in
set_option maxHeartbeats 4000000 in
theorem ct_X12_end_r125p_17 {Dy : jH → Prop} {h0 : jH} {Q : Option Value → jH → Prop} {a1 : Int32} (yy_a1 : (-2147483648) ≤ a1.toInt ∧ a1.toInt ≤ 2147483647) (hD : jDk Dy) (hQ : ∀ (v : Int32) hx9, (-1) ≤ v.toInt ∧ v.toInt ≤ 400 → jJ jSgM Dy hx9 → jSm fp_X12_end_r125p h0 hx9 → ((¬ (0 ≤ a1.toInt ∧ a1.toInt ≤ (jiv h0 125 8).toInt) ∧ v.toInt = -1 ∧ (jiv hx9 125 8).toInt = (jiv h0 125 8).toInt) ∨ ((0 ≤ a1.toInt ∧ a1.toInt ≤ (jiv h0 125 8).toInt) ∧ v.toInt = a1.toInt ∧ (jiv hx9 125 8).toInt = a1.toInt)) → Q (some (.int v)) hx9) : ∀ (h : jH), (h = jsi h0 125 0 0 ∧ ¬ (0 ≤ a1.toInt ∧ a1.toInt ≤ (jiv h0 125 8).toInt)) → jJ jSgM Dy h → jSm fp_X12_end_r125p h0 h → jX m_X12_end 1 0 0 17 [] [] h 0 0 Q := by
  intro  h C0   J Sm
  refine x_iconst (v := (-1)) rfl ki_m1 ?_
  refine x_iret rfl rfl ?_
  exact hQ _ _ (jr_of jk_m1 (by omega)) J Sm (Or.inl ⟨C0.2, jk_m1, by rw [C0.1]; rfl⟩)
set_option maxRecDepth 100000 in
set_option maxHeartbeats 4000000 in
theorem sf_X12_end_r125p {Dy : jH → Prop} {h : jH} {Q : Option Value → jH → Prop} {a1 : Int32} (hD : jDk Dy) (J : jJ jSgM Dy h) (hQ : ∀ (v : Int32) hx9, (-1) ≤ v.toInt ∧ v.toInt ≤ 400 → jJ jSgM Dy hx9 → jSm fp_X12_end_r125p h hx9 → ((¬ (0 ≤ a1.toInt ∧ a1.toInt ≤ (jiv h 125 8).toInt) ∧ v.toInt = -1 ∧ (jiv hx9 125 8).toInt = (jiv h 125 8).toInt) ∨ ((0 ≤ a1.toInt ∧ a1.toInt ≤ (jiv h 125 8).toInt) ∧ v.toInt = a1.toInt ∧ (jiv hx9 125 8).toInt = a1.toInt)) → Q (some (.int v)) hx9) : jC m_X12_end 1 0 0 [.ref 125, .int a1] h Q := by
  refine jC.of rfl k_X12_end rfl ?_
  have Sm := jSm_rf fp_X12_end_r125p h
  have yy_a1 := jfull a1
  have ea1 := jfull a1
  show jX m_X12_end 1 0 0 0 [(0, .ref 125), (1, .int a1)] [] _ 0 0 _
  obtain ⟨u1, qu1⟩ : ∃ v : Int32, jiv h 125 8 = v := ⟨_, rfl⟩
  have eu1 := (show 0 ≤ u1.toInt ∧ u1.toInt ≤ 400 from qu1 ▸ jrg_f J sg_125_8_9_1_0_1)
  have ou1 := congrArg Int32.toInt qu1
  refine x_aloadn (x := 125) rfl rfl ?_
  refine x_iconst (v := 0) rfl ki_0 ?_
  refine z_putI (N := 92) (w := 0) 12 0 rfl f_12_180 rfl (jfin_no TX12 RX12 92 rfl rfl) hD J Sm rfl rfl jk_0 (pw_125_0 (by omega)) rfl (fun h w2 J Sm => ?_)
  refine x_iloadn (x := a1) rfl rfl ?_
  refine x_iflt (tgt := 17) rfl rfl (ti_lt rfl jk_0 ⟨fun c3 => ?_, fun c3 => ?_⟩)
  ·
    exact jX.sub jsb_n (ct_X12_end_r125p_17 yy_a1 hD hQ  h ⟨w2, by omega⟩ J Sm)
  ·
    refine x_iloadn (x := a1) rfl rfl ?_
    refine x_aloadn (x := 125) rfl rfl ?_
    refine z_getM (N := 92) (v := u1) 12 8 rfl f_12_201 rfl J rfl (jmo w2 rfl qu1) ?_
    refine x_icle (tgt := 19) rfl rfl (ti_le rfl rfl ⟨fun c4 => ?_, fun c4 => ?_⟩)
    ·
      refine x_aloadn (x := 125) rfl rfl ?_
      refine x_iloadn (x := a1) rfl rfl ?_
      refine z_putI (N := 92) (w := a1.toInt) 12 8 rfl f_12_201 rfl (jfin_no TX12 RX12 92 rfl rfl) hD J Sm rfl rfl rfl (pw_125_8 (by omega)) rfl (fun h w5 J Sm => ?_)
      refine x_iloadn (x := a1) rfl rfl ?_
      refine x_iret rfl rfl ?_
      exact hQ _ _ (jr_of rfl (by omega)) J Sm (Or.inr ⟨by omega, by omega, by have := congrArg Int32.toInt (jmw w5); omega⟩)
    ·
      exact jX.sub jsb_n (ct_X12_end_r125p_17 yy_a1 hD hQ  h ⟨w2, by omega⟩ J Sm)
def fp_X12_entry_r125p : jFp := [(125, 0, 1), (125, 1, 2), (126, 13, 14), (126, 48960, 49360)]
set_option maxRecDepth 100000 in
set_option maxHeartbeats 4000000 in
theorem ct_X12_entry_r125p_46 {Dy : jH → Prop} {h0 : jH} {Q : Option Value → jH → Prop} {a1 : Int32} (yy_a1 : (-2147483648) ≤ a1.toInt ∧ a1.toInt ≤ 2147483647) {a2 : Int32} (yy_a2 : (-2147483648) ≤ a2.toInt ∧ a2.toInt ≤ 2147483647) {a3 : Int32} (yy_a3 : (-2147483648) ≤ a3.toInt ∧ a3.toInt ≤ 2147483647) {a4 : Int32} (yy_a4 : (-2147483648) ≤ a4.toInt ∧ a4.toInt ≤ 2147483647) (hD : jDk Dy) (hQ : ∀ (v : Int32) hx9, (-5) ≤ v.toInt ∧ v.toInt ≤ 100 → jJ jSgM Dy hx9 → jSm fp_X12_entry_r125p h0 hx9 → ((¬ (0 ≤ a1.toInt ∧ a1.toInt ≤ 3 ∧ 0 ≤ a2.toInt ∧ a2.toInt ≤ 399 ∧ (-1000000) ≤ a3.toInt ∧ a3.toInt ≤ 1000000 ∧ 0 ≤ a4.toInt ∧ a4.toInt ≤ 146399) ∧ v.toInt = -1 ∧ jiv hx9 126 = jiv h0 126) ∨ ((0 ≤ a1.toInt ∧ a1.toInt ≤ 3 ∧ 0 ≤ a2.toInt ∧ a2.toInt ≤ 399 ∧ (-1000000) ≤ a3.toInt ∧ a3.toInt ≤ 1000000 ∧ 0 ≤ a4.toInt ∧ a4.toInt ≤ 146399) ∧ (jiv h0 126 13).toInt = 100 ∧ v.toInt = -5 ∧ jiv hx9 126 = jiv h0 126) ∨ ((0 ≤ a1.toInt ∧ a1.toInt ≤ 3 ∧ 0 ≤ a2.toInt ∧ a2.toInt ≤ 399 ∧ (-1000000) ≤ a3.toInt ∧ a3.toInt ≤ 1000000 ∧ 0 ≤ a4.toInt ∧ a4.toInt ≤ 146399) ∧ (jiv h0 126 13).toInt < 100 ∧ v.toInt = (jiv h0 126 13).toInt + 1 ∧ jMw 13 48960 4 [a1, a2, a3, a4] h0 hx9)) → Q (some (.int v)) hx9) : ∀ (h : jH), (h = jsi h0 125 0 0 ∧ ¬ (0 ≤ a1.toInt ∧ a1.toInt ≤ 3 ∧ 0 ≤ a2.toInt ∧ a2.toInt ≤ 399 ∧ (-1000000) ≤ a3.toInt ∧ a3.toInt ≤ 1000000 ∧ 0 ≤ a4.toInt ∧ a4.toInt ≤ 146399)) → jJ jSgM Dy h → jSm fp_X12_entry_r125p h0 h → jX m_X12_entry 3 0 0 46 [(0, .ref 125)] [] h 0 0 Q := by
  intro  h C0   J Sm
  refine x_aloadn (x := 125) rfl rfl ?_
  refine x_iconst (v := (-1)) rfl ki_m1 ?_
  refine x_inv (N := m_X12_told) (As := [.int (-1)]) (b := 125) (st := []) (dx9 := 2) (mc := 0) (ms := 0) (host := "") 12 rfl t_X12_told ⟨Or.inl q_12_197, i_X12_told.1, i_X12_told.2⟩ ⟨by decide, rfl⟩ (congrArg Prod.fst (J.1.1 125 (12, 92) rfl)) rfl (by decide) rfl rfl ⟨by decide, by decide⟩ (jC.of rfl k_X12_told rfl ?_)
  show jX m_X12_told 2 0 0 0 [(0, .ref 125), (1, .int (-1))] [] _ 0 0 _
  refine x_aloadn (x := 125) rfl rfl ?_
  refine x_iloadn (x := (-1)) rfl rfl ?_
  refine x_ifge (tgt := 9) rfl rfl (ti_ge jk_m1 jk_0 (br_f (by omega) ?_))
  refine x_iloadn (x := (-1)) rfl rfl ?_
  refine x_goto (tgt := 10) rfl rfl ?_
  refine z_putI (N := 92) (w := (-1)) 12 1 rfl f_12_183 rfl (jfin_no TX12 RX12 92 rfl rfl) hD J Sm rfl rfl jk_m1 (pw_125_1 (by omega)) rfl (fun h w1 J Sm => ?_)
  refine x_iloadn (x := (-1)) rfl rfl ?_
  refine x_iret rfl rfl ?_
  show jX m_X12_entry 3 0 0 51 [(0, .ref 125)] [.int (-1)] _ 0 0 _
  refine x_iret rfl rfl ?_
  exact hQ _ _ (jr_of jk_m1 (by omega)) J Sm (Or.inl ⟨C0.2, jk_m1, (ov_o w1 rfl (ov_e1 C0.1 rfl))⟩)
set_option maxRecDepth 100000 in
set_option maxHeartbeats 4000000 in
theorem sf_X12_entry_r125p {Dy : jH → Prop} {h : jH} {Q : Option Value → jH → Prop} {a1 : Int32} {a2 : Int32} {a3 : Int32} {a4 : Int32} (hD : jDk Dy) (J : jJ jSgM Dy h) (hQ : ∀ (v : Int32) hx9, (-5) ≤ v.toInt ∧ v.toInt ≤ 100 → jJ jSgM Dy hx9 → jSm fp_X12_entry_r125p h hx9 → ((¬ (0 ≤ a1.toInt ∧ a1.toInt ≤ 3 ∧ 0 ≤ a2.toInt ∧ a2.toInt ≤ 399 ∧ (-1000000) ≤ a3.toInt ∧ a3.toInt ≤ 1000000 ∧ 0 ≤ a4.toInt ∧ a4.toInt ≤ 146399) ∧ v.toInt = -1 ∧ jiv hx9 126 = jiv h 126) ∨ ((0 ≤ a1.toInt ∧ a1.toInt ≤ 3 ∧ 0 ≤ a2.toInt ∧ a2.toInt ≤ 399 ∧ (-1000000) ≤ a3.toInt ∧ a3.toInt ≤ 1000000 ∧ 0 ≤ a4.toInt ∧ a4.toInt ≤ 146399) ∧ (jiv h 126 13).toInt = 100 ∧ v.toInt = -5 ∧ jiv hx9 126 = jiv h 126) ∨ ((0 ≤ a1.toInt ∧ a1.toInt ≤ 3 ∧ 0 ≤ a2.toInt ∧ a2.toInt ≤ 399 ∧ (-1000000) ≤ a3.toInt ∧ a3.toInt ≤ 1000000 ∧ 0 ≤ a4.toInt ∧ a4.toInt ≤ 146399) ∧ (jiv h 126 13).toInt < 100 ∧ v.toInt = (jiv h 126 13).toInt + 1 ∧ jMw 13 48960 4 [a1, a2, a3, a4] h hx9)) → Q (some (.int v)) hx9) : jC m_X12_entry 3 0 0 [.ref 125, .int a1, .int a2, .int a3, .int a4] h Q := by
  refine jC.of rfl k_X12_entry rfl ?_
  have Sm := jSm_rf fp_X12_entry_r125p h
  have yy_a1 := jfull a1
  have yy_a2 := jfull a2
  have yy_a3 := jfull a3
  have yy_a4 := jfull a4
  have ea1 := jfull a1
  have ea2 := jfull a2
  have ea3 := jfull a3
  have ea4 := jfull a4
  show jX m_X12_entry 3 0 0 0 [(0, .ref 125), (1, .int a1), (2, .int a2), (3, .int a3), (4, .int a4)] [] _ 0 0 _
  obtain ⟨u1, qu1⟩ : ∃ v : Int32, jiv h 126 (13 : Int32).toNatClampNeg = v := ⟨_, rfl⟩
  have eu1 := (show 0 ≤ u1.toInt ∧ u1.toInt ≤ 100 from qu1 ▸ jrg_c J sg_126_13_14_1_0_1 jk_13 (by omega))
  have ou1 := ov_n (n := 13) (by decide) qu1
  refine x_aloadn (x := 125) rfl rfl ?_
  refine x_iconst (v := 0) rfl ki_0 ?_
  refine z_putI (N := 92) (w := 0) 12 0 rfl f_12_180 rfl (jfin_no TX12 RX12 92 rfl rfl) hD J Sm rfl rfl jk_0 (pw_125_0 (by omega)) rfl (fun h w2 J Sm => ?_)
  refine x_iloadn (x := a1) rfl rfl ?_
  refine z_i2l rfl rfl (fun v3 ev3 => ?_)
  refine x_lconst (v := 0) rfl kl_0 ?_
  refine x_ldc2 (v := 3) rfl z_12_195 ?_
  refine x_inst (N := m_X12_in) (As := [.long v3, .long 0, .long 3]) (st := []) (dx9 := 1) (mc := 0) (ms := 0) (host := "") rfl t_X12_in ⟨Or.inl q_12_188, s_X12_in⟩ rfl (by decide) rfl rfl ⟨by decide, by decide⟩ (zc_X12_in rfl jkl_0 jkl_3 (fun v4 ev4 => ?_))
  show jX m_X12_entry 3 0 0 14 [(0, .ref 125), (1, .int a1), (2, .int a2), (3, .int a3), (4, .int a4)] [.int v4] _ 0 0 _
  refine x_ifeq (tgt := 46) rfl rfl (ti_eq rfl jk_0 ⟨fun c5 => ?_, fun c5 => ?_⟩)
  ·
    exact jX.sub (jsb_c rfl jsb_n) (ct_X12_entry_r125p_46 yy_a1 yy_a2 yy_a3 yy_a4 hD hQ  h ⟨w2, by omega⟩ J Sm)
  ·
    refine x_iloadn (x := a2) rfl rfl ?_
    refine x_inst (N := m_X12_isYear) (As := [.int a2]) (st := []) (dx9 := 2) (mc := 0) (ms := 0) (host := "") rfl t_X12_isYear ⟨Or.inl q_12_817, s_X12_isYear⟩ rfl (by decide) rfl rfl ⟨by decide, by decide⟩ (zc_X12_isYear (d := 1) rfl (fun v6 ev6 => ?_))
    show jX m_X12_entry 3 0 0 21 [(0, .ref 125), (1, .int a1), (2, .int a2), (3, .int a3), (4, .int a4)] [.int v6] _ 0 0 _
    refine x_ifeq (tgt := 46) rfl rfl (ti_eq rfl jk_0 ⟨fun c7 => ?_, fun c7 => ?_⟩)
    ·
      exact jX.sub (jsb_c rfl jsb_n) (ct_X12_entry_r125p_46 yy_a1 yy_a2 yy_a3 yy_a4 hD hQ  h ⟨w2, by omega⟩ J Sm)
    ·
      refine x_iloadn (x := a3) rfl rfl ?_
      refine z_i2l rfl rfl (fun v8 ev8 => ?_)
      refine x_ldc2 (v := (-1000000)) rfl z_12_841 ?_
      refine x_ldc2 (v := 1000000) rfl z_12_244 ?_
      refine x_inst (N := m_X12_in) (As := [.long v8, .long (-1000000), .long 1000000]) (st := []) (dx9 := 1) (mc := 0) (ms := 0) (host := "") rfl t_X12_in ⟨Or.inl q_12_188, s_X12_in⟩ rfl (by decide) rfl rfl ⟨by decide, by decide⟩ (zc_X12_in rfl jkl_m1000000 jkl_1000000 (fun v9 ev9 => ?_))
      show jX m_X12_entry 3 0 0 35 [(0, .ref 125), (1, .int a1), (2, .int a2), (3, .int a3), (4, .int a4)] [.int v9] _ 0 0 _
      refine x_ifeq (tgt := 46) rfl rfl (ti_eq rfl jk_0 ⟨fun c10 => ?_, fun c10 => ?_⟩)
      ·
        exact jX.sub (jsb_c rfl jsb_n) (ct_X12_entry_r125p_46 yy_a1 yy_a2 yy_a3 yy_a4 hD hQ  h ⟨w2, by omega⟩ J Sm)
      ·
        refine x_iload (x := a4) rfl rfl ?_
        refine x_inst (N := m_X12_isDay) (As := [.int a4]) (st := []) (dx9 := 2) (mc := 0) (ms := 0) (host := "") rfl t_X12_isDay ⟨Or.inl q_12_273, s_X12_isDay⟩ rfl (by decide) rfl rfl ⟨by decide, by decide⟩ (zc_X12_isDay (d := 1) rfl (fun v11 ev11 => ?_))
        show jX m_X12_entry 3 0 0 43 [(0, .ref 125), (1, .int a1), (2, .int a2), (3, .int a3), (4, .int a4)] [.int v11] _ 0 0 _
        refine x_ifne (tgt := 52) rfl rfl (ti_ne rfl jk_0 ⟨fun c12 => ?_, fun c12 => ?_⟩)
        ·
          refine x_aloadn (x := 125) rfl rfl ?_
          refine z_getR (N := 92) (b := 126) 12 2 rfl f_12_8 rfl J rfl 16002 ⟨rfl, rfl⟩ rfl ?_
          refine x_bipush (v := 13) rfl kb_13 ?_
          refine z_ialdM (N := 50660) (v := u1) rfl J rfl jk_13 (by omega) (jmo w2 rfl qu1) ?_
          refine x_bipush (v := 100) rfl kb_100 ?_
          refine x_icne (tgt := 71) rfl rfl (ti_ne rfl jk_100 ⟨fun c13 => ?_, fun c13 => ?_⟩)
          ·
            refine x_aloadn (x := 125) rfl rfl ?_
            refine x_ldcw (v := 48960) rfl z_12_843 ?_
            refine x_iconst (v := 4) rfl ki_4 ?_
            refine x_aloadn (x := 125) rfl rfl ?_
            refine z_getR (N := 92) (b := 126) 12 2 rfl f_12_8 rfl J rfl 16002 ⟨rfl, rfl⟩ rfl ?_
            refine x_bipush (v := 13) rfl kb_13 ?_
            refine z_ialdM (N := 50660) (v := u1) rfl J rfl jk_13 (by omega) (jmo w2 rfl qu1) ?_
            refine z_imul rfl jk_4 rfl (by omega) (fun v14 ev14 => ?_)
            refine z_iadd rfl jk_48960 rfl (by omega) (fun v15 ev15 => ?_)
            refine x_iloadn (x := a1) rfl rfl ?_
            refine x_iloadn (x := a2) rfl rfl ?_
            refine x_iloadn (x := a3) rfl rfl ?_
            refine x_iload (x := a4) rfl rfl ?_
            refine x_inv (N := m_X12_addFour) (As := [.int v15, .int a1, .int a2, .int a3, .int a4]) (b := 125) (st := []) (dx9 := 2) (mc := 0) (ms := 0) (host := "") 12 rfl t_X12_addFour ⟨Or.inl q_12_814, i_X12_addFour.1, i_X12_addFour.2⟩ ⟨by decide, rfl⟩ (congrArg Prod.fst (J.1.1 125 (12, 92) rfl)) rfl (by decide) rfl rfl ⟨by decide, by decide⟩ (jC.of rfl k_X12_addFour rfl ?_)
            show jX m_X12_addFour 2 0 0 0 [(0, .ref 125), (1, .int v15), (2, .int a1), (3, .int a2), (4, .int a3), (5, .int a4)] [] _ 0 0 _
            refine x_aloadn (x := 125) rfl rfl ?_
            refine z_getR (N := 92) (b := 126) 12 2 rfl f_12_8 rfl J rfl 16002 ⟨rfl, rfl⟩ rfl ?_
            refine x_iloadn (x := v15) rfl rfl ?_
            refine x_iloadn (x := a1) rfl rfl ?_
            refine z_iast (N := 50660) (l := 48960) (u := 49360) (w := a1.toInt) rfl hD J Sm rfl rfl rfl (by omega) rfl (wr_126_48960 (by omega) (fun q1 q2 q3 q4 => by omega) (fun q1 q2 q3 q4 => by omega) (fun q1 q2 q3 q4 => by omega) (fun q1 q2 q3 q4 => by omega)) rfl (fun h w16 J Sm => ?_)
            refine x_aloadn (x := 125) rfl rfl ?_
            refine z_getR (N := 92) (b := 126) 12 2 rfl f_12_8 rfl J rfl 16002 ⟨rfl, rfl⟩ rfl ?_
            refine x_iloadn (x := v15) rfl rfl ?_
            refine x_iconst (v := 1) rfl ki_1 ?_
            refine z_iadd rfl rfl jk_1 (by omega) (fun v17 ev17 => ?_)
            refine x_iloadn (x := a2) rfl rfl ?_
            refine z_iast (N := 50660) (l := 48960) (u := 49360) (w := a2.toInt) rfl hD J Sm rfl rfl rfl (by omega) rfl (wr_126_48960 (by omega) (fun q1 q2 q3 q4 => by omega) (fun q1 q2 q3 q4 => by omega) (fun q1 q2 q3 q4 => by omega) (fun q1 q2 q3 q4 => by omega)) rfl (fun h w18 J Sm => ?_)
            refine x_aloadn (x := 125) rfl rfl ?_
            refine z_getR (N := 92) (b := 126) 12 2 rfl f_12_8 rfl J rfl 16002 ⟨rfl, rfl⟩ rfl ?_
            refine x_iloadn (x := v15) rfl rfl ?_
            refine x_iconst (v := 2) rfl ki_2 ?_
            refine z_iadd rfl rfl jk_2 (by omega) (fun v19 ev19 => ?_)
            refine x_iload (x := a3) rfl rfl ?_
            refine z_iast (N := 50660) (l := 48960) (u := 49360) (w := a3.toInt) rfl hD J Sm rfl rfl rfl (by omega) rfl (wr_126_48960 (by omega) (fun q1 q2 q3 q4 => by omega) (fun q1 q2 q3 q4 => by omega) (fun q1 q2 q3 q4 => by omega) (fun q1 q2 q3 q4 => by omega)) rfl (fun h w20 J Sm => ?_)
            refine x_aloadn (x := 125) rfl rfl ?_
            refine z_getR (N := 92) (b := 126) 12 2 rfl f_12_8 rfl J rfl 16002 ⟨rfl, rfl⟩ rfl ?_
            refine x_iloadn (x := v15) rfl rfl ?_
            refine x_iconst (v := 3) rfl ki_3 ?_
            refine z_iadd rfl rfl jk_3 (by omega) (fun v21 ev21 => ?_)
            refine x_iload (x := a4) rfl rfl ?_
            refine z_iast (N := 50660) (l := 48960) (u := 49360) (w := a4.toInt) rfl hD J Sm rfl rfl rfl (by omega) rfl (wr_126_48960 (by omega) (fun q1 q2 q3 q4 => by omega) (fun q1 q2 q3 q4 => by omega) (fun q1 q2 q3 q4 => by omega) (fun q1 q2 q3 q4 => by omega)) rfl (fun h w22 J Sm => ?_)
            refine x_vret rfl rfl ?_
            show jX m_X12_entry 3 0 0 93 [(0, .ref 125), (1, .int a1), (2, .int a2), (3, .int a3), (4, .int a4)] [] _ 0 0 _
            refine x_aloadn (x := 125) rfl rfl ?_
            refine z_getR (N := 92) (b := 126) 12 2 rfl f_12_8 rfl J rfl 16002 ⟨rfl, rfl⟩ rfl ?_
            refine x_bipush (v := 13) rfl kb_13 ?_
            refine x_dup2 rfl rfl rfl ?_
            refine z_ialdM (N := 50660) (v := u1) rfl J rfl jk_13 (by omega) (jmo2 w22 rfl jk_13 (by omega) (jmo2 w20 rfl jk_13 (by omega) (jmo2 w18 rfl jk_13 (by omega) (jmo2 w16 rfl jk_13 (by omega) (jmo w2 rfl qu1))))) ?_
            refine x_iconst (v := 1) rfl ki_1 ?_
            refine z_iadd rfl rfl jk_1 (by omega) (fun v23 ev23 => ?_)
            refine z_iast (N := 50660) (l := 13) (u := 14) (w := v23.toInt) rfl hD J Sm rfl rfl jk_13 (by omega) rfl (wr_126_13 (by omega) (fun q1 q2 q3 q4 => by omega)) rfl (fun h w24 J Sm => ?_)
            refine x_aloadn (x := 125) rfl rfl ?_
            refine x_aloadn (x := 125) rfl rfl ?_
            refine z_getR (N := 92) (b := 126) 12 2 rfl f_12_8 rfl J rfl 16002 ⟨rfl, rfl⟩ rfl ?_
            refine x_bipush (v := 13) rfl kb_13 ?_
            refine z_ialdM (N := 50660) (v := v23) rfl J rfl jk_13 (by omega) (jmw w24) ?_
            refine x_inv (N := m_X12_told) (As := [.int v23]) (b := 125) (st := []) (dx9 := 2) (mc := 0) (ms := 0) (host := "") 12 rfl t_X12_told ⟨Or.inl q_12_197, i_X12_told.1, i_X12_told.2⟩ ⟨by decide, rfl⟩ (congrArg Prod.fst (J.1.1 125 (12, 92) rfl)) rfl (by decide) rfl rfl ⟨by decide, by decide⟩ (jC.of rfl k_X12_told rfl ?_)
            show jX m_X12_told 2 0 0 0 [(0, .ref 125), (1, .int v23)] [] _ 0 0 _
            refine x_aloadn (x := 125) rfl rfl ?_
            refine x_iloadn (x := v23) rfl rfl ?_
            refine x_ifge (tgt := 9) rfl rfl (ti_ge rfl jk_0 (br_t (by omega) ?_))
            refine x_iconst (v := 0) rfl ki_0 ?_
            refine z_putI (N := 92) (w := 0) 12 1 rfl f_12_183 rfl (jfin_no TX12 RX12 92 rfl rfl) hD J Sm rfl rfl jk_0 (pw_125_1 (by omega)) rfl (fun h w25 J Sm => ?_)
            refine x_iloadn (x := v23) rfl rfl ?_
            refine x_iret rfl rfl ?_
            show jX m_X12_entry 3 0 0 115 [(0, .ref 125), (1, .int a1), (2, .int a2), (3, .int a3), (4, .int a4)] [.int v23] _ 0 0 _
            refine x_iret rfl rfl ?_
            exact hQ _ _ (jr_of rfl (by omega)) J Sm (Or.inr (Or.inr ⟨(by omega), (by omega), (by omega), (mw_4 ou1 (by omega) (by omega) (ov_o w25 rfl (ov_w w24 (ov_w w22 (ov_w w20 (ov_w w18 (ov_w w16 (ov_o w2 rfl rfl))))))) (by decide) (jix (by omega) (by omega)) (jix (by omega) (by omega)) (jix (by omega) (by omega)) (jix (by omega) (by omega)))⟩))
          ·
            refine x_aloadn (x := 125) rfl rfl ?_
            refine x_bipush (v := (-5)) rfl kb_m5 ?_
            refine x_inv (N := m_X12_told) (As := [.int (-5)]) (b := 125) (st := []) (dx9 := 2) (mc := 0) (ms := 0) (host := "") 12 rfl t_X12_told ⟨Or.inl q_12_197, i_X12_told.1, i_X12_told.2⟩ ⟨by decide, rfl⟩ (congrArg Prod.fst (J.1.1 125 (12, 92) rfl)) rfl (by decide) rfl rfl ⟨by decide, by decide⟩ (jC.of rfl k_X12_told rfl ?_)
            show jX m_X12_told 2 0 0 0 [(0, .ref 125), (1, .int (-5))] [] _ 0 0 _
            refine x_aloadn (x := 125) rfl rfl ?_
            refine x_iloadn (x := (-5)) rfl rfl ?_
            refine x_ifge (tgt := 9) rfl rfl (ti_ge jk_m5 jk_0 (br_f (by omega) ?_))
            refine x_iloadn (x := (-5)) rfl rfl ?_
            refine x_goto (tgt := 10) rfl rfl ?_
            refine z_putI (N := 92) (w := (-5)) 12 1 rfl f_12_183 rfl (jfin_no TX12 RX12 92 rfl rfl) hD J Sm rfl rfl jk_m5 (pw_125_1 (by omega)) rfl (fun h w26 J Sm => ?_)
            refine x_iloadn (x := (-5)) rfl rfl ?_
            refine x_iret rfl rfl ?_
            show jX m_X12_entry 3 0 0 70 [(0, .ref 125), (1, .int a1), (2, .int a2), (3, .int a3), (4, .int a4)] [.int (-5)] _ 0 0 _
            refine x_iret rfl rfl ?_
            exact hQ _ _ (jr_of jk_m5 (by omega)) J Sm (Or.inr (Or.inl ⟨(by omega), (by omega), jk_m5, (ov_o w26 rfl (ov_o w2 rfl rfl))⟩))
        ·
          exact jX.sub (jsb_c rfl jsb_n) (ct_X12_entry_r125p_46 yy_a1 yy_a2 yy_a3 yy_a4 hD hQ  h ⟨w2, by omega⟩ J Sm)
def fp_X12_feed_r125p : jFp := [(125, 0, 1), (125, 8, 9), (131, 0, 400)]
set_option maxRecDepth 100000 in
set_option maxHeartbeats 4000000 in
theorem sf_X12_feed_r125p {Dy : jH → Prop} {h : jH} {Q : Option Value → jH → Prop} {a1 : Int32} {a2 : Int32} {a3 : Int32} {a4 : Int32} {a5 : Int32} (hD : jDk Dy) (J : jJ jSgM Dy h) (hQ : ∀ (v : Int32) hx9, (-1) ≤ v.toInt ∧ v.toInt ≤ 400 → jJ jSgM Dy hx9 → jSm fp_X12_feed_r125p h hx9 → ((380 < (jiv h 125 8).toInt ∧ v.toInt = -1 ∧ (jiv hx9 125 8).toInt = (jiv h 125 8).toInt) ∨ ((jiv h 125 8).toInt ≤ 380 ∧ v.toInt = (jiv h 125 8).toInt + 20 ∧ (jiv hx9 125 8).toInt = (jiv h 125 8).toInt + 20)) → Q (some (.int v)) hx9) : jC m_X12_feed 2 0 0 [.ref 125, .int a1, .int a2, .int a3, .int a4, .int a5] h Q := by
  refine jC.of rfl k_X12_feed rfl ?_
  have Sm := jSm_rf fp_X12_feed_r125p h
  have ea1 := jfull a1
  have ea2 := jfull a2
  have ea3 := jfull a3
  have ea4 := jfull a4
  have ea5 := jfull a5
  show jX m_X12_feed 2 0 0 0 [(0, .ref 125), (1, .int a1), (2, .int a2), (3, .int a3), (4, .int a4), (5, .int a5)] [] _ 0 0 _
  obtain ⟨u1, qu1⟩ : ∃ v : Int32, jiv h 125 8 = v := ⟨_, rfl⟩
  have eu1 := (show 0 ≤ u1.toInt ∧ u1.toInt ≤ 400 from qu1 ▸ jrg_f J sg_125_8_9_1_0_1)
  have ou1 := congrArg Int32.toInt qu1
  refine x_aloadn (x := 125) rfl rfl ?_
  refine x_iconst (v := 0) rfl ki_0 ?_
  refine z_putI (N := 92) (w := 0) 12 0 rfl f_12_180 rfl (jfin_no TX12 RX12 92 rfl rfl) hD J Sm rfl rfl jk_0 (pw_125_0 (by omega)) rfl (fun h w2 J Sm => ?_)
  refine x_aloadn (x := 125) rfl rfl ?_
  refine z_getM (N := 92) (v := u1) 12 8 rfl f_12_201 rfl J rfl (jmo w2 rfl qu1) ?_
  refine x_bipush (v := 20) rfl kb_20 ?_
  refine z_iadd rfl rfl jk_20 (by omega) (fun v3 ev3 => ?_)
  refine x_sipush (v := 400) rfl ks_400 ?_
  refine x_icle (tgt := 20) rfl rfl (ti_le rfl jk_400 ⟨fun c4 => ?_, fun c4 => ?_⟩)
  ·
    refine x_aloadn (x := 125) rfl rfl ?_
    refine x_iloadn (x := a1) rfl rfl ?_
    refine x_inv (N := m_X12_four) (As := [.int a1]) (b := 125) (st := []) (dx9 := 1) (mc := 0) (ms := 0) (host := "") 12 rfl t_X12_four ⟨Or.inl q_12_207, i_X12_four.1, i_X12_four.2⟩ ⟨by decide, rfl⟩ (congrArg Prod.fst (J.1.1 125 (12, 92) rfl)) rfl (by decide) rfl rfl ⟨by decide, by decide⟩ (jC.of rfl k_X12_four rfl ?_)
    show jX m_X12_four 1 0 0 0 [(0, .ref 125), (1, .int a1)] [] _ 0 0 _
    refine x_bipush (v := 24) rfl kb_24 ?_
    refine x_istoren (lsx9 := [(2, .int 24), (0, .ref 125), (1, .int a1)]) rfl rfl rfl ?_
    refine x_iloadn (x := 24) rfl rfl ?_
    refine x_iflt (tgt := 39) rfl rfl (ti_lt jk_24 jk_0 (br_f (by omega) ?_))
    refine x_aloadn (x := 125) rfl rfl ?_
    refine z_getR (N := 92) (b := 131) 12 7 rfl f_12_29 rfl J rfl 16007 ⟨rfl, rfl⟩ rfl ?_
    refine x_aloadn (x := 125) rfl rfl ?_
    refine z_getM (N := 92) (v := u1) 12 8 rfl f_12_201 rfl J rfl (jmo w2 rfl qu1) ?_
    refine x_iloadn (x := a1) rfl rfl ?_
    refine x_iloadn (x := 24) rfl rfl ?_
    refine z_ishr0 rfl (fun v5 => ?_)
    have ev5 := jfull v5
    refine x_sipush (v := 255) rfl ks_255 ?_
    refine z_iand rfl jk_255 (by decide) (fun v6 ev6 => ?_)
    refine z_iast (N := 400) (l := 0) (u := 400) (w := v6.toInt) rfl hD J Sm rfl rfl rfl (by omega) rfl (wr_131 (fun q1 q2 q3 q4 => by omega)) rfl (fun h w7 J Sm => ?_)
    refine x_aloadn (x := 125) rfl rfl ?_
    refine x_dup rfl rfl ?_
    refine z_getM (N := 92) (v := u1) 12 8 rfl f_12_201 rfl J rfl (jmo w7 rfl (jmo w2 rfl qu1)) ?_
    refine x_iconst (v := 1) rfl ki_1 ?_
    refine z_iadd rfl rfl jk_1 (by omega) (fun v8 ev8 => ?_)
    refine z_putI (N := 92) (w := v8.toInt) 12 8 rfl f_12_201 rfl (jfin_no TX12 RX12 92 rfl rfl) hD J Sm rfl rfl rfl (pw_125_8 (by omega)) rfl (fun h w9 J Sm => ?_)
    refine z_iinc (x := 24) (lsx9 := fun v10 => [(2, .int v10), (0, .ref 125), (1, .int a1)]) rfl rfl jk_24 jko_m8 (by omega) rfl (fun _ => rfl) (fun v10 ev10 => ?_)
    refine x_goto (tgt := 3) rfl rfl ?_
    refine x_iloadn (x := v10) rfl rfl ?_
    refine x_iflt (tgt := 39) rfl rfl (ti_lt rfl jk_0 (br_f (by omega) ?_))
    refine x_aloadn (x := 125) rfl rfl ?_
    refine z_getR (N := 92) (b := 131) 12 7 rfl f_12_29 rfl J rfl 16007 ⟨rfl, rfl⟩ rfl ?_
    refine x_aloadn (x := 125) rfl rfl ?_
    refine z_getM (N := 92) (v := v8) 12 8 rfl f_12_201 rfl J rfl (jmw w9) ?_
    refine x_iloadn (x := a1) rfl rfl ?_
    refine x_iloadn (x := v10) rfl rfl ?_
    refine z_ishr0 rfl (fun v11 => ?_)
    have ev11 := jfull v11
    refine x_sipush (v := 255) rfl ks_255 ?_
    refine z_iand rfl jk_255 (by decide) (fun v12 ev12 => ?_)
    refine z_iast (N := 400) (l := 0) (u := 400) (w := v12.toInt) rfl hD J Sm rfl rfl rfl (by omega) rfl (wr_131 (fun q1 q2 q3 q4 => by omega)) rfl (fun h w13 J Sm => ?_)
    refine x_aloadn (x := 125) rfl rfl ?_
    refine x_dup rfl rfl ?_
    refine z_getM (N := 92) (v := v8) 12 8 rfl f_12_201 rfl J rfl (jmo w13 rfl (jmw w9)) ?_
    refine x_iconst (v := 1) rfl ki_1 ?_
    refine z_iadd rfl rfl jk_1 (by omega) (fun v14 ev14 => ?_)
    refine z_putI (N := 92) (w := v14.toInt) 12 8 rfl f_12_201 rfl (jfin_no TX12 RX12 92 rfl rfl) hD J Sm rfl rfl rfl (pw_125_8 (by omega)) rfl (fun h w15 J Sm => ?_)
    refine z_iinc (x := v10) (lsx9 := fun v16 => [(2, .int v16), (0, .ref 125), (1, .int a1)]) rfl rfl rfl jko_m8 (by omega) rfl (fun _ => rfl) (fun v16 ev16 => ?_)
    refine x_goto (tgt := 3) rfl rfl ?_
    refine x_iloadn (x := v16) rfl rfl ?_
    refine x_iflt (tgt := 39) rfl rfl (ti_lt rfl jk_0 (br_f (by omega) ?_))
    refine x_aloadn (x := 125) rfl rfl ?_
    refine z_getR (N := 92) (b := 131) 12 7 rfl f_12_29 rfl J rfl 16007 ⟨rfl, rfl⟩ rfl ?_
    refine x_aloadn (x := 125) rfl rfl ?_
    refine z_getM (N := 92) (v := v14) 12 8 rfl f_12_201 rfl J rfl (jmw w15) ?_
    refine x_iloadn (x := a1) rfl rfl ?_
    refine x_iloadn (x := v16) rfl rfl ?_
    refine z_ishr0 rfl (fun v17 => ?_)
    have ev17 := jfull v17
    refine x_sipush (v := 255) rfl ks_255 ?_
    refine z_iand rfl jk_255 (by decide) (fun v18 ev18 => ?_)
    refine z_iast (N := 400) (l := 0) (u := 400) (w := v18.toInt) rfl hD J Sm rfl rfl rfl (by omega) rfl (wr_131 (fun q1 q2 q3 q4 => by omega)) rfl (fun h w19 J Sm => ?_)
    refine x_aloadn (x := 125) rfl rfl ?_
    refine x_dup rfl rfl ?_
    refine z_getM (N := 92) (v := v14) 12 8 rfl f_12_201 rfl J rfl (jmo w19 rfl (jmw w15)) ?_
    refine x_iconst (v := 1) rfl ki_1 ?_
    refine z_iadd rfl rfl jk_1 (by omega) (fun v20 ev20 => ?_)
    refine z_putI (N := 92) (w := v20.toInt) 12 8 rfl f_12_201 rfl (jfin_no TX12 RX12 92 rfl rfl) hD J Sm rfl rfl rfl (pw_125_8 (by omega)) rfl (fun h w21 J Sm => ?_)
    refine z_iinc (x := v16) (lsx9 := fun v22 => [(2, .int v22), (0, .ref 125), (1, .int a1)]) rfl rfl rfl jko_m8 (by omega) rfl (fun _ => rfl) (fun v22 ev22 => ?_)
    refine x_goto (tgt := 3) rfl rfl ?_
    refine x_iloadn (x := v22) rfl rfl ?_
    refine x_iflt (tgt := 39) rfl rfl (ti_lt rfl jk_0 (br_f (by omega) ?_))
    refine x_aloadn (x := 125) rfl rfl ?_
    refine z_getR (N := 92) (b := 131) 12 7 rfl f_12_29 rfl J rfl 16007 ⟨rfl, rfl⟩ rfl ?_
    refine x_aloadn (x := 125) rfl rfl ?_
    refine z_getM (N := 92) (v := v20) 12 8 rfl f_12_201 rfl J rfl (jmw w21) ?_
    refine x_iloadn (x := a1) rfl rfl ?_
    refine x_iloadn (x := v22) rfl rfl ?_
    refine z_ishr0 rfl (fun v23 => ?_)
    have ev23 := jfull v23
    refine x_sipush (v := 255) rfl ks_255 ?_
    refine z_iand rfl jk_255 (by decide) (fun v24 ev24 => ?_)
    refine z_iast (N := 400) (l := 0) (u := 400) (w := v24.toInt) rfl hD J Sm rfl rfl rfl (by omega) rfl (wr_131 (fun q1 q2 q3 q4 => by omega)) rfl (fun h w25 J Sm => ?_)
    refine x_aloadn (x := 125) rfl rfl ?_
    refine x_dup rfl rfl ?_
    refine z_getM (N := 92) (v := v20) 12 8 rfl f_12_201 rfl J rfl (jmo w25 rfl (jmw w21)) ?_
    refine x_iconst (v := 1) rfl ki_1 ?_
    refine z_iadd rfl rfl jk_1 (by omega) (fun v26 ev26 => ?_)
    refine z_putI (N := 92) (w := v26.toInt) 12 8 rfl f_12_201 rfl (jfin_no TX12 RX12 92 rfl rfl) hD J Sm rfl rfl rfl (pw_125_8 (by omega)) rfl (fun h w27 J Sm => ?_)
    refine z_iinc (x := v22) (lsx9 := fun v28 => [(2, .int v28), (0, .ref 125), (1, .int a1)]) rfl rfl rfl jko_m8 (by omega) rfl (fun _ => rfl) (fun v28 ev28 => ?_)
    refine x_goto (tgt := 3) rfl rfl ?_
    refine x_iloadn (x := v28) rfl rfl ?_
    refine x_iflt (tgt := 39) rfl rfl (ti_lt rfl jk_0 (br_t (by omega) ?_))
    refine x_vret rfl rfl ?_
    show jX m_X12_feed 2 0 0 25 [(0, .ref 125), (1, .int a1), (2, .int a2), (3, .int a3), (4, .int a4), (5, .int a5)] [] _ 0 0 _
    refine x_aloadn (x := 125) rfl rfl ?_
    refine x_iloadn (x := a2) rfl rfl ?_
    refine x_inv (N := m_X12_four) (As := [.int a2]) (b := 125) (st := []) (dx9 := 1) (mc := 0) (ms := 0) (host := "") 12 rfl t_X12_four ⟨Or.inl q_12_207, i_X12_four.1, i_X12_four.2⟩ ⟨by decide, rfl⟩ (congrArg Prod.fst (J.1.1 125 (12, 92) rfl)) rfl (by decide) rfl rfl ⟨by decide, by decide⟩ (jC.of rfl k_X12_four rfl ?_)
    show jX m_X12_four 1 0 0 0 [(0, .ref 125), (1, .int a2)] [] _ 0 0 _
    refine x_bipush (v := 24) rfl kb_24 ?_
    refine x_istoren (lsx9 := [(2, .int 24), (0, .ref 125), (1, .int a2)]) rfl rfl rfl ?_
    refine x_iloadn (x := 24) rfl rfl ?_
    refine x_iflt (tgt := 39) rfl rfl (ti_lt jk_24 jk_0 (br_f (by omega) ?_))
    refine x_aloadn (x := 125) rfl rfl ?_
    refine z_getR (N := 92) (b := 131) 12 7 rfl f_12_29 rfl J rfl 16007 ⟨rfl, rfl⟩ rfl ?_
    refine x_aloadn (x := 125) rfl rfl ?_
    refine z_getM (N := 92) (v := v26) 12 8 rfl f_12_201 rfl J rfl (jmw w27) ?_
    refine x_iloadn (x := a2) rfl rfl ?_
    refine x_iloadn (x := 24) rfl rfl ?_
    refine z_ishr0 rfl (fun v29 => ?_)
    have ev29 := jfull v29
    refine x_sipush (v := 255) rfl ks_255 ?_
    refine z_iand rfl jk_255 (by decide) (fun v30 ev30 => ?_)
    refine z_iast (N := 400) (l := 0) (u := 400) (w := v30.toInt) rfl hD J Sm rfl rfl rfl (by omega) rfl (wr_131 (fun q1 q2 q3 q4 => by omega)) rfl (fun h w31 J Sm => ?_)
    refine x_aloadn (x := 125) rfl rfl ?_
    refine x_dup rfl rfl ?_
    refine z_getM (N := 92) (v := v26) 12 8 rfl f_12_201 rfl J rfl (jmo w31 rfl (jmw w27)) ?_
    refine x_iconst (v := 1) rfl ki_1 ?_
    refine z_iadd rfl rfl jk_1 (by omega) (fun v32 ev32 => ?_)
    refine z_putI (N := 92) (w := v32.toInt) 12 8 rfl f_12_201 rfl (jfin_no TX12 RX12 92 rfl rfl) hD J Sm rfl rfl rfl (pw_125_8 (by omega)) rfl (fun h w33 J Sm => ?_)
    refine z_iinc (x := 24) (lsx9 := fun v34 => [(2, .int v34), (0, .ref 125), (1, .int a2)]) rfl rfl jk_24 jko_m8 (by omega) rfl (fun _ => rfl) (fun v34 ev34 => ?_)
    refine x_goto (tgt := 3) rfl rfl ?_
    refine x_iloadn (x := v34) rfl rfl ?_
    refine x_iflt (tgt := 39) rfl rfl (ti_lt rfl jk_0 (br_f (by omega) ?_))
    refine x_aloadn (x := 125) rfl rfl ?_
    refine z_getR (N := 92) (b := 131) 12 7 rfl f_12_29 rfl J rfl 16007 ⟨rfl, rfl⟩ rfl ?_
    refine x_aloadn (x := 125) rfl rfl ?_
    refine z_getM (N := 92) (v := v32) 12 8 rfl f_12_201 rfl J rfl (jmw w33) ?_
    refine x_iloadn (x := a2) rfl rfl ?_
    refine x_iloadn (x := v34) rfl rfl ?_
    refine z_ishr0 rfl (fun v35 => ?_)
    have ev35 := jfull v35
    refine x_sipush (v := 255) rfl ks_255 ?_
    refine z_iand rfl jk_255 (by decide) (fun v36 ev36 => ?_)
    refine z_iast (N := 400) (l := 0) (u := 400) (w := v36.toInt) rfl hD J Sm rfl rfl rfl (by omega) rfl (wr_131 (fun q1 q2 q3 q4 => by omega)) rfl (fun h w37 J Sm => ?_)
    refine x_aloadn (x := 125) rfl rfl ?_
    refine x_dup rfl rfl ?_
    refine z_getM (N := 92) (v := v32) 12 8 rfl f_12_201 rfl J rfl (jmo w37 rfl (jmw w33)) ?_
    refine x_iconst (v := 1) rfl ki_1 ?_
    refine z_iadd rfl rfl jk_1 (by omega) (fun v38 ev38 => ?_)
    refine z_putI (N := 92) (w := v38.toInt) 12 8 rfl f_12_201 rfl (jfin_no TX12 RX12 92 rfl rfl) hD J Sm rfl rfl rfl (pw_125_8 (by omega)) rfl (fun h w39 J Sm => ?_)
    refine z_iinc (x := v34) (lsx9 := fun v40 => [(2, .int v40), (0, .ref 125), (1, .int a2)]) rfl rfl rfl jko_m8 (by omega) rfl (fun _ => rfl) (fun v40 ev40 => ?_)
    refine x_goto (tgt := 3) rfl rfl ?_
    refine x_iloadn (x := v40) rfl rfl ?_
    refine x_iflt (tgt := 39) rfl rfl (ti_lt rfl jk_0 (br_f (by omega) ?_))
    refine x_aloadn (x := 125) rfl rfl ?_
    refine z_getR (N := 92) (b := 131) 12 7 rfl f_12_29 rfl J rfl 16007 ⟨rfl, rfl⟩ rfl ?_
    refine x_aloadn (x := 125) rfl rfl ?_
    refine z_getM (N := 92) (v := v38) 12 8 rfl f_12_201 rfl J rfl (jmw w39) ?_
    refine x_iloadn (x := a2) rfl rfl ?_
    refine x_iloadn (x := v40) rfl rfl ?_
    refine z_ishr0 rfl (fun v41 => ?_)
    have ev41 := jfull v41
    refine x_sipush (v := 255) rfl ks_255 ?_
    refine z_iand rfl jk_255 (by decide) (fun v42 ev42 => ?_)
    refine z_iast (N := 400) (l := 0) (u := 400) (w := v42.toInt) rfl hD J Sm rfl rfl rfl (by omega) rfl (wr_131 (fun q1 q2 q3 q4 => by omega)) rfl (fun h w43 J Sm => ?_)
    refine x_aloadn (x := 125) rfl rfl ?_
    refine x_dup rfl rfl ?_
    refine z_getM (N := 92) (v := v38) 12 8 rfl f_12_201 rfl J rfl (jmo w43 rfl (jmw w39)) ?_
    refine x_iconst (v := 1) rfl ki_1 ?_
    refine z_iadd rfl rfl jk_1 (by omega) (fun v44 ev44 => ?_)
    refine z_putI (N := 92) (w := v44.toInt) 12 8 rfl f_12_201 rfl (jfin_no TX12 RX12 92 rfl rfl) hD J Sm rfl rfl rfl (pw_125_8 (by omega)) rfl (fun h w45 J Sm => ?_)
    refine z_iinc (x := v40) (lsx9 := fun v46 => [(2, .int v46), (0, .ref 125), (1, .int a2)]) rfl rfl rfl jko_m8 (by omega) rfl (fun _ => rfl) (fun v46 ev46 => ?_)
    refine x_goto (tgt := 3) rfl rfl ?_
    refine x_iloadn (x := v46) rfl rfl ?_
    refine x_iflt (tgt := 39) rfl rfl (ti_lt rfl jk_0 (br_f (by omega) ?_))
    refine x_aloadn (x := 125) rfl rfl ?_
    refine z_getR (N := 92) (b := 131) 12 7 rfl f_12_29 rfl J rfl 16007 ⟨rfl, rfl⟩ rfl ?_
    refine x_aloadn (x := 125) rfl rfl ?_
    refine z_getM (N := 92) (v := v44) 12 8 rfl f_12_201 rfl J rfl (jmw w45) ?_
    refine x_iloadn (x := a2) rfl rfl ?_
    refine x_iloadn (x := v46) rfl rfl ?_
    refine z_ishr0 rfl (fun v47 => ?_)
    have ev47 := jfull v47
    refine x_sipush (v := 255) rfl ks_255 ?_
    refine z_iand rfl jk_255 (by decide) (fun v48 ev48 => ?_)
    refine z_iast (N := 400) (l := 0) (u := 400) (w := v48.toInt) rfl hD J Sm rfl rfl rfl (by omega) rfl (wr_131 (fun q1 q2 q3 q4 => by omega)) rfl (fun h w49 J Sm => ?_)
    refine x_aloadn (x := 125) rfl rfl ?_
    refine x_dup rfl rfl ?_
    refine z_getM (N := 92) (v := v44) 12 8 rfl f_12_201 rfl J rfl (jmo w49 rfl (jmw w45)) ?_
    refine x_iconst (v := 1) rfl ki_1 ?_
    refine z_iadd rfl rfl jk_1 (by omega) (fun v50 ev50 => ?_)
    refine z_putI (N := 92) (w := v50.toInt) 12 8 rfl f_12_201 rfl (jfin_no TX12 RX12 92 rfl rfl) hD J Sm rfl rfl rfl (pw_125_8 (by omega)) rfl (fun h w51 J Sm => ?_)
    refine z_iinc (x := v46) (lsx9 := fun v52 => [(2, .int v52), (0, .ref 125), (1, .int a2)]) rfl rfl rfl jko_m8 (by omega) rfl (fun _ => rfl) (fun v52 ev52 => ?_)
    refine x_goto (tgt := 3) rfl rfl ?_
    refine x_iloadn (x := v52) rfl rfl ?_
    refine x_iflt (tgt := 39) rfl rfl (ti_lt rfl jk_0 (br_t (by omega) ?_))
    refine x_vret rfl rfl ?_
    show jX m_X12_feed 2 0 0 30 [(0, .ref 125), (1, .int a1), (2, .int a2), (3, .int a3), (4, .int a4), (5, .int a5)] [] _ 0 0 _
    refine x_aloadn (x := 125) rfl rfl ?_
    refine x_iloadn (x := a3) rfl rfl ?_
    refine x_inv (N := m_X12_four) (As := [.int a3]) (b := 125) (st := []) (dx9 := 1) (mc := 0) (ms := 0) (host := "") 12 rfl t_X12_four ⟨Or.inl q_12_207, i_X12_four.1, i_X12_four.2⟩ ⟨by decide, rfl⟩ (congrArg Prod.fst (J.1.1 125 (12, 92) rfl)) rfl (by decide) rfl rfl ⟨by decide, by decide⟩ (jC.of rfl k_X12_four rfl ?_)
    show jX m_X12_four 1 0 0 0 [(0, .ref 125), (1, .int a3)] [] _ 0 0 _
    refine x_bipush (v := 24) rfl kb_24 ?_
    refine x_istoren (lsx9 := [(2, .int 24), (0, .ref 125), (1, .int a3)]) rfl rfl rfl ?_
    refine x_iloadn (x := 24) rfl rfl ?_
    refine x_iflt (tgt := 39) rfl rfl (ti_lt jk_24 jk_0 (br_f (by omega) ?_))
    refine x_aloadn (x := 125) rfl rfl ?_
    refine z_getR (N := 92) (b := 131) 12 7 rfl f_12_29 rfl J rfl 16007 ⟨rfl, rfl⟩ rfl ?_
    refine x_aloadn (x := 125) rfl rfl ?_
    refine z_getM (N := 92) (v := v50) 12 8 rfl f_12_201 rfl J rfl (jmw w51) ?_
    refine x_iloadn (x := a3) rfl rfl ?_
    refine x_iloadn (x := 24) rfl rfl ?_
    refine z_ishr0 rfl (fun v53 => ?_)
    have ev53 := jfull v53
    refine x_sipush (v := 255) rfl ks_255 ?_
    refine z_iand rfl jk_255 (by decide) (fun v54 ev54 => ?_)
    refine z_iast (N := 400) (l := 0) (u := 400) (w := v54.toInt) rfl hD J Sm rfl rfl rfl (by omega) rfl (wr_131 (fun q1 q2 q3 q4 => by omega)) rfl (fun h w55 J Sm => ?_)
    refine x_aloadn (x := 125) rfl rfl ?_
    refine x_dup rfl rfl ?_
    refine z_getM (N := 92) (v := v50) 12 8 rfl f_12_201 rfl J rfl (jmo w55 rfl (jmw w51)) ?_
    refine x_iconst (v := 1) rfl ki_1 ?_
    refine z_iadd rfl rfl jk_1 (by omega) (fun v56 ev56 => ?_)
    refine z_putI (N := 92) (w := v56.toInt) 12 8 rfl f_12_201 rfl (jfin_no TX12 RX12 92 rfl rfl) hD J Sm rfl rfl rfl (pw_125_8 (by omega)) rfl (fun h w57 J Sm => ?_)
    refine z_iinc (x := 24) (lsx9 := fun v58 => [(2, .int v58), (0, .ref 125), (1, .int a3)]) rfl rfl jk_24 jko_m8 (by omega) rfl (fun _ => rfl) (fun v58 ev58 => ?_)
    refine x_goto (tgt := 3) rfl rfl ?_
    refine x_iloadn (x := v58) rfl rfl ?_
    refine x_iflt (tgt := 39) rfl rfl (ti_lt rfl jk_0 (br_f (by omega) ?_))
    refine x_aloadn (x := 125) rfl rfl ?_
    refine z_getR (N := 92) (b := 131) 12 7 rfl f_12_29 rfl J rfl 16007 ⟨rfl, rfl⟩ rfl ?_
    refine x_aloadn (x := 125) rfl rfl ?_
    refine z_getM (N := 92) (v := v56) 12 8 rfl f_12_201 rfl J rfl (jmw w57) ?_
    refine x_iloadn (x := a3) rfl rfl ?_
    refine x_iloadn (x := v58) rfl rfl ?_
    refine z_ishr0 rfl (fun v59 => ?_)
    have ev59 := jfull v59
    refine x_sipush (v := 255) rfl ks_255 ?_
    refine z_iand rfl jk_255 (by decide) (fun v60 ev60 => ?_)
    refine z_iast (N := 400) (l := 0) (u := 400) (w := v60.toInt) rfl hD J Sm rfl rfl rfl (by omega) rfl (wr_131 (fun q1 q2 q3 q4 => by omega)) rfl (fun h w61 J Sm => ?_)
    refine x_aloadn (x := 125) rfl rfl ?_
    refine x_dup rfl rfl ?_
    refine z_getM (N := 92) (v := v56) 12 8 rfl f_12_201 rfl J rfl (jmo w61 rfl (jmw w57)) ?_
    refine x_iconst (v := 1) rfl ki_1 ?_
    refine z_iadd rfl rfl jk_1 (by omega) (fun v62 ev62 => ?_)
    refine z_putI (N := 92) (w := v62.toInt) 12 8 rfl f_12_201 rfl (jfin_no TX12 RX12 92 rfl rfl) hD J Sm rfl rfl rfl (pw_125_8 (by omega)) rfl (fun h w63 J Sm => ?_)
    refine z_iinc (x := v58) (lsx9 := fun v64 => [(2, .int v64), (0, .ref 125), (1, .int a3)]) rfl rfl rfl jko_m8 (by omega) rfl (fun _ => rfl) (fun v64 ev64 => ?_)
    refine x_goto (tgt := 3) rfl rfl ?_
    refine x_iloadn (x := v64) rfl rfl ?_
    refine x_iflt (tgt := 39) rfl rfl (ti_lt rfl jk_0 (br_f (by omega) ?_))
    refine x_aloadn (x := 125) rfl rfl ?_
    refine z_getR (N := 92) (b := 131) 12 7 rfl f_12_29 rfl J rfl 16007 ⟨rfl, rfl⟩ rfl ?_
    refine x_aloadn (x := 125) rfl rfl ?_
    refine z_getM (N := 92) (v := v62) 12 8 rfl f_12_201 rfl J rfl (jmw w63) ?_
    refine x_iloadn (x := a3) rfl rfl ?_
    refine x_iloadn (x := v64) rfl rfl ?_
    refine z_ishr0 rfl (fun v65 => ?_)
    have ev65 := jfull v65
    refine x_sipush (v := 255) rfl ks_255 ?_
    refine z_iand rfl jk_255 (by decide) (fun v66 ev66 => ?_)
    refine z_iast (N := 400) (l := 0) (u := 400) (w := v66.toInt) rfl hD J Sm rfl rfl rfl (by omega) rfl (wr_131 (fun q1 q2 q3 q4 => by omega)) rfl (fun h w67 J Sm => ?_)
    refine x_aloadn (x := 125) rfl rfl ?_
    refine x_dup rfl rfl ?_
    refine z_getM (N := 92) (v := v62) 12 8 rfl f_12_201 rfl J rfl (jmo w67 rfl (jmw w63)) ?_
    refine x_iconst (v := 1) rfl ki_1 ?_
    refine z_iadd rfl rfl jk_1 (by omega) (fun v68 ev68 => ?_)
    refine z_putI (N := 92) (w := v68.toInt) 12 8 rfl f_12_201 rfl (jfin_no TX12 RX12 92 rfl rfl) hD J Sm rfl rfl rfl (pw_125_8 (by omega)) rfl (fun h w69 J Sm => ?_)
    refine z_iinc (x := v64) (lsx9 := fun v70 => [(2, .int v70), (0, .ref 125), (1, .int a3)]) rfl rfl rfl jko_m8 (by omega) rfl (fun _ => rfl) (fun v70 ev70 => ?_)
    refine x_goto (tgt := 3) rfl rfl ?_
    refine x_iloadn (x := v70) rfl rfl ?_
    refine x_iflt (tgt := 39) rfl rfl (ti_lt rfl jk_0 (br_f (by omega) ?_))
    refine x_aloadn (x := 125) rfl rfl ?_
    refine z_getR (N := 92) (b := 131) 12 7 rfl f_12_29 rfl J rfl 16007 ⟨rfl, rfl⟩ rfl ?_
    refine x_aloadn (x := 125) rfl rfl ?_
    refine z_getM (N := 92) (v := v68) 12 8 rfl f_12_201 rfl J rfl (jmw w69) ?_
    refine x_iloadn (x := a3) rfl rfl ?_
    refine x_iloadn (x := v70) rfl rfl ?_
    refine z_ishr0 rfl (fun v71 => ?_)
    have ev71 := jfull v71
    refine x_sipush (v := 255) rfl ks_255 ?_
    refine z_iand rfl jk_255 (by decide) (fun v72 ev72 => ?_)
    refine z_iast (N := 400) (l := 0) (u := 400) (w := v72.toInt) rfl hD J Sm rfl rfl rfl (by omega) rfl (wr_131 (fun q1 q2 q3 q4 => by omega)) rfl (fun h w73 J Sm => ?_)
    refine x_aloadn (x := 125) rfl rfl ?_
    refine x_dup rfl rfl ?_
    refine z_getM (N := 92) (v := v68) 12 8 rfl f_12_201 rfl J rfl (jmo w73 rfl (jmw w69)) ?_
    refine x_iconst (v := 1) rfl ki_1 ?_
    refine z_iadd rfl rfl jk_1 (by omega) (fun v74 ev74 => ?_)
    refine z_putI (N := 92) (w := v74.toInt) 12 8 rfl f_12_201 rfl (jfin_no TX12 RX12 92 rfl rfl) hD J Sm rfl rfl rfl (pw_125_8 (by omega)) rfl (fun h w75 J Sm => ?_)
    refine z_iinc (x := v70) (lsx9 := fun v76 => [(2, .int v76), (0, .ref 125), (1, .int a3)]) rfl rfl rfl jko_m8 (by omega) rfl (fun _ => rfl) (fun v76 ev76 => ?_)
    refine x_goto (tgt := 3) rfl rfl ?_
    refine x_iloadn (x := v76) rfl rfl ?_
    refine x_iflt (tgt := 39) rfl rfl (ti_lt rfl jk_0 (br_t (by omega) ?_))
    refine x_vret rfl rfl ?_
    show jX m_X12_feed 2 0 0 35 [(0, .ref 125), (1, .int a1), (2, .int a2), (3, .int a3), (4, .int a4), (5, .int a5)] [] _ 0 0 _
    refine x_aloadn (x := 125) rfl rfl ?_
    refine x_iload (x := a4) rfl rfl ?_
    refine x_inv (N := m_X12_four) (As := [.int a4]) (b := 125) (st := []) (dx9 := 1) (mc := 0) (ms := 0) (host := "") 12 rfl t_X12_four ⟨Or.inl q_12_207, i_X12_four.1, i_X12_four.2⟩ ⟨by decide, rfl⟩ (congrArg Prod.fst (J.1.1 125 (12, 92) rfl)) rfl (by decide) rfl rfl ⟨by decide, by decide⟩ (jC.of rfl k_X12_four rfl ?_)
    show jX m_X12_four 1 0 0 0 [(0, .ref 125), (1, .int a4)] [] _ 0 0 _
    refine x_bipush (v := 24) rfl kb_24 ?_
    refine x_istoren (lsx9 := [(2, .int 24), (0, .ref 125), (1, .int a4)]) rfl rfl rfl ?_
    refine x_iloadn (x := 24) rfl rfl ?_
    refine x_iflt (tgt := 39) rfl rfl (ti_lt jk_24 jk_0 (br_f (by omega) ?_))
    refine x_aloadn (x := 125) rfl rfl ?_
    refine z_getR (N := 92) (b := 131) 12 7 rfl f_12_29 rfl J rfl 16007 ⟨rfl, rfl⟩ rfl ?_
    refine x_aloadn (x := 125) rfl rfl ?_
    refine z_getM (N := 92) (v := v74) 12 8 rfl f_12_201 rfl J rfl (jmw w75) ?_
    refine x_iloadn (x := a4) rfl rfl ?_
    refine x_iloadn (x := 24) rfl rfl ?_
    refine z_ishr0 rfl (fun v77 => ?_)
    have ev77 := jfull v77
    refine x_sipush (v := 255) rfl ks_255 ?_
    refine z_iand rfl jk_255 (by decide) (fun v78 ev78 => ?_)
    refine z_iast (N := 400) (l := 0) (u := 400) (w := v78.toInt) rfl hD J Sm rfl rfl rfl (by omega) rfl (wr_131 (fun q1 q2 q3 q4 => by omega)) rfl (fun h w79 J Sm => ?_)
    refine x_aloadn (x := 125) rfl rfl ?_
    refine x_dup rfl rfl ?_
    refine z_getM (N := 92) (v := v74) 12 8 rfl f_12_201 rfl J rfl (jmo w79 rfl (jmw w75)) ?_
    refine x_iconst (v := 1) rfl ki_1 ?_
    refine z_iadd rfl rfl jk_1 (by omega) (fun v80 ev80 => ?_)
    refine z_putI (N := 92) (w := v80.toInt) 12 8 rfl f_12_201 rfl (jfin_no TX12 RX12 92 rfl rfl) hD J Sm rfl rfl rfl (pw_125_8 (by omega)) rfl (fun h w81 J Sm => ?_)
    refine z_iinc (x := 24) (lsx9 := fun v82 => [(2, .int v82), (0, .ref 125), (1, .int a4)]) rfl rfl jk_24 jko_m8 (by omega) rfl (fun _ => rfl) (fun v82 ev82 => ?_)
    refine x_goto (tgt := 3) rfl rfl ?_
    refine x_iloadn (x := v82) rfl rfl ?_
    refine x_iflt (tgt := 39) rfl rfl (ti_lt rfl jk_0 (br_f (by omega) ?_))
    refine x_aloadn (x := 125) rfl rfl ?_
    refine z_getR (N := 92) (b := 131) 12 7 rfl f_12_29 rfl J rfl 16007 ⟨rfl, rfl⟩ rfl ?_
    refine x_aloadn (x := 125) rfl rfl ?_
    refine z_getM (N := 92) (v := v80) 12 8 rfl f_12_201 rfl J rfl (jmw w81) ?_
    refine x_iloadn (x := a4) rfl rfl ?_
    refine x_iloadn (x := v82) rfl rfl ?_
    refine z_ishr0 rfl (fun v83 => ?_)
    have ev83 := jfull v83
    refine x_sipush (v := 255) rfl ks_255 ?_
    refine z_iand rfl jk_255 (by decide) (fun v84 ev84 => ?_)
    refine z_iast (N := 400) (l := 0) (u := 400) (w := v84.toInt) rfl hD J Sm rfl rfl rfl (by omega) rfl (wr_131 (fun q1 q2 q3 q4 => by omega)) rfl (fun h w85 J Sm => ?_)
    refine x_aloadn (x := 125) rfl rfl ?_
    refine x_dup rfl rfl ?_
    refine z_getM (N := 92) (v := v80) 12 8 rfl f_12_201 rfl J rfl (jmo w85 rfl (jmw w81)) ?_
    refine x_iconst (v := 1) rfl ki_1 ?_
    refine z_iadd rfl rfl jk_1 (by omega) (fun v86 ev86 => ?_)
    refine z_putI (N := 92) (w := v86.toInt) 12 8 rfl f_12_201 rfl (jfin_no TX12 RX12 92 rfl rfl) hD J Sm rfl rfl rfl (pw_125_8 (by omega)) rfl (fun h w87 J Sm => ?_)
    refine z_iinc (x := v82) (lsx9 := fun v88 => [(2, .int v88), (0, .ref 125), (1, .int a4)]) rfl rfl rfl jko_m8 (by omega) rfl (fun _ => rfl) (fun v88 ev88 => ?_)
    refine x_goto (tgt := 3) rfl rfl ?_
    refine x_iloadn (x := v88) rfl rfl ?_
    refine x_iflt (tgt := 39) rfl rfl (ti_lt rfl jk_0 (br_f (by omega) ?_))
    refine x_aloadn (x := 125) rfl rfl ?_
    refine z_getR (N := 92) (b := 131) 12 7 rfl f_12_29 rfl J rfl 16007 ⟨rfl, rfl⟩ rfl ?_
    refine x_aloadn (x := 125) rfl rfl ?_
    refine z_getM (N := 92) (v := v86) 12 8 rfl f_12_201 rfl J rfl (jmw w87) ?_
    refine x_iloadn (x := a4) rfl rfl ?_
    refine x_iloadn (x := v88) rfl rfl ?_
    refine z_ishr0 rfl (fun v89 => ?_)
    have ev89 := jfull v89
    refine x_sipush (v := 255) rfl ks_255 ?_
    refine z_iand rfl jk_255 (by decide) (fun v90 ev90 => ?_)
    refine z_iast (N := 400) (l := 0) (u := 400) (w := v90.toInt) rfl hD J Sm rfl rfl rfl (by omega) rfl (wr_131 (fun q1 q2 q3 q4 => by omega)) rfl (fun h w91 J Sm => ?_)
    refine x_aloadn (x := 125) rfl rfl ?_
    refine x_dup rfl rfl ?_
    refine z_getM (N := 92) (v := v86) 12 8 rfl f_12_201 rfl J rfl (jmo w91 rfl (jmw w87)) ?_
    refine x_iconst (v := 1) rfl ki_1 ?_
    refine z_iadd rfl rfl jk_1 (by omega) (fun v92 ev92 => ?_)
    refine z_putI (N := 92) (w := v92.toInt) 12 8 rfl f_12_201 rfl (jfin_no TX12 RX12 92 rfl rfl) hD J Sm rfl rfl rfl (pw_125_8 (by omega)) rfl (fun h w93 J Sm => ?_)
    refine z_iinc (x := v88) (lsx9 := fun v94 => [(2, .int v94), (0, .ref 125), (1, .int a4)]) rfl rfl rfl jko_m8 (by omega) rfl (fun _ => rfl) (fun v94 ev94 => ?_)
    refine x_goto (tgt := 3) rfl rfl ?_
    refine x_iloadn (x := v94) rfl rfl ?_
    refine x_iflt (tgt := 39) rfl rfl (ti_lt rfl jk_0 (br_f (by omega) ?_))
    refine x_aloadn (x := 125) rfl rfl ?_
    refine z_getR (N := 92) (b := 131) 12 7 rfl f_12_29 rfl J rfl 16007 ⟨rfl, rfl⟩ rfl ?_
    refine x_aloadn (x := 125) rfl rfl ?_
    refine z_getM (N := 92) (v := v92) 12 8 rfl f_12_201 rfl J rfl (jmw w93) ?_
    refine x_iloadn (x := a4) rfl rfl ?_
    refine x_iloadn (x := v94) rfl rfl ?_
    refine z_ishr0 rfl (fun v95 => ?_)
    have ev95 := jfull v95
    refine x_sipush (v := 255) rfl ks_255 ?_
    refine z_iand rfl jk_255 (by decide) (fun v96 ev96 => ?_)
    refine z_iast (N := 400) (l := 0) (u := 400) (w := v96.toInt) rfl hD J Sm rfl rfl rfl (by omega) rfl (wr_131 (fun q1 q2 q3 q4 => by omega)) rfl (fun h w97 J Sm => ?_)
    refine x_aloadn (x := 125) rfl rfl ?_
    refine x_dup rfl rfl ?_
    refine z_getM (N := 92) (v := v92) 12 8 rfl f_12_201 rfl J rfl (jmo w97 rfl (jmw w93)) ?_
    refine x_iconst (v := 1) rfl ki_1 ?_
    refine z_iadd rfl rfl jk_1 (by omega) (fun v98 ev98 => ?_)
    refine z_putI (N := 92) (w := v98.toInt) 12 8 rfl f_12_201 rfl (jfin_no TX12 RX12 92 rfl rfl) hD J Sm rfl rfl rfl (pw_125_8 (by omega)) rfl (fun h w99 J Sm => ?_)
    refine z_iinc (x := v94) (lsx9 := fun v100 => [(2, .int v100), (0, .ref 125), (1, .int a4)]) rfl rfl rfl jko_m8 (by omega) rfl (fun _ => rfl) (fun v100 ev100 => ?_)
    refine x_goto (tgt := 3) rfl rfl ?_
    refine x_iloadn (x := v100) rfl rfl ?_
    refine x_iflt (tgt := 39) rfl rfl (ti_lt rfl jk_0 (br_t (by omega) ?_))
    refine x_vret rfl rfl ?_
    show jX m_X12_feed 2 0 0 41 [(0, .ref 125), (1, .int a1), (2, .int a2), (3, .int a3), (4, .int a4), (5, .int a5)] [] _ 0 0 _
    refine x_aloadn (x := 125) rfl rfl ?_
    refine x_iload (x := a5) rfl rfl ?_
    refine x_inv (N := m_X12_four) (As := [.int a5]) (b := 125) (st := []) (dx9 := 1) (mc := 0) (ms := 0) (host := "") 12 rfl t_X12_four ⟨Or.inl q_12_207, i_X12_four.1, i_X12_four.2⟩ ⟨by decide, rfl⟩ (congrArg Prod.fst (J.1.1 125 (12, 92) rfl)) rfl (by decide) rfl rfl ⟨by decide, by decide⟩ (jC.of rfl k_X12_four rfl ?_)
    show jX m_X12_four 1 0 0 0 [(0, .ref 125), (1, .int a5)] [] _ 0 0 _
    refine x_bipush (v := 24) rfl kb_24 ?_
    refine x_istoren (lsx9 := [(2, .int 24), (0, .ref 125), (1, .int a5)]) rfl rfl rfl ?_
    refine x_iloadn (x := 24) rfl rfl ?_
    refine x_iflt (tgt := 39) rfl rfl (ti_lt jk_24 jk_0 (br_f (by omega) ?_))
    refine x_aloadn (x := 125) rfl rfl ?_
    refine z_getR (N := 92) (b := 131) 12 7 rfl f_12_29 rfl J rfl 16007 ⟨rfl, rfl⟩ rfl ?_
    refine x_aloadn (x := 125) rfl rfl ?_
    refine z_getM (N := 92) (v := v98) 12 8 rfl f_12_201 rfl J rfl (jmw w99) ?_
    refine x_iloadn (x := a5) rfl rfl ?_
    refine x_iloadn (x := 24) rfl rfl ?_
    refine z_ishr0 rfl (fun v101 => ?_)
    have ev101 := jfull v101
    refine x_sipush (v := 255) rfl ks_255 ?_
    refine z_iand rfl jk_255 (by decide) (fun v102 ev102 => ?_)
    refine z_iast (N := 400) (l := 0) (u := 400) (w := v102.toInt) rfl hD J Sm rfl rfl rfl (by omega) rfl (wr_131 (fun q1 q2 q3 q4 => by omega)) rfl (fun h w103 J Sm => ?_)
    refine x_aloadn (x := 125) rfl rfl ?_
    refine x_dup rfl rfl ?_
    refine z_getM (N := 92) (v := v98) 12 8 rfl f_12_201 rfl J rfl (jmo w103 rfl (jmw w99)) ?_
    refine x_iconst (v := 1) rfl ki_1 ?_
    refine z_iadd rfl rfl jk_1 (by omega) (fun v104 ev104 => ?_)
    refine z_putI (N := 92) (w := v104.toInt) 12 8 rfl f_12_201 rfl (jfin_no TX12 RX12 92 rfl rfl) hD J Sm rfl rfl rfl (pw_125_8 (by omega)) rfl (fun h w105 J Sm => ?_)
    refine z_iinc (x := 24) (lsx9 := fun v106 => [(2, .int v106), (0, .ref 125), (1, .int a5)]) rfl rfl jk_24 jko_m8 (by omega) rfl (fun _ => rfl) (fun v106 ev106 => ?_)
    refine x_goto (tgt := 3) rfl rfl ?_
    refine x_iloadn (x := v106) rfl rfl ?_
    refine x_iflt (tgt := 39) rfl rfl (ti_lt rfl jk_0 (br_f (by omega) ?_))
    refine x_aloadn (x := 125) rfl rfl ?_
    refine z_getR (N := 92) (b := 131) 12 7 rfl f_12_29 rfl J rfl 16007 ⟨rfl, rfl⟩ rfl ?_
    refine x_aloadn (x := 125) rfl rfl ?_
    refine z_getM (N := 92) (v := v104) 12 8 rfl f_12_201 rfl J rfl (jmw w105) ?_
    refine x_iloadn (x := a5) rfl rfl ?_
    refine x_iloadn (x := v106) rfl rfl ?_
    refine z_ishr0 rfl (fun v107 => ?_)
    have ev107 := jfull v107
    refine x_sipush (v := 255) rfl ks_255 ?_
    refine z_iand rfl jk_255 (by decide) (fun v108 ev108 => ?_)
    refine z_iast (N := 400) (l := 0) (u := 400) (w := v108.toInt) rfl hD J Sm rfl rfl rfl (by omega) rfl (wr_131 (fun q1 q2 q3 q4 => by omega)) rfl (fun h w109 J Sm => ?_)
    refine x_aloadn (x := 125) rfl rfl ?_
    refine x_dup rfl rfl ?_
    refine z_getM (N := 92) (v := v104) 12 8 rfl f_12_201 rfl J rfl (jmo w109 rfl (jmw w105)) ?_
    refine x_iconst (v := 1) rfl ki_1 ?_
    refine z_iadd rfl rfl jk_1 (by omega) (fun v110 ev110 => ?_)
    refine z_putI (N := 92) (w := v110.toInt) 12 8 rfl f_12_201 rfl (jfin_no TX12 RX12 92 rfl rfl) hD J Sm rfl rfl rfl (pw_125_8 (by omega)) rfl (fun h w111 J Sm => ?_)
    refine z_iinc (x := v106) (lsx9 := fun v112 => [(2, .int v112), (0, .ref 125), (1, .int a5)]) rfl rfl rfl jko_m8 (by omega) rfl (fun _ => rfl) (fun v112 ev112 => ?_)
    refine x_goto (tgt := 3) rfl rfl ?_
    refine x_iloadn (x := v112) rfl rfl ?_
    refine x_iflt (tgt := 39) rfl rfl (ti_lt rfl jk_0 (br_f (by omega) ?_))
    refine x_aloadn (x := 125) rfl rfl ?_
    refine z_getR (N := 92) (b := 131) 12 7 rfl f_12_29 rfl J rfl 16007 ⟨rfl, rfl⟩ rfl ?_
    refine x_aloadn (x := 125) rfl rfl ?_
    refine z_getM (N := 92) (v := v110) 12 8 rfl f_12_201 rfl J rfl (jmw w111) ?_
    refine x_iloadn (x := a5) rfl rfl ?_
    refine x_iloadn (x := v112) rfl rfl ?_
    refine z_ishr0 rfl (fun v113 => ?_)
    have ev113 := jfull v113
    refine x_sipush (v := 255) rfl ks_255 ?_
    refine z_iand rfl jk_255 (by decide) (fun v114 ev114 => ?_)
    refine z_iast (N := 400) (l := 0) (u := 400) (w := v114.toInt) rfl hD J Sm rfl rfl rfl (by omega) rfl (wr_131 (fun q1 q2 q3 q4 => by omega)) rfl (fun h w115 J Sm => ?_)
    refine x_aloadn (x := 125) rfl rfl ?_
    refine x_dup rfl rfl ?_
    refine z_getM (N := 92) (v := v110) 12 8 rfl f_12_201 rfl J rfl (jmo w115 rfl (jmw w111)) ?_
    refine x_iconst (v := 1) rfl ki_1 ?_
    refine z_iadd rfl rfl jk_1 (by omega) (fun v116 ev116 => ?_)
    refine z_putI (N := 92) (w := v116.toInt) 12 8 rfl f_12_201 rfl (jfin_no TX12 RX12 92 rfl rfl) hD J Sm rfl rfl rfl (pw_125_8 (by omega)) rfl (fun h w117 J Sm => ?_)
    refine z_iinc (x := v112) (lsx9 := fun v118 => [(2, .int v118), (0, .ref 125), (1, .int a5)]) rfl rfl rfl jko_m8 (by omega) rfl (fun _ => rfl) (fun v118 ev118 => ?_)
    refine x_goto (tgt := 3) rfl rfl ?_
    refine x_iloadn (x := v118) rfl rfl ?_
    refine x_iflt (tgt := 39) rfl rfl (ti_lt rfl jk_0 (br_f (by omega) ?_))
    refine x_aloadn (x := 125) rfl rfl ?_
    refine z_getR (N := 92) (b := 131) 12 7 rfl f_12_29 rfl J rfl 16007 ⟨rfl, rfl⟩ rfl ?_
    refine x_aloadn (x := 125) rfl rfl ?_
    refine z_getM (N := 92) (v := v116) 12 8 rfl f_12_201 rfl J rfl (jmw w117) ?_
    refine x_iloadn (x := a5) rfl rfl ?_
    refine x_iloadn (x := v118) rfl rfl ?_
    refine z_ishr0 rfl (fun v119 => ?_)
    have ev119 := jfull v119
    refine x_sipush (v := 255) rfl ks_255 ?_
    refine z_iand rfl jk_255 (by decide) (fun v120 ev120 => ?_)
    refine z_iast (N := 400) (l := 0) (u := 400) (w := v120.toInt) rfl hD J Sm rfl rfl rfl (by omega) rfl (wr_131 (fun q1 q2 q3 q4 => by omega)) rfl (fun h w121 J Sm => ?_)
    refine x_aloadn (x := 125) rfl rfl ?_
    refine x_dup rfl rfl ?_
    refine z_getM (N := 92) (v := v116) 12 8 rfl f_12_201 rfl J rfl (jmo w121 rfl (jmw w117)) ?_
    refine x_iconst (v := 1) rfl ki_1 ?_
    refine z_iadd rfl rfl jk_1 (by omega) (fun v122 ev122 => ?_)
    refine z_putI (N := 92) (w := v122.toInt) 12 8 rfl f_12_201 rfl (jfin_no TX12 RX12 92 rfl rfl) hD J Sm rfl rfl rfl (pw_125_8 (by omega)) rfl (fun h w123 J Sm => ?_)
    refine z_iinc (x := v118) (lsx9 := fun v124 => [(2, .int v124), (0, .ref 125), (1, .int a5)]) rfl rfl rfl jko_m8 (by omega) rfl (fun _ => rfl) (fun v124 ev124 => ?_)
    refine x_goto (tgt := 3) rfl rfl ?_
    refine x_iloadn (x := v124) rfl rfl ?_
    refine x_iflt (tgt := 39) rfl rfl (ti_lt rfl jk_0 (br_t (by omega) ?_))
    refine x_vret rfl rfl ?_
    show jX m_X12_feed 2 0 0 47 [(0, .ref 125), (1, .int a1), (2, .int a2), (3, .int a3), (4, .int a4), (5, .int a5)] [] _ 0 0 _
    refine x_aloadn (x := 125) rfl rfl ?_
    refine z_getM (N := 92) (v := v122) 12 8 rfl f_12_201 rfl J rfl (jmw w123) ?_
    refine x_iret rfl rfl ?_
    exact hQ _ _ (jr_of rfl (by omega)) J Sm (Or.inr ⟨by omega, by omega, by have := congrArg Int32.toInt (jmw w123); omega⟩)
  ·
    refine x_iconst (v := (-1)) rfl ki_m1 ?_
    refine x_iret rfl rfl ?_
    exact hQ _ _ (jr_of jk_m1 (by omega)) J Sm (Or.inl ⟨by omega, jk_m1, by have := congrArg Int32.toInt (jmo w2 rfl qu1); omega⟩)
def fp_X12_holding_r125p : jFp := [(125, 0, 1), (125, 1, 2), (126, 7, 8), (126, 16, 17), (126, 49920, 50660)]
set_option maxRecDepth 100000 in
set_option maxHeartbeats 4000000 in
theorem sf_X12_holding_r125p {Dy : jH → Prop} {h : jH} {Q : Option Value → jH → Prop} (hD : jDk Dy) (J : jJ jSgM Dy h) {p0 p1 p2 p3 p4 : Int32} {p5 p6 : Int32} (zp0 : jiv h 126 (16 : Int32).toNatClampNeg = p0) (zp1 : jiv h 126 (0 : Int32).toNatClampNeg = p1) (zp2 : jiv h 126 (4 : Int32).toNatClampNeg = p2) (zp3 : jiv h 126 (5 : Int32).toNatClampNeg = p3) (zp4 : jiv h 126 (7 : Int32).toNatClampNeg = p4) (rl_p0 : p0.toInt = p1.toInt + p2.toInt + p3.toInt + p4.toInt) (zp5 : jiv h 126 (9 : Int32).toNatClampNeg = p5) (zp6 : jiv h 126 (7 : Int32).toNatClampNeg = p6) (rl_p5 : p5.toInt ≤ p6.toInt) (hQ : ∀ (v : Int32) hx9, (-5) ≤ v.toInt ∧ v.toInt ≤ 39 → jJ jSgM Dy hx9 → jSm fp_X12_holding_r125p h hx9 → ∀ u0 u1 u2 u3 u4 : Int32, jiv hx9 126 (16 : Int32).toNatClampNeg = u0 → jiv hx9 126 (0 : Int32).toNatClampNeg = u1 → jiv hx9 126 (4 : Int32).toNatClampNeg = u2 → jiv hx9 126 (5 : Int32).toNatClampNeg = u3 → jiv hx9 126 (7 : Int32).toNatClampNeg = u4 → u0.toInt = u1.toInt + u2.toInt + u3.toInt + u4.toInt → ∀ u5 u6 : Int32, jiv hx9 126 (9 : Int32).toNatClampNeg = u5 → jiv hx9 126 (7 : Int32).toNatClampNeg = u6 → u5.toInt ≤ u6.toInt → (((jiv h 126 7).toInt = 40 ∧ v.toInt = -5 ∧ jiv hx9 126 7 = jiv h 126 7) ∨ ((jiv h 126 7).toInt < 40 ∧ v.toInt = (jiv h 126 7).toInt + 0 ∧ (jiv hx9 126 7).toInt = (jiv h 126 7).toInt + 1)) → Q (some (.int v)) hx9) : jC m_X12_holding 2 0 0 [.ref 125] h Q := by
  refine jC.of rfl k_X12_holding rfl ?_
  have Sm := jSm_rf fp_X12_holding_r125p h
  have ep0 := (show 0 ≤ p0.toInt ∧ p0.toInt ≤ 370 from zp0 ▸ jrg_c J sg_126_16_17_1_0_1 jk_16 (by omega))
  have ep1 := (show 0 ≤ p1.toInt ∧ p1.toInt ≤ 200 from zp1 ▸ jrg_c J sg_126_0_1_1_0_1 jk_0 (by omega))
  have ep2 := (show 0 ≤ p2.toInt ∧ p2.toInt ≤ 30 from zp2 ▸ jrg_c J sg_126_4_5_1_0_1 jk_4 (by omega))
  have ep3 := (show 0 ≤ p3.toInt ∧ p3.toInt ≤ 100 from zp3 ▸ jrg_c J sg_126_5_6_1_0_1 jk_5 (by omega))
  have ep4 := (show 0 ≤ p4.toInt ∧ p4.toInt ≤ 40 from zp4 ▸ jrg_c J sg_126_7_8_1_0_1 jk_7 (by omega))
  have ep5 := (show 0 ≤ p5.toInt ∧ p5.toInt ≤ 40 from zp5 ▸ jrg_c J sg_126_9_10_1_0_1 jk_9 (by omega))
  have ep6 := (show 0 ≤ p6.toInt ∧ p6.toInt ≤ 40 from zp6 ▸ jrg_c J sg_126_7_8_1_0_1 jk_7 (by omega))
  obtain rfl : p4 = p6 := zp4.symm.trans zp6
  show jX m_X12_holding 2 0 0 0 [(0, .ref 125)] [] _ 0 0 _
  have op4 := ov_n (n := 7) (by decide) zp4
  refine x_aloadn (x := 125) rfl rfl ?_
  refine x_iconst (v := 0) rfl ki_0 ?_
  refine z_putI (N := 92) (w := 0) 12 0 rfl f_12_180 rfl (jfin_no TX12 RX12 92 rfl rfl) hD J Sm rfl rfl jk_0 (pw_125_0 (by omega)) rfl (fun h w1 J Sm => ?_)
  refine x_aloadn (x := 125) rfl rfl ?_
  refine z_getR (N := 92) (b := 126) 12 2 rfl f_12_8 rfl J rfl 16002 ⟨rfl, rfl⟩ rfl ?_
  refine x_bipush (v := 7) rfl kb_7 ?_
  refine z_ialdM (N := 50660) (v := p4) rfl J rfl jk_7 (by omega) (jmo w1 rfl zp4) ?_
  refine x_bipush (v := 40) rfl kb_40 ?_
  refine x_icne (tgt := 24) rfl rfl (ti_ne rfl jk_40 ⟨fun c2 => ?_, fun c2 => ?_⟩)
  ·
    refine x_aloadn (x := 125) rfl rfl ?_
    refine z_getR (N := 92) (b := 126) 12 2 rfl f_12_8 rfl J rfl 16002 ⟨rfl, rfl⟩ rfl ?_
    refine x_bipush (v := 7) rfl kb_7 ?_
    refine x_dup2 rfl rfl rfl ?_
    refine z_ialdM (N := 50660) (v := p4) rfl J rfl jk_7 (by omega) (jmo w1 rfl zp4) ?_
    refine x_iconst (v := 1) rfl ki_1 ?_
    refine z_iadd rfl rfl jk_1 (by omega) (fun v3 ev3 => ?_)
    refine z_iast (N := 50660) (l := 7) (u := 8) (w := v3.toInt) rfl hD J Sm rfl rfl jk_7 (by omega) rfl (wr_126_7 (by omega) (fun q1 q2 q3 q4 => by omega)) rfl (fun h w4 J Sm => ?_)
    refine x_aloadn (x := 125) rfl rfl ?_
    refine x_iconst (v := 3) rfl ki_3 ?_
    refine x_aloadn (x := 125) rfl rfl ?_
    refine z_getR (N := 92) (b := 126) 12 2 rfl f_12_8 rfl J rfl 16002 ⟨rfl, rfl⟩ rfl ?_
    refine x_bipush (v := 7) rfl kb_7 ?_
    refine z_ialdM (N := 50660) (v := v3) rfl J rfl jk_7 (by omega) (jmw w4) ?_
    refine x_iconst (v := 1) rfl ki_1 ?_
    refine z_isub rfl rfl jk_1 (by omega) (fun v5 ev5 => ?_)
    refine x_inv (N := m_X12_thing) (As := [.int 3, .int v5]) (b := 125) (st := []) (dx9 := 1) (mc := 0) (ms := 0) (host := "") 12 rfl t_X12_thing ⟨Or.inl q_12_289, i_X12_thing.1, i_X12_thing.2⟩ ⟨by decide, rfl⟩ (congrArg Prod.fst (J.1.1 125 (12, 92) rfl)) rfl (by decide) rfl rfl ⟨by decide, by decide⟩ (jC.of rfl k_X12_thing rfl ?_)
    show jX m_X12_thing 1 0 0 0 [(0, .ref 125), (1, .int 3), (2, .int v5)] [] _ 0 0 _
    refine x_ldc (v := 49920) rfl z_12_194 ?_
    refine x_iconst (v := 2) rfl ki_2 ?_
    refine x_aloadn (x := 125) rfl rfl ?_
    refine z_getR (N := 92) (b := 126) 12 2 rfl f_12_8 rfl J rfl 16002 ⟨rfl, rfl⟩ rfl ?_
    refine x_bipush (v := 16) rfl kb_16 ?_
    refine z_ialdM (N := 50660) (v := p0) rfl J rfl jk_16 (by omega) (jmo2 w4 jk_7 jk_16 (by omega) (jmo w1 rfl zp0)) ?_
    refine z_imul rfl jk_2 rfl (by omega) (fun v6 ev6 => ?_)
    refine z_iadd rfl jk_49920 rfl (by omega) (fun v7 ev7 => ?_)
    refine x_istoren (lsx9 := [(3, .int v7), (0, .ref 125), (1, .int 3), (2, .int v5)]) rfl rfl rfl ?_
    refine x_aloadn (x := 125) rfl rfl ?_
    refine z_getR (N := 92) (b := 126) 12 2 rfl f_12_8 rfl J rfl 16002 ⟨rfl, rfl⟩ rfl ?_
    refine x_iloadn (x := v7) rfl rfl ?_
    refine x_iloadn (x := 3) rfl rfl ?_
    refine z_iast (N := 50660) (l := 49920) (u := 50660) (w := 3) rfl hD J Sm rfl rfl rfl (by omega) jk_3 (wr_126_49920 (by omega) (fun q1 q2 q3 q4 => by omega) (fun q1 q2 q3 q4 => by omega)) rfl (fun h w8 J Sm => ?_)
    refine x_aloadn (x := 125) rfl rfl ?_
    refine z_getR (N := 92) (b := 126) 12 2 rfl f_12_8 rfl J rfl 16002 ⟨rfl, rfl⟩ rfl ?_
    refine x_iloadn (x := v7) rfl rfl ?_
    refine x_iconst (v := 1) rfl ki_1 ?_
    refine z_iadd rfl rfl jk_1 (by omega) (fun v9 ev9 => ?_)
    refine x_iloadn (x := v5) rfl rfl ?_
    refine z_iast (N := 50660) (l := 49920) (u := 50660) (w := v5.toInt) rfl hD J Sm rfl rfl rfl (by omega) rfl (wr_126_49920 (by omega) (fun q1 q2 q3 q4 => by omega) (fun q1 q2 q3 q4 => by omega)) rfl (fun h w10 J Sm => ?_)
    refine x_aloadn (x := 125) rfl rfl ?_
    refine z_getR (N := 92) (b := 126) 12 2 rfl f_12_8 rfl J rfl 16002 ⟨rfl, rfl⟩ rfl ?_
    refine x_bipush (v := 16) rfl kb_16 ?_
    refine x_dup2 rfl rfl rfl ?_
    refine z_ialdM (N := 50660) (v := p0) rfl J rfl jk_16 (by omega) (jmo2 w10 rfl jk_16 (by omega) (jmo2 w8 rfl jk_16 (by omega) (jmo2 w4 jk_7 jk_16 (by omega) (jmo w1 rfl zp0)))) ?_
    refine x_iconst (v := 1) rfl ki_1 ?_
    refine z_iadd rfl rfl jk_1 (by omega) (fun v11 ev11 => ?_)
    refine z_iast (N := 50660) (l := 16) (u := 17) (w := v11.toInt) rfl hD J Sm rfl rfl jk_16 (by omega) rfl (wr_126_16 (by omega) (fun q1 q2 q3 q4 => by omega)) rfl (fun h w12 J Sm => ?_)
    refine x_vret rfl rfl ?_
    show jX m_X12_holding 2 0 0 49 [(0, .ref 125)] [] _ 0 0 _
    refine x_aloadn (x := 125) rfl rfl ?_
    refine x_aloadn (x := 125) rfl rfl ?_
    refine z_getR (N := 92) (b := 126) 12 2 rfl f_12_8 rfl J rfl 16002 ⟨rfl, rfl⟩ rfl ?_
    refine x_bipush (v := 7) rfl kb_7 ?_
    refine z_ialdM (N := 50660) (v := v3) rfl J rfl jk_7 (by omega) (jmo2 w12 jk_16 jk_7 (by omega) (jmo2 w10 rfl jk_7 (by omega) (jmo2 w8 rfl jk_7 (by omega) (jmw w4)))) ?_
    refine x_iconst (v := 1) rfl ki_1 ?_
    refine z_isub rfl rfl jk_1 (by omega) (fun v13 ev13 => ?_)
    refine x_inv (N := m_X12_told) (As := [.int v13]) (b := 125) (st := []) (dx9 := 1) (mc := 0) (ms := 0) (host := "") 12 rfl t_X12_told ⟨Or.inl q_12_197, i_X12_told.1, i_X12_told.2⟩ ⟨by decide, rfl⟩ (congrArg Prod.fst (J.1.1 125 (12, 92) rfl)) rfl (by decide) rfl rfl ⟨by decide, by decide⟩ (jC.of rfl k_X12_told rfl ?_)
    show jX m_X12_told 1 0 0 0 [(0, .ref 125), (1, .int v13)] [] _ 0 0 _
    refine x_aloadn (x := 125) rfl rfl ?_
    refine x_iloadn (x := v13) rfl rfl ?_
    refine x_ifge (tgt := 9) rfl rfl (ti_ge rfl jk_0 (br_t (by omega) ?_))
    refine x_iconst (v := 0) rfl ki_0 ?_
    refine z_putI (N := 92) (w := 0) 12 1 rfl f_12_183 rfl (jfin_no TX12 RX12 92 rfl rfl) hD J Sm rfl rfl jk_0 (pw_125_1 (by omega)) rfl (fun h w14 J Sm => ?_)
    refine x_iloadn (x := v13) rfl rfl ?_
    refine x_iret rfl rfl ?_
    show jX m_X12_holding 2 0 0 62 [(0, .ref 125)] [.int v13] _ 0 0 _
    refine x_iret rfl rfl ?_
    exact hQ _ _ (jr_of rfl (by omega)) J Sm _ _ _ _ _ (jmo w14 rfl (jmw w12)) (jmo w14 rfl (jmo2 w12 jk_16 jk_0 (by omega) (jmo2 w10 rfl jk_0 (by omega) (jmo2 w8 rfl jk_0 (by omega) (jmo2 w4 jk_7 jk_0 (by omega) (jmo w1 rfl zp1)))))) (jmo w14 rfl (jmo2 w12 jk_16 jk_4 (by omega) (jmo2 w10 rfl jk_4 (by omega) (jmo2 w8 rfl jk_4 (by omega) (jmo2 w4 jk_7 jk_4 (by omega) (jmo w1 rfl zp2)))))) (jmo w14 rfl (jmo2 w12 jk_16 jk_5 (by omega) (jmo2 w10 rfl jk_5 (by omega) (jmo2 w8 rfl jk_5 (by omega) (jmo2 w4 jk_7 jk_5 (by omega) (jmo w1 rfl zp3)))))) (jmo w14 rfl (jmo2 w12 jk_16 jk_7 (by omega) (jmo2 w10 rfl jk_7 (by omega) (jmo2 w8 rfl jk_7 (by omega) (jmw w4))))) (by omega) _ _ (jmo w14 rfl (jmo2 w12 jk_16 jk_9 (by omega) (jmo2 w10 rfl jk_9 (by omega) (jmo2 w8 rfl jk_9 (by omega) (jmo2 w4 jk_7 jk_9 (by omega) (jmo w1 rfl zp5)))))) (jmo w14 rfl (jmo2 w12 jk_16 jk_7 (by omega) (jmo2 w10 rfl jk_7 (by omega) (jmo2 w8 rfl jk_7 (by omega) (jmw w4))))) (by omega) (Or.inr ⟨(by omega), (by omega), (by have := ov_n (n := 7) (by decide) (jmo w14 rfl (jmo2 w12 jk_16 jk_7 (by omega) (jmo2 w10 rfl jk_7 (by omega) (jmo2 w8 rfl jk_7 (by omega) (jmw w4))))); omega)⟩)
  ·
    refine x_aloadn (x := 125) rfl rfl ?_
    refine x_bipush (v := (-5)) rfl kb_m5 ?_
    refine x_inv (N := m_X12_told) (As := [.int (-5)]) (b := 125) (st := []) (dx9 := 1) (mc := 0) (ms := 0) (host := "") 12 rfl t_X12_told ⟨Or.inl q_12_197, i_X12_told.1, i_X12_told.2⟩ ⟨by decide, rfl⟩ (congrArg Prod.fst (J.1.1 125 (12, 92) rfl)) rfl (by decide) rfl rfl ⟨by decide, by decide⟩ (jC.of rfl k_X12_told rfl ?_)
    show jX m_X12_told 1 0 0 0 [(0, .ref 125), (1, .int (-5))] [] _ 0 0 _
    refine x_aloadn (x := 125) rfl rfl ?_
    refine x_iloadn (x := (-5)) rfl rfl ?_
    refine x_ifge (tgt := 9) rfl rfl (ti_ge jk_m5 jk_0 (br_f (by omega) ?_))
    refine x_iloadn (x := (-5)) rfl rfl ?_
    refine x_goto (tgt := 10) rfl rfl ?_
    refine z_putI (N := 92) (w := (-5)) 12 1 rfl f_12_183 rfl (jfin_no TX12 RX12 92 rfl rfl) hD J Sm rfl rfl jk_m5 (pw_125_1 (by omega)) rfl (fun h w15 J Sm => ?_)
    refine x_iloadn (x := (-5)) rfl rfl ?_
    refine x_iret rfl rfl ?_
    show jX m_X12_holding 2 0 0 23 [(0, .ref 125)] [.int (-5)] _ 0 0 _
    refine x_iret rfl rfl ?_
    exact hQ _ _ (jr_of jk_m5 (by omega)) J Sm _ _ _ _ _ (jmo w15 rfl (jmo w1 rfl zp0)) (jmo w15 rfl (jmo w1 rfl zp1)) (jmo w15 rfl (jmo w1 rfl zp2)) (jmo w15 rfl (jmo w1 rfl zp3)) (jmo w15 rfl (jmo w1 rfl zp4)) (by omega) _ _ (jmo w15 rfl (jmo w1 rfl zp5)) (jmo w15 rfl (jmo w1 rfl zp4)) (by omega) (Or.inl ⟨(by omega), jk_m5, (congrFun (ov_o w15 rfl (ov_o w1 rfl rfl)) 7)⟩)
def fp_X12_image_r125p : jFp := [(125, 0, 1), (125, 1, 2), (127, 0, 202640), (128, 0, 4), (130, 0, 6400)]
set_option maxRecDepth 100000 in
set_option maxHeartbeats 4000000 in
theorem ct_X12_image_r125p_56 {Dy : jH → Prop} {h0 : jH} {Q : Option Value → jH → Prop} {a1 : Int32} (yy_a1 : (-2147483648) ≤ a1.toInt ∧ a1.toInt ≤ 2147483647) (hI : jDi Dy) (hD : jDk Dy) (hQ : ∀ (v : Int32) hx9, (-1) ≤ v.toInt ∧ v.toInt ≤ 0 → jJ jSgM Dy hx9 → jSm fp_X12_image_r125p h0 hx9 → ∀ u0 u1 u2 u3 u4 : Int32, jiv hx9 126 (16 : Int32).toNatClampNeg = u0 → jiv hx9 126 (0 : Int32).toNatClampNeg = u1 → jiv hx9 126 (4 : Int32).toNatClampNeg = u2 → jiv hx9 126 (5 : Int32).toNatClampNeg = u3 → jiv hx9 126 (7 : Int32).toNatClampNeg = u4 → u0.toInt = u1.toInt + u2.toInt + u3.toInt + u4.toInt → ∀ u5 u6 : Int32, jiv hx9 126 (9 : Int32).toNatClampNeg = u5 → jiv hx9 126 (7 : Int32).toNatClampNeg = u6 → u5.toInt ≤ u6.toInt → ((¬ (0 ≤ a1.toInt ∧ a1.toInt ≤ 3) ∧ v.toInt = -1 ∧ jiv hx9 127 = jiv h0 127 ∧ jiv hx9 128 = jiv h0 128) ∨ ((0 ≤ a1.toInt ∧ a1.toInt ≤ 3) ∧ v.toInt = 0 ∧ jIm h0 hx9 a1 50660 ∧ jiv hx9 128 = jov (jiv h0 128) a1.toNatClampNeg 1)) → Q (some (.int v)) hx9) : ∀ r : Nat, ∀ (l2 : Int32) (g0 : Int32) (g1 : Int32) (g2 : Int32) (g3 : Int32) (g4 : Int32) (g5 : Int32) (h : jH), 1600 - l2.toInt < (r : Int) → 0 ≤ l2.toInt ∧ l2.toInt ≤ 1600 → 0 ≤ g0.toInt ∧ g0.toInt ≤ 200 → 0 ≤ g1.toInt ∧ g1.toInt ≤ 370 → 0 ≤ g2.toInt ∧ g2.toInt ≤ 30 → 0 ≤ g3.toInt ∧ g3.toInt ≤ 100 → 0 ≤ g4.toInt ∧ g4.toInt ≤ 40 → 0 ≤ g5.toInt ∧ g5.toInt ≤ 40 → (0 ≤ a1.toInt ∧ a1.toInt ≤ 3) → (jIm h0 h a1 50660 ∧ jiv h 128 = jiv h0 128) → g1.toInt = g0.toInt + g2.toInt + g3.toInt + g4.toInt → g5.toInt ≤ g4.toInt → jiv h 126 (0 : Int32).toNatClampNeg = g0 → jiv h 126 (16 : Int32).toNatClampNeg = g1 → jiv h 126 (4 : Int32).toNatClampNeg = g2 → jiv h 126 (5 : Int32).toNatClampNeg = g3 → jiv h 126 (7 : Int32).toNatClampNeg = g4 → jiv h 126 (9 : Int32).toNatClampNeg = g5 → jJ jSgM Dy h → jSm fp_X12_image_r125p h0 h → jX m_X12_image 2 0 0 56 [(0, .ref 125), (1, .int a1), (2, .int l2)] [] h 0 0 Q := by
  intro r
  induction r with
  | zero =>
    intro l2 g0 g1 g2 g3 g4 g5 h hm y0 y1 y2 y3 y4 y5 y6 y7 C0 y9 y10 z0 z1 z2 z3 z4 z5  J Sm
    exfalso
    omega
  | succ r ih =>
    intro l2 g0 g1 g2 g3 g4 g5 h hm y0 y1 y2 y3 y4 y5 y6 y7 C0 y9 y10 z0 z1 z2 z3 z4 z5  J Sm
    refine x_iloadn (x := l2) rfl rfl ?_
    refine x_sipush (v := 1600) rfl ks_1600 ?_
    refine x_icge (tgt := 87) rfl rfl (ti_ge rfl jk_1600 ⟨fun c1 => ?_, fun c1 => ?_⟩)
    ·
      refine x_aloadn (x := 125) rfl rfl ?_
      refine z_getR (N := 92) (b := 128) 12 4 rfl f_12_18 rfl J rfl 16004 ⟨rfl, rfl⟩ rfl ?_
      refine x_iloadn (x := a1) rfl rfl ?_
      refine x_iconst (v := 1) rfl ki_1 ?_
      refine z_zast (N := 4) (l := 0) (u := 4) (w := 1) rfl hD J Sm rfl rfl rfl (by omega) jk_1 (by omega) (wr_128 (fun q1 q2 q3 q4 => by omega)) rfl (fun h w2 J Sm => ?_)
      refine x_aloadn (x := 125) rfl rfl ?_
      refine x_iconst (v := 0) rfl ki_0 ?_
      refine x_inv (N := m_X12_told) (As := [.int 0]) (b := 125) (st := []) (dx9 := 1) (mc := 0) (ms := 0) (host := "") 12 rfl t_X12_told ⟨Or.inl q_12_197, i_X12_told.1, i_X12_told.2⟩ ⟨by decide, rfl⟩ (congrArg Prod.fst (J.1.1 125 (12, 92) rfl)) rfl (by decide) rfl rfl ⟨by decide, by decide⟩ (jC.of rfl k_X12_told rfl ?_)
      show jX m_X12_told 1 0 0 0 [(0, .ref 125), (1, .int 0)] [] _ 0 0 _
      refine x_aloadn (x := 125) rfl rfl ?_
      refine x_iloadn (x := 0) rfl rfl ?_
      refine x_ifge (tgt := 9) rfl rfl (ti_ge jk_0 jk_0 (br_t (by omega) ?_))
      refine x_iconst (v := 0) rfl ki_0 ?_
      refine z_putI (N := 92) (w := 0) 12 1 rfl f_12_183 rfl (jfin_no TX12 RX12 92 rfl rfl) hD J Sm rfl rfl jk_0 (pw_125_1 (by omega)) rfl (fun h w3 J Sm => ?_)
      refine x_iloadn (x := 0) rfl rfl ?_
      refine x_iret rfl rfl ?_
      show jX m_X12_image 2 0 0 99 [(0, .ref 125), (1, .int a1), (2, .int l2)] [.int 0] _ 0 0 _
      refine x_iret rfl rfl ?_
      exact hQ _ _ (jr_of jk_0 (by omega)) J Sm _ _ _ _ _ (jmo w3 rfl (jmo w2 rfl z1)) (jmo w3 rfl (jmo w2 rfl z0)) (jmo w3 rfl (jmo w2 rfl z2)) (jmo w3 rfl (jmo w2 rfl z3)) (jmo w3 rfl (jmo w2 rfl z4)) (by omega) _ _ (jmo w3 rfl (jmo w2 rfl z5)) (jmo w3 rfl (jmo w2 rfl z4)) (by omega) (Or.inr ⟨by omega, jk_0, im_m C0.1 (ov_o w3 rfl (ov_o w2 rfl rfl)), (ov_o w3 rfl (ov_w w2 C0.2))⟩)
    ·
      refine x_aloadn (x := 125) rfl rfl ?_
      refine z_getR (N := 92) (b := 130) 12 6 rfl f_12_26 rfl J rfl 16006 ⟨rfl, rfl⟩ rfl ?_
      refine x_sipush (v := 1600) rfl ks_1600 ?_
      refine x_iloadn (x := a1) rfl rfl ?_
      refine z_imul rfl jk_1600 rfl (by omega) (fun v4 ev4 => ?_)
      refine x_iloadn (x := l2) rfl rfl ?_
      refine z_iadd rfl rfl rfl (by omega) (fun v5 ev5 => ?_)
      refine x_aloadn (x := 125) rfl rfl ?_
      refine z_getR (N := 92) (b := 129) 12 5 rfl f_12_22 rfl J rfl 16005 ⟨rfl, rfl⟩ rfl ?_
      refine x_iloadn (x := l2) rfl rfl ?_
      refine z_lald0 (N := 1600) rfl J rfl rfl (by omega) (fun v6 => ?_)
      have ev6 := jfullL v6
      refine z_last (N := 6400) (l := 0) (u := 6400) rfl hD J Sm rfl rfl rfl (by omega) rfl (fun h w7 J Sm => ?_)
      refine z_iinc (x := l2) (lsx9 := fun v8 => [(2, .int v8), (0, .ref 125), (1, .int a1)]) rfl rfl rfl jko_1 (by omega) rfl (fun _ => rfl) (fun v8 ev8 => ?_)
      refine x_goto (tgt := 56) rfl rfl ?_
      exact jX.sub (jsb_c rfl (jsb_c rfl (jsb_c rfl jsb_n))) (ih v8 g0 g1 g2 g3 g4 g5 h (by omega) (jr_of rfl (by omega)) (jr_of rfl (by omega)) (jr_of rfl (by omega)) (jr_of rfl (by omega)) (jr_of rfl (by omega)) (jr_of rfl (by omega)) (jr_of rfl (by omega)) (by omega) ⟨im_m C0.1 (ov_l w7 rfl), (ov_l w7 C0.2)⟩ (by omega) (by omega) (jml w7 z0) (jml w7 z1) (jml w7 z2) (jml w7 z3) (jml w7 z4) (jml w7 z5) J Sm)
set_option maxRecDepth 100000 in
set_option maxHeartbeats 4000000 in
theorem ct_X12_image_r125p_25 {Dy : jH → Prop} {h0 : jH} {Q : Option Value → jH → Prop} {a1 : Int32} (yy_a1 : (-2147483648) ≤ a1.toInt ∧ a1.toInt ≤ 2147483647) (hI : jDi Dy) (hD : jDk Dy) (hQ : ∀ (v : Int32) hx9, (-1) ≤ v.toInt ∧ v.toInt ≤ 0 → jJ jSgM Dy hx9 → jSm fp_X12_image_r125p h0 hx9 → ∀ u0 u1 u2 u3 u4 : Int32, jiv hx9 126 (16 : Int32).toNatClampNeg = u0 → jiv hx9 126 (0 : Int32).toNatClampNeg = u1 → jiv hx9 126 (4 : Int32).toNatClampNeg = u2 → jiv hx9 126 (5 : Int32).toNatClampNeg = u3 → jiv hx9 126 (7 : Int32).toNatClampNeg = u4 → u0.toInt = u1.toInt + u2.toInt + u3.toInt + u4.toInt → ∀ u5 u6 : Int32, jiv hx9 126 (9 : Int32).toNatClampNeg = u5 → jiv hx9 126 (7 : Int32).toNatClampNeg = u6 → u5.toInt ≤ u6.toInt → ((¬ (0 ≤ a1.toInt ∧ a1.toInt ≤ 3) ∧ v.toInt = -1 ∧ jiv hx9 127 = jiv h0 127 ∧ jiv hx9 128 = jiv h0 128) ∨ ((0 ≤ a1.toInt ∧ a1.toInt ≤ 3) ∧ v.toInt = 0 ∧ jIm h0 hx9 a1 50660 ∧ jiv hx9 128 = jov (jiv h0 128) a1.toNatClampNeg 1)) → Q (some (.int v)) hx9) : ∀ r : Nat, ∀ (l2 : Int32) (g0 : Int32) (g1 : Int32) (g2 : Int32) (g3 : Int32) (g4 : Int32) (g5 : Int32) (h : jH), 0 - l2.toInt < (r : Int) → 0 ≤ l2.toInt ∧ l2.toInt ≤ 0 → 0 ≤ g0.toInt ∧ g0.toInt ≤ 200 → 0 ≤ g1.toInt ∧ g1.toInt ≤ 370 → 0 ≤ g2.toInt ∧ g2.toInt ≤ 30 → 0 ≤ g3.toInt ∧ g3.toInt ≤ 100 → 0 ≤ g4.toInt ∧ g4.toInt ≤ 40 → 0 ≤ g5.toInt ∧ g5.toInt ≤ 40 → (0 ≤ a1.toInt ∧ a1.toInt ≤ 3) → h = jsi h0 125 0 0 → g1.toInt = g0.toInt + g2.toInt + g3.toInt + g4.toInt → g5.toInt ≤ g4.toInt → jiv h 126 (0 : Int32).toNatClampNeg = g0 → jiv h 126 (16 : Int32).toNatClampNeg = g1 → jiv h 126 (4 : Int32).toNatClampNeg = g2 → jiv h 126 (5 : Int32).toNatClampNeg = g3 → jiv h 126 (7 : Int32).toNatClampNeg = g4 → jiv h 126 (9 : Int32).toNatClampNeg = g5 → jJ jSgM Dy h → jSm fp_X12_image_r125p h0 h → jX m_X12_image 2 0 0 25 [(0, .ref 125), (1, .int a1), (2, .int l2)] [] h 0 0 Q := by
  intro r
  induction r with
  | zero =>
    intro l2 g0 g1 g2 g3 g4 g5 h hm y0 y1 y2 y3 y4 y5 y6 y7 C0 y9 y10 z0 z1 z2 z3 z4 z5  J Sm
    exfalso
    omega
  | succ r ih =>
    intro l2 g0 g1 g2 g3 g4 g5 h hm y0 y1 y2 y3 y4 y5 y6 y7 C0 y9 y10 z0 z1 z2 z3 z4 z5  J Sm
    refine jX.sub (jsb_c rfl (jsb_c rfl (jsb_c rfl jsb_n))) (im_loopP hI ⟨(by rw [z1, z0, z2, z3, z4]; omega), (by rw [z5, z4]; omega)⟩  J Sm rfl (by omega) (by omega) (fun v2 h J Sm S1 T4 => ?_))
    have ev2 := jfull v2
    refine x_iconst (v := 0) rfl ki_0 ?_
    refine x_istoren (lsx9 := [(2, .int 0), (0, .ref 125), (1, .int a1)]) rfl rfl rfl ?_
    exact jX.sub (jsb_c rfl (jsb_c rfl (jsb_c rfl jsb_n))) (ct_X12_image_r125p_56 yy_a1 hI hD hQ  1601 0 g0 g1 g2 g3 g4 g5 h (by have := jk_0; omega) (jr_of jk_0 (by omega)) (jr_of rfl (by omega)) (jr_of rfl (by omega)) (jr_of rfl (by omega)) (jr_of rfl (by omega)) (jr_of rfl (by omega)) (jr_of rfl (by omega)) (by omega) ⟨im_m (im_e T4 C0 rfl rfl) rfl, (ov_c S1 rfl (ov_e1 C0 rfl))⟩ (by omega) (by omega) (jmc S1 rfl z0) (jmc S1 rfl z1) (jmc S1 rfl z2) (jmc S1 rfl z3) (jmc S1 rfl z4) (jmc S1 rfl z5) J Sm)
set_option maxRecDepth 100000 in
set_option maxHeartbeats 4000000 in
theorem sf_X12_image_r125p {Dy : jH → Prop} {h : jH} {Q : Option Value → jH → Prop} {a1 : Int32} (hI : jDi Dy) (hD : jDk Dy) (J : jJ jSgM Dy h) {p0 p1 p2 p3 p4 : Int32} {p5 p6 : Int32} (zp0 : jiv h 126 (16 : Int32).toNatClampNeg = p0) (zp1 : jiv h 126 (0 : Int32).toNatClampNeg = p1) (zp2 : jiv h 126 (4 : Int32).toNatClampNeg = p2) (zp3 : jiv h 126 (5 : Int32).toNatClampNeg = p3) (zp4 : jiv h 126 (7 : Int32).toNatClampNeg = p4) (rl_p0 : p0.toInt = p1.toInt + p2.toInt + p3.toInt + p4.toInt) (zp5 : jiv h 126 (9 : Int32).toNatClampNeg = p5) (zp6 : jiv h 126 (7 : Int32).toNatClampNeg = p6) (rl_p5 : p5.toInt ≤ p6.toInt) (hQ : ∀ (v : Int32) hx9, (-1) ≤ v.toInt ∧ v.toInt ≤ 0 → jJ jSgM Dy hx9 → jSm fp_X12_image_r125p h hx9 → ∀ u0 u1 u2 u3 u4 : Int32, jiv hx9 126 (16 : Int32).toNatClampNeg = u0 → jiv hx9 126 (0 : Int32).toNatClampNeg = u1 → jiv hx9 126 (4 : Int32).toNatClampNeg = u2 → jiv hx9 126 (5 : Int32).toNatClampNeg = u3 → jiv hx9 126 (7 : Int32).toNatClampNeg = u4 → u0.toInt = u1.toInt + u2.toInt + u3.toInt + u4.toInt → ∀ u5 u6 : Int32, jiv hx9 126 (9 : Int32).toNatClampNeg = u5 → jiv hx9 126 (7 : Int32).toNatClampNeg = u6 → u5.toInt ≤ u6.toInt → ((¬ (0 ≤ a1.toInt ∧ a1.toInt ≤ 3) ∧ v.toInt = -1 ∧ jiv hx9 127 = jiv h 127 ∧ jiv hx9 128 = jiv h 128) ∨ ((0 ≤ a1.toInt ∧ a1.toInt ≤ 3) ∧ v.toInt = 0 ∧ jIm h hx9 a1 50660 ∧ jiv hx9 128 = jov (jiv h 128) a1.toNatClampNeg 1)) → Q (some (.int v)) hx9) : jC m_X12_image 2 0 0 [.ref 125, .int a1] h Q := by
  refine jC.of rfl k_X12_image rfl ?_
  have Sm := jSm_rf fp_X12_image_r125p h
  have ep0 := (show 0 ≤ p0.toInt ∧ p0.toInt ≤ 370 from zp0 ▸ jrg_c J sg_126_16_17_1_0_1 jk_16 (by omega))
  have ep1 := (show 0 ≤ p1.toInt ∧ p1.toInt ≤ 200 from zp1 ▸ jrg_c J sg_126_0_1_1_0_1 jk_0 (by omega))
  have ep2 := (show 0 ≤ p2.toInt ∧ p2.toInt ≤ 30 from zp2 ▸ jrg_c J sg_126_4_5_1_0_1 jk_4 (by omega))
  have ep3 := (show 0 ≤ p3.toInt ∧ p3.toInt ≤ 100 from zp3 ▸ jrg_c J sg_126_5_6_1_0_1 jk_5 (by omega))
  have ep4 := (show 0 ≤ p4.toInt ∧ p4.toInt ≤ 40 from zp4 ▸ jrg_c J sg_126_7_8_1_0_1 jk_7 (by omega))
  have ep5 := (show 0 ≤ p5.toInt ∧ p5.toInt ≤ 40 from zp5 ▸ jrg_c J sg_126_9_10_1_0_1 jk_9 (by omega))
  have ep6 := (show 0 ≤ p6.toInt ∧ p6.toInt ≤ 40 from zp6 ▸ jrg_c J sg_126_7_8_1_0_1 jk_7 (by omega))
  obtain rfl : p4 = p6 := zp4.symm.trans zp6
  skip
  have yy_a1 := jfull a1
  have ea1 := jfull a1
  show jX m_X12_image 2 0 0 0 [(0, .ref 125), (1, .int a1)] [] _ 0 0 _
  refine x_aloadn (x := 125) rfl rfl ?_
  refine x_iconst (v := 0) rfl ki_0 ?_
  refine z_putI (N := 92) (w := 0) 12 0 rfl f_12_180 rfl (jfin_no TX12 RX12 92 rfl rfl) hD J Sm rfl rfl jk_0 (pw_125_0 (by omega)) rfl (fun h w1 J Sm => ?_)
  refine x_iloadn (x := a1) rfl rfl ?_
  refine z_i2l rfl rfl (fun v2 ev2 => ?_)
  refine x_lconst (v := 0) rfl kl_0 ?_
  refine x_ldc2 (v := 3) rfl z_12_195 ?_
  refine x_inst (N := m_X12_in) (As := [.long v2, .long 0, .long 3]) (st := []) (dx9 := 1) (mc := 0) (ms := 0) (host := "") rfl t_X12_in ⟨Or.inl q_12_188, s_X12_in⟩ rfl (by decide) rfl rfl ⟨by decide, by decide⟩ (zc_X12_in rfl jkl_0 jkl_3 (fun v3 ev3 => ?_))
  show jX m_X12_image 2 0 0 14 [(0, .ref 125), (1, .int a1)] [.int v3] _ 0 0 _
  refine x_ifne (tgt := 23) rfl rfl (ti_ne rfl jk_0 ⟨fun c4 => ?_, fun c4 => ?_⟩)
  ·
    refine x_iconst (v := 0) rfl ki_0 ?_
    refine x_istoren (lsx9 := [(2, .int 0), (0, .ref 125), (1, .int a1)]) rfl rfl rfl ?_
    exact jX.sub (jsb_c rfl (jsb_c rfl (jsb_c rfl jsb_n))) (ct_X12_image_r125p_25 yy_a1 hI hD hQ  1 0 p1 p0 p2 p3 p4 p5 h (by have := jk_0; omega) (jr_of jk_0 (by omega)) (jr_of rfl (by omega)) (jr_of rfl (by omega)) (jr_of rfl (by omega)) (jr_of rfl (by omega)) (jr_of rfl (by omega)) (jr_of rfl (by omega)) (by omega) w1 (by omega) (by omega) (jmo w1 rfl zp1) (jmo w1 rfl zp0) (jmo w1 rfl zp2) (jmo w1 rfl zp3) (jmo w1 rfl zp4) (jmo w1 rfl zp5) J Sm)
  ·
    refine x_aloadn (x := 125) rfl rfl ?_
    refine x_iconst (v := (-1)) rfl ki_m1 ?_
    refine x_inv (N := m_X12_told) (As := [.int (-1)]) (b := 125) (st := []) (dx9 := 1) (mc := 0) (ms := 0) (host := "") 12 rfl t_X12_told ⟨Or.inl q_12_197, i_X12_told.1, i_X12_told.2⟩ ⟨by decide, rfl⟩ (congrArg Prod.fst (J.1.1 125 (12, 92) rfl)) rfl (by decide) rfl rfl ⟨by decide, by decide⟩ (jC.of rfl k_X12_told rfl ?_)
    show jX m_X12_told 1 0 0 0 [(0, .ref 125), (1, .int (-1))] [] _ 0 0 _
    refine x_aloadn (x := 125) rfl rfl ?_
    refine x_iloadn (x := (-1)) rfl rfl ?_
    refine x_ifge (tgt := 9) rfl rfl (ti_ge jk_m1 jk_0 (br_f (by omega) ?_))
    refine x_iloadn (x := (-1)) rfl rfl ?_
    refine x_goto (tgt := 10) rfl rfl ?_
    refine z_putI (N := 92) (w := (-1)) 12 1 rfl f_12_183 rfl (jfin_no TX12 RX12 92 rfl rfl) hD J Sm rfl rfl jk_m1 (pw_125_1 (by omega)) rfl (fun h w5 J Sm => ?_)
    refine x_iloadn (x := (-1)) rfl rfl ?_
    refine x_iret rfl rfl ?_
    show jX m_X12_image 2 0 0 22 [(0, .ref 125), (1, .int a1)] [.int (-1)] _ 0 0 _
    refine x_iret rfl rfl ?_
    exact hQ _ _ (jr_of jk_m1 (by omega)) J Sm _ _ _ _ _ (jmo w5 rfl (jmo w1 rfl zp0)) (jmo w5 rfl (jmo w1 rfl zp1)) (jmo w5 rfl (jmo w1 rfl zp2)) (jmo w5 rfl (jmo w1 rfl zp3)) (jmo w5 rfl (jmo w1 rfl zp4)) (by omega) _ _ (jmo w5 rfl (jmo w1 rfl zp5)) (jmo w5 rfl (jmo w1 rfl zp4)) (by omega) (Or.inl ⟨by omega, jk_m1, (ov_o w5 rfl (ov_o w1 rfl rfl)), (ov_o w5 rfl (ov_o w1 rfl rfl))⟩)
def fp_X12_levy_r125p : jFp := [(125, 0, 1), (125, 1, 2), (126, 11, 12), (126, 48300, 48460)]
set_option maxRecDepth 100000 in
set_option maxHeartbeats 4000000 in
theorem ct_X12_levy_r125p_44 {Dy : jH → Prop} {h0 : jH} {Q : Option Value → jH → Prop} {a1 : Int32} (yy_a1 : (-2147483648) ≤ a1.toInt ∧ a1.toInt ≤ 2147483647) {a2 : Int32} (yy_a2 : (-2147483648) ≤ a2.toInt ∧ a2.toInt ≤ 2147483647) {a3 : Int32} (yy_a3 : (-2147483648) ≤ a3.toInt ∧ a3.toInt ≤ 2147483647) {a4 : Int32} (yy_a4 : (-2147483648) ≤ a4.toInt ∧ a4.toInt ≤ 2147483647) (hD : jDk Dy) (hQ : ∀ (v : Int32) hx9, (-5) ≤ v.toInt ∧ v.toInt ≤ 39 → jJ jSgM Dy hx9 → jSm fp_X12_levy_r125p h0 hx9 → ((¬ (0 ≤ a1.toInt ∧ a1.toInt ≤ 2 ∧ 0 ≤ a2.toInt ∧ a2.toInt ≤ 399 ∧ 0 ≤ a3.toInt ∧ a3.toInt ≤ 1000000 ∧ 0 ≤ a4.toInt ∧ a4.toInt ≤ 146399) ∧ v.toInt = -1 ∧ jiv hx9 126 = jiv h0 126) ∨ ((0 ≤ a1.toInt ∧ a1.toInt ≤ 2 ∧ 0 ≤ a2.toInt ∧ a2.toInt ≤ 399 ∧ 0 ≤ a3.toInt ∧ a3.toInt ≤ 1000000 ∧ 0 ≤ a4.toInt ∧ a4.toInt ≤ 146399) ∧ (jiv h0 126 11).toInt = 40 ∧ v.toInt = -5 ∧ jiv hx9 126 = jiv h0 126) ∨ ((0 ≤ a1.toInt ∧ a1.toInt ≤ 2 ∧ 0 ≤ a2.toInt ∧ a2.toInt ≤ 399 ∧ 0 ≤ a3.toInt ∧ a3.toInt ≤ 1000000 ∧ 0 ≤ a4.toInt ∧ a4.toInt ≤ 146399) ∧ (jiv h0 126 11).toInt < 40 ∧ v.toInt = (jiv h0 126 11).toInt + 0 ∧ jMw 11 48300 4 [a1, a2, a3, a4] h0 hx9)) → Q (some (.int v)) hx9) : ∀ (h : jH), (h = jsi h0 125 0 0 ∧ ¬ (0 ≤ a1.toInt ∧ a1.toInt ≤ 2 ∧ 0 ≤ a2.toInt ∧ a2.toInt ≤ 399 ∧ 0 ≤ a3.toInt ∧ a3.toInt ≤ 1000000 ∧ 0 ≤ a4.toInt ∧ a4.toInt ≤ 146399)) → jJ jSgM Dy h → jSm fp_X12_levy_r125p h0 h → jX m_X12_levy 3 0 0 44 [(0, .ref 125)] [] h 0 0 Q := by
  intro  h C0   J Sm
  refine x_aloadn (x := 125) rfl rfl ?_
  refine x_iconst (v := (-1)) rfl ki_m1 ?_
  refine x_inv (N := m_X12_told) (As := [.int (-1)]) (b := 125) (st := []) (dx9 := 2) (mc := 0) (ms := 0) (host := "") 12 rfl t_X12_told ⟨Or.inl q_12_197, i_X12_told.1, i_X12_told.2⟩ ⟨by decide, rfl⟩ (congrArg Prod.fst (J.1.1 125 (12, 92) rfl)) rfl (by decide) rfl rfl ⟨by decide, by decide⟩ (jC.of rfl k_X12_told rfl ?_)
  show jX m_X12_told 2 0 0 0 [(0, .ref 125), (1, .int (-1))] [] _ 0 0 _
  refine x_aloadn (x := 125) rfl rfl ?_
  refine x_iloadn (x := (-1)) rfl rfl ?_
  refine x_ifge (tgt := 9) rfl rfl (ti_ge jk_m1 jk_0 (br_f (by omega) ?_))
  refine x_iloadn (x := (-1)) rfl rfl ?_
  refine x_goto (tgt := 10) rfl rfl ?_
  refine z_putI (N := 92) (w := (-1)) 12 1 rfl f_12_183 rfl (jfin_no TX12 RX12 92 rfl rfl) hD J Sm rfl rfl jk_m1 (pw_125_1 (by omega)) rfl (fun h w1 J Sm => ?_)
  refine x_iloadn (x := (-1)) rfl rfl ?_
  refine x_iret rfl rfl ?_
  show jX m_X12_levy 3 0 0 49 [(0, .ref 125)] [.int (-1)] _ 0 0 _
  refine x_iret rfl rfl ?_
  exact hQ _ _ (jr_of jk_m1 (by omega)) J Sm (Or.inl ⟨C0.2, jk_m1, (ov_o w1 rfl (ov_e1 C0.1 rfl))⟩)
set_option maxRecDepth 100000 in
set_option maxHeartbeats 4000000 in
theorem sf_X12_levy_r125p {Dy : jH → Prop} {h : jH} {Q : Option Value → jH → Prop} {a1 : Int32} {a2 : Int32} {a3 : Int32} {a4 : Int32} (hD : jDk Dy) (J : jJ jSgM Dy h) (hQ : ∀ (v : Int32) hx9, (-5) ≤ v.toInt ∧ v.toInt ≤ 39 → jJ jSgM Dy hx9 → jSm fp_X12_levy_r125p h hx9 → ((¬ (0 ≤ a1.toInt ∧ a1.toInt ≤ 2 ∧ 0 ≤ a2.toInt ∧ a2.toInt ≤ 399 ∧ 0 ≤ a3.toInt ∧ a3.toInt ≤ 1000000 ∧ 0 ≤ a4.toInt ∧ a4.toInt ≤ 146399) ∧ v.toInt = -1 ∧ jiv hx9 126 = jiv h 126) ∨ ((0 ≤ a1.toInt ∧ a1.toInt ≤ 2 ∧ 0 ≤ a2.toInt ∧ a2.toInt ≤ 399 ∧ 0 ≤ a3.toInt ∧ a3.toInt ≤ 1000000 ∧ 0 ≤ a4.toInt ∧ a4.toInt ≤ 146399) ∧ (jiv h 126 11).toInt = 40 ∧ v.toInt = -5 ∧ jiv hx9 126 = jiv h 126) ∨ ((0 ≤ a1.toInt ∧ a1.toInt ≤ 2 ∧ 0 ≤ a2.toInt ∧ a2.toInt ≤ 399 ∧ 0 ≤ a3.toInt ∧ a3.toInt ≤ 1000000 ∧ 0 ≤ a4.toInt ∧ a4.toInt ≤ 146399) ∧ (jiv h 126 11).toInt < 40 ∧ v.toInt = (jiv h 126 11).toInt + 0 ∧ jMw 11 48300 4 [a1, a2, a3, a4] h hx9)) → Q (some (.int v)) hx9) : jC m_X12_levy 3 0 0 [.ref 125, .int a1, .int a2, .int a3, .int a4] h Q := by
  refine jC.of rfl k_X12_levy rfl ?_
  have Sm := jSm_rf fp_X12_levy_r125p h
  have yy_a1 := jfull a1
  have yy_a2 := jfull a2
  have yy_a3 := jfull a3
  have yy_a4 := jfull a4
  have ea1 := jfull a1
  have ea2 := jfull a2
  have ea3 := jfull a3
  have ea4 := jfull a4
  show jX m_X12_levy 3 0 0 0 [(0, .ref 125), (1, .int a1), (2, .int a2), (3, .int a3), (4, .int a4)] [] _ 0 0 _
  obtain ⟨u1, qu1⟩ : ∃ v : Int32, jiv h 126 (11 : Int32).toNatClampNeg = v := ⟨_, rfl⟩
  have eu1 := (show 0 ≤ u1.toInt ∧ u1.toInt ≤ 40 from qu1 ▸ jrg_c J sg_126_11_12_1_0_1 jk_11 (by omega))
  have ou1 := ov_n (n := 11) (by decide) qu1
  refine x_aloadn (x := 125) rfl rfl ?_
  refine x_iconst (v := 0) rfl ki_0 ?_
  refine z_putI (N := 92) (w := 0) 12 0 rfl f_12_180 rfl (jfin_no TX12 RX12 92 rfl rfl) hD J Sm rfl rfl jk_0 (pw_125_0 (by omega)) rfl (fun h w2 J Sm => ?_)
  refine x_iloadn (x := a1) rfl rfl ?_
  refine z_i2l rfl rfl (fun v3 ev3 => ?_)
  refine x_lconst (v := 0) rfl kl_0 ?_
  refine x_ldc2 (v := 2) rfl z_12_482 ?_
  refine x_inst (N := m_X12_in) (As := [.long v3, .long 0, .long 2]) (st := []) (dx9 := 1) (mc := 0) (ms := 0) (host := "") rfl t_X12_in ⟨Or.inl q_12_188, s_X12_in⟩ rfl (by decide) rfl rfl ⟨by decide, by decide⟩ (zc_X12_in rfl jkl_0 jkl_2 (fun v4 ev4 => ?_))
  show jX m_X12_levy 3 0 0 14 [(0, .ref 125), (1, .int a1), (2, .int a2), (3, .int a3), (4, .int a4)] [.int v4] _ 0 0 _
  refine x_ifeq (tgt := 44) rfl rfl (ti_eq rfl jk_0 ⟨fun c5 => ?_, fun c5 => ?_⟩)
  ·
    exact jX.sub (jsb_c rfl jsb_n) (ct_X12_levy_r125p_44 yy_a1 yy_a2 yy_a3 yy_a4 hD hQ  h ⟨w2, by omega⟩ J Sm)
  ·
    refine x_iloadn (x := a2) rfl rfl ?_
    refine x_inst (N := m_X12_isYear) (As := [.int a2]) (st := []) (dx9 := 2) (mc := 0) (ms := 0) (host := "") rfl t_X12_isYear ⟨Or.inl q_12_817, s_X12_isYear⟩ rfl (by decide) rfl rfl ⟨by decide, by decide⟩ (zc_X12_isYear (d := 1) rfl (fun v6 ev6 => ?_))
    show jX m_X12_levy 3 0 0 21 [(0, .ref 125), (1, .int a1), (2, .int a2), (3, .int a3), (4, .int a4)] [.int v6] _ 0 0 _
    refine x_ifeq (tgt := 44) rfl rfl (ti_eq rfl jk_0 ⟨fun c7 => ?_, fun c7 => ?_⟩)
    ·
      exact jX.sub (jsb_c rfl jsb_n) (ct_X12_levy_r125p_44 yy_a1 yy_a2 yy_a3 yy_a4 hD hQ  h ⟨w2, by omega⟩ J Sm)
    ·
      refine x_iloadn (x := a3) rfl rfl ?_
      refine z_i2l rfl rfl (fun v8 ev8 => ?_)
      refine x_lconst (v := 0) rfl kl_0 ?_
      refine x_ldc2 (v := 1000000) rfl z_12_244 ?_
      refine x_inst (N := m_X12_in) (As := [.long v8, .long 0, .long 1000000]) (st := []) (dx9 := 1) (mc := 0) (ms := 0) (host := "") rfl t_X12_in ⟨Or.inl q_12_188, s_X12_in⟩ rfl (by decide) rfl rfl ⟨by decide, by decide⟩ (zc_X12_in rfl jkl_0 jkl_1000000 (fun v9 ev9 => ?_))
      show jX m_X12_levy 3 0 0 33 [(0, .ref 125), (1, .int a1), (2, .int a2), (3, .int a3), (4, .int a4)] [.int v9] _ 0 0 _
      refine x_ifeq (tgt := 44) rfl rfl (ti_eq rfl jk_0 ⟨fun c10 => ?_, fun c10 => ?_⟩)
      ·
        exact jX.sub (jsb_c rfl jsb_n) (ct_X12_levy_r125p_44 yy_a1 yy_a2 yy_a3 yy_a4 hD hQ  h ⟨w2, by omega⟩ J Sm)
      ·
        refine x_iload (x := a4) rfl rfl ?_
        refine x_inst (N := m_X12_isDay) (As := [.int a4]) (st := []) (dx9 := 2) (mc := 0) (ms := 0) (host := "") rfl t_X12_isDay ⟨Or.inl q_12_273, s_X12_isDay⟩ rfl (by decide) rfl rfl ⟨by decide, by decide⟩ (zc_X12_isDay (d := 1) rfl (fun v11 ev11 => ?_))
        show jX m_X12_levy 3 0 0 41 [(0, .ref 125), (1, .int a1), (2, .int a2), (3, .int a3), (4, .int a4)] [.int v11] _ 0 0 _
        refine x_ifne (tgt := 50) rfl rfl (ti_ne rfl jk_0 ⟨fun c12 => ?_, fun c12 => ?_⟩)
        ·
          refine x_aloadn (x := 125) rfl rfl ?_
          refine z_getR (N := 92) (b := 126) 12 2 rfl f_12_8 rfl J rfl 16002 ⟨rfl, rfl⟩ rfl ?_
          refine x_bipush (v := 11) rfl kb_11 ?_
          refine z_ialdM (N := 50660) (v := u1) rfl J rfl jk_11 (by omega) (jmo w2 rfl qu1) ?_
          refine x_bipush (v := 40) rfl kb_40 ?_
          refine x_icne (tgt := 69) rfl rfl (ti_ne rfl jk_40 ⟨fun c13 => ?_, fun c13 => ?_⟩)
          ·
            refine x_aloadn (x := 125) rfl rfl ?_
            refine x_ldcw (v := 48300) rfl z_12_820 ?_
            refine x_iconst (v := 4) rfl ki_4 ?_
            refine x_aloadn (x := 125) rfl rfl ?_
            refine z_getR (N := 92) (b := 126) 12 2 rfl f_12_8 rfl J rfl 16002 ⟨rfl, rfl⟩ rfl ?_
            refine x_bipush (v := 11) rfl kb_11 ?_
            refine z_ialdM (N := 50660) (v := u1) rfl J rfl jk_11 (by omega) (jmo w2 rfl qu1) ?_
            refine z_imul rfl jk_4 rfl (by omega) (fun v14 ev14 => ?_)
            refine z_iadd rfl jk_48300 rfl (by omega) (fun v15 ev15 => ?_)
            refine x_iloadn (x := a1) rfl rfl ?_
            refine x_iloadn (x := a2) rfl rfl ?_
            refine x_iloadn (x := a3) rfl rfl ?_
            refine x_iload (x := a4) rfl rfl ?_
            refine x_inv (N := m_X12_addFour) (As := [.int v15, .int a1, .int a2, .int a3, .int a4]) (b := 125) (st := []) (dx9 := 2) (mc := 0) (ms := 0) (host := "") 12 rfl t_X12_addFour ⟨Or.inl q_12_814, i_X12_addFour.1, i_X12_addFour.2⟩ ⟨by decide, rfl⟩ (congrArg Prod.fst (J.1.1 125 (12, 92) rfl)) rfl (by decide) rfl rfl ⟨by decide, by decide⟩ (jC.of rfl k_X12_addFour rfl ?_)
            show jX m_X12_addFour 2 0 0 0 [(0, .ref 125), (1, .int v15), (2, .int a1), (3, .int a2), (4, .int a3), (5, .int a4)] [] _ 0 0 _
            refine x_aloadn (x := 125) rfl rfl ?_
            refine z_getR (N := 92) (b := 126) 12 2 rfl f_12_8 rfl J rfl 16002 ⟨rfl, rfl⟩ rfl ?_
            refine x_iloadn (x := v15) rfl rfl ?_
            refine x_iloadn (x := a1) rfl rfl ?_
            refine z_iast (N := 50660) (l := 48300) (u := 48460) (w := a1.toInt) rfl hD J Sm rfl rfl rfl (by omega) rfl (wr_126_48300 (by omega) (fun q1 q2 q3 q4 => by omega) (fun q1 q2 q3 q4 => by omega) (fun q1 q2 q3 q4 => by omega) (fun q1 q2 q3 q4 => by omega)) rfl (fun h w16 J Sm => ?_)
            refine x_aloadn (x := 125) rfl rfl ?_
            refine z_getR (N := 92) (b := 126) 12 2 rfl f_12_8 rfl J rfl 16002 ⟨rfl, rfl⟩ rfl ?_
            refine x_iloadn (x := v15) rfl rfl ?_
            refine x_iconst (v := 1) rfl ki_1 ?_
            refine z_iadd rfl rfl jk_1 (by omega) (fun v17 ev17 => ?_)
            refine x_iloadn (x := a2) rfl rfl ?_
            refine z_iast (N := 50660) (l := 48300) (u := 48460) (w := a2.toInt) rfl hD J Sm rfl rfl rfl (by omega) rfl (wr_126_48300 (by omega) (fun q1 q2 q3 q4 => by omega) (fun q1 q2 q3 q4 => by omega) (fun q1 q2 q3 q4 => by omega) (fun q1 q2 q3 q4 => by omega)) rfl (fun h w18 J Sm => ?_)
            refine x_aloadn (x := 125) rfl rfl ?_
            refine z_getR (N := 92) (b := 126) 12 2 rfl f_12_8 rfl J rfl 16002 ⟨rfl, rfl⟩ rfl ?_
            refine x_iloadn (x := v15) rfl rfl ?_
            refine x_iconst (v := 2) rfl ki_2 ?_
            refine z_iadd rfl rfl jk_2 (by omega) (fun v19 ev19 => ?_)
            refine x_iload (x := a3) rfl rfl ?_
            refine z_iast (N := 50660) (l := 48300) (u := 48460) (w := a3.toInt) rfl hD J Sm rfl rfl rfl (by omega) rfl (wr_126_48300 (by omega) (fun q1 q2 q3 q4 => by omega) (fun q1 q2 q3 q4 => by omega) (fun q1 q2 q3 q4 => by omega) (fun q1 q2 q3 q4 => by omega)) rfl (fun h w20 J Sm => ?_)
            refine x_aloadn (x := 125) rfl rfl ?_
            refine z_getR (N := 92) (b := 126) 12 2 rfl f_12_8 rfl J rfl 16002 ⟨rfl, rfl⟩ rfl ?_
            refine x_iloadn (x := v15) rfl rfl ?_
            refine x_iconst (v := 3) rfl ki_3 ?_
            refine z_iadd rfl rfl jk_3 (by omega) (fun v21 ev21 => ?_)
            refine x_iload (x := a4) rfl rfl ?_
            refine z_iast (N := 50660) (l := 48300) (u := 48460) (w := a4.toInt) rfl hD J Sm rfl rfl rfl (by omega) rfl (wr_126_48300 (by omega) (fun q1 q2 q3 q4 => by omega) (fun q1 q2 q3 q4 => by omega) (fun q1 q2 q3 q4 => by omega) (fun q1 q2 q3 q4 => by omega)) rfl (fun h w22 J Sm => ?_)
            refine x_vret rfl rfl ?_
            show jX m_X12_levy 3 0 0 91 [(0, .ref 125), (1, .int a1), (2, .int a2), (3, .int a3), (4, .int a4)] [] _ 0 0 _
            refine x_aloadn (x := 125) rfl rfl ?_
            refine z_getR (N := 92) (b := 126) 12 2 rfl f_12_8 rfl J rfl 16002 ⟨rfl, rfl⟩ rfl ?_
            refine x_bipush (v := 11) rfl kb_11 ?_
            refine x_dup2 rfl rfl rfl ?_
            refine z_ialdM (N := 50660) (v := u1) rfl J rfl jk_11 (by omega) (jmo2 w22 rfl jk_11 (by omega) (jmo2 w20 rfl jk_11 (by omega) (jmo2 w18 rfl jk_11 (by omega) (jmo2 w16 rfl jk_11 (by omega) (jmo w2 rfl qu1))))) ?_
            refine x_iconst (v := 1) rfl ki_1 ?_
            refine z_iadd rfl rfl jk_1 (by omega) (fun v23 ev23 => ?_)
            refine z_iast (N := 50660) (l := 11) (u := 12) (w := v23.toInt) rfl hD J Sm rfl rfl jk_11 (by omega) rfl (wr_126_11 (by omega) (fun q1 q2 q3 q4 => by omega)) rfl (fun h w24 J Sm => ?_)
            refine x_aloadn (x := 125) rfl rfl ?_
            refine x_aloadn (x := 125) rfl rfl ?_
            refine z_getR (N := 92) (b := 126) 12 2 rfl f_12_8 rfl J rfl 16002 ⟨rfl, rfl⟩ rfl ?_
            refine x_bipush (v := 11) rfl kb_11 ?_
            refine z_ialdM (N := 50660) (v := v23) rfl J rfl jk_11 (by omega) (jmw w24) ?_
            refine x_iconst (v := 1) rfl ki_1 ?_
            refine z_isub rfl rfl jk_1 (by omega) (fun v25 ev25 => ?_)
            refine x_inv (N := m_X12_told) (As := [.int v25]) (b := 125) (st := []) (dx9 := 2) (mc := 0) (ms := 0) (host := "") 12 rfl t_X12_told ⟨Or.inl q_12_197, i_X12_told.1, i_X12_told.2⟩ ⟨by decide, rfl⟩ (congrArg Prod.fst (J.1.1 125 (12, 92) rfl)) rfl (by decide) rfl rfl ⟨by decide, by decide⟩ (jC.of rfl k_X12_told rfl ?_)
            show jX m_X12_told 2 0 0 0 [(0, .ref 125), (1, .int v25)] [] _ 0 0 _
            refine x_aloadn (x := 125) rfl rfl ?_
            refine x_iloadn (x := v25) rfl rfl ?_
            refine x_ifge (tgt := 9) rfl rfl (ti_ge rfl jk_0 (br_t (by omega) ?_))
            refine x_iconst (v := 0) rfl ki_0 ?_
            refine z_putI (N := 92) (w := 0) 12 1 rfl f_12_183 rfl (jfin_no TX12 RX12 92 rfl rfl) hD J Sm rfl rfl jk_0 (pw_125_1 (by omega)) rfl (fun h w26 J Sm => ?_)
            refine x_iloadn (x := v25) rfl rfl ?_
            refine x_iret rfl rfl ?_
            show jX m_X12_levy 3 0 0 115 [(0, .ref 125), (1, .int a1), (2, .int a2), (3, .int a3), (4, .int a4)] [.int v25] _ 0 0 _
            refine x_iret rfl rfl ?_
            exact hQ _ _ (jr_of rfl (by omega)) J Sm (Or.inr (Or.inr ⟨(by omega), (by omega), (by omega), (mw_4 ou1 (by omega) (by omega) (ov_o w26 rfl (ov_w w24 (ov_w w22 (ov_w w20 (ov_w w18 (ov_w w16 (ov_o w2 rfl rfl))))))) (by decide) (jix (by omega) (by omega)) (jix (by omega) (by omega)) (jix (by omega) (by omega)) (jix (by omega) (by omega)))⟩))
          ·
            refine x_aloadn (x := 125) rfl rfl ?_
            refine x_bipush (v := (-5)) rfl kb_m5 ?_
            refine x_inv (N := m_X12_told) (As := [.int (-5)]) (b := 125) (st := []) (dx9 := 2) (mc := 0) (ms := 0) (host := "") 12 rfl t_X12_told ⟨Or.inl q_12_197, i_X12_told.1, i_X12_told.2⟩ ⟨by decide, rfl⟩ (congrArg Prod.fst (J.1.1 125 (12, 92) rfl)) rfl (by decide) rfl rfl ⟨by decide, by decide⟩ (jC.of rfl k_X12_told rfl ?_)
            show jX m_X12_told 2 0 0 0 [(0, .ref 125), (1, .int (-5))] [] _ 0 0 _
            refine x_aloadn (x := 125) rfl rfl ?_
            refine x_iloadn (x := (-5)) rfl rfl ?_
            refine x_ifge (tgt := 9) rfl rfl (ti_ge jk_m5 jk_0 (br_f (by omega) ?_))
            refine x_iloadn (x := (-5)) rfl rfl ?_
            refine x_goto (tgt := 10) rfl rfl ?_
            refine z_putI (N := 92) (w := (-5)) 12 1 rfl f_12_183 rfl (jfin_no TX12 RX12 92 rfl rfl) hD J Sm rfl rfl jk_m5 (pw_125_1 (by omega)) rfl (fun h w27 J Sm => ?_)
            refine x_iloadn (x := (-5)) rfl rfl ?_
            refine x_iret rfl rfl ?_
            show jX m_X12_levy 3 0 0 68 [(0, .ref 125), (1, .int a1), (2, .int a2), (3, .int a3), (4, .int a4)] [.int (-5)] _ 0 0 _
            refine x_iret rfl rfl ?_
            exact hQ _ _ (jr_of jk_m5 (by omega)) J Sm (Or.inr (Or.inl ⟨(by omega), (by omega), jk_m5, (ov_o w27 rfl (ov_o w2 rfl rfl))⟩))
        ·
          exact jX.sub (jsb_c rfl jsb_n) (ct_X12_levy_r125p_44 yy_a1 yy_a2 yy_a3 yy_a4 hD hQ  h ⟨w2, by omega⟩ J Sm)
def fp_X12_line_r125p : jFp := [(125, 0, 1), (125, 1, 2), (125, 8, 9), (125, 9, 10), (125, 10, 11), (125, 11, 12), (125, 12, 13), (125, 13, 14), (125, 14, 15), (126, 0, 1), (126, 16, 17), (126, 20, 18020), (126, 49920, 50660)]
set_option maxRecDepth 100000 in
set_option maxHeartbeats 4000000 in
theorem ct_X12_line_r125p_100094 {Dy : jH → Prop} {h0 : jH} {Q : Option Value → jH → Prop} (hD : jDk Dy) (hQ : ∀ (v : Int32) hx9, jJ jSgM Dy hx9 → jSm fp_X12_line_r125p h0 hx9 → ∀ u0 u1 u2 u3 u4 : Int32, jiv hx9 126 (16 : Int32).toNatClampNeg = u0 → jiv hx9 126 (0 : Int32).toNatClampNeg = u1 → jiv hx9 126 (4 : Int32).toNatClampNeg = u2 → jiv hx9 126 (5 : Int32).toNatClampNeg = u3 → jiv hx9 126 (7 : Int32).toNatClampNeg = u4 → u0.toInt = u1.toInt + u2.toInt + u3.toInt + u4.toInt → (jiv hx9 125 8).toInt = 0 → Q (some (.int v)) hx9) : ∀ (g0 : Int32) (g1 : Int32) (g2 : Int32) (g3 : Int32) (g4 : Int32) (g5 : Int32) (g6 : Int32) (g7 : Int32) (g8 : Int32) (h : jH), 0 ≤ g0.toInt ∧ g0.toInt ≤ 200 → 0 ≤ g1.toInt ∧ g1.toInt ≤ 370 → 0 ≤ g2.toInt ∧ g2.toInt ≤ 30 → 0 ≤ g3.toInt ∧ g3.toInt ≤ 100 → 0 ≤ g4.toInt ∧ g4.toInt ≤ 40 → 0 ≤ g5.toInt ∧ g5.toInt ≤ 400 → 0 ≤ g6.toInt ∧ g6.toInt ≤ 3 → 0 ≤ g7.toInt ∧ g7.toInt ≤ 0 → 0 ≤ g8.toInt ∧ g8.toInt ≤ 400 → g1.toInt = g0.toInt + g2.toInt + g3.toInt + g4.toInt → jiv h 126 (0 : Int32).toNatClampNeg = g0 → jiv h 126 (16 : Int32).toNatClampNeg = g1 → jiv h 126 (4 : Int32).toNatClampNeg = g2 → jiv h 126 (5 : Int32).toNatClampNeg = g3 → jiv h 126 (7 : Int32).toNatClampNeg = g4 → jiv h 125 10 = g5 → jiv h 125 11 = g6 → jiv h 125 8 = g7 → jiv h 125 9 = g8 → jJ jSgM Dy h → jSm fp_X12_line_r125p h0 h → jX m_X12_line 6 0 0 94 [] [.int (-1), .ref 125] h 0 0 Q := by
  intro g0 g1 g2 g3 g4 g5 g6 g7 g8 h y0 y1 y2 y3 y4 y5 y6 y7 y8 y9 z0 z1 z2 z3 z4 z5 z6 z7 z8  J Sm
  refine x_inv (N := m_X12_told) (As := [.int (-1)]) (b := 125) (st := []) (dx9 := 1) (mc := 0) (ms := 0) (host := "") 12 rfl t_X12_told ⟨Or.inl q_12_197, i_X12_told.1, i_X12_told.2⟩ ⟨by decide, rfl⟩ (congrArg Prod.fst (J.1.1 125 (12, 92) rfl)) rfl (by decide) rfl rfl ⟨by decide, by decide⟩ (sf_X12_told_r125  hD J  (fun v2 h J S1 => ?_))
  have ev2 := jfull v2
  have Sm := jSm_tr rfl Sm S1
  show jX m_X12_line 6 0 0 97 [] [.int v2] _ 0 0 _
  refine x_iret rfl rfl ?_
  exact hQ _ _ J Sm _ _ _ _ _ (jmc S1 rfl z1) (jmc S1 rfl z0) (jmc S1 rfl z2) (jmc S1 rfl z3) (jmc S1 rfl z4) (by omega) (by have := congrArg Int32.toInt (jmc S1 rfl z7); omega)
set_option maxRecDepth 100000 in
set_option maxHeartbeats 4000000 in
theorem ct_X12_line_r125p_94 {Dy : jH → Prop} {h0 : jH} {Q : Option Value → jH → Prop} (hD : jDk Dy) (hQ : ∀ (v : Int32) hx9, jJ jSgM Dy hx9 → jSm fp_X12_line_r125p h0 hx9 → ∀ u0 u1 u2 u3 u4 : Int32, jiv hx9 126 (16 : Int32).toNatClampNeg = u0 → jiv hx9 126 (0 : Int32).toNatClampNeg = u1 → jiv hx9 126 (4 : Int32).toNatClampNeg = u2 → jiv hx9 126 (5 : Int32).toNatClampNeg = u3 → jiv hx9 126 (7 : Int32).toNatClampNeg = u4 → u0.toInt = u1.toInt + u2.toInt + u3.toInt + u4.toInt → (jiv hx9 125 8).toInt = 0 → Q (some (.int v)) hx9) : ∀ (g0 : Int32) (g1 : Int32) (g2 : Int32) (g3 : Int32) (g4 : Int32) (g5 : Int32) (g6 : Int32) (g7 : Int32) (g8 : Int32) (h : jH), 0 ≤ g0.toInt ∧ g0.toInt ≤ 200 → 0 ≤ g1.toInt ∧ g1.toInt ≤ 370 → 0 ≤ g2.toInt ∧ g2.toInt ≤ 30 → 0 ≤ g3.toInt ∧ g3.toInt ≤ 100 → 0 ≤ g4.toInt ∧ g4.toInt ≤ 40 → 0 ≤ g5.toInt ∧ g5.toInt ≤ 400 → 0 ≤ g6.toInt ∧ g6.toInt ≤ 3 → 0 ≤ g7.toInt ∧ g7.toInt ≤ 0 → 0 ≤ g8.toInt ∧ g8.toInt ≤ 400 → g1.toInt = g0.toInt + g2.toInt + g3.toInt + g4.toInt → jiv h 126 (0 : Int32).toNatClampNeg = g0 → jiv h 126 (16 : Int32).toNatClampNeg = g1 → jiv h 126 (4 : Int32).toNatClampNeg = g2 → jiv h 126 (5 : Int32).toNatClampNeg = g3 → jiv h 126 (7 : Int32).toNatClampNeg = g4 → jiv h 125 10 = g5 → jiv h 125 11 = g6 → jiv h 125 8 = g7 → jiv h 125 9 = g8 → jJ jSgM Dy h → jSm fp_X12_line_r125p h0 h → jX m_X12_line 6 0 0 94 [] [.int (-5), .ref 125] h 0 0 Q := by
  intro g0 g1 g2 g3 g4 g5 g6 g7 g8 h y0 y1 y2 y3 y4 y5 y6 y7 y8 y9 z0 z1 z2 z3 z4 z5 z6 z7 z8  J Sm
  refine x_inv (N := m_X12_told) (As := [.int (-5)]) (b := 125) (st := []) (dx9 := 1) (mc := 0) (ms := 0) (host := "") 12 rfl t_X12_told ⟨Or.inl q_12_197, i_X12_told.1, i_X12_told.2⟩ ⟨by decide, rfl⟩ (congrArg Prod.fst (J.1.1 125 (12, 92) rfl)) rfl (by decide) rfl rfl ⟨by decide, by decide⟩ (sf_X12_told_r125  hD J  (fun v2 h J S1 => ?_))
  have ev2 := jfull v2
  have Sm := jSm_tr rfl Sm S1
  show jX m_X12_line 6 0 0 97 [] [.int v2] _ 0 0 _
  refine x_iret rfl rfl ?_
  exact hQ _ _ J Sm _ _ _ _ _ (jmc S1 rfl z1) (jmc S1 rfl z0) (jmc S1 rfl z2) (jmc S1 rfl z3) (jmc S1 rfl z4) (by omega) (by have := congrArg Int32.toInt (jmc S1 rfl z7); omega)
set_option maxRecDepth 100000 in
set_option maxHeartbeats 4000000 in
theorem ct_X12_line_r125p_77 {Dy : jH → Prop} {h0 : jH} {Q : Option Value → jH → Prop} (hD : jDk Dy) (hQ : ∀ (v : Int32) hx9, jJ jSgM Dy hx9 → jSm fp_X12_line_r125p h0 hx9 → ∀ u0 u1 u2 u3 u4 : Int32, jiv hx9 126 (16 : Int32).toNatClampNeg = u0 → jiv hx9 126 (0 : Int32).toNatClampNeg = u1 → jiv hx9 126 (4 : Int32).toNatClampNeg = u2 → jiv hx9 126 (5 : Int32).toNatClampNeg = u3 → jiv hx9 126 (7 : Int32).toNatClampNeg = u4 → u0.toInt = u1.toInt + u2.toInt + u3.toInt + u4.toInt → (jiv hx9 125 8).toInt = 0 → Q (some (.int v)) hx9) : ∀ (l6 : Int32) (g0 : Int32) (g1 : Int32) (g2 : Int32) (g3 : Int32) (g4 : Int32) (g5 : Int32) (g6 : Int32) (g7 : Int32) (g8 : Int32) (h : jH), 0 ≤ l6.toInt ∧ l6.toInt ≤ 1 → 0 ≤ g0.toInt ∧ g0.toInt ≤ 200 → 0 ≤ g1.toInt ∧ g1.toInt ≤ 370 → 0 ≤ g2.toInt ∧ g2.toInt ≤ 30 → 0 ≤ g3.toInt ∧ g3.toInt ≤ 100 → 0 ≤ g4.toInt ∧ g4.toInt ≤ 40 → 0 ≤ g5.toInt ∧ g5.toInt ≤ 400 → 0 ≤ g6.toInt ∧ g6.toInt ≤ 3 → 0 ≤ g7.toInt ∧ g7.toInt ≤ 400 → 0 ≤ g8.toInt ∧ g8.toInt ≤ 400 → g1.toInt = g0.toInt + g2.toInt + g3.toInt + g4.toInt → jiv h 126 (0 : Int32).toNatClampNeg = g0 → jiv h 126 (16 : Int32).toNatClampNeg = g1 → jiv h 126 (4 : Int32).toNatClampNeg = g2 → jiv h 126 (5 : Int32).toNatClampNeg = g3 → jiv h 126 (7 : Int32).toNatClampNeg = g4 → jiv h 125 10 = g5 → jiv h 125 11 = g6 → jiv h 125 8 = g7 → jiv h 125 9 = g8 → jJ jSgM Dy h → jSm fp_X12_line_r125p h0 h → jX m_X12_line 6 0 0 77 [(0, .ref 125), (6, .int l6)] [] h 0 0 Q := by
  intro l6 g0 g1 g2 g3 g4 g5 g6 g7 g8 h y0 y1 y2 y3 y4 y5 y6 y7 y8 y9 y10 z0 z1 z2 z3 z4 z5 z6 z7 z8  J Sm
  refine x_aloadn (x := 125) rfl rfl ?_
  refine x_iconst (v := 0) rfl ki_0 ?_
  refine z_putI (N := 92) (w := 0) 12 8 rfl f_12_201 rfl (jfin_no TX12 RX12 92 rfl rfl) hD J Sm rfl rfl jk_0 (pw_125_8 (by omega)) rfl (fun h w1 J Sm => ?_)
  refine x_aloadn (x := 125) rfl rfl ?_
  refine x_iload (x := l6) rfl rfl ?_
  refine x_ifeq (tgt := 93) rfl rfl (ti_eq rfl jk_0 ⟨fun c2 => ?_, fun c2 => ?_⟩)
  ·
    refine x_iconst (v := (-1)) rfl ki_m1 ?_
    exact jX.sub jsb_n (ct_X12_line_r125p_100094 hD hQ  g0 g1 g2 g3 g4 g5 g6 0 g8 h (jr_of rfl (by omega)) (jr_of rfl (by omega)) (jr_of rfl (by omega)) (jr_of rfl (by omega)) (jr_of rfl (by omega)) (jr_of rfl (by omega)) (jr_of rfl (by omega)) (jr_of jk_0 (by omega)) (jr_of rfl (by omega)) (by omega) (jmo w1 rfl z0) (jmo w1 rfl z1) (jmo w1 rfl z2) (jmo w1 rfl z3) (jmo w1 rfl z4) (jmo w1 rfl z5) (jmo w1 rfl z6) (jmw w1) (jmo w1 rfl z8) J Sm)
  ·
    refine x_bipush (v := (-5)) rfl kb_m5 ?_
    refine x_goto (tgt := 94) rfl rfl ?_
    exact jX.sub jsb_n (ct_X12_line_r125p_94 hD hQ  g0 g1 g2 g3 g4 g5 g6 0 g8 h (jr_of rfl (by omega)) (jr_of rfl (by omega)) (jr_of rfl (by omega)) (jr_of rfl (by omega)) (jr_of rfl (by omega)) (jr_of rfl (by omega)) (jr_of rfl (by omega)) (jr_of jk_0 (by omega)) (jr_of rfl (by omega)) (by omega) (jmo w1 rfl z0) (jmo w1 rfl z1) (jmo w1 rfl z2) (jmo w1 rfl z3) (jmo w1 rfl z4) (jmo w1 rfl z5) (jmo w1 rfl z6) (jmw w1) (jmo w1 rfl z8) J Sm)
set_option maxRecDepth 100000 in
set_option maxHeartbeats 4000000 in
theorem ct_X12_line_r125p_300392 {Dy : jH → Prop} {h0 : jH} {Q : Option Value → jH → Prop} (hD : jDk Dy) (hQ : ∀ (v : Int32) hx9, jJ jSgM Dy hx9 → jSm fp_X12_line_r125p h0 hx9 → ∀ u0 u1 u2 u3 u4 : Int32, jiv hx9 126 (16 : Int32).toNatClampNeg = u0 → jiv hx9 126 (0 : Int32).toNatClampNeg = u1 → jiv hx9 126 (4 : Int32).toNatClampNeg = u2 → jiv hx9 126 (5 : Int32).toNatClampNeg = u3 → jiv hx9 126 (7 : Int32).toNatClampNeg = u4 → u0.toInt = u1.toInt + u2.toInt + u3.toInt + u4.toInt → (jiv hx9 125 8).toInt = 0 → Q (some (.int v)) hx9) : ∀ (l7 : Int32) (s1 : Int32) (g0 : Int32) (g1 : Int32) (g2 : Int32) (g3 : Int32) (g4 : Int32) (g5 : Int32) (g6 : Int32) (g7 : Int32) (g8 : Int32) (h : jH), 0 ≤ l7.toInt ∧ l7.toInt ≤ 199 → 25 ≤ s1.toInt ∧ s1.toInt ≤ 17935 → s1.toInt % 90 = 25 → 0 ≤ g0.toInt ∧ g0.toInt ≤ 199 → 0 ≤ g1.toInt ∧ g1.toInt ≤ 369 → 0 ≤ g2.toInt ∧ g2.toInt ≤ 30 → 0 ≤ g3.toInt ∧ g3.toInt ≤ 100 → 0 ≤ g4.toInt ∧ g4.toInt ≤ 40 → 0 ≤ g5.toInt ∧ g5.toInt ≤ 400 → 0 ≤ g6.toInt ∧ g6.toInt ≤ 3 → 0 ≤ g7.toInt ∧ g7.toInt ≤ 0 → 0 ≤ g8.toInt ∧ g8.toInt ≤ 400 → g1.toInt = g0.toInt + g2.toInt + g3.toInt + g4.toInt → (g6.toInt = 0 ∨ g8.toInt + 1 ≤ g5.toInt) → jiv h 126 (0 : Int32).toNatClampNeg = g0 → jiv h 126 (16 : Int32).toNatClampNeg = g1 → jiv h 126 (4 : Int32).toNatClampNeg = g2 → jiv h 126 (5 : Int32).toNatClampNeg = g3 → jiv h 126 (7 : Int32).toNatClampNeg = g4 → jiv h 125 10 = g5 → jiv h 125 11 = g6 → jiv h 125 8 = g7 → jiv h 125 9 = g8 → jJ jSgM Dy h → jSm fp_X12_line_r125p h0 h → jX m_X12_line 6 0 0 392 [(0, .ref 125), (7, .int l7)] [.int 1, .int s1, .ref 126] h 0 0 Q := by
  intro l7 s1 g0 g1 g2 g3 g4 g5 g6 g7 g8 h y0 y1 y2 y3 y4 y5 y6 y7 y8 y9 y10 y11 y12 y13 z0 z1 z2 z3 z4 z5 z6 z7 z8  J Sm
  refine z_iast (N := 50660) (l := 20) (u := 18020) (w := 1) rfl hD J Sm rfl rfl rfl (by omega) jk_1 (wr_126_20 (by omega) (fun q1 q2 q3 q4 => by omega) (fun q1 q2 q3 q4 => by omega) (fun q1 q2 q3 q4 => by omega) (fun q1 q2 q3 q4 => by omega) (fun q1 q2 q3 q4 => by omega) (fun q1 q2 q3 q4 => by omega) (fun q1 q2 q3 q4 => by omega) (fun q1 q2 q3 q4 => by omega) (fun q1 q2 q3 q4 => by omega) (fun q1 q2 q3 q4 => by omega) (fun q1 q2 q3 q4 => by omega) (fun q1 q2 q3 q4 => by omega) (fun q1 q2 q3 q4 => by omega) (fun q1 q2 q3 q4 => by omega) (fun q1 q2 q3 q4 => by omega) (fun q1 q2 q3 q4 => by omega) (fun q1 q2 q3 q4 => by omega) (fun q1 q2 q3 q4 => by omega) (fun q1 q2 q3 q4 => by omega) (fun q1 q2 q3 q4 => by omega) (fun q1 q2 q3 q4 => by omega) (fun q1 q2 q3 q4 => by omega) (fun q1 q2 q3 q4 => by omega)) rfl (fun h w1 J Sm => ?_)
  refine x_aloadn (x := 125) rfl rfl ?_
  refine z_getR (N := 92) (b := 126) 12 2 rfl f_12_8 rfl J rfl 16002 ⟨rfl, rfl⟩ rfl ?_
  refine x_iconst (v := 0) rfl ki_0 ?_
  refine x_dup2 rfl rfl rfl ?_
  refine z_ialdM (N := 50660) (v := g0) rfl J rfl jk_0 (by omega) (jmo2 w1 rfl jk_0 (by omega) z0) ?_
  refine x_iconst (v := 1) rfl ki_1 ?_
  refine z_iadd rfl rfl jk_1 (by omega) (fun v2 ev2 => ?_)
  refine z_iast (N := 50660) (l := 0) (u := 1) (w := v2.toInt) rfl hD J Sm rfl rfl jk_0 (by omega) rfl (wr_126_0 (by omega) (fun q1 q2 q3 q4 => by omega)) rfl (fun h w3 J Sm => ?_)
  refine x_aloadn (x := 125) rfl rfl ?_
  refine x_iconst (v := 0) rfl ki_0 ?_
  refine x_iload (x := l7) rfl rfl ?_
  refine x_inv (N := m_X12_thing) (As := [.int 0, .int l7]) (b := 125) (st := []) (dx9 := 5) (mc := 0) (ms := 0) (host := "") 12 rfl t_X12_thing ⟨Or.inl q_12_289, i_X12_thing.1, i_X12_thing.2⟩ ⟨by decide, rfl⟩ (congrArg Prod.fst (J.1.1 125 (12, 92) rfl)) rfl (by decide) rfl rfl ⟨by decide, by decide⟩ (jC.of rfl k_X12_thing rfl ?_)
  show jX m_X12_thing 5 0 0 0 [(0, .ref 125), (1, .int 0), (2, .int l7)] [] _ 0 0 _
  refine x_ldc (v := 49920) rfl z_12_194 ?_
  refine x_iconst (v := 2) rfl ki_2 ?_
  refine x_aloadn (x := 125) rfl rfl ?_
  refine z_getR (N := 92) (b := 126) 12 2 rfl f_12_8 rfl J rfl 16002 ⟨rfl, rfl⟩ rfl ?_
  refine x_bipush (v := 16) rfl kb_16 ?_
  refine z_ialdM (N := 50660) (v := g1) rfl J rfl jk_16 (by omega) (jmo2 w3 jk_0 jk_16 (by omega) (jmo2 w1 rfl jk_16 (by omega) z1)) ?_
  refine z_imul rfl jk_2 rfl (by omega) (fun v4 ev4 => ?_)
  refine z_iadd rfl jk_49920 rfl (by omega) (fun v5 ev5 => ?_)
  refine x_istoren (lsx9 := [(3, .int v5), (0, .ref 125), (1, .int 0), (2, .int l7)]) rfl rfl rfl ?_
  refine x_aloadn (x := 125) rfl rfl ?_
  refine z_getR (N := 92) (b := 126) 12 2 rfl f_12_8 rfl J rfl 16002 ⟨rfl, rfl⟩ rfl ?_
  refine x_iloadn (x := v5) rfl rfl ?_
  refine x_iloadn (x := 0) rfl rfl ?_
  refine z_iast (N := 50660) (l := 49920) (u := 50660) (w := 0) rfl hD J Sm rfl rfl rfl (by omega) jk_0 (wr_126_49920 (by omega) (fun q1 q2 q3 q4 => by omega) (fun q1 q2 q3 q4 => by omega)) rfl (fun h w6 J Sm => ?_)
  refine x_aloadn (x := 125) rfl rfl ?_
  refine z_getR (N := 92) (b := 126) 12 2 rfl f_12_8 rfl J rfl 16002 ⟨rfl, rfl⟩ rfl ?_
  refine x_iloadn (x := v5) rfl rfl ?_
  refine x_iconst (v := 1) rfl ki_1 ?_
  refine z_iadd rfl rfl jk_1 (by omega) (fun v7 ev7 => ?_)
  refine x_iloadn (x := l7) rfl rfl ?_
  refine z_iast (N := 50660) (l := 49920) (u := 50660) (w := l7.toInt) rfl hD J Sm rfl rfl rfl (by omega) rfl (wr_126_49920 (by omega) (fun q1 q2 q3 q4 => by omega) (fun q1 q2 q3 q4 => by omega)) rfl (fun h w8 J Sm => ?_)
  refine x_aloadn (x := 125) rfl rfl ?_
  refine z_getR (N := 92) (b := 126) 12 2 rfl f_12_8 rfl J rfl 16002 ⟨rfl, rfl⟩ rfl ?_
  refine x_bipush (v := 16) rfl kb_16 ?_
  refine x_dup2 rfl rfl rfl ?_
  refine z_ialdM (N := 50660) (v := g1) rfl J rfl jk_16 (by omega) (jmo2 w8 rfl jk_16 (by omega) (jmo2 w6 rfl jk_16 (by omega) (jmo2 w3 jk_0 jk_16 (by omega) (jmo2 w1 rfl jk_16 (by omega) z1)))) ?_
  refine x_iconst (v := 1) rfl ki_1 ?_
  refine z_iadd rfl rfl jk_1 (by omega) (fun v9 ev9 => ?_)
  refine z_iast (N := 50660) (l := 16) (u := 17) (w := v9.toInt) rfl hD J Sm rfl rfl jk_16 (by omega) rfl (wr_126_16 (by omega) (fun q1 q2 q3 q4 => by omega)) rfl (fun h w10 J Sm => ?_)
  refine x_vret rfl rfl ?_
  show jX m_X12_line 6 0 0 410 [(0, .ref 125), (7, .int l7)] [] _ 0 0 _
  refine x_aloadn (x := 125) rfl rfl ?_
  refine x_iload (x := l7) rfl rfl ?_
  refine x_inv (N := m_X12_told) (As := [.int l7]) (b := 125) (st := []) (dx9 := 1) (mc := 0) (ms := 0) (host := "") 12 rfl t_X12_told ⟨Or.inl q_12_197, i_X12_told.1, i_X12_told.2⟩ ⟨by decide, rfl⟩ (congrArg Prod.fst (J.1.1 125 (12, 92) rfl)) rfl (by decide) rfl rfl ⟨by decide, by decide⟩ (sf_X12_told_r125  hD J  (fun v12 h J S11 => ?_))
  have ev12 := jfull v12
  have Sm := jSm_tr rfl Sm S11
  show jX m_X12_line 6 0 0 416 [(0, .ref 125), (7, .int l7)] [.int v12] _ 0 0 _
  refine x_iret rfl rfl ?_
  exact hQ _ _ J Sm _ _ _ _ _ (jmc S11 rfl (jmw w10)) (jmc S11 rfl (jmo2 w10 jk_16 jk_0 (by omega) (jmo2 w8 rfl jk_0 (by omega) (jmo2 w6 rfl jk_0 (by omega) (jmw w3))))) (jmc S11 rfl (jmo2 w10 jk_16 jk_4 (by omega) (jmo2 w8 rfl jk_4 (by omega) (jmo2 w6 rfl jk_4 (by omega) (jmo2 w3 jk_0 jk_4 (by omega) (jmo2 w1 rfl jk_4 (by omega) z2)))))) (jmc S11 rfl (jmo2 w10 jk_16 jk_5 (by omega) (jmo2 w8 rfl jk_5 (by omega) (jmo2 w6 rfl jk_5 (by omega) (jmo2 w3 jk_0 jk_5 (by omega) (jmo2 w1 rfl jk_5 (by omega) z3)))))) (jmc S11 rfl (jmo2 w10 jk_16 jk_7 (by omega) (jmo2 w8 rfl jk_7 (by omega) (jmo2 w6 rfl jk_7 (by omega) (jmo2 w3 jk_0 jk_7 (by omega) (jmo2 w1 rfl jk_7 (by omega) z4)))))) (by omega) (by have := congrArg Int32.toInt (jmc S11 rfl (jmo w10 rfl (jmo w8 rfl (jmo w6 rfl (jmo w3 rfl (jmo w1 rfl z7)))))); omega)
set_option maxRecDepth 100000 in
set_option maxHeartbeats 4000000 in
theorem ct_X12_line_r125p_200392 {Dy : jH → Prop} {h0 : jH} {Q : Option Value → jH → Prop} (hD : jDk Dy) (hQ : ∀ (v : Int32) hx9, jJ jSgM Dy hx9 → jSm fp_X12_line_r125p h0 hx9 → ∀ u0 u1 u2 u3 u4 : Int32, jiv hx9 126 (16 : Int32).toNatClampNeg = u0 → jiv hx9 126 (0 : Int32).toNatClampNeg = u1 → jiv hx9 126 (4 : Int32).toNatClampNeg = u2 → jiv hx9 126 (5 : Int32).toNatClampNeg = u3 → jiv hx9 126 (7 : Int32).toNatClampNeg = u4 → u0.toInt = u1.toInt + u2.toInt + u3.toInt + u4.toInt → (jiv hx9 125 8).toInt = 0 → Q (some (.int v)) hx9) : ∀ (l7 : Int32) (s1 : Int32) (g0 : Int32) (g1 : Int32) (g2 : Int32) (g3 : Int32) (g4 : Int32) (g5 : Int32) (g6 : Int32) (g7 : Int32) (g8 : Int32) (h : jH), 0 ≤ l7.toInt ∧ l7.toInt ≤ 199 → 25 ≤ s1.toInt ∧ s1.toInt ≤ 17935 → s1.toInt % 90 = 25 → 0 ≤ g0.toInt ∧ g0.toInt ≤ 199 → 0 ≤ g1.toInt ∧ g1.toInt ≤ 369 → 0 ≤ g2.toInt ∧ g2.toInt ≤ 30 → 0 ≤ g3.toInt ∧ g3.toInt ≤ 100 → 0 ≤ g4.toInt ∧ g4.toInt ≤ 40 → 0 ≤ g5.toInt ∧ g5.toInt ≤ 400 → 0 ≤ g6.toInt ∧ g6.toInt ≤ 3 → 0 ≤ g7.toInt ∧ g7.toInt ≤ 0 → 0 ≤ g8.toInt ∧ g8.toInt ≤ 400 → g1.toInt = g0.toInt + g2.toInt + g3.toInt + g4.toInt → (g6.toInt = 0 ∨ g8.toInt + 1 ≤ g5.toInt) → jiv h 126 (0 : Int32).toNatClampNeg = g0 → jiv h 126 (16 : Int32).toNatClampNeg = g1 → jiv h 126 (4 : Int32).toNatClampNeg = g2 → jiv h 126 (5 : Int32).toNatClampNeg = g3 → jiv h 126 (7 : Int32).toNatClampNeg = g4 → jiv h 125 10 = g5 → jiv h 125 11 = g6 → jiv h 125 8 = g7 → jiv h 125 9 = g8 → jJ jSgM Dy h → jSm fp_X12_line_r125p h0 h → jX m_X12_line 6 0 0 392 [(0, .ref 125), (7, .int l7)] [.int 0, .int s1, .ref 126] h 0 0 Q := by
  intro l7 s1 g0 g1 g2 g3 g4 g5 g6 g7 g8 h y0 y1 y2 y3 y4 y5 y6 y7 y8 y9 y10 y11 y12 y13 z0 z1 z2 z3 z4 z5 z6 z7 z8  J Sm
  refine z_iast (N := 50660) (l := 20) (u := 18020) (w := 0) rfl hD J Sm rfl rfl rfl (by omega) jk_0 (wr_126_20 (by omega) (fun q1 q2 q3 q4 => by omega) (fun q1 q2 q3 q4 => by omega) (fun q1 q2 q3 q4 => by omega) (fun q1 q2 q3 q4 => by omega) (fun q1 q2 q3 q4 => by omega) (fun q1 q2 q3 q4 => by omega) (fun q1 q2 q3 q4 => by omega) (fun q1 q2 q3 q4 => by omega) (fun q1 q2 q3 q4 => by omega) (fun q1 q2 q3 q4 => by omega) (fun q1 q2 q3 q4 => by omega) (fun q1 q2 q3 q4 => by omega) (fun q1 q2 q3 q4 => by omega) (fun q1 q2 q3 q4 => by omega) (fun q1 q2 q3 q4 => by omega) (fun q1 q2 q3 q4 => by omega) (fun q1 q2 q3 q4 => by omega) (fun q1 q2 q3 q4 => by omega) (fun q1 q2 q3 q4 => by omega) (fun q1 q2 q3 q4 => by omega) (fun q1 q2 q3 q4 => by omega) (fun q1 q2 q3 q4 => by omega) (fun q1 q2 q3 q4 => by omega)) rfl (fun h w1 J Sm => ?_)
  refine x_aloadn (x := 125) rfl rfl ?_
  refine z_getR (N := 92) (b := 126) 12 2 rfl f_12_8 rfl J rfl 16002 ⟨rfl, rfl⟩ rfl ?_
  refine x_iconst (v := 0) rfl ki_0 ?_
  refine x_dup2 rfl rfl rfl ?_
  refine z_ialdM (N := 50660) (v := g0) rfl J rfl jk_0 (by omega) (jmo2 w1 rfl jk_0 (by omega) z0) ?_
  refine x_iconst (v := 1) rfl ki_1 ?_
  refine z_iadd rfl rfl jk_1 (by omega) (fun v2 ev2 => ?_)
  refine z_iast (N := 50660) (l := 0) (u := 1) (w := v2.toInt) rfl hD J Sm rfl rfl jk_0 (by omega) rfl (wr_126_0 (by omega) (fun q1 q2 q3 q4 => by omega)) rfl (fun h w3 J Sm => ?_)
  refine x_aloadn (x := 125) rfl rfl ?_
  refine x_iconst (v := 0) rfl ki_0 ?_
  refine x_iload (x := l7) rfl rfl ?_
  refine x_inv (N := m_X12_thing) (As := [.int 0, .int l7]) (b := 125) (st := []) (dx9 := 5) (mc := 0) (ms := 0) (host := "") 12 rfl t_X12_thing ⟨Or.inl q_12_289, i_X12_thing.1, i_X12_thing.2⟩ ⟨by decide, rfl⟩ (congrArg Prod.fst (J.1.1 125 (12, 92) rfl)) rfl (by decide) rfl rfl ⟨by decide, by decide⟩ (jC.of rfl k_X12_thing rfl ?_)
  show jX m_X12_thing 5 0 0 0 [(0, .ref 125), (1, .int 0), (2, .int l7)] [] _ 0 0 _
  refine x_ldc (v := 49920) rfl z_12_194 ?_
  refine x_iconst (v := 2) rfl ki_2 ?_
  refine x_aloadn (x := 125) rfl rfl ?_
  refine z_getR (N := 92) (b := 126) 12 2 rfl f_12_8 rfl J rfl 16002 ⟨rfl, rfl⟩ rfl ?_
  refine x_bipush (v := 16) rfl kb_16 ?_
  refine z_ialdM (N := 50660) (v := g1) rfl J rfl jk_16 (by omega) (jmo2 w3 jk_0 jk_16 (by omega) (jmo2 w1 rfl jk_16 (by omega) z1)) ?_
  refine z_imul rfl jk_2 rfl (by omega) (fun v4 ev4 => ?_)
  refine z_iadd rfl jk_49920 rfl (by omega) (fun v5 ev5 => ?_)
  refine x_istoren (lsx9 := [(3, .int v5), (0, .ref 125), (1, .int 0), (2, .int l7)]) rfl rfl rfl ?_
  refine x_aloadn (x := 125) rfl rfl ?_
  refine z_getR (N := 92) (b := 126) 12 2 rfl f_12_8 rfl J rfl 16002 ⟨rfl, rfl⟩ rfl ?_
  refine x_iloadn (x := v5) rfl rfl ?_
  refine x_iloadn (x := 0) rfl rfl ?_
  refine z_iast (N := 50660) (l := 49920) (u := 50660) (w := 0) rfl hD J Sm rfl rfl rfl (by omega) jk_0 (wr_126_49920 (by omega) (fun q1 q2 q3 q4 => by omega) (fun q1 q2 q3 q4 => by omega)) rfl (fun h w6 J Sm => ?_)
  refine x_aloadn (x := 125) rfl rfl ?_
  refine z_getR (N := 92) (b := 126) 12 2 rfl f_12_8 rfl J rfl 16002 ⟨rfl, rfl⟩ rfl ?_
  refine x_iloadn (x := v5) rfl rfl ?_
  refine x_iconst (v := 1) rfl ki_1 ?_
  refine z_iadd rfl rfl jk_1 (by omega) (fun v7 ev7 => ?_)
  refine x_iloadn (x := l7) rfl rfl ?_
  refine z_iast (N := 50660) (l := 49920) (u := 50660) (w := l7.toInt) rfl hD J Sm rfl rfl rfl (by omega) rfl (wr_126_49920 (by omega) (fun q1 q2 q3 q4 => by omega) (fun q1 q2 q3 q4 => by omega)) rfl (fun h w8 J Sm => ?_)
  refine x_aloadn (x := 125) rfl rfl ?_
  refine z_getR (N := 92) (b := 126) 12 2 rfl f_12_8 rfl J rfl 16002 ⟨rfl, rfl⟩ rfl ?_
  refine x_bipush (v := 16) rfl kb_16 ?_
  refine x_dup2 rfl rfl rfl ?_
  refine z_ialdM (N := 50660) (v := g1) rfl J rfl jk_16 (by omega) (jmo2 w8 rfl jk_16 (by omega) (jmo2 w6 rfl jk_16 (by omega) (jmo2 w3 jk_0 jk_16 (by omega) (jmo2 w1 rfl jk_16 (by omega) z1)))) ?_
  refine x_iconst (v := 1) rfl ki_1 ?_
  refine z_iadd rfl rfl jk_1 (by omega) (fun v9 ev9 => ?_)
  refine z_iast (N := 50660) (l := 16) (u := 17) (w := v9.toInt) rfl hD J Sm rfl rfl jk_16 (by omega) rfl (wr_126_16 (by omega) (fun q1 q2 q3 q4 => by omega)) rfl (fun h w10 J Sm => ?_)
  refine x_vret rfl rfl ?_
  show jX m_X12_line 6 0 0 410 [(0, .ref 125), (7, .int l7)] [] _ 0 0 _
  refine x_aloadn (x := 125) rfl rfl ?_
  refine x_iload (x := l7) rfl rfl ?_
  refine x_inv (N := m_X12_told) (As := [.int l7]) (b := 125) (st := []) (dx9 := 1) (mc := 0) (ms := 0) (host := "") 12 rfl t_X12_told ⟨Or.inl q_12_197, i_X12_told.1, i_X12_told.2⟩ ⟨by decide, rfl⟩ (congrArg Prod.fst (J.1.1 125 (12, 92) rfl)) rfl (by decide) rfl rfl ⟨by decide, by decide⟩ (sf_X12_told_r125  hD J  (fun v12 h J S11 => ?_))
  have ev12 := jfull v12
  have Sm := jSm_tr rfl Sm S11
  show jX m_X12_line 6 0 0 416 [(0, .ref 125), (7, .int l7)] [.int v12] _ 0 0 _
  refine x_iret rfl rfl ?_
  exact hQ _ _ J Sm _ _ _ _ _ (jmc S11 rfl (jmw w10)) (jmc S11 rfl (jmo2 w10 jk_16 jk_0 (by omega) (jmo2 w8 rfl jk_0 (by omega) (jmo2 w6 rfl jk_0 (by omega) (jmw w3))))) (jmc S11 rfl (jmo2 w10 jk_16 jk_4 (by omega) (jmo2 w8 rfl jk_4 (by omega) (jmo2 w6 rfl jk_4 (by omega) (jmo2 w3 jk_0 jk_4 (by omega) (jmo2 w1 rfl jk_4 (by omega) z2)))))) (jmc S11 rfl (jmo2 w10 jk_16 jk_5 (by omega) (jmo2 w8 rfl jk_5 (by omega) (jmo2 w6 rfl jk_5 (by omega) (jmo2 w3 jk_0 jk_5 (by omega) (jmo2 w1 rfl jk_5 (by omega) z3)))))) (jmc S11 rfl (jmo2 w10 jk_16 jk_7 (by omega) (jmo2 w8 rfl jk_7 (by omega) (jmo2 w6 rfl jk_7 (by omega) (jmo2 w3 jk_0 jk_7 (by omega) (jmo2 w1 rfl jk_7 (by omega) z4)))))) (by omega) (by have := congrArg Int32.toInt (jmc S11 rfl (jmo w10 rfl (jmo w8 rfl (jmo w6 rfl (jmo w3 rfl (jmo w1 rfl z7)))))); omega)
set_option maxRecDepth 100000 in
set_option maxHeartbeats 4000000 in
theorem ct_X12_line_r125p_305 {Dy : jH → Prop} {h0 : jH} {Q : Option Value → jH → Prop} (hD : jDk Dy) (hQ : ∀ (v : Int32) hx9, jJ jSgM Dy hx9 → jSm fp_X12_line_r125p h0 hx9 → ∀ u0 u1 u2 u3 u4 : Int32, jiv hx9 126 (16 : Int32).toNatClampNeg = u0 → jiv hx9 126 (0 : Int32).toNatClampNeg = u1 → jiv hx9 126 (4 : Int32).toNatClampNeg = u2 → jiv hx9 126 (5 : Int32).toNatClampNeg = u3 → jiv hx9 126 (7 : Int32).toNatClampNeg = u4 → u0.toInt = u1.toInt + u2.toInt + u3.toInt + u4.toInt → (jiv hx9 125 8).toInt = 0 → Q (some (.int v)) hx9) : ∀ (l1 : Int32) (l2 : Int32) (l3 : Int32) (l4 : Int32) (l5 : Int32) (l7 : Int32) (l8 : Int32) (l11 : Int32) (g0 : Int32) (g1 : Int32) (g2 : Int32) (g3 : Int32) (g4 : Int32) (g5 : Int32) (g6 : Int32) (g7 : Int32) (g8 : Int32) (g9 : Int32) (h : jH), 0 ≤ l1.toInt ∧ l1.toInt ≤ 5 → 0 ≤ l2.toInt ∧ l2.toInt ≤ 15 → 0 ≤ l3.toInt ∧ l3.toInt ≤ 146399 → 0 ≤ l4.toInt ∧ l4.toInt ≤ 146399 → (-1) ≤ l5.toInt ∧ l5.toInt ≤ 100000 → 0 ≤ l7.toInt ∧ l7.toInt ≤ 199 → 20 ≤ l8.toInt ∧ l8.toInt ≤ 17930 → l8.toInt % 90 = 20 → 0 ≤ l11.toInt ∧ l11.toInt ≤ 1 → 0 ≤ g0.toInt ∧ g0.toInt ≤ 199 → 0 ≤ g1.toInt ∧ g1.toInt ≤ 369 → 0 ≤ g2.toInt ∧ g2.toInt ≤ 30 → 0 ≤ g3.toInt ∧ g3.toInt ≤ 100 → 0 ≤ g4.toInt ∧ g4.toInt ≤ 40 → 0 ≤ g5.toInt ∧ g5.toInt ≤ 400 → 0 ≤ g6.toInt ∧ g6.toInt ≤ 3 → 0 ≤ g7.toInt ∧ g7.toInt ≤ 1 → 0 ≤ g8.toInt ∧ g8.toInt ≤ 400 → 0 ≤ g9.toInt ∧ g9.toInt ≤ 400 → g1.toInt = g0.toInt + g2.toInt + g3.toInt + g4.toInt → (g5.toInt ≤ g8.toInt ∧ g9.toInt ≤ g5.toInt) → (g6.toInt = 0 ∨ g9.toInt + 1 ≤ g5.toInt) → jiv h 126 (0 : Int32).toNatClampNeg = g0 → jiv h 126 (16 : Int32).toNatClampNeg = g1 → jiv h 126 (4 : Int32).toNatClampNeg = g2 → jiv h 126 (5 : Int32).toNatClampNeg = g3 → jiv h 126 (7 : Int32).toNatClampNeg = g4 → jiv h 125 10 = g5 → jiv h 125 11 = g6 → jiv h 125 14 = g7 → jiv h 125 8 = g8 → jiv h 125 9 = g9 → jJ jSgM Dy h → jSm fp_X12_line_r125p h0 h → jX m_X12_line 6 0 0 305 [(0, .ref 125), (1, .int l1), (2, .int l2), (3, .int l3), (4, .int l4), (5, .int l5), (7, .int l7), (8, .int l8), (11, .int l11)] [] h 0 0 Q := by
  intro l1 l2 l3 l4 l5 l7 l8 l11 g0 g1 g2 g3 g4 g5 g6 g7 g8 g9 h y0 y1 y2 y3 y4 y5 y6 y7 y8 y9 y10 y11 y12 y13 y14 y15 y16 y17 y18 y19 y20 y21 z0 z1 z2 z3 z4 z5 z6 z7 z8 z9  J Sm
  refine x_aloadn (x := 125) rfl rfl ?_
  refine x_iconst (v := 0) rfl ki_0 ?_
  refine z_putI (N := 92) (w := 0) 12 8 rfl f_12_201 rfl (jfin_no TX12 RX12 92 rfl rfl) hD J Sm rfl rfl jk_0 (pw_125_8 (by omega)) rfl (fun h w1 J Sm => ?_)
  refine x_aloadn (x := 125) rfl rfl ?_
  refine z_getM (N := 92) (v := g7) 12 14 rfl f_12_214 rfl J rfl (jmo w1 rfl z7) ?_
  refine x_ifeq (tgt := 324) rfl rfl (ti_eq rfl jk_0 ⟨fun c2 => ?_, fun c2 => ?_⟩)
  ·
    refine x_aloadn (x := 125) rfl rfl ?_
    refine z_getR (N := 92) (b := 126) 12 2 rfl f_12_8 rfl J rfl 16002 ⟨rfl, rfl⟩ rfl ?_
    refine x_iload (x := l8) rfl rfl ?_
    refine x_iloadn (x := l1) rfl rfl ?_
    refine z_iast (N := 50660) (l := 20) (u := 18020) (w := l1.toInt) rfl hD J Sm rfl rfl rfl (by omega) rfl (wr_126_20 (by omega) (fun q1 q2 q3 q4 => by omega) (fun q1 q2 q3 q4 => by omega) (fun q1 q2 q3 q4 => by omega) (fun q1 q2 q3 q4 => by omega) (fun q1 q2 q3 q4 => by omega) (fun q1 q2 q3 q4 => by omega) (fun q1 q2 q3 q4 => by omega) (fun q1 q2 q3 q4 => by omega) (fun q1 q2 q3 q4 => by omega) (fun q1 q2 q3 q4 => by omega) (fun q1 q2 q3 q4 => by omega) (fun q1 q2 q3 q4 => by omega) (fun q1 q2 q3 q4 => by omega) (fun q1 q2 q3 q4 => by omega) (fun q1 q2 q3 q4 => by omega) (fun q1 q2 q3 q4 => by omega) (fun q1 q2 q3 q4 => by omega) (fun q1 q2 q3 q4 => by omega) (fun q1 q2 q3 q4 => by omega) (fun q1 q2 q3 q4 => by omega) (fun q1 q2 q3 q4 => by omega) (fun q1 q2 q3 q4 => by omega) (fun q1 q2 q3 q4 => by omega)) rfl (fun h w3 J Sm => ?_)
    refine x_aloadn (x := 125) rfl rfl ?_
    refine z_getR (N := 92) (b := 126) 12 2 rfl f_12_8 rfl J rfl 16002 ⟨rfl, rfl⟩ rfl ?_
    refine x_iload (x := l8) rfl rfl ?_
    refine x_iconst (v := 1) rfl ki_1 ?_
    refine z_iadd rfl rfl jk_1 (by omega) (fun v4 ev4 => ?_)
    refine x_iloadn (x := l2) rfl rfl ?_
    refine z_iast (N := 50660) (l := 20) (u := 18020) (w := l2.toInt) rfl hD J Sm rfl rfl rfl (by omega) rfl (wr_126_20 (by omega) (fun q1 q2 q3 q4 => by omega) (fun q1 q2 q3 q4 => by omega) (fun q1 q2 q3 q4 => by omega) (fun q1 q2 q3 q4 => by omega) (fun q1 q2 q3 q4 => by omega) (fun q1 q2 q3 q4 => by omega) (fun q1 q2 q3 q4 => by omega) (fun q1 q2 q3 q4 => by omega) (fun q1 q2 q3 q4 => by omega) (fun q1 q2 q3 q4 => by omega) (fun q1 q2 q3 q4 => by omega) (fun q1 q2 q3 q4 => by omega) (fun q1 q2 q3 q4 => by omega) (fun q1 q2 q3 q4 => by omega) (fun q1 q2 q3 q4 => by omega) (fun q1 q2 q3 q4 => by omega) (fun q1 q2 q3 q4 => by omega) (fun q1 q2 q3 q4 => by omega) (fun q1 q2 q3 q4 => by omega) (fun q1 q2 q3 q4 => by omega) (fun q1 q2 q3 q4 => by omega) (fun q1 q2 q3 q4 => by omega) (fun q1 q2 q3 q4 => by omega)) rfl (fun h w5 J Sm => ?_)
    refine x_aloadn (x := 125) rfl rfl ?_
    refine z_getR (N := 92) (b := 126) 12 2 rfl f_12_8 rfl J rfl 16002 ⟨rfl, rfl⟩ rfl ?_
    refine x_iload (x := l8) rfl rfl ?_
    refine x_iconst (v := 2) rfl ki_2 ?_
    refine z_iadd rfl rfl jk_2 (by omega) (fun v6 ev6 => ?_)
    refine x_iloadn (x := l3) rfl rfl ?_
    refine z_iast (N := 50660) (l := 20) (u := 18020) (w := l3.toInt) rfl hD J Sm rfl rfl rfl (by omega) rfl (wr_126_20 (by omega) (fun q1 q2 q3 q4 => by omega) (fun q1 q2 q3 q4 => by omega) (fun q1 q2 q3 q4 => by omega) (fun q1 q2 q3 q4 => by omega) (fun q1 q2 q3 q4 => by omega) (fun q1 q2 q3 q4 => by omega) (fun q1 q2 q3 q4 => by omega) (fun q1 q2 q3 q4 => by omega) (fun q1 q2 q3 q4 => by omega) (fun q1 q2 q3 q4 => by omega) (fun q1 q2 q3 q4 => by omega) (fun q1 q2 q3 q4 => by omega) (fun q1 q2 q3 q4 => by omega) (fun q1 q2 q3 q4 => by omega) (fun q1 q2 q3 q4 => by omega) (fun q1 q2 q3 q4 => by omega) (fun q1 q2 q3 q4 => by omega) (fun q1 q2 q3 q4 => by omega) (fun q1 q2 q3 q4 => by omega) (fun q1 q2 q3 q4 => by omega) (fun q1 q2 q3 q4 => by omega) (fun q1 q2 q3 q4 => by omega) (fun q1 q2 q3 q4 => by omega)) rfl (fun h w7 J Sm => ?_)
    refine x_aloadn (x := 125) rfl rfl ?_
    refine z_getR (N := 92) (b := 126) 12 2 rfl f_12_8 rfl J rfl 16002 ⟨rfl, rfl⟩ rfl ?_
    refine x_iload (x := l8) rfl rfl ?_
    refine x_iconst (v := 3) rfl ki_3 ?_
    refine z_iadd rfl rfl jk_3 (by omega) (fun v8 ev8 => ?_)
    refine x_iload (x := l4) rfl rfl ?_
    refine z_iast (N := 50660) (l := 20) (u := 18020) (w := l4.toInt) rfl hD J Sm rfl rfl rfl (by omega) rfl (wr_126_20 (by omega) (fun q1 q2 q3 q4 => by omega) (fun q1 q2 q3 q4 => by omega) (fun q1 q2 q3 q4 => by omega) (fun q1 q2 q3 q4 => by omega) (fun q1 q2 q3 q4 => by omega) (fun q1 q2 q3 q4 => by omega) (fun q1 q2 q3 q4 => by omega) (fun q1 q2 q3 q4 => by omega) (fun q1 q2 q3 q4 => by omega) (fun q1 q2 q3 q4 => by omega) (fun q1 q2 q3 q4 => by omega) (fun q1 q2 q3 q4 => by omega) (fun q1 q2 q3 q4 => by omega) (fun q1 q2 q3 q4 => by omega) (fun q1 q2 q3 q4 => by omega) (fun q1 q2 q3 q4 => by omega) (fun q1 q2 q3 q4 => by omega) (fun q1 q2 q3 q4 => by omega) (fun q1 q2 q3 q4 => by omega) (fun q1 q2 q3 q4 => by omega) (fun q1 q2 q3 q4 => by omega) (fun q1 q2 q3 q4 => by omega) (fun q1 q2 q3 q4 => by omega)) rfl (fun h w9 J Sm => ?_)
    refine x_aloadn (x := 125) rfl rfl ?_
    refine z_getR (N := 92) (b := 126) 12 2 rfl f_12_8 rfl J rfl 16002 ⟨rfl, rfl⟩ rfl ?_
    refine x_iload (x := l8) rfl rfl ?_
    refine x_iconst (v := 4) rfl ki_4 ?_
    refine z_iadd rfl rfl jk_4 (by omega) (fun v10 ev10 => ?_)
    refine x_iload (x := l5) rfl rfl ?_
    refine z_iast (N := 50660) (l := 20) (u := 18020) (w := l5.toInt) rfl hD J Sm rfl rfl rfl (by omega) rfl (wr_126_20 (by omega) (fun q1 q2 q3 q4 => by omega) (fun q1 q2 q3 q4 => by omega) (fun q1 q2 q3 q4 => by omega) (fun q1 q2 q3 q4 => by omega) (fun q1 q2 q3 q4 => by omega) (fun q1 q2 q3 q4 => by omega) (fun q1 q2 q3 q4 => by omega) (fun q1 q2 q3 q4 => by omega) (fun q1 q2 q3 q4 => by omega) (fun q1 q2 q3 q4 => by omega) (fun q1 q2 q3 q4 => by omega) (fun q1 q2 q3 q4 => by omega) (fun q1 q2 q3 q4 => by omega) (fun q1 q2 q3 q4 => by omega) (fun q1 q2 q3 q4 => by omega) (fun q1 q2 q3 q4 => by omega) (fun q1 q2 q3 q4 => by omega) (fun q1 q2 q3 q4 => by omega) (fun q1 q2 q3 q4 => by omega) (fun q1 q2 q3 q4 => by omega) (fun q1 q2 q3 q4 => by omega) (fun q1 q2 q3 q4 => by omega) (fun q1 q2 q3 q4 => by omega)) rfl (fun h w11 J Sm => ?_)
    refine x_aloadn (x := 125) rfl rfl ?_
    refine z_getR (N := 92) (b := 126) 12 2 rfl f_12_8 rfl J rfl 16002 ⟨rfl, rfl⟩ rfl ?_
    refine x_iload (x := l8) rfl rfl ?_
    refine x_iconst (v := 5) rfl ki_5 ?_
    refine z_iadd rfl rfl jk_5 (by omega) (fun v12 ev12 => ?_)
    refine x_iload (x := l11) rfl rfl ?_
    refine x_ifeq (tgt := 391) rfl rfl (ti_eq rfl jk_0 ⟨fun c13 => ?_, fun c13 => ?_⟩)
    ·
      refine x_iconst (v := 1) rfl ki_1 ?_
      exact jX.sub (jsb_c rfl (jsb_c rfl jsb_n)) (ct_X12_line_r125p_300392 hD hQ  l7 v12 g0 g1 g2 g3 g4 g5 g6 0 g9 h (jr_of rfl (by omega)) (jr_of rfl (by omega)) (jr_mod rfl (by omega)) (jr_of rfl (by omega)) (jr_of rfl (by omega)) (jr_of rfl (by omega)) (jr_of rfl (by omega)) (jr_of rfl (by omega)) (jr_of rfl (by omega)) (jr_of rfl (by omega)) (jr_of jk_0 (by omega)) (jr_of rfl (by omega)) (by omega) (by omega) (jmo2 w11 rfl jk_0 (by omega) (jmo2 w9 rfl jk_0 (by omega) (jmo2 w7 rfl jk_0 (by omega) (jmo2 w5 rfl jk_0 (by omega) (jmo2 w3 rfl jk_0 (by omega) (jmo w1 rfl z0)))))) (jmo2 w11 rfl jk_16 (by omega) (jmo2 w9 rfl jk_16 (by omega) (jmo2 w7 rfl jk_16 (by omega) (jmo2 w5 rfl jk_16 (by omega) (jmo2 w3 rfl jk_16 (by omega) (jmo w1 rfl z1)))))) (jmo2 w11 rfl jk_4 (by omega) (jmo2 w9 rfl jk_4 (by omega) (jmo2 w7 rfl jk_4 (by omega) (jmo2 w5 rfl jk_4 (by omega) (jmo2 w3 rfl jk_4 (by omega) (jmo w1 rfl z2)))))) (jmo2 w11 rfl jk_5 (by omega) (jmo2 w9 rfl jk_5 (by omega) (jmo2 w7 rfl jk_5 (by omega) (jmo2 w5 rfl jk_5 (by omega) (jmo2 w3 rfl jk_5 (by omega) (jmo w1 rfl z3)))))) (jmo2 w11 rfl jk_7 (by omega) (jmo2 w9 rfl jk_7 (by omega) (jmo2 w7 rfl jk_7 (by omega) (jmo2 w5 rfl jk_7 (by omega) (jmo2 w3 rfl jk_7 (by omega) (jmo w1 rfl z4)))))) (jmo w11 rfl (jmo w9 rfl (jmo w7 rfl (jmo w5 rfl (jmo w3 rfl (jmo w1 rfl z5)))))) (jmo w11 rfl (jmo w9 rfl (jmo w7 rfl (jmo w5 rfl (jmo w3 rfl (jmo w1 rfl z6)))))) (jmo w11 rfl (jmo w9 rfl (jmo w7 rfl (jmo w5 rfl (jmo w3 rfl (jmw w1)))))) (jmo w11 rfl (jmo w9 rfl (jmo w7 rfl (jmo w5 rfl (jmo w3 rfl (jmo w1 rfl z9)))))) J Sm)
    ·
      refine x_iconst (v := 0) rfl ki_0 ?_
      refine x_goto (tgt := 392) rfl rfl ?_
      exact jX.sub (jsb_c rfl (jsb_c rfl jsb_n)) (ct_X12_line_r125p_200392 hD hQ  l7 v12 g0 g1 g2 g3 g4 g5 g6 0 g9 h (jr_of rfl (by omega)) (jr_of rfl (by omega)) (jr_mod rfl (by omega)) (jr_of rfl (by omega)) (jr_of rfl (by omega)) (jr_of rfl (by omega)) (jr_of rfl (by omega)) (jr_of rfl (by omega)) (jr_of rfl (by omega)) (jr_of rfl (by omega)) (jr_of jk_0 (by omega)) (jr_of rfl (by omega)) (by omega) (by omega) (jmo2 w11 rfl jk_0 (by omega) (jmo2 w9 rfl jk_0 (by omega) (jmo2 w7 rfl jk_0 (by omega) (jmo2 w5 rfl jk_0 (by omega) (jmo2 w3 rfl jk_0 (by omega) (jmo w1 rfl z0)))))) (jmo2 w11 rfl jk_16 (by omega) (jmo2 w9 rfl jk_16 (by omega) (jmo2 w7 rfl jk_16 (by omega) (jmo2 w5 rfl jk_16 (by omega) (jmo2 w3 rfl jk_16 (by omega) (jmo w1 rfl z1)))))) (jmo2 w11 rfl jk_4 (by omega) (jmo2 w9 rfl jk_4 (by omega) (jmo2 w7 rfl jk_4 (by omega) (jmo2 w5 rfl jk_4 (by omega) (jmo2 w3 rfl jk_4 (by omega) (jmo w1 rfl z2)))))) (jmo2 w11 rfl jk_5 (by omega) (jmo2 w9 rfl jk_5 (by omega) (jmo2 w7 rfl jk_5 (by omega) (jmo2 w5 rfl jk_5 (by omega) (jmo2 w3 rfl jk_5 (by omega) (jmo w1 rfl z3)))))) (jmo2 w11 rfl jk_7 (by omega) (jmo2 w9 rfl jk_7 (by omega) (jmo2 w7 rfl jk_7 (by omega) (jmo2 w5 rfl jk_7 (by omega) (jmo2 w3 rfl jk_7 (by omega) (jmo w1 rfl z4)))))) (jmo w11 rfl (jmo w9 rfl (jmo w7 rfl (jmo w5 rfl (jmo w3 rfl (jmo w1 rfl z5)))))) (jmo w11 rfl (jmo w9 rfl (jmo w7 rfl (jmo w5 rfl (jmo w3 rfl (jmo w1 rfl z6)))))) (jmo w11 rfl (jmo w9 rfl (jmo w7 rfl (jmo w5 rfl (jmo w3 rfl (jmw w1)))))) (jmo w11 rfl (jmo w9 rfl (jmo w7 rfl (jmo w5 rfl (jmo w3 rfl (jmo w1 rfl z9)))))) J Sm)
  ·
    refine x_aloadn (x := 125) rfl rfl ?_
    refine x_bipush (v := (-6)) rfl kb_m6 ?_
    refine x_inv (N := m_X12_told) (As := [.int (-6)]) (b := 125) (st := []) (dx9 := 1) (mc := 0) (ms := 0) (host := "") 12 rfl t_X12_told ⟨Or.inl q_12_197, i_X12_told.1, i_X12_told.2⟩ ⟨by decide, rfl⟩ (congrArg Prod.fst (J.1.1 125 (12, 92) rfl)) rfl (by decide) rfl rfl ⟨by decide, by decide⟩ (sf_X12_told_r125  hD J  (fun v15 h J S14 => ?_))
    have ev15 := jfull v15
    have Sm := jSm_tr rfl Sm S14
    show jX m_X12_line 6 0 0 323 [(0, .ref 125), (1, .int l1), (2, .int l2), (3, .int l3), (4, .int l4), (5, .int l5), (7, .int l7), (8, .int l8), (11, .int l11)] [.int v15] _ 0 0 _
    refine x_iret rfl rfl ?_
    exact hQ _ _ J Sm _ _ _ _ _ (jmc S14 rfl (jmo w1 rfl z1)) (jmc S14 rfl (jmo w1 rfl z0)) (jmc S14 rfl (jmo w1 rfl z2)) (jmc S14 rfl (jmo w1 rfl z3)) (jmc S14 rfl (jmo w1 rfl z4)) (by omega) (by have := congrArg Int32.toInt (jmc S14 rfl (jmw w1)); have := jk_0; omega)
set_option maxRecDepth 100000 in
set_option maxHeartbeats 4000000 in
theorem ct_X12_line_r125p_300269 {Dy : jH → Prop} {h0 : jH} {Q : Option Value → jH → Prop} (hD : jDk Dy) (hQ : ∀ (v : Int32) hx9, jJ jSgM Dy hx9 → jSm fp_X12_line_r125p h0 hx9 → ∀ u0 u1 u2 u3 u4 : Int32, jiv hx9 126 (16 : Int32).toNatClampNeg = u0 → jiv hx9 126 (0 : Int32).toNatClampNeg = u1 → jiv hx9 126 (4 : Int32).toNatClampNeg = u2 → jiv hx9 126 (5 : Int32).toNatClampNeg = u3 → jiv hx9 126 (7 : Int32).toNatClampNeg = u4 → u0.toInt = u1.toInt + u2.toInt + u3.toInt + u4.toInt → (jiv hx9 125 8).toInt = 0 → Q (some (.int v)) hx9) : ∀ (l1 : Int32) (l2 : Int32) (l3 : Int32) (l4 : Int32) (l5 : Int32) (l7 : Int32) (l8 : Int32) (g0 : Int32) (g1 : Int32) (g2 : Int32) (g3 : Int32) (g4 : Int32) (g5 : Int32) (g6 : Int32) (g7 : Int32) (g8 : Int32) (g9 : Int32) (h : jH), 0 ≤ l1.toInt ∧ l1.toInt ≤ 5 → 0 ≤ l2.toInt ∧ l2.toInt ≤ 15 → 0 ≤ l3.toInt ∧ l3.toInt ≤ 146399 → 0 ≤ l4.toInt ∧ l4.toInt ≤ 146399 → (-1) ≤ l5.toInt ∧ l5.toInt ≤ 100000 → 0 ≤ l7.toInt ∧ l7.toInt ≤ 199 → 20 ≤ l8.toInt ∧ l8.toInt ≤ 17930 → l8.toInt % 90 = 20 → 0 ≤ g0.toInt ∧ g0.toInt ≤ 199 → 0 ≤ g1.toInt ∧ g1.toInt ≤ 369 → 0 ≤ g2.toInt ∧ g2.toInt ≤ 30 → 0 ≤ g3.toInt ∧ g3.toInt ≤ 100 → 0 ≤ g4.toInt ∧ g4.toInt ≤ 40 → 0 ≤ g5.toInt ∧ g5.toInt ≤ 400 → 1 ≤ g6.toInt ∧ g6.toInt ≤ 3 → 0 ≤ g7.toInt ∧ g7.toInt ≤ 0 → 0 ≤ g8.toInt ∧ g8.toInt ≤ 400 → 0 ≤ g9.toInt ∧ g9.toInt ≤ 400 → g1.toInt = g0.toInt + g2.toInt + g3.toInt + g4.toInt → (g5.toInt ≤ g8.toInt ∧ g9.toInt ≤ g5.toInt) → (g6.toInt = 0 ∨ g9.toInt + 1 ≤ g5.toInt) → jiv h 126 (0 : Int32).toNatClampNeg = g0 → jiv h 126 (16 : Int32).toNatClampNeg = g1 → jiv h 126 (4 : Int32).toNatClampNeg = g2 → jiv h 126 (5 : Int32).toNatClampNeg = g3 → jiv h 126 (7 : Int32).toNatClampNeg = g4 → jiv h 125 10 = g5 → jiv h 125 11 = g6 → jiv h 125 14 = g7 → jiv h 125 8 = g8 → jiv h 125 9 = g9 → jJ jSgM Dy h → jSm fp_X12_line_r125p h0 h → jX m_X12_line 6 0 0 269 [(0, .ref 125), (1, .int l1), (2, .int l2), (3, .int l3), (4, .int l4), (5, .int l5), (7, .int l7), (8, .int l8)] [.int 1] h 0 0 Q := by
  intro l1 l2 l3 l4 l5 l7 l8 g0 g1 g2 g3 g4 g5 g6 g7 g8 g9 h y0 y1 y2 y3 y4 y5 y6 y7 y8 y9 y10 y11 y12 y13 y14 y15 y16 y17 y18 y19 y20 z0 z1 z2 z3 z4 z5 z6 z7 z8 z9  J Sm
  refine x_istore (lsx9 := [(11, .int 1), (0, .ref 125), (1, .int l1), (2, .int l2), (3, .int l3), (4, .int l4), (5, .int l5), (7, .int l7), (8, .int l8)]) rfl rfl rfl ?_
  refine x_iload (x := 1) rfl rfl ?_
  refine x_ifeq (tgt := 305) rfl rfl (ti_eq jk_1 jk_0 (br_f (by omega) ?_))
  refine x_aloadn (x := 125) rfl rfl ?_
  refine x_aloadn (x := 125) rfl rfl ?_
  refine x_bipush (v := 46) rfl kb_46 ?_
  refine x_inv (N := m_X12_isSign) (As := [.int 46]) (b := 125) (st := [.ref 125]) (dx9 := 5) (mc := 0) (ms := 0) (host := "") 12 rfl t_X12_isSign ⟨Or.inl q_12_257, i_X12_isSign.1, i_X12_isSign.2⟩ ⟨by decide, rfl⟩ (congrArg Prod.fst (J.1.1 125 (12, 92) rfl)) rfl (by decide) rfl rfl ⟨by decide, by decide⟩ (jC.of rfl k_X12_isSign rfl ?_)
  show jX m_X12_isSign 5 0 0 0 [(0, .ref 125), (1, .int 46)] [] _ 0 0 _
  refine x_aloadn (x := 125) rfl rfl ?_
  refine z_getM (N := 92) (v := g6) 12 11 rfl f_12_235 rfl J rfl z6 ?_
  refine x_iconst (v := 3) rfl ki_3 ?_
  refine x_icne (tgt := 22) rfl rfl (ti_ne rfl jk_3 ⟨fun c1 => ?_, fun c1 => ?_⟩)
  ·
    refine x_iconst (v := 0) rfl ki_0 ?_
    refine x_zret rfl rfl (by decide) ?_
    show jX m_X12_line 6 0 0 283 [(11, .int 1), (0, .ref 125), (1, .int l1), (2, .int l2), (3, .int l3), (4, .int l4), (5, .int l5), (7, .int l7), (8, .int l8)] [.int 0, .ref 125] _ 0 0 _
    refine x_inv (N := m_X12_must) (As := [.int 0]) (b := 125) (st := []) (dx9 := 5) (mc := 0) (ms := 0) (host := "") 12 rfl t_X12_must ⟨Or.inl q_12_250, i_X12_must.1, i_X12_must.2⟩ ⟨by decide, rfl⟩ (congrArg Prod.fst (J.1.1 125 (12, 92) rfl)) rfl (by decide) rfl rfl ⟨by decide, by decide⟩ (jC.of rfl k_X12_must rfl ?_)
    show jX m_X12_must 5 0 0 0 [(0, .ref 125), (1, .int 0)] [] _ 0 0 _
    refine x_aloadn (x := 125) rfl rfl ?_
    refine z_getM (N := 92) (v := g7) 12 14 rfl f_12_214 rfl J rfl z7 ?_
    refine x_ifne (tgt := 24) rfl rfl (ti_ne rfl jk_0 (bn_f (by omega) ?_))
    refine x_iloadn (x := 0) rfl rfl ?_
    refine x_ifne (tgt := 24) rfl rfl (ti_ne jk_0 jk_0 (bn_f (by omega) ?_))
    refine x_aloadn (x := 125) rfl rfl ?_
    refine x_iconst (v := 1) rfl ki_1 ?_
    refine z_putZ (N := 92) (w := 1) 12 14 rfl f_12_214 rfl (jfin_no TX12 RX12 92 rfl rfl) hD J Sm rfl rfl jk_1 (by omega) (pw_125_14 (by omega)) rfl (fun h w2 J Sm => ?_)
    refine x_aloadn (x := 125) rfl rfl ?_
    refine x_aloadn (x := 125) rfl rfl ?_
    refine z_getM (N := 92) (v := g9) 12 9 rfl f_12_221 rfl J rfl (jmo w2 rfl z9) ?_
    refine z_putI (N := 92) (w := g9.toInt) 12 13 rfl f_12_32 rfl (jfin_no TX12 RX12 92 rfl rfl) hD J Sm rfl rfl rfl (pw_125_13 (by omega)) rfl (fun h w3 J Sm => ?_)
    refine x_aloadn (x := 125) rfl rfl ?_
    refine z_getM (N := 92) (v := 1) 12 14 rfl f_12_214 rfl J rfl (jmo w3 rfl (jmw w2)) ?_
    refine x_ifne (tgt := 35) rfl rfl (ti_ne jk_1 jk_0 (bn_t (by omega) ?_))
    refine x_vret rfl rfl ?_
    show jX m_X12_line 6 0 0 286 [(11, .int 1), (0, .ref 125), (1, .int l1), (2, .int l2), (3, .int l3), (4, .int l4), (5, .int l5), (7, .int l7), (8, .int l8)] [] _ 0 0 _
    refine x_aloadn (x := 125) rfl rfl ?_
    refine z_getM (N := 92) (v := 1) 12 14 rfl f_12_214 rfl J rfl (jmo w3 rfl (jmw w2)) ?_
    refine x_ifne (tgt := 305) rfl rfl (ti_ne jk_1 jk_0 (bn_t (by omega) ?_))
    exact jX.sub (jsb_c rfl (jsb_c rfl (jsb_c rfl (jsb_c rfl (jsb_c rfl (jsb_c rfl (jsb_c rfl (jsb_c rfl (jsb_c rfl jsb_n))))))))) (ct_X12_line_r125p_305 hD hQ  l1 l2 l3 l4 l5 l7 l8 1 g0 g1 g2 g3 g4 g5 g6 1 g8 g9 h (jr_of rfl (by omega)) (jr_of rfl (by omega)) (jr_of rfl (by omega)) (jr_of rfl (by omega)) (jr_of rfl (by omega)) (jr_of rfl (by omega)) (jr_of rfl (by omega)) (jr_mod rfl (by omega)) (jr_of jk_1 (by omega)) (jr_of rfl (by omega)) (jr_of rfl (by omega)) (jr_of rfl (by omega)) (jr_of rfl (by omega)) (jr_of rfl (by omega)) (jr_of rfl (by omega)) (jr_of rfl (by omega)) (jr_of jk_1 (by omega)) (jr_of rfl (by omega)) (jr_of rfl (by omega)) (by omega) (by omega) (by omega) (jmo w3 rfl (jmo w2 rfl z0)) (jmo w3 rfl (jmo w2 rfl z1)) (jmo w3 rfl (jmo w2 rfl z2)) (jmo w3 rfl (jmo w2 rfl z3)) (jmo w3 rfl (jmo w2 rfl z4)) (jmo w3 rfl (jmo w2 rfl z5)) (jmo w3 rfl (jmo w2 rfl z6)) (jmo w3 rfl (jmw w2)) (jmo w3 rfl (jmo w2 rfl z8)) (jmo w3 rfl (jmo w2 rfl z9)) J Sm)
  ·
    refine x_aloadn (x := 125) rfl rfl ?_
    refine z_getL0 (N := 92) 12 12 rfl f_12_224 rfl J rfl (fun v4 => ?_)
    have ev4 := jfullL v4
    refine x_iloadn (x := 46) rfl rfl ?_
    refine z_i2l rfl jk_46 (fun v5 ev5 => ?_)
    refine z_lcmp rfl rfl rfl (fun v6 ev6 => ?_)
    refine x_ifne (tgt := 22) rfl rfl (ti_ne rfl jk_0 ⟨fun c7 => ?_, fun c7 => ?_⟩)
    ·
      refine x_iconst (v := 0) rfl ki_0 ?_
      refine x_zret rfl rfl (by decide) ?_
      show jX m_X12_line 6 0 0 283 [(11, .int 1), (0, .ref 125), (1, .int l1), (2, .int l2), (3, .int l3), (4, .int l4), (5, .int l5), (7, .int l7), (8, .int l8)] [.int 0, .ref 125] _ 0 0 _
      refine x_inv (N := m_X12_must) (As := [.int 0]) (b := 125) (st := []) (dx9 := 5) (mc := 0) (ms := 0) (host := "") 12 rfl t_X12_must ⟨Or.inl q_12_250, i_X12_must.1, i_X12_must.2⟩ ⟨by decide, rfl⟩ (congrArg Prod.fst (J.1.1 125 (12, 92) rfl)) rfl (by decide) rfl rfl ⟨by decide, by decide⟩ (jC.of rfl k_X12_must rfl ?_)
      show jX m_X12_must 5 0 0 0 [(0, .ref 125), (1, .int 0)] [] _ 0 0 _
      refine x_aloadn (x := 125) rfl rfl ?_
      refine z_getM (N := 92) (v := g7) 12 14 rfl f_12_214 rfl J rfl z7 ?_
      refine x_ifne (tgt := 24) rfl rfl (ti_ne rfl jk_0 (bn_f (by omega) ?_))
      refine x_iloadn (x := 0) rfl rfl ?_
      refine x_ifne (tgt := 24) rfl rfl (ti_ne jk_0 jk_0 (bn_f (by omega) ?_))
      refine x_aloadn (x := 125) rfl rfl ?_
      refine x_iconst (v := 1) rfl ki_1 ?_
      refine z_putZ (N := 92) (w := 1) 12 14 rfl f_12_214 rfl (jfin_no TX12 RX12 92 rfl rfl) hD J Sm rfl rfl jk_1 (by omega) (pw_125_14 (by omega)) rfl (fun h w8 J Sm => ?_)
      refine x_aloadn (x := 125) rfl rfl ?_
      refine x_aloadn (x := 125) rfl rfl ?_
      refine z_getM (N := 92) (v := g9) 12 9 rfl f_12_221 rfl J rfl (jmo w8 rfl z9) ?_
      refine z_putI (N := 92) (w := g9.toInt) 12 13 rfl f_12_32 rfl (jfin_no TX12 RX12 92 rfl rfl) hD J Sm rfl rfl rfl (pw_125_13 (by omega)) rfl (fun h w9 J Sm => ?_)
      refine x_aloadn (x := 125) rfl rfl ?_
      refine z_getM (N := 92) (v := 1) 12 14 rfl f_12_214 rfl J rfl (jmo w9 rfl (jmw w8)) ?_
      refine x_ifne (tgt := 35) rfl rfl (ti_ne jk_1 jk_0 (bn_t (by omega) ?_))
      refine x_vret rfl rfl ?_
      show jX m_X12_line 6 0 0 286 [(11, .int 1), (0, .ref 125), (1, .int l1), (2, .int l2), (3, .int l3), (4, .int l4), (5, .int l5), (7, .int l7), (8, .int l8)] [] _ 0 0 _
      refine x_aloadn (x := 125) rfl rfl ?_
      refine z_getM (N := 92) (v := 1) 12 14 rfl f_12_214 rfl J rfl (jmo w9 rfl (jmw w8)) ?_
      refine x_ifne (tgt := 305) rfl rfl (ti_ne jk_1 jk_0 (bn_t (by omega) ?_))
      exact jX.sub (jsb_c rfl (jsb_c rfl (jsb_c rfl (jsb_c rfl (jsb_c rfl (jsb_c rfl (jsb_c rfl (jsb_c rfl (jsb_c rfl jsb_n))))))))) (ct_X12_line_r125p_305 hD hQ  l1 l2 l3 l4 l5 l7 l8 1 g0 g1 g2 g3 g4 g5 g6 1 g8 g9 h (jr_of rfl (by omega)) (jr_of rfl (by omega)) (jr_of rfl (by omega)) (jr_of rfl (by omega)) (jr_of rfl (by omega)) (jr_of rfl (by omega)) (jr_of rfl (by omega)) (jr_mod rfl (by omega)) (jr_of jk_1 (by omega)) (jr_of rfl (by omega)) (jr_of rfl (by omega)) (jr_of rfl (by omega)) (jr_of rfl (by omega)) (jr_of rfl (by omega)) (jr_of rfl (by omega)) (jr_of rfl (by omega)) (jr_of jk_1 (by omega)) (jr_of rfl (by omega)) (jr_of rfl (by omega)) (by omega) (by omega) (by omega) (jmo w9 rfl (jmo w8 rfl z0)) (jmo w9 rfl (jmo w8 rfl z1)) (jmo w9 rfl (jmo w8 rfl z2)) (jmo w9 rfl (jmo w8 rfl z3)) (jmo w9 rfl (jmo w8 rfl z4)) (jmo w9 rfl (jmo w8 rfl z5)) (jmo w9 rfl (jmo w8 rfl z6)) (jmo w9 rfl (jmw w8)) (jmo w9 rfl (jmo w8 rfl z8)) (jmo w9 rfl (jmo w8 rfl z9)) J Sm)
    ·
      refine x_iconst (v := 1) rfl ki_1 ?_
      refine x_goto (tgt := 23) rfl rfl ?_
      refine x_zret rfl rfl (by decide) ?_
      show jX m_X12_line 6 0 0 283 [(11, .int 1), (0, .ref 125), (1, .int l1), (2, .int l2), (3, .int l3), (4, .int l4), (5, .int l5), (7, .int l7), (8, .int l8)] [.int 1, .ref 125] _ 0 0 _
      refine x_inv (N := m_X12_must) (As := [.int 1]) (b := 125) (st := []) (dx9 := 5) (mc := 0) (ms := 0) (host := "") 12 rfl t_X12_must ⟨Or.inl q_12_250, i_X12_must.1, i_X12_must.2⟩ ⟨by decide, rfl⟩ (congrArg Prod.fst (J.1.1 125 (12, 92) rfl)) rfl (by decide) rfl rfl ⟨by decide, by decide⟩ (jC.of rfl k_X12_must rfl ?_)
      show jX m_X12_must 5 0 0 0 [(0, .ref 125), (1, .int 1)] [] _ 0 0 _
      refine x_aloadn (x := 125) rfl rfl ?_
      refine z_getM (N := 92) (v := g7) 12 14 rfl f_12_214 rfl J rfl z7 ?_
      refine x_ifne (tgt := 24) rfl rfl (ti_ne rfl jk_0 (bn_f (by omega) ?_))
      refine x_iloadn (x := 1) rfl rfl ?_
      refine x_ifne (tgt := 24) rfl rfl (ti_ne jk_1 jk_0 (bn_t (by omega) ?_))
      refine x_aloadn (x := 125) rfl rfl ?_
      refine z_getM (N := 92) (v := g7) 12 14 rfl f_12_214 rfl J rfl z7 ?_
      refine x_ifne (tgt := 35) rfl rfl (ti_ne rfl jk_0 (bn_f (by omega) ?_))
      refine x_aloadn (x := 125) rfl rfl ?_
      refine x_inv (N := m_X12_next) (As := []) (b := 125) (st := []) (dx9 := 2) (mc := 0) (ms := 0) (host := "") 12 rfl t_X12_next ⟨Or.inl q_12_218, i_X12_next.1, i_X12_next.2⟩ ⟨by decide, rfl⟩ (congrArg Prod.fst (J.1.1 125 (12, 92) rfl)) rfl (by decide) rfl rfl ⟨by decide, by decide⟩ (sf_X12_next_r125  hD J z5 z8 (by omega)  (fun h J S10 u11 u12 u13 qu11 qu12 qu13 ru11 u14 u15 u16 qu14 qu15 qu16 ru14 P17 => ?_))
      have Sm := jSm_tr rfl Sm S10
      have eu11 := (show 0 ≤ u11.toInt ∧ u11.toInt ≤ 400 from qu11 ▸ jrg_f J sg_125_10_11_1_0_1)
      have eu12 := (show 0 ≤ u12.toInt ∧ u12.toInt ≤ 400 from qu12 ▸ jrg_f J sg_125_8_9_1_0_1)
      have eu13 := (show 0 ≤ u13.toInt ∧ u13.toInt ≤ 400 from qu13 ▸ jrg_f J sg_125_9_10_1_0_1)
      have eu14 := (show 0 ≤ u14.toInt ∧ u14.toInt ≤ 3 from qu14 ▸ jrg_f J sg_125_11_12_1_0_1)
      obtain rfl : u13 = u15 := qu13.symm.trans qu15
      obtain rfl : u11 = u16 := qu11.symm.trans qu16
      have nfP17 := jnf P17.1 z5 qu13
      show jX m_X12_must 5 0 0 35 [(0, .ref 125), (1, .int 1)] [] _ 0 0 _
      refine x_vret rfl rfl ?_
      show jX m_X12_line 6 0 0 286 [(11, .int 1), (0, .ref 125), (1, .int l1), (2, .int l2), (3, .int l3), (4, .int l4), (5, .int l5), (7, .int l7), (8, .int l8)] [] _ 0 0 _
      refine x_aloadn (x := 125) rfl rfl ?_
      refine z_getM (N := 92) (v := g7) 12 14 rfl f_12_214 rfl J rfl (jmc S10 rfl z7) ?_
      refine x_ifne (tgt := 305) rfl rfl (ti_ne rfl jk_0 (bn_f (by omega) ?_))
      refine x_aloadn (x := 125) rfl rfl ?_
      refine z_getM (N := 92) (v := u14) 12 11 rfl f_12_235 rfl J rfl qu14 ?_
      refine x_ifeq (tgt := 305) rfl rfl (ti_eq rfl jk_0 ⟨fun c18 => ?_, fun c18 => ?_⟩)
      ·
        exact jX.sub (jsb_c rfl (jsb_c rfl (jsb_c rfl (jsb_c rfl (jsb_c rfl (jsb_c rfl (jsb_c rfl (jsb_c rfl (jsb_c rfl jsb_n))))))))) (ct_X12_line_r125p_305 hD hQ  l1 l2 l3 l4 l5 l7 l8 1 g0 g1 g2 g3 g4 u11 u14 g7 u12 u13 h (jr_of rfl (by omega)) (jr_of rfl (by omega)) (jr_of rfl (by omega)) (jr_of rfl (by omega)) (jr_of rfl (by omega)) (jr_of rfl (by omega)) (jr_of rfl (by omega)) (jr_mod rfl (by omega)) (jr_of jk_1 (by omega)) (jr_of rfl (by omega)) (jr_of rfl (by omega)) (jr_of rfl (by omega)) (jr_of rfl (by omega)) (jr_of rfl (by omega)) (jr_of rfl (by omega)) (jr_of rfl (by omega)) (jr_of rfl (by omega)) (jr_of rfl (by omega)) (jr_of rfl (by omega)) (by omega) (by omega) (by omega) (jmc S10 rfl z0) (jmc S10 rfl z1) (jmc S10 rfl z2) (jmc S10 rfl z3) (jmc S10 rfl z4) qu11 qu14 (jmc S10 rfl z7) qu12 qu13 J Sm)
      ·
        refine x_aloadn (x := 125) rfl rfl ?_
        refine x_iconst (v := 0) rfl ki_0 ?_
        refine x_inv (N := m_X12_must) (As := [.int 0]) (b := 125) (st := []) (dx9 := 5) (mc := 0) (ms := 0) (host := "") 12 rfl t_X12_must ⟨Or.inl q_12_250, i_X12_must.1, i_X12_must.2⟩ ⟨by decide, rfl⟩ (congrArg Prod.fst (J.1.1 125 (12, 92) rfl)) rfl (by decide) rfl rfl ⟨by decide, by decide⟩ (jC.of rfl k_X12_must rfl ?_)
        show jX m_X12_must 5 0 0 0 [(0, .ref 125), (1, .int 0)] [] _ 0 0 _
        refine x_aloadn (x := 125) rfl rfl ?_
        refine z_getM (N := 92) (v := g7) 12 14 rfl f_12_214 rfl J rfl (jmc S10 rfl z7) ?_
        refine x_ifne (tgt := 24) rfl rfl (ti_ne rfl jk_0 (bn_f (by omega) ?_))
        refine x_iloadn (x := 0) rfl rfl ?_
        refine x_ifne (tgt := 24) rfl rfl (ti_ne jk_0 jk_0 (bn_f (by omega) ?_))
        refine x_aloadn (x := 125) rfl rfl ?_
        refine x_iconst (v := 1) rfl ki_1 ?_
        refine z_putZ (N := 92) (w := 1) 12 14 rfl f_12_214 rfl (jfin_no TX12 RX12 92 rfl rfl) hD J Sm rfl rfl jk_1 (by omega) (pw_125_14 (by omega)) rfl (fun h w19 J Sm => ?_)
        refine x_aloadn (x := 125) rfl rfl ?_
        refine x_aloadn (x := 125) rfl rfl ?_
        refine z_getM (N := 92) (v := u13) 12 9 rfl f_12_221 rfl J rfl (jmo w19 rfl qu13) ?_
        refine z_putI (N := 92) (w := u13.toInt) 12 13 rfl f_12_32 rfl (jfin_no TX12 RX12 92 rfl rfl) hD J Sm rfl rfl rfl (pw_125_13 (by omega)) rfl (fun h w20 J Sm => ?_)
        refine x_aloadn (x := 125) rfl rfl ?_
        refine z_getM (N := 92) (v := 1) 12 14 rfl f_12_214 rfl J rfl (jmo w20 rfl (jmw w19)) ?_
        refine x_ifne (tgt := 35) rfl rfl (ti_ne jk_1 jk_0 (bn_t (by omega) ?_))
        refine x_vret rfl rfl ?_
        show jX m_X12_line 6 0 0 305 [(11, .int 1), (0, .ref 125), (1, .int l1), (2, .int l2), (3, .int l3), (4, .int l4), (5, .int l5), (7, .int l7), (8, .int l8)] [] _ 0 0 _
        exact jX.sub (jsb_c rfl (jsb_c rfl (jsb_c rfl (jsb_c rfl (jsb_c rfl (jsb_c rfl (jsb_c rfl (jsb_c rfl (jsb_c rfl jsb_n))))))))) (ct_X12_line_r125p_305 hD hQ  l1 l2 l3 l4 l5 l7 l8 1 g0 g1 g2 g3 g4 u11 u14 1 u12 u13 h (jr_of rfl (by omega)) (jr_of rfl (by omega)) (jr_of rfl (by omega)) (jr_of rfl (by omega)) (jr_of rfl (by omega)) (jr_of rfl (by omega)) (jr_of rfl (by omega)) (jr_mod rfl (by omega)) (jr_of jk_1 (by omega)) (jr_of rfl (by omega)) (jr_of rfl (by omega)) (jr_of rfl (by omega)) (jr_of rfl (by omega)) (jr_of rfl (by omega)) (jr_of rfl (by omega)) (jr_of rfl (by omega)) (jr_of jk_1 (by omega)) (jr_of rfl (by omega)) (jr_of rfl (by omega)) (by omega) (by omega) (by omega) (jmo w20 rfl (jmo w19 rfl (jmc S10 rfl z0))) (jmo w20 rfl (jmo w19 rfl (jmc S10 rfl z1))) (jmo w20 rfl (jmo w19 rfl (jmc S10 rfl z2))) (jmo w20 rfl (jmo w19 rfl (jmc S10 rfl z3))) (jmo w20 rfl (jmo w19 rfl (jmc S10 rfl z4))) (jmo w20 rfl (jmo w19 rfl qu11)) (jmo w20 rfl (jmo w19 rfl qu14)) (jmo w20 rfl (jmw w19)) (jmo w20 rfl (jmo w19 rfl qu12)) (jmo w20 rfl (jmo w19 rfl qu13)) J Sm)
set_option maxRecDepth 100000 in
set_option maxHeartbeats 4000000 in
theorem ct_X12_line_r125p_200269 {Dy : jH → Prop} {h0 : jH} {Q : Option Value → jH → Prop} (hD : jDk Dy) (hQ : ∀ (v : Int32) hx9, jJ jSgM Dy hx9 → jSm fp_X12_line_r125p h0 hx9 → ∀ u0 u1 u2 u3 u4 : Int32, jiv hx9 126 (16 : Int32).toNatClampNeg = u0 → jiv hx9 126 (0 : Int32).toNatClampNeg = u1 → jiv hx9 126 (4 : Int32).toNatClampNeg = u2 → jiv hx9 126 (5 : Int32).toNatClampNeg = u3 → jiv hx9 126 (7 : Int32).toNatClampNeg = u4 → u0.toInt = u1.toInt + u2.toInt + u3.toInt + u4.toInt → (jiv hx9 125 8).toInt = 0 → Q (some (.int v)) hx9) : ∀ (l1 : Int32) (l2 : Int32) (l3 : Int32) (l4 : Int32) (l5 : Int32) (l7 : Int32) (l8 : Int32) (g0 : Int32) (g1 : Int32) (g2 : Int32) (g3 : Int32) (g4 : Int32) (g5 : Int32) (g6 : Int32) (g7 : Int32) (g8 : Int32) (g9 : Int32) (h : jH), 0 ≤ l1.toInt ∧ l1.toInt ≤ 5 → 0 ≤ l2.toInt ∧ l2.toInt ≤ 15 → 0 ≤ l3.toInt ∧ l3.toInt ≤ 146399 → 0 ≤ l4.toInt ∧ l4.toInt ≤ 146399 → (-1) ≤ l5.toInt ∧ l5.toInt ≤ 100000 → 0 ≤ l7.toInt ∧ l7.toInt ≤ 199 → 20 ≤ l8.toInt ∧ l8.toInt ≤ 17930 → l8.toInt % 90 = 20 → 0 ≤ g0.toInt ∧ g0.toInt ≤ 199 → 0 ≤ g1.toInt ∧ g1.toInt ≤ 369 → 0 ≤ g2.toInt ∧ g2.toInt ≤ 30 → 0 ≤ g3.toInt ∧ g3.toInt ≤ 100 → 0 ≤ g4.toInt ∧ g4.toInt ≤ 40 → 0 ≤ g5.toInt ∧ g5.toInt ≤ 400 → 0 ≤ g6.toInt ∧ g6.toInt ≤ 3 → 0 ≤ g7.toInt ∧ g7.toInt ≤ 1 → 0 ≤ g8.toInt ∧ g8.toInt ≤ 400 → 0 ≤ g9.toInt ∧ g9.toInt ≤ 400 → g1.toInt = g0.toInt + g2.toInt + g3.toInt + g4.toInt → (g5.toInt ≤ g8.toInt ∧ g9.toInt ≤ g5.toInt) → (g6.toInt = 0 ∨ g9.toInt + 1 ≤ g5.toInt) → jiv h 126 (0 : Int32).toNatClampNeg = g0 → jiv h 126 (16 : Int32).toNatClampNeg = g1 → jiv h 126 (4 : Int32).toNatClampNeg = g2 → jiv h 126 (5 : Int32).toNatClampNeg = g3 → jiv h 126 (7 : Int32).toNatClampNeg = g4 → jiv h 125 10 = g5 → jiv h 125 11 = g6 → jiv h 125 14 = g7 → jiv h 125 8 = g8 → jiv h 125 9 = g9 → jJ jSgM Dy h → jSm fp_X12_line_r125p h0 h → jX m_X12_line 6 0 0 269 [(0, .ref 125), (1, .int l1), (2, .int l2), (3, .int l3), (4, .int l4), (5, .int l5), (7, .int l7), (8, .int l8)] [.int 0] h 0 0 Q := by
  intro l1 l2 l3 l4 l5 l7 l8 g0 g1 g2 g3 g4 g5 g6 g7 g8 g9 h y0 y1 y2 y3 y4 y5 y6 y7 y8 y9 y10 y11 y12 y13 y14 y15 y16 y17 y18 y19 y20 z0 z1 z2 z3 z4 z5 z6 z7 z8 z9  J Sm
  refine x_istore (lsx9 := [(11, .int 0), (0, .ref 125), (1, .int l1), (2, .int l2), (3, .int l3), (4, .int l4), (5, .int l5), (7, .int l7), (8, .int l8)]) rfl rfl rfl ?_
  refine x_iload (x := 0) rfl rfl ?_
  refine x_ifeq (tgt := 305) rfl rfl (ti_eq jk_0 jk_0 (br_t (by omega) ?_))
  exact jX.sub (jsb_c rfl (jsb_c rfl (jsb_c rfl (jsb_c rfl (jsb_c rfl (jsb_c rfl (jsb_c rfl (jsb_c rfl (jsb_c rfl jsb_n))))))))) (ct_X12_line_r125p_305 hD hQ  l1 l2 l3 l4 l5 l7 l8 0 g0 g1 g2 g3 g4 g5 g6 g7 g8 g9 h (jr_of rfl (by omega)) (jr_of rfl (by omega)) (jr_of rfl (by omega)) (jr_of rfl (by omega)) (jr_of rfl (by omega)) (jr_of rfl (by omega)) (jr_of rfl (by omega)) (jr_mod rfl (by omega)) (jr_of jk_0 (by omega)) (jr_of rfl (by omega)) (jr_of rfl (by omega)) (jr_of rfl (by omega)) (jr_of rfl (by omega)) (jr_of rfl (by omega)) (jr_of rfl (by omega)) (jr_of rfl (by omega)) (jr_of rfl (by omega)) (jr_of rfl (by omega)) (jr_of rfl (by omega)) (by omega) (by omega) (by omega) z0 z1 z2 z3 z4 z5 z6 z7 z8 z9 J Sm)
set_option maxRecDepth 100000 in
set_option maxHeartbeats 4000000 in
theorem ct_X12_line_r125p_268 {Dy : jH → Prop} {h0 : jH} {Q : Option Value → jH → Prop} (hD : jDk Dy) (hQ : ∀ (v : Int32) hx9, jJ jSgM Dy hx9 → jSm fp_X12_line_r125p h0 hx9 → ∀ u0 u1 u2 u3 u4 : Int32, jiv hx9 126 (16 : Int32).toNatClampNeg = u0 → jiv hx9 126 (0 : Int32).toNatClampNeg = u1 → jiv hx9 126 (4 : Int32).toNatClampNeg = u2 → jiv hx9 126 (5 : Int32).toNatClampNeg = u3 → jiv hx9 126 (7 : Int32).toNatClampNeg = u4 → u0.toInt = u1.toInt + u2.toInt + u3.toInt + u4.toInt → (jiv hx9 125 8).toInt = 0 → Q (some (.int v)) hx9) : ∀ (l1 : Int32) (l2 : Int32) (l3 : Int32) (l4 : Int32) (l5 : Int32) (l7 : Int32) (l8 : Int32) (g0 : Int32) (g1 : Int32) (g2 : Int32) (g3 : Int32) (g4 : Int32) (g5 : Int32) (g6 : Int32) (g7 : Int32) (g8 : Int32) (g9 : Int32) (h : jH), 0 ≤ l1.toInt ∧ l1.toInt ≤ 5 → 0 ≤ l2.toInt ∧ l2.toInt ≤ 15 → 0 ≤ l3.toInt ∧ l3.toInt ≤ 146399 → 0 ≤ l4.toInt ∧ l4.toInt ≤ 146399 → (-1) ≤ l5.toInt ∧ l5.toInt ≤ 100000 → 0 ≤ l7.toInt ∧ l7.toInt ≤ 199 → 20 ≤ l8.toInt ∧ l8.toInt ≤ 17930 → l8.toInt % 90 = 20 → 0 ≤ g0.toInt ∧ g0.toInt ≤ 199 → 0 ≤ g1.toInt ∧ g1.toInt ≤ 369 → 0 ≤ g2.toInt ∧ g2.toInt ≤ 30 → 0 ≤ g3.toInt ∧ g3.toInt ≤ 100 → 0 ≤ g4.toInt ∧ g4.toInt ≤ 40 → 0 ≤ g5.toInt ∧ g5.toInt ≤ 400 → 0 ≤ g6.toInt ∧ g6.toInt ≤ 3 → 0 ≤ g7.toInt ∧ g7.toInt ≤ 1 → 0 ≤ g8.toInt ∧ g8.toInt ≤ 400 → 0 ≤ g9.toInt ∧ g9.toInt ≤ 400 → g1.toInt = g0.toInt + g2.toInt + g3.toInt + g4.toInt → (g5.toInt ≤ g8.toInt ∧ g9.toInt ≤ g5.toInt) → (g6.toInt = 0 ∨ g9.toInt + 1 ≤ g5.toInt) → jiv h 126 (0 : Int32).toNatClampNeg = g0 → jiv h 126 (16 : Int32).toNatClampNeg = g1 → jiv h 126 (4 : Int32).toNatClampNeg = g2 → jiv h 126 (5 : Int32).toNatClampNeg = g3 → jiv h 126 (7 : Int32).toNatClampNeg = g4 → jiv h 125 10 = g5 → jiv h 125 11 = g6 → jiv h 125 14 = g7 → jiv h 125 8 = g8 → jiv h 125 9 = g9 → jJ jSgM Dy h → jSm fp_X12_line_r125p h0 h → jX m_X12_line 6 0 0 268 [(0, .ref 125), (1, .int l1), (2, .int l2), (3, .int l3), (4, .int l4), (5, .int l5), (7, .int l7), (8, .int l8)] [] h 0 0 Q := by
  intro l1 l2 l3 l4 l5 l7 l8 g0 g1 g2 g3 g4 g5 g6 g7 g8 g9 h y0 y1 y2 y3 y4 y5 y6 y7 y8 y9 y10 y11 y12 y13 y14 y15 y16 y17 y18 y19 y20 z0 z1 z2 z3 z4 z5 z6 z7 z8 z9  J Sm
  refine x_iconst (v := 0) rfl ki_0 ?_
  exact jX.sub (jsb_c rfl (jsb_c rfl (jsb_c rfl (jsb_c rfl (jsb_c rfl (jsb_c rfl (jsb_c rfl (jsb_c rfl jsb_n)))))))) (ct_X12_line_r125p_200269 hD hQ  l1 l2 l3 l4 l5 l7 l8 g0 g1 g2 g3 g4 g5 g6 g7 g8 g9 h (jr_of rfl (by omega)) (jr_of rfl (by omega)) (jr_of rfl (by omega)) (jr_of rfl (by omega)) (jr_of rfl (by omega)) (jr_of rfl (by omega)) (jr_of rfl (by omega)) (jr_mod rfl (by omega)) (jr_of rfl (by omega)) (jr_of rfl (by omega)) (jr_of rfl (by omega)) (jr_of rfl (by omega)) (jr_of rfl (by omega)) (jr_of rfl (by omega)) (jr_of rfl (by omega)) (jr_of rfl (by omega)) (jr_of rfl (by omega)) (jr_of rfl (by omega)) (by omega) (by omega) (by omega) z0 z1 z2 z3 z4 z5 z6 z7 z8 z9 J Sm)
set_option maxRecDepth 100000 in
set_option maxHeartbeats 4000000 in
theorem ct_X12_line_r125p_250 {Dy : jH → Prop} {h0 : jH} {Q : Option Value → jH → Prop} (hD : jDk Dy) (hQ : ∀ (v : Int32) hx9, jJ jSgM Dy hx9 → jSm fp_X12_line_r125p h0 hx9 → ∀ u0 u1 u2 u3 u4 : Int32, jiv hx9 126 (16 : Int32).toNatClampNeg = u0 → jiv hx9 126 (0 : Int32).toNatClampNeg = u1 → jiv hx9 126 (4 : Int32).toNatClampNeg = u2 → jiv hx9 126 (5 : Int32).toNatClampNeg = u3 → jiv hx9 126 (7 : Int32).toNatClampNeg = u4 → u0.toInt = u1.toInt + u2.toInt + u3.toInt + u4.toInt → (jiv hx9 125 8).toInt = 0 → Q (some (.int v)) hx9) : ∀ (l1 : Int32) (l2 : Int32) (l3 : Int32) (l4 : Int32) (l5 : Int32) (l7 : Int32) (l8 : Int32) (g0 : Int32) (g1 : Int32) (g2 : Int32) (g3 : Int32) (g4 : Int32) (g5 : Int32) (g6 : Int32) (g7 : Int32) (g8 : Int32) (g9 : Int32) (h : jH), 0 ≤ l1.toInt ∧ l1.toInt ≤ 5 → 0 ≤ l2.toInt ∧ l2.toInt ≤ 15 → 0 ≤ l3.toInt ∧ l3.toInt ≤ 146399 → 0 ≤ l4.toInt ∧ l4.toInt ≤ 146399 → (-1) ≤ l5.toInt ∧ l5.toInt ≤ 100000 → 0 ≤ l7.toInt ∧ l7.toInt ≤ 199 → 20 ≤ l8.toInt ∧ l8.toInt ≤ 17930 → l8.toInt % 90 = 20 → 0 ≤ g0.toInt ∧ g0.toInt ≤ 199 → 0 ≤ g1.toInt ∧ g1.toInt ≤ 369 → 0 ≤ g2.toInt ∧ g2.toInt ≤ 30 → 0 ≤ g3.toInt ∧ g3.toInt ≤ 100 → 0 ≤ g4.toInt ∧ g4.toInt ≤ 40 → 0 ≤ g5.toInt ∧ g5.toInt ≤ 400 → 0 ≤ g6.toInt ∧ g6.toInt ≤ 3 → 0 ≤ g7.toInt ∧ g7.toInt ≤ 1 → 0 ≤ g8.toInt ∧ g8.toInt ≤ 400 → 0 ≤ g9.toInt ∧ g9.toInt ≤ 400 → g1.toInt = g0.toInt + g2.toInt + g3.toInt + g4.toInt → (g5.toInt ≤ g8.toInt ∧ g9.toInt ≤ g5.toInt) → (g6.toInt = 0 ∨ g9.toInt + 1 ≤ g5.toInt) → jiv h 126 (0 : Int32).toNatClampNeg = g0 → jiv h 126 (16 : Int32).toNatClampNeg = g1 → jiv h 126 (4 : Int32).toNatClampNeg = g2 → jiv h 126 (5 : Int32).toNatClampNeg = g3 → jiv h 126 (7 : Int32).toNatClampNeg = g4 → jiv h 125 10 = g5 → jiv h 125 11 = g6 → jiv h 125 14 = g7 → jiv h 125 8 = g8 → jiv h 125 9 = g9 → jJ jSgM Dy h → jSm fp_X12_line_r125p h0 h → jX m_X12_line 6 0 0 250 [(0, .ref 125), (1, .int l1), (2, .int l2), (3, .int l3), (4, .int l4), (5, .int l5), (7, .int l7), (8, .int l8)] [] h 0 0 Q := by
  intro l1 l2 l3 l4 l5 l7 l8 g0 g1 g2 g3 g4 g5 g6 g7 g8 g9 h y0 y1 y2 y3 y4 y5 y6 y7 y8 y9 y10 y11 y12 y13 y14 y15 y16 y17 y18 y19 y20 z0 z1 z2 z3 z4 z5 z6 z7 z8 z9  J Sm
  refine x_aloadn (x := 125) rfl rfl ?_
  refine z_getM (N := 92) (v := g7) 12 14 rfl f_12_214 rfl J rfl z7 ?_
  refine x_ifne (tgt := 268) rfl rfl (ti_ne rfl jk_0 ⟨fun c1 => ?_, fun c1 => ?_⟩)
  ·
    exact jX.sub (jsb_c rfl (jsb_c rfl (jsb_c rfl (jsb_c rfl (jsb_c rfl (jsb_c rfl (jsb_c rfl (jsb_c rfl jsb_n)))))))) (ct_X12_line_r125p_268 hD hQ  l1 l2 l3 l4 l5 l7 l8 g0 g1 g2 g3 g4 g5 g6 g7 g8 g9 h (jr_of rfl (by omega)) (jr_of rfl (by omega)) (jr_of rfl (by omega)) (jr_of rfl (by omega)) (jr_of rfl (by omega)) (jr_of rfl (by omega)) (jr_of rfl (by omega)) (jr_mod rfl (by omega)) (jr_of rfl (by omega)) (jr_of rfl (by omega)) (jr_of rfl (by omega)) (jr_of rfl (by omega)) (jr_of rfl (by omega)) (jr_of rfl (by omega)) (jr_of rfl (by omega)) (jr_of rfl (by omega)) (jr_of rfl (by omega)) (jr_of rfl (by omega)) (by omega) (by omega) (by omega) z0 z1 z2 z3 z4 z5 z6 z7 z8 z9 J Sm)
  ·
    refine x_aloadn (x := 125) rfl rfl ?_
    refine z_getM (N := 92) (v := g6) 12 11 rfl f_12_235 rfl J rfl z6 ?_
    refine x_ifeq (tgt := 268) rfl rfl (ti_eq rfl jk_0 ⟨fun c2 => ?_, fun c2 => ?_⟩)
    ·
      exact jX.sub (jsb_c rfl (jsb_c rfl (jsb_c rfl (jsb_c rfl (jsb_c rfl (jsb_c rfl (jsb_c rfl (jsb_c rfl jsb_n)))))))) (ct_X12_line_r125p_268 hD hQ  l1 l2 l3 l4 l5 l7 l8 g0 g1 g2 g3 g4 g5 g6 g7 g8 g9 h (jr_of rfl (by omega)) (jr_of rfl (by omega)) (jr_of rfl (by omega)) (jr_of rfl (by omega)) (jr_of rfl (by omega)) (jr_of rfl (by omega)) (jr_of rfl (by omega)) (jr_mod rfl (by omega)) (jr_of rfl (by omega)) (jr_of rfl (by omega)) (jr_of rfl (by omega)) (jr_of rfl (by omega)) (jr_of rfl (by omega)) (jr_of rfl (by omega)) (jr_of rfl (by omega)) (jr_of rfl (by omega)) (jr_of rfl (by omega)) (jr_of rfl (by omega)) (by omega) (by omega) (by omega) z0 z1 z2 z3 z4 z5 z6 z7 z8 z9 J Sm)
    ·
      refine x_iconst (v := 1) rfl ki_1 ?_
      refine x_goto (tgt := 269) rfl rfl ?_
      exact jX.sub (jsb_c rfl (jsb_c rfl (jsb_c rfl (jsb_c rfl (jsb_c rfl (jsb_c rfl (jsb_c rfl (jsb_c rfl jsb_n)))))))) (ct_X12_line_r125p_300269 hD hQ  l1 l2 l3 l4 l5 l7 l8 g0 g1 g2 g3 g4 g5 g6 g7 g8 g9 h (jr_of rfl (by omega)) (jr_of rfl (by omega)) (jr_of rfl (by omega)) (jr_of rfl (by omega)) (jr_of rfl (by omega)) (jr_of rfl (by omega)) (jr_of rfl (by omega)) (jr_mod rfl (by omega)) (jr_of rfl (by omega)) (jr_of rfl (by omega)) (jr_of rfl (by omega)) (jr_of rfl (by omega)) (jr_of rfl (by omega)) (jr_of rfl (by omega)) (jr_of rfl (by omega)) (jr_of rfl (by omega)) (jr_of rfl (by omega)) (jr_of rfl (by omega)) (by omega) (by omega) (by omega) z0 z1 z2 z3 z4 z5 z6 z7 z8 z9 J Sm)
set_option maxRecDepth 100000 in
set_option maxHeartbeats 4000000 in
theorem ct_X12_line_r125p_200244 {Dy : jH → Prop} {h0 : jH} {Q : Option Value → jH → Prop} {R171 : Int} (hD : jDk Dy) (hQ : ∀ (v : Int32) hx9, jJ jSgM Dy hx9 → jSm fp_X12_line_r125p h0 hx9 → ∀ u0 u1 u2 u3 u4 : Int32, jiv hx9 126 (16 : Int32).toNatClampNeg = u0 → jiv hx9 126 (0 : Int32).toNatClampNeg = u1 → jiv hx9 126 (4 : Int32).toNatClampNeg = u2 → jiv hx9 126 (5 : Int32).toNatClampNeg = u3 → jiv hx9 126 (7 : Int32).toNatClampNeg = u4 → u0.toInt = u1.toInt + u2.toInt + u3.toInt + u4.toInt → (jiv hx9 125 8).toInt = 0 → Q (some (.int v)) hx9) (k171 : ∀ (l1 : Int32) (l2 : Int32) (l3 : Int32) (l4 : Int32) (l5 : Int32) (l7 : Int32) (l8 : Int32) (l9 : Int32) (l10 : Int32) (g0 : Int32) (g1 : Int32) (g2 : Int32) (g3 : Int32) (g4 : Int32) (g5 : Int32) (g6 : Int32) (g7 : Int32) (g8 : Int32) (g9 : Int32) (h : jH), 3 - l9.toInt < R171 → 0 ≤ l1.toInt ∧ l1.toInt ≤ 5 → 0 ≤ l2.toInt ∧ l2.toInt ≤ 15 → 0 ≤ l3.toInt ∧ l3.toInt ≤ 146399 → 0 ≤ l4.toInt ∧ l4.toInt ≤ 146399 → (-1) ≤ l5.toInt ∧ l5.toInt ≤ 100000 → 0 ≤ l7.toInt ∧ l7.toInt ≤ 199 → 20 ≤ l8.toInt ∧ l8.toInt ≤ 17930 → l8.toInt % 90 = 20 → 0 ≤ l9.toInt ∧ l9.toInt ≤ 3 → 0 ≤ l10.toInt ∧ l10.toInt ≤ 1 → 0 ≤ g0.toInt ∧ g0.toInt ≤ 199 → 0 ≤ g1.toInt ∧ g1.toInt ≤ 369 → 0 ≤ g2.toInt ∧ g2.toInt ≤ 30 → 0 ≤ g3.toInt ∧ g3.toInt ≤ 100 → 0 ≤ g4.toInt ∧ g4.toInt ≤ 40 → 0 ≤ g5.toInt ∧ g5.toInt ≤ 400 → 0 ≤ g6.toInt ∧ g6.toInt ≤ 3 → 0 ≤ g7.toInt ∧ g7.toInt ≤ 1 → 0 ≤ g8.toInt ∧ g8.toInt ≤ 400 → 0 ≤ g9.toInt ∧ g9.toInt ≤ 400 → (l10.toInt = 0 ∨ g7.toInt ≠ 0 ∨ l9.toInt ≤ 2) → g1.toInt = g0.toInt + g2.toInt + g3.toInt + g4.toInt → (g5.toInt ≤ g8.toInt ∧ g9.toInt ≤ g5.toInt) → (g6.toInt = 0 ∨ g9.toInt + 1 ≤ g5.toInt) → jiv h 126 (0 : Int32).toNatClampNeg = g0 → jiv h 126 (16 : Int32).toNatClampNeg = g1 → jiv h 126 (4 : Int32).toNatClampNeg = g2 → jiv h 126 (5 : Int32).toNatClampNeg = g3 → jiv h 126 (7 : Int32).toNatClampNeg = g4 → jiv h 125 10 = g5 → jiv h 125 11 = g6 → jiv h 125 14 = g7 → jiv h 125 8 = g8 → jiv h 125 9 = g9 → jJ jSgM Dy h → jSm fp_X12_line_r125p h0 h → jX m_X12_line 6 0 0 171 [(0, .ref 125), (1, .int l1), (2, .int l2), (3, .int l3), (4, .int l4), (5, .int l5), (7, .int l7), (8, .int l8), (9, .int l9), (10, .int l10)] [] h 0 0 Q) : ∀ (l1 : Int32) (l2 : Int32) (l3 : Int32) (l4 : Int32) (l5 : Int32) (l7 : Int32) (l8 : Int32) (l9 : Int32) (g0 : Int32) (g1 : Int32) (g2 : Int32) (g3 : Int32) (g4 : Int32) (g5 : Int32) (g6 : Int32) (g7 : Int32) (g8 : Int32) (g9 : Int32) (h : jH), 0 ≤ l1.toInt ∧ l1.toInt ≤ 5 → 0 ≤ l2.toInt ∧ l2.toInt ≤ 15 → 0 ≤ l3.toInt ∧ l3.toInt ≤ 146399 → 0 ≤ l4.toInt ∧ l4.toInt ≤ 146399 → (-1) ≤ l5.toInt ∧ l5.toInt ≤ 100000 → 0 ≤ l7.toInt ∧ l7.toInt ≤ 199 → 20 ≤ l8.toInt ∧ l8.toInt ≤ 17930 → l8.toInt % 90 = 20 → 1 ≤ l9.toInt ∧ l9.toInt ≤ 3 → 0 ≤ g0.toInt ∧ g0.toInt ≤ 199 → 0 ≤ g1.toInt ∧ g1.toInt ≤ 369 → 0 ≤ g2.toInt ∧ g2.toInt ≤ 30 → 0 ≤ g3.toInt ∧ g3.toInt ≤ 100 → 0 ≤ g4.toInt ∧ g4.toInt ≤ 40 → 0 ≤ g5.toInt ∧ g5.toInt ≤ 400 → 3 ≤ g6.toInt ∧ g6.toInt ≤ 3 → 0 ≤ g7.toInt ∧ g7.toInt ≤ 0 → 0 ≤ g8.toInt ∧ g8.toInt ≤ 400 → 0 ≤ g9.toInt ∧ g9.toInt ≤ 400 → g1.toInt = g0.toInt + g2.toInt + g3.toInt + g4.toInt → (g5.toInt ≤ g8.toInt ∧ g9.toInt ≤ g5.toInt) → (g6.toInt = 0 ∨ g9.toInt + 1 ≤ g5.toInt) → jiv h 126 (0 : Int32).toNatClampNeg = g0 → jiv h 126 (16 : Int32).toNatClampNeg = g1 → jiv h 126 (4 : Int32).toNatClampNeg = g2 → jiv h 126 (5 : Int32).toNatClampNeg = g3 → jiv h 126 (7 : Int32).toNatClampNeg = g4 → jiv h 125 10 = g5 → jiv h 125 11 = g6 → jiv h 125 14 = g7 → jiv h 125 8 = g8 → jiv h 125 9 = g9 → 3 - l9.toInt < R171 → jJ jSgM Dy h → jSm fp_X12_line_r125p h0 h → jX m_X12_line 6 0 0 244 [(0, .ref 125), (1, .int l1), (2, .int l2), (3, .int l3), (4, .int l4), (5, .int l5), (7, .int l7), (8, .int l8), (9, .int l9), (10, .int 1)] [.int 0, .ref 125] h 0 0 Q := by
  intro l1 l2 l3 l4 l5 l7 l8 l9 g0 g1 g2 g3 g4 g5 g6 g7 g8 g9 h y0 y1 y2 y3 y4 y5 y6 y7 y8 y9 y10 y11 y12 y13 y14 y15 y16 y17 y18 y19 y20 y21 z0 z1 z2 z3 z4 z5 z6 z7 z8 z9 m171 J Sm
  refine x_inv (N := m_X12_must) (As := [.int 0]) (b := 125) (st := []) (dx9 := 5) (mc := 0) (ms := 0) (host := "") 12 rfl t_X12_must ⟨Or.inl q_12_250, i_X12_must.1, i_X12_must.2⟩ ⟨by decide, rfl⟩ (congrArg Prod.fst (J.1.1 125 (12, 92) rfl)) rfl (by decide) rfl rfl ⟨by decide, by decide⟩ (jC.of rfl k_X12_must rfl ?_)
  show jX m_X12_must 5 0 0 0 [(0, .ref 125), (1, .int 0)] [] _ 0 0 _
  refine x_aloadn (x := 125) rfl rfl ?_
  refine z_getM (N := 92) (v := g7) 12 14 rfl f_12_214 rfl J rfl z7 ?_
  refine x_ifne (tgt := 24) rfl rfl (ti_ne rfl jk_0 (bn_f (by omega) ?_))
  refine x_iloadn (x := 0) rfl rfl ?_
  refine x_ifne (tgt := 24) rfl rfl (ti_ne jk_0 jk_0 (bn_f (by omega) ?_))
  refine x_aloadn (x := 125) rfl rfl ?_
  refine x_iconst (v := 1) rfl ki_1 ?_
  refine z_putZ (N := 92) (w := 1) 12 14 rfl f_12_214 rfl (jfin_no TX12 RX12 92 rfl rfl) hD J Sm rfl rfl jk_1 (by omega) (pw_125_14 (by omega)) rfl (fun h w1 J Sm => ?_)
  refine x_aloadn (x := 125) rfl rfl ?_
  refine x_aloadn (x := 125) rfl rfl ?_
  refine z_getM (N := 92) (v := g9) 12 9 rfl f_12_221 rfl J rfl (jmo w1 rfl z9) ?_
  refine z_putI (N := 92) (w := g9.toInt) 12 13 rfl f_12_32 rfl (jfin_no TX12 RX12 92 rfl rfl) hD J Sm rfl rfl rfl (pw_125_13 (by omega)) rfl (fun h w2 J Sm => ?_)
  refine x_aloadn (x := 125) rfl rfl ?_
  refine z_getM (N := 92) (v := 1) 12 14 rfl f_12_214 rfl J rfl (jmo w2 rfl (jmw w1)) ?_
  refine x_ifne (tgt := 35) rfl rfl (ti_ne jk_1 jk_0 (bn_t (by omega) ?_))
  refine x_vret rfl rfl ?_
  show jX m_X12_line 6 0 0 247 [(0, .ref 125), (1, .int l1), (2, .int l2), (3, .int l3), (4, .int l4), (5, .int l5), (7, .int l7), (8, .int l8), (9, .int l9), (10, .int 1)] [] _ 0 0 _
  refine x_goto (tgt := 171) rfl rfl ?_
  exact jX.sub (jsb_c rfl (jsb_c rfl (jsb_c rfl (jsb_c rfl (jsb_c rfl (jsb_c rfl (jsb_c rfl (jsb_c rfl (jsb_c rfl (jsb_c rfl jsb_n)))))))))) (k171 l1 l2 l3 l4 l5 l7 l8 l9 1 g0 g1 g2 g3 g4 g5 g6 1 g8 g9 h (by omega) (jr_of rfl (by omega)) (jr_of rfl (by omega)) (jr_of rfl (by omega)) (jr_of rfl (by omega)) (jr_of rfl (by omega)) (jr_of rfl (by omega)) (jr_of rfl (by omega)) (jr_mod rfl (by omega)) (jr_of rfl (by omega)) (jr_of jk_1 (by omega)) (jr_of rfl (by omega)) (jr_of rfl (by omega)) (jr_of rfl (by omega)) (jr_of rfl (by omega)) (jr_of rfl (by omega)) (jr_of rfl (by omega)) (jr_of rfl (by omega)) (jr_of jk_1 (by omega)) (jr_of rfl (by omega)) (jr_of rfl (by omega)) (by have := jk_1; have := jk_1; omega) (by omega) (by omega) (by omega) (jmo w2 rfl (jmo w1 rfl z0)) (jmo w2 rfl (jmo w1 rfl z1)) (jmo w2 rfl (jmo w1 rfl z2)) (jmo w2 rfl (jmo w1 rfl z3)) (jmo w2 rfl (jmo w1 rfl z4)) (jmo w2 rfl (jmo w1 rfl z5)) (jmo w2 rfl (jmo w1 rfl z6)) (jmo w2 rfl (jmw w1)) (jmo w2 rfl (jmo w1 rfl z8)) (jmo w2 rfl (jmo w1 rfl z9)) J Sm)
set_option maxRecDepth 100000 in
set_option maxHeartbeats 4000000 in
theorem ct_X12_line_r125p_300244 {Dy : jH → Prop} {h0 : jH} {Q : Option Value → jH → Prop} {R171 : Int} (hD : jDk Dy) (hQ : ∀ (v : Int32) hx9, jJ jSgM Dy hx9 → jSm fp_X12_line_r125p h0 hx9 → ∀ u0 u1 u2 u3 u4 : Int32, jiv hx9 126 (16 : Int32).toNatClampNeg = u0 → jiv hx9 126 (0 : Int32).toNatClampNeg = u1 → jiv hx9 126 (4 : Int32).toNatClampNeg = u2 → jiv hx9 126 (5 : Int32).toNatClampNeg = u3 → jiv hx9 126 (7 : Int32).toNatClampNeg = u4 → u0.toInt = u1.toInt + u2.toInt + u3.toInt + u4.toInt → (jiv hx9 125 8).toInt = 0 → Q (some (.int v)) hx9) (k171 : ∀ (l1 : Int32) (l2 : Int32) (l3 : Int32) (l4 : Int32) (l5 : Int32) (l7 : Int32) (l8 : Int32) (l9 : Int32) (l10 : Int32) (g0 : Int32) (g1 : Int32) (g2 : Int32) (g3 : Int32) (g4 : Int32) (g5 : Int32) (g6 : Int32) (g7 : Int32) (g8 : Int32) (g9 : Int32) (h : jH), 3 - l9.toInt < R171 → 0 ≤ l1.toInt ∧ l1.toInt ≤ 5 → 0 ≤ l2.toInt ∧ l2.toInt ≤ 15 → 0 ≤ l3.toInt ∧ l3.toInt ≤ 146399 → 0 ≤ l4.toInt ∧ l4.toInt ≤ 146399 → (-1) ≤ l5.toInt ∧ l5.toInt ≤ 100000 → 0 ≤ l7.toInt ∧ l7.toInt ≤ 199 → 20 ≤ l8.toInt ∧ l8.toInt ≤ 17930 → l8.toInt % 90 = 20 → 0 ≤ l9.toInt ∧ l9.toInt ≤ 3 → 0 ≤ l10.toInt ∧ l10.toInt ≤ 1 → 0 ≤ g0.toInt ∧ g0.toInt ≤ 199 → 0 ≤ g1.toInt ∧ g1.toInt ≤ 369 → 0 ≤ g2.toInt ∧ g2.toInt ≤ 30 → 0 ≤ g3.toInt ∧ g3.toInt ≤ 100 → 0 ≤ g4.toInt ∧ g4.toInt ≤ 40 → 0 ≤ g5.toInt ∧ g5.toInt ≤ 400 → 0 ≤ g6.toInt ∧ g6.toInt ≤ 3 → 0 ≤ g7.toInt ∧ g7.toInt ≤ 1 → 0 ≤ g8.toInt ∧ g8.toInt ≤ 400 → 0 ≤ g9.toInt ∧ g9.toInt ≤ 400 → (l10.toInt = 0 ∨ g7.toInt ≠ 0 ∨ l9.toInt ≤ 2) → g1.toInt = g0.toInt + g2.toInt + g3.toInt + g4.toInt → (g5.toInt ≤ g8.toInt ∧ g9.toInt ≤ g5.toInt) → (g6.toInt = 0 ∨ g9.toInt + 1 ≤ g5.toInt) → jiv h 126 (0 : Int32).toNatClampNeg = g0 → jiv h 126 (16 : Int32).toNatClampNeg = g1 → jiv h 126 (4 : Int32).toNatClampNeg = g2 → jiv h 126 (5 : Int32).toNatClampNeg = g3 → jiv h 126 (7 : Int32).toNatClampNeg = g4 → jiv h 125 10 = g5 → jiv h 125 11 = g6 → jiv h 125 14 = g7 → jiv h 125 8 = g8 → jiv h 125 9 = g9 → jJ jSgM Dy h → jSm fp_X12_line_r125p h0 h → jX m_X12_line 6 0 0 171 [(0, .ref 125), (1, .int l1), (2, .int l2), (3, .int l3), (4, .int l4), (5, .int l5), (7, .int l7), (8, .int l8), (9, .int l9), (10, .int l10)] [] h 0 0 Q) : ∀ (l1 : Int32) (l2 : Int32) (l3 : Int32) (l4 : Int32) (l5 : Int32) (l7 : Int32) (l8 : Int32) (l9 : Int32) (g0 : Int32) (g1 : Int32) (g2 : Int32) (g3 : Int32) (g4 : Int32) (g5 : Int32) (g6 : Int32) (g7 : Int32) (g8 : Int32) (g9 : Int32) (h : jH), 0 ≤ l1.toInt ∧ l1.toInt ≤ 1 → 0 ≤ l2.toInt ∧ l2.toInt ≤ 15 → 0 ≤ l3.toInt ∧ l3.toInt ≤ 146399 → 0 ≤ l4.toInt ∧ l4.toInt ≤ 146399 → (-1) ≤ l5.toInt ∧ l5.toInt ≤ 100000 → 0 ≤ l7.toInt ∧ l7.toInt ≤ 199 → 20 ≤ l8.toInt ∧ l8.toInt ≤ 17930 → l8.toInt % 90 = 20 → 1 ≤ l9.toInt ∧ l9.toInt ≤ 2 → 0 ≤ g0.toInt ∧ g0.toInt ≤ 199 → 0 ≤ g1.toInt ∧ g1.toInt ≤ 369 → 0 ≤ g2.toInt ∧ g2.toInt ≤ 30 → 0 ≤ g3.toInt ∧ g3.toInt ≤ 100 → 0 ≤ g4.toInt ∧ g4.toInt ≤ 40 → 0 ≤ g5.toInt ∧ g5.toInt ≤ 400 → 3 ≤ g6.toInt ∧ g6.toInt ≤ 3 → 0 ≤ g7.toInt ∧ g7.toInt ≤ 0 → 0 ≤ g8.toInt ∧ g8.toInt ≤ 400 → 0 ≤ g9.toInt ∧ g9.toInt ≤ 400 → g1.toInt = g0.toInt + g2.toInt + g3.toInt + g4.toInt → (g5.toInt ≤ g8.toInt ∧ g9.toInt ≤ g5.toInt) → (g6.toInt = 0 ∨ g9.toInt + 1 ≤ g5.toInt) → jiv h 126 (0 : Int32).toNatClampNeg = g0 → jiv h 126 (16 : Int32).toNatClampNeg = g1 → jiv h 126 (4 : Int32).toNatClampNeg = g2 → jiv h 126 (5 : Int32).toNatClampNeg = g3 → jiv h 126 (7 : Int32).toNatClampNeg = g4 → jiv h 125 10 = g5 → jiv h 125 11 = g6 → jiv h 125 14 = g7 → jiv h 125 8 = g8 → jiv h 125 9 = g9 → 3 - l9.toInt < R171 → jJ jSgM Dy h → jSm fp_X12_line_r125p h0 h → jX m_X12_line 6 0 0 244 [(0, .ref 125), (1, .int l1), (2, .int l2), (3, .int l3), (4, .int l4), (5, .int l5), (7, .int l7), (8, .int l8), (9, .int l9), (10, .int 1)] [.int 1, .ref 125] h 0 0 Q := by
  intro l1 l2 l3 l4 l5 l7 l8 l9 g0 g1 g2 g3 g4 g5 g6 g7 g8 g9 h y0 y1 y2 y3 y4 y5 y6 y7 y8 y9 y10 y11 y12 y13 y14 y15 y16 y17 y18 y19 y20 y21 z0 z1 z2 z3 z4 z5 z6 z7 z8 z9 m171 J Sm
  refine x_inv (N := m_X12_must) (As := [.int 1]) (b := 125) (st := []) (dx9 := 5) (mc := 0) (ms := 0) (host := "") 12 rfl t_X12_must ⟨Or.inl q_12_250, i_X12_must.1, i_X12_must.2⟩ ⟨by decide, rfl⟩ (congrArg Prod.fst (J.1.1 125 (12, 92) rfl)) rfl (by decide) rfl rfl ⟨by decide, by decide⟩ (jC.of rfl k_X12_must rfl ?_)
  show jX m_X12_must 5 0 0 0 [(0, .ref 125), (1, .int 1)] [] _ 0 0 _
  refine x_aloadn (x := 125) rfl rfl ?_
  refine z_getM (N := 92) (v := g7) 12 14 rfl f_12_214 rfl J rfl z7 ?_
  refine x_ifne (tgt := 24) rfl rfl (ti_ne rfl jk_0 (bn_f (by omega) ?_))
  refine x_iloadn (x := 1) rfl rfl ?_
  refine x_ifne (tgt := 24) rfl rfl (ti_ne jk_1 jk_0 (bn_t (by omega) ?_))
  refine x_aloadn (x := 125) rfl rfl ?_
  refine z_getM (N := 92) (v := g7) 12 14 rfl f_12_214 rfl J rfl z7 ?_
  refine x_ifne (tgt := 35) rfl rfl (ti_ne rfl jk_0 (bn_f (by omega) ?_))
  refine x_aloadn (x := 125) rfl rfl ?_
  refine x_inv (N := m_X12_next) (As := []) (b := 125) (st := []) (dx9 := 2) (mc := 0) (ms := 0) (host := "") 12 rfl t_X12_next ⟨Or.inl q_12_218, i_X12_next.1, i_X12_next.2⟩ ⟨by decide, rfl⟩ (congrArg Prod.fst (J.1.1 125 (12, 92) rfl)) rfl (by decide) rfl rfl ⟨by decide, by decide⟩ (sf_X12_next_r125  hD J z5 z8 (by omega)  (fun h J S1 u2 u3 u4 qu2 qu3 qu4 ru2 u5 u6 u7 qu5 qu6 qu7 ru5 P8 => ?_))
  have Sm := jSm_tr rfl Sm S1
  have eu2 := (show 0 ≤ u2.toInt ∧ u2.toInt ≤ 400 from qu2 ▸ jrg_f J sg_125_10_11_1_0_1)
  have eu3 := (show 0 ≤ u3.toInt ∧ u3.toInt ≤ 400 from qu3 ▸ jrg_f J sg_125_8_9_1_0_1)
  have eu4 := (show 0 ≤ u4.toInt ∧ u4.toInt ≤ 400 from qu4 ▸ jrg_f J sg_125_9_10_1_0_1)
  have eu5 := (show 0 ≤ u5.toInt ∧ u5.toInt ≤ 3 from qu5 ▸ jrg_f J sg_125_11_12_1_0_1)
  obtain rfl : u4 = u6 := qu4.symm.trans qu6
  obtain rfl : u2 = u7 := qu2.symm.trans qu7
  have nfP8 := jnf P8.1 z5 qu4
  show jX m_X12_must 5 0 0 35 [(0, .ref 125), (1, .int 1)] [] _ 0 0 _
  refine x_vret rfl rfl ?_
  show jX m_X12_line 6 0 0 247 [(0, .ref 125), (1, .int l1), (2, .int l2), (3, .int l3), (4, .int l4), (5, .int l5), (7, .int l7), (8, .int l8), (9, .int l9), (10, .int 1)] [] _ 0 0 _
  refine x_goto (tgt := 171) rfl rfl ?_
  exact jX.sub (jsb_c rfl (jsb_c rfl (jsb_c rfl (jsb_c rfl (jsb_c rfl (jsb_c rfl (jsb_c rfl (jsb_c rfl (jsb_c rfl (jsb_c rfl jsb_n)))))))))) (k171 l1 l2 l3 l4 l5 l7 l8 l9 1 g0 g1 g2 g3 g4 u2 u5 g7 u3 u4 h (by omega) (jr_of rfl (by omega)) (jr_of rfl (by omega)) (jr_of rfl (by omega)) (jr_of rfl (by omega)) (jr_of rfl (by omega)) (jr_of rfl (by omega)) (jr_of rfl (by omega)) (jr_mod rfl (by omega)) (jr_of rfl (by omega)) (jr_of jk_1 (by omega)) (jr_of rfl (by omega)) (jr_of rfl (by omega)) (jr_of rfl (by omega)) (jr_of rfl (by omega)) (jr_of rfl (by omega)) (jr_of rfl (by omega)) (jr_of rfl (by omega)) (jr_of rfl (by omega)) (jr_of rfl (by omega)) (jr_of rfl (by omega)) (by have := jk_1; omega) (by omega) (by omega) (by omega) (jmc S1 rfl z0) (jmc S1 rfl z1) (jmc S1 rfl z2) (jmc S1 rfl z3) (jmc S1 rfl z4) qu2 qu5 (jmc S1 rfl z7) qu3 qu4 J Sm)
set_option maxRecDepth 100000 in
set_option maxHeartbeats 4000000 in
theorem ct_X12_line_r125p_300222 {Dy : jH → Prop} {h0 : jH} {Q : Option Value → jH → Prop} {R171 : Int} (hD : jDk Dy) (hQ : ∀ (v : Int32) hx9, jJ jSgM Dy hx9 → jSm fp_X12_line_r125p h0 hx9 → ∀ u0 u1 u2 u3 u4 : Int32, jiv hx9 126 (16 : Int32).toNatClampNeg = u0 → jiv hx9 126 (0 : Int32).toNatClampNeg = u1 → jiv hx9 126 (4 : Int32).toNatClampNeg = u2 → jiv hx9 126 (5 : Int32).toNatClampNeg = u3 → jiv hx9 126 (7 : Int32).toNatClampNeg = u4 → u0.toInt = u1.toInt + u2.toInt + u3.toInt + u4.toInt → (jiv hx9 125 8).toInt = 0 → Q (some (.int v)) hx9) (k171 : ∀ (l1 : Int32) (l2 : Int32) (l3 : Int32) (l4 : Int32) (l5 : Int32) (l7 : Int32) (l8 : Int32) (l9 : Int32) (l10 : Int32) (g0 : Int32) (g1 : Int32) (g2 : Int32) (g3 : Int32) (g4 : Int32) (g5 : Int32) (g6 : Int32) (g7 : Int32) (g8 : Int32) (g9 : Int32) (h : jH), 3 - l9.toInt < R171 → 0 ≤ l1.toInt ∧ l1.toInt ≤ 5 → 0 ≤ l2.toInt ∧ l2.toInt ≤ 15 → 0 ≤ l3.toInt ∧ l3.toInt ≤ 146399 → 0 ≤ l4.toInt ∧ l4.toInt ≤ 146399 → (-1) ≤ l5.toInt ∧ l5.toInt ≤ 100000 → 0 ≤ l7.toInt ∧ l7.toInt ≤ 199 → 20 ≤ l8.toInt ∧ l8.toInt ≤ 17930 → l8.toInt % 90 = 20 → 0 ≤ l9.toInt ∧ l9.toInt ≤ 3 → 0 ≤ l10.toInt ∧ l10.toInt ≤ 1 → 0 ≤ g0.toInt ∧ g0.toInt ≤ 199 → 0 ≤ g1.toInt ∧ g1.toInt ≤ 369 → 0 ≤ g2.toInt ∧ g2.toInt ≤ 30 → 0 ≤ g3.toInt ∧ g3.toInt ≤ 100 → 0 ≤ g4.toInt ∧ g4.toInt ≤ 40 → 0 ≤ g5.toInt ∧ g5.toInt ≤ 400 → 0 ≤ g6.toInt ∧ g6.toInt ≤ 3 → 0 ≤ g7.toInt ∧ g7.toInt ≤ 1 → 0 ≤ g8.toInt ∧ g8.toInt ≤ 400 → 0 ≤ g9.toInt ∧ g9.toInt ≤ 400 → (l10.toInt = 0 ∨ g7.toInt ≠ 0 ∨ l9.toInt ≤ 2) → g1.toInt = g0.toInt + g2.toInt + g3.toInt + g4.toInt → (g5.toInt ≤ g8.toInt ∧ g9.toInt ≤ g5.toInt) → (g6.toInt = 0 ∨ g9.toInt + 1 ≤ g5.toInt) → jiv h 126 (0 : Int32).toNatClampNeg = g0 → jiv h 126 (16 : Int32).toNatClampNeg = g1 → jiv h 126 (4 : Int32).toNatClampNeg = g2 → jiv h 126 (5 : Int32).toNatClampNeg = g3 → jiv h 126 (7 : Int32).toNatClampNeg = g4 → jiv h 125 10 = g5 → jiv h 125 11 = g6 → jiv h 125 14 = g7 → jiv h 125 8 = g8 → jiv h 125 9 = g9 → jJ jSgM Dy h → jSm fp_X12_line_r125p h0 h → jX m_X12_line 6 0 0 171 [(0, .ref 125), (1, .int l1), (2, .int l2), (3, .int l3), (4, .int l4), (5, .int l5), (7, .int l7), (8, .int l8), (9, .int l9), (10, .int l10)] [] h 0 0 Q) : ∀ (l1 : Int32) (l2 : Int32) (l3 : Int32) (l4 : Int32) (l5 : Int32) (l7 : Int32) (l8 : Int32) (l9 : Int32) (g0 : Int32) (g1 : Int32) (g2 : Int32) (g3 : Int32) (g4 : Int32) (g5 : Int32) (g6 : Int32) (g7 : Int32) (g8 : Int32) (g9 : Int32) (h : jH), 0 ≤ l1.toInt ∧ l1.toInt ≤ 5 → 0 ≤ l2.toInt ∧ l2.toInt ≤ 15 → 0 ≤ l3.toInt ∧ l3.toInt ≤ 146399 → 0 ≤ l4.toInt ∧ l4.toInt ≤ 146399 → (-1) ≤ l5.toInt ∧ l5.toInt ≤ 100000 → 0 ≤ l7.toInt ∧ l7.toInt ≤ 199 → 20 ≤ l8.toInt ∧ l8.toInt ≤ 17930 → l8.toInt % 90 = 20 → 1 ≤ l9.toInt ∧ l9.toInt ≤ 3 → 0 ≤ g0.toInt ∧ g0.toInt ≤ 199 → 0 ≤ g1.toInt ∧ g1.toInt ≤ 369 → 0 ≤ g2.toInt ∧ g2.toInt ≤ 30 → 0 ≤ g3.toInt ∧ g3.toInt ≤ 100 → 0 ≤ g4.toInt ∧ g4.toInt ≤ 40 → 0 ≤ g5.toInt ∧ g5.toInt ≤ 400 → 3 ≤ g6.toInt ∧ g6.toInt ≤ 3 → 0 ≤ g7.toInt ∧ g7.toInt ≤ 0 → 0 ≤ g8.toInt ∧ g8.toInt ≤ 400 → 0 ≤ g9.toInt ∧ g9.toInt ≤ 400 → g1.toInt = g0.toInt + g2.toInt + g3.toInt + g4.toInt → (g5.toInt ≤ g8.toInt ∧ g9.toInt ≤ g5.toInt) → (g6.toInt = 0 ∨ g9.toInt + 1 ≤ g5.toInt) → jiv h 126 (0 : Int32).toNatClampNeg = g0 → jiv h 126 (16 : Int32).toNatClampNeg = g1 → jiv h 126 (4 : Int32).toNatClampNeg = g2 → jiv h 126 (5 : Int32).toNatClampNeg = g3 → jiv h 126 (7 : Int32).toNatClampNeg = g4 → jiv h 125 10 = g5 → jiv h 125 11 = g6 → jiv h 125 14 = g7 → jiv h 125 8 = g8 → jiv h 125 9 = g9 → 3 - l9.toInt < R171 → jJ jSgM Dy h → jSm fp_X12_line_r125p h0 h → jX m_X12_line 6 0 0 222 [(0, .ref 125), (1, .int l1), (2, .int l2), (3, .int l3), (4, .int l4), (5, .int l5), (7, .int l7), (8, .int l8), (9, .int l9)] [.int 1] h 0 0 Q := by
  intro l1 l2 l3 l4 l5 l7 l8 l9 g0 g1 g2 g3 g4 g5 g6 g7 g8 g9 h y0 y1 y2 y3 y4 y5 y6 y7 y8 y9 y10 y11 y12 y13 y14 y15 y16 y17 y18 y19 y20 y21 z0 z1 z2 z3 z4 z5 z6 z7 z8 z9 m171 J Sm
  refine x_istore (lsx9 := [(10, .int 1), (0, .ref 125), (1, .int l1), (2, .int l2), (3, .int l3), (4, .int l4), (5, .int l5), (7, .int l7), (8, .int l8), (9, .int l9)]) rfl rfl rfl ?_
  refine x_iload (x := 1) rfl rfl ?_
  refine x_ifeq (tgt := 171) rfl rfl (ti_eq jk_1 jk_0 (br_f (by omega) ?_))
  refine x_aloadn (x := 125) rfl rfl ?_
  refine x_iload (x := l9) rfl rfl ?_
  refine x_iloadn (x := l1) rfl rfl ?_
  refine x_inst (N := m_X12_rolesOf) (As := [.int l1]) (st := [.int l9, .ref 125]) (dx9 := 5) (mc := 0) (ms := 0) (host := "") rfl t_X12_rolesOf ⟨Or.inl q_12_286, s_X12_rolesOf⟩ rfl (by decide) rfl rfl ⟨by decide, by decide⟩ (jC.of rfl k_X12_rolesOf rfl ?_)
  show jX m_X12_rolesOf 5 0 0 0 [(0, .int l1)] [] _ 0 0 _
  refine x_iloadn (x := l1) rfl rfl ?_
  refine x_ifne (tgt := 8) rfl rfl (ti_ne rfl jk_0 ⟨fun c1 => ?_, fun c1 => ?_⟩)
  ·
    refine x_iloadn (x := l1) rfl rfl ?_
    refine x_iconst (v := 1) rfl ki_1 ?_
    refine x_icne (tgt := 17) rfl rfl (ti_ne rfl jk_1 ⟨fun c2 => ?_, fun c2 => ?_⟩)
    ·
      refine x_iconst (v := 1) rfl ki_1 ?_
      refine x_iret rfl rfl ?_
      show jX m_X12_line 6 0 0 236 [(10, .int 1), (0, .ref 125), (1, .int l1), (2, .int l2), (3, .int l3), (4, .int l4), (5, .int l5), (7, .int l7), (8, .int l8), (9, .int l9)] [.int 1, .int l9, .ref 125] _ 0 0 _
      refine x_icge (tgt := 243) rfl rfl (ti_ge rfl jk_1 (br_t (by omega) ?_))
      refine x_iconst (v := 0) rfl ki_0 ?_
      exact jX.sub (jsb_c rfl (jsb_c rfl (jsb_c rfl (jsb_c rfl (jsb_c rfl (jsb_c rfl (jsb_c rfl (jsb_c rfl (jsb_c rfl (jsb_c rfl jsb_n)))))))))) (ct_X12_line_r125p_200244 hD hQ k171 l1 l2 l3 l4 l5 l7 l8 l9 g0 g1 g2 g3 g4 g5 g6 g7 g8 g9 h (jr_of rfl (by omega)) (jr_of rfl (by omega)) (jr_of rfl (by omega)) (jr_of rfl (by omega)) (jr_of rfl (by omega)) (jr_of rfl (by omega)) (jr_of rfl (by omega)) (jr_mod rfl (by omega)) (jr_of rfl (by omega)) (jr_of rfl (by omega)) (jr_of rfl (by omega)) (jr_of rfl (by omega)) (jr_of rfl (by omega)) (jr_of rfl (by omega)) (jr_of rfl (by omega)) (jr_of rfl (by omega)) (jr_of rfl (by omega)) (jr_of rfl (by omega)) (jr_of rfl (by omega)) (by omega) (by omega) (by omega) z0 z1 z2 z3 z4 z5 z6 z7 z8 z9 (by omega) J Sm)
    ·
      refine x_iconst (v := 2) rfl ki_2 ?_
      refine x_goto (tgt := 18) rfl rfl ?_
      refine x_iret rfl rfl ?_
      show jX m_X12_line 6 0 0 236 [(10, .int 1), (0, .ref 125), (1, .int l1), (2, .int l2), (3, .int l3), (4, .int l4), (5, .int l5), (7, .int l7), (8, .int l8), (9, .int l9)] [.int 2, .int l9, .ref 125] _ 0 0 _
      refine x_icge (tgt := 243) rfl rfl (ti_ge rfl jk_2 ⟨fun c3 => ?_, fun c3 => ?_⟩)
      ·
        refine x_iconst (v := 0) rfl ki_0 ?_
        exact jX.sub (jsb_c rfl (jsb_c rfl (jsb_c rfl (jsb_c rfl (jsb_c rfl (jsb_c rfl (jsb_c rfl (jsb_c rfl (jsb_c rfl (jsb_c rfl jsb_n)))))))))) (ct_X12_line_r125p_200244 hD hQ k171 l1 l2 l3 l4 l5 l7 l8 l9 g0 g1 g2 g3 g4 g5 g6 g7 g8 g9 h (jr_of rfl (by omega)) (jr_of rfl (by omega)) (jr_of rfl (by omega)) (jr_of rfl (by omega)) (jr_of rfl (by omega)) (jr_of rfl (by omega)) (jr_of rfl (by omega)) (jr_mod rfl (by omega)) (jr_of rfl (by omega)) (jr_of rfl (by omega)) (jr_of rfl (by omega)) (jr_of rfl (by omega)) (jr_of rfl (by omega)) (jr_of rfl (by omega)) (jr_of rfl (by omega)) (jr_of rfl (by omega)) (jr_of rfl (by omega)) (jr_of rfl (by omega)) (jr_of rfl (by omega)) (by omega) (by omega) (by omega) z0 z1 z2 z3 z4 z5 z6 z7 z8 z9 (by omega) J Sm)
      ·
        refine x_iconst (v := 1) rfl ki_1 ?_
        refine x_goto (tgt := 244) rfl rfl ?_
        exact jX.sub (jsb_c rfl (jsb_c rfl (jsb_c rfl (jsb_c rfl (jsb_c rfl (jsb_c rfl (jsb_c rfl (jsb_c rfl (jsb_c rfl (jsb_c rfl jsb_n)))))))))) (ct_X12_line_r125p_300244 hD hQ k171 l1 l2 l3 l4 l5 l7 l8 l9 g0 g1 g2 g3 g4 g5 g6 g7 g8 g9 h (jr_of rfl (by omega)) (jr_of rfl (by omega)) (jr_of rfl (by omega)) (jr_of rfl (by omega)) (jr_of rfl (by omega)) (jr_of rfl (by omega)) (jr_of rfl (by omega)) (jr_mod rfl (by omega)) (jr_of rfl (by omega)) (jr_of rfl (by omega)) (jr_of rfl (by omega)) (jr_of rfl (by omega)) (jr_of rfl (by omega)) (jr_of rfl (by omega)) (jr_of rfl (by omega)) (jr_of rfl (by omega)) (jr_of rfl (by omega)) (jr_of rfl (by omega)) (jr_of rfl (by omega)) (by omega) (by omega) (by omega) z0 z1 z2 z3 z4 z5 z6 z7 z8 z9 (by omega) J Sm)
  ·
    refine x_iconst (v := 3) rfl ki_3 ?_
    refine x_goto (tgt := 18) rfl rfl ?_
    refine x_iret rfl rfl ?_
    show jX m_X12_line 6 0 0 236 [(10, .int 1), (0, .ref 125), (1, .int l1), (2, .int l2), (3, .int l3), (4, .int l4), (5, .int l5), (7, .int l7), (8, .int l8), (9, .int l9)] [.int 3, .int l9, .ref 125] _ 0 0 _
    refine x_icge (tgt := 243) rfl rfl (ti_ge rfl jk_3 ⟨fun c4 => ?_, fun c4 => ?_⟩)
    ·
      refine x_iconst (v := 0) rfl ki_0 ?_
      exact jX.sub (jsb_c rfl (jsb_c rfl (jsb_c rfl (jsb_c rfl (jsb_c rfl (jsb_c rfl (jsb_c rfl (jsb_c rfl (jsb_c rfl (jsb_c rfl jsb_n)))))))))) (ct_X12_line_r125p_200244 hD hQ k171 l1 l2 l3 l4 l5 l7 l8 l9 g0 g1 g2 g3 g4 g5 g6 g7 g8 g9 h (jr_of rfl (by omega)) (jr_of rfl (by omega)) (jr_of rfl (by omega)) (jr_of rfl (by omega)) (jr_of rfl (by omega)) (jr_of rfl (by omega)) (jr_of rfl (by omega)) (jr_mod rfl (by omega)) (jr_of rfl (by omega)) (jr_of rfl (by omega)) (jr_of rfl (by omega)) (jr_of rfl (by omega)) (jr_of rfl (by omega)) (jr_of rfl (by omega)) (jr_of rfl (by omega)) (jr_of rfl (by omega)) (jr_of rfl (by omega)) (jr_of rfl (by omega)) (jr_of rfl (by omega)) (by omega) (by omega) (by omega) z0 z1 z2 z3 z4 z5 z6 z7 z8 z9 (by omega) J Sm)
    ·
      refine x_iconst (v := 1) rfl ki_1 ?_
      refine x_goto (tgt := 244) rfl rfl ?_
      exact jX.sub (jsb_c rfl (jsb_c rfl (jsb_c rfl (jsb_c rfl (jsb_c rfl (jsb_c rfl (jsb_c rfl (jsb_c rfl (jsb_c rfl (jsb_c rfl jsb_n)))))))))) (ct_X12_line_r125p_300244 hD hQ k171 l1 l2 l3 l4 l5 l7 l8 l9 g0 g1 g2 g3 g4 g5 g6 g7 g8 g9 h (jr_of rfl (by omega)) (jr_of rfl (by omega)) (jr_of rfl (by omega)) (jr_of rfl (by omega)) (jr_of rfl (by omega)) (jr_of rfl (by omega)) (jr_of rfl (by omega)) (jr_mod rfl (by omega)) (jr_of rfl (by omega)) (jr_of rfl (by omega)) (jr_of rfl (by omega)) (jr_of rfl (by omega)) (jr_of rfl (by omega)) (jr_of rfl (by omega)) (jr_of rfl (by omega)) (jr_of rfl (by omega)) (jr_of rfl (by omega)) (jr_of rfl (by omega)) (jr_of rfl (by omega)) (by omega) (by omega) (by omega) z0 z1 z2 z3 z4 z5 z6 z7 z8 z9 (by omega) J Sm)
set_option maxRecDepth 100000 in
set_option maxHeartbeats 4000000 in
theorem ct_X12_line_r125p_200222 {Dy : jH → Prop} {h0 : jH} {Q : Option Value → jH → Prop} {R171 : Int} (hD : jDk Dy) (hQ : ∀ (v : Int32) hx9, jJ jSgM Dy hx9 → jSm fp_X12_line_r125p h0 hx9 → ∀ u0 u1 u2 u3 u4 : Int32, jiv hx9 126 (16 : Int32).toNatClampNeg = u0 → jiv hx9 126 (0 : Int32).toNatClampNeg = u1 → jiv hx9 126 (4 : Int32).toNatClampNeg = u2 → jiv hx9 126 (5 : Int32).toNatClampNeg = u3 → jiv hx9 126 (7 : Int32).toNatClampNeg = u4 → u0.toInt = u1.toInt + u2.toInt + u3.toInt + u4.toInt → (jiv hx9 125 8).toInt = 0 → Q (some (.int v)) hx9) (k171 : ∀ (l1 : Int32) (l2 : Int32) (l3 : Int32) (l4 : Int32) (l5 : Int32) (l7 : Int32) (l8 : Int32) (l9 : Int32) (l10 : Int32) (g0 : Int32) (g1 : Int32) (g2 : Int32) (g3 : Int32) (g4 : Int32) (g5 : Int32) (g6 : Int32) (g7 : Int32) (g8 : Int32) (g9 : Int32) (h : jH), 3 - l9.toInt < R171 → 0 ≤ l1.toInt ∧ l1.toInt ≤ 5 → 0 ≤ l2.toInt ∧ l2.toInt ≤ 15 → 0 ≤ l3.toInt ∧ l3.toInt ≤ 146399 → 0 ≤ l4.toInt ∧ l4.toInt ≤ 146399 → (-1) ≤ l5.toInt ∧ l5.toInt ≤ 100000 → 0 ≤ l7.toInt ∧ l7.toInt ≤ 199 → 20 ≤ l8.toInt ∧ l8.toInt ≤ 17930 → l8.toInt % 90 = 20 → 0 ≤ l9.toInt ∧ l9.toInt ≤ 3 → 0 ≤ l10.toInt ∧ l10.toInt ≤ 1 → 0 ≤ g0.toInt ∧ g0.toInt ≤ 199 → 0 ≤ g1.toInt ∧ g1.toInt ≤ 369 → 0 ≤ g2.toInt ∧ g2.toInt ≤ 30 → 0 ≤ g3.toInt ∧ g3.toInt ≤ 100 → 0 ≤ g4.toInt ∧ g4.toInt ≤ 40 → 0 ≤ g5.toInt ∧ g5.toInt ≤ 400 → 0 ≤ g6.toInt ∧ g6.toInt ≤ 3 → 0 ≤ g7.toInt ∧ g7.toInt ≤ 1 → 0 ≤ g8.toInt ∧ g8.toInt ≤ 400 → 0 ≤ g9.toInt ∧ g9.toInt ≤ 400 → (l10.toInt = 0 ∨ g7.toInt ≠ 0 ∨ l9.toInt ≤ 2) → g1.toInt = g0.toInt + g2.toInt + g3.toInt + g4.toInt → (g5.toInt ≤ g8.toInt ∧ g9.toInt ≤ g5.toInt) → (g6.toInt = 0 ∨ g9.toInt + 1 ≤ g5.toInt) → jiv h 126 (0 : Int32).toNatClampNeg = g0 → jiv h 126 (16 : Int32).toNatClampNeg = g1 → jiv h 126 (4 : Int32).toNatClampNeg = g2 → jiv h 126 (5 : Int32).toNatClampNeg = g3 → jiv h 126 (7 : Int32).toNatClampNeg = g4 → jiv h 125 10 = g5 → jiv h 125 11 = g6 → jiv h 125 14 = g7 → jiv h 125 8 = g8 → jiv h 125 9 = g9 → jJ jSgM Dy h → jSm fp_X12_line_r125p h0 h → jX m_X12_line 6 0 0 171 [(0, .ref 125), (1, .int l1), (2, .int l2), (3, .int l3), (4, .int l4), (5, .int l5), (7, .int l7), (8, .int l8), (9, .int l9), (10, .int l10)] [] h 0 0 Q) : ∀ (l1 : Int32) (l2 : Int32) (l3 : Int32) (l4 : Int32) (l5 : Int32) (l7 : Int32) (l8 : Int32) (l9 : Int32) (g0 : Int32) (g1 : Int32) (g2 : Int32) (g3 : Int32) (g4 : Int32) (g5 : Int32) (g6 : Int32) (g7 : Int32) (g8 : Int32) (g9 : Int32) (h : jH), 0 ≤ l1.toInt ∧ l1.toInt ≤ 5 → 0 ≤ l2.toInt ∧ l2.toInt ≤ 15 → 0 ≤ l3.toInt ∧ l3.toInt ≤ 146399 → 0 ≤ l4.toInt ∧ l4.toInt ≤ 146399 → (-1) ≤ l5.toInt ∧ l5.toInt ≤ 100000 → 0 ≤ l7.toInt ∧ l7.toInt ≤ 199 → 20 ≤ l8.toInt ∧ l8.toInt ≤ 17930 → l8.toInt % 90 = 20 → 1 ≤ l9.toInt ∧ l9.toInt ≤ 3 → 0 ≤ g0.toInt ∧ g0.toInt ≤ 199 → 0 ≤ g1.toInt ∧ g1.toInt ≤ 369 → 0 ≤ g2.toInt ∧ g2.toInt ≤ 30 → 0 ≤ g3.toInt ∧ g3.toInt ≤ 100 → 0 ≤ g4.toInt ∧ g4.toInt ≤ 40 → 0 ≤ g5.toInt ∧ g5.toInt ≤ 400 → 0 ≤ g6.toInt ∧ g6.toInt ≤ 3 → 0 ≤ g7.toInt ∧ g7.toInt ≤ 1 → 0 ≤ g8.toInt ∧ g8.toInt ≤ 400 → 0 ≤ g9.toInt ∧ g9.toInt ≤ 400 → g1.toInt = g0.toInt + g2.toInt + g3.toInt + g4.toInt → (g5.toInt ≤ g8.toInt ∧ g9.toInt ≤ g5.toInt) → (g6.toInt = 0 ∨ g9.toInt + 1 ≤ g5.toInt) → jiv h 126 (0 : Int32).toNatClampNeg = g0 → jiv h 126 (16 : Int32).toNatClampNeg = g1 → jiv h 126 (4 : Int32).toNatClampNeg = g2 → jiv h 126 (5 : Int32).toNatClampNeg = g3 → jiv h 126 (7 : Int32).toNatClampNeg = g4 → jiv h 125 10 = g5 → jiv h 125 11 = g6 → jiv h 125 14 = g7 → jiv h 125 8 = g8 → jiv h 125 9 = g9 → 3 - l9.toInt < R171 → jJ jSgM Dy h → jSm fp_X12_line_r125p h0 h → jX m_X12_line 6 0 0 222 [(0, .ref 125), (1, .int l1), (2, .int l2), (3, .int l3), (4, .int l4), (5, .int l5), (7, .int l7), (8, .int l8), (9, .int l9)] [.int 0] h 0 0 Q := by
  intro l1 l2 l3 l4 l5 l7 l8 l9 g0 g1 g2 g3 g4 g5 g6 g7 g8 g9 h y0 y1 y2 y3 y4 y5 y6 y7 y8 y9 y10 y11 y12 y13 y14 y15 y16 y17 y18 y19 y20 y21 z0 z1 z2 z3 z4 z5 z6 z7 z8 z9 m171 J Sm
  refine x_istore (lsx9 := [(10, .int 0), (0, .ref 125), (1, .int l1), (2, .int l2), (3, .int l3), (4, .int l4), (5, .int l5), (7, .int l7), (8, .int l8), (9, .int l9)]) rfl rfl rfl ?_
  refine x_iload (x := 0) rfl rfl ?_
  refine x_ifeq (tgt := 171) rfl rfl (ti_eq jk_0 jk_0 (br_t (by omega) ?_))
  exact jX.sub (jsb_c rfl (jsb_c rfl (jsb_c rfl (jsb_c rfl (jsb_c rfl (jsb_c rfl (jsb_c rfl (jsb_c rfl (jsb_c rfl (jsb_c rfl jsb_n)))))))))) (k171 l1 l2 l3 l4 l5 l7 l8 l9 0 g0 g1 g2 g3 g4 g5 g6 g7 g8 g9 h (by omega) (jr_of rfl (by omega)) (jr_of rfl (by omega)) (jr_of rfl (by omega)) (jr_of rfl (by omega)) (jr_of rfl (by omega)) (jr_of rfl (by omega)) (jr_of rfl (by omega)) (jr_mod rfl (by omega)) (jr_of rfl (by omega)) (jr_of jk_0 (by omega)) (jr_of rfl (by omega)) (jr_of rfl (by omega)) (jr_of rfl (by omega)) (jr_of rfl (by omega)) (jr_of rfl (by omega)) (jr_of rfl (by omega)) (jr_of rfl (by omega)) (jr_of rfl (by omega)) (jr_of rfl (by omega)) (jr_of rfl (by omega)) (by have := jk_0; omega) (by omega) (by omega) (by omega) z0 z1 z2 z3 z4 z5 z6 z7 z8 z9 J Sm)
set_option maxRecDepth 100000 in
set_option maxHeartbeats 4000000 in
theorem ct_X12_line_r125p_221 {Dy : jH → Prop} {h0 : jH} {Q : Option Value → jH → Prop} {R171 : Int} (hD : jDk Dy) (hQ : ∀ (v : Int32) hx9, jJ jSgM Dy hx9 → jSm fp_X12_line_r125p h0 hx9 → ∀ u0 u1 u2 u3 u4 : Int32, jiv hx9 126 (16 : Int32).toNatClampNeg = u0 → jiv hx9 126 (0 : Int32).toNatClampNeg = u1 → jiv hx9 126 (4 : Int32).toNatClampNeg = u2 → jiv hx9 126 (5 : Int32).toNatClampNeg = u3 → jiv hx9 126 (7 : Int32).toNatClampNeg = u4 → u0.toInt = u1.toInt + u2.toInt + u3.toInt + u4.toInt → (jiv hx9 125 8).toInt = 0 → Q (some (.int v)) hx9) (k171 : ∀ (l1 : Int32) (l2 : Int32) (l3 : Int32) (l4 : Int32) (l5 : Int32) (l7 : Int32) (l8 : Int32) (l9 : Int32) (l10 : Int32) (g0 : Int32) (g1 : Int32) (g2 : Int32) (g3 : Int32) (g4 : Int32) (g5 : Int32) (g6 : Int32) (g7 : Int32) (g8 : Int32) (g9 : Int32) (h : jH), 3 - l9.toInt < R171 → 0 ≤ l1.toInt ∧ l1.toInt ≤ 5 → 0 ≤ l2.toInt ∧ l2.toInt ≤ 15 → 0 ≤ l3.toInt ∧ l3.toInt ≤ 146399 → 0 ≤ l4.toInt ∧ l4.toInt ≤ 146399 → (-1) ≤ l5.toInt ∧ l5.toInt ≤ 100000 → 0 ≤ l7.toInt ∧ l7.toInt ≤ 199 → 20 ≤ l8.toInt ∧ l8.toInt ≤ 17930 → l8.toInt % 90 = 20 → 0 ≤ l9.toInt ∧ l9.toInt ≤ 3 → 0 ≤ l10.toInt ∧ l10.toInt ≤ 1 → 0 ≤ g0.toInt ∧ g0.toInt ≤ 199 → 0 ≤ g1.toInt ∧ g1.toInt ≤ 369 → 0 ≤ g2.toInt ∧ g2.toInt ≤ 30 → 0 ≤ g3.toInt ∧ g3.toInt ≤ 100 → 0 ≤ g4.toInt ∧ g4.toInt ≤ 40 → 0 ≤ g5.toInt ∧ g5.toInt ≤ 400 → 0 ≤ g6.toInt ∧ g6.toInt ≤ 3 → 0 ≤ g7.toInt ∧ g7.toInt ≤ 1 → 0 ≤ g8.toInt ∧ g8.toInt ≤ 400 → 0 ≤ g9.toInt ∧ g9.toInt ≤ 400 → (l10.toInt = 0 ∨ g7.toInt ≠ 0 ∨ l9.toInt ≤ 2) → g1.toInt = g0.toInt + g2.toInt + g3.toInt + g4.toInt → (g5.toInt ≤ g8.toInt ∧ g9.toInt ≤ g5.toInt) → (g6.toInt = 0 ∨ g9.toInt + 1 ≤ g5.toInt) → jiv h 126 (0 : Int32).toNatClampNeg = g0 → jiv h 126 (16 : Int32).toNatClampNeg = g1 → jiv h 126 (4 : Int32).toNatClampNeg = g2 → jiv h 126 (5 : Int32).toNatClampNeg = g3 → jiv h 126 (7 : Int32).toNatClampNeg = g4 → jiv h 125 10 = g5 → jiv h 125 11 = g6 → jiv h 125 14 = g7 → jiv h 125 8 = g8 → jiv h 125 9 = g9 → jJ jSgM Dy h → jSm fp_X12_line_r125p h0 h → jX m_X12_line 6 0 0 171 [(0, .ref 125), (1, .int l1), (2, .int l2), (3, .int l3), (4, .int l4), (5, .int l5), (7, .int l7), (8, .int l8), (9, .int l9), (10, .int l10)] [] h 0 0 Q) : ∀ (l1 : Int32) (l2 : Int32) (l3 : Int32) (l4 : Int32) (l5 : Int32) (l7 : Int32) (l8 : Int32) (l9 : Int32) (g0 : Int32) (g1 : Int32) (g2 : Int32) (g3 : Int32) (g4 : Int32) (g5 : Int32) (g6 : Int32) (g7 : Int32) (g8 : Int32) (g9 : Int32) (h : jH), 0 ≤ l1.toInt ∧ l1.toInt ≤ 5 → 0 ≤ l2.toInt ∧ l2.toInt ≤ 15 → 0 ≤ l3.toInt ∧ l3.toInt ≤ 146399 → 0 ≤ l4.toInt ∧ l4.toInt ≤ 146399 → (-1) ≤ l5.toInt ∧ l5.toInt ≤ 100000 → 0 ≤ l7.toInt ∧ l7.toInt ≤ 199 → 20 ≤ l8.toInt ∧ l8.toInt ≤ 17930 → l8.toInt % 90 = 20 → 1 ≤ l9.toInt ∧ l9.toInt ≤ 3 → 0 ≤ g0.toInt ∧ g0.toInt ≤ 199 → 0 ≤ g1.toInt ∧ g1.toInt ≤ 369 → 0 ≤ g2.toInt ∧ g2.toInt ≤ 30 → 0 ≤ g3.toInt ∧ g3.toInt ≤ 100 → 0 ≤ g4.toInt ∧ g4.toInt ≤ 40 → 0 ≤ g5.toInt ∧ g5.toInt ≤ 400 → 0 ≤ g6.toInt ∧ g6.toInt ≤ 3 → 0 ≤ g7.toInt ∧ g7.toInt ≤ 1 → 0 ≤ g8.toInt ∧ g8.toInt ≤ 400 → 0 ≤ g9.toInt ∧ g9.toInt ≤ 400 → g1.toInt = g0.toInt + g2.toInt + g3.toInt + g4.toInt → (g5.toInt ≤ g8.toInt ∧ g9.toInt ≤ g5.toInt) → (g6.toInt = 0 ∨ g9.toInt + 1 ≤ g5.toInt) → jiv h 126 (0 : Int32).toNatClampNeg = g0 → jiv h 126 (16 : Int32).toNatClampNeg = g1 → jiv h 126 (4 : Int32).toNatClampNeg = g2 → jiv h 126 (5 : Int32).toNatClampNeg = g3 → jiv h 126 (7 : Int32).toNatClampNeg = g4 → jiv h 125 10 = g5 → jiv h 125 11 = g6 → jiv h 125 14 = g7 → jiv h 125 8 = g8 → jiv h 125 9 = g9 → 3 - l9.toInt < R171 → jJ jSgM Dy h → jSm fp_X12_line_r125p h0 h → jX m_X12_line 6 0 0 221 [(0, .ref 125), (1, .int l1), (2, .int l2), (3, .int l3), (4, .int l4), (5, .int l5), (7, .int l7), (8, .int l8), (9, .int l9)] [] h 0 0 Q := by
  intro l1 l2 l3 l4 l5 l7 l8 l9 g0 g1 g2 g3 g4 g5 g6 g7 g8 g9 h y0 y1 y2 y3 y4 y5 y6 y7 y8 y9 y10 y11 y12 y13 y14 y15 y16 y17 y18 y19 y20 y21 z0 z1 z2 z3 z4 z5 z6 z7 z8 z9 m171 J Sm
  refine x_iconst (v := 0) rfl ki_0 ?_
  exact jX.sub (jsb_c rfl (jsb_c rfl (jsb_c rfl (jsb_c rfl (jsb_c rfl (jsb_c rfl (jsb_c rfl (jsb_c rfl (jsb_c rfl jsb_n))))))))) (ct_X12_line_r125p_200222 hD hQ k171 l1 l2 l3 l4 l5 l7 l8 l9 g0 g1 g2 g3 g4 g5 g6 g7 g8 g9 h (jr_of rfl (by omega)) (jr_of rfl (by omega)) (jr_of rfl (by omega)) (jr_of rfl (by omega)) (jr_of rfl (by omega)) (jr_of rfl (by omega)) (jr_of rfl (by omega)) (jr_mod rfl (by omega)) (jr_of rfl (by omega)) (jr_of rfl (by omega)) (jr_of rfl (by omega)) (jr_of rfl (by omega)) (jr_of rfl (by omega)) (jr_of rfl (by omega)) (jr_of rfl (by omega)) (jr_of rfl (by omega)) (jr_of rfl (by omega)) (jr_of rfl (by omega)) (jr_of rfl (by omega)) (by omega) (by omega) (by omega) z0 z1 z2 z3 z4 z5 z6 z7 z8 z9 (by omega) J Sm)
set_option maxRecDepth 100000 in
set_option maxHeartbeats 4000000 in
theorem ct_X12_line_r125p_171 {Dy : jH → Prop} {h0 : jH} {Q : Option Value → jH → Prop} (hD : jDk Dy) (hQ : ∀ (v : Int32) hx9, jJ jSgM Dy hx9 → jSm fp_X12_line_r125p h0 hx9 → ∀ u0 u1 u2 u3 u4 : Int32, jiv hx9 126 (16 : Int32).toNatClampNeg = u0 → jiv hx9 126 (0 : Int32).toNatClampNeg = u1 → jiv hx9 126 (4 : Int32).toNatClampNeg = u2 → jiv hx9 126 (5 : Int32).toNatClampNeg = u3 → jiv hx9 126 (7 : Int32).toNatClampNeg = u4 → u0.toInt = u1.toInt + u2.toInt + u3.toInt + u4.toInt → (jiv hx9 125 8).toInt = 0 → Q (some (.int v)) hx9) : ∀ r : Nat, ∀ (l1 : Int32) (l2 : Int32) (l3 : Int32) (l4 : Int32) (l5 : Int32) (l7 : Int32) (l8 : Int32) (l9 : Int32) (l10 : Int32) (g0 : Int32) (g1 : Int32) (g2 : Int32) (g3 : Int32) (g4 : Int32) (g5 : Int32) (g6 : Int32) (g7 : Int32) (g8 : Int32) (g9 : Int32) (h : jH), 3 - l9.toInt < (r : Int) → 0 ≤ l1.toInt ∧ l1.toInt ≤ 5 → 0 ≤ l2.toInt ∧ l2.toInt ≤ 15 → 0 ≤ l3.toInt ∧ l3.toInt ≤ 146399 → 0 ≤ l4.toInt ∧ l4.toInt ≤ 146399 → (-1) ≤ l5.toInt ∧ l5.toInt ≤ 100000 → 0 ≤ l7.toInt ∧ l7.toInt ≤ 199 → 20 ≤ l8.toInt ∧ l8.toInt ≤ 17930 → l8.toInt % 90 = 20 → 0 ≤ l9.toInt ∧ l9.toInt ≤ 3 → 0 ≤ l10.toInt ∧ l10.toInt ≤ 1 → 0 ≤ g0.toInt ∧ g0.toInt ≤ 199 → 0 ≤ g1.toInt ∧ g1.toInt ≤ 369 → 0 ≤ g2.toInt ∧ g2.toInt ≤ 30 → 0 ≤ g3.toInt ∧ g3.toInt ≤ 100 → 0 ≤ g4.toInt ∧ g4.toInt ≤ 40 → 0 ≤ g5.toInt ∧ g5.toInt ≤ 400 → 0 ≤ g6.toInt ∧ g6.toInt ≤ 3 → 0 ≤ g7.toInt ∧ g7.toInt ≤ 1 → 0 ≤ g8.toInt ∧ g8.toInt ≤ 400 → 0 ≤ g9.toInt ∧ g9.toInt ≤ 400 → (l10.toInt = 0 ∨ g7.toInt ≠ 0 ∨ l9.toInt ≤ 2) → g1.toInt = g0.toInt + g2.toInt + g3.toInt + g4.toInt → (g5.toInt ≤ g8.toInt ∧ g9.toInt ≤ g5.toInt) → (g6.toInt = 0 ∨ g9.toInt + 1 ≤ g5.toInt) → jiv h 126 (0 : Int32).toNatClampNeg = g0 → jiv h 126 (16 : Int32).toNatClampNeg = g1 → jiv h 126 (4 : Int32).toNatClampNeg = g2 → jiv h 126 (5 : Int32).toNatClampNeg = g3 → jiv h 126 (7 : Int32).toNatClampNeg = g4 → jiv h 125 10 = g5 → jiv h 125 11 = g6 → jiv h 125 14 = g7 → jiv h 125 8 = g8 → jiv h 125 9 = g9 → jJ jSgM Dy h → jSm fp_X12_line_r125p h0 h → jX m_X12_line 6 0 0 171 [(0, .ref 125), (1, .int l1), (2, .int l2), (3, .int l3), (4, .int l4), (5, .int l5), (7, .int l7), (8, .int l8), (9, .int l9), (10, .int l10)] [] h 0 0 Q := by
  intro r
  induction r with
  | zero =>
    intro l1 l2 l3 l4 l5 l7 l8 l9 l10 g0 g1 g2 g3 g4 g5 g6 g7 g8 g9 h hm y0 y1 y2 y3 y4 y5 y6 y7 y8 y9 y10 y11 y12 y13 y14 y15 y16 y17 y18 y19 y20 y21 y22 y23 z0 z1 z2 z3 z4 z5 z6 z7 z8 z9  J Sm
    exfalso
    omega
  | succ r ih =>
    intro l1 l2 l3 l4 l5 l7 l8 l9 l10 g0 g1 g2 g3 g4 g5 g6 g7 g8 g9 h hm y0 y1 y2 y3 y4 y5 y6 y7 y8 y9 y10 y11 y12 y13 y14 y15 y16 y17 y18 y19 y20 y21 y22 y23 z0 z1 z2 z3 z4 z5 z6 z7 z8 z9  J Sm
    refine x_iload (x := l10) rfl rfl ?_
    refine x_ifeq (tgt := 250) rfl rfl (ti_eq rfl jk_0 ⟨fun c1 => ?_, fun c1 => ?_⟩)
    ·
      exact jX.sub (jsb_c rfl (jsb_c rfl (jsb_c rfl (jsb_c rfl (jsb_c rfl (jsb_c rfl (jsb_c rfl (jsb_c rfl jsb_n)))))))) (ct_X12_line_r125p_250 hD hQ  l1 l2 l3 l4 l5 l7 l8 g0 g1 g2 g3 g4 g5 g6 g7 g8 g9 h (jr_of rfl (by omega)) (jr_of rfl (by omega)) (jr_of rfl (by omega)) (jr_of rfl (by omega)) (jr_of rfl (by omega)) (jr_of rfl (by omega)) (jr_of rfl (by omega)) (jr_mod rfl (by omega)) (jr_of rfl (by omega)) (jr_of rfl (by omega)) (jr_of rfl (by omega)) (jr_of rfl (by omega)) (jr_of rfl (by omega)) (jr_of rfl (by omega)) (jr_of rfl (by omega)) (jr_of rfl (by omega)) (jr_of rfl (by omega)) (jr_of rfl (by omega)) (by omega) (by omega) (by omega) z0 z1 z2 z3 z4 z5 z6 z7 z8 z9 J Sm)
    ·
      refine x_aloadn (x := 125) rfl rfl ?_
      refine z_getM (N := 92) (v := g7) 12 14 rfl f_12_214 rfl J rfl z7 ?_
      refine x_ifne (tgt := 250) rfl rfl (ti_ne rfl jk_0 ⟨fun c2 => ?_, fun c2 => ?_⟩)
      ·
        exact jX.sub (jsb_c rfl (jsb_c rfl (jsb_c rfl (jsb_c rfl (jsb_c rfl (jsb_c rfl (jsb_c rfl (jsb_c rfl jsb_n)))))))) (ct_X12_line_r125p_250 hD hQ  l1 l2 l3 l4 l5 l7 l8 g0 g1 g2 g3 g4 g5 g6 g7 g8 g9 h (jr_of rfl (by omega)) (jr_of rfl (by omega)) (jr_of rfl (by omega)) (jr_of rfl (by omega)) (jr_of rfl (by omega)) (jr_of rfl (by omega)) (jr_of rfl (by omega)) (jr_mod rfl (by omega)) (jr_of rfl (by omega)) (jr_of rfl (by omega)) (jr_of rfl (by omega)) (jr_of rfl (by omega)) (jr_of rfl (by omega)) (jr_of rfl (by omega)) (jr_of rfl (by omega)) (jr_of rfl (by omega)) (jr_of rfl (by omega)) (jr_of rfl (by omega)) (by omega) (by omega) (by omega) z0 z1 z2 z3 z4 z5 z6 z7 z8 z9 J Sm)
      ·
        refine x_aloadn (x := 125) rfl rfl ?_
        refine x_iload (x := l8) rfl rfl ?_
        refine x_bipush (v := 6) rfl kb_6 ?_
        refine z_iadd rfl rfl jk_6 (by omega) (fun v3 ev3 => ?_)
        refine x_bipush (v := 28) rfl kb_28 ?_
        refine x_iload (x := l9) rfl rfl ?_
        refine z_imul rfl jk_28 rfl (by omega) (fun v4 ev4 => ?_)
        refine z_iadd rfl rfl rfl (by omega) (fun v5 ev5 => ?_)
        have rn5 := jrole (a := l8.toInt) (b := l9.toInt) (v := v5.toInt) (by omega) (by omega) (by omega)
        refine x_inv (N := m_X12_readRole) (As := [.int v5]) (b := 125) (st := []) (dx9 := 5) (mc := 0) (ms := 0) (host := "") 12 rfl t_X12_readRole ⟨Or.inl q_12_283, i_X12_readRole.1, i_X12_readRole.2⟩ ⟨by decide, rfl⟩ (congrArg Prod.fst (J.1.1 125 (12, 92) rfl)) rfl (by decide) rfl rfl ⟨by decide, by decide⟩ (jC.of rfl k_X12_readRole rfl ?_)
        show jX m_X12_readRole 5 0 0 0 [(0, .ref 125), (1, .int v5)] [] _ 0 0 _
        refine x_aloadn (x := 125) rfl rfl ?_
        refine x_bipush (v := 63) rfl kb_63 ?_
        refine x_inv (N := m_X12_isSign) (As := [.int 63]) (b := 125) (st := []) (dx9 := 4) (mc := 0) (ms := 0) (host := "") 12 rfl t_X12_isSign ⟨Or.inl q_12_257, i_X12_isSign.1, i_X12_isSign.2⟩ ⟨by decide, rfl⟩ (congrArg Prod.fst (J.1.1 125 (12, 92) rfl)) rfl (by decide) rfl rfl ⟨by decide, by decide⟩ (jC.of rfl k_X12_isSign rfl ?_)
        show jX m_X12_isSign 4 0 0 0 [(0, .ref 125), (1, .int 63)] [] _ 0 0 _
        refine x_aloadn (x := 125) rfl rfl ?_
        refine z_getM (N := 92) (v := g6) 12 11 rfl f_12_235 rfl J rfl z6 ?_
        refine x_iconst (v := 3) rfl ki_3 ?_
        refine x_icne (tgt := 22) rfl rfl (ti_ne rfl jk_3 ⟨fun c6 => ?_, fun c6 => ?_⟩)
        ·
          refine x_iconst (v := 0) rfl ki_0 ?_
          refine x_zret rfl rfl (by decide) ?_
          show jX m_X12_readRole 5 0 0 6 [(0, .ref 125), (1, .int v5)] [.int 0] _ 0 0 _
          refine x_istoren (lsx9 := [(2, .int 0), (0, .ref 125), (1, .int v5)]) rfl rfl rfl ?_
          refine x_aloadn (x := 125) rfl rfl ?_
          refine x_iloadn (x := v5) rfl rfl ?_
          refine x_inv (N := m_X12_readName) (As := [.int v5]) (b := 125) (st := []) (dx9 := 4) (mc := 0) (ms := 0) (host := "") 12 rfl t_X12_readName ⟨Or.inl q_12_260, i_X12_readName.1, i_X12_readName.2⟩ ⟨by decide, rfl⟩ (congrArg Prod.fst (J.1.1 125 (12, 92) rfl)) rfl (by decide) rfl rfl ⟨by decide, by decide⟩ (sf_X12_readName_r125 (jr_of rfl (by omega)) (jr_mod rfl (by omega)) (by omega) hD J z5 z8 z9 (by omega) z6 z9 z5 (by omega)  (fun h J S7 u8 u9 u10 qu8 qu9 qu10 ru8 u11 u12 u13 qu11 qu12 qu13 ru11 => ?_))
          have Sm := jSm_tr rfl Sm S7
          have eu8 := (show 0 ≤ u8.toInt ∧ u8.toInt ≤ 400 from qu8 ▸ jrg_f J sg_125_10_11_1_0_1)
          have eu9 := (show 0 ≤ u9.toInt ∧ u9.toInt ≤ 400 from qu9 ▸ jrg_f J sg_125_8_9_1_0_1)
          have eu10 := (show 0 ≤ u10.toInt ∧ u10.toInt ≤ 400 from qu10 ▸ jrg_f J sg_125_9_10_1_0_1)
          have eu11 := (show 0 ≤ u11.toInt ∧ u11.toInt ≤ 3 from qu11 ▸ jrg_f J sg_125_11_12_1_0_1)
          obtain rfl : u10 = u12 := qu10.symm.trans qu12
          obtain rfl : u8 = u13 := qu8.symm.trans qu13
          show jX m_X12_readRole 5 0 0 12 [(2, .int 0), (0, .ref 125), (1, .int v5)] [] _ 0 0 _
          refine x_aloadn (x := 125) rfl rfl ?_
          refine z_getI (N := 92) 12 14 rfl f_12_214 rfl J rfl sg_125_14_15_1_0_1 (fun v14 qv14 ev14 => ?_)
          refine x_ifeq (tgt := 20) rfl rfl (ti_eq rfl jk_0 ⟨fun c15 => ?_, fun c15 => ?_⟩)
          ·
            refine x_iloadn (x := 0) rfl rfl ?_
            refine x_ifeq (tgt := 70) rfl rfl (ti_eq jk_0 jk_0 (br_t (by omega) ?_))
            refine x_aloadn (x := 125) rfl rfl ?_
            refine x_iloadn (x := v5) rfl rfl ?_
            refine x_bipush (v := 14) rfl kb_14 ?_
            refine z_iadd rfl rfl jk_14 (by omega) (fun v16 ev16 => ?_)
            refine x_inv (N := m_X12_readName) (As := [.int v16]) (b := 125) (st := []) (dx9 := 4) (mc := 0) (ms := 0) (host := "") 12 rfl t_X12_readName ⟨Or.inl q_12_260, i_X12_readName.1, i_X12_readName.2⟩ ⟨by decide, rfl⟩ (congrArg Prod.fst (J.1.1 125 (12, 92) rfl)) rfl (by decide) rfl rfl ⟨by decide, by decide⟩ (sf_X12_readName_r125 (jr_of rfl (by omega)) (jr_mod rfl (by omega)) (by omega) hD J qu8 qu9 qu10 (by omega) qu11 qu10 qu8 (by omega)  (fun h J S17 u18 u19 u20 qu18 qu19 qu20 ru18 u21 u22 u23 qu21 qu22 qu23 ru21 => ?_))
            have Sm := jSm_tr rfl Sm S17
            have eu18 := (show 0 ≤ u18.toInt ∧ u18.toInt ≤ 400 from qu18 ▸ jrg_f J sg_125_10_11_1_0_1)
            have eu19 := (show 0 ≤ u19.toInt ∧ u19.toInt ≤ 400 from qu19 ▸ jrg_f J sg_125_8_9_1_0_1)
            have eu20 := (show 0 ≤ u20.toInt ∧ u20.toInt ≤ 400 from qu20 ▸ jrg_f J sg_125_9_10_1_0_1)
            have eu21 := (show 0 ≤ u21.toInt ∧ u21.toInt ≤ 3 from qu21 ▸ jrg_f J sg_125_11_12_1_0_1)
            obtain rfl : u20 = u22 := qu20.symm.trans qu22
            obtain rfl : u18 = u23 := qu18.symm.trans qu23
            show jX m_X12_readRole 5 0 0 78 [(2, .int 0), (0, .ref 125), (1, .int v5)] [] _ 0 0 _
            refine x_vret rfl rfl ?_
            show jX m_X12_line 6 0 0 198 [(0, .ref 125), (1, .int l1), (2, .int l2), (3, .int l3), (4, .int l4), (5, .int l5), (7, .int l7), (8, .int l8), (9, .int l9), (10, .int l10)] [] _ 0 0 _
            refine z_iinc (x := l9) (lsx9 := fun v24 => [(9, .int v24), (0, .ref 125), (1, .int l1), (2, .int l2), (3, .int l3), (4, .int l4), (5, .int l5), (7, .int l7), (8, .int l8), (10, .int l10)]) rfl rfl rfl jko_1 (by omega) rfl (fun _ => rfl) (fun v24 ev24 => ?_)
            refine x_aloadn (x := 125) rfl rfl ?_
            refine z_getI (N := 92) 12 14 rfl f_12_214 rfl J rfl sg_125_14_15_1_0_1 (fun v25 qv25 ev25 => ?_)
            refine x_ifne (tgt := 221) rfl rfl (ti_ne rfl jk_0 ⟨fun c26 => ?_, fun c26 => ?_⟩)
            ·
              exact jX.sub (jsb_c rfl (jsb_c rfl (jsb_c rfl (jsb_c rfl (jsb_c rfl (jsb_c rfl (jsb_c rfl (jsb_c rfl (jsb_c rfl jsb_n))))))))) (ct_X12_line_r125p_221 hD hQ ih l1 l2 l3 l4 l5 l7 l8 v24 g0 g1 g2 g3 g4 u18 u21 v25 u19 u20 h (jr_of rfl (by omega)) (jr_of rfl (by omega)) (jr_of rfl (by omega)) (jr_of rfl (by omega)) (jr_of rfl (by omega)) (jr_of rfl (by omega)) (jr_of rfl (by omega)) (jr_mod rfl (by omega)) (jr_of rfl (by omega)) (jr_of rfl (by omega)) (jr_of rfl (by omega)) (jr_of rfl (by omega)) (jr_of rfl (by omega)) (jr_of rfl (by omega)) (jr_of rfl (by omega)) (jr_of rfl (by omega)) (jr_of rfl (by omega)) (jr_of rfl (by omega)) (jr_of rfl (by omega)) (by omega) (by omega) (by omega) (jmc S17 rfl (jmc S7 rfl z0)) (jmc S17 rfl (jmc S7 rfl z1)) (jmc S17 rfl (jmc S7 rfl z2)) (jmc S17 rfl (jmc S7 rfl z3)) (jmc S17 rfl (jmc S7 rfl z4)) qu18 qu21 qv25 qu19 qu20 (by omega) J Sm)
            ·
              refine x_aloadn (x := 125) rfl rfl ?_
              refine x_bipush (v := 44) rfl kb_44 ?_
              refine x_inv (N := m_X12_isSign) (As := [.int 44]) (b := 125) (st := []) (dx9 := 5) (mc := 0) (ms := 0) (host := "") 12 rfl t_X12_isSign ⟨Or.inl q_12_257, i_X12_isSign.1, i_X12_isSign.2⟩ ⟨by decide, rfl⟩ (congrArg Prod.fst (J.1.1 125 (12, 92) rfl)) rfl (by decide) rfl rfl ⟨by decide, by decide⟩ (jC.of rfl k_X12_isSign rfl ?_)
              show jX m_X12_isSign 5 0 0 0 [(0, .ref 125), (1, .int 44)] [] _ 0 0 _
              refine x_aloadn (x := 125) rfl rfl ?_
              refine z_getM (N := 92) (v := u21) 12 11 rfl f_12_235 rfl J rfl qu21 ?_
              refine x_iconst (v := 3) rfl ki_3 ?_
              refine x_icne (tgt := 22) rfl rfl (ti_ne rfl jk_3 ⟨fun c27 => ?_, fun c27 => ?_⟩)
              ·
                refine x_iconst (v := 0) rfl ki_0 ?_
                refine x_zret rfl rfl (by decide) ?_
                show jX m_X12_line 6 0 0 214 [(9, .int v24), (0, .ref 125), (1, .int l1), (2, .int l2), (3, .int l3), (4, .int l4), (5, .int l5), (7, .int l7), (8, .int l8), (10, .int l10)] [.int 0] _ 0 0 _
                refine x_ifeq (tgt := 221) rfl rfl (ti_eq jk_0 jk_0 (br_t (by omega) ?_))
                exact jX.sub (jsb_c rfl (jsb_c rfl (jsb_c rfl (jsb_c rfl (jsb_c rfl (jsb_c rfl (jsb_c rfl (jsb_c rfl (jsb_c rfl jsb_n))))))))) (ct_X12_line_r125p_221 hD hQ ih l1 l2 l3 l4 l5 l7 l8 v24 g0 g1 g2 g3 g4 u18 u21 v25 u19 u20 h (jr_of rfl (by omega)) (jr_of rfl (by omega)) (jr_of rfl (by omega)) (jr_of rfl (by omega)) (jr_of rfl (by omega)) (jr_of rfl (by omega)) (jr_of rfl (by omega)) (jr_mod rfl (by omega)) (jr_of rfl (by omega)) (jr_of rfl (by omega)) (jr_of rfl (by omega)) (jr_of rfl (by omega)) (jr_of rfl (by omega)) (jr_of rfl (by omega)) (jr_of rfl (by omega)) (jr_of rfl (by omega)) (jr_of rfl (by omega)) (jr_of rfl (by omega)) (jr_of rfl (by omega)) (by omega) (by omega) (by omega) (jmc S17 rfl (jmc S7 rfl z0)) (jmc S17 rfl (jmc S7 rfl z1)) (jmc S17 rfl (jmc S7 rfl z2)) (jmc S17 rfl (jmc S7 rfl z3)) (jmc S17 rfl (jmc S7 rfl z4)) qu18 qu21 qv25 qu19 qu20 (by omega) J Sm)
              ·
                refine x_aloadn (x := 125) rfl rfl ?_
                refine z_getL0 (N := 92) 12 12 rfl f_12_224 rfl J rfl (fun v28 => ?_)
                have ev28 := jfullL v28
                refine x_iloadn (x := 44) rfl rfl ?_
                refine z_i2l rfl jk_44 (fun v29 ev29 => ?_)
                refine z_lcmp rfl rfl rfl (fun v30 ev30 => ?_)
                refine x_ifne (tgt := 22) rfl rfl (ti_ne rfl jk_0 ⟨fun c31 => ?_, fun c31 => ?_⟩)
                ·
                  refine x_iconst (v := 0) rfl ki_0 ?_
                  refine x_zret rfl rfl (by decide) ?_
                  show jX m_X12_line 6 0 0 214 [(9, .int v24), (0, .ref 125), (1, .int l1), (2, .int l2), (3, .int l3), (4, .int l4), (5, .int l5), (7, .int l7), (8, .int l8), (10, .int l10)] [.int 0] _ 0 0 _
                  refine x_ifeq (tgt := 221) rfl rfl (ti_eq jk_0 jk_0 (br_t (by omega) ?_))
                  exact jX.sub (jsb_c rfl (jsb_c rfl (jsb_c rfl (jsb_c rfl (jsb_c rfl (jsb_c rfl (jsb_c rfl (jsb_c rfl (jsb_c rfl jsb_n))))))))) (ct_X12_line_r125p_221 hD hQ ih l1 l2 l3 l4 l5 l7 l8 v24 g0 g1 g2 g3 g4 u18 u21 v25 u19 u20 h (jr_of rfl (by omega)) (jr_of rfl (by omega)) (jr_of rfl (by omega)) (jr_of rfl (by omega)) (jr_of rfl (by omega)) (jr_of rfl (by omega)) (jr_of rfl (by omega)) (jr_mod rfl (by omega)) (jr_of rfl (by omega)) (jr_of rfl (by omega)) (jr_of rfl (by omega)) (jr_of rfl (by omega)) (jr_of rfl (by omega)) (jr_of rfl (by omega)) (jr_of rfl (by omega)) (jr_of rfl (by omega)) (jr_of rfl (by omega)) (jr_of rfl (by omega)) (jr_of rfl (by omega)) (by omega) (by omega) (by omega) (jmc S17 rfl (jmc S7 rfl z0)) (jmc S17 rfl (jmc S7 rfl z1)) (jmc S17 rfl (jmc S7 rfl z2)) (jmc S17 rfl (jmc S7 rfl z3)) (jmc S17 rfl (jmc S7 rfl z4)) qu18 qu21 qv25 qu19 qu20 (by omega) J Sm)
                ·
                  refine x_iconst (v := 1) rfl ki_1 ?_
                  refine x_goto (tgt := 23) rfl rfl ?_
                  refine x_zret rfl rfl (by decide) ?_
                  show jX m_X12_line 6 0 0 214 [(9, .int v24), (0, .ref 125), (1, .int l1), (2, .int l2), (3, .int l3), (4, .int l4), (5, .int l5), (7, .int l7), (8, .int l8), (10, .int l10)] [.int 1] _ 0 0 _
                  refine x_ifeq (tgt := 221) rfl rfl (ti_eq jk_1 jk_0 (br_f (by omega) ?_))
                  refine x_iconst (v := 1) rfl ki_1 ?_
                  refine x_goto (tgt := 222) rfl rfl ?_
                  exact jX.sub (jsb_c rfl (jsb_c rfl (jsb_c rfl (jsb_c rfl (jsb_c rfl (jsb_c rfl (jsb_c rfl (jsb_c rfl (jsb_c rfl jsb_n))))))))) (ct_X12_line_r125p_300222 hD hQ ih l1 l2 l3 l4 l5 l7 l8 v24 g0 g1 g2 g3 g4 u18 u21 v25 u19 u20 h (jr_of rfl (by omega)) (jr_of rfl (by omega)) (jr_of rfl (by omega)) (jr_of rfl (by omega)) (jr_of rfl (by omega)) (jr_of rfl (by omega)) (jr_of rfl (by omega)) (jr_mod rfl (by omega)) (jr_of rfl (by omega)) (jr_of rfl (by omega)) (jr_of rfl (by omega)) (jr_of rfl (by omega)) (jr_of rfl (by omega)) (jr_of rfl (by omega)) (jr_of rfl (by omega)) (jr_of rfl (by omega)) (jr_of rfl (by omega)) (jr_of rfl (by omega)) (jr_of rfl (by omega)) (by omega) (by omega) (by omega) (jmc S17 rfl (jmc S7 rfl z0)) (jmc S17 rfl (jmc S7 rfl z1)) (jmc S17 rfl (jmc S7 rfl z2)) (jmc S17 rfl (jmc S7 rfl z3)) (jmc S17 rfl (jmc S7 rfl z4)) qu18 qu21 qv25 qu19 qu20 (by omega) J Sm)
          ·
            refine x_vret rfl rfl ?_
            show jX m_X12_line 6 0 0 198 [(0, .ref 125), (1, .int l1), (2, .int l2), (3, .int l3), (4, .int l4), (5, .int l5), (7, .int l7), (8, .int l8), (9, .int l9), (10, .int l10)] [] _ 0 0 _
            refine z_iinc (x := l9) (lsx9 := fun v32 => [(9, .int v32), (0, .ref 125), (1, .int l1), (2, .int l2), (3, .int l3), (4, .int l4), (5, .int l5), (7, .int l7), (8, .int l8), (10, .int l10)]) rfl rfl rfl jko_1 (by omega) rfl (fun _ => rfl) (fun v32 ev32 => ?_)
            refine x_aloadn (x := 125) rfl rfl ?_
            refine z_getM (N := 92) (v := v14) 12 14 rfl f_12_214 rfl J rfl qv14 ?_
            refine x_ifne (tgt := 221) rfl rfl (ti_ne rfl jk_0 (bn_t (by omega) ?_))
            exact jX.sub (jsb_c rfl (jsb_c rfl (jsb_c rfl (jsb_c rfl (jsb_c rfl (jsb_c rfl (jsb_c rfl (jsb_c rfl (jsb_c rfl jsb_n))))))))) (ct_X12_line_r125p_221 hD hQ ih l1 l2 l3 l4 l5 l7 l8 v32 g0 g1 g2 g3 g4 u8 u11 v14 u9 u10 h (jr_of rfl (by omega)) (jr_of rfl (by omega)) (jr_of rfl (by omega)) (jr_of rfl (by omega)) (jr_of rfl (by omega)) (jr_of rfl (by omega)) (jr_of rfl (by omega)) (jr_mod rfl (by omega)) (jr_of rfl (by omega)) (jr_of rfl (by omega)) (jr_of rfl (by omega)) (jr_of rfl (by omega)) (jr_of rfl (by omega)) (jr_of rfl (by omega)) (jr_of rfl (by omega)) (jr_of rfl (by omega)) (jr_of rfl (by omega)) (jr_of rfl (by omega)) (jr_of rfl (by omega)) (by omega) (by omega) (by omega) (jmc S7 rfl z0) (jmc S7 rfl z1) (jmc S7 rfl z2) (jmc S7 rfl z3) (jmc S7 rfl z4) qu8 qu11 qv14 qu9 qu10 (by omega) J Sm)
        ·
          refine x_aloadn (x := 125) rfl rfl ?_
          refine z_getL0 (N := 92) 12 12 rfl f_12_224 rfl J rfl (fun v33 => ?_)
          have ev33 := jfullL v33
          refine x_iloadn (x := 63) rfl rfl ?_
          refine z_i2l rfl jk_63 (fun v34 ev34 => ?_)
          refine z_lcmp rfl rfl rfl (fun v35 ev35 => ?_)
          refine x_ifne (tgt := 22) rfl rfl (ti_ne rfl jk_0 ⟨fun c36 => ?_, fun c36 => ?_⟩)
          ·
            refine x_iconst (v := 0) rfl ki_0 ?_
            refine x_zret rfl rfl (by decide) ?_
            show jX m_X12_readRole 5 0 0 6 [(0, .ref 125), (1, .int v5)] [.int 0] _ 0 0 _
            refine x_istoren (lsx9 := [(2, .int 0), (0, .ref 125), (1, .int v5)]) rfl rfl rfl ?_
            refine x_aloadn (x := 125) rfl rfl ?_
            refine x_iloadn (x := v5) rfl rfl ?_
            refine x_inv (N := m_X12_readName) (As := [.int v5]) (b := 125) (st := []) (dx9 := 4) (mc := 0) (ms := 0) (host := "") 12 rfl t_X12_readName ⟨Or.inl q_12_260, i_X12_readName.1, i_X12_readName.2⟩ ⟨by decide, rfl⟩ (congrArg Prod.fst (J.1.1 125 (12, 92) rfl)) rfl (by decide) rfl rfl ⟨by decide, by decide⟩ (sf_X12_readName_r125 (jr_of rfl (by omega)) (jr_mod rfl (by omega)) (by omega) hD J z5 z8 z9 (by omega) z6 z9 z5 (by omega)  (fun h J S37 u38 u39 u40 qu38 qu39 qu40 ru38 u41 u42 u43 qu41 qu42 qu43 ru41 => ?_))
            have Sm := jSm_tr rfl Sm S37
            have eu38 := (show 0 ≤ u38.toInt ∧ u38.toInt ≤ 400 from qu38 ▸ jrg_f J sg_125_10_11_1_0_1)
            have eu39 := (show 0 ≤ u39.toInt ∧ u39.toInt ≤ 400 from qu39 ▸ jrg_f J sg_125_8_9_1_0_1)
            have eu40 := (show 0 ≤ u40.toInt ∧ u40.toInt ≤ 400 from qu40 ▸ jrg_f J sg_125_9_10_1_0_1)
            have eu41 := (show 0 ≤ u41.toInt ∧ u41.toInt ≤ 3 from qu41 ▸ jrg_f J sg_125_11_12_1_0_1)
            obtain rfl : u40 = u42 := qu40.symm.trans qu42
            obtain rfl : u38 = u43 := qu38.symm.trans qu43
            show jX m_X12_readRole 5 0 0 12 [(2, .int 0), (0, .ref 125), (1, .int v5)] [] _ 0 0 _
            refine x_aloadn (x := 125) rfl rfl ?_
            refine z_getI (N := 92) 12 14 rfl f_12_214 rfl J rfl sg_125_14_15_1_0_1 (fun v44 qv44 ev44 => ?_)
            refine x_ifeq (tgt := 20) rfl rfl (ti_eq rfl jk_0 ⟨fun c45 => ?_, fun c45 => ?_⟩)
            ·
              refine x_iloadn (x := 0) rfl rfl ?_
              refine x_ifeq (tgt := 70) rfl rfl (ti_eq jk_0 jk_0 (br_t (by omega) ?_))
              refine x_aloadn (x := 125) rfl rfl ?_
              refine x_iloadn (x := v5) rfl rfl ?_
              refine x_bipush (v := 14) rfl kb_14 ?_
              refine z_iadd rfl rfl jk_14 (by omega) (fun v46 ev46 => ?_)
              refine x_inv (N := m_X12_readName) (As := [.int v46]) (b := 125) (st := []) (dx9 := 4) (mc := 0) (ms := 0) (host := "") 12 rfl t_X12_readName ⟨Or.inl q_12_260, i_X12_readName.1, i_X12_readName.2⟩ ⟨by decide, rfl⟩ (congrArg Prod.fst (J.1.1 125 (12, 92) rfl)) rfl (by decide) rfl rfl ⟨by decide, by decide⟩ (sf_X12_readName_r125 (jr_of rfl (by omega)) (jr_mod rfl (by omega)) (by omega) hD J qu38 qu39 qu40 (by omega) qu41 qu40 qu38 (by omega)  (fun h J S47 u48 u49 u50 qu48 qu49 qu50 ru48 u51 u52 u53 qu51 qu52 qu53 ru51 => ?_))
              have Sm := jSm_tr rfl Sm S47
              have eu48 := (show 0 ≤ u48.toInt ∧ u48.toInt ≤ 400 from qu48 ▸ jrg_f J sg_125_10_11_1_0_1)
              have eu49 := (show 0 ≤ u49.toInt ∧ u49.toInt ≤ 400 from qu49 ▸ jrg_f J sg_125_8_9_1_0_1)
              have eu50 := (show 0 ≤ u50.toInt ∧ u50.toInt ≤ 400 from qu50 ▸ jrg_f J sg_125_9_10_1_0_1)
              have eu51 := (show 0 ≤ u51.toInt ∧ u51.toInt ≤ 3 from qu51 ▸ jrg_f J sg_125_11_12_1_0_1)
              obtain rfl : u50 = u52 := qu50.symm.trans qu52
              obtain rfl : u48 = u53 := qu48.symm.trans qu53
              show jX m_X12_readRole 5 0 0 78 [(2, .int 0), (0, .ref 125), (1, .int v5)] [] _ 0 0 _
              refine x_vret rfl rfl ?_
              show jX m_X12_line 6 0 0 198 [(0, .ref 125), (1, .int l1), (2, .int l2), (3, .int l3), (4, .int l4), (5, .int l5), (7, .int l7), (8, .int l8), (9, .int l9), (10, .int l10)] [] _ 0 0 _
              refine z_iinc (x := l9) (lsx9 := fun v54 => [(9, .int v54), (0, .ref 125), (1, .int l1), (2, .int l2), (3, .int l3), (4, .int l4), (5, .int l5), (7, .int l7), (8, .int l8), (10, .int l10)]) rfl rfl rfl jko_1 (by omega) rfl (fun _ => rfl) (fun v54 ev54 => ?_)
              refine x_aloadn (x := 125) rfl rfl ?_
              refine z_getI (N := 92) 12 14 rfl f_12_214 rfl J rfl sg_125_14_15_1_0_1 (fun v55 qv55 ev55 => ?_)
              refine x_ifne (tgt := 221) rfl rfl (ti_ne rfl jk_0 ⟨fun c56 => ?_, fun c56 => ?_⟩)
              ·
                exact jX.sub (jsb_c rfl (jsb_c rfl (jsb_c rfl (jsb_c rfl (jsb_c rfl (jsb_c rfl (jsb_c rfl (jsb_c rfl (jsb_c rfl jsb_n))))))))) (ct_X12_line_r125p_221 hD hQ ih l1 l2 l3 l4 l5 l7 l8 v54 g0 g1 g2 g3 g4 u48 u51 v55 u49 u50 h (jr_of rfl (by omega)) (jr_of rfl (by omega)) (jr_of rfl (by omega)) (jr_of rfl (by omega)) (jr_of rfl (by omega)) (jr_of rfl (by omega)) (jr_of rfl (by omega)) (jr_mod rfl (by omega)) (jr_of rfl (by omega)) (jr_of rfl (by omega)) (jr_of rfl (by omega)) (jr_of rfl (by omega)) (jr_of rfl (by omega)) (jr_of rfl (by omega)) (jr_of rfl (by omega)) (jr_of rfl (by omega)) (jr_of rfl (by omega)) (jr_of rfl (by omega)) (jr_of rfl (by omega)) (by omega) (by omega) (by omega) (jmc S47 rfl (jmc S37 rfl z0)) (jmc S47 rfl (jmc S37 rfl z1)) (jmc S47 rfl (jmc S37 rfl z2)) (jmc S47 rfl (jmc S37 rfl z3)) (jmc S47 rfl (jmc S37 rfl z4)) qu48 qu51 qv55 qu49 qu50 (by omega) J Sm)
              ·
                refine x_aloadn (x := 125) rfl rfl ?_
                refine x_bipush (v := 44) rfl kb_44 ?_
                refine x_inv (N := m_X12_isSign) (As := [.int 44]) (b := 125) (st := []) (dx9 := 5) (mc := 0) (ms := 0) (host := "") 12 rfl t_X12_isSign ⟨Or.inl q_12_257, i_X12_isSign.1, i_X12_isSign.2⟩ ⟨by decide, rfl⟩ (congrArg Prod.fst (J.1.1 125 (12, 92) rfl)) rfl (by decide) rfl rfl ⟨by decide, by decide⟩ (jC.of rfl k_X12_isSign rfl ?_)
                show jX m_X12_isSign 5 0 0 0 [(0, .ref 125), (1, .int 44)] [] _ 0 0 _
                refine x_aloadn (x := 125) rfl rfl ?_
                refine z_getM (N := 92) (v := u51) 12 11 rfl f_12_235 rfl J rfl qu51 ?_
                refine x_iconst (v := 3) rfl ki_3 ?_
                refine x_icne (tgt := 22) rfl rfl (ti_ne rfl jk_3 ⟨fun c57 => ?_, fun c57 => ?_⟩)
                ·
                  refine x_iconst (v := 0) rfl ki_0 ?_
                  refine x_zret rfl rfl (by decide) ?_
                  show jX m_X12_line 6 0 0 214 [(9, .int v54), (0, .ref 125), (1, .int l1), (2, .int l2), (3, .int l3), (4, .int l4), (5, .int l5), (7, .int l7), (8, .int l8), (10, .int l10)] [.int 0] _ 0 0 _
                  refine x_ifeq (tgt := 221) rfl rfl (ti_eq jk_0 jk_0 (br_t (by omega) ?_))
                  exact jX.sub (jsb_c rfl (jsb_c rfl (jsb_c rfl (jsb_c rfl (jsb_c rfl (jsb_c rfl (jsb_c rfl (jsb_c rfl (jsb_c rfl jsb_n))))))))) (ct_X12_line_r125p_221 hD hQ ih l1 l2 l3 l4 l5 l7 l8 v54 g0 g1 g2 g3 g4 u48 u51 v55 u49 u50 h (jr_of rfl (by omega)) (jr_of rfl (by omega)) (jr_of rfl (by omega)) (jr_of rfl (by omega)) (jr_of rfl (by omega)) (jr_of rfl (by omega)) (jr_of rfl (by omega)) (jr_mod rfl (by omega)) (jr_of rfl (by omega)) (jr_of rfl (by omega)) (jr_of rfl (by omega)) (jr_of rfl (by omega)) (jr_of rfl (by omega)) (jr_of rfl (by omega)) (jr_of rfl (by omega)) (jr_of rfl (by omega)) (jr_of rfl (by omega)) (jr_of rfl (by omega)) (jr_of rfl (by omega)) (by omega) (by omega) (by omega) (jmc S47 rfl (jmc S37 rfl z0)) (jmc S47 rfl (jmc S37 rfl z1)) (jmc S47 rfl (jmc S37 rfl z2)) (jmc S47 rfl (jmc S37 rfl z3)) (jmc S47 rfl (jmc S37 rfl z4)) qu48 qu51 qv55 qu49 qu50 (by omega) J Sm)
                ·
                  refine x_aloadn (x := 125) rfl rfl ?_
                  refine z_getL0 (N := 92) 12 12 rfl f_12_224 rfl J rfl (fun v58 => ?_)
                  have ev58 := jfullL v58
                  refine x_iloadn (x := 44) rfl rfl ?_
                  refine z_i2l rfl jk_44 (fun v59 ev59 => ?_)
                  refine z_lcmp rfl rfl rfl (fun v60 ev60 => ?_)
                  refine x_ifne (tgt := 22) rfl rfl (ti_ne rfl jk_0 ⟨fun c61 => ?_, fun c61 => ?_⟩)
                  ·
                    refine x_iconst (v := 0) rfl ki_0 ?_
                    refine x_zret rfl rfl (by decide) ?_
                    show jX m_X12_line 6 0 0 214 [(9, .int v54), (0, .ref 125), (1, .int l1), (2, .int l2), (3, .int l3), (4, .int l4), (5, .int l5), (7, .int l7), (8, .int l8), (10, .int l10)] [.int 0] _ 0 0 _
                    refine x_ifeq (tgt := 221) rfl rfl (ti_eq jk_0 jk_0 (br_t (by omega) ?_))
                    exact jX.sub (jsb_c rfl (jsb_c rfl (jsb_c rfl (jsb_c rfl (jsb_c rfl (jsb_c rfl (jsb_c rfl (jsb_c rfl (jsb_c rfl jsb_n))))))))) (ct_X12_line_r125p_221 hD hQ ih l1 l2 l3 l4 l5 l7 l8 v54 g0 g1 g2 g3 g4 u48 u51 v55 u49 u50 h (jr_of rfl (by omega)) (jr_of rfl (by omega)) (jr_of rfl (by omega)) (jr_of rfl (by omega)) (jr_of rfl (by omega)) (jr_of rfl (by omega)) (jr_of rfl (by omega)) (jr_mod rfl (by omega)) (jr_of rfl (by omega)) (jr_of rfl (by omega)) (jr_of rfl (by omega)) (jr_of rfl (by omega)) (jr_of rfl (by omega)) (jr_of rfl (by omega)) (jr_of rfl (by omega)) (jr_of rfl (by omega)) (jr_of rfl (by omega)) (jr_of rfl (by omega)) (jr_of rfl (by omega)) (by omega) (by omega) (by omega) (jmc S47 rfl (jmc S37 rfl z0)) (jmc S47 rfl (jmc S37 rfl z1)) (jmc S47 rfl (jmc S37 rfl z2)) (jmc S47 rfl (jmc S37 rfl z3)) (jmc S47 rfl (jmc S37 rfl z4)) qu48 qu51 qv55 qu49 qu50 (by omega) J Sm)
                  ·
                    refine x_iconst (v := 1) rfl ki_1 ?_
                    refine x_goto (tgt := 23) rfl rfl ?_
                    refine x_zret rfl rfl (by decide) ?_
                    show jX m_X12_line 6 0 0 214 [(9, .int v54), (0, .ref 125), (1, .int l1), (2, .int l2), (3, .int l3), (4, .int l4), (5, .int l5), (7, .int l7), (8, .int l8), (10, .int l10)] [.int 1] _ 0 0 _
                    refine x_ifeq (tgt := 221) rfl rfl (ti_eq jk_1 jk_0 (br_f (by omega) ?_))
                    refine x_iconst (v := 1) rfl ki_1 ?_
                    refine x_goto (tgt := 222) rfl rfl ?_
                    exact jX.sub (jsb_c rfl (jsb_c rfl (jsb_c rfl (jsb_c rfl (jsb_c rfl (jsb_c rfl (jsb_c rfl (jsb_c rfl (jsb_c rfl jsb_n))))))))) (ct_X12_line_r125p_300222 hD hQ ih l1 l2 l3 l4 l5 l7 l8 v54 g0 g1 g2 g3 g4 u48 u51 v55 u49 u50 h (jr_of rfl (by omega)) (jr_of rfl (by omega)) (jr_of rfl (by omega)) (jr_of rfl (by omega)) (jr_of rfl (by omega)) (jr_of rfl (by omega)) (jr_of rfl (by omega)) (jr_mod rfl (by omega)) (jr_of rfl (by omega)) (jr_of rfl (by omega)) (jr_of rfl (by omega)) (jr_of rfl (by omega)) (jr_of rfl (by omega)) (jr_of rfl (by omega)) (jr_of rfl (by omega)) (jr_of rfl (by omega)) (jr_of rfl (by omega)) (jr_of rfl (by omega)) (jr_of rfl (by omega)) (by omega) (by omega) (by omega) (jmc S47 rfl (jmc S37 rfl z0)) (jmc S47 rfl (jmc S37 rfl z1)) (jmc S47 rfl (jmc S37 rfl z2)) (jmc S47 rfl (jmc S37 rfl z3)) (jmc S47 rfl (jmc S37 rfl z4)) qu48 qu51 qv55 qu49 qu50 (by omega) J Sm)
            ·
              refine x_vret rfl rfl ?_
              show jX m_X12_line 6 0 0 198 [(0, .ref 125), (1, .int l1), (2, .int l2), (3, .int l3), (4, .int l4), (5, .int l5), (7, .int l7), (8, .int l8), (9, .int l9), (10, .int l10)] [] _ 0 0 _
              refine z_iinc (x := l9) (lsx9 := fun v62 => [(9, .int v62), (0, .ref 125), (1, .int l1), (2, .int l2), (3, .int l3), (4, .int l4), (5, .int l5), (7, .int l7), (8, .int l8), (10, .int l10)]) rfl rfl rfl jko_1 (by omega) rfl (fun _ => rfl) (fun v62 ev62 => ?_)
              refine x_aloadn (x := 125) rfl rfl ?_
              refine z_getM (N := 92) (v := v44) 12 14 rfl f_12_214 rfl J rfl qv44 ?_
              refine x_ifne (tgt := 221) rfl rfl (ti_ne rfl jk_0 (bn_t (by omega) ?_))
              exact jX.sub (jsb_c rfl (jsb_c rfl (jsb_c rfl (jsb_c rfl (jsb_c rfl (jsb_c rfl (jsb_c rfl (jsb_c rfl (jsb_c rfl jsb_n))))))))) (ct_X12_line_r125p_221 hD hQ ih l1 l2 l3 l4 l5 l7 l8 v62 g0 g1 g2 g3 g4 u38 u41 v44 u39 u40 h (jr_of rfl (by omega)) (jr_of rfl (by omega)) (jr_of rfl (by omega)) (jr_of rfl (by omega)) (jr_of rfl (by omega)) (jr_of rfl (by omega)) (jr_of rfl (by omega)) (jr_mod rfl (by omega)) (jr_of rfl (by omega)) (jr_of rfl (by omega)) (jr_of rfl (by omega)) (jr_of rfl (by omega)) (jr_of rfl (by omega)) (jr_of rfl (by omega)) (jr_of rfl (by omega)) (jr_of rfl (by omega)) (jr_of rfl (by omega)) (jr_of rfl (by omega)) (jr_of rfl (by omega)) (by omega) (by omega) (by omega) (jmc S37 rfl z0) (jmc S37 rfl z1) (jmc S37 rfl z2) (jmc S37 rfl z3) (jmc S37 rfl z4) qu38 qu41 qv44 qu39 qu40 (by omega) J Sm)
          ·
            refine x_iconst (v := 1) rfl ki_1 ?_
            refine x_goto (tgt := 23) rfl rfl ?_
            refine x_zret rfl rfl (by decide) ?_
            show jX m_X12_readRole 5 0 0 6 [(0, .ref 125), (1, .int v5)] [.int 1] _ 0 0 _
            refine x_istoren (lsx9 := [(2, .int 1), (0, .ref 125), (1, .int v5)]) rfl rfl rfl ?_
            refine x_aloadn (x := 125) rfl rfl ?_
            refine x_iloadn (x := v5) rfl rfl ?_
            refine x_inv (N := m_X12_readName) (As := [.int v5]) (b := 125) (st := []) (dx9 := 4) (mc := 0) (ms := 0) (host := "") 12 rfl t_X12_readName ⟨Or.inl q_12_260, i_X12_readName.1, i_X12_readName.2⟩ ⟨by decide, rfl⟩ (congrArg Prod.fst (J.1.1 125 (12, 92) rfl)) rfl (by decide) rfl rfl ⟨by decide, by decide⟩ (sf_X12_readName_r125 (jr_of rfl (by omega)) (jr_mod rfl (by omega)) (by omega) hD J z5 z8 z9 (by omega) z6 z9 z5 (by omega)  (fun h J S63 u64 u65 u66 qu64 qu65 qu66 ru64 u67 u68 u69 qu67 qu68 qu69 ru67 => ?_))
            have Sm := jSm_tr rfl Sm S63
            have eu64 := (show 0 ≤ u64.toInt ∧ u64.toInt ≤ 400 from qu64 ▸ jrg_f J sg_125_10_11_1_0_1)
            have eu65 := (show 0 ≤ u65.toInt ∧ u65.toInt ≤ 400 from qu65 ▸ jrg_f J sg_125_8_9_1_0_1)
            have eu66 := (show 0 ≤ u66.toInt ∧ u66.toInt ≤ 400 from qu66 ▸ jrg_f J sg_125_9_10_1_0_1)
            have eu67 := (show 0 ≤ u67.toInt ∧ u67.toInt ≤ 3 from qu67 ▸ jrg_f J sg_125_11_12_1_0_1)
            obtain rfl : u66 = u68 := qu66.symm.trans qu68
            obtain rfl : u64 = u69 := qu64.symm.trans qu69
            show jX m_X12_readRole 5 0 0 12 [(2, .int 1), (0, .ref 125), (1, .int v5)] [] _ 0 0 _
            refine x_aloadn (x := 125) rfl rfl ?_
            refine z_getI (N := 92) 12 14 rfl f_12_214 rfl J rfl sg_125_14_15_1_0_1 (fun v70 qv70 ev70 => ?_)
            refine x_ifeq (tgt := 20) rfl rfl (ti_eq rfl jk_0 ⟨fun c71 => ?_, fun c71 => ?_⟩)
            ·
              refine x_iloadn (x := 1) rfl rfl ?_
              refine x_ifeq (tgt := 70) rfl rfl (ti_eq jk_1 jk_0 (br_f (by omega) ?_))
              refine x_aloadn (x := 125) rfl rfl ?_
              refine x_bipush (v := 44) rfl kb_44 ?_
              refine x_inv (N := m_X12_isSign) (As := [.int 44]) (b := 125) (st := []) (dx9 := 4) (mc := 0) (ms := 0) (host := "") 12 rfl t_X12_isSign ⟨Or.inl q_12_257, i_X12_isSign.1, i_X12_isSign.2⟩ ⟨by decide, rfl⟩ (congrArg Prod.fst (J.1.1 125 (12, 92) rfl)) rfl (by decide) rfl rfl ⟨by decide, by decide⟩ (jC.of rfl k_X12_isSign rfl ?_)
              show jX m_X12_isSign 4 0 0 0 [(0, .ref 125), (1, .int 44)] [] _ 0 0 _
              refine x_aloadn (x := 125) rfl rfl ?_
              refine z_getM (N := 92) (v := u67) 12 11 rfl f_12_235 rfl J rfl qu67 ?_
              refine x_iconst (v := 3) rfl ki_3 ?_
              refine x_icne (tgt := 22) rfl rfl (ti_ne rfl jk_3 ⟨fun c72 => ?_, fun c72 => ?_⟩)
              ·
                refine x_iconst (v := 0) rfl ki_0 ?_
                refine x_zret rfl rfl (by decide) ?_
                show jX m_X12_readRole 5 0 0 30 [(2, .int 1), (0, .ref 125), (1, .int v5)] [.int 0] _ 0 0 _
                refine x_ifne (tgt := 49) rfl rfl (ti_ne jk_0 jk_0 (bn_f (by omega) ?_))
                refine x_aloadn (x := 125) rfl rfl ?_
                refine x_bipush (v := 46) rfl kb_46 ?_
                refine x_inv (N := m_X12_isSign) (As := [.int 46]) (b := 125) (st := []) (dx9 := 4) (mc := 0) (ms := 0) (host := "") 12 rfl t_X12_isSign ⟨Or.inl q_12_257, i_X12_isSign.1, i_X12_isSign.2⟩ ⟨by decide, rfl⟩ (congrArg Prod.fst (J.1.1 125 (12, 92) rfl)) rfl (by decide) rfl rfl ⟨by decide, by decide⟩ (jC.of rfl k_X12_isSign rfl ?_)
                show jX m_X12_isSign 4 0 0 0 [(0, .ref 125), (1, .int 46)] [] _ 0 0 _
                refine x_aloadn (x := 125) rfl rfl ?_
                refine z_getM (N := 92) (v := u67) 12 11 rfl f_12_235 rfl J rfl qu67 ?_
                refine x_iconst (v := 3) rfl ki_3 ?_
                refine x_icne (tgt := 22) rfl rfl (ti_ne rfl jk_3 (bn_t (by omega) ?_))
                refine x_iconst (v := 0) rfl ki_0 ?_
                refine x_zret rfl rfl (by decide) ?_
                show jX m_X12_readRole 5 0 0 39 [(2, .int 1), (0, .ref 125), (1, .int v5)] [.int 0] _ 0 0 _
                refine x_ifne (tgt := 49) rfl rfl (ti_ne jk_0 jk_0 (bn_f (by omega) ?_))
                refine x_aloadn (x := 125) rfl rfl ?_
                refine z_getM (N := 92) (v := u67) 12 11 rfl f_12_235 rfl J rfl qu67 ?_
                refine x_ifne (tgt := 70) rfl rfl (ti_ne rfl jk_0 ⟨fun c73 => ?_, fun c73 => ?_⟩)
                ·
                  refine x_aloadn (x := 125) rfl rfl ?_
                  refine x_iloadn (x := v5) rfl rfl ?_
                  refine x_bipush (v := 14) rfl kb_14 ?_
                  refine z_iadd rfl rfl jk_14 (by omega) (fun v74 ev74 => ?_)
                  refine x_inv (N := m_X12_readName) (As := [.int v74]) (b := 125) (st := []) (dx9 := 4) (mc := 0) (ms := 0) (host := "") 12 rfl t_X12_readName ⟨Or.inl q_12_260, i_X12_readName.1, i_X12_readName.2⟩ ⟨by decide, rfl⟩ (congrArg Prod.fst (J.1.1 125 (12, 92) rfl)) rfl (by decide) rfl rfl ⟨by decide, by decide⟩ (sf_X12_readName_r125 (jr_of rfl (by omega)) (jr_mod rfl (by omega)) (by omega) hD J qu64 qu65 qu66 (by omega) qu67 qu66 qu64 (by omega)  (fun h J S75 u76 u77 u78 qu76 qu77 qu78 ru76 u79 u80 u81 qu79 qu80 qu81 ru79 => ?_))
                  have Sm := jSm_tr rfl Sm S75
                  have eu76 := (show 0 ≤ u76.toInt ∧ u76.toInt ≤ 400 from qu76 ▸ jrg_f J sg_125_10_11_1_0_1)
                  have eu77 := (show 0 ≤ u77.toInt ∧ u77.toInt ≤ 400 from qu77 ▸ jrg_f J sg_125_8_9_1_0_1)
                  have eu78 := (show 0 ≤ u78.toInt ∧ u78.toInt ≤ 400 from qu78 ▸ jrg_f J sg_125_9_10_1_0_1)
                  have eu79 := (show 0 ≤ u79.toInt ∧ u79.toInt ≤ 3 from qu79 ▸ jrg_f J sg_125_11_12_1_0_1)
                  obtain rfl : u78 = u80 := qu78.symm.trans qu80
                  obtain rfl : u76 = u81 := qu76.symm.trans qu81
                  show jX m_X12_readRole 5 0 0 78 [(2, .int 1), (0, .ref 125), (1, .int v5)] [] _ 0 0 _
                  refine x_vret rfl rfl ?_
                  show jX m_X12_line 6 0 0 198 [(0, .ref 125), (1, .int l1), (2, .int l2), (3, .int l3), (4, .int l4), (5, .int l5), (7, .int l7), (8, .int l8), (9, .int l9), (10, .int l10)] [] _ 0 0 _
                  refine z_iinc (x := l9) (lsx9 := fun v82 => [(9, .int v82), (0, .ref 125), (1, .int l1), (2, .int l2), (3, .int l3), (4, .int l4), (5, .int l5), (7, .int l7), (8, .int l8), (10, .int l10)]) rfl rfl rfl jko_1 (by omega) rfl (fun _ => rfl) (fun v82 ev82 => ?_)
                  refine x_aloadn (x := 125) rfl rfl ?_
                  refine z_getI (N := 92) 12 14 rfl f_12_214 rfl J rfl sg_125_14_15_1_0_1 (fun v83 qv83 ev83 => ?_)
                  refine x_ifne (tgt := 221) rfl rfl (ti_ne rfl jk_0 ⟨fun c84 => ?_, fun c84 => ?_⟩)
                  ·
                    exact jX.sub (jsb_c rfl (jsb_c rfl (jsb_c rfl (jsb_c rfl (jsb_c rfl (jsb_c rfl (jsb_c rfl (jsb_c rfl (jsb_c rfl jsb_n))))))))) (ct_X12_line_r125p_221 hD hQ ih l1 l2 l3 l4 l5 l7 l8 v82 g0 g1 g2 g3 g4 u76 u79 v83 u77 u78 h (jr_of rfl (by omega)) (jr_of rfl (by omega)) (jr_of rfl (by omega)) (jr_of rfl (by omega)) (jr_of rfl (by omega)) (jr_of rfl (by omega)) (jr_of rfl (by omega)) (jr_mod rfl (by omega)) (jr_of rfl (by omega)) (jr_of rfl (by omega)) (jr_of rfl (by omega)) (jr_of rfl (by omega)) (jr_of rfl (by omega)) (jr_of rfl (by omega)) (jr_of rfl (by omega)) (jr_of rfl (by omega)) (jr_of rfl (by omega)) (jr_of rfl (by omega)) (jr_of rfl (by omega)) (by omega) (by omega) (by omega) (jmc S75 rfl (jmc S63 rfl z0)) (jmc S75 rfl (jmc S63 rfl z1)) (jmc S75 rfl (jmc S63 rfl z2)) (jmc S75 rfl (jmc S63 rfl z3)) (jmc S75 rfl (jmc S63 rfl z4)) qu76 qu79 qv83 qu77 qu78 (by omega) J Sm)
                  ·
                    refine x_aloadn (x := 125) rfl rfl ?_
                    refine x_bipush (v := 44) rfl kb_44 ?_
                    refine x_inv (N := m_X12_isSign) (As := [.int 44]) (b := 125) (st := []) (dx9 := 5) (mc := 0) (ms := 0) (host := "") 12 rfl t_X12_isSign ⟨Or.inl q_12_257, i_X12_isSign.1, i_X12_isSign.2⟩ ⟨by decide, rfl⟩ (congrArg Prod.fst (J.1.1 125 (12, 92) rfl)) rfl (by decide) rfl rfl ⟨by decide, by decide⟩ (jC.of rfl k_X12_isSign rfl ?_)
                    show jX m_X12_isSign 5 0 0 0 [(0, .ref 125), (1, .int 44)] [] _ 0 0 _
                    refine x_aloadn (x := 125) rfl rfl ?_
                    refine z_getM (N := 92) (v := u79) 12 11 rfl f_12_235 rfl J rfl qu79 ?_
                    refine x_iconst (v := 3) rfl ki_3 ?_
                    refine x_icne (tgt := 22) rfl rfl (ti_ne rfl jk_3 ⟨fun c85 => ?_, fun c85 => ?_⟩)
                    ·
                      refine x_iconst (v := 0) rfl ki_0 ?_
                      refine x_zret rfl rfl (by decide) ?_
                      show jX m_X12_line 6 0 0 214 [(9, .int v82), (0, .ref 125), (1, .int l1), (2, .int l2), (3, .int l3), (4, .int l4), (5, .int l5), (7, .int l7), (8, .int l8), (10, .int l10)] [.int 0] _ 0 0 _
                      refine x_ifeq (tgt := 221) rfl rfl (ti_eq jk_0 jk_0 (br_t (by omega) ?_))
                      exact jX.sub (jsb_c rfl (jsb_c rfl (jsb_c rfl (jsb_c rfl (jsb_c rfl (jsb_c rfl (jsb_c rfl (jsb_c rfl (jsb_c rfl jsb_n))))))))) (ct_X12_line_r125p_221 hD hQ ih l1 l2 l3 l4 l5 l7 l8 v82 g0 g1 g2 g3 g4 u76 u79 v83 u77 u78 h (jr_of rfl (by omega)) (jr_of rfl (by omega)) (jr_of rfl (by omega)) (jr_of rfl (by omega)) (jr_of rfl (by omega)) (jr_of rfl (by omega)) (jr_of rfl (by omega)) (jr_mod rfl (by omega)) (jr_of rfl (by omega)) (jr_of rfl (by omega)) (jr_of rfl (by omega)) (jr_of rfl (by omega)) (jr_of rfl (by omega)) (jr_of rfl (by omega)) (jr_of rfl (by omega)) (jr_of rfl (by omega)) (jr_of rfl (by omega)) (jr_of rfl (by omega)) (jr_of rfl (by omega)) (by omega) (by omega) (by omega) (jmc S75 rfl (jmc S63 rfl z0)) (jmc S75 rfl (jmc S63 rfl z1)) (jmc S75 rfl (jmc S63 rfl z2)) (jmc S75 rfl (jmc S63 rfl z3)) (jmc S75 rfl (jmc S63 rfl z4)) qu76 qu79 qv83 qu77 qu78 (by omega) J Sm)
                    ·
                      refine x_aloadn (x := 125) rfl rfl ?_
                      refine z_getL0 (N := 92) 12 12 rfl f_12_224 rfl J rfl (fun v86 => ?_)
                      have ev86 := jfullL v86
                      refine x_iloadn (x := 44) rfl rfl ?_
                      refine z_i2l rfl jk_44 (fun v87 ev87 => ?_)
                      refine z_lcmp rfl rfl rfl (fun v88 ev88 => ?_)
                      refine x_ifne (tgt := 22) rfl rfl (ti_ne rfl jk_0 ⟨fun c89 => ?_, fun c89 => ?_⟩)
                      ·
                        refine x_iconst (v := 0) rfl ki_0 ?_
                        refine x_zret rfl rfl (by decide) ?_
                        show jX m_X12_line 6 0 0 214 [(9, .int v82), (0, .ref 125), (1, .int l1), (2, .int l2), (3, .int l3), (4, .int l4), (5, .int l5), (7, .int l7), (8, .int l8), (10, .int l10)] [.int 0] _ 0 0 _
                        refine x_ifeq (tgt := 221) rfl rfl (ti_eq jk_0 jk_0 (br_t (by omega) ?_))
                        exact jX.sub (jsb_c rfl (jsb_c rfl (jsb_c rfl (jsb_c rfl (jsb_c rfl (jsb_c rfl (jsb_c rfl (jsb_c rfl (jsb_c rfl jsb_n))))))))) (ct_X12_line_r125p_221 hD hQ ih l1 l2 l3 l4 l5 l7 l8 v82 g0 g1 g2 g3 g4 u76 u79 v83 u77 u78 h (jr_of rfl (by omega)) (jr_of rfl (by omega)) (jr_of rfl (by omega)) (jr_of rfl (by omega)) (jr_of rfl (by omega)) (jr_of rfl (by omega)) (jr_of rfl (by omega)) (jr_mod rfl (by omega)) (jr_of rfl (by omega)) (jr_of rfl (by omega)) (jr_of rfl (by omega)) (jr_of rfl (by omega)) (jr_of rfl (by omega)) (jr_of rfl (by omega)) (jr_of rfl (by omega)) (jr_of rfl (by omega)) (jr_of rfl (by omega)) (jr_of rfl (by omega)) (jr_of rfl (by omega)) (by omega) (by omega) (by omega) (jmc S75 rfl (jmc S63 rfl z0)) (jmc S75 rfl (jmc S63 rfl z1)) (jmc S75 rfl (jmc S63 rfl z2)) (jmc S75 rfl (jmc S63 rfl z3)) (jmc S75 rfl (jmc S63 rfl z4)) qu76 qu79 qv83 qu77 qu78 (by omega) J Sm)
                      ·
                        refine x_iconst (v := 1) rfl ki_1 ?_
                        refine x_goto (tgt := 23) rfl rfl ?_
                        refine x_zret rfl rfl (by decide) ?_
                        show jX m_X12_line 6 0 0 214 [(9, .int v82), (0, .ref 125), (1, .int l1), (2, .int l2), (3, .int l3), (4, .int l4), (5, .int l5), (7, .int l7), (8, .int l8), (10, .int l10)] [.int 1] _ 0 0 _
                        refine x_ifeq (tgt := 221) rfl rfl (ti_eq jk_1 jk_0 (br_f (by omega) ?_))
                        refine x_iconst (v := 1) rfl ki_1 ?_
                        refine x_goto (tgt := 222) rfl rfl ?_
                        exact jX.sub (jsb_c rfl (jsb_c rfl (jsb_c rfl (jsb_c rfl (jsb_c rfl (jsb_c rfl (jsb_c rfl (jsb_c rfl (jsb_c rfl jsb_n))))))))) (ct_X12_line_r125p_300222 hD hQ ih l1 l2 l3 l4 l5 l7 l8 v82 g0 g1 g2 g3 g4 u76 u79 v83 u77 u78 h (jr_of rfl (by omega)) (jr_of rfl (by omega)) (jr_of rfl (by omega)) (jr_of rfl (by omega)) (jr_of rfl (by omega)) (jr_of rfl (by omega)) (jr_of rfl (by omega)) (jr_mod rfl (by omega)) (jr_of rfl (by omega)) (jr_of rfl (by omega)) (jr_of rfl (by omega)) (jr_of rfl (by omega)) (jr_of rfl (by omega)) (jr_of rfl (by omega)) (jr_of rfl (by omega)) (jr_of rfl (by omega)) (jr_of rfl (by omega)) (jr_of rfl (by omega)) (jr_of rfl (by omega)) (by omega) (by omega) (by omega) (jmc S75 rfl (jmc S63 rfl z0)) (jmc S75 rfl (jmc S63 rfl z1)) (jmc S75 rfl (jmc S63 rfl z2)) (jmc S75 rfl (jmc S63 rfl z3)) (jmc S75 rfl (jmc S63 rfl z4)) qu76 qu79 qv83 qu77 qu78 (by omega) J Sm)
                ·
                  refine x_aloadn (x := 125) rfl rfl ?_
                  refine z_getR (N := 92) (b := 126) 12 2 rfl f_12_8 rfl J rfl 16002 ⟨rfl, rfl⟩ rfl ?_
                  refine x_iloadn (x := v5) rfl rfl ?_
                  refine x_bipush (v := 14) rfl kb_14 ?_
                  refine z_iadd rfl rfl jk_14 (by omega) (fun v90 ev90 => ?_)
                  refine x_iconst (v := 0) rfl ki_0 ?_
                  refine z_iast (N := 50660) (l := 20) (u := 18020) (w := 0) rfl hD J Sm rfl rfl rfl (by omega) jk_0 (wr_126_20 (by omega) (fun q1 q2 q3 q4 => by omega) (fun q1 q2 q3 q4 => by omega) (fun q1 q2 q3 q4 => by omega) (fun q1 q2 q3 q4 => by omega) (fun q1 q2 q3 q4 => by omega) (fun q1 q2 q3 q4 => by omega) (fun q1 q2 q3 q4 => by omega) (fun q1 q2 q3 q4 => by omega) (fun q1 q2 q3 q4 => by omega) (fun q1 q2 q3 q4 => by omega) (fun q1 q2 q3 q4 => by omega) (fun q1 q2 q3 q4 => by omega) (fun q1 q2 q3 q4 => by omega) (fun q1 q2 q3 q4 => by omega) (fun q1 q2 q3 q4 => by omega) (fun q1 q2 q3 q4 => by omega) (fun q1 q2 q3 q4 => by omega) (fun q1 q2 q3 q4 => by omega) (fun q1 q2 q3 q4 => by omega) (fun q1 q2 q3 q4 => by omega) (fun q1 q2 q3 q4 => by omega) (fun q1 q2 q3 q4 => by omega) (fun q1 q2 q3 q4 => by omega)) rfl (fun h w91 J Sm => ?_)
                  refine x_aloadn (x := 125) rfl rfl ?_
                  refine z_getR (N := 92) (b := 126) 12 2 rfl f_12_8 rfl J rfl 16002 ⟨rfl, rfl⟩ rfl ?_
                  refine x_iloadn (x := v5) rfl rfl ?_
                  refine x_bipush (v := 15) rfl kb_15 ?_
                  refine z_iadd rfl rfl jk_15 (by omega) (fun v92 ev92 => ?_)
                  refine x_iconst (v := 0) rfl ki_0 ?_
                  refine z_iast (N := 50660) (l := 20) (u := 18020) (w := 0) rfl hD J Sm rfl rfl rfl (by omega) jk_0 (wr_126_20 (by omega) (fun q1 q2 q3 q4 => by omega) (fun q1 q2 q3 q4 => by omega) (fun q1 q2 q3 q4 => by omega) (fun q1 q2 q3 q4 => by omega) (fun q1 q2 q3 q4 => by omega) (fun q1 q2 q3 q4 => by omega) (fun q1 q2 q3 q4 => by omega) (fun q1 q2 q3 q4 => by omega) (fun q1 q2 q3 q4 => by omega) (fun q1 q2 q3 q4 => by omega) (fun q1 q2 q3 q4 => by omega) (fun q1 q2 q3 q4 => by omega) (fun q1 q2 q3 q4 => by omega) (fun q1 q2 q3 q4 => by omega) (fun q1 q2 q3 q4 => by omega) (fun q1 q2 q3 q4 => by omega) (fun q1 q2 q3 q4 => by omega) (fun q1 q2 q3 q4 => by omega) (fun q1 q2 q3 q4 => by omega) (fun q1 q2 q3 q4 => by omega) (fun q1 q2 q3 q4 => by omega) (fun q1 q2 q3 q4 => by omega) (fun q1 q2 q3 q4 => by omega)) rfl (fun h w93 J Sm => ?_)
                  refine x_vret rfl rfl ?_
                  show jX m_X12_line 6 0 0 198 [(0, .ref 125), (1, .int l1), (2, .int l2), (3, .int l3), (4, .int l4), (5, .int l5), (7, .int l7), (8, .int l8), (9, .int l9), (10, .int l10)] [] _ 0 0 _
                  refine z_iinc (x := l9) (lsx9 := fun v94 => [(9, .int v94), (0, .ref 125), (1, .int l1), (2, .int l2), (3, .int l3), (4, .int l4), (5, .int l5), (7, .int l7), (8, .int l8), (10, .int l10)]) rfl rfl rfl jko_1 (by omega) rfl (fun _ => rfl) (fun v94 ev94 => ?_)
                  refine x_aloadn (x := 125) rfl rfl ?_
                  refine z_getM (N := 92) (v := v70) 12 14 rfl f_12_214 rfl J rfl (jmo w93 rfl (jmo w91 rfl qv70)) ?_
                  refine x_ifne (tgt := 221) rfl rfl (ti_ne rfl jk_0 (bn_f (by omega) ?_))
                  refine x_aloadn (x := 125) rfl rfl ?_
                  refine x_bipush (v := 44) rfl kb_44 ?_
                  refine x_inv (N := m_X12_isSign) (As := [.int 44]) (b := 125) (st := []) (dx9 := 5) (mc := 0) (ms := 0) (host := "") 12 rfl t_X12_isSign ⟨Or.inl q_12_257, i_X12_isSign.1, i_X12_isSign.2⟩ ⟨by decide, rfl⟩ (congrArg Prod.fst (J.1.1 125 (12, 92) rfl)) rfl (by decide) rfl rfl ⟨by decide, by decide⟩ (jC.of rfl k_X12_isSign rfl ?_)
                  show jX m_X12_isSign 5 0 0 0 [(0, .ref 125), (1, .int 44)] [] _ 0 0 _
                  refine x_aloadn (x := 125) rfl rfl ?_
                  refine z_getM (N := 92) (v := u67) 12 11 rfl f_12_235 rfl J rfl (jmo w93 rfl (jmo w91 rfl qu67)) ?_
                  refine x_iconst (v := 3) rfl ki_3 ?_
                  refine x_icne (tgt := 22) rfl rfl (ti_ne rfl jk_3 (bn_t (by omega) ?_))
                  refine x_iconst (v := 0) rfl ki_0 ?_
                  refine x_zret rfl rfl (by decide) ?_
                  show jX m_X12_line 6 0 0 214 [(9, .int v94), (0, .ref 125), (1, .int l1), (2, .int l2), (3, .int l3), (4, .int l4), (5, .int l5), (7, .int l7), (8, .int l8), (10, .int l10)] [.int 0] _ 0 0 _
                  refine x_ifeq (tgt := 221) rfl rfl (ti_eq jk_0 jk_0 (br_t (by omega) ?_))
                  exact jX.sub (jsb_c rfl (jsb_c rfl (jsb_c rfl (jsb_c rfl (jsb_c rfl (jsb_c rfl (jsb_c rfl (jsb_c rfl (jsb_c rfl jsb_n))))))))) (ct_X12_line_r125p_221 hD hQ ih l1 l2 l3 l4 l5 l7 l8 v94 g0 g1 g2 g3 g4 u64 u67 v70 u65 u66 h (jr_of rfl (by omega)) (jr_of rfl (by omega)) (jr_of rfl (by omega)) (jr_of rfl (by omega)) (jr_of rfl (by omega)) (jr_of rfl (by omega)) (jr_of rfl (by omega)) (jr_mod rfl (by omega)) (jr_of rfl (by omega)) (jr_of rfl (by omega)) (jr_of rfl (by omega)) (jr_of rfl (by omega)) (jr_of rfl (by omega)) (jr_of rfl (by omega)) (jr_of rfl (by omega)) (jr_of rfl (by omega)) (jr_of rfl (by omega)) (jr_of rfl (by omega)) (jr_of rfl (by omega)) (by omega) (by omega) (by omega) (jmo2 w93 rfl jk_0 (by omega) (jmo2 w91 rfl jk_0 (by omega) (jmc S63 rfl z0))) (jmo2 w93 rfl jk_16 (by omega) (jmo2 w91 rfl jk_16 (by omega) (jmc S63 rfl z1))) (jmo2 w93 rfl jk_4 (by omega) (jmo2 w91 rfl jk_4 (by omega) (jmc S63 rfl z2))) (jmo2 w93 rfl jk_5 (by omega) (jmo2 w91 rfl jk_5 (by omega) (jmc S63 rfl z3))) (jmo2 w93 rfl jk_7 (by omega) (jmo2 w91 rfl jk_7 (by omega) (jmc S63 rfl z4))) (jmo w93 rfl (jmo w91 rfl qu64)) (jmo w93 rfl (jmo w91 rfl qu67)) (jmo w93 rfl (jmo w91 rfl qv70)) (jmo w93 rfl (jmo w91 rfl qu65)) (jmo w93 rfl (jmo w91 rfl qu66)) (by omega) J Sm)
              ·
                refine x_aloadn (x := 125) rfl rfl ?_
                refine z_getL0 (N := 92) 12 12 rfl f_12_224 rfl J rfl (fun v95 => ?_)
                have ev95 := jfullL v95
                refine x_iloadn (x := 44) rfl rfl ?_
                refine z_i2l rfl jk_44 (fun v96 ev96 => ?_)
                refine z_lcmp rfl rfl rfl (fun v97 ev97 => ?_)
                refine x_ifne (tgt := 22) rfl rfl (ti_ne rfl jk_0 ⟨fun c98 => ?_, fun c98 => ?_⟩)
                ·
                  refine x_iconst (v := 0) rfl ki_0 ?_
                  refine x_zret rfl rfl (by decide) ?_
                  show jX m_X12_readRole 5 0 0 30 [(2, .int 1), (0, .ref 125), (1, .int v5)] [.int 0] _ 0 0 _
                  refine x_ifne (tgt := 49) rfl rfl (ti_ne jk_0 jk_0 (bn_f (by omega) ?_))
                  refine x_aloadn (x := 125) rfl rfl ?_
                  refine x_bipush (v := 46) rfl kb_46 ?_
                  refine x_inv (N := m_X12_isSign) (As := [.int 46]) (b := 125) (st := []) (dx9 := 4) (mc := 0) (ms := 0) (host := "") 12 rfl t_X12_isSign ⟨Or.inl q_12_257, i_X12_isSign.1, i_X12_isSign.2⟩ ⟨by decide, rfl⟩ (congrArg Prod.fst (J.1.1 125 (12, 92) rfl)) rfl (by decide) rfl rfl ⟨by decide, by decide⟩ (jC.of rfl k_X12_isSign rfl ?_)
                  show jX m_X12_isSign 4 0 0 0 [(0, .ref 125), (1, .int 46)] [] _ 0 0 _
                  refine x_aloadn (x := 125) rfl rfl ?_
                  refine z_getM (N := 92) (v := u67) 12 11 rfl f_12_235 rfl J rfl qu67 ?_
                  refine x_iconst (v := 3) rfl ki_3 ?_
                  refine x_icne (tgt := 22) rfl rfl (ti_ne rfl jk_3 (bn_f (by omega) ?_))
                  refine x_aloadn (x := 125) rfl rfl ?_
                  refine z_getL0 (N := 92) 12 12 rfl f_12_224 rfl J rfl (fun v99 => ?_)
                  have ev99 := jfullL v99
                  refine x_iloadn (x := 46) rfl rfl ?_
                  refine z_i2l rfl jk_46 (fun v100 ev100 => ?_)
                  refine z_lcmp rfl rfl rfl (fun v101 ev101 => ?_)
                  refine x_ifne (tgt := 22) rfl rfl (ti_ne rfl jk_0 ⟨fun c102 => ?_, fun c102 => ?_⟩)
                  ·
                    refine x_iconst (v := 0) rfl ki_0 ?_
                    refine x_zret rfl rfl (by decide) ?_
                    show jX m_X12_readRole 5 0 0 39 [(2, .int 1), (0, .ref 125), (1, .int v5)] [.int 0] _ 0 0 _
                    refine x_ifne (tgt := 49) rfl rfl (ti_ne jk_0 jk_0 (bn_f (by omega) ?_))
                    refine x_aloadn (x := 125) rfl rfl ?_
                    refine z_getM (N := 92) (v := u67) 12 11 rfl f_12_235 rfl J rfl qu67 ?_
                    refine x_ifne (tgt := 70) rfl rfl (ti_ne rfl jk_0 (bn_t (by omega) ?_))
                    refine x_aloadn (x := 125) rfl rfl ?_
                    refine x_iloadn (x := v5) rfl rfl ?_
                    refine x_bipush (v := 14) rfl kb_14 ?_
                    refine z_iadd rfl rfl jk_14 (by omega) (fun v103 ev103 => ?_)
                    refine x_inv (N := m_X12_readName) (As := [.int v103]) (b := 125) (st := []) (dx9 := 4) (mc := 0) (ms := 0) (host := "") 12 rfl t_X12_readName ⟨Or.inl q_12_260, i_X12_readName.1, i_X12_readName.2⟩ ⟨by decide, rfl⟩ (congrArg Prod.fst (J.1.1 125 (12, 92) rfl)) rfl (by decide) rfl rfl ⟨by decide, by decide⟩ (sf_X12_readName_r125 (jr_of rfl (by omega)) (jr_mod rfl (by omega)) (by omega) hD J qu64 qu65 qu66 (by omega) qu67 qu66 qu64 (by omega)  (fun h J S104 u105 u106 u107 qu105 qu106 qu107 ru105 u108 u109 u110 qu108 qu109 qu110 ru108 => ?_))
                    have Sm := jSm_tr rfl Sm S104
                    have eu105 := (show 0 ≤ u105.toInt ∧ u105.toInt ≤ 400 from qu105 ▸ jrg_f J sg_125_10_11_1_0_1)
                    have eu106 := (show 0 ≤ u106.toInt ∧ u106.toInt ≤ 400 from qu106 ▸ jrg_f J sg_125_8_9_1_0_1)
                    have eu107 := (show 0 ≤ u107.toInt ∧ u107.toInt ≤ 400 from qu107 ▸ jrg_f J sg_125_9_10_1_0_1)
                    have eu108 := (show 0 ≤ u108.toInt ∧ u108.toInt ≤ 3 from qu108 ▸ jrg_f J sg_125_11_12_1_0_1)
                    obtain rfl : u107 = u109 := qu107.symm.trans qu109
                    obtain rfl : u105 = u110 := qu105.symm.trans qu110
                    show jX m_X12_readRole 5 0 0 78 [(2, .int 1), (0, .ref 125), (1, .int v5)] [] _ 0 0 _
                    refine x_vret rfl rfl ?_
                    show jX m_X12_line 6 0 0 198 [(0, .ref 125), (1, .int l1), (2, .int l2), (3, .int l3), (4, .int l4), (5, .int l5), (7, .int l7), (8, .int l8), (9, .int l9), (10, .int l10)] [] _ 0 0 _
                    refine z_iinc (x := l9) (lsx9 := fun v111 => [(9, .int v111), (0, .ref 125), (1, .int l1), (2, .int l2), (3, .int l3), (4, .int l4), (5, .int l5), (7, .int l7), (8, .int l8), (10, .int l10)]) rfl rfl rfl jko_1 (by omega) rfl (fun _ => rfl) (fun v111 ev111 => ?_)
                    refine x_aloadn (x := 125) rfl rfl ?_
                    refine z_getI (N := 92) 12 14 rfl f_12_214 rfl J rfl sg_125_14_15_1_0_1 (fun v112 qv112 ev112 => ?_)
                    refine x_ifne (tgt := 221) rfl rfl (ti_ne rfl jk_0 ⟨fun c113 => ?_, fun c113 => ?_⟩)
                    ·
                      exact jX.sub (jsb_c rfl (jsb_c rfl (jsb_c rfl (jsb_c rfl (jsb_c rfl (jsb_c rfl (jsb_c rfl (jsb_c rfl (jsb_c rfl jsb_n))))))))) (ct_X12_line_r125p_221 hD hQ ih l1 l2 l3 l4 l5 l7 l8 v111 g0 g1 g2 g3 g4 u105 u108 v112 u106 u107 h (jr_of rfl (by omega)) (jr_of rfl (by omega)) (jr_of rfl (by omega)) (jr_of rfl (by omega)) (jr_of rfl (by omega)) (jr_of rfl (by omega)) (jr_of rfl (by omega)) (jr_mod rfl (by omega)) (jr_of rfl (by omega)) (jr_of rfl (by omega)) (jr_of rfl (by omega)) (jr_of rfl (by omega)) (jr_of rfl (by omega)) (jr_of rfl (by omega)) (jr_of rfl (by omega)) (jr_of rfl (by omega)) (jr_of rfl (by omega)) (jr_of rfl (by omega)) (jr_of rfl (by omega)) (by omega) (by omega) (by omega) (jmc S104 rfl (jmc S63 rfl z0)) (jmc S104 rfl (jmc S63 rfl z1)) (jmc S104 rfl (jmc S63 rfl z2)) (jmc S104 rfl (jmc S63 rfl z3)) (jmc S104 rfl (jmc S63 rfl z4)) qu105 qu108 qv112 qu106 qu107 (by omega) J Sm)
                    ·
                      refine x_aloadn (x := 125) rfl rfl ?_
                      refine x_bipush (v := 44) rfl kb_44 ?_
                      refine x_inv (N := m_X12_isSign) (As := [.int 44]) (b := 125) (st := []) (dx9 := 5) (mc := 0) (ms := 0) (host := "") 12 rfl t_X12_isSign ⟨Or.inl q_12_257, i_X12_isSign.1, i_X12_isSign.2⟩ ⟨by decide, rfl⟩ (congrArg Prod.fst (J.1.1 125 (12, 92) rfl)) rfl (by decide) rfl rfl ⟨by decide, by decide⟩ (jC.of rfl k_X12_isSign rfl ?_)
                      show jX m_X12_isSign 5 0 0 0 [(0, .ref 125), (1, .int 44)] [] _ 0 0 _
                      refine x_aloadn (x := 125) rfl rfl ?_
                      refine z_getM (N := 92) (v := u108) 12 11 rfl f_12_235 rfl J rfl qu108 ?_
                      refine x_iconst (v := 3) rfl ki_3 ?_
                      refine x_icne (tgt := 22) rfl rfl (ti_ne rfl jk_3 ⟨fun c114 => ?_, fun c114 => ?_⟩)
                      ·
                        refine x_iconst (v := 0) rfl ki_0 ?_
                        refine x_zret rfl rfl (by decide) ?_
                        show jX m_X12_line 6 0 0 214 [(9, .int v111), (0, .ref 125), (1, .int l1), (2, .int l2), (3, .int l3), (4, .int l4), (5, .int l5), (7, .int l7), (8, .int l8), (10, .int l10)] [.int 0] _ 0 0 _
                        refine x_ifeq (tgt := 221) rfl rfl (ti_eq jk_0 jk_0 (br_t (by omega) ?_))
                        exact jX.sub (jsb_c rfl (jsb_c rfl (jsb_c rfl (jsb_c rfl (jsb_c rfl (jsb_c rfl (jsb_c rfl (jsb_c rfl (jsb_c rfl jsb_n))))))))) (ct_X12_line_r125p_221 hD hQ ih l1 l2 l3 l4 l5 l7 l8 v111 g0 g1 g2 g3 g4 u105 u108 v112 u106 u107 h (jr_of rfl (by omega)) (jr_of rfl (by omega)) (jr_of rfl (by omega)) (jr_of rfl (by omega)) (jr_of rfl (by omega)) (jr_of rfl (by omega)) (jr_of rfl (by omega)) (jr_mod rfl (by omega)) (jr_of rfl (by omega)) (jr_of rfl (by omega)) (jr_of rfl (by omega)) (jr_of rfl (by omega)) (jr_of rfl (by omega)) (jr_of rfl (by omega)) (jr_of rfl (by omega)) (jr_of rfl (by omega)) (jr_of rfl (by omega)) (jr_of rfl (by omega)) (jr_of rfl (by omega)) (by omega) (by omega) (by omega) (jmc S104 rfl (jmc S63 rfl z0)) (jmc S104 rfl (jmc S63 rfl z1)) (jmc S104 rfl (jmc S63 rfl z2)) (jmc S104 rfl (jmc S63 rfl z3)) (jmc S104 rfl (jmc S63 rfl z4)) qu105 qu108 qv112 qu106 qu107 (by omega) J Sm)
                      ·
                        refine x_aloadn (x := 125) rfl rfl ?_
                        refine z_getL0 (N := 92) 12 12 rfl f_12_224 rfl J rfl (fun v115 => ?_)
                        have ev115 := jfullL v115
                        refine x_iloadn (x := 44) rfl rfl ?_
                        refine z_i2l rfl jk_44 (fun v116 ev116 => ?_)
                        refine z_lcmp rfl rfl rfl (fun v117 ev117 => ?_)
                        refine x_ifne (tgt := 22) rfl rfl (ti_ne rfl jk_0 ⟨fun c118 => ?_, fun c118 => ?_⟩)
                        ·
                          refine x_iconst (v := 0) rfl ki_0 ?_
                          refine x_zret rfl rfl (by decide) ?_
                          show jX m_X12_line 6 0 0 214 [(9, .int v111), (0, .ref 125), (1, .int l1), (2, .int l2), (3, .int l3), (4, .int l4), (5, .int l5), (7, .int l7), (8, .int l8), (10, .int l10)] [.int 0] _ 0 0 _
                          refine x_ifeq (tgt := 221) rfl rfl (ti_eq jk_0 jk_0 (br_t (by omega) ?_))
                          exact jX.sub (jsb_c rfl (jsb_c rfl (jsb_c rfl (jsb_c rfl (jsb_c rfl (jsb_c rfl (jsb_c rfl (jsb_c rfl (jsb_c rfl jsb_n))))))))) (ct_X12_line_r125p_221 hD hQ ih l1 l2 l3 l4 l5 l7 l8 v111 g0 g1 g2 g3 g4 u105 u108 v112 u106 u107 h (jr_of rfl (by omega)) (jr_of rfl (by omega)) (jr_of rfl (by omega)) (jr_of rfl (by omega)) (jr_of rfl (by omega)) (jr_of rfl (by omega)) (jr_of rfl (by omega)) (jr_mod rfl (by omega)) (jr_of rfl (by omega)) (jr_of rfl (by omega)) (jr_of rfl (by omega)) (jr_of rfl (by omega)) (jr_of rfl (by omega)) (jr_of rfl (by omega)) (jr_of rfl (by omega)) (jr_of rfl (by omega)) (jr_of rfl (by omega)) (jr_of rfl (by omega)) (jr_of rfl (by omega)) (by omega) (by omega) (by omega) (jmc S104 rfl (jmc S63 rfl z0)) (jmc S104 rfl (jmc S63 rfl z1)) (jmc S104 rfl (jmc S63 rfl z2)) (jmc S104 rfl (jmc S63 rfl z3)) (jmc S104 rfl (jmc S63 rfl z4)) qu105 qu108 qv112 qu106 qu107 (by omega) J Sm)
                        ·
                          refine x_iconst (v := 1) rfl ki_1 ?_
                          refine x_goto (tgt := 23) rfl rfl ?_
                          refine x_zret rfl rfl (by decide) ?_
                          show jX m_X12_line 6 0 0 214 [(9, .int v111), (0, .ref 125), (1, .int l1), (2, .int l2), (3, .int l3), (4, .int l4), (5, .int l5), (7, .int l7), (8, .int l8), (10, .int l10)] [.int 1] _ 0 0 _
                          refine x_ifeq (tgt := 221) rfl rfl (ti_eq jk_1 jk_0 (br_f (by omega) ?_))
                          refine x_iconst (v := 1) rfl ki_1 ?_
                          refine x_goto (tgt := 222) rfl rfl ?_
                          exact jX.sub (jsb_c rfl (jsb_c rfl (jsb_c rfl (jsb_c rfl (jsb_c rfl (jsb_c rfl (jsb_c rfl (jsb_c rfl (jsb_c rfl jsb_n))))))))) (ct_X12_line_r125p_300222 hD hQ ih l1 l2 l3 l4 l5 l7 l8 v111 g0 g1 g2 g3 g4 u105 u108 v112 u106 u107 h (jr_of rfl (by omega)) (jr_of rfl (by omega)) (jr_of rfl (by omega)) (jr_of rfl (by omega)) (jr_of rfl (by omega)) (jr_of rfl (by omega)) (jr_of rfl (by omega)) (jr_mod rfl (by omega)) (jr_of rfl (by omega)) (jr_of rfl (by omega)) (jr_of rfl (by omega)) (jr_of rfl (by omega)) (jr_of rfl (by omega)) (jr_of rfl (by omega)) (jr_of rfl (by omega)) (jr_of rfl (by omega)) (jr_of rfl (by omega)) (jr_of rfl (by omega)) (jr_of rfl (by omega)) (by omega) (by omega) (by omega) (jmc S104 rfl (jmc S63 rfl z0)) (jmc S104 rfl (jmc S63 rfl z1)) (jmc S104 rfl (jmc S63 rfl z2)) (jmc S104 rfl (jmc S63 rfl z3)) (jmc S104 rfl (jmc S63 rfl z4)) qu105 qu108 qv112 qu106 qu107 (by omega) J Sm)
                  ·
                    refine x_iconst (v := 1) rfl ki_1 ?_
                    refine x_goto (tgt := 23) rfl rfl ?_
                    refine x_zret rfl rfl (by decide) ?_
                    show jX m_X12_readRole 5 0 0 39 [(2, .int 1), (0, .ref 125), (1, .int v5)] [.int 1] _ 0 0 _
                    refine x_ifne (tgt := 49) rfl rfl (ti_ne jk_1 jk_0 (bn_t (by omega) ?_))
                    refine x_aloadn (x := 125) rfl rfl ?_
                    refine z_getR (N := 92) (b := 126) 12 2 rfl f_12_8 rfl J rfl 16002 ⟨rfl, rfl⟩ rfl ?_
                    refine x_iloadn (x := v5) rfl rfl ?_
                    refine x_bipush (v := 14) rfl kb_14 ?_
                    refine z_iadd rfl rfl jk_14 (by omega) (fun v119 ev119 => ?_)
                    refine x_iconst (v := 0) rfl ki_0 ?_
                    refine z_iast (N := 50660) (l := 20) (u := 18020) (w := 0) rfl hD J Sm rfl rfl rfl (by omega) jk_0 (wr_126_20 (by omega) (fun q1 q2 q3 q4 => by omega) (fun q1 q2 q3 q4 => by omega) (fun q1 q2 q3 q4 => by omega) (fun q1 q2 q3 q4 => by omega) (fun q1 q2 q3 q4 => by omega) (fun q1 q2 q3 q4 => by omega) (fun q1 q2 q3 q4 => by omega) (fun q1 q2 q3 q4 => by omega) (fun q1 q2 q3 q4 => by omega) (fun q1 q2 q3 q4 => by omega) (fun q1 q2 q3 q4 => by omega) (fun q1 q2 q3 q4 => by omega) (fun q1 q2 q3 q4 => by omega) (fun q1 q2 q3 q4 => by omega) (fun q1 q2 q3 q4 => by omega) (fun q1 q2 q3 q4 => by omega) (fun q1 q2 q3 q4 => by omega) (fun q1 q2 q3 q4 => by omega) (fun q1 q2 q3 q4 => by omega) (fun q1 q2 q3 q4 => by omega) (fun q1 q2 q3 q4 => by omega) (fun q1 q2 q3 q4 => by omega) (fun q1 q2 q3 q4 => by omega)) rfl (fun h w120 J Sm => ?_)
                    refine x_aloadn (x := 125) rfl rfl ?_
                    refine z_getR (N := 92) (b := 126) 12 2 rfl f_12_8 rfl J rfl 16002 ⟨rfl, rfl⟩ rfl ?_
                    refine x_iloadn (x := v5) rfl rfl ?_
                    refine x_bipush (v := 15) rfl kb_15 ?_
                    refine z_iadd rfl rfl jk_15 (by omega) (fun v121 ev121 => ?_)
                    refine x_iconst (v := 0) rfl ki_0 ?_
                    refine z_iast (N := 50660) (l := 20) (u := 18020) (w := 0) rfl hD J Sm rfl rfl rfl (by omega) jk_0 (wr_126_20 (by omega) (fun q1 q2 q3 q4 => by omega) (fun q1 q2 q3 q4 => by omega) (fun q1 q2 q3 q4 => by omega) (fun q1 q2 q3 q4 => by omega) (fun q1 q2 q3 q4 => by omega) (fun q1 q2 q3 q4 => by omega) (fun q1 q2 q3 q4 => by omega) (fun q1 q2 q3 q4 => by omega) (fun q1 q2 q3 q4 => by omega) (fun q1 q2 q3 q4 => by omega) (fun q1 q2 q3 q4 => by omega) (fun q1 q2 q3 q4 => by omega) (fun q1 q2 q3 q4 => by omega) (fun q1 q2 q3 q4 => by omega) (fun q1 q2 q3 q4 => by omega) (fun q1 q2 q3 q4 => by omega) (fun q1 q2 q3 q4 => by omega) (fun q1 q2 q3 q4 => by omega) (fun q1 q2 q3 q4 => by omega) (fun q1 q2 q3 q4 => by omega) (fun q1 q2 q3 q4 => by omega) (fun q1 q2 q3 q4 => by omega) (fun q1 q2 q3 q4 => by omega)) rfl (fun h w122 J Sm => ?_)
                    refine x_vret rfl rfl ?_
                    show jX m_X12_line 6 0 0 198 [(0, .ref 125), (1, .int l1), (2, .int l2), (3, .int l3), (4, .int l4), (5, .int l5), (7, .int l7), (8, .int l8), (9, .int l9), (10, .int l10)] [] _ 0 0 _
                    refine z_iinc (x := l9) (lsx9 := fun v123 => [(9, .int v123), (0, .ref 125), (1, .int l1), (2, .int l2), (3, .int l3), (4, .int l4), (5, .int l5), (7, .int l7), (8, .int l8), (10, .int l10)]) rfl rfl rfl jko_1 (by omega) rfl (fun _ => rfl) (fun v123 ev123 => ?_)
                    refine x_aloadn (x := 125) rfl rfl ?_
                    refine z_getM (N := 92) (v := v70) 12 14 rfl f_12_214 rfl J rfl (jmo w122 rfl (jmo w120 rfl qv70)) ?_
                    refine x_ifne (tgt := 221) rfl rfl (ti_ne rfl jk_0 (bn_f (by omega) ?_))
                    refine x_aloadn (x := 125) rfl rfl ?_
                    refine x_bipush (v := 44) rfl kb_44 ?_
                    refine x_inv (N := m_X12_isSign) (As := [.int 44]) (b := 125) (st := []) (dx9 := 5) (mc := 0) (ms := 0) (host := "") 12 rfl t_X12_isSign ⟨Or.inl q_12_257, i_X12_isSign.1, i_X12_isSign.2⟩ ⟨by decide, rfl⟩ (congrArg Prod.fst (J.1.1 125 (12, 92) rfl)) rfl (by decide) rfl rfl ⟨by decide, by decide⟩ (jC.of rfl k_X12_isSign rfl ?_)
                    show jX m_X12_isSign 5 0 0 0 [(0, .ref 125), (1, .int 44)] [] _ 0 0 _
                    refine x_aloadn (x := 125) rfl rfl ?_
                    refine z_getM (N := 92) (v := u67) 12 11 rfl f_12_235 rfl J rfl (jmo w122 rfl (jmo w120 rfl qu67)) ?_
                    refine x_iconst (v := 3) rfl ki_3 ?_
                    refine x_icne (tgt := 22) rfl rfl (ti_ne rfl jk_3 (bn_f (by omega) ?_))
                    refine x_aloadn (x := 125) rfl rfl ?_
                    refine z_getL0 (N := 92) 12 12 rfl f_12_224 rfl J rfl (fun v124 => ?_)
                    have ev124 := jfullL v124
                    refine x_iloadn (x := 44) rfl rfl ?_
                    refine z_i2l rfl jk_44 (fun v125 ev125 => ?_)
                    refine z_lcmp rfl rfl rfl (fun v126 ev126 => ?_)
                    refine x_ifne (tgt := 22) rfl rfl (ti_ne rfl jk_0 ⟨fun c127 => ?_, fun c127 => ?_⟩)
                    ·
                      refine x_iconst (v := 0) rfl ki_0 ?_
                      refine x_zret rfl rfl (by decide) ?_
                      show jX m_X12_line 6 0 0 214 [(9, .int v123), (0, .ref 125), (1, .int l1), (2, .int l2), (3, .int l3), (4, .int l4), (5, .int l5), (7, .int l7), (8, .int l8), (10, .int l10)] [.int 0] _ 0 0 _
                      refine x_ifeq (tgt := 221) rfl rfl (ti_eq jk_0 jk_0 (br_t (by omega) ?_))
                      exact jX.sub (jsb_c rfl (jsb_c rfl (jsb_c rfl (jsb_c rfl (jsb_c rfl (jsb_c rfl (jsb_c rfl (jsb_c rfl (jsb_c rfl jsb_n))))))))) (ct_X12_line_r125p_221 hD hQ ih l1 l2 l3 l4 l5 l7 l8 v123 g0 g1 g2 g3 g4 u64 u67 v70 u65 u66 h (jr_of rfl (by omega)) (jr_of rfl (by omega)) (jr_of rfl (by omega)) (jr_of rfl (by omega)) (jr_of rfl (by omega)) (jr_of rfl (by omega)) (jr_of rfl (by omega)) (jr_mod rfl (by omega)) (jr_of rfl (by omega)) (jr_of rfl (by omega)) (jr_of rfl (by omega)) (jr_of rfl (by omega)) (jr_of rfl (by omega)) (jr_of rfl (by omega)) (jr_of rfl (by omega)) (jr_of rfl (by omega)) (jr_of rfl (by omega)) (jr_of rfl (by omega)) (jr_of rfl (by omega)) (by omega) (by omega) (by omega) (jmo2 w122 rfl jk_0 (by omega) (jmo2 w120 rfl jk_0 (by omega) (jmc S63 rfl z0))) (jmo2 w122 rfl jk_16 (by omega) (jmo2 w120 rfl jk_16 (by omega) (jmc S63 rfl z1))) (jmo2 w122 rfl jk_4 (by omega) (jmo2 w120 rfl jk_4 (by omega) (jmc S63 rfl z2))) (jmo2 w122 rfl jk_5 (by omega) (jmo2 w120 rfl jk_5 (by omega) (jmc S63 rfl z3))) (jmo2 w122 rfl jk_7 (by omega) (jmo2 w120 rfl jk_7 (by omega) (jmc S63 rfl z4))) (jmo w122 rfl (jmo w120 rfl qu64)) (jmo w122 rfl (jmo w120 rfl qu67)) (jmo w122 rfl (jmo w120 rfl qv70)) (jmo w122 rfl (jmo w120 rfl qu65)) (jmo w122 rfl (jmo w120 rfl qu66)) (by omega) J Sm)
                    ·
                      refine x_iconst (v := 1) rfl ki_1 ?_
                      refine x_goto (tgt := 23) rfl rfl ?_
                      refine x_zret rfl rfl (by decide) ?_
                      show jX m_X12_line 6 0 0 214 [(9, .int v123), (0, .ref 125), (1, .int l1), (2, .int l2), (3, .int l3), (4, .int l4), (5, .int l5), (7, .int l7), (8, .int l8), (10, .int l10)] [.int 1] _ 0 0 _
                      refine x_ifeq (tgt := 221) rfl rfl (ti_eq jk_1 jk_0 (br_f (by omega) ?_))
                      refine x_iconst (v := 1) rfl ki_1 ?_
                      refine x_goto (tgt := 222) rfl rfl ?_
                      exact jX.sub (jsb_c rfl (jsb_c rfl (jsb_c rfl (jsb_c rfl (jsb_c rfl (jsb_c rfl (jsb_c rfl (jsb_c rfl (jsb_c rfl jsb_n))))))))) (ct_X12_line_r125p_300222 hD hQ ih l1 l2 l3 l4 l5 l7 l8 v123 g0 g1 g2 g3 g4 u64 u67 v70 u65 u66 h (jr_of rfl (by omega)) (jr_of rfl (by omega)) (jr_of rfl (by omega)) (jr_of rfl (by omega)) (jr_of rfl (by omega)) (jr_of rfl (by omega)) (jr_of rfl (by omega)) (jr_mod rfl (by omega)) (jr_of rfl (by omega)) (jr_of rfl (by omega)) (jr_of rfl (by omega)) (jr_of rfl (by omega)) (jr_of rfl (by omega)) (jr_of rfl (by omega)) (jr_of rfl (by omega)) (jr_of rfl (by omega)) (jr_of rfl (by omega)) (jr_of rfl (by omega)) (jr_of rfl (by omega)) (by omega) (by omega) (by omega) (jmo2 w122 rfl jk_0 (by omega) (jmo2 w120 rfl jk_0 (by omega) (jmc S63 rfl z0))) (jmo2 w122 rfl jk_16 (by omega) (jmo2 w120 rfl jk_16 (by omega) (jmc S63 rfl z1))) (jmo2 w122 rfl jk_4 (by omega) (jmo2 w120 rfl jk_4 (by omega) (jmc S63 rfl z2))) (jmo2 w122 rfl jk_5 (by omega) (jmo2 w120 rfl jk_5 (by omega) (jmc S63 rfl z3))) (jmo2 w122 rfl jk_7 (by omega) (jmo2 w120 rfl jk_7 (by omega) (jmc S63 rfl z4))) (jmo w122 rfl (jmo w120 rfl qu64)) (jmo w122 rfl (jmo w120 rfl qu67)) (jmo w122 rfl (jmo w120 rfl qv70)) (jmo w122 rfl (jmo w120 rfl qu65)) (jmo w122 rfl (jmo w120 rfl qu66)) (by omega) J Sm)
                ·
                  refine x_iconst (v := 1) rfl ki_1 ?_
                  refine x_goto (tgt := 23) rfl rfl ?_
                  refine x_zret rfl rfl (by decide) ?_
                  show jX m_X12_readRole 5 0 0 30 [(2, .int 1), (0, .ref 125), (1, .int v5)] [.int 1] _ 0 0 _
                  refine x_ifne (tgt := 49) rfl rfl (ti_ne jk_1 jk_0 (bn_t (by omega) ?_))
                  refine x_aloadn (x := 125) rfl rfl ?_
                  refine z_getR (N := 92) (b := 126) 12 2 rfl f_12_8 rfl J rfl 16002 ⟨rfl, rfl⟩ rfl ?_
                  refine x_iloadn (x := v5) rfl rfl ?_
                  refine x_bipush (v := 14) rfl kb_14 ?_
                  refine z_iadd rfl rfl jk_14 (by omega) (fun v128 ev128 => ?_)
                  refine x_iconst (v := 0) rfl ki_0 ?_
                  refine z_iast (N := 50660) (l := 20) (u := 18020) (w := 0) rfl hD J Sm rfl rfl rfl (by omega) jk_0 (wr_126_20 (by omega) (fun q1 q2 q3 q4 => by omega) (fun q1 q2 q3 q4 => by omega) (fun q1 q2 q3 q4 => by omega) (fun q1 q2 q3 q4 => by omega) (fun q1 q2 q3 q4 => by omega) (fun q1 q2 q3 q4 => by omega) (fun q1 q2 q3 q4 => by omega) (fun q1 q2 q3 q4 => by omega) (fun q1 q2 q3 q4 => by omega) (fun q1 q2 q3 q4 => by omega) (fun q1 q2 q3 q4 => by omega) (fun q1 q2 q3 q4 => by omega) (fun q1 q2 q3 q4 => by omega) (fun q1 q2 q3 q4 => by omega) (fun q1 q2 q3 q4 => by omega) (fun q1 q2 q3 q4 => by omega) (fun q1 q2 q3 q4 => by omega) (fun q1 q2 q3 q4 => by omega) (fun q1 q2 q3 q4 => by omega) (fun q1 q2 q3 q4 => by omega) (fun q1 q2 q3 q4 => by omega) (fun q1 q2 q3 q4 => by omega) (fun q1 q2 q3 q4 => by omega)) rfl (fun h w129 J Sm => ?_)
                  refine x_aloadn (x := 125) rfl rfl ?_
                  refine z_getR (N := 92) (b := 126) 12 2 rfl f_12_8 rfl J rfl 16002 ⟨rfl, rfl⟩ rfl ?_
                  refine x_iloadn (x := v5) rfl rfl ?_
                  refine x_bipush (v := 15) rfl kb_15 ?_
                  refine z_iadd rfl rfl jk_15 (by omega) (fun v130 ev130 => ?_)
                  refine x_iconst (v := 0) rfl ki_0 ?_
                  refine z_iast (N := 50660) (l := 20) (u := 18020) (w := 0) rfl hD J Sm rfl rfl rfl (by omega) jk_0 (wr_126_20 (by omega) (fun q1 q2 q3 q4 => by omega) (fun q1 q2 q3 q4 => by omega) (fun q1 q2 q3 q4 => by omega) (fun q1 q2 q3 q4 => by omega) (fun q1 q2 q3 q4 => by omega) (fun q1 q2 q3 q4 => by omega) (fun q1 q2 q3 q4 => by omega) (fun q1 q2 q3 q4 => by omega) (fun q1 q2 q3 q4 => by omega) (fun q1 q2 q3 q4 => by omega) (fun q1 q2 q3 q4 => by omega) (fun q1 q2 q3 q4 => by omega) (fun q1 q2 q3 q4 => by omega) (fun q1 q2 q3 q4 => by omega) (fun q1 q2 q3 q4 => by omega) (fun q1 q2 q3 q4 => by omega) (fun q1 q2 q3 q4 => by omega) (fun q1 q2 q3 q4 => by omega) (fun q1 q2 q3 q4 => by omega) (fun q1 q2 q3 q4 => by omega) (fun q1 q2 q3 q4 => by omega) (fun q1 q2 q3 q4 => by omega) (fun q1 q2 q3 q4 => by omega)) rfl (fun h w131 J Sm => ?_)
                  refine x_vret rfl rfl ?_
                  show jX m_X12_line 6 0 0 198 [(0, .ref 125), (1, .int l1), (2, .int l2), (3, .int l3), (4, .int l4), (5, .int l5), (7, .int l7), (8, .int l8), (9, .int l9), (10, .int l10)] [] _ 0 0 _
                  refine z_iinc (x := l9) (lsx9 := fun v132 => [(9, .int v132), (0, .ref 125), (1, .int l1), (2, .int l2), (3, .int l3), (4, .int l4), (5, .int l5), (7, .int l7), (8, .int l8), (10, .int l10)]) rfl rfl rfl jko_1 (by omega) rfl (fun _ => rfl) (fun v132 ev132 => ?_)
                  refine x_aloadn (x := 125) rfl rfl ?_
                  refine z_getM (N := 92) (v := v70) 12 14 rfl f_12_214 rfl J rfl (jmo w131 rfl (jmo w129 rfl qv70)) ?_
                  refine x_ifne (tgt := 221) rfl rfl (ti_ne rfl jk_0 (bn_f (by omega) ?_))
                  refine x_aloadn (x := 125) rfl rfl ?_
                  refine x_bipush (v := 44) rfl kb_44 ?_
                  refine x_inv (N := m_X12_isSign) (As := [.int 44]) (b := 125) (st := []) (dx9 := 5) (mc := 0) (ms := 0) (host := "") 12 rfl t_X12_isSign ⟨Or.inl q_12_257, i_X12_isSign.1, i_X12_isSign.2⟩ ⟨by decide, rfl⟩ (congrArg Prod.fst (J.1.1 125 (12, 92) rfl)) rfl (by decide) rfl rfl ⟨by decide, by decide⟩ (jC.of rfl k_X12_isSign rfl ?_)
                  show jX m_X12_isSign 5 0 0 0 [(0, .ref 125), (1, .int 44)] [] _ 0 0 _
                  refine x_aloadn (x := 125) rfl rfl ?_
                  refine z_getM (N := 92) (v := u67) 12 11 rfl f_12_235 rfl J rfl (jmo w131 rfl (jmo w129 rfl qu67)) ?_
                  refine x_iconst (v := 3) rfl ki_3 ?_
                  refine x_icne (tgt := 22) rfl rfl (ti_ne rfl jk_3 (bn_f (by omega) ?_))
                  refine x_aloadn (x := 125) rfl rfl ?_
                  refine z_getL0 (N := 92) 12 12 rfl f_12_224 rfl J rfl (fun v133 => ?_)
                  have ev133 := jfullL v133
                  refine x_iloadn (x := 44) rfl rfl ?_
                  refine z_i2l rfl jk_44 (fun v134 ev134 => ?_)
                  refine z_lcmp rfl rfl rfl (fun v135 ev135 => ?_)
                  refine x_ifne (tgt := 22) rfl rfl (ti_ne rfl jk_0 ⟨fun c136 => ?_, fun c136 => ?_⟩)
                  ·
                    refine x_iconst (v := 0) rfl ki_0 ?_
                    refine x_zret rfl rfl (by decide) ?_
                    show jX m_X12_line 6 0 0 214 [(9, .int v132), (0, .ref 125), (1, .int l1), (2, .int l2), (3, .int l3), (4, .int l4), (5, .int l5), (7, .int l7), (8, .int l8), (10, .int l10)] [.int 0] _ 0 0 _
                    refine x_ifeq (tgt := 221) rfl rfl (ti_eq jk_0 jk_0 (br_t (by omega) ?_))
                    exact jX.sub (jsb_c rfl (jsb_c rfl (jsb_c rfl (jsb_c rfl (jsb_c rfl (jsb_c rfl (jsb_c rfl (jsb_c rfl (jsb_c rfl jsb_n))))))))) (ct_X12_line_r125p_221 hD hQ ih l1 l2 l3 l4 l5 l7 l8 v132 g0 g1 g2 g3 g4 u64 u67 v70 u65 u66 h (jr_of rfl (by omega)) (jr_of rfl (by omega)) (jr_of rfl (by omega)) (jr_of rfl (by omega)) (jr_of rfl (by omega)) (jr_of rfl (by omega)) (jr_of rfl (by omega)) (jr_mod rfl (by omega)) (jr_of rfl (by omega)) (jr_of rfl (by omega)) (jr_of rfl (by omega)) (jr_of rfl (by omega)) (jr_of rfl (by omega)) (jr_of rfl (by omega)) (jr_of rfl (by omega)) (jr_of rfl (by omega)) (jr_of rfl (by omega)) (jr_of rfl (by omega)) (jr_of rfl (by omega)) (by omega) (by omega) (by omega) (jmo2 w131 rfl jk_0 (by omega) (jmo2 w129 rfl jk_0 (by omega) (jmc S63 rfl z0))) (jmo2 w131 rfl jk_16 (by omega) (jmo2 w129 rfl jk_16 (by omega) (jmc S63 rfl z1))) (jmo2 w131 rfl jk_4 (by omega) (jmo2 w129 rfl jk_4 (by omega) (jmc S63 rfl z2))) (jmo2 w131 rfl jk_5 (by omega) (jmo2 w129 rfl jk_5 (by omega) (jmc S63 rfl z3))) (jmo2 w131 rfl jk_7 (by omega) (jmo2 w129 rfl jk_7 (by omega) (jmc S63 rfl z4))) (jmo w131 rfl (jmo w129 rfl qu64)) (jmo w131 rfl (jmo w129 rfl qu67)) (jmo w131 rfl (jmo w129 rfl qv70)) (jmo w131 rfl (jmo w129 rfl qu65)) (jmo w131 rfl (jmo w129 rfl qu66)) (by omega) J Sm)
                  ·
                    refine x_iconst (v := 1) rfl ki_1 ?_
                    refine x_goto (tgt := 23) rfl rfl ?_
                    refine x_zret rfl rfl (by decide) ?_
                    show jX m_X12_line 6 0 0 214 [(9, .int v132), (0, .ref 125), (1, .int l1), (2, .int l2), (3, .int l3), (4, .int l4), (5, .int l5), (7, .int l7), (8, .int l8), (10, .int l10)] [.int 1] _ 0 0 _
                    refine x_ifeq (tgt := 221) rfl rfl (ti_eq jk_1 jk_0 (br_f (by omega) ?_))
                    refine x_iconst (v := 1) rfl ki_1 ?_
                    refine x_goto (tgt := 222) rfl rfl ?_
                    exact jX.sub (jsb_c rfl (jsb_c rfl (jsb_c rfl (jsb_c rfl (jsb_c rfl (jsb_c rfl (jsb_c rfl (jsb_c rfl (jsb_c rfl jsb_n))))))))) (ct_X12_line_r125p_300222 hD hQ ih l1 l2 l3 l4 l5 l7 l8 v132 g0 g1 g2 g3 g4 u64 u67 v70 u65 u66 h (jr_of rfl (by omega)) (jr_of rfl (by omega)) (jr_of rfl (by omega)) (jr_of rfl (by omega)) (jr_of rfl (by omega)) (jr_of rfl (by omega)) (jr_of rfl (by omega)) (jr_mod rfl (by omega)) (jr_of rfl (by omega)) (jr_of rfl (by omega)) (jr_of rfl (by omega)) (jr_of rfl (by omega)) (jr_of rfl (by omega)) (jr_of rfl (by omega)) (jr_of rfl (by omega)) (jr_of rfl (by omega)) (jr_of rfl (by omega)) (jr_of rfl (by omega)) (jr_of rfl (by omega)) (by omega) (by omega) (by omega) (jmo2 w131 rfl jk_0 (by omega) (jmo2 w129 rfl jk_0 (by omega) (jmc S63 rfl z0))) (jmo2 w131 rfl jk_16 (by omega) (jmo2 w129 rfl jk_16 (by omega) (jmc S63 rfl z1))) (jmo2 w131 rfl jk_4 (by omega) (jmo2 w129 rfl jk_4 (by omega) (jmc S63 rfl z2))) (jmo2 w131 rfl jk_5 (by omega) (jmo2 w129 rfl jk_5 (by omega) (jmc S63 rfl z3))) (jmo2 w131 rfl jk_7 (by omega) (jmo2 w129 rfl jk_7 (by omega) (jmc S63 rfl z4))) (jmo w131 rfl (jmo w129 rfl qu64)) (jmo w131 rfl (jmo w129 rfl qu67)) (jmo w131 rfl (jmo w129 rfl qv70)) (jmo w131 rfl (jmo w129 rfl qu65)) (jmo w131 rfl (jmo w129 rfl qu66)) (by omega) J Sm)
            ·
              refine x_vret rfl rfl ?_
              show jX m_X12_line 6 0 0 198 [(0, .ref 125), (1, .int l1), (2, .int l2), (3, .int l3), (4, .int l4), (5, .int l5), (7, .int l7), (8, .int l8), (9, .int l9), (10, .int l10)] [] _ 0 0 _
              refine z_iinc (x := l9) (lsx9 := fun v137 => [(9, .int v137), (0, .ref 125), (1, .int l1), (2, .int l2), (3, .int l3), (4, .int l4), (5, .int l5), (7, .int l7), (8, .int l8), (10, .int l10)]) rfl rfl rfl jko_1 (by omega) rfl (fun _ => rfl) (fun v137 ev137 => ?_)
              refine x_aloadn (x := 125) rfl rfl ?_
              refine z_getM (N := 92) (v := v70) 12 14 rfl f_12_214 rfl J rfl qv70 ?_
              refine x_ifne (tgt := 221) rfl rfl (ti_ne rfl jk_0 (bn_t (by omega) ?_))
              exact jX.sub (jsb_c rfl (jsb_c rfl (jsb_c rfl (jsb_c rfl (jsb_c rfl (jsb_c rfl (jsb_c rfl (jsb_c rfl (jsb_c rfl jsb_n))))))))) (ct_X12_line_r125p_221 hD hQ ih l1 l2 l3 l4 l5 l7 l8 v137 g0 g1 g2 g3 g4 u64 u67 v70 u65 u66 h (jr_of rfl (by omega)) (jr_of rfl (by omega)) (jr_of rfl (by omega)) (jr_of rfl (by omega)) (jr_of rfl (by omega)) (jr_of rfl (by omega)) (jr_of rfl (by omega)) (jr_mod rfl (by omega)) (jr_of rfl (by omega)) (jr_of rfl (by omega)) (jr_of rfl (by omega)) (jr_of rfl (by omega)) (jr_of rfl (by omega)) (jr_of rfl (by omega)) (jr_of rfl (by omega)) (jr_of rfl (by omega)) (jr_of rfl (by omega)) (jr_of rfl (by omega)) (jr_of rfl (by omega)) (by omega) (by omega) (by omega) (jmc S63 rfl z0) (jmc S63 rfl z1) (jmc S63 rfl z2) (jmc S63 rfl z3) (jmc S63 rfl z4) qu64 qu67 qv70 qu65 qu66 (by omega) J Sm)
set_option maxRecDepth 100000 in
set_option maxHeartbeats 4000000 in
theorem ct_X12_line_r125p_300169 {Dy : jH → Prop} {h0 : jH} {Q : Option Value → jH → Prop} (hD : jDk Dy) (hQ : ∀ (v : Int32) hx9, jJ jSgM Dy hx9 → jSm fp_X12_line_r125p h0 hx9 → ∀ u0 u1 u2 u3 u4 : Int32, jiv hx9 126 (16 : Int32).toNatClampNeg = u0 → jiv hx9 126 (0 : Int32).toNatClampNeg = u1 → jiv hx9 126 (4 : Int32).toNatClampNeg = u2 → jiv hx9 126 (5 : Int32).toNatClampNeg = u3 → jiv hx9 126 (7 : Int32).toNatClampNeg = u4 → u0.toInt = u1.toInt + u2.toInt + u3.toInt + u4.toInt → (jiv hx9 125 8).toInt = 0 → Q (some (.int v)) hx9) : ∀ (l1 : Int32) (l2 : Int32) (l3 : Int32) (l4 : Int32) (l5 : Int32) (l7 : Int32) (l8 : Int32) (g0 : Int32) (g1 : Int32) (g2 : Int32) (g3 : Int32) (g4 : Int32) (g5 : Int32) (g6 : Int32) (g7 : Int32) (g8 : Int32) (g9 : Int32) (h : jH), 0 ≤ l1.toInt ∧ l1.toInt ≤ 5 → 0 ≤ l2.toInt ∧ l2.toInt ≤ 15 → 0 ≤ l3.toInt ∧ l3.toInt ≤ 146399 → 0 ≤ l4.toInt ∧ l4.toInt ≤ 146399 → (-1) ≤ l5.toInt ∧ l5.toInt ≤ 100000 → 0 ≤ l7.toInt ∧ l7.toInt ≤ 199 → 20 ≤ l8.toInt ∧ l8.toInt ≤ 17930 → l8.toInt % 90 = 20 → 0 ≤ g0.toInt ∧ g0.toInt ≤ 199 → 0 ≤ g1.toInt ∧ g1.toInt ≤ 369 → 0 ≤ g2.toInt ∧ g2.toInt ≤ 30 → 0 ≤ g3.toInt ∧ g3.toInt ≤ 100 → 0 ≤ g4.toInt ∧ g4.toInt ≤ 40 → 0 ≤ g5.toInt ∧ g5.toInt ≤ 400 → 1 ≤ g6.toInt ∧ g6.toInt ≤ 3 → 0 ≤ g7.toInt ∧ g7.toInt ≤ 0 → 0 ≤ g8.toInt ∧ g8.toInt ≤ 400 → 0 ≤ g9.toInt ∧ g9.toInt ≤ 400 → g1.toInt = g0.toInt + g2.toInt + g3.toInt + g4.toInt → (g5.toInt ≤ g8.toInt ∧ g9.toInt ≤ g5.toInt) → (g6.toInt = 0 ∨ g9.toInt + 1 ≤ g5.toInt) → jiv h 126 (0 : Int32).toNatClampNeg = g0 → jiv h 126 (16 : Int32).toNatClampNeg = g1 → jiv h 126 (4 : Int32).toNatClampNeg = g2 → jiv h 126 (5 : Int32).toNatClampNeg = g3 → jiv h 126 (7 : Int32).toNatClampNeg = g4 → jiv h 125 10 = g5 → jiv h 125 11 = g6 → jiv h 125 14 = g7 → jiv h 125 8 = g8 → jiv h 125 9 = g9 → jJ jSgM Dy h → jSm fp_X12_line_r125p h0 h → jX m_X12_line 6 0 0 169 [(0, .ref 125), (1, .int l1), (2, .int l2), (3, .int l3), (4, .int l4), (5, .int l5), (7, .int l7), (8, .int l8), (9, .int 0)] [.int 1] h 0 0 Q := by
  intro l1 l2 l3 l4 l5 l7 l8 g0 g1 g2 g3 g4 g5 g6 g7 g8 g9 h y0 y1 y2 y3 y4 y5 y6 y7 y8 y9 y10 y11 y12 y13 y14 y15 y16 y17 y18 y19 y20 z0 z1 z2 z3 z4 z5 z6 z7 z8 z9  J Sm
  refine x_istore (lsx9 := [(10, .int 1), (0, .ref 125), (1, .int l1), (2, .int l2), (3, .int l3), (4, .int l4), (5, .int l5), (7, .int l7), (8, .int l8), (9, .int 0)]) rfl rfl rfl ?_
  exact jX.sub (jsb_c rfl (jsb_c rfl (jsb_c rfl (jsb_c rfl (jsb_c rfl (jsb_c rfl (jsb_c rfl (jsb_c rfl (jsb_c rfl (jsb_c rfl jsb_n)))))))))) (ct_X12_line_r125p_171 hD hQ  4 l1 l2 l3 l4 l5 l7 l8 0 1 g0 g1 g2 g3 g4 g5 g6 g7 g8 g9 h (by have := jk_0; omega) (jr_of rfl (by omega)) (jr_of rfl (by omega)) (jr_of rfl (by omega)) (jr_of rfl (by omega)) (jr_of rfl (by omega)) (jr_of rfl (by omega)) (jr_of rfl (by omega)) (jr_mod rfl (by omega)) (jr_of jk_0 (by omega)) (jr_of jk_1 (by omega)) (jr_of rfl (by omega)) (jr_of rfl (by omega)) (jr_of rfl (by omega)) (jr_of rfl (by omega)) (jr_of rfl (by omega)) (jr_of rfl (by omega)) (jr_of rfl (by omega)) (jr_of rfl (by omega)) (jr_of rfl (by omega)) (jr_of rfl (by omega)) (by have := jk_1; have := jk_0; omega) (by omega) (by omega) (by omega) z0 z1 z2 z3 z4 z5 z6 z7 z8 z9 J Sm)
set_option maxRecDepth 100000 in
set_option maxHeartbeats 4000000 in
theorem ct_X12_line_r125p_200169 {Dy : jH → Prop} {h0 : jH} {Q : Option Value → jH → Prop} (hD : jDk Dy) (hQ : ∀ (v : Int32) hx9, jJ jSgM Dy hx9 → jSm fp_X12_line_r125p h0 hx9 → ∀ u0 u1 u2 u3 u4 : Int32, jiv hx9 126 (16 : Int32).toNatClampNeg = u0 → jiv hx9 126 (0 : Int32).toNatClampNeg = u1 → jiv hx9 126 (4 : Int32).toNatClampNeg = u2 → jiv hx9 126 (5 : Int32).toNatClampNeg = u3 → jiv hx9 126 (7 : Int32).toNatClampNeg = u4 → u0.toInt = u1.toInt + u2.toInt + u3.toInt + u4.toInt → (jiv hx9 125 8).toInt = 0 → Q (some (.int v)) hx9) : ∀ (l1 : Int32) (l2 : Int32) (l3 : Int32) (l4 : Int32) (l5 : Int32) (l7 : Int32) (l8 : Int32) (g0 : Int32) (g1 : Int32) (g2 : Int32) (g3 : Int32) (g4 : Int32) (g5 : Int32) (g6 : Int32) (g7 : Int32) (g8 : Int32) (g9 : Int32) (h : jH), 0 ≤ l1.toInt ∧ l1.toInt ≤ 5 → 0 ≤ l2.toInt ∧ l2.toInt ≤ 15 → 0 ≤ l3.toInt ∧ l3.toInt ≤ 146399 → 0 ≤ l4.toInt ∧ l4.toInt ≤ 146399 → (-1) ≤ l5.toInt ∧ l5.toInt ≤ 100000 → 0 ≤ l7.toInt ∧ l7.toInt ≤ 199 → 20 ≤ l8.toInt ∧ l8.toInt ≤ 17930 → l8.toInt % 90 = 20 → 0 ≤ g0.toInt ∧ g0.toInt ≤ 199 → 0 ≤ g1.toInt ∧ g1.toInt ≤ 369 → 0 ≤ g2.toInt ∧ g2.toInt ≤ 30 → 0 ≤ g3.toInt ∧ g3.toInt ≤ 100 → 0 ≤ g4.toInt ∧ g4.toInt ≤ 40 → 0 ≤ g5.toInt ∧ g5.toInt ≤ 400 → 0 ≤ g6.toInt ∧ g6.toInt ≤ 3 → 0 ≤ g7.toInt ∧ g7.toInt ≤ 0 → 0 ≤ g8.toInt ∧ g8.toInt ≤ 400 → 0 ≤ g9.toInt ∧ g9.toInt ≤ 400 → g1.toInt = g0.toInt + g2.toInt + g3.toInt + g4.toInt → (g5.toInt ≤ g8.toInt ∧ g9.toInt ≤ g5.toInt) → (g6.toInt = 0 ∨ g9.toInt + 1 ≤ g5.toInt) → jiv h 126 (0 : Int32).toNatClampNeg = g0 → jiv h 126 (16 : Int32).toNatClampNeg = g1 → jiv h 126 (4 : Int32).toNatClampNeg = g2 → jiv h 126 (5 : Int32).toNatClampNeg = g3 → jiv h 126 (7 : Int32).toNatClampNeg = g4 → jiv h 125 10 = g5 → jiv h 125 11 = g6 → jiv h 125 14 = g7 → jiv h 125 8 = g8 → jiv h 125 9 = g9 → jJ jSgM Dy h → jSm fp_X12_line_r125p h0 h → jX m_X12_line 6 0 0 169 [(0, .ref 125), (1, .int l1), (2, .int l2), (3, .int l3), (4, .int l4), (5, .int l5), (7, .int l7), (8, .int l8), (9, .int 0)] [.int 0] h 0 0 Q := by
  intro l1 l2 l3 l4 l5 l7 l8 g0 g1 g2 g3 g4 g5 g6 g7 g8 g9 h y0 y1 y2 y3 y4 y5 y6 y7 y8 y9 y10 y11 y12 y13 y14 y15 y16 y17 y18 y19 y20 z0 z1 z2 z3 z4 z5 z6 z7 z8 z9  J Sm
  refine x_istore (lsx9 := [(10, .int 0), (0, .ref 125), (1, .int l1), (2, .int l2), (3, .int l3), (4, .int l4), (5, .int l5), (7, .int l7), (8, .int l8), (9, .int 0)]) rfl rfl rfl ?_
  exact jX.sub (jsb_c rfl (jsb_c rfl (jsb_c rfl (jsb_c rfl (jsb_c rfl (jsb_c rfl (jsb_c rfl (jsb_c rfl (jsb_c rfl (jsb_c rfl jsb_n)))))))))) (ct_X12_line_r125p_171 hD hQ  4 l1 l2 l3 l4 l5 l7 l8 0 0 g0 g1 g2 g3 g4 g5 g6 g7 g8 g9 h (by have := jk_0; omega) (jr_of rfl (by omega)) (jr_of rfl (by omega)) (jr_of rfl (by omega)) (jr_of rfl (by omega)) (jr_of rfl (by omega)) (jr_of rfl (by omega)) (jr_of rfl (by omega)) (jr_mod rfl (by omega)) (jr_of jk_0 (by omega)) (jr_of jk_0 (by omega)) (jr_of rfl (by omega)) (jr_of rfl (by omega)) (jr_of rfl (by omega)) (jr_of rfl (by omega)) (jr_of rfl (by omega)) (jr_of rfl (by omega)) (jr_of rfl (by omega)) (jr_of rfl (by omega)) (jr_of rfl (by omega)) (jr_of rfl (by omega)) (by have := jk_0; have := jk_0; omega) (by omega) (by omega) (by omega) z0 z1 z2 z3 z4 z5 z6 z7 z8 z9 J Sm)
set_option maxRecDepth 100000 in
set_option maxHeartbeats 4000000 in
theorem ct_X12_line_r125p_168 {Dy : jH → Prop} {h0 : jH} {Q : Option Value → jH → Prop} (hD : jDk Dy) (hQ : ∀ (v : Int32) hx9, jJ jSgM Dy hx9 → jSm fp_X12_line_r125p h0 hx9 → ∀ u0 u1 u2 u3 u4 : Int32, jiv hx9 126 (16 : Int32).toNatClampNeg = u0 → jiv hx9 126 (0 : Int32).toNatClampNeg = u1 → jiv hx9 126 (4 : Int32).toNatClampNeg = u2 → jiv hx9 126 (5 : Int32).toNatClampNeg = u3 → jiv hx9 126 (7 : Int32).toNatClampNeg = u4 → u0.toInt = u1.toInt + u2.toInt + u3.toInt + u4.toInt → (jiv hx9 125 8).toInt = 0 → Q (some (.int v)) hx9) : ∀ (l1 : Int32) (l2 : Int32) (l3 : Int32) (l4 : Int32) (l5 : Int32) (l7 : Int32) (l8 : Int32) (g0 : Int32) (g1 : Int32) (g2 : Int32) (g3 : Int32) (g4 : Int32) (g5 : Int32) (g6 : Int32) (g7 : Int32) (g8 : Int32) (g9 : Int32) (h : jH), 0 ≤ l1.toInt ∧ l1.toInt ≤ 5 → 0 ≤ l2.toInt ∧ l2.toInt ≤ 15 → 0 ≤ l3.toInt ∧ l3.toInt ≤ 146399 → 0 ≤ l4.toInt ∧ l4.toInt ≤ 146399 → (-1) ≤ l5.toInt ∧ l5.toInt ≤ 100000 → 0 ≤ l7.toInt ∧ l7.toInt ≤ 199 → 20 ≤ l8.toInt ∧ l8.toInt ≤ 17930 → l8.toInt % 90 = 20 → 0 ≤ g0.toInt ∧ g0.toInt ≤ 199 → 0 ≤ g1.toInt ∧ g1.toInt ≤ 369 → 0 ≤ g2.toInt ∧ g2.toInt ≤ 30 → 0 ≤ g3.toInt ∧ g3.toInt ≤ 100 → 0 ≤ g4.toInt ∧ g4.toInt ≤ 40 → 0 ≤ g5.toInt ∧ g5.toInt ≤ 400 → 0 ≤ g6.toInt ∧ g6.toInt ≤ 3 → 0 ≤ g7.toInt ∧ g7.toInt ≤ 0 → 0 ≤ g8.toInt ∧ g8.toInt ≤ 400 → 0 ≤ g9.toInt ∧ g9.toInt ≤ 400 → g1.toInt = g0.toInt + g2.toInt + g3.toInt + g4.toInt → (g5.toInt ≤ g8.toInt ∧ g9.toInt ≤ g5.toInt) → (g6.toInt = 0 ∨ g9.toInt + 1 ≤ g5.toInt) → jiv h 126 (0 : Int32).toNatClampNeg = g0 → jiv h 126 (16 : Int32).toNatClampNeg = g1 → jiv h 126 (4 : Int32).toNatClampNeg = g2 → jiv h 126 (5 : Int32).toNatClampNeg = g3 → jiv h 126 (7 : Int32).toNatClampNeg = g4 → jiv h 125 10 = g5 → jiv h 125 11 = g6 → jiv h 125 14 = g7 → jiv h 125 8 = g8 → jiv h 125 9 = g9 → jJ jSgM Dy h → jSm fp_X12_line_r125p h0 h → jX m_X12_line 6 0 0 168 [(0, .ref 125), (1, .int l1), (2, .int l2), (3, .int l3), (4, .int l4), (5, .int l5), (7, .int l7), (8, .int l8), (9, .int 0)] [] h 0 0 Q := by
  intro l1 l2 l3 l4 l5 l7 l8 g0 g1 g2 g3 g4 g5 g6 g7 g8 g9 h y0 y1 y2 y3 y4 y5 y6 y7 y8 y9 y10 y11 y12 y13 y14 y15 y16 y17 y18 y19 y20 z0 z1 z2 z3 z4 z5 z6 z7 z8 z9  J Sm
  refine x_iconst (v := 0) rfl ki_0 ?_
  exact jX.sub (jsb_c rfl (jsb_c rfl (jsb_c rfl (jsb_c rfl (jsb_c rfl (jsb_c rfl (jsb_c rfl (jsb_c rfl (jsb_c rfl jsb_n))))))))) (ct_X12_line_r125p_200169 hD hQ  l1 l2 l3 l4 l5 l7 l8 g0 g1 g2 g3 g4 g5 g6 g7 g8 g9 h (jr_of rfl (by omega)) (jr_of rfl (by omega)) (jr_of rfl (by omega)) (jr_of rfl (by omega)) (jr_of rfl (by omega)) (jr_of rfl (by omega)) (jr_of rfl (by omega)) (jr_mod rfl (by omega)) (jr_of rfl (by omega)) (jr_of rfl (by omega)) (jr_of rfl (by omega)) (jr_of rfl (by omega)) (jr_of rfl (by omega)) (jr_of rfl (by omega)) (jr_of rfl (by omega)) (jr_of rfl (by omega)) (jr_of rfl (by omega)) (jr_of rfl (by omega)) (by omega) (by omega) (by omega) z0 z1 z2 z3 z4 z5 z6 z7 z8 z9 J Sm)
set_option maxRecDepth 100000 in
set_option maxHeartbeats 4000000 in
theorem ct_X12_line_r125p_117 {Dy : jH → Prop} {h0 : jH} {Q : Option Value → jH → Prop} (hD : jDk Dy) (hQ : ∀ (v : Int32) hx9, jJ jSgM Dy hx9 → jSm fp_X12_line_r125p h0 hx9 → ∀ u0 u1 u2 u3 u4 : Int32, jiv hx9 126 (16 : Int32).toNatClampNeg = u0 → jiv hx9 126 (0 : Int32).toNatClampNeg = u1 → jiv hx9 126 (4 : Int32).toNatClampNeg = u2 → jiv hx9 126 (5 : Int32).toNatClampNeg = u3 → jiv hx9 126 (7 : Int32).toNatClampNeg = u4 → u0.toInt = u1.toInt + u2.toInt + u3.toInt + u4.toInt → (jiv hx9 125 8).toInt = 0 → Q (some (.int v)) hx9) : ∀ r : Nat, ∀ (l1 : Int32) (l2 : Int32) (l3 : Int32) (l4 : Int32) (l5 : Int32) (l7 : Int32) (l8 : Int32) (l9 : Int32) (g0 : Int32) (g1 : Int32) (g2 : Int32) (g3 : Int32) (g4 : Int32) (g5 : Int32) (g6 : Int32) (g7 : Int32) (g8 : Int32) (h : jH), 90 - l9.toInt < (r : Int) → 0 ≤ l1.toInt ∧ l1.toInt ≤ 5 → 0 ≤ l2.toInt ∧ l2.toInt ≤ 15 → 0 ≤ l3.toInt ∧ l3.toInt ≤ 146399 → 0 ≤ l4.toInt ∧ l4.toInt ≤ 146399 → (-1) ≤ l5.toInt ∧ l5.toInt ≤ 100000 → 0 ≤ l7.toInt ∧ l7.toInt ≤ 199 → 20 ≤ l8.toInt ∧ l8.toInt ≤ 17930 → l8.toInt % 90 = 20 → 0 ≤ l9.toInt ∧ l9.toInt ≤ 90 → 0 ≤ g0.toInt ∧ g0.toInt ≤ 199 → 0 ≤ g1.toInt ∧ g1.toInt ≤ 369 → 0 ≤ g2.toInt ∧ g2.toInt ≤ 30 → 0 ≤ g3.toInt ∧ g3.toInt ≤ 100 → 0 ≤ g4.toInt ∧ g4.toInt ≤ 40 → 0 ≤ g5.toInt ∧ g5.toInt ≤ 400 → 0 ≤ g6.toInt ∧ g6.toInt ≤ 3 → 0 ≤ g7.toInt ∧ g7.toInt ≤ 400 → 0 ≤ g8.toInt ∧ g8.toInt ≤ 400 → g1.toInt = g0.toInt + g2.toInt + g3.toInt + g4.toInt → jiv h 126 (0 : Int32).toNatClampNeg = g0 → jiv h 126 (16 : Int32).toNatClampNeg = g1 → jiv h 126 (4 : Int32).toNatClampNeg = g2 → jiv h 126 (5 : Int32).toNatClampNeg = g3 → jiv h 126 (7 : Int32).toNatClampNeg = g4 → jiv h 125 10 = g5 → jiv h 125 11 = g6 → jiv h 125 8 = g7 → jiv h 125 9 = g8 → jJ jSgM Dy h → jSm fp_X12_line_r125p h0 h → jX m_X12_line 6 0 0 117 [(0, .ref 125), (1, .int l1), (2, .int l2), (3, .int l3), (4, .int l4), (5, .int l5), (7, .int l7), (8, .int l8), (9, .int l9)] [] h 0 0 Q := by
  intro r
  induction r with
  | zero =>
    intro l1 l2 l3 l4 l5 l7 l8 l9 g0 g1 g2 g3 g4 g5 g6 g7 g8 h hm y0 y1 y2 y3 y4 y5 y6 y7 y8 y9 y10 y11 y12 y13 y14 y15 y16 y17 y18 z0 z1 z2 z3 z4 z5 z6 z7 z8  J Sm
    exfalso
    omega
  | succ r ih =>
    intro l1 l2 l3 l4 l5 l7 l8 l9 g0 g1 g2 g3 g4 g5 g6 g7 g8 h hm y0 y1 y2 y3 y4 y5 y6 y7 y8 y9 y10 y11 y12 y13 y14 y15 y16 y17 y18 z0 z1 z2 z3 z4 z5 z6 z7 z8  J Sm
    refine x_iload (x := l9) rfl rfl ?_
    refine x_bipush (v := 90) rfl kb_90 ?_
    refine x_icge (tgt := 141) rfl rfl (ti_ge rfl jk_90 ⟨fun c1 => ?_, fun c1 => ?_⟩)
    ·
      refine x_aloadn (x := 125) rfl rfl ?_
      refine x_inv (N := m_X12_begin) (As := []) (b := 125) (st := []) (dx9 := 5) (mc := 0) (ms := 0) (host := "") 12 rfl t_X12_begin ⟨Or.inl q_12_280, i_X12_begin.1, i_X12_begin.2⟩ ⟨by decide, rfl⟩ (congrArg Prod.fst (J.1.1 125 (12, 92) rfl)) rfl (by decide) rfl rfl ⟨by decide, by decide⟩ (jC.of rfl k_X12_begin rfl ?_)
      show jX m_X12_begin 5 0 0 0 [(0, .ref 125)] [] _ 0 0 _
      refine x_aloadn (x := 125) rfl rfl ?_
      refine x_iconst (v := 0) rfl ki_0 ?_
      refine z_putI (N := 92) (w := 0) 12 10 rfl f_12_211 rfl (jfin_no TX12 RX12 92 rfl rfl) hD J Sm rfl rfl jk_0 (pw_125_10 (by omega)) rfl (fun h w2 J Sm => ?_)
      refine x_aloadn (x := 125) rfl rfl ?_
      refine x_iconst (v := 0) rfl ki_0 ?_
      refine z_putZ (N := 92) (w := 0) 12 14 rfl f_12_214 rfl (jfin_no TX12 RX12 92 rfl rfl) hD J Sm rfl rfl jk_0 (by omega) (pw_125_14 (by omega)) rfl (fun h w3 J Sm => ?_)
      refine x_aloadn (x := 125) rfl rfl ?_
      refine x_iconst (v := (-1)) rfl ki_m1 ?_
      refine z_putI (N := 92) (w := (-1)) 12 13 rfl f_12_32 rfl (jfin_no TX12 RX12 92 rfl rfl) hD J Sm rfl rfl jk_m1 (pw_125_13 (by omega)) rfl (fun h w4 J Sm => ?_)
      refine x_aloadn (x := 125) rfl rfl ?_
      refine x_inv (N := m_X12_next) (As := []) (b := 125) (st := []) (dx9 := 2) (mc := 0) (ms := 0) (host := "") 12 rfl t_X12_next ⟨Or.inl q_12_218, i_X12_next.1, i_X12_next.2⟩ ⟨by decide, rfl⟩ (congrArg Prod.fst (J.1.1 125 (12, 92) rfl)) rfl (by decide) rfl rfl ⟨by decide, by decide⟩ (sf_X12_next_r125  hD J (jmo w4 rfl (jmo w3 rfl (jmw w2))) (jmo w4 rfl (jmo w3 rfl (jmo w2 rfl z7))) (by have := jk_0; omega)  (fun h J S5 u6 u7 u8 qu6 qu7 qu8 ru6 u9 u10 u11 qu9 qu10 qu11 ru9 P12 => ?_))
      have Sm := jSm_tr rfl Sm S5
      have eu6 := (show 0 ≤ u6.toInt ∧ u6.toInt ≤ 400 from qu6 ▸ jrg_f J sg_125_10_11_1_0_1)
      have eu7 := (show 0 ≤ u7.toInt ∧ u7.toInt ≤ 400 from qu7 ▸ jrg_f J sg_125_8_9_1_0_1)
      have eu8 := (show 0 ≤ u8.toInt ∧ u8.toInt ≤ 400 from qu8 ▸ jrg_f J sg_125_9_10_1_0_1)
      have eu9 := (show 0 ≤ u9.toInt ∧ u9.toInt ≤ 3 from qu9 ▸ jrg_f J sg_125_11_12_1_0_1)
      obtain rfl : u8 = u10 := qu8.symm.trans qu10
      obtain rfl : u6 = u11 := qu6.symm.trans qu11
      have nfP12 := jnf P12.1 (jmo w4 rfl (jmo w3 rfl (jmw w2))) qu8
      show jX m_X12_begin 5 0 0 19 [(0, .ref 125)] [] _ 0 0 _
      refine x_vret rfl rfl ?_
      show jX m_X12_line 6 0 0 145 [(0, .ref 125), (1, .int l1), (2, .int l2), (3, .int l3), (4, .int l4), (5, .int l5), (7, .int l7), (8, .int l8), (9, .int l9)] [] _ 0 0 _
      refine x_iconst (v := 0) rfl ki_0 ?_
      refine x_istore (lsx9 := [(9, .int 0), (0, .ref 125), (1, .int l1), (2, .int l2), (3, .int l3), (4, .int l4), (5, .int l5), (7, .int l7), (8, .int l8)]) rfl rfl rfl ?_
      refine x_aloadn (x := 125) rfl rfl ?_
      refine z_getM (N := 92) (v := u9) 12 11 rfl f_12_235 rfl J rfl qu9 ?_
      refine x_ifeq (tgt := 168) rfl rfl (ti_eq rfl jk_0 ⟨fun c13 => ?_, fun c13 => ?_⟩)
      ·
        exact jX.sub (jsb_c rfl (jsb_c rfl (jsb_c rfl (jsb_c rfl (jsb_c rfl (jsb_c rfl (jsb_c rfl (jsb_c rfl (jsb_c rfl jsb_n))))))))) (ct_X12_line_r125p_168 hD hQ  l1 l2 l3 l4 l5 l7 l8 g0 g1 g2 g3 g4 u6 u9 0 u7 u8 h (jr_of rfl (by omega)) (jr_of rfl (by omega)) (jr_of rfl (by omega)) (jr_of rfl (by omega)) (jr_of rfl (by omega)) (jr_of rfl (by omega)) (jr_of rfl (by omega)) (jr_mod rfl (by omega)) (jr_of rfl (by omega)) (jr_of rfl (by omega)) (jr_of rfl (by omega)) (jr_of rfl (by omega)) (jr_of rfl (by omega)) (jr_of rfl (by omega)) (jr_of rfl (by omega)) (jr_of jk_0 (by omega)) (jr_of rfl (by omega)) (jr_of rfl (by omega)) (by omega) (by omega) (by omega) (jmc S5 rfl (jmo w4 rfl (jmo w3 rfl (jmo w2 rfl z0)))) (jmc S5 rfl (jmo w4 rfl (jmo w3 rfl (jmo w2 rfl z1)))) (jmc S5 rfl (jmo w4 rfl (jmo w3 rfl (jmo w2 rfl z2)))) (jmc S5 rfl (jmo w4 rfl (jmo w3 rfl (jmo w2 rfl z3)))) (jmc S5 rfl (jmo w4 rfl (jmo w3 rfl (jmo w2 rfl z4)))) qu6 qu9 (jmc S5 rfl (jmo w4 rfl (jmw w3))) qu7 qu8 J Sm)
      ·
        refine x_aloadn (x := 125) rfl rfl ?_
        refine x_bipush (v := 46) rfl kb_46 ?_
        refine x_inv (N := m_X12_isSign) (As := [.int 46]) (b := 125) (st := []) (dx9 := 5) (mc := 0) (ms := 0) (host := "") 12 rfl t_X12_isSign ⟨Or.inl q_12_257, i_X12_isSign.1, i_X12_isSign.2⟩ ⟨by decide, rfl⟩ (congrArg Prod.fst (J.1.1 125 (12, 92) rfl)) rfl (by decide) rfl rfl ⟨by decide, by decide⟩ (jC.of rfl k_X12_isSign rfl ?_)
        show jX m_X12_isSign 5 0 0 0 [(0, .ref 125), (1, .int 46)] [] _ 0 0 _
        refine x_aloadn (x := 125) rfl rfl ?_
        refine z_getM (N := 92) (v := u9) 12 11 rfl f_12_235 rfl J rfl qu9 ?_
        refine x_iconst (v := 3) rfl ki_3 ?_
        refine x_icne (tgt := 22) rfl rfl (ti_ne rfl jk_3 ⟨fun c14 => ?_, fun c14 => ?_⟩)
        ·
          refine x_iconst (v := 0) rfl ki_0 ?_
          refine x_zret rfl rfl (by decide) ?_
          show jX m_X12_line 6 0 0 161 [(9, .int 0), (0, .ref 125), (1, .int l1), (2, .int l2), (3, .int l3), (4, .int l4), (5, .int l5), (7, .int l7), (8, .int l8)] [.int 0] _ 0 0 _
          refine x_ifne (tgt := 168) rfl rfl (ti_ne jk_0 jk_0 (bn_f (by omega) ?_))
          refine x_iconst (v := 1) rfl ki_1 ?_
          refine x_goto (tgt := 169) rfl rfl ?_
          exact jX.sub (jsb_c rfl (jsb_c rfl (jsb_c rfl (jsb_c rfl (jsb_c rfl (jsb_c rfl (jsb_c rfl (jsb_c rfl (jsb_c rfl jsb_n))))))))) (ct_X12_line_r125p_300169 hD hQ  l1 l2 l3 l4 l5 l7 l8 g0 g1 g2 g3 g4 u6 u9 0 u7 u8 h (jr_of rfl (by omega)) (jr_of rfl (by omega)) (jr_of rfl (by omega)) (jr_of rfl (by omega)) (jr_of rfl (by omega)) (jr_of rfl (by omega)) (jr_of rfl (by omega)) (jr_mod rfl (by omega)) (jr_of rfl (by omega)) (jr_of rfl (by omega)) (jr_of rfl (by omega)) (jr_of rfl (by omega)) (jr_of rfl (by omega)) (jr_of rfl (by omega)) (jr_of rfl (by omega)) (jr_of jk_0 (by omega)) (jr_of rfl (by omega)) (jr_of rfl (by omega)) (by omega) (by omega) (by omega) (jmc S5 rfl (jmo w4 rfl (jmo w3 rfl (jmo w2 rfl z0)))) (jmc S5 rfl (jmo w4 rfl (jmo w3 rfl (jmo w2 rfl z1)))) (jmc S5 rfl (jmo w4 rfl (jmo w3 rfl (jmo w2 rfl z2)))) (jmc S5 rfl (jmo w4 rfl (jmo w3 rfl (jmo w2 rfl z3)))) (jmc S5 rfl (jmo w4 rfl (jmo w3 rfl (jmo w2 rfl z4)))) qu6 qu9 (jmc S5 rfl (jmo w4 rfl (jmw w3))) qu7 qu8 J Sm)
        ·
          refine x_aloadn (x := 125) rfl rfl ?_
          refine z_getL0 (N := 92) 12 12 rfl f_12_224 rfl J rfl (fun v15 => ?_)
          have ev15 := jfullL v15
          refine x_iloadn (x := 46) rfl rfl ?_
          refine z_i2l rfl jk_46 (fun v16 ev16 => ?_)
          refine z_lcmp rfl rfl rfl (fun v17 ev17 => ?_)
          refine x_ifne (tgt := 22) rfl rfl (ti_ne rfl jk_0 ⟨fun c18 => ?_, fun c18 => ?_⟩)
          ·
            refine x_iconst (v := 0) rfl ki_0 ?_
            refine x_zret rfl rfl (by decide) ?_
            show jX m_X12_line 6 0 0 161 [(9, .int 0), (0, .ref 125), (1, .int l1), (2, .int l2), (3, .int l3), (4, .int l4), (5, .int l5), (7, .int l7), (8, .int l8)] [.int 0] _ 0 0 _
            refine x_ifne (tgt := 168) rfl rfl (ti_ne jk_0 jk_0 (bn_f (by omega) ?_))
            refine x_iconst (v := 1) rfl ki_1 ?_
            refine x_goto (tgt := 169) rfl rfl ?_
            exact jX.sub (jsb_c rfl (jsb_c rfl (jsb_c rfl (jsb_c rfl (jsb_c rfl (jsb_c rfl (jsb_c rfl (jsb_c rfl (jsb_c rfl jsb_n))))))))) (ct_X12_line_r125p_300169 hD hQ  l1 l2 l3 l4 l5 l7 l8 g0 g1 g2 g3 g4 u6 u9 0 u7 u8 h (jr_of rfl (by omega)) (jr_of rfl (by omega)) (jr_of rfl (by omega)) (jr_of rfl (by omega)) (jr_of rfl (by omega)) (jr_of rfl (by omega)) (jr_of rfl (by omega)) (jr_mod rfl (by omega)) (jr_of rfl (by omega)) (jr_of rfl (by omega)) (jr_of rfl (by omega)) (jr_of rfl (by omega)) (jr_of rfl (by omega)) (jr_of rfl (by omega)) (jr_of rfl (by omega)) (jr_of jk_0 (by omega)) (jr_of rfl (by omega)) (jr_of rfl (by omega)) (by omega) (by omega) (by omega) (jmc S5 rfl (jmo w4 rfl (jmo w3 rfl (jmo w2 rfl z0)))) (jmc S5 rfl (jmo w4 rfl (jmo w3 rfl (jmo w2 rfl z1)))) (jmc S5 rfl (jmo w4 rfl (jmo w3 rfl (jmo w2 rfl z2)))) (jmc S5 rfl (jmo w4 rfl (jmo w3 rfl (jmo w2 rfl z3)))) (jmc S5 rfl (jmo w4 rfl (jmo w3 rfl (jmo w2 rfl z4)))) qu6 qu9 (jmc S5 rfl (jmo w4 rfl (jmw w3))) qu7 qu8 J Sm)
          ·
            refine x_iconst (v := 1) rfl ki_1 ?_
            refine x_goto (tgt := 23) rfl rfl ?_
            refine x_zret rfl rfl (by decide) ?_
            show jX m_X12_line 6 0 0 161 [(9, .int 0), (0, .ref 125), (1, .int l1), (2, .int l2), (3, .int l3), (4, .int l4), (5, .int l5), (7, .int l7), (8, .int l8)] [.int 1] _ 0 0 _
            refine x_ifne (tgt := 168) rfl rfl (ti_ne jk_1 jk_0 (bn_t (by omega) ?_))
            exact jX.sub (jsb_c rfl (jsb_c rfl (jsb_c rfl (jsb_c rfl (jsb_c rfl (jsb_c rfl (jsb_c rfl (jsb_c rfl (jsb_c rfl jsb_n))))))))) (ct_X12_line_r125p_168 hD hQ  l1 l2 l3 l4 l5 l7 l8 g0 g1 g2 g3 g4 u6 u9 0 u7 u8 h (jr_of rfl (by omega)) (jr_of rfl (by omega)) (jr_of rfl (by omega)) (jr_of rfl (by omega)) (jr_of rfl (by omega)) (jr_of rfl (by omega)) (jr_of rfl (by omega)) (jr_mod rfl (by omega)) (jr_of rfl (by omega)) (jr_of rfl (by omega)) (jr_of rfl (by omega)) (jr_of rfl (by omega)) (jr_of rfl (by omega)) (jr_of rfl (by omega)) (jr_of rfl (by omega)) (jr_of jk_0 (by omega)) (jr_of rfl (by omega)) (jr_of rfl (by omega)) (by omega) (by omega) (by omega) (jmc S5 rfl (jmo w4 rfl (jmo w3 rfl (jmo w2 rfl z0)))) (jmc S5 rfl (jmo w4 rfl (jmo w3 rfl (jmo w2 rfl z1)))) (jmc S5 rfl (jmo w4 rfl (jmo w3 rfl (jmo w2 rfl z2)))) (jmc S5 rfl (jmo w4 rfl (jmo w3 rfl (jmo w2 rfl z3)))) (jmc S5 rfl (jmo w4 rfl (jmo w3 rfl (jmo w2 rfl z4)))) qu6 qu9 (jmc S5 rfl (jmo w4 rfl (jmw w3))) qu7 qu8 J Sm)
    ·
      refine x_aloadn (x := 125) rfl rfl ?_
      refine z_getR (N := 92) (b := 126) 12 2 rfl f_12_8 rfl J rfl 16002 ⟨rfl, rfl⟩ rfl ?_
      refine x_iload (x := l8) rfl rfl ?_
      refine x_iload (x := l9) rfl rfl ?_
      refine z_iadd rfl rfl rfl (by omega) (fun v19 ev19 => ?_)
      refine x_iconst (v := 0) rfl ki_0 ?_
      refine z_iast (N := 50660) (l := 20) (u := 18020) (w := 0) rfl hD J Sm rfl rfl rfl (by omega) jk_0 (wr_126_20 (by omega) (fun q1 q2 q3 q4 => by omega) (fun q1 q2 q3 q4 => by omega) (fun q1 q2 q3 q4 => by omega) (fun q1 q2 q3 q4 => by omega) (fun q1 q2 q3 q4 => by omega) (fun q1 q2 q3 q4 => by omega) (fun q1 q2 q3 q4 => by omega) (fun q1 q2 q3 q4 => by omega) (fun q1 q2 q3 q4 => by omega) (fun q1 q2 q3 q4 => by omega) (fun q1 q2 q3 q4 => by omega) (fun q1 q2 q3 q4 => by omega) (fun q1 q2 q3 q4 => by omega) (fun q1 q2 q3 q4 => by omega) (fun q1 q2 q3 q4 => by omega) (fun q1 q2 q3 q4 => by omega) (fun q1 q2 q3 q4 => by omega) (fun q1 q2 q3 q4 => by omega) (fun q1 q2 q3 q4 => by omega) (fun q1 q2 q3 q4 => by omega) (fun q1 q2 q3 q4 => by omega) (fun q1 q2 q3 q4 => by omega) (fun q1 q2 q3 q4 => by omega)) rfl (fun h w20 J Sm => ?_)
      refine z_iinc (x := l9) (lsx9 := fun v21 => [(9, .int v21), (0, .ref 125), (1, .int l1), (2, .int l2), (3, .int l3), (4, .int l4), (5, .int l5), (7, .int l7), (8, .int l8)]) rfl rfl rfl jko_1 (by omega) rfl (fun _ => rfl) (fun v21 ev21 => ?_)
      refine x_goto (tgt := 117) rfl rfl ?_
      exact jX.sub (jsb_c rfl (jsb_c rfl (jsb_c rfl (jsb_c rfl (jsb_c rfl (jsb_c rfl (jsb_c rfl (jsb_c rfl (jsb_c rfl jsb_n))))))))) (ih l1 l2 l3 l4 l5 l7 l8 v21 g0 g1 g2 g3 g4 g5 g6 g7 g8 h (by omega) (jr_of rfl (by omega)) (jr_of rfl (by omega)) (jr_of rfl (by omega)) (jr_of rfl (by omega)) (jr_of rfl (by omega)) (jr_of rfl (by omega)) (jr_of rfl (by omega)) (jr_mod rfl (by omega)) (jr_of rfl (by omega)) (jr_of rfl (by omega)) (jr_of rfl (by omega)) (jr_of rfl (by omega)) (jr_of rfl (by omega)) (jr_of rfl (by omega)) (jr_of rfl (by omega)) (jr_of rfl (by omega)) (jr_of rfl (by omega)) (jr_of rfl (by omega)) (by omega) (jmo2 w20 rfl jk_0 (by omega) z0) (jmo2 w20 rfl jk_16 (by omega) z1) (jmo2 w20 rfl jk_4 (by omega) z2) (jmo2 w20 rfl jk_5 (by omega) z3) (jmo2 w20 rfl jk_7 (by omega) z4) (jmo w20 rfl z5) (jmo w20 rfl z6) (jmo w20 rfl z7) (jmo w20 rfl z8) J Sm)
set_option maxRecDepth 100000 in
set_option maxHeartbeats 4000000 in
theorem ct_X12_line_r125p_300058 {Dy : jH → Prop} {h0 : jH} {Q : Option Value → jH → Prop} (hD : jDk Dy) (hQ : ∀ (v : Int32) hx9, jJ jSgM Dy hx9 → jSm fp_X12_line_r125p h0 hx9 → ∀ u0 u1 u2 u3 u4 : Int32, jiv hx9 126 (16 : Int32).toNatClampNeg = u0 → jiv hx9 126 (0 : Int32).toNatClampNeg = u1 → jiv hx9 126 (4 : Int32).toNatClampNeg = u2 → jiv hx9 126 (5 : Int32).toNatClampNeg = u3 → jiv hx9 126 (7 : Int32).toNatClampNeg = u4 → u0.toInt = u1.toInt + u2.toInt + u3.toInt + u4.toInt → (jiv hx9 125 8).toInt = 0 → Q (some (.int v)) hx9) : ∀ (l1 : Int32) (l2 : Int32) (l3 : Int32) (l4 : Int32) (l5 : Int32) (g0 : Int32) (g1 : Int32) (g2 : Int32) (g3 : Int32) (g4 : Int32) (g5 : Int32) (g6 : Int32) (g7 : Int32) (g8 : Int32) (h : jH), 0 ≤ l1.toInt ∧ l1.toInt ≤ 5 → 0 ≤ l2.toInt ∧ l2.toInt ≤ 15 → 0 ≤ l3.toInt ∧ l3.toInt ≤ 146399 → 0 ≤ l4.toInt ∧ l4.toInt ≤ 146399 → (-1) ≤ l5.toInt ∧ l5.toInt ≤ 100000 → 0 ≤ g0.toInt ∧ g0.toInt ≤ 200 → 0 ≤ g1.toInt ∧ g1.toInt ≤ 370 → 0 ≤ g2.toInt ∧ g2.toInt ≤ 30 → 0 ≤ g3.toInt ∧ g3.toInt ≤ 100 → 0 ≤ g4.toInt ∧ g4.toInt ≤ 40 → 0 ≤ g5.toInt ∧ g5.toInt ≤ 400 → 0 ≤ g6.toInt ∧ g6.toInt ≤ 3 → 0 ≤ g7.toInt ∧ g7.toInt ≤ 400 → 0 ≤ g8.toInt ∧ g8.toInt ≤ 400 → g1.toInt = g0.toInt + g2.toInt + g3.toInt + g4.toInt → jiv h 126 (0 : Int32).toNatClampNeg = g0 → jiv h 126 (16 : Int32).toNatClampNeg = g1 → jiv h 126 (4 : Int32).toNatClampNeg = g2 → jiv h 126 (5 : Int32).toNatClampNeg = g3 → jiv h 126 (7 : Int32).toNatClampNeg = g4 → jiv h 125 10 = g5 → jiv h 125 11 = g6 → jiv h 125 8 = g7 → jiv h 125 9 = g8 → jJ jSgM Dy h → jSm fp_X12_line_r125p h0 h → jX m_X12_line 6 0 0 58 [(0, .ref 125), (1, .int l1), (2, .int l2), (3, .int l3), (4, .int l4), (5, .int l5)] [.int 1] h 0 0 Q := by
  intro l1 l2 l3 l4 l5 g0 g1 g2 g3 g4 g5 g6 g7 g8 h y0 y1 y2 y3 y4 y5 y6 y7 y8 y9 y10 y11 y12 y13 y14 z0 z1 z2 z3 z4 z5 z6 z7 z8  J Sm
  refine x_istore (lsx9 := [(6, .int 1), (0, .ref 125), (1, .int l1), (2, .int l2), (3, .int l3), (4, .int l4), (5, .int l5)]) rfl rfl rfl ?_
  refine x_iload (x := 1) rfl rfl ?_
  refine x_ifeq (tgt := 77) rfl rfl (ti_eq jk_1 jk_0 (br_f (by omega) ?_))
  refine x_aloadn (x := 125) rfl rfl ?_
  refine z_getR (N := 92) (b := 126) 12 2 rfl f_12_8 rfl J rfl 16002 ⟨rfl, rfl⟩ rfl ?_
  refine x_iconst (v := 0) rfl ki_0 ?_
  refine z_ialdM (N := 50660) (v := g0) rfl J rfl jk_0 (by omega) z0 ?_
  refine x_sipush (v := 200) rfl ks_200 ?_
  refine x_icne (tgt := 98) rfl rfl (ti_ne rfl jk_200 ⟨fun c1 => ?_, fun c1 => ?_⟩)
  ·
    refine x_aloadn (x := 125) rfl rfl ?_
    refine z_getR (N := 92) (b := 126) 12 2 rfl f_12_8 rfl J rfl 16002 ⟨rfl, rfl⟩ rfl ?_
    refine x_iconst (v := 0) rfl ki_0 ?_
    refine z_ialdM (N := 50660) (v := g0) rfl J rfl jk_0 (by omega) z0 ?_
    refine x_istore (lsx9 := [(7, .int g0), (6, .int 1), (0, .ref 125), (1, .int l1), (2, .int l2), (3, .int l3), (4, .int l4), (5, .int l5)]) rfl rfl rfl ?_
    refine x_aloadn (x := 125) rfl rfl ?_
    refine x_iload (x := g0) rfl rfl ?_
    refine x_inv (N := m_X12_at) (As := [.int g0]) (b := 125) (st := []) (dx9 := 5) (mc := 0) (ms := 0) (host := "") 12 rfl t_X12_at ⟨Or.inl q_12_254, i_X12_at.1, i_X12_at.2⟩ ⟨by decide, rfl⟩ (congrArg Prod.fst (J.1.1 125 (12, 92) rfl)) rfl (by decide) rfl rfl ⟨by decide, by decide⟩ (jC.of rfl k_X12_at rfl ?_)
    show jX m_X12_at 5 0 0 0 [(0, .ref 125), (1, .int g0)] [] _ 0 0 _
    refine x_bipush (v := 20) rfl kb_20 ?_
    refine x_bipush (v := 90) rfl kb_90 ?_
    refine x_iloadn (x := g0) rfl rfl ?_
    refine z_imul rfl jk_90 rfl (by omega) (fun v2 ev2 => ?_)
    refine z_iadd rfl jk_20 rfl (by omega) (fun v3 ev3 => ?_)
    refine x_iret rfl rfl ?_
    show jX m_X12_line 6 0 0 112 [(7, .int g0), (6, .int 1), (0, .ref 125), (1, .int l1), (2, .int l2), (3, .int l3), (4, .int l4), (5, .int l5)] [.int v3] _ 0 0 _
    refine x_istore (lsx9 := [(8, .int v3), (7, .int g0), (6, .int 1), (0, .ref 125), (1, .int l1), (2, .int l2), (3, .int l3), (4, .int l4), (5, .int l5)]) rfl rfl rfl ?_
    refine x_iconst (v := 0) rfl ki_0 ?_
    refine x_istore (lsx9 := [(9, .int 0), (8, .int v3), (7, .int g0), (6, .int 1), (0, .ref 125), (1, .int l1), (2, .int l2), (3, .int l3), (4, .int l4), (5, .int l5)]) rfl rfl rfl ?_
    exact jX.sub (jsb_c rfl (jsb_c rfl (jsb_c rfl (jsb_c rfl (jsb_c rfl (jsb_c rfl (jsb_c rfl (jsb_c rfl (jsb_c rfl jsb_n))))))))) (ct_X12_line_r125p_117 hD hQ  91 l1 l2 l3 l4 l5 g0 v3 0 g0 g1 g2 g3 g4 g5 g6 g7 g8 h (by have := jk_0; omega) (jr_of rfl (by omega)) (jr_of rfl (by omega)) (jr_of rfl (by omega)) (jr_of rfl (by omega)) (jr_of rfl (by omega)) (jr_of rfl (by omega)) (jr_of rfl (by omega)) (jr_mod rfl (by omega)) (jr_of jk_0 (by omega)) (jr_of rfl (by omega)) (jr_of rfl (by omega)) (jr_of rfl (by omega)) (jr_of rfl (by omega)) (jr_of rfl (by omega)) (jr_of rfl (by omega)) (jr_of rfl (by omega)) (jr_of rfl (by omega)) (jr_of rfl (by omega)) (by omega) z0 z1 z2 z3 z4 z5 z6 z7 z8 J Sm)
  ·
    exact jX.sub (jsb_c rfl (jsb_c rfl jsb_n)) (ct_X12_line_r125p_77 hD hQ  1 g0 g1 g2 g3 g4 g5 g6 g7 g8 h (jr_of jk_1 (by omega)) (jr_of rfl (by omega)) (jr_of rfl (by omega)) (jr_of rfl (by omega)) (jr_of rfl (by omega)) (jr_of rfl (by omega)) (jr_of rfl (by omega)) (jr_of rfl (by omega)) (jr_of rfl (by omega)) (jr_of rfl (by omega)) (by omega) z0 z1 z2 z3 z4 z5 z6 z7 z8 J Sm)
set_option maxRecDepth 100000 in
set_option maxHeartbeats 4000000 in
theorem ct_X12_line_r125p_200058 {Dy : jH → Prop} {h0 : jH} {Q : Option Value → jH → Prop} (hD : jDk Dy) (hQ : ∀ (v : Int32) hx9, jJ jSgM Dy hx9 → jSm fp_X12_line_r125p h0 hx9 → ∀ u0 u1 u2 u3 u4 : Int32, jiv hx9 126 (16 : Int32).toNatClampNeg = u0 → jiv hx9 126 (0 : Int32).toNatClampNeg = u1 → jiv hx9 126 (4 : Int32).toNatClampNeg = u2 → jiv hx9 126 (5 : Int32).toNatClampNeg = u3 → jiv hx9 126 (7 : Int32).toNatClampNeg = u4 → u0.toInt = u1.toInt + u2.toInt + u3.toInt + u4.toInt → (jiv hx9 125 8).toInt = 0 → Q (some (.int v)) hx9) : ∀ (l1 : Int32) (l2 : Int32) (l3 : Int32) (l4 : Int32) (l5 : Int32) (g0 : Int32) (g1 : Int32) (g2 : Int32) (g3 : Int32) (g4 : Int32) (g5 : Int32) (g6 : Int32) (g7 : Int32) (g8 : Int32) (h : jH), 0 ≤ g0.toInt ∧ g0.toInt ≤ 200 → 0 ≤ g1.toInt ∧ g1.toInt ≤ 370 → 0 ≤ g2.toInt ∧ g2.toInt ≤ 30 → 0 ≤ g3.toInt ∧ g3.toInt ≤ 100 → 0 ≤ g4.toInt ∧ g4.toInt ≤ 40 → 0 ≤ g5.toInt ∧ g5.toInt ≤ 400 → 0 ≤ g6.toInt ∧ g6.toInt ≤ 3 → 0 ≤ g7.toInt ∧ g7.toInt ≤ 400 → 0 ≤ g8.toInt ∧ g8.toInt ≤ 400 → g1.toInt = g0.toInt + g2.toInt + g3.toInt + g4.toInt → jiv h 126 (0 : Int32).toNatClampNeg = g0 → jiv h 126 (16 : Int32).toNatClampNeg = g1 → jiv h 126 (4 : Int32).toNatClampNeg = g2 → jiv h 126 (5 : Int32).toNatClampNeg = g3 → jiv h 126 (7 : Int32).toNatClampNeg = g4 → jiv h 125 10 = g5 → jiv h 125 11 = g6 → jiv h 125 8 = g7 → jiv h 125 9 = g8 → jJ jSgM Dy h → jSm fp_X12_line_r125p h0 h → jX m_X12_line 6 0 0 58 [(0, .ref 125), (1, .int l1), (2, .int l2), (3, .int l3), (4, .int l4), (5, .int l5)] [.int 0] h 0 0 Q := by
  intro l1 l2 l3 l4 l5 g0 g1 g2 g3 g4 g5 g6 g7 g8 h y0 y1 y2 y3 y4 y5 y6 y7 y8 y9 z0 z1 z2 z3 z4 z5 z6 z7 z8  J Sm
  have el1 := jfull l1
  have el2 := jfull l2
  have el3 := jfull l3
  have el4 := jfull l4
  have el5 := jfull l5
  refine x_istore (lsx9 := [(6, .int 0), (0, .ref 125), (1, .int l1), (2, .int l2), (3, .int l3), (4, .int l4), (5, .int l5)]) rfl rfl rfl ?_
  refine x_iload (x := 0) rfl rfl ?_
  refine x_ifeq (tgt := 77) rfl rfl (ti_eq jk_0 jk_0 (br_t (by omega) ?_))
  exact jX.sub (jsb_c rfl (jsb_c rfl jsb_n)) (ct_X12_line_r125p_77 hD hQ  0 g0 g1 g2 g3 g4 g5 g6 g7 g8 h (jr_of jk_0 (by omega)) (jr_of rfl (by omega)) (jr_of rfl (by omega)) (jr_of rfl (by omega)) (jr_of rfl (by omega)) (jr_of rfl (by omega)) (jr_of rfl (by omega)) (jr_of rfl (by omega)) (jr_of rfl (by omega)) (jr_of rfl (by omega)) (by omega) z0 z1 z2 z3 z4 z5 z6 z7 z8 J Sm)
set_option maxRecDepth 100000 in
set_option maxHeartbeats 4000000 in
theorem ct_X12_line_r125p_57 {Dy : jH → Prop} {h0 : jH} {Q : Option Value → jH → Prop} (hD : jDk Dy) (hQ : ∀ (v : Int32) hx9, jJ jSgM Dy hx9 → jSm fp_X12_line_r125p h0 hx9 → ∀ u0 u1 u2 u3 u4 : Int32, jiv hx9 126 (16 : Int32).toNatClampNeg = u0 → jiv hx9 126 (0 : Int32).toNatClampNeg = u1 → jiv hx9 126 (4 : Int32).toNatClampNeg = u2 → jiv hx9 126 (5 : Int32).toNatClampNeg = u3 → jiv hx9 126 (7 : Int32).toNatClampNeg = u4 → u0.toInt = u1.toInt + u2.toInt + u3.toInt + u4.toInt → (jiv hx9 125 8).toInt = 0 → Q (some (.int v)) hx9) : ∀ (l1 : Int32) (l2 : Int32) (l3 : Int32) (l4 : Int32) (l5 : Int32) (g0 : Int32) (g1 : Int32) (g2 : Int32) (g3 : Int32) (g4 : Int32) (g5 : Int32) (g6 : Int32) (g7 : Int32) (g8 : Int32) (h : jH), 0 ≤ g0.toInt ∧ g0.toInt ≤ 200 → 0 ≤ g1.toInt ∧ g1.toInt ≤ 370 → 0 ≤ g2.toInt ∧ g2.toInt ≤ 30 → 0 ≤ g3.toInt ∧ g3.toInt ≤ 100 → 0 ≤ g4.toInt ∧ g4.toInt ≤ 40 → 0 ≤ g5.toInt ∧ g5.toInt ≤ 400 → 0 ≤ g6.toInt ∧ g6.toInt ≤ 3 → 0 ≤ g7.toInt ∧ g7.toInt ≤ 400 → 0 ≤ g8.toInt ∧ g8.toInt ≤ 400 → g1.toInt = g0.toInt + g2.toInt + g3.toInt + g4.toInt → jiv h 126 (0 : Int32).toNatClampNeg = g0 → jiv h 126 (16 : Int32).toNatClampNeg = g1 → jiv h 126 (4 : Int32).toNatClampNeg = g2 → jiv h 126 (5 : Int32).toNatClampNeg = g3 → jiv h 126 (7 : Int32).toNatClampNeg = g4 → jiv h 125 10 = g5 → jiv h 125 11 = g6 → jiv h 125 8 = g7 → jiv h 125 9 = g8 → jJ jSgM Dy h → jSm fp_X12_line_r125p h0 h → jX m_X12_line 6 0 0 57 [(0, .ref 125), (1, .int l1), (2, .int l2), (3, .int l3), (4, .int l4), (5, .int l5)] [] h 0 0 Q := by
  intro l1 l2 l3 l4 l5 g0 g1 g2 g3 g4 g5 g6 g7 g8 h y0 y1 y2 y3 y4 y5 y6 y7 y8 y9 z0 z1 z2 z3 z4 z5 z6 z7 z8  J Sm
  have el1 := jfull l1
  have el2 := jfull l2
  have el3 := jfull l3
  have el4 := jfull l4
  have el5 := jfull l5
  refine x_iconst (v := 0) rfl ki_0 ?_
  exact jX.sub (jsb_c rfl (jsb_c rfl (jsb_c rfl (jsb_c rfl (jsb_c rfl (jsb_c rfl jsb_n)))))) (ct_X12_line_r125p_200058 hD hQ  l1 l2 l3 l4 l5 g0 g1 g2 g3 g4 g5 g6 g7 g8 h (jr_of rfl (by omega)) (jr_of rfl (by omega)) (jr_of rfl (by omega)) (jr_of rfl (by omega)) (jr_of rfl (by omega)) (jr_of rfl (by omega)) (jr_of rfl (by omega)) (jr_of rfl (by omega)) (jr_of rfl (by omega)) (by omega) z0 z1 z2 z3 z4 z5 z6 z7 z8 J Sm)
set_option maxRecDepth 100000 in
set_option maxHeartbeats 4000000 in
theorem sf_X12_line_r125p {Dy : jH → Prop} {h : jH} {Q : Option Value → jH → Prop} {a1 : Int32} {a2 : Int32} {a3 : Int32} {a4 : Int32} {a5 : Int32} (hD : jDk Dy) (J : jJ jSgM Dy h) {p0 p1 p2 p3 p4 : Int32} (zp0 : jiv h 126 (16 : Int32).toNatClampNeg = p0) (zp1 : jiv h 126 (0 : Int32).toNatClampNeg = p1) (zp2 : jiv h 126 (4 : Int32).toNatClampNeg = p2) (zp3 : jiv h 126 (5 : Int32).toNatClampNeg = p3) (zp4 : jiv h 126 (7 : Int32).toNatClampNeg = p4) (rl_p0 : p0.toInt = p1.toInt + p2.toInt + p3.toInt + p4.toInt) (hQ : ∀ (v : Int32) hx9, jJ jSgM Dy hx9 → jSm fp_X12_line_r125p h hx9 → ∀ u0 u1 u2 u3 u4 : Int32, jiv hx9 126 (16 : Int32).toNatClampNeg = u0 → jiv hx9 126 (0 : Int32).toNatClampNeg = u1 → jiv hx9 126 (4 : Int32).toNatClampNeg = u2 → jiv hx9 126 (5 : Int32).toNatClampNeg = u3 → jiv hx9 126 (7 : Int32).toNatClampNeg = u4 → u0.toInt = u1.toInt + u2.toInt + u3.toInt + u4.toInt → (jiv hx9 125 8).toInt = 0 → Q (some (.int v)) hx9) : jC m_X12_line 6 0 0 [.ref 125, .int a1, .int a2, .int a3, .int a4, .int a5] h Q := by
  refine jC.of rfl k_X12_line rfl ?_
  have Sm := jSm_rf fp_X12_line_r125p h
  have ep0 := (show 0 ≤ p0.toInt ∧ p0.toInt ≤ 370 from zp0 ▸ jrg_c J sg_126_16_17_1_0_1 jk_16 (by omega))
  have ep1 := (show 0 ≤ p1.toInt ∧ p1.toInt ≤ 200 from zp1 ▸ jrg_c J sg_126_0_1_1_0_1 jk_0 (by omega))
  have ep2 := (show 0 ≤ p2.toInt ∧ p2.toInt ≤ 30 from zp2 ▸ jrg_c J sg_126_4_5_1_0_1 jk_4 (by omega))
  have ep3 := (show 0 ≤ p3.toInt ∧ p3.toInt ≤ 100 from zp3 ▸ jrg_c J sg_126_5_6_1_0_1 jk_5 (by omega))
  have ep4 := (show 0 ≤ p4.toInt ∧ p4.toInt ≤ 40 from zp4 ▸ jrg_c J sg_126_7_8_1_0_1 jk_7 (by omega))
  have ea1 := jfull a1
  have ea2 := jfull a2
  have ea3 := jfull a3
  have ea4 := jfull a4
  have ea5 := jfull a5
  show jX m_X12_line 6 0 0 0 [(0, .ref 125), (1, .int a1), (2, .int a2), (3, .int a3), (4, .int a4), (5, .int a5)] [] _ 0 0 _
  refine x_aloadn (x := 125) rfl rfl ?_
  refine x_iconst (v := 0) rfl ki_0 ?_
  refine z_putI (N := 92) (w := 0) 12 0 rfl f_12_180 rfl (jfin_no TX12 RX12 92 rfl rfl) hD J Sm rfl rfl jk_0 (pw_125_0 (by omega)) rfl (fun h w1 J Sm => ?_)
  refine x_iloadn (x := a1) rfl rfl ?_
  refine z_i2l rfl rfl (fun v2 ev2 => ?_)
  refine x_lconst (v := 0) rfl kl_0 ?_
  refine x_ldc2 (v := 5) rfl z_12_269 ?_
  refine x_inst (N := m_X12_in) (As := [.long v2, .long 0, .long 5]) (st := []) (dx9 := 1) (mc := 0) (ms := 0) (host := "") rfl t_X12_in ⟨Or.inl q_12_188, s_X12_in⟩ rfl (by decide) rfl rfl ⟨by decide, by decide⟩ (zc_X12_in rfl jkl_0 jkl_5 (fun v3 ev3 => ?_))
  show jX m_X12_line 6 0 0 14 [(0, .ref 125), (1, .int a1), (2, .int a2), (3, .int a3), (4, .int a4), (5, .int a5)] [.int v3] _ 0 0 _
  refine x_ifeq (tgt := 57) rfl rfl (ti_eq rfl jk_0 ⟨fun c4 => ?_, fun c4 => ?_⟩)
  ·
    obtain ⟨u5, qu5⟩ : ∃ v : Int32, jiv h 125 10 = v := ⟨_, rfl⟩
    have eu5 := (show 0 ≤ u5.toInt ∧ u5.toInt ≤ 400 from qu5 ▸ jrg_f J sg_125_10_11_1_0_1)
    obtain ⟨u6, qu6⟩ : ∃ v : Int32, jiv h 125 11 = v := ⟨_, rfl⟩
    have eu6 := (show 0 ≤ u6.toInt ∧ u6.toInt ≤ 3 from qu6 ▸ jrg_f J sg_125_11_12_1_0_1)
    obtain ⟨u7, qu7⟩ : ∃ v : Int32, jiv h 125 8 = v := ⟨_, rfl⟩
    have eu7 := (show 0 ≤ u7.toInt ∧ u7.toInt ≤ 400 from qu7 ▸ jrg_f J sg_125_8_9_1_0_1)
    obtain ⟨u8, qu8⟩ : ∃ v : Int32, jiv h 125 9 = v := ⟨_, rfl⟩
    have eu8 := (show 0 ≤ u8.toInt ∧ u8.toInt ≤ 400 from qu8 ▸ jrg_f J sg_125_9_10_1_0_1)
    exact jX.sub (jsb_c rfl (jsb_c rfl (jsb_c rfl (jsb_c rfl (jsb_c rfl (jsb_c rfl jsb_n)))))) (ct_X12_line_r125p_57 hD hQ  a1 a2 a3 a4 a5 p1 p0 p2 p3 p4 u5 u6 u7 u8 h (jr_of rfl (by omega)) (jr_of rfl (by omega)) (jr_of rfl (by omega)) (jr_of rfl (by omega)) (jr_of rfl (by omega)) (jr_of rfl (by omega)) (jr_of rfl (by omega)) (jr_of rfl (by omega)) (jr_of rfl (by omega)) (by omega) (jmo w1 rfl zp1) (jmo w1 rfl zp0) (jmo w1 rfl zp2) (jmo w1 rfl zp3) (jmo w1 rfl zp4) qu5 qu6 qu7 qu8 J Sm)
  ·
    refine x_iloadn (x := a2) rfl rfl ?_
    refine z_i2l rfl rfl (fun v9 ev9 => ?_)
    refine x_lconst (v := 0) rfl kl_0 ?_
    refine x_ldc2 (v := 15) rfl z_12_271 ?_
    refine x_inst (N := m_X12_in) (As := [.long v9, .long 0, .long 15]) (st := []) (dx9 := 1) (mc := 0) (ms := 0) (host := "") rfl t_X12_in ⟨Or.inl q_12_188, s_X12_in⟩ rfl (by decide) rfl rfl ⟨by decide, by decide⟩ (zc_X12_in rfl jkl_0 jkl_15 (fun v10 ev10 => ?_))
    show jX m_X12_line 6 0 0 26 [(0, .ref 125), (1, .int a1), (2, .int a2), (3, .int a3), (4, .int a4), (5, .int a5)] [.int v10] _ 0 0 _
    refine x_ifeq (tgt := 57) rfl rfl (ti_eq rfl jk_0 ⟨fun c11 => ?_, fun c11 => ?_⟩)
    ·
      obtain ⟨u12, qu12⟩ : ∃ v : Int32, jiv h 125 10 = v := ⟨_, rfl⟩
      have eu12 := (show 0 ≤ u12.toInt ∧ u12.toInt ≤ 400 from qu12 ▸ jrg_f J sg_125_10_11_1_0_1)
      obtain ⟨u13, qu13⟩ : ∃ v : Int32, jiv h 125 11 = v := ⟨_, rfl⟩
      have eu13 := (show 0 ≤ u13.toInt ∧ u13.toInt ≤ 3 from qu13 ▸ jrg_f J sg_125_11_12_1_0_1)
      obtain ⟨u14, qu14⟩ : ∃ v : Int32, jiv h 125 8 = v := ⟨_, rfl⟩
      have eu14 := (show 0 ≤ u14.toInt ∧ u14.toInt ≤ 400 from qu14 ▸ jrg_f J sg_125_8_9_1_0_1)
      obtain ⟨u15, qu15⟩ : ∃ v : Int32, jiv h 125 9 = v := ⟨_, rfl⟩
      have eu15 := (show 0 ≤ u15.toInt ∧ u15.toInt ≤ 400 from qu15 ▸ jrg_f J sg_125_9_10_1_0_1)
      exact jX.sub (jsb_c rfl (jsb_c rfl (jsb_c rfl (jsb_c rfl (jsb_c rfl (jsb_c rfl jsb_n)))))) (ct_X12_line_r125p_57 hD hQ  a1 a2 a3 a4 a5 p1 p0 p2 p3 p4 u12 u13 u14 u15 h (jr_of rfl (by omega)) (jr_of rfl (by omega)) (jr_of rfl (by omega)) (jr_of rfl (by omega)) (jr_of rfl (by omega)) (jr_of rfl (by omega)) (jr_of rfl (by omega)) (jr_of rfl (by omega)) (jr_of rfl (by omega)) (by omega) (jmo w1 rfl zp1) (jmo w1 rfl zp0) (jmo w1 rfl zp2) (jmo w1 rfl zp3) (jmo w1 rfl zp4) qu12 qu13 qu14 qu15 J Sm)
    ·
      refine x_iloadn (x := a3) rfl rfl ?_
      refine x_inst (N := m_X12_isDay) (As := [.int a3]) (st := []) (dx9 := 2) (mc := 0) (ms := 0) (host := "") rfl t_X12_isDay ⟨Or.inl q_12_273, s_X12_isDay⟩ rfl (by decide) rfl rfl ⟨by decide, by decide⟩ (zc_X12_isDay (d := 1) rfl (fun v16 ev16 => ?_))
      show jX m_X12_line 6 0 0 33 [(0, .ref 125), (1, .int a1), (2, .int a2), (3, .int a3), (4, .int a4), (5, .int a5)] [.int v16] _ 0 0 _
      refine x_ifeq (tgt := 57) rfl rfl (ti_eq rfl jk_0 ⟨fun c17 => ?_, fun c17 => ?_⟩)
      ·
        obtain ⟨u18, qu18⟩ : ∃ v : Int32, jiv h 125 10 = v := ⟨_, rfl⟩
        have eu18 := (show 0 ≤ u18.toInt ∧ u18.toInt ≤ 400 from qu18 ▸ jrg_f J sg_125_10_11_1_0_1)
        obtain ⟨u19, qu19⟩ : ∃ v : Int32, jiv h 125 11 = v := ⟨_, rfl⟩
        have eu19 := (show 0 ≤ u19.toInt ∧ u19.toInt ≤ 3 from qu19 ▸ jrg_f J sg_125_11_12_1_0_1)
        obtain ⟨u20, qu20⟩ : ∃ v : Int32, jiv h 125 8 = v := ⟨_, rfl⟩
        have eu20 := (show 0 ≤ u20.toInt ∧ u20.toInt ≤ 400 from qu20 ▸ jrg_f J sg_125_8_9_1_0_1)
        obtain ⟨u21, qu21⟩ : ∃ v : Int32, jiv h 125 9 = v := ⟨_, rfl⟩
        have eu21 := (show 0 ≤ u21.toInt ∧ u21.toInt ≤ 400 from qu21 ▸ jrg_f J sg_125_9_10_1_0_1)
        exact jX.sub (jsb_c rfl (jsb_c rfl (jsb_c rfl (jsb_c rfl (jsb_c rfl (jsb_c rfl jsb_n)))))) (ct_X12_line_r125p_57 hD hQ  a1 a2 a3 a4 a5 p1 p0 p2 p3 p4 u18 u19 u20 u21 h (jr_of rfl (by omega)) (jr_of rfl (by omega)) (jr_of rfl (by omega)) (jr_of rfl (by omega)) (jr_of rfl (by omega)) (jr_of rfl (by omega)) (jr_of rfl (by omega)) (jr_of rfl (by omega)) (jr_of rfl (by omega)) (by omega) (jmo w1 rfl zp1) (jmo w1 rfl zp0) (jmo w1 rfl zp2) (jmo w1 rfl zp3) (jmo w1 rfl zp4) qu18 qu19 qu20 qu21 J Sm)
      ·
        refine x_iload (x := a4) rfl rfl ?_
        refine x_inst (N := m_X12_isDay) (As := [.int a4]) (st := []) (dx9 := 2) (mc := 0) (ms := 0) (host := "") rfl t_X12_isDay ⟨Or.inl q_12_273, s_X12_isDay⟩ rfl (by decide) rfl rfl ⟨by decide, by decide⟩ (zc_X12_isDay (d := 1) rfl (fun v22 ev22 => ?_))
        show jX m_X12_line 6 0 0 41 [(0, .ref 125), (1, .int a1), (2, .int a2), (3, .int a3), (4, .int a4), (5, .int a5)] [.int v22] _ 0 0 _
        refine x_ifeq (tgt := 57) rfl rfl (ti_eq rfl jk_0 ⟨fun c23 => ?_, fun c23 => ?_⟩)
        ·
          obtain ⟨u24, qu24⟩ : ∃ v : Int32, jiv h 125 10 = v := ⟨_, rfl⟩
          have eu24 := (show 0 ≤ u24.toInt ∧ u24.toInt ≤ 400 from qu24 ▸ jrg_f J sg_125_10_11_1_0_1)
          obtain ⟨u25, qu25⟩ : ∃ v : Int32, jiv h 125 11 = v := ⟨_, rfl⟩
          have eu25 := (show 0 ≤ u25.toInt ∧ u25.toInt ≤ 3 from qu25 ▸ jrg_f J sg_125_11_12_1_0_1)
          obtain ⟨u26, qu26⟩ : ∃ v : Int32, jiv h 125 8 = v := ⟨_, rfl⟩
          have eu26 := (show 0 ≤ u26.toInt ∧ u26.toInt ≤ 400 from qu26 ▸ jrg_f J sg_125_8_9_1_0_1)
          obtain ⟨u27, qu27⟩ : ∃ v : Int32, jiv h 125 9 = v := ⟨_, rfl⟩
          have eu27 := (show 0 ≤ u27.toInt ∧ u27.toInt ≤ 400 from qu27 ▸ jrg_f J sg_125_9_10_1_0_1)
          exact jX.sub (jsb_c rfl (jsb_c rfl (jsb_c rfl (jsb_c rfl (jsb_c rfl (jsb_c rfl jsb_n)))))) (ct_X12_line_r125p_57 hD hQ  a1 a2 a3 a4 a5 p1 p0 p2 p3 p4 u24 u25 u26 u27 h (jr_of rfl (by omega)) (jr_of rfl (by omega)) (jr_of rfl (by omega)) (jr_of rfl (by omega)) (jr_of rfl (by omega)) (jr_of rfl (by omega)) (jr_of rfl (by omega)) (jr_of rfl (by omega)) (jr_of rfl (by omega)) (by omega) (jmo w1 rfl zp1) (jmo w1 rfl zp0) (jmo w1 rfl zp2) (jmo w1 rfl zp3) (jmo w1 rfl zp4) qu24 qu25 qu26 qu27 J Sm)
        ·
          refine x_iloadn (x := a1) rfl rfl ?_
          refine x_iload (x := a5) rfl rfl ?_
          refine x_inst (N := m_X12_isNumber) (As := [.int a1, .int a5]) (st := []) (dx9 := 5) (mc := 0) (ms := 0) (host := "") rfl t_X12_isNumber ⟨Or.inl q_12_276, s_X12_isNumber⟩ rfl (by decide) rfl rfl ⟨by decide, by decide⟩ (jC.of rfl k_X12_isNumber rfl ?_)
          show jX m_X12_isNumber 5 0 0 0 [(0, .int a1), (1, .int a5)] [] _ 0 0 _
          refine x_iloadn (x := a1) rfl rfl ?_
          by_cases c28 : a1.toInt = 2
          ·
            refine x_tableIn (tgt := 32) 2 rfl c28 (by decide) (by decide) rfl rfl ?_
            refine x_iloadn (x := a5) rfl rfl ?_
            refine z_i2l rfl rfl (fun v29 ev29 => ?_)
            refine x_ldc2 (v := (-1)) rfl z_12_242 ?_
            refine x_ldc2 (v := 120) rfl z_12_263 ?_
            refine x_inst (N := m_X12_in) (As := [.long v29, .long (-1), .long 120]) (st := []) (dx9 := 1) (mc := 0) (ms := 0) (host := "") rfl t_X12_in ⟨Or.inl q_12_188, s_X12_in⟩ rfl (by decide) rfl rfl ⟨by decide, by decide⟩ (zc_X12_in rfl jkl_m1 jkl_120 (fun v30 ev30 => ?_))
            show jX m_X12_isNumber 5 0 0 43 [(0, .int a1), (1, .int a5)] [.int v30] _ 0 0 _
            refine x_zret rfl rfl (jz01 (by omega)) ?_
            show jX m_X12_line 6 0 0 50 [(0, .ref 125), (1, .int a1), (2, .int a2), (3, .int a3), (4, .int a4), (5, .int a5)] [.int v30] _ 0 0 _
            refine x_ifeq (tgt := 57) rfl rfl (ti_eq rfl jk_0 ⟨fun c31 => ?_, fun c31 => ?_⟩)
            ·
              obtain ⟨u32, qu32⟩ : ∃ v : Int32, jiv h 125 10 = v := ⟨_, rfl⟩
              have eu32 := (show 0 ≤ u32.toInt ∧ u32.toInt ≤ 400 from qu32 ▸ jrg_f J sg_125_10_11_1_0_1)
              obtain ⟨u33, qu33⟩ : ∃ v : Int32, jiv h 125 11 = v := ⟨_, rfl⟩
              have eu33 := (show 0 ≤ u33.toInt ∧ u33.toInt ≤ 3 from qu33 ▸ jrg_f J sg_125_11_12_1_0_1)
              obtain ⟨u34, qu34⟩ : ∃ v : Int32, jiv h 125 8 = v := ⟨_, rfl⟩
              have eu34 := (show 0 ≤ u34.toInt ∧ u34.toInt ≤ 400 from qu34 ▸ jrg_f J sg_125_8_9_1_0_1)
              obtain ⟨u35, qu35⟩ : ∃ v : Int32, jiv h 125 9 = v := ⟨_, rfl⟩
              have eu35 := (show 0 ≤ u35.toInt ∧ u35.toInt ≤ 400 from qu35 ▸ jrg_f J sg_125_9_10_1_0_1)
              exact jX.sub (jsb_c rfl (jsb_c rfl (jsb_c rfl (jsb_c rfl (jsb_c rfl (jsb_c rfl jsb_n)))))) (ct_X12_line_r125p_57 hD hQ  a1 a2 a3 a4 a5 p1 p0 p2 p3 p4 u32 u33 u34 u35 h (jr_of rfl (by omega)) (jr_of rfl (by omega)) (jr_of rfl (by omega)) (jr_of rfl (by omega)) (jr_of rfl (by omega)) (jr_of rfl (by omega)) (jr_of rfl (by omega)) (jr_of rfl (by omega)) (jr_of rfl (by omega)) (by omega) (jmo w1 rfl zp1) (jmo w1 rfl zp0) (jmo w1 rfl zp2) (jmo w1 rfl zp3) (jmo w1 rfl zp4) qu32 qu33 qu34 qu35 J Sm)
            ·
              refine x_iconst (v := 1) rfl ki_1 ?_
              refine x_goto (tgt := 58) rfl rfl ?_
              obtain ⟨u36, qu36⟩ : ∃ v : Int32, jiv h 125 10 = v := ⟨_, rfl⟩
              have eu36 := (show 0 ≤ u36.toInt ∧ u36.toInt ≤ 400 from qu36 ▸ jrg_f J sg_125_10_11_1_0_1)
              obtain ⟨u37, qu37⟩ : ∃ v : Int32, jiv h 125 11 = v := ⟨_, rfl⟩
              have eu37 := (show 0 ≤ u37.toInt ∧ u37.toInt ≤ 3 from qu37 ▸ jrg_f J sg_125_11_12_1_0_1)
              obtain ⟨u38, qu38⟩ : ∃ v : Int32, jiv h 125 8 = v := ⟨_, rfl⟩
              have eu38 := (show 0 ≤ u38.toInt ∧ u38.toInt ≤ 400 from qu38 ▸ jrg_f J sg_125_8_9_1_0_1)
              obtain ⟨u39, qu39⟩ : ∃ v : Int32, jiv h 125 9 = v := ⟨_, rfl⟩
              have eu39 := (show 0 ≤ u39.toInt ∧ u39.toInt ≤ 400 from qu39 ▸ jrg_f J sg_125_9_10_1_0_1)
              exact jX.sub (jsb_c rfl (jsb_c rfl (jsb_c rfl (jsb_c rfl (jsb_c rfl (jsb_c rfl jsb_n)))))) (ct_X12_line_r125p_300058 hD hQ  a1 a2 a3 a4 a5 p1 p0 p2 p3 p4 u36 u37 u38 u39 h (jr_of rfl (by omega)) (jr_of rfl (by omega)) (jr_of rfl (by omega)) (jr_of rfl (by omega)) (jr_of rfl (by omega)) (jr_of rfl (by omega)) (jr_of rfl (by omega)) (jr_of rfl (by omega)) (jr_of rfl (by omega)) (jr_of rfl (by omega)) (jr_of rfl (by omega)) (jr_of rfl (by omega)) (jr_of rfl (by omega)) (jr_of rfl (by omega)) (by omega) (jmo w1 rfl zp1) (jmo w1 rfl zp0) (jmo w1 rfl zp2) (jmo w1 rfl zp3) (jmo w1 rfl zp4) qu36 qu37 qu38 qu39 J Sm)
          by_cases c40 : a1.toInt = 3
          ·
            refine x_tableIn (tgt := 44) 3 rfl c40 (by decide) (by decide) rfl rfl ?_
            refine x_iloadn (x := a5) rfl rfl ?_
            refine z_i2l rfl rfl (fun v41 ev41 => ?_)
            refine x_lconst (v := 0) rfl kl_0 ?_
            refine x_ldc2 (v := 100000) rfl z_12_265 ?_
            refine x_inst (N := m_X12_in) (As := [.long v41, .long 0, .long 100000]) (st := []) (dx9 := 1) (mc := 0) (ms := 0) (host := "") rfl t_X12_in ⟨Or.inl q_12_188, s_X12_in⟩ rfl (by decide) rfl rfl ⟨by decide, by decide⟩ (zc_X12_in rfl jkl_0 jkl_100000 (fun v42 ev42 => ?_))
            show jX m_X12_isNumber 5 0 0 53 [(0, .int a1), (1, .int a5)] [.int v42] _ 0 0 _
            refine x_zret rfl rfl (jz01 (by omega)) ?_
            show jX m_X12_line 6 0 0 50 [(0, .ref 125), (1, .int a1), (2, .int a2), (3, .int a3), (4, .int a4), (5, .int a5)] [.int v42] _ 0 0 _
            refine x_ifeq (tgt := 57) rfl rfl (ti_eq rfl jk_0 ⟨fun c43 => ?_, fun c43 => ?_⟩)
            ·
              obtain ⟨u44, qu44⟩ : ∃ v : Int32, jiv h 125 10 = v := ⟨_, rfl⟩
              have eu44 := (show 0 ≤ u44.toInt ∧ u44.toInt ≤ 400 from qu44 ▸ jrg_f J sg_125_10_11_1_0_1)
              obtain ⟨u45, qu45⟩ : ∃ v : Int32, jiv h 125 11 = v := ⟨_, rfl⟩
              have eu45 := (show 0 ≤ u45.toInt ∧ u45.toInt ≤ 3 from qu45 ▸ jrg_f J sg_125_11_12_1_0_1)
              obtain ⟨u46, qu46⟩ : ∃ v : Int32, jiv h 125 8 = v := ⟨_, rfl⟩
              have eu46 := (show 0 ≤ u46.toInt ∧ u46.toInt ≤ 400 from qu46 ▸ jrg_f J sg_125_8_9_1_0_1)
              obtain ⟨u47, qu47⟩ : ∃ v : Int32, jiv h 125 9 = v := ⟨_, rfl⟩
              have eu47 := (show 0 ≤ u47.toInt ∧ u47.toInt ≤ 400 from qu47 ▸ jrg_f J sg_125_9_10_1_0_1)
              exact jX.sub (jsb_c rfl (jsb_c rfl (jsb_c rfl (jsb_c rfl (jsb_c rfl (jsb_c rfl jsb_n)))))) (ct_X12_line_r125p_57 hD hQ  a1 a2 a3 a4 a5 p1 p0 p2 p3 p4 u44 u45 u46 u47 h (jr_of rfl (by omega)) (jr_of rfl (by omega)) (jr_of rfl (by omega)) (jr_of rfl (by omega)) (jr_of rfl (by omega)) (jr_of rfl (by omega)) (jr_of rfl (by omega)) (jr_of rfl (by omega)) (jr_of rfl (by omega)) (by omega) (jmo w1 rfl zp1) (jmo w1 rfl zp0) (jmo w1 rfl zp2) (jmo w1 rfl zp3) (jmo w1 rfl zp4) qu44 qu45 qu46 qu47 J Sm)
            ·
              refine x_iconst (v := 1) rfl ki_1 ?_
              refine x_goto (tgt := 58) rfl rfl ?_
              obtain ⟨u48, qu48⟩ : ∃ v : Int32, jiv h 125 10 = v := ⟨_, rfl⟩
              have eu48 := (show 0 ≤ u48.toInt ∧ u48.toInt ≤ 400 from qu48 ▸ jrg_f J sg_125_10_11_1_0_1)
              obtain ⟨u49, qu49⟩ : ∃ v : Int32, jiv h 125 11 = v := ⟨_, rfl⟩
              have eu49 := (show 0 ≤ u49.toInt ∧ u49.toInt ≤ 3 from qu49 ▸ jrg_f J sg_125_11_12_1_0_1)
              obtain ⟨u50, qu50⟩ : ∃ v : Int32, jiv h 125 8 = v := ⟨_, rfl⟩
              have eu50 := (show 0 ≤ u50.toInt ∧ u50.toInt ≤ 400 from qu50 ▸ jrg_f J sg_125_8_9_1_0_1)
              obtain ⟨u51, qu51⟩ : ∃ v : Int32, jiv h 125 9 = v := ⟨_, rfl⟩
              have eu51 := (show 0 ≤ u51.toInt ∧ u51.toInt ≤ 400 from qu51 ▸ jrg_f J sg_125_9_10_1_0_1)
              exact jX.sub (jsb_c rfl (jsb_c rfl (jsb_c rfl (jsb_c rfl (jsb_c rfl (jsb_c rfl jsb_n)))))) (ct_X12_line_r125p_300058 hD hQ  a1 a2 a3 a4 a5 p1 p0 p2 p3 p4 u48 u49 u50 u51 h (jr_of rfl (by omega)) (jr_of rfl (by omega)) (jr_of rfl (by omega)) (jr_of rfl (by omega)) (jr_of rfl (by omega)) (jr_of rfl (by omega)) (jr_of rfl (by omega)) (jr_of rfl (by omega)) (jr_of rfl (by omega)) (jr_of rfl (by omega)) (jr_of rfl (by omega)) (jr_of rfl (by omega)) (jr_of rfl (by omega)) (jr_of rfl (by omega)) (by omega) (jmo w1 rfl zp1) (jmo w1 rfl zp0) (jmo w1 rfl zp2) (jmo w1 rfl zp3) (jmo w1 rfl zp4) qu48 qu49 qu50 qu51 J Sm)
          by_cases c52 : a1.toInt = 4
          ·
            refine x_tableIn (tgt := 44) 4 rfl c52 (by decide) (by decide) rfl rfl ?_
            refine x_iloadn (x := a5) rfl rfl ?_
            refine z_i2l rfl rfl (fun v53 ev53 => ?_)
            refine x_lconst (v := 0) rfl kl_0 ?_
            refine x_ldc2 (v := 100000) rfl z_12_265 ?_
            refine x_inst (N := m_X12_in) (As := [.long v53, .long 0, .long 100000]) (st := []) (dx9 := 1) (mc := 0) (ms := 0) (host := "") rfl t_X12_in ⟨Or.inl q_12_188, s_X12_in⟩ rfl (by decide) rfl rfl ⟨by decide, by decide⟩ (zc_X12_in rfl jkl_0 jkl_100000 (fun v54 ev54 => ?_))
            show jX m_X12_isNumber 5 0 0 53 [(0, .int a1), (1, .int a5)] [.int v54] _ 0 0 _
            refine x_zret rfl rfl (jz01 (by omega)) ?_
            show jX m_X12_line 6 0 0 50 [(0, .ref 125), (1, .int a1), (2, .int a2), (3, .int a3), (4, .int a4), (5, .int a5)] [.int v54] _ 0 0 _
            refine x_ifeq (tgt := 57) rfl rfl (ti_eq rfl jk_0 ⟨fun c55 => ?_, fun c55 => ?_⟩)
            ·
              obtain ⟨u56, qu56⟩ : ∃ v : Int32, jiv h 125 10 = v := ⟨_, rfl⟩
              have eu56 := (show 0 ≤ u56.toInt ∧ u56.toInt ≤ 400 from qu56 ▸ jrg_f J sg_125_10_11_1_0_1)
              obtain ⟨u57, qu57⟩ : ∃ v : Int32, jiv h 125 11 = v := ⟨_, rfl⟩
              have eu57 := (show 0 ≤ u57.toInt ∧ u57.toInt ≤ 3 from qu57 ▸ jrg_f J sg_125_11_12_1_0_1)
              obtain ⟨u58, qu58⟩ : ∃ v : Int32, jiv h 125 8 = v := ⟨_, rfl⟩
              have eu58 := (show 0 ≤ u58.toInt ∧ u58.toInt ≤ 400 from qu58 ▸ jrg_f J sg_125_8_9_1_0_1)
              obtain ⟨u59, qu59⟩ : ∃ v : Int32, jiv h 125 9 = v := ⟨_, rfl⟩
              have eu59 := (show 0 ≤ u59.toInt ∧ u59.toInt ≤ 400 from qu59 ▸ jrg_f J sg_125_9_10_1_0_1)
              exact jX.sub (jsb_c rfl (jsb_c rfl (jsb_c rfl (jsb_c rfl (jsb_c rfl (jsb_c rfl jsb_n)))))) (ct_X12_line_r125p_57 hD hQ  a1 a2 a3 a4 a5 p1 p0 p2 p3 p4 u56 u57 u58 u59 h (jr_of rfl (by omega)) (jr_of rfl (by omega)) (jr_of rfl (by omega)) (jr_of rfl (by omega)) (jr_of rfl (by omega)) (jr_of rfl (by omega)) (jr_of rfl (by omega)) (jr_of rfl (by omega)) (jr_of rfl (by omega)) (by omega) (jmo w1 rfl zp1) (jmo w1 rfl zp0) (jmo w1 rfl zp2) (jmo w1 rfl zp3) (jmo w1 rfl zp4) qu56 qu57 qu58 qu59 J Sm)
            ·
              refine x_iconst (v := 1) rfl ki_1 ?_
              refine x_goto (tgt := 58) rfl rfl ?_
              obtain ⟨u60, qu60⟩ : ∃ v : Int32, jiv h 125 10 = v := ⟨_, rfl⟩
              have eu60 := (show 0 ≤ u60.toInt ∧ u60.toInt ≤ 400 from qu60 ▸ jrg_f J sg_125_10_11_1_0_1)
              obtain ⟨u61, qu61⟩ : ∃ v : Int32, jiv h 125 11 = v := ⟨_, rfl⟩
              have eu61 := (show 0 ≤ u61.toInt ∧ u61.toInt ≤ 3 from qu61 ▸ jrg_f J sg_125_11_12_1_0_1)
              obtain ⟨u62, qu62⟩ : ∃ v : Int32, jiv h 125 8 = v := ⟨_, rfl⟩
              have eu62 := (show 0 ≤ u62.toInt ∧ u62.toInt ≤ 400 from qu62 ▸ jrg_f J sg_125_8_9_1_0_1)
              obtain ⟨u63, qu63⟩ : ∃ v : Int32, jiv h 125 9 = v := ⟨_, rfl⟩
              have eu63 := (show 0 ≤ u63.toInt ∧ u63.toInt ≤ 400 from qu63 ▸ jrg_f J sg_125_9_10_1_0_1)
              exact jX.sub (jsb_c rfl (jsb_c rfl (jsb_c rfl (jsb_c rfl (jsb_c rfl (jsb_c rfl jsb_n)))))) (ct_X12_line_r125p_300058 hD hQ  a1 a2 a3 a4 a5 p1 p0 p2 p3 p4 u60 u61 u62 u63 h (jr_of rfl (by omega)) (jr_of rfl (by omega)) (jr_of rfl (by omega)) (jr_of rfl (by omega)) (jr_of rfl (by omega)) (jr_of rfl (by omega)) (jr_of rfl (by omega)) (jr_of rfl (by omega)) (jr_of rfl (by omega)) (jr_of rfl (by omega)) (jr_of rfl (by omega)) (jr_of rfl (by omega)) (jr_of rfl (by omega)) (jr_of rfl (by omega)) (by omega) (jmo w1 rfl zp1) (jmo w1 rfl zp0) (jmo w1 rfl zp2) (jmo w1 rfl zp3) (jmo w1 rfl zp4) qu60 qu61 qu62 qu63 J Sm)
          by_cases c64 : a1.toInt = 5
          ·
            refine x_tableIn (tgt := 54) 5 rfl c64 (by decide) (by decide) rfl rfl ?_
            refine x_iloadn (x := a5) rfl rfl ?_
            refine z_i2l rfl rfl (fun v65 ev65 => ?_)
            refine x_lconst (v := 1) rfl kl_1 ?_
            refine x_ldc2 (v := 11) rfl z_12_267 ?_
            refine x_inst (N := m_X12_in) (As := [.long v65, .long 1, .long 11]) (st := []) (dx9 := 1) (mc := 0) (ms := 0) (host := "") rfl t_X12_in ⟨Or.inl q_12_188, s_X12_in⟩ rfl (by decide) rfl rfl ⟨by decide, by decide⟩ (zc_X12_in rfl jkl_1 jkl_11 (fun v66 ev66 => ?_))
            show jX m_X12_isNumber 5 0 0 63 [(0, .int a1), (1, .int a5)] [.int v66] _ 0 0 _
            refine x_zret rfl rfl (jz01 (by omega)) ?_
            show jX m_X12_line 6 0 0 50 [(0, .ref 125), (1, .int a1), (2, .int a2), (3, .int a3), (4, .int a4), (5, .int a5)] [.int v66] _ 0 0 _
            refine x_ifeq (tgt := 57) rfl rfl (ti_eq rfl jk_0 ⟨fun c67 => ?_, fun c67 => ?_⟩)
            ·
              obtain ⟨u68, qu68⟩ : ∃ v : Int32, jiv h 125 10 = v := ⟨_, rfl⟩
              have eu68 := (show 0 ≤ u68.toInt ∧ u68.toInt ≤ 400 from qu68 ▸ jrg_f J sg_125_10_11_1_0_1)
              obtain ⟨u69, qu69⟩ : ∃ v : Int32, jiv h 125 11 = v := ⟨_, rfl⟩
              have eu69 := (show 0 ≤ u69.toInt ∧ u69.toInt ≤ 3 from qu69 ▸ jrg_f J sg_125_11_12_1_0_1)
              obtain ⟨u70, qu70⟩ : ∃ v : Int32, jiv h 125 8 = v := ⟨_, rfl⟩
              have eu70 := (show 0 ≤ u70.toInt ∧ u70.toInt ≤ 400 from qu70 ▸ jrg_f J sg_125_8_9_1_0_1)
              obtain ⟨u71, qu71⟩ : ∃ v : Int32, jiv h 125 9 = v := ⟨_, rfl⟩
              have eu71 := (show 0 ≤ u71.toInt ∧ u71.toInt ≤ 400 from qu71 ▸ jrg_f J sg_125_9_10_1_0_1)
              exact jX.sub (jsb_c rfl (jsb_c rfl (jsb_c rfl (jsb_c rfl (jsb_c rfl (jsb_c rfl jsb_n)))))) (ct_X12_line_r125p_57 hD hQ  a1 a2 a3 a4 a5 p1 p0 p2 p3 p4 u68 u69 u70 u71 h (jr_of rfl (by omega)) (jr_of rfl (by omega)) (jr_of rfl (by omega)) (jr_of rfl (by omega)) (jr_of rfl (by omega)) (jr_of rfl (by omega)) (jr_of rfl (by omega)) (jr_of rfl (by omega)) (jr_of rfl (by omega)) (by omega) (jmo w1 rfl zp1) (jmo w1 rfl zp0) (jmo w1 rfl zp2) (jmo w1 rfl zp3) (jmo w1 rfl zp4) qu68 qu69 qu70 qu71 J Sm)
            ·
              refine x_iconst (v := 1) rfl ki_1 ?_
              refine x_goto (tgt := 58) rfl rfl ?_
              obtain ⟨u72, qu72⟩ : ∃ v : Int32, jiv h 125 10 = v := ⟨_, rfl⟩
              have eu72 := (show 0 ≤ u72.toInt ∧ u72.toInt ≤ 400 from qu72 ▸ jrg_f J sg_125_10_11_1_0_1)
              obtain ⟨u73, qu73⟩ : ∃ v : Int32, jiv h 125 11 = v := ⟨_, rfl⟩
              have eu73 := (show 0 ≤ u73.toInt ∧ u73.toInt ≤ 3 from qu73 ▸ jrg_f J sg_125_11_12_1_0_1)
              obtain ⟨u74, qu74⟩ : ∃ v : Int32, jiv h 125 8 = v := ⟨_, rfl⟩
              have eu74 := (show 0 ≤ u74.toInt ∧ u74.toInt ≤ 400 from qu74 ▸ jrg_f J sg_125_8_9_1_0_1)
              obtain ⟨u75, qu75⟩ : ∃ v : Int32, jiv h 125 9 = v := ⟨_, rfl⟩
              have eu75 := (show 0 ≤ u75.toInt ∧ u75.toInt ≤ 400 from qu75 ▸ jrg_f J sg_125_9_10_1_0_1)
              exact jX.sub (jsb_c rfl (jsb_c rfl (jsb_c rfl (jsb_c rfl (jsb_c rfl (jsb_c rfl jsb_n)))))) (ct_X12_line_r125p_300058 hD hQ  a1 a2 a3 a4 a5 p1 p0 p2 p3 p4 u72 u73 u74 u75 h (jr_of rfl (by omega)) (jr_of rfl (by omega)) (jr_of rfl (by omega)) (jr_of rfl (by omega)) (jr_of rfl (by omega)) (jr_of rfl (by omega)) (jr_of rfl (by omega)) (jr_of rfl (by omega)) (jr_of rfl (by omega)) (jr_of rfl (by omega)) (jr_of rfl (by omega)) (jr_of rfl (by omega)) (jr_of rfl (by omega)) (jr_of rfl (by omega)) (by omega) (jmo w1 rfl zp1) (jmo w1 rfl zp0) (jmo w1 rfl zp2) (jmo w1 rfl zp3) (jmo w1 rfl zp4) qu72 qu73 qu74 qu75 J Sm)
          refine x_tableOut (tgt := 64) rfl (by omega) rfl ?_
          refine x_iloadn (x := a5) rfl rfl ?_
          refine x_iconst (v := (-1)) rfl ki_m1 ?_
          refine x_icne (tgt := 73) rfl rfl (ti_ne rfl jk_m1 ⟨fun c76 => ?_, fun c76 => ?_⟩)
          ·
            refine x_iconst (v := 0) rfl ki_0 ?_
            refine x_zret rfl rfl (by decide) ?_
            show jX m_X12_line 6 0 0 50 [(0, .ref 125), (1, .int a1), (2, .int a2), (3, .int a3), (4, .int a4), (5, .int a5)] [.int 0] _ 0 0 _
            refine x_ifeq (tgt := 57) rfl rfl (ti_eq jk_0 jk_0 (br_t (by omega) ?_))
            obtain ⟨u77, qu77⟩ : ∃ v : Int32, jiv h 125 10 = v := ⟨_, rfl⟩
            have eu77 := (show 0 ≤ u77.toInt ∧ u77.toInt ≤ 400 from qu77 ▸ jrg_f J sg_125_10_11_1_0_1)
            obtain ⟨u78, qu78⟩ : ∃ v : Int32, jiv h 125 11 = v := ⟨_, rfl⟩
            have eu78 := (show 0 ≤ u78.toInt ∧ u78.toInt ≤ 3 from qu78 ▸ jrg_f J sg_125_11_12_1_0_1)
            obtain ⟨u79, qu79⟩ : ∃ v : Int32, jiv h 125 8 = v := ⟨_, rfl⟩
            have eu79 := (show 0 ≤ u79.toInt ∧ u79.toInt ≤ 400 from qu79 ▸ jrg_f J sg_125_8_9_1_0_1)
            obtain ⟨u80, qu80⟩ : ∃ v : Int32, jiv h 125 9 = v := ⟨_, rfl⟩
            have eu80 := (show 0 ≤ u80.toInt ∧ u80.toInt ≤ 400 from qu80 ▸ jrg_f J sg_125_9_10_1_0_1)
            exact jX.sub (jsb_c rfl (jsb_c rfl (jsb_c rfl (jsb_c rfl (jsb_c rfl (jsb_c rfl jsb_n)))))) (ct_X12_line_r125p_57 hD hQ  a1 a2 a3 a4 a5 p1 p0 p2 p3 p4 u77 u78 u79 u80 h (jr_of rfl (by omega)) (jr_of rfl (by omega)) (jr_of rfl (by omega)) (jr_of rfl (by omega)) (jr_of rfl (by omega)) (jr_of rfl (by omega)) (jr_of rfl (by omega)) (jr_of rfl (by omega)) (jr_of rfl (by omega)) (by omega) (jmo w1 rfl zp1) (jmo w1 rfl zp0) (jmo w1 rfl zp2) (jmo w1 rfl zp3) (jmo w1 rfl zp4) qu77 qu78 qu79 qu80 J Sm)
          ·
            refine x_iconst (v := 1) rfl ki_1 ?_
            refine x_goto (tgt := 74) rfl rfl ?_
            refine x_zret rfl rfl (by decide) ?_
            show jX m_X12_line 6 0 0 50 [(0, .ref 125), (1, .int a1), (2, .int a2), (3, .int a3), (4, .int a4), (5, .int a5)] [.int 1] _ 0 0 _
            refine x_ifeq (tgt := 57) rfl rfl (ti_eq jk_1 jk_0 (br_f (by omega) ?_))
            refine x_iconst (v := 1) rfl ki_1 ?_
            refine x_goto (tgt := 58) rfl rfl ?_
            obtain ⟨u81, qu81⟩ : ∃ v : Int32, jiv h 125 10 = v := ⟨_, rfl⟩
            have eu81 := (show 0 ≤ u81.toInt ∧ u81.toInt ≤ 400 from qu81 ▸ jrg_f J sg_125_10_11_1_0_1)
            obtain ⟨u82, qu82⟩ : ∃ v : Int32, jiv h 125 11 = v := ⟨_, rfl⟩
            have eu82 := (show 0 ≤ u82.toInt ∧ u82.toInt ≤ 3 from qu82 ▸ jrg_f J sg_125_11_12_1_0_1)
            obtain ⟨u83, qu83⟩ : ∃ v : Int32, jiv h 125 8 = v := ⟨_, rfl⟩
            have eu83 := (show 0 ≤ u83.toInt ∧ u83.toInt ≤ 400 from qu83 ▸ jrg_f J sg_125_8_9_1_0_1)
            obtain ⟨u84, qu84⟩ : ∃ v : Int32, jiv h 125 9 = v := ⟨_, rfl⟩
            have eu84 := (show 0 ≤ u84.toInt ∧ u84.toInt ≤ 400 from qu84 ▸ jrg_f J sg_125_9_10_1_0_1)
            exact jX.sub (jsb_c rfl (jsb_c rfl (jsb_c rfl (jsb_c rfl (jsb_c rfl (jsb_c rfl jsb_n)))))) (ct_X12_line_r125p_300058 hD hQ  a1 a2 a3 a4 a5 p1 p0 p2 p3 p4 u81 u82 u83 u84 h (jr_of rfl (by omega)) (jr_of rfl (by omega)) (jr_of rfl (by omega)) (jr_of rfl (by omega)) (jr_of rfl (by omega)) (jr_of rfl (by omega)) (jr_of rfl (by omega)) (jr_of rfl (by omega)) (jr_of rfl (by omega)) (jr_of rfl (by omega)) (jr_of rfl (by omega)) (jr_of rfl (by omega)) (jr_of rfl (by omega)) (jr_of rfl (by omega)) (by omega) (jmo w1 rfl zp1) (jmo w1 rfl zp0) (jmo w1 rfl zp2) (jmo w1 rfl zp3) (jmo w1 rfl zp4) qu81 qu82 qu83 qu84 J Sm)
def fp_X12_pay_r125p : jFp := [(125, 0, 1), (125, 1, 2), (126, 12, 13), (126, 48460, 48960)]
set_option maxRecDepth 100000 in
set_option maxHeartbeats 4000000 in
theorem ct_X12_pay_r125p_33 {Dy : jH → Prop} {h0 : jH} {Q : Option Value → jH → Prop} {a1 : Int32} (yy_a1 : (-2147483648) ≤ a1.toInt ∧ a1.toInt ≤ 2147483647) {a2 : Int32} (yy_a2 : (-2147483648) ≤ a2.toInt ∧ a2.toInt ≤ 2147483647) {a3 : Int32} (yy_a3 : (-2147483648) ≤ a3.toInt ∧ a3.toInt ≤ 2147483647) {a4 : Int32} (yy_a4 : (-2147483648) ≤ a4.toInt ∧ a4.toInt ≤ 2147483647) {a5 : Int32} (yy_a5 : (-2147483648) ≤ a5.toInt ∧ a5.toInt ≤ 2147483647) (hD : jDk Dy) (hQ : ∀ (v : Int32) hx9, (-5) ≤ v.toInt ∧ v.toInt ≤ 100 → jJ jSgM Dy hx9 → jSm fp_X12_pay_r125p h0 hx9 → ((¬ (1 ≤ a3.toInt ∧ a3.toInt ≤ 1000000 ∧ 0 ≤ a4.toInt ∧ a4.toInt ≤ 146399 ∧ 0 ≤ a5.toInt ∧ a5.toInt ≤ 146399) ∧ v.toInt = -1 ∧ jiv hx9 126 = jiv h0 126) ∨ ((1 ≤ a3.toInt ∧ a3.toInt ≤ 1000000 ∧ 0 ≤ a4.toInt ∧ a4.toInt ≤ 146399 ∧ 0 ≤ a5.toInt ∧ a5.toInt ≤ 146399) ∧ ¬ (0 ≤ a1.toInt ∧ a1.toInt < (jiv h0 126 11).toInt ∧ 0 ≤ a2.toInt ∧ a2.toInt < (jiv h0 126 7).toInt) ∧ v.toInt = -2 ∧ jiv hx9 126 = jiv h0 126) ∨ ((1 ≤ a3.toInt ∧ a3.toInt ≤ 1000000 ∧ 0 ≤ a4.toInt ∧ a4.toInt ≤ 146399 ∧ 0 ≤ a5.toInt ∧ a5.toInt ≤ 146399) ∧ (0 ≤ a1.toInt ∧ a1.toInt < (jiv h0 126 11).toInt ∧ 0 ≤ a2.toInt ∧ a2.toInt < (jiv h0 126 7).toInt) ∧ (jiv h0 126 12).toInt = 100 ∧ v.toInt = -5 ∧ jiv hx9 126 = jiv h0 126) ∨ ((1 ≤ a3.toInt ∧ a3.toInt ≤ 1000000 ∧ 0 ≤ a4.toInt ∧ a4.toInt ≤ 146399 ∧ 0 ≤ a5.toInt ∧ a5.toInt ≤ 146399) ∧ (0 ≤ a1.toInt ∧ a1.toInt < (jiv h0 126 11).toInt ∧ 0 ≤ a2.toInt ∧ a2.toInt < (jiv h0 126 7).toInt) ∧ (jiv h0 126 12).toInt < 100 ∧ v.toInt = (jiv h0 126 12).toInt + 1 ∧ jMw 12 48460 5 [a1, a2, a3, a4, a5] h0 hx9)) → Q (some (.int v)) hx9) : ∀ (h : jH), (h = jsi h0 125 0 0 ∧ ¬ (1 ≤ a3.toInt ∧ a3.toInt ≤ 1000000 ∧ 0 ≤ a4.toInt ∧ a4.toInt ≤ 146399 ∧ 0 ≤ a5.toInt ∧ a5.toInt ≤ 146399)) → jJ jSgM Dy h → jSm fp_X12_pay_r125p h0 h → jX m_X12_pay 3 0 0 33 [(0, .ref 125)] [] h 0 0 Q := by
  intro  h C0   J Sm
  refine x_aloadn (x := 125) rfl rfl ?_
  refine x_iconst (v := (-1)) rfl ki_m1 ?_
  refine x_inv (N := m_X12_told) (As := [.int (-1)]) (b := 125) (st := []) (dx9 := 2) (mc := 0) (ms := 0) (host := "") 12 rfl t_X12_told ⟨Or.inl q_12_197, i_X12_told.1, i_X12_told.2⟩ ⟨by decide, rfl⟩ (congrArg Prod.fst (J.1.1 125 (12, 92) rfl)) rfl (by decide) rfl rfl ⟨by decide, by decide⟩ (jC.of rfl k_X12_told rfl ?_)
  show jX m_X12_told 2 0 0 0 [(0, .ref 125), (1, .int (-1))] [] _ 0 0 _
  refine x_aloadn (x := 125) rfl rfl ?_
  refine x_iloadn (x := (-1)) rfl rfl ?_
  refine x_ifge (tgt := 9) rfl rfl (ti_ge jk_m1 jk_0 (br_f (by omega) ?_))
  refine x_iloadn (x := (-1)) rfl rfl ?_
  refine x_goto (tgt := 10) rfl rfl ?_
  refine z_putI (N := 92) (w := (-1)) 12 1 rfl f_12_183 rfl (jfin_no TX12 RX12 92 rfl rfl) hD J Sm rfl rfl jk_m1 (pw_125_1 (by omega)) rfl (fun h w1 J Sm => ?_)
  refine x_iloadn (x := (-1)) rfl rfl ?_
  refine x_iret rfl rfl ?_
  show jX m_X12_pay 3 0 0 38 [(0, .ref 125)] [.int (-1)] _ 0 0 _
  refine x_iret rfl rfl ?_
  exact hQ _ _ (jr_of jk_m1 (by omega)) J Sm (Or.inl ⟨C0.2, jk_m1, (ov_o w1 rfl (ov_e1 C0.1 rfl))⟩)
set_option maxRecDepth 100000 in
set_option maxHeartbeats 4000000 in
theorem ct_X12_pay_r125p_55 {Dy : jH → Prop} {h0 : jH} {Q : Option Value → jH → Prop} {a1 : Int32} (yy_a1 : (-2147483648) ≤ a1.toInt ∧ a1.toInt ≤ 2147483647) {a2 : Int32} (yy_a2 : (-2147483648) ≤ a2.toInt ∧ a2.toInt ≤ 2147483647) {a3 : Int32} (yy_a3 : (-2147483648) ≤ a3.toInt ∧ a3.toInt ≤ 2147483647) {a4 : Int32} (yy_a4 : (-2147483648) ≤ a4.toInt ∧ a4.toInt ≤ 2147483647) {a5 : Int32} (yy_a5 : (-2147483648) ≤ a5.toInt ∧ a5.toInt ≤ 2147483647) (hD : jDk Dy) (hQ : ∀ (v : Int32) hx9, (-5) ≤ v.toInt ∧ v.toInt ≤ 100 → jJ jSgM Dy hx9 → jSm fp_X12_pay_r125p h0 hx9 → ((¬ (1 ≤ a3.toInt ∧ a3.toInt ≤ 1000000 ∧ 0 ≤ a4.toInt ∧ a4.toInt ≤ 146399 ∧ 0 ≤ a5.toInt ∧ a5.toInt ≤ 146399) ∧ v.toInt = -1 ∧ jiv hx9 126 = jiv h0 126) ∨ ((1 ≤ a3.toInt ∧ a3.toInt ≤ 1000000 ∧ 0 ≤ a4.toInt ∧ a4.toInt ≤ 146399 ∧ 0 ≤ a5.toInt ∧ a5.toInt ≤ 146399) ∧ ¬ (0 ≤ a1.toInt ∧ a1.toInt < (jiv h0 126 11).toInt ∧ 0 ≤ a2.toInt ∧ a2.toInt < (jiv h0 126 7).toInt) ∧ v.toInt = -2 ∧ jiv hx9 126 = jiv h0 126) ∨ ((1 ≤ a3.toInt ∧ a3.toInt ≤ 1000000 ∧ 0 ≤ a4.toInt ∧ a4.toInt ≤ 146399 ∧ 0 ≤ a5.toInt ∧ a5.toInt ≤ 146399) ∧ (0 ≤ a1.toInt ∧ a1.toInt < (jiv h0 126 11).toInt ∧ 0 ≤ a2.toInt ∧ a2.toInt < (jiv h0 126 7).toInt) ∧ (jiv h0 126 12).toInt = 100 ∧ v.toInt = -5 ∧ jiv hx9 126 = jiv h0 126) ∨ ((1 ≤ a3.toInt ∧ a3.toInt ≤ 1000000 ∧ 0 ≤ a4.toInt ∧ a4.toInt ≤ 146399 ∧ 0 ≤ a5.toInt ∧ a5.toInt ≤ 146399) ∧ (0 ≤ a1.toInt ∧ a1.toInt < (jiv h0 126 11).toInt ∧ 0 ≤ a2.toInt ∧ a2.toInt < (jiv h0 126 7).toInt) ∧ (jiv h0 126 12).toInt < 100 ∧ v.toInt = (jiv h0 126 12).toInt + 1 ∧ jMw 12 48460 5 [a1, a2, a3, a4, a5] h0 hx9)) → Q (some (.int v)) hx9) : ∀ (h : jH), (h = jsi h0 125 0 0 ∧ (1 ≤ a3.toInt ∧ a3.toInt ≤ 1000000 ∧ 0 ≤ a4.toInt ∧ a4.toInt ≤ 146399 ∧ 0 ≤ a5.toInt ∧ a5.toInt ≤ 146399) ∧ ¬ (0 ≤ a1.toInt ∧ a1.toInt < (jiv h0 126 11).toInt ∧ 0 ≤ a2.toInt ∧ a2.toInt < (jiv h0 126 7).toInt)) → jJ jSgM Dy h → jSm fp_X12_pay_r125p h0 h → jX m_X12_pay 3 0 0 55 [(0, .ref 125)] [] h 0 0 Q := by
  intro  h C0   J Sm
  refine x_aloadn (x := 125) rfl rfl ?_
  refine x_bipush (v := (-2)) rfl kb_m2 ?_
  refine x_inv (N := m_X12_told) (As := [.int (-2)]) (b := 125) (st := []) (dx9 := 2) (mc := 0) (ms := 0) (host := "") 12 rfl t_X12_told ⟨Or.inl q_12_197, i_X12_told.1, i_X12_told.2⟩ ⟨by decide, rfl⟩ (congrArg Prod.fst (J.1.1 125 (12, 92) rfl)) rfl (by decide) rfl rfl ⟨by decide, by decide⟩ (jC.of rfl k_X12_told rfl ?_)
  show jX m_X12_told 2 0 0 0 [(0, .ref 125), (1, .int (-2))] [] _ 0 0 _
  refine x_aloadn (x := 125) rfl rfl ?_
  refine x_iloadn (x := (-2)) rfl rfl ?_
  refine x_ifge (tgt := 9) rfl rfl (ti_ge jk_m2 jk_0 (br_f (by omega) ?_))
  refine x_iloadn (x := (-2)) rfl rfl ?_
  refine x_goto (tgt := 10) rfl rfl ?_
  refine z_putI (N := 92) (w := (-2)) 12 1 rfl f_12_183 rfl (jfin_no TX12 RX12 92 rfl rfl) hD J Sm rfl rfl jk_m2 (pw_125_1 (by omega)) rfl (fun h w1 J Sm => ?_)
  refine x_iloadn (x := (-2)) rfl rfl ?_
  refine x_iret rfl rfl ?_
  show jX m_X12_pay 3 0 0 61 [(0, .ref 125)] [.int (-2)] _ 0 0 _
  refine x_iret rfl rfl ?_
  exact hQ _ _ (jr_of jk_m2 (by omega)) J Sm (Or.inr (Or.inl ⟨C0.2.1, C0.2.2, jk_m2, (ov_o w1 rfl (ov_e1 C0.1 rfl))⟩))
set_option maxRecDepth 100000 in
set_option maxHeartbeats 4000000 in
theorem sf_X12_pay_r125p {Dy : jH → Prop} {h : jH} {Q : Option Value → jH → Prop} {a1 : Int32} {a2 : Int32} {a3 : Int32} {a4 : Int32} {a5 : Int32} (hD : jDk Dy) (J : jJ jSgM Dy h) (hQ : ∀ (v : Int32) hx9, (-5) ≤ v.toInt ∧ v.toInt ≤ 100 → jJ jSgM Dy hx9 → jSm fp_X12_pay_r125p h hx9 → ((¬ (1 ≤ a3.toInt ∧ a3.toInt ≤ 1000000 ∧ 0 ≤ a4.toInt ∧ a4.toInt ≤ 146399 ∧ 0 ≤ a5.toInt ∧ a5.toInt ≤ 146399) ∧ v.toInt = -1 ∧ jiv hx9 126 = jiv h 126) ∨ ((1 ≤ a3.toInt ∧ a3.toInt ≤ 1000000 ∧ 0 ≤ a4.toInt ∧ a4.toInt ≤ 146399 ∧ 0 ≤ a5.toInt ∧ a5.toInt ≤ 146399) ∧ ¬ (0 ≤ a1.toInt ∧ a1.toInt < (jiv h 126 11).toInt ∧ 0 ≤ a2.toInt ∧ a2.toInt < (jiv h 126 7).toInt) ∧ v.toInt = -2 ∧ jiv hx9 126 = jiv h 126) ∨ ((1 ≤ a3.toInt ∧ a3.toInt ≤ 1000000 ∧ 0 ≤ a4.toInt ∧ a4.toInt ≤ 146399 ∧ 0 ≤ a5.toInt ∧ a5.toInt ≤ 146399) ∧ (0 ≤ a1.toInt ∧ a1.toInt < (jiv h 126 11).toInt ∧ 0 ≤ a2.toInt ∧ a2.toInt < (jiv h 126 7).toInt) ∧ (jiv h 126 12).toInt = 100 ∧ v.toInt = -5 ∧ jiv hx9 126 = jiv h 126) ∨ ((1 ≤ a3.toInt ∧ a3.toInt ≤ 1000000 ∧ 0 ≤ a4.toInt ∧ a4.toInt ≤ 146399 ∧ 0 ≤ a5.toInt ∧ a5.toInt ≤ 146399) ∧ (0 ≤ a1.toInt ∧ a1.toInt < (jiv h 126 11).toInt ∧ 0 ≤ a2.toInt ∧ a2.toInt < (jiv h 126 7).toInt) ∧ (jiv h 126 12).toInt < 100 ∧ v.toInt = (jiv h 126 12).toInt + 1 ∧ jMw 12 48460 5 [a1, a2, a3, a4, a5] h hx9)) → Q (some (.int v)) hx9) : jC m_X12_pay 3 0 0 [.ref 125, .int a1, .int a2, .int a3, .int a4, .int a5] h Q := by
  refine jC.of rfl k_X12_pay rfl ?_
  have Sm := jSm_rf fp_X12_pay_r125p h
  have yy_a1 := jfull a1
  have yy_a2 := jfull a2
  have yy_a3 := jfull a3
  have yy_a4 := jfull a4
  have yy_a5 := jfull a5
  have ea1 := jfull a1
  have ea2 := jfull a2
  have ea3 := jfull a3
  have ea4 := jfull a4
  have ea5 := jfull a5
  show jX m_X12_pay 3 0 0 0 [(0, .ref 125), (1, .int a1), (2, .int a2), (3, .int a3), (4, .int a4), (5, .int a5)] [] _ 0 0 _
  obtain ⟨u1, qu1⟩ : ∃ v : Int32, jiv h 126 (12 : Int32).toNatClampNeg = v := ⟨_, rfl⟩
  have eu1 := (show 0 ≤ u1.toInt ∧ u1.toInt ≤ 100 from qu1 ▸ jrg_c J sg_126_12_13_1_0_1 jk_12 (by omega))
  have ou1 := ov_n (n := 12) (by decide) qu1
  obtain ⟨u2, qu2⟩ : ∃ v : Int32, jiv h 126 (11 : Int32).toNatClampNeg = v := ⟨_, rfl⟩
  have eu2 := (show 0 ≤ u2.toInt ∧ u2.toInt ≤ 40 from qu2 ▸ jrg_c J sg_126_11_12_1_0_1 jk_11 (by omega))
  have ou2 := ov_n (n := 11) (by decide) qu2
  obtain ⟨u3, qu3⟩ : ∃ v : Int32, jiv h 126 (7 : Int32).toNatClampNeg = v := ⟨_, rfl⟩
  have eu3 := (show 0 ≤ u3.toInt ∧ u3.toInt ≤ 40 from qu3 ▸ jrg_c J sg_126_7_8_1_0_1 jk_7 (by omega))
  have ou3 := ov_n (n := 7) (by decide) qu3
  refine x_aloadn (x := 125) rfl rfl ?_
  refine x_iconst (v := 0) rfl ki_0 ?_
  refine z_putI (N := 92) (w := 0) 12 0 rfl f_12_180 rfl (jfin_no TX12 RX12 92 rfl rfl) hD J Sm rfl rfl jk_0 (pw_125_0 (by omega)) rfl (fun h w4 J Sm => ?_)
  refine x_iloadn (x := a3) rfl rfl ?_
  refine z_i2l rfl rfl (fun v5 ev5 => ?_)
  refine x_lconst (v := 1) rfl kl_1 ?_
  refine x_ldc2 (v := 1000000) rfl z_12_244 ?_
  refine x_inst (N := m_X12_in) (As := [.long v5, .long 1, .long 1000000]) (st := []) (dx9 := 1) (mc := 0) (ms := 0) (host := "") rfl t_X12_in ⟨Or.inl q_12_188, s_X12_in⟩ rfl (by decide) rfl rfl ⟨by decide, by decide⟩ (zc_X12_in rfl jkl_1 jkl_1000000 (fun v6 ev6 => ?_))
  show jX m_X12_pay 3 0 0 14 [(0, .ref 125), (1, .int a1), (2, .int a2), (3, .int a3), (4, .int a4), (5, .int a5)] [.int v6] _ 0 0 _
  refine x_ifeq (tgt := 33) rfl rfl (ti_eq rfl jk_0 ⟨fun c7 => ?_, fun c7 => ?_⟩)
  ·
    exact jX.sub (jsb_c rfl jsb_n) (ct_X12_pay_r125p_33 yy_a1 yy_a2 yy_a3 yy_a4 yy_a5 hD hQ  h ⟨w4, by omega⟩ J Sm)
  ·
    refine x_iload (x := a4) rfl rfl ?_
    refine x_inst (N := m_X12_isDay) (As := [.int a4]) (st := []) (dx9 := 2) (mc := 0) (ms := 0) (host := "") rfl t_X12_isDay ⟨Or.inl q_12_273, s_X12_isDay⟩ rfl (by decide) rfl rfl ⟨by decide, by decide⟩ (zc_X12_isDay (d := 1) rfl (fun v8 ev8 => ?_))
    show jX m_X12_pay 3 0 0 22 [(0, .ref 125), (1, .int a1), (2, .int a2), (3, .int a3), (4, .int a4), (5, .int a5)] [.int v8] _ 0 0 _
    refine x_ifeq (tgt := 33) rfl rfl (ti_eq rfl jk_0 ⟨fun c9 => ?_, fun c9 => ?_⟩)
    ·
      exact jX.sub (jsb_c rfl jsb_n) (ct_X12_pay_r125p_33 yy_a1 yy_a2 yy_a3 yy_a4 yy_a5 hD hQ  h ⟨w4, by omega⟩ J Sm)
    ·
      refine x_iload (x := a5) rfl rfl ?_
      refine x_inst (N := m_X12_isDay) (As := [.int a5]) (st := []) (dx9 := 2) (mc := 0) (ms := 0) (host := "") rfl t_X12_isDay ⟨Or.inl q_12_273, s_X12_isDay⟩ rfl (by decide) rfl rfl ⟨by decide, by decide⟩ (zc_X12_isDay (d := 1) rfl (fun v10 ev10 => ?_))
      show jX m_X12_pay 3 0 0 30 [(0, .ref 125), (1, .int a1), (2, .int a2), (3, .int a3), (4, .int a4), (5, .int a5)] [.int v10] _ 0 0 _
      refine x_ifne (tgt := 39) rfl rfl (ti_ne rfl jk_0 ⟨fun c11 => ?_, fun c11 => ?_⟩)
      ·
        refine x_aloadn (x := 125) rfl rfl ?_
        refine x_iloadn (x := a1) rfl rfl ?_
        refine x_inv (N := m_X12_isLevy) (As := [.int a1]) (b := 125) (st := []) (dx9 := 2) (mc := 0) (ms := 0) (host := "") 12 rfl t_X12_isLevy ⟨Or.inl q_12_824, i_X12_isLevy.1, i_X12_isLevy.2⟩ ⟨by decide, rfl⟩ (congrArg Prod.fst (J.1.1 125 (12, 92) rfl)) rfl (by decide) rfl rfl ⟨by decide, by decide⟩ (jC.of rfl k_X12_isLevy rfl ?_)
        show jX m_X12_isLevy 2 0 0 0 [(0, .ref 125), (1, .int a1)] [] _ 0 0 _
        refine x_iloadn (x := a1) rfl rfl ?_
        refine z_i2l rfl rfl (fun v12 ev12 => ?_)
        refine x_lconst (v := 0) rfl kl_0 ?_
        refine x_aloadn (x := 125) rfl rfl ?_
        refine z_getR (N := 92) (b := 126) 12 2 rfl f_12_8 rfl J rfl 16002 ⟨rfl, rfl⟩ rfl ?_
        refine x_bipush (v := 11) rfl kb_11 ?_
        refine z_ialdM (N := 50660) (v := u2) rfl J rfl jk_11 (by omega) (jmo w4 rfl qu2) ?_
        refine z_i2l rfl rfl (fun v13 ev13 => ?_)
        refine x_lconst (v := 1) rfl kl_1 ?_
        refine z_lsub rfl rfl jkl_1 (by omega) (fun v14 ev14 => ?_)
        refine x_inst (N := m_X12_in) (As := [.long v12, .long 0, .long v14]) (st := []) (dx9 := 1) (mc := 0) (ms := 0) (host := "") rfl t_X12_in ⟨Or.inl q_12_188, s_X12_in⟩ rfl (by decide) rfl rfl ⟨by decide, by decide⟩ (zc_X12_in rfl jkl_0 rfl (fun v15 ev15 => ?_))
        show jX m_X12_isLevy 2 0 0 16 [(0, .ref 125), (1, .int a1)] [.int v15] _ 0 0 _
        refine x_zret rfl rfl (jz01 (by omega)) ?_
        show jX m_X12_pay 3 0 0 44 [(0, .ref 125), (1, .int a1), (2, .int a2), (3, .int a3), (4, .int a4), (5, .int a5)] [.int v15] _ 0 0 _
        refine x_ifeq (tgt := 55) rfl rfl (ti_eq rfl jk_0 ⟨fun c16 => ?_, fun c16 => ?_⟩)
        ·
          exact jX.sub (jsb_c rfl jsb_n) (ct_X12_pay_r125p_55 yy_a1 yy_a2 yy_a3 yy_a4 yy_a5 hD hQ  h ⟨w4, by omega, by omega⟩ J Sm)
        ·
          refine x_aloadn (x := 125) rfl rfl ?_
          refine x_iloadn (x := a2) rfl rfl ?_
          refine x_inv (N := m_X12_isHolding) (As := [.int a2]) (b := 125) (st := []) (dx9 := 2) (mc := 0) (ms := 0) (host := "") 12 rfl t_X12_isHolding ⟨Or.inl q_12_811, i_X12_isHolding.1, i_X12_isHolding.2⟩ ⟨by decide, rfl⟩ (congrArg Prod.fst (J.1.1 125 (12, 92) rfl)) rfl (by decide) rfl rfl ⟨by decide, by decide⟩ (jC.of rfl k_X12_isHolding rfl ?_)
          show jX m_X12_isHolding 2 0 0 0 [(0, .ref 125), (1, .int a2)] [] _ 0 0 _
          refine x_iloadn (x := a2) rfl rfl ?_
          refine z_i2l rfl rfl (fun v17 ev17 => ?_)
          refine x_lconst (v := 0) rfl kl_0 ?_
          refine x_aloadn (x := 125) rfl rfl ?_
          refine z_getR (N := 92) (b := 126) 12 2 rfl f_12_8 rfl J rfl 16002 ⟨rfl, rfl⟩ rfl ?_
          refine x_bipush (v := 7) rfl kb_7 ?_
          refine z_ialdM (N := 50660) (v := u3) rfl J rfl jk_7 (by omega) (jmo w4 rfl qu3) ?_
          refine z_i2l rfl rfl (fun v18 ev18 => ?_)
          refine x_lconst (v := 1) rfl kl_1 ?_
          refine z_lsub rfl rfl jkl_1 (by omega) (fun v19 ev19 => ?_)
          refine x_inst (N := m_X12_in) (As := [.long v17, .long 0, .long v19]) (st := []) (dx9 := 1) (mc := 0) (ms := 0) (host := "") rfl t_X12_in ⟨Or.inl q_12_188, s_X12_in⟩ rfl (by decide) rfl rfl ⟨by decide, by decide⟩ (zc_X12_in rfl jkl_0 rfl (fun v20 ev20 => ?_))
          show jX m_X12_isHolding 2 0 0 16 [(0, .ref 125), (1, .int a2)] [.int v20] _ 0 0 _
          refine x_zret rfl rfl (jz01 (by omega)) ?_
          show jX m_X12_pay 3 0 0 52 [(0, .ref 125), (1, .int a1), (2, .int a2), (3, .int a3), (4, .int a4), (5, .int a5)] [.int v20] _ 0 0 _
          refine x_ifne (tgt := 62) rfl rfl (ti_ne rfl jk_0 ⟨fun c21 => ?_, fun c21 => ?_⟩)
          ·
            refine x_aloadn (x := 125) rfl rfl ?_
            refine z_getR (N := 92) (b := 126) 12 2 rfl f_12_8 rfl J rfl 16002 ⟨rfl, rfl⟩ rfl ?_
            refine x_bipush (v := 12) rfl kb_12 ?_
            refine z_ialdM (N := 50660) (v := u1) rfl J rfl jk_12 (by omega) (jmo w4 rfl qu1) ?_
            refine x_bipush (v := 100) rfl kb_100 ?_
            refine x_icne (tgt := 81) rfl rfl (ti_ne rfl jk_100 ⟨fun c22 => ?_, fun c22 => ?_⟩)
            ·
              refine x_ldcw (v := 48460) rfl z_12_830 ?_
              refine x_iconst (v := 5) rfl ki_5 ?_
              refine x_aloadn (x := 125) rfl rfl ?_
              refine z_getR (N := 92) (b := 126) 12 2 rfl f_12_8 rfl J rfl 16002 ⟨rfl, rfl⟩ rfl ?_
              refine x_bipush (v := 12) rfl kb_12 ?_
              refine z_ialdM (N := 50660) (v := u1) rfl J rfl jk_12 (by omega) (jmo w4 rfl qu1) ?_
              refine z_imul rfl jk_5 rfl (by omega) (fun v23 ev23 => ?_)
              refine z_iadd rfl jk_48460 rfl (by omega) (fun v24 ev24 => ?_)
              refine x_istore (lsx9 := [(6, .int v24), (0, .ref 125), (1, .int a1), (2, .int a2), (3, .int a3), (4, .int a4), (5, .int a5)]) rfl rfl rfl ?_
              refine x_aloadn (x := 125) rfl rfl ?_
              refine x_iload (x := v24) rfl rfl ?_
              refine x_iloadn (x := a1) rfl rfl ?_
              refine x_iloadn (x := a2) rfl rfl ?_
              refine x_iloadn (x := a3) rfl rfl ?_
              refine x_iload (x := a4) rfl rfl ?_
              refine x_inv (N := m_X12_addFour) (As := [.int v24, .int a1, .int a2, .int a3, .int a4]) (b := 125) (st := []) (dx9 := 2) (mc := 0) (ms := 0) (host := "") 12 rfl t_X12_addFour ⟨Or.inl q_12_814, i_X12_addFour.1, i_X12_addFour.2⟩ ⟨by decide, rfl⟩ (congrArg Prod.fst (J.1.1 125 (12, 92) rfl)) rfl (by decide) rfl rfl ⟨by decide, by decide⟩ (jC.of rfl k_X12_addFour rfl ?_)
              show jX m_X12_addFour 2 0 0 0 [(0, .ref 125), (1, .int v24), (2, .int a1), (3, .int a2), (4, .int a3), (5, .int a4)] [] _ 0 0 _
              refine x_aloadn (x := 125) rfl rfl ?_
              refine z_getR (N := 92) (b := 126) 12 2 rfl f_12_8 rfl J rfl 16002 ⟨rfl, rfl⟩ rfl ?_
              refine x_iloadn (x := v24) rfl rfl ?_
              refine x_iloadn (x := a1) rfl rfl ?_
              refine z_iast (N := 50660) (l := 48460) (u := 48960) (w := a1.toInt) rfl hD J Sm rfl rfl rfl (by omega) rfl (wr_126_48460 (by omega) (fun q1 q2 q3 q4 => by omega) (fun q1 q2 q3 q4 => by omega) (fun q1 q2 q3 q4 => by omega) (fun q1 q2 q3 q4 => by omega) (fun q1 q2 q3 q4 => by omega)) rfl (fun h w25 J Sm => ?_)
              refine x_aloadn (x := 125) rfl rfl ?_
              refine z_getR (N := 92) (b := 126) 12 2 rfl f_12_8 rfl J rfl 16002 ⟨rfl, rfl⟩ rfl ?_
              refine x_iloadn (x := v24) rfl rfl ?_
              refine x_iconst (v := 1) rfl ki_1 ?_
              refine z_iadd rfl rfl jk_1 (by omega) (fun v26 ev26 => ?_)
              refine x_iloadn (x := a2) rfl rfl ?_
              refine z_iast (N := 50660) (l := 48460) (u := 48960) (w := a2.toInt) rfl hD J Sm rfl rfl rfl (by omega) rfl (wr_126_48460 (by omega) (fun q1 q2 q3 q4 => by omega) (fun q1 q2 q3 q4 => by omega) (fun q1 q2 q3 q4 => by omega) (fun q1 q2 q3 q4 => by omega) (fun q1 q2 q3 q4 => by omega)) rfl (fun h w27 J Sm => ?_)
              refine x_aloadn (x := 125) rfl rfl ?_
              refine z_getR (N := 92) (b := 126) 12 2 rfl f_12_8 rfl J rfl 16002 ⟨rfl, rfl⟩ rfl ?_
              refine x_iloadn (x := v24) rfl rfl ?_
              refine x_iconst (v := 2) rfl ki_2 ?_
              refine z_iadd rfl rfl jk_2 (by omega) (fun v28 ev28 => ?_)
              refine x_iload (x := a3) rfl rfl ?_
              refine z_iast (N := 50660) (l := 48460) (u := 48960) (w := a3.toInt) rfl hD J Sm rfl rfl rfl (by omega) rfl (wr_126_48460 (by omega) (fun q1 q2 q3 q4 => by omega) (fun q1 q2 q3 q4 => by omega) (fun q1 q2 q3 q4 => by omega) (fun q1 q2 q3 q4 => by omega) (fun q1 q2 q3 q4 => by omega)) rfl (fun h w29 J Sm => ?_)
              refine x_aloadn (x := 125) rfl rfl ?_
              refine z_getR (N := 92) (b := 126) 12 2 rfl f_12_8 rfl J rfl 16002 ⟨rfl, rfl⟩ rfl ?_
              refine x_iloadn (x := v24) rfl rfl ?_
              refine x_iconst (v := 3) rfl ki_3 ?_
              refine z_iadd rfl rfl jk_3 (by omega) (fun v30 ev30 => ?_)
              refine x_iload (x := a4) rfl rfl ?_
              refine z_iast (N := 50660) (l := 48460) (u := 48960) (w := a4.toInt) rfl hD J Sm rfl rfl rfl (by omega) rfl (wr_126_48460 (by omega) (fun q1 q2 q3 q4 => by omega) (fun q1 q2 q3 q4 => by omega) (fun q1 q2 q3 q4 => by omega) (fun q1 q2 q3 q4 => by omega) (fun q1 q2 q3 q4 => by omega)) rfl (fun h w31 J Sm => ?_)
              refine x_vret rfl rfl ?_
              show jX m_X12_pay 3 0 0 107 [(6, .int v24), (0, .ref 125), (1, .int a1), (2, .int a2), (3, .int a3), (4, .int a4), (5, .int a5)] [] _ 0 0 _
              refine x_aloadn (x := 125) rfl rfl ?_
              refine z_getR (N := 92) (b := 126) 12 2 rfl f_12_8 rfl J rfl 16002 ⟨rfl, rfl⟩ rfl ?_
              refine x_iload (x := v24) rfl rfl ?_
              refine x_iconst (v := 4) rfl ki_4 ?_
              refine z_iadd rfl rfl jk_4 (by omega) (fun v32 ev32 => ?_)
              refine x_iload (x := a5) rfl rfl ?_
              refine z_iast (N := 50660) (l := 48460) (u := 48960) (w := a5.toInt) rfl hD J Sm rfl rfl rfl (by omega) rfl (wr_126_48460 (by omega) (fun q1 q2 q3 q4 => by omega) (fun q1 q2 q3 q4 => by omega) (fun q1 q2 q3 q4 => by omega) (fun q1 q2 q3 q4 => by omega) (fun q1 q2 q3 q4 => by omega)) rfl (fun h w33 J Sm => ?_)
              refine x_aloadn (x := 125) rfl rfl ?_
              refine z_getR (N := 92) (b := 126) 12 2 rfl f_12_8 rfl J rfl 16002 ⟨rfl, rfl⟩ rfl ?_
              refine x_bipush (v := 12) rfl kb_12 ?_
              refine x_dup2 rfl rfl rfl ?_
              refine z_ialdM (N := 50660) (v := u1) rfl J rfl jk_12 (by omega) (jmo2 w33 rfl jk_12 (by omega) (jmo2 w31 rfl jk_12 (by omega) (jmo2 w29 rfl jk_12 (by omega) (jmo2 w27 rfl jk_12 (by omega) (jmo2 w25 rfl jk_12 (by omega) (jmo w4 rfl qu1)))))) ?_
              refine x_iconst (v := 1) rfl ki_1 ?_
              refine z_iadd rfl rfl jk_1 (by omega) (fun v34 ev34 => ?_)
              refine z_iast (N := 50660) (l := 12) (u := 13) (w := v34.toInt) rfl hD J Sm rfl rfl jk_12 (by omega) rfl (wr_126_12 (by omega) (fun q1 q2 q3 q4 => by omega)) rfl (fun h w35 J Sm => ?_)
              refine x_aloadn (x := 125) rfl rfl ?_
              refine x_aloadn (x := 125) rfl rfl ?_
              refine z_getR (N := 92) (b := 126) 12 2 rfl f_12_8 rfl J rfl 16002 ⟨rfl, rfl⟩ rfl ?_
              refine x_bipush (v := 12) rfl kb_12 ?_
              refine z_ialdM (N := 50660) (v := v34) rfl J rfl jk_12 (by omega) (jmw w35) ?_
              refine x_inv (N := m_X12_told) (As := [.int v34]) (b := 125) (st := []) (dx9 := 2) (mc := 0) (ms := 0) (host := "") 12 rfl t_X12_told ⟨Or.inl q_12_197, i_X12_told.1, i_X12_told.2⟩ ⟨by decide, rfl⟩ (congrArg Prod.fst (J.1.1 125 (12, 92) rfl)) rfl (by decide) rfl rfl ⟨by decide, by decide⟩ (jC.of rfl k_X12_told rfl ?_)
              show jX m_X12_told 2 0 0 0 [(0, .ref 125), (1, .int v34)] [] _ 0 0 _
              refine x_aloadn (x := 125) rfl rfl ?_
              refine x_iloadn (x := v34) rfl rfl ?_
              refine x_ifge (tgt := 9) rfl rfl (ti_ge rfl jk_0 (br_t (by omega) ?_))
              refine x_iconst (v := 0) rfl ki_0 ?_
              refine z_putI (N := 92) (w := 0) 12 1 rfl f_12_183 rfl (jfin_no TX12 RX12 92 rfl rfl) hD J Sm rfl rfl jk_0 (pw_125_1 (by omega)) rfl (fun h w36 J Sm => ?_)
              refine x_iloadn (x := v34) rfl rfl ?_
              refine x_iret rfl rfl ?_
              show jX m_X12_pay 3 0 0 140 [(6, .int v24), (0, .ref 125), (1, .int a1), (2, .int a2), (3, .int a3), (4, .int a4), (5, .int a5)] [.int v34] _ 0 0 _
              refine x_iret rfl rfl ?_
              exact hQ _ _ (jr_of rfl (by omega)) J Sm (Or.inr (Or.inr (Or.inr ⟨(by omega), (by omega), (by omega), (by omega), (mw_5 ou1 (by omega) (by omega) (ov_o w36 rfl (ov_w w35 (ov_w w33 (ov_w w31 (ov_w w29 (ov_w w27 (ov_w w25 (ov_o w4 rfl rfl)))))))) (by decide) (jix (by omega) (by omega)) (jix (by omega) (by omega)) (jix (by omega) (by omega)) (jix (by omega) (by omega)) (jix (by omega) (by omega)))⟩)))
            ·
              refine x_aloadn (x := 125) rfl rfl ?_
              refine x_bipush (v := (-5)) rfl kb_m5 ?_
              refine x_inv (N := m_X12_told) (As := [.int (-5)]) (b := 125) (st := []) (dx9 := 2) (mc := 0) (ms := 0) (host := "") 12 rfl t_X12_told ⟨Or.inl q_12_197, i_X12_told.1, i_X12_told.2⟩ ⟨by decide, rfl⟩ (congrArg Prod.fst (J.1.1 125 (12, 92) rfl)) rfl (by decide) rfl rfl ⟨by decide, by decide⟩ (jC.of rfl k_X12_told rfl ?_)
              show jX m_X12_told 2 0 0 0 [(0, .ref 125), (1, .int (-5))] [] _ 0 0 _
              refine x_aloadn (x := 125) rfl rfl ?_
              refine x_iloadn (x := (-5)) rfl rfl ?_
              refine x_ifge (tgt := 9) rfl rfl (ti_ge jk_m5 jk_0 (br_f (by omega) ?_))
              refine x_iloadn (x := (-5)) rfl rfl ?_
              refine x_goto (tgt := 10) rfl rfl ?_
              refine z_putI (N := 92) (w := (-5)) 12 1 rfl f_12_183 rfl (jfin_no TX12 RX12 92 rfl rfl) hD J Sm rfl rfl jk_m5 (pw_125_1 (by omega)) rfl (fun h w37 J Sm => ?_)
              refine x_iloadn (x := (-5)) rfl rfl ?_
              refine x_iret rfl rfl ?_
              show jX m_X12_pay 3 0 0 80 [(0, .ref 125), (1, .int a1), (2, .int a2), (3, .int a3), (4, .int a4), (5, .int a5)] [.int (-5)] _ 0 0 _
              refine x_iret rfl rfl ?_
              exact hQ _ _ (jr_of jk_m5 (by omega)) J Sm (Or.inr (Or.inr (Or.inl ⟨(by omega), (by omega), (by omega), jk_m5, (ov_o w37 rfl (ov_o w4 rfl rfl))⟩)))
          ·
            exact jX.sub (jsb_c rfl jsb_n) (ct_X12_pay_r125p_55 yy_a1 yy_a2 yy_a3 yy_a4 yy_a5 hD hQ  h ⟨w4, by omega, by omega⟩ J Sm)
      ·
        exact jX.sub (jsb_c rfl jsb_n) (ct_X12_pay_r125p_33 yy_a1 yy_a2 yy_a3 yy_a4 yy_a5 hD hQ  h ⟨w4, by omega⟩ J Sm)
