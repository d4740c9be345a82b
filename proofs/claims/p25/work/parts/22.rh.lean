def fp_X12_price_r125p : jFp := [(125, 0, 1), (125, 1, 2), (126, 15, 16), (126, 49520, 49920)]
set_option maxRecDepth 100000 in
set_option maxHeartbeats 4000000 in
theorem ct_X12_price_r125p_44 {Dy : jH → Prop} {h0 : jH} {Q : Option Value → jH → Prop} {a1 : Int32} (yy_a1 : (-2147483648) ≤ a1.toInt ∧ a1.toInt ≤ 2147483647) {a2 : Int32} (yy_a2 : (-2147483648) ≤ a2.toInt ∧ a2.toInt ≤ 2147483647) {a3 : Int32} (yy_a3 : (-2147483648) ≤ a3.toInt ∧ a3.toInt ≤ 2147483647) {a4 : Int32} (yy_a4 : (-2147483648) ≤ a4.toInt ∧ a4.toInt ≤ 2147483647) (hD : jDk Dy) (hQ : ∀ (v : Int32) hx9, (-5) ≤ v.toInt ∧ v.toInt ≤ 100 → jJ jSgM Dy hx9 → jSm fp_X12_price_r125p h0 hx9 → ((¬ (0 ≤ a1.toInt ∧ a1.toInt ≤ 2 ∧ 0 ≤ a2.toInt ∧ a2.toInt ≤ 399 ∧ 0 ≤ a3.toInt ∧ a3.toInt ≤ 10000 ∧ 0 ≤ a4.toInt ∧ a4.toInt ≤ 146399) ∧ v.toInt = -1 ∧ jiv hx9 126 = jiv h0 126) ∨ ((0 ≤ a1.toInt ∧ a1.toInt ≤ 2 ∧ 0 ≤ a2.toInt ∧ a2.toInt ≤ 399 ∧ 0 ≤ a3.toInt ∧ a3.toInt ≤ 10000 ∧ 0 ≤ a4.toInt ∧ a4.toInt ≤ 146399) ∧ (jiv h0 126 15).toInt = 100 ∧ v.toInt = -5 ∧ jiv hx9 126 = jiv h0 126) ∨ ((0 ≤ a1.toInt ∧ a1.toInt ≤ 2 ∧ 0 ≤ a2.toInt ∧ a2.toInt ≤ 399 ∧ 0 ≤ a3.toInt ∧ a3.toInt ≤ 10000 ∧ 0 ≤ a4.toInt ∧ a4.toInt ≤ 146399) ∧ (jiv h0 126 15).toInt < 100 ∧ v.toInt = (jiv h0 126 15).toInt + 1 ∧ jMw 15 49520 4 [a1, a2, a3, a4] h0 hx9)) → Q (some (.int v)) hx9) : ∀ (h : jH), (h = jsi h0 125 0 0 ∧ ¬ (0 ≤ a1.toInt ∧ a1.toInt ≤ 2 ∧ 0 ≤ a2.toInt ∧ a2.toInt ≤ 399 ∧ 0 ≤ a3.toInt ∧ a3.toInt ≤ 10000 ∧ 0 ≤ a4.toInt ∧ a4.toInt ≤ 146399)) → jJ jSgM Dy h → jSm fp_X12_price_r125p h0 h → jX m_X12_price 3 0 0 44 [(0, .ref 125)] [] h 0 0 Q := by
  intro  h C0   J Sm
  refine x_aloadn (x := 125) rfl rfl ?_
  refine x_iconst (v := (-1)) rfl ki_m1 ?_
  refine x_inv (N := m_X12_told) (As := [.int (-1)]) (b := 125) (st := []) (dx9 := 2) (mc := 0) (ms := 0) (host := "") 12 rfl t_X12_told ⟨Or.inl q_12_197, i_X12_told.1, i_X12_told.2⟩ ⟨by decide, rfl⟩ (congrArg Prod.fst (J.1.1 125 (12, 92) rfl)) rfl (by decide) rfl rfl ⟨by decide, by decide⟩ (jC.of rfl k_X12_told rfl ?_)
  show jX m_X12_told 2 0 0 0 [(0, .ref 125), (1, .int (-1))] [] _ 0 0 _
  refine x_aloadn (x := 125) rfl rfl ?_
  refine x_iloadn (x := (-1)) rfl rfl ?_
  refine x_ifge (tgt := 9) rfl rfl (ti_ge jk_m1 jk_0 (br_f (by omega) ?_))
  refine x_iloadn (x := (-1)) rfl rfl ?_
  refine x_goto (tgt := 10) rfl rfl ?_
  refine z_putI (N := 92) (w := (-1)) 12 1 rfl f_12_183 rfl (jfin_no TX12 RX12 92 rfl rfl) hD J Sm rfl rfl jk_m1 (pw_125_1 (by omega)) rfl (fun h w1 J Sm => ?_)
  refine x_iloadn (x := (-1)) rfl rfl ?_
  refine x_iret rfl rfl ?_
  show jX m_X12_price 3 0 0 49 [(0, .ref 125)] [.int (-1)] _ 0 0 _
  refine x_iret rfl rfl ?_
  exact hQ _ _ (jr_of jk_m1 (by omega)) J Sm (Or.inl ⟨C0.2, jk_m1, (ov_o w1 rfl (ov_e1 C0.1 rfl))⟩)
set_option maxRecDepth 100000 in
set_option maxHeartbeats 4000000 in
theorem sf_X12_price_r125p {Dy : jH → Prop} {h : jH} {Q : Option Value → jH → Prop} {a1 : Int32} {a2 : Int32} {a3 : Int32} {a4 : Int32} (hD : jDk Dy) (J : jJ jSgM Dy h) (hQ : ∀ (v : Int32) hx9, (-5) ≤ v.toInt ∧ v.toInt ≤ 100 → jJ jSgM Dy hx9 → jSm fp_X12_price_r125p h hx9 → ((¬ (0 ≤ a1.toInt ∧ a1.toInt ≤ 2 ∧ 0 ≤ a2.toInt ∧ a2.toInt ≤ 399 ∧ 0 ≤ a3.toInt ∧ a3.toInt ≤ 10000 ∧ 0 ≤ a4.toInt ∧ a4.toInt ≤ 146399) ∧ v.toInt = -1 ∧ jiv hx9 126 = jiv h 126) ∨ ((0 ≤ a1.toInt ∧ a1.toInt ≤ 2 ∧ 0 ≤ a2.toInt ∧ a2.toInt ≤ 399 ∧ 0 ≤ a3.toInt ∧ a3.toInt ≤ 10000 ∧ 0 ≤ a4.toInt ∧ a4.toInt ≤ 146399) ∧ (jiv h 126 15).toInt = 100 ∧ v.toInt = -5 ∧ jiv hx9 126 = jiv h 126) ∨ ((0 ≤ a1.toInt ∧ a1.toInt ≤ 2 ∧ 0 ≤ a2.toInt ∧ a2.toInt ≤ 399 ∧ 0 ≤ a3.toInt ∧ a3.toInt ≤ 10000 ∧ 0 ≤ a4.toInt ∧ a4.toInt ≤ 146399) ∧ (jiv h 126 15).toInt < 100 ∧ v.toInt = (jiv h 126 15).toInt + 1 ∧ jMw 15 49520 4 [a1, a2, a3, a4] h hx9)) → Q (some (.int v)) hx9) : jC m_X12_price 3 0 0 [.ref 125, .int a1, .int a2, .int a3, .int a4] h Q := by
  refine jC.of rfl k_X12_price rfl ?_
  have Sm := jSm_rf fp_X12_price_r125p h
  have yy_a1 := jfull a1
  have yy_a2 := jfull a2
  have yy_a3 := jfull a3
  have yy_a4 := jfull a4
  have ea1 := jfull a1
  have ea2 := jfull a2
  have ea3 := jfull a3
  have ea4 := jfull a4
  show jX m_X12_price 3 0 0 0 [(0, .ref 125), (1, .int a1), (2, .int a2), (3, .int a3), (4, .int a4)] [] _ 0 0 _
  obtain ⟨u1, qu1⟩ : ∃ v : Int32, jiv h 126 (15 : Int32).toNatClampNeg = v := ⟨_, rfl⟩
  have eu1 := (show 0 ≤ u1.toInt ∧ u1.toInt ≤ 100 from qu1 ▸ jrg_c J sg_126_15_16_1_0_1 jk_15 (by omega))
  have ou1 := ov_n (n := 15) (by decide) qu1
  refine x_aloadn (x := 125) rfl rfl ?_
  refine x_iconst (v := 0) rfl ki_0 ?_
  refine z_putI (N := 92) (w := 0) 12 0 rfl f_12_180 rfl (jfin_no TX12 RX12 92 rfl rfl) hD J Sm rfl rfl jk_0 (pw_125_0 (by omega)) rfl (fun h w2 J Sm => ?_)
  refine x_iloadn (x := a1) rfl rfl ?_
  refine z_i2l rfl rfl (fun v3 ev3 => ?_)
  refine x_lconst (v := 0) rfl kl_0 ?_
  refine x_ldc2 (v := 2) rfl z_12_482 ?_
  refine x_inst (N := m_X12_in) (As := [.long v3, .long 0, .long 2]) (st := []) (dx9 := 1) (mc := 0) (ms := 0) (host := "") rfl t_X12_in ⟨Or.inl q_12_188, s_X12_in⟩ rfl (by decide) rfl rfl ⟨by decide, by decide⟩ (zc_X12_in rfl jkl_0 jkl_2 (fun v4 ev4 => ?_))
  show jX m_X12_price 3 0 0 14 [(0, .ref 125), (1, .int a1), (2, .int a2), (3, .int a3), (4, .int a4)] [.int v4] _ 0 0 _
  refine x_ifeq (tgt := 44) rfl rfl (ti_eq rfl jk_0 ⟨fun c5 => ?_, fun c5 => ?_⟩)
  ·
    exact jX.sub (jsb_c rfl jsb_n) (ct_X12_price_r125p_44 yy_a1 yy_a2 yy_a3 yy_a4 hD hQ  h ⟨w2, by omega⟩ J Sm)
  ·
    refine x_iloadn (x := a2) rfl rfl ?_
    refine x_inst (N := m_X12_isYear) (As := [.int a2]) (st := []) (dx9 := 2) (mc := 0) (ms := 0) (host := "") rfl t_X12_isYear ⟨Or.inl q_12_817, s_X12_isYear⟩ rfl (by decide) rfl rfl ⟨by decide, by decide⟩ (zc_X12_isYear (d := 1) rfl (fun v6 ev6 => ?_))
    show jX m_X12_price 3 0 0 21 [(0, .ref 125), (1, .int a1), (2, .int a2), (3, .int a3), (4, .int a4)] [.int v6] _ 0 0 _
    refine x_ifeq (tgt := 44) rfl rfl (ti_eq rfl jk_0 ⟨fun c7 => ?_, fun c7 => ?_⟩)
    ·
      exact jX.sub (jsb_c rfl jsb_n) (ct_X12_price_r125p_44 yy_a1 yy_a2 yy_a3 yy_a4 hD hQ  h ⟨w2, by omega⟩ J Sm)
    ·
      refine x_iloadn (x := a3) rfl rfl ?_
      refine z_i2l rfl rfl (fun v8 ev8 => ?_)
      refine x_lconst (v := 0) rfl kl_0 ?_
      refine x_ldc2 (v := 10000) rfl z_12_809 ?_
      refine x_inst (N := m_X12_in) (As := [.long v8, .long 0, .long 10000]) (st := []) (dx9 := 1) (mc := 0) (ms := 0) (host := "") rfl t_X12_in ⟨Or.inl q_12_188, s_X12_in⟩ rfl (by decide) rfl rfl ⟨by decide, by decide⟩ (zc_X12_in rfl jkl_0 jkl_10000 (fun v9 ev9 => ?_))
      show jX m_X12_price 3 0 0 33 [(0, .ref 125), (1, .int a1), (2, .int a2), (3, .int a3), (4, .int a4)] [.int v9] _ 0 0 _
      refine x_ifeq (tgt := 44) rfl rfl (ti_eq rfl jk_0 ⟨fun c10 => ?_, fun c10 => ?_⟩)
      ·
        exact jX.sub (jsb_c rfl jsb_n) (ct_X12_price_r125p_44 yy_a1 yy_a2 yy_a3 yy_a4 hD hQ  h ⟨w2, by omega⟩ J Sm)
      ·
        refine x_iload (x := a4) rfl rfl ?_
        refine x_inst (N := m_X12_isDay) (As := [.int a4]) (st := []) (dx9 := 2) (mc := 0) (ms := 0) (host := "") rfl t_X12_isDay ⟨Or.inl q_12_273, s_X12_isDay⟩ rfl (by decide) rfl rfl ⟨by decide, by decide⟩ (zc_X12_isDay (d := 1) rfl (fun v11 ev11 => ?_))
        show jX m_X12_price 3 0 0 41 [(0, .ref 125), (1, .int a1), (2, .int a2), (3, .int a3), (4, .int a4)] [.int v11] _ 0 0 _
        refine x_ifne (tgt := 50) rfl rfl (ti_ne rfl jk_0 ⟨fun c12 => ?_, fun c12 => ?_⟩)
        ·
          refine x_aloadn (x := 125) rfl rfl ?_
          refine z_getR (N := 92) (b := 126) 12 2 rfl f_12_8 rfl J rfl 16002 ⟨rfl, rfl⟩ rfl ?_
          refine x_bipush (v := 15) rfl kb_15 ?_
          refine z_ialdM (N := 50660) (v := u1) rfl J rfl jk_15 (by omega) (jmo w2 rfl qu1) ?_
          refine x_bipush (v := 100) rfl kb_100 ?_
          refine x_icne (tgt := 69) rfl rfl (ti_ne rfl jk_100 ⟨fun c13 => ?_, fun c13 => ?_⟩)
          ·
            refine x_aloadn (x := 125) rfl rfl ?_
            refine x_ldcw (v := 49520) rfl z_12_857 ?_
            refine x_iconst (v := 4) rfl ki_4 ?_
            refine x_aloadn (x := 125) rfl rfl ?_
            refine z_getR (N := 92) (b := 126) 12 2 rfl f_12_8 rfl J rfl 16002 ⟨rfl, rfl⟩ rfl ?_
            refine x_bipush (v := 15) rfl kb_15 ?_
            refine z_ialdM (N := 50660) (v := u1) rfl J rfl jk_15 (by omega) (jmo w2 rfl qu1) ?_
            refine z_imul rfl jk_4 rfl (by omega) (fun v14 ev14 => ?_)
            refine z_iadd rfl jk_49520 rfl (by omega) (fun v15 ev15 => ?_)
            refine x_iloadn (x := a1) rfl rfl ?_
            refine x_iloadn (x := a2) rfl rfl ?_
            refine x_iloadn (x := a3) rfl rfl ?_
            refine x_iload (x := a4) rfl rfl ?_
            refine x_inv (N := m_X12_addFour) (As := [.int v15, .int a1, .int a2, .int a3, .int a4]) (b := 125) (st := []) (dx9 := 2) (mc := 0) (ms := 0) (host := "") 12 rfl t_X12_addFour ⟨Or.inl q_12_814, i_X12_addFour.1, i_X12_addFour.2⟩ ⟨by decide, rfl⟩ (congrArg Prod.fst (J.1.1 125 (12, 92) rfl)) rfl (by decide) rfl rfl ⟨by decide, by decide⟩ (jC.of rfl k_X12_addFour rfl ?_)
            show jX m_X12_addFour 2 0 0 0 [(0, .ref 125), (1, .int v15), (2, .int a1), (3, .int a2), (4, .int a3), (5, .int a4)] [] _ 0 0 _
            refine x_aloadn (x := 125) rfl rfl ?_
            refine z_getR (N := 92) (b := 126) 12 2 rfl f_12_8 rfl J rfl 16002 ⟨rfl, rfl⟩ rfl ?_
            refine x_iloadn (x := v15) rfl rfl ?_
            refine x_iloadn (x := a1) rfl rfl ?_
            refine z_iast (N := 50660) (l := 49520) (u := 49920) (w := a1.toInt) rfl hD J Sm rfl rfl rfl (by omega) rfl (wr_126_49520 (by omega) (fun q1 q2 q3 q4 => by omega) (fun q1 q2 q3 q4 => by omega) (fun q1 q2 q3 q4 => by omega) (fun q1 q2 q3 q4 => by omega)) rfl (fun h w16 J Sm => ?_)
            refine x_aloadn (x := 125) rfl rfl ?_
            refine z_getR (N := 92) (b := 126) 12 2 rfl f_12_8 rfl J rfl 16002 ⟨rfl, rfl⟩ rfl ?_
            refine x_iloadn (x := v15) rfl rfl ?_
            refine x_iconst (v := 1) rfl ki_1 ?_
            refine z_iadd rfl rfl jk_1 (by omega) (fun v17 ev17 => ?_)
            refine x_iloadn (x := a2) rfl rfl ?_
            refine z_iast (N := 50660) (l := 49520) (u := 49920) (w := a2.toInt) rfl hD J Sm rfl rfl rfl (by omega) rfl (wr_126_49520 (by omega) (fun q1 q2 q3 q4 => by omega) (fun q1 q2 q3 q4 => by omega) (fun q1 q2 q3 q4 => by omega) (fun q1 q2 q3 q4 => by omega)) rfl (fun h w18 J Sm => ?_)
            refine x_aloadn (x := 125) rfl rfl ?_
            refine z_getR (N := 92) (b := 126) 12 2 rfl f_12_8 rfl J rfl 16002 ⟨rfl, rfl⟩ rfl ?_
            refine x_iloadn (x := v15) rfl rfl ?_
            refine x_iconst (v := 2) rfl ki_2 ?_
            refine z_iadd rfl rfl jk_2 (by omega) (fun v19 ev19 => ?_)
            refine x_iload (x := a3) rfl rfl ?_
            refine z_iast (N := 50660) (l := 49520) (u := 49920) (w := a3.toInt) rfl hD J Sm rfl rfl rfl (by omega) rfl (wr_126_49520 (by omega) (fun q1 q2 q3 q4 => by omega) (fun q1 q2 q3 q4 => by omega) (fun q1 q2 q3 q4 => by omega) (fun q1 q2 q3 q4 => by omega)) rfl (fun h w20 J Sm => ?_)
            refine x_aloadn (x := 125) rfl rfl ?_
            refine z_getR (N := 92) (b := 126) 12 2 rfl f_12_8 rfl J rfl 16002 ⟨rfl, rfl⟩ rfl ?_
            refine x_iloadn (x := v15) rfl rfl ?_
            refine x_iconst (v := 3) rfl ki_3 ?_
            refine z_iadd rfl rfl jk_3 (by omega) (fun v21 ev21 => ?_)
            refine x_iload (x := a4) rfl rfl ?_
            refine z_iast (N := 50660) (l := 49520) (u := 49920) (w := a4.toInt) rfl hD J Sm rfl rfl rfl (by omega) rfl (wr_126_49520 (by omega) (fun q1 q2 q3 q4 => by omega) (fun q1 q2 q3 q4 => by omega) (fun q1 q2 q3 q4 => by omega) (fun q1 q2 q3 q4 => by omega)) rfl (fun h w22 J Sm => ?_)
            refine x_vret rfl rfl ?_
            show jX m_X12_price 3 0 0 91 [(0, .ref 125), (1, .int a1), (2, .int a2), (3, .int a3), (4, .int a4)] [] _ 0 0 _
            refine x_aloadn (x := 125) rfl rfl ?_
            refine z_getR (N := 92) (b := 126) 12 2 rfl f_12_8 rfl J rfl 16002 ⟨rfl, rfl⟩ rfl ?_
            refine x_bipush (v := 15) rfl kb_15 ?_
            refine x_dup2 rfl rfl rfl ?_
            refine z_ialdM (N := 50660) (v := u1) rfl J rfl jk_15 (by omega) (jmo2 w22 rfl jk_15 (by omega) (jmo2 w20 rfl jk_15 (by omega) (jmo2 w18 rfl jk_15 (by omega) (jmo2 w16 rfl jk_15 (by omega) (jmo w2 rfl qu1))))) ?_
            refine x_iconst (v := 1) rfl ki_1 ?_
            refine z_iadd rfl rfl jk_1 (by omega) (fun v23 ev23 => ?_)
            refine z_iast (N := 50660) (l := 15) (u := 16) (w := v23.toInt) rfl hD J Sm rfl rfl jk_15 (by omega) rfl (wr_126_15 (by omega) (fun q1 q2 q3 q4 => by omega)) rfl (fun h w24 J Sm => ?_)
            refine x_aloadn (x := 125) rfl rfl ?_
            refine x_aloadn (x := 125) rfl rfl ?_
            refine z_getR (N := 92) (b := 126) 12 2 rfl f_12_8 rfl J rfl 16002 ⟨rfl, rfl⟩ rfl ?_
            refine x_bipush (v := 15) rfl kb_15 ?_
            refine z_ialdM (N := 50660) (v := v23) rfl J rfl jk_15 (by omega) (jmw w24) ?_
            refine x_inv (N := m_X12_told) (As := [.int v23]) (b := 125) (st := []) (dx9 := 2) (mc := 0) (ms := 0) (host := "") 12 rfl t_X12_told ⟨Or.inl q_12_197, i_X12_told.1, i_X12_told.2⟩ ⟨by decide, rfl⟩ (congrArg Prod.fst (J.1.1 125 (12, 92) rfl)) rfl (by decide) rfl rfl ⟨by decide, by decide⟩ (jC.of rfl k_X12_told rfl ?_)
            show jX m_X12_told 2 0 0 0 [(0, .ref 125), (1, .int v23)] [] _ 0 0 _
            refine x_aloadn (x := 125) rfl rfl ?_
            refine x_iloadn (x := v23) rfl rfl ?_
            refine x_ifge (tgt := 9) rfl rfl (ti_ge rfl jk_0 (br_t (by omega) ?_))
            refine x_iconst (v := 0) rfl ki_0 ?_
            refine z_putI (N := 92) (w := 0) 12 1 rfl f_12_183 rfl (jfin_no TX12 RX12 92 rfl rfl) hD J Sm rfl rfl jk_0 (pw_125_1 (by omega)) rfl (fun h w25 J Sm => ?_)
            refine x_iloadn (x := v23) rfl rfl ?_
            refine x_iret rfl rfl ?_
            show jX m_X12_price 3 0 0 113 [(0, .ref 125), (1, .int a1), (2, .int a2), (3, .int a3), (4, .int a4)] [.int v23] _ 0 0 _
            refine x_iret rfl rfl ?_
            exact hQ _ _ (jr_of rfl (by omega)) J Sm (Or.inr (Or.inr ⟨(by omega), (by omega), (by omega), (mw_4 ou1 (by omega) (by omega) (ov_o w25 rfl (ov_w w24 (ov_w w22 (ov_w w20 (ov_w w18 (ov_w w16 (ov_o w2 rfl rfl))))))) (by decide) (jix (by omega) (by omega)) (jix (by omega) (by omega)) (jix (by omega) (by omega)) (jix (by omega) (by omega)))⟩))
          ·
            refine x_aloadn (x := 125) rfl rfl ?_
            refine x_bipush (v := (-5)) rfl kb_m5 ?_
            refine x_inv (N := m_X12_told) (As := [.int (-5)]) (b := 125) (st := []) (dx9 := 2) (mc := 0) (ms := 0) (host := "") 12 rfl t_X12_told ⟨Or.inl q_12_197, i_X12_told.1, i_X12_told.2⟩ ⟨by decide, rfl⟩ (congrArg Prod.fst (J.1.1 125 (12, 92) rfl)) rfl (by decide) rfl rfl ⟨by decide, by decide⟩ (jC.of rfl k_X12_told rfl ?_)
            show jX m_X12_told 2 0 0 0 [(0, .ref 125), (1, .int (-5))] [] _ 0 0 _
            refine x_aloadn (x := 125) rfl rfl ?_
            refine x_iloadn (x := (-5)) rfl rfl ?_
            refine x_ifge (tgt := 9) rfl rfl (ti_ge jk_m5 jk_0 (br_f (by omega) ?_))
            refine x_iloadn (x := (-5)) rfl rfl ?_
            refine x_goto (tgt := 10) rfl rfl ?_
            refine z_putI (N := 92) (w := (-5)) 12 1 rfl f_12_183 rfl (jfin_no TX12 RX12 92 rfl rfl) hD J Sm rfl rfl jk_m5 (pw_125_1 (by omega)) rfl (fun h w26 J Sm => ?_)
            refine x_iloadn (x := (-5)) rfl rfl ?_
            refine x_iret rfl rfl ?_
            show jX m_X12_price 3 0 0 68 [(0, .ref 125), (1, .int a1), (2, .int a2), (3, .int a3), (4, .int a4)] [.int (-5)] _ 0 0 _
            refine x_iret rfl rfl ?_
            exact hQ _ _ (jr_of jk_m5 (by omega)) J Sm (Or.inr (Or.inl ⟨(by omega), (by omega), jk_m5, (ov_o w26 rfl (ov_o w2 rfl rfl))⟩))
        ·
          exact jX.sub (jsb_c rfl jsb_n) (ct_X12_price_r125p_44 yy_a1 yy_a2 yy_a3 yy_a4 hD hQ  h ⟨w2, by omega⟩ J Sm)
def fp_X12_spell_r125p : jFp := [(125, 0, 1), (125, 1, 2), (125, 8, 9), (125, 9, 10), (125, 10, 11), (125, 11, 12), (125, 12, 13), (125, 13, 14), (125, 14, 15), (125, 18, 19), (132, 0, 16), (133, 0, 256), (134, 0, 768), (135, 0, 16), (136, 0, 48)]
set_option maxRecDepth 100000 in
set_option maxHeartbeats 4000000 in
theorem ct_X12_spell_r125p_94 {Dy : jH → Prop} {h0 : jH} {Q : Option Value → jH → Prop} (hD : jDk Dy) (hQ : ∀ (v : Int32) hx9, jJ jSgM Dy hx9 → jSm fp_X12_spell_r125p h0 hx9 → (jiv hx9 125 8).toInt = 0 → Q (some (.int v)) hx9) : ∀ (l1 : Int32) (g0 : Int32) (g1 : Int32) (g2 : Int32) (g3 : Int32) (g4 : Int32) (h : jH), 0 ≤ l1.toInt ∧ l1.toInt ≤ 15 → 0 ≤ g0.toInt ∧ g0.toInt ≤ 400 → 0 ≤ g1.toInt ∧ g1.toInt ≤ 3 → 0 ≤ g2.toInt ∧ g2.toInt ≤ 1 → 0 ≤ g3.toInt ∧ g3.toInt ≤ 400 → 0 ≤ g4.toInt ∧ g4.toInt ≤ 400 → jSo h → (g0.toInt ≤ g3.toInt ∧ g4.toInt ≤ g0.toInt) → (g1.toInt = 0 ∨ g4.toInt + 1 ≤ g0.toInt) → jiv h 125 10 = g0 → jiv h 125 11 = g1 → jiv h 125 14 = g2 → jiv h 125 8 = g3 → jiv h 125 9 = g4 → jJ jSgM Dy h → jSm fp_X12_spell_r125p h0 h → jX m_X12_spell 6 0 0 94 [(0, .ref 125), (1, .int l1)] [] h 0 0 Q := by
  intro l1 g0 g1 g2 g3 g4 h y0 y1 y2 y3 y4 y5 C0 y7 y8 z0 z1 z2 z3 z4  J Sm
  refine x_aloadn (x := 125) rfl rfl ?_
  refine x_iconst (v := 0) rfl ki_0 ?_
  refine z_putI (N := 92) (w := 0) 12 8 rfl f_12_201 rfl (jfin_no TX12 RX12 92 rfl rfl) hD J Sm rfl rfl jk_0 (pw_125_8 (by omega)) rfl (fun h w1 J Sm => ?_)
  refine x_aloadn (x := 125) rfl rfl ?_
  refine z_getM (N := 92) (v := g2) 12 14 rfl f_12_214 rfl J rfl (jmo w1 rfl z2) ?_
  refine x_ifeq (tgt := 113) rfl rfl (ti_eq rfl jk_0 ⟨fun c2 => ?_, fun c2 => ?_⟩)
  ·
    obtain ⟨u3, qu3⟩ : ∃ v : Int32, jiv h 125 18 = v := ⟨_, rfl⟩
    have eu3 := (show 0 ≤ u3.toInt ∧ u3.toInt ≤ 8 from qu3 ▸ jrg_f J sg_125_18_19_1_0_1)
    exact jX.sub (jsb_c rfl (jsb_c rfl jsb_n)) (sp_tail (FP := fp_spt) hD J (jSm_rf _ _) rfl rfl rfl rfl (by omega) (by omega) qu3 (jso_use (jso_mv (jeq_o w1 rfl jeq_0) (jmo w1 rfl rfl) (jmo w1 rfl rfl) C0) (jmo w1 rfl z2) (by omega) qu3) (fun v h J S => hQ v h J (jSm_tr rfl Sm S) (sp_t0 S (jmw w1))))
  ·
    refine x_aloadn (x := 125) rfl rfl ?_
    refine x_bipush (v := (-6)) rfl kb_m6 ?_
    refine x_inv (N := m_X12_told) (As := [.int (-6)]) (b := 125) (st := []) (dx9 := 1) (mc := 0) (ms := 0) (host := "") 12 rfl t_X12_told ⟨Or.inl q_12_197, i_X12_told.1, i_X12_told.2⟩ ⟨by decide, rfl⟩ (congrArg Prod.fst (J.1.1 125 (12, 92) rfl)) rfl (by decide) rfl rfl ⟨by decide, by decide⟩ (sf_X12_told_r125  hD J  (fun v5 h J S4 => ?_))
    have ev5 := jfull v5
    have Sm := jSm_tr rfl Sm S4
    show jX m_X12_spell 6 0 0 112 [(0, .ref 125), (1, .int l1)] [.int v5] _ 0 0 _
    refine x_iret rfl rfl ?_
    exact hQ _ _ J Sm (by have := congrArg Int32.toInt (jmc S4 rfl (jmw w1)); have := jk_0; omega)
set_option maxRecDepth 100000 in
set_option maxHeartbeats 4000000 in
theorem ct_X12_spell_r125p_75 {Dy : jH → Prop} {h0 : jH} {Q : Option Value → jH → Prop} (hD : jDk Dy) (hQ : ∀ (v : Int32) hx9, jJ jSgM Dy hx9 → jSm fp_X12_spell_r125p h0 hx9 → (jiv hx9 125 8).toInt = 0 → Q (some (.int v)) hx9) : ∀ (l1 : Int32) (g0 : Int32) (g1 : Int32) (g2 : Int32) (g3 : Int32) (g4 : Int32) (h : jH), 0 ≤ l1.toInt ∧ l1.toInt ≤ 15 → 0 ≤ g0.toInt ∧ g0.toInt ≤ 400 → 0 ≤ g1.toInt ∧ g1.toInt ≤ 3 → 0 ≤ g2.toInt ∧ g2.toInt ≤ 1 → 0 ≤ g3.toInt ∧ g3.toInt ≤ 400 → 0 ≤ g4.toInt ∧ g4.toInt ≤ 400 → jSo h → (g0.toInt ≤ g3.toInt ∧ g4.toInt ≤ g0.toInt) → (g1.toInt = 0 ∨ g4.toInt + 1 ≤ g0.toInt) → jiv h 125 10 = g0 → jiv h 125 11 = g1 → jiv h 125 14 = g2 → jiv h 125 8 = g3 → jiv h 125 9 = g4 → jJ jSgM Dy h → jSm fp_X12_spell_r125p h0 h → jX m_X12_spell 6 0 0 75 [(0, .ref 125), (1, .int l1)] [] h 0 0 Q := by
  intro l1 g0 g1 g2 g3 g4 h y0 y1 y2 y3 y4 y5 C0 y7 y8 z0 z1 z2 z3 z4  J Sm
  refine x_aloadn (x := 125) rfl rfl ?_
  refine z_getM (N := 92) (v := g2) 12 14 rfl f_12_214 rfl J rfl z2 ?_
  refine x_ifne (tgt := 94) rfl rfl (ti_ne rfl jk_0 ⟨fun c1 => ?_, fun c1 => ?_⟩)
  ·
    exact jX.sub (jsb_c rfl (jsb_c rfl jsb_n)) (ct_X12_spell_r125p_94 hD hQ  l1 g0 g1 g2 g3 g4 h (jr_of rfl (by omega)) (jr_of rfl (by omega)) (jr_of rfl (by omega)) (jr_of rfl (by omega)) (jr_of rfl (by omega)) (jr_of rfl (by omega)) C0 (by omega) (by omega) z0 z1 z2 z3 z4 J Sm)
  ·
    refine x_aloadn (x := 125) rfl rfl ?_
    refine z_getM (N := 92) (v := g1) 12 11 rfl f_12_235 rfl J rfl z1 ?_
    refine x_ifeq (tgt := 94) rfl rfl (ti_eq rfl jk_0 ⟨fun c2 => ?_, fun c2 => ?_⟩)
    ·
      exact jX.sub (jsb_c rfl (jsb_c rfl jsb_n)) (ct_X12_spell_r125p_94 hD hQ  l1 g0 g1 g2 g3 g4 h (jr_of rfl (by omega)) (jr_of rfl (by omega)) (jr_of rfl (by omega)) (jr_of rfl (by omega)) (jr_of rfl (by omega)) (jr_of rfl (by omega)) C0 (by omega) (by omega) z0 z1 z2 z3 z4 J Sm)
    ·
      refine x_aloadn (x := 125) rfl rfl ?_
      refine x_iconst (v := 0) rfl ki_0 ?_
      refine x_inv (N := m_X12_must) (As := [.int 0]) (b := 125) (st := []) (dx9 := 5) (mc := 0) (ms := 0) (host := "") 12 rfl t_X12_must ⟨Or.inl q_12_250, i_X12_must.1, i_X12_must.2⟩ ⟨by decide, rfl⟩ (congrArg Prod.fst (J.1.1 125 (12, 92) rfl)) rfl (by decide) rfl rfl ⟨by decide, by decide⟩ (jC.of rfl k_X12_must rfl ?_)
      show jX m_X12_must 5 0 0 0 [(0, .ref 125), (1, .int 0)] [] _ 0 0 _
      refine x_aloadn (x := 125) rfl rfl ?_
      refine z_getM (N := 92) (v := g2) 12 14 rfl f_12_214 rfl J rfl z2 ?_
      refine x_ifne (tgt := 24) rfl rfl (ti_ne rfl jk_0 (bn_f (by omega) ?_))
      refine x_iloadn (x := 0) rfl rfl ?_
      refine x_ifne (tgt := 24) rfl rfl (ti_ne jk_0 jk_0 (bn_f (by omega) ?_))
      refine x_aloadn (x := 125) rfl rfl ?_
      refine x_iconst (v := 1) rfl ki_1 ?_
      refine z_putZ (N := 92) (w := 1) 12 14 rfl f_12_214 rfl (jfin_no TX12 RX12 92 rfl rfl) hD J Sm rfl rfl jk_1 (by omega) (pw_125_14 (by omega)) rfl (fun h w3 J Sm => ?_)
      refine x_aloadn (x := 125) rfl rfl ?_
      refine x_aloadn (x := 125) rfl rfl ?_
      refine z_getM (N := 92) (v := g4) 12 9 rfl f_12_221 rfl J rfl (jmo w3 rfl z4) ?_
      refine z_putI (N := 92) (w := g4.toInt) 12 13 rfl f_12_32 rfl (jfin_no TX12 RX12 92 rfl rfl) hD J Sm rfl rfl rfl (pw_125_13 (by omega)) rfl (fun h w4 J Sm => ?_)
      refine x_aloadn (x := 125) rfl rfl ?_
      refine z_getM (N := 92) (v := 1) 12 14 rfl f_12_214 rfl J rfl (jmo w4 rfl (jmw w3)) ?_
      refine x_ifne (tgt := 35) rfl rfl (ti_ne jk_1 jk_0 (bn_t (by omega) ?_))
      refine x_vret rfl rfl ?_
      show jX m_X12_spell 6 0 0 94 [(0, .ref 125), (1, .int l1)] [] _ 0 0 _
      exact jX.sub (jsb_c rfl (jsb_c rfl jsb_n)) (ct_X12_spell_r125p_94 hD hQ  l1 g0 g1 1 g3 g4 h (jr_of rfl (by omega)) (jr_of rfl (by omega)) (jr_of rfl (by omega)) (jr_of jk_1 (by omega)) (jr_of rfl (by omega)) (jr_of rfl (by omega)) (Or.inl (by rw [(jmo w4 rfl (jmw w3))]; decide)) (by omega) (by omega) (jmo w4 rfl (jmo w3 rfl z0)) (jmo w4 rfl (jmo w3 rfl z1)) (jmo w4 rfl (jmw w3)) (jmo w4 rfl (jmo w3 rfl z3)) (jmo w4 rfl (jmo w3 rfl z4)) J Sm)
set_option maxRecDepth 100000 in
set_option maxHeartbeats 4000000 in
theorem ct_X12_spell_r125p_48 {Dy : jH → Prop} {h0 : jH} {Q : Option Value → jH → Prop} (hD : jDk Dy) (hQ : ∀ (v : Int32) hx9, jJ jSgM Dy hx9 → jSm fp_X12_spell_r125p h0 hx9 → (jiv hx9 125 8).toInt = 0 → Q (some (.int v)) hx9) : ∀ r : Nat, ∀ (l1 : Int32) (g0 : Int32) (g1 : Int32) (g2 : Int32) (g3 : Int32) (h : jH), jsm h < (r : Int) → 0 ≤ l1.toInt ∧ l1.toInt ≤ 15 → 0 ≤ g0.toInt ∧ g0.toInt ≤ 400 → 0 ≤ g1.toInt ∧ g1.toInt ≤ 3 → 0 ≤ g2.toInt ∧ g2.toInt ≤ 400 → 0 ≤ g3.toInt ∧ g3.toInt ≤ 400 → jSo h → (g0.toInt ≤ g2.toInt ∧ g3.toInt ≤ g0.toInt) → (g1.toInt = 0 ∨ g3.toInt + 1 ≤ g0.toInt) → jiv h 125 10 = g0 → jiv h 125 11 = g1 → jiv h 125 8 = g2 → jiv h 125 9 = g3 → jJ jSgM Dy h → jSm fp_X12_spell_r125p h0 h → jX m_X12_spell 6 0 0 48 [(0, .ref 125), (1, .int l1)] [] h 0 0 Q := by
  intro r
  induction r with
  | zero =>
    intro l1 g0 g1 g2 g3 h hm y0 y1 y2 y3 y4 C0 y6 y7 z0 z1 z2 z3  J Sm
    exfalso
    have := (jsm_b (h := h) (jrg_f J sg_125_18_19_1_0_1)).1; omega
  | succ r ih =>
    intro l1 g0 g1 g2 g3 h hm y0 y1 y2 y3 y4 C0 y6 y7 z0 z1 z2 z3  J Sm
    refine x_aloadn (x := 125) rfl rfl ?_
    refine z_getI (N := 92) 12 14 rfl f_12_214 rfl J rfl sg_125_14_15_1_0_1 (fun v1 qv1 ev1 => ?_)
    refine x_ifne (tgt := 75) rfl rfl (ti_ne rfl jk_0 ⟨fun c2 => ?_, fun c2 => ?_⟩)
    ·
      exact jX.sub (jsb_c rfl (jsb_c rfl jsb_n)) (ct_X12_spell_r125p_75 hD hQ  l1 g0 g1 v1 g2 g3 h (jr_of rfl (by omega)) (jr_of rfl (by omega)) (jr_of rfl (by omega)) (jr_of rfl (by omega)) (jr_of rfl (by omega)) (jr_of rfl (by omega)) C0 (by omega) (by omega) z0 z1 qv1 z2 z3 J Sm)
    ·
      refine x_aloadn (x := 125) rfl rfl ?_
      refine x_bipush (v := 44) rfl kb_44 ?_
      refine x_inv (N := m_X12_isSign) (As := [.int 44]) (b := 125) (st := []) (dx9 := 5) (mc := 0) (ms := 0) (host := "") 12 rfl t_X12_isSign ⟨Or.inl q_12_257, i_X12_isSign.1, i_X12_isSign.2⟩ ⟨by decide, rfl⟩ (congrArg Prod.fst (J.1.1 125 (12, 92) rfl)) rfl (by decide) rfl rfl ⟨by decide, by decide⟩ (jC.of rfl k_X12_isSign rfl ?_)
      show jX m_X12_isSign 5 0 0 0 [(0, .ref 125), (1, .int 44)] [] _ 0 0 _
      refine x_aloadn (x := 125) rfl rfl ?_
      refine z_getM (N := 92) (v := g1) 12 11 rfl f_12_235 rfl J rfl z1 ?_
      refine x_iconst (v := 3) rfl ki_3 ?_
      refine x_icne (tgt := 22) rfl rfl (ti_ne rfl jk_3 ⟨fun c3 => ?_, fun c3 => ?_⟩)
      ·
        refine x_iconst (v := 0) rfl ki_0 ?_
        refine x_zret rfl rfl (by decide) ?_
        show jX m_X12_spell 6 0 0 61 [(0, .ref 125), (1, .int l1)] [.int 0] _ 0 0 _
        refine x_ifeq (tgt := 75) rfl rfl (ti_eq jk_0 jk_0 (br_t (by omega) ?_))
        exact jX.sub (jsb_c rfl (jsb_c rfl jsb_n)) (ct_X12_spell_r125p_75 hD hQ  l1 g0 g1 v1 g2 g3 h (jr_of rfl (by omega)) (jr_of rfl (by omega)) (jr_of rfl (by omega)) (jr_of rfl (by omega)) (jr_of rfl (by omega)) (jr_of rfl (by omega)) C0 (by omega) (by omega) z0 z1 qv1 z2 z3 J Sm)
      ·
        refine x_aloadn (x := 125) rfl rfl ?_
        refine z_getL0 (N := 92) 12 12 rfl f_12_224 rfl J rfl (fun v4 => ?_)
        have ev4 := jfullL v4
        refine x_iloadn (x := 44) rfl rfl ?_
        refine z_i2l rfl jk_44 (fun v5 ev5 => ?_)
        refine z_lcmp rfl rfl rfl (fun v6 ev6 => ?_)
        refine x_ifne (tgt := 22) rfl rfl (ti_ne rfl jk_0 ⟨fun c7 => ?_, fun c7 => ?_⟩)
        ·
          refine x_iconst (v := 0) rfl ki_0 ?_
          refine x_zret rfl rfl (by decide) ?_
          show jX m_X12_spell 6 0 0 61 [(0, .ref 125), (1, .int l1)] [.int 0] _ 0 0 _
          refine x_ifeq (tgt := 75) rfl rfl (ti_eq jk_0 jk_0 (br_t (by omega) ?_))
          exact jX.sub (jsb_c rfl (jsb_c rfl jsb_n)) (ct_X12_spell_r125p_75 hD hQ  l1 g0 g1 v1 g2 g3 h (jr_of rfl (by omega)) (jr_of rfl (by omega)) (jr_of rfl (by omega)) (jr_of rfl (by omega)) (jr_of rfl (by omega)) (jr_of rfl (by omega)) C0 (by omega) (by omega) z0 z1 qv1 z2 z3 J Sm)
        ·
          refine x_iconst (v := 1) rfl ki_1 ?_
          refine x_goto (tgt := 23) rfl rfl ?_
          refine x_zret rfl rfl (by decide) ?_
          show jX m_X12_spell 6 0 0 61 [(0, .ref 125), (1, .int l1)] [.int 1] _ 0 0 _
          refine x_ifeq (tgt := 75) rfl rfl (ti_eq jk_1 jk_0 (br_f (by omega) ?_))
          refine x_aloadn (x := 125) rfl rfl ?_
          refine x_inv (N := m_X12_next) (As := []) (b := 125) (st := []) (dx9 := 2) (mc := 0) (ms := 0) (host := "") 12 rfl t_X12_next ⟨Or.inl q_12_218, i_X12_next.1, i_X12_next.2⟩ ⟨by decide, rfl⟩ (congrArg Prod.fst (J.1.1 125 (12, 92) rfl)) rfl (by decide) rfl rfl ⟨by decide, by decide⟩ (sf_X12_next_r125  hD J z0 z2 (by omega)  (fun h J S8 u9 u10 u11 qu9 qu10 qu11 ru9 u12 u13 u14 qu12 qu13 qu14 ru12 P15 => ?_))
          have Sm := jSm_tr rfl Sm S8
          have eu9 := (show 0 ≤ u9.toInt ∧ u9.toInt ≤ 400 from qu9 ▸ jrg_f J sg_125_10_11_1_0_1)
          have eu10 := (show 0 ≤ u10.toInt ∧ u10.toInt ≤ 400 from qu10 ▸ jrg_f J sg_125_8_9_1_0_1)
          have eu11 := (show 0 ≤ u11.toInt ∧ u11.toInt ≤ 400 from qu11 ▸ jrg_f J sg_125_9_10_1_0_1)
          have eu12 := (show 0 ≤ u12.toInt ∧ u12.toInt ≤ 3 from qu12 ▸ jrg_f J sg_125_11_12_1_0_1)
          obtain rfl : u11 = u13 := qu11.symm.trans qu13
          obtain rfl : u9 = u14 := qu9.symm.trans qu14
          have nfP15 := jnf P15.1 z0 qu11
          show jX m_X12_spell 6 0 0 68 [(0, .ref 125), (1, .int l1)] [] _ 0 0 _
          refine x_aloadn (x := 125) rfl rfl ?_
          have J16 := J
          refine x_inv (N := m_X12_readPair) (As := []) (b := 125) (st := []) (dx9 := 5) (mc := 0) (ms := 0) (host := "") 12 rfl t_X12_readPair ⟨Or.inl q_12_308, i_X12_readPair.1, i_X12_readPair.2⟩ ⟨by decide, rfl⟩ (congrArg Prod.fst (J.1.1 125 (12, 92) rfl)) rfl (by decide) rfl rfl ⟨by decide, by decide⟩ (sf_X12_readPair_r125  hD J qu9 qu10 qu11 (by omega) qu12 qu11 qu9 (by omega)  (fun h J S17 u18 u19 u20 qu18 qu19 qu20 ru18 u21 u22 u23 qu21 qu22 qu23 ru21 P24 => ?_))
          have Sm := jSm_tr rfl Sm S17
          have eu18 := (show 0 ≤ u18.toInt ∧ u18.toInt ≤ 400 from qu18 ▸ jrg_f J sg_125_10_11_1_0_1)
          have eu19 := (show 0 ≤ u19.toInt ∧ u19.toInt ≤ 400 from qu19 ▸ jrg_f J sg_125_8_9_1_0_1)
          have eu20 := (show 0 ≤ u20.toInt ∧ u20.toInt ≤ 400 from qu20 ▸ jrg_f J sg_125_9_10_1_0_1)
          have eu21 := (show 0 ≤ u21.toInt ∧ u21.toInt ≤ 3 from qu21 ▸ jrg_f J sg_125_11_12_1_0_1)
          obtain rfl : u20 = u22 := qu20.symm.trans qu22
          obtain rfl : u18 = u23 := qu18.symm.trans qu23
          show jX m_X12_spell 6 0 0 72 [(0, .ref 125), (1, .int l1)] [] _ 0 0 _
          refine x_goto (tgt := 48) rfl rfl ?_
          exact jX.sub (jsb_c rfl (jsb_c rfl jsb_n)) (ih l1 u18 u21 u19 u20 h (by have e := jsm_e (jmc S8 rfl rfl) (jmc S8 rfl rfl); have q := jsm_p P24 (by rw [(jmc S8 rfl qv1)]; omega) (by have := jrg_f J16 sg_125_18_19_1_0_1; omega); omega) (jr_of rfl (by omega)) (jr_of rfl (by omega)) (jr_of rfl (by omega)) (jr_of rfl (by omega)) (jr_of rfl (by omega)) (jso_p (jso_mv (jeq_c S8 rfl jeq_0) (jmc S8 rfl rfl) (jmc S8 rfl rfl) C0) P24 (jrg_f J16 sg_125_18_19_1_0_1).1) (by omega) (by omega) qu18 qu21 qu19 qu20 J Sm)
set_option maxRecDepth 100000 in
set_option maxHeartbeats 4000000 in
theorem sf_X12_spell_r125p {Dy : jH → Prop} {h : jH} {Q : Option Value → jH → Prop} {a1 : Int32} (hD : jDk Dy) (J : jJ jSgM Dy h) (hQ : ∀ (v : Int32) hx9, jJ jSgM Dy hx9 → jSm fp_X12_spell_r125p h hx9 → (jiv hx9 125 8).toInt = 0 → Q (some (.int v)) hx9) : jC m_X12_spell 6 0 0 [.ref 125, .int a1] h Q := by
  refine jC.of rfl k_X12_spell rfl ?_
  have Sm := jSm_rf fp_X12_spell_r125p h
  have ea1 := jfull a1
  show jX m_X12_spell 6 0 0 0 [(0, .ref 125), (1, .int a1)] [] _ 0 0 _
  refine x_aloadn (x := 125) rfl rfl ?_
  refine x_iconst (v := 0) rfl ki_0 ?_
  refine z_putI (N := 92) (w := 0) 12 0 rfl f_12_180 rfl (jfin_no TX12 RX12 92 rfl rfl) hD J Sm rfl rfl jk_0 (pw_125_0 (by omega)) rfl (fun h w1 J Sm => ?_)
  refine x_iloadn (x := a1) rfl rfl ?_
  refine z_i2l rfl rfl (fun v2 ev2 => ?_)
  refine x_lconst (v := 0) rfl kl_0 ?_
  refine x_ldc2 (v := 15) rfl z_12_271 ?_
  refine x_inst (N := m_X12_in) (As := [.long v2, .long 0, .long 15]) (st := []) (dx9 := 1) (mc := 0) (ms := 0) (host := "") rfl t_X12_in ⟨Or.inl q_12_188, s_X12_in⟩ rfl (by decide) rfl rfl ⟨by decide, by decide⟩ (zc_X12_in rfl jkl_0 jkl_15 (fun v3 ev3 => ?_))
  show jX m_X12_spell 6 0 0 14 [(0, .ref 125), (1, .int a1)] [.int v3] _ 0 0 _
  refine x_ifne (tgt := 28) rfl rfl (ti_ne rfl jk_0 ⟨fun c4 => ?_, fun c4 => ?_⟩)
  ·
    refine x_aloadn (x := 125) rfl rfl ?_
    refine x_inv (N := m_X12_begin) (As := []) (b := 125) (st := []) (dx9 := 5) (mc := 0) (ms := 0) (host := "") 12 rfl t_X12_begin ⟨Or.inl q_12_280, i_X12_begin.1, i_X12_begin.2⟩ ⟨by decide, rfl⟩ (congrArg Prod.fst (J.1.1 125 (12, 92) rfl)) rfl (by decide) rfl rfl ⟨by decide, by decide⟩ (jC.of rfl k_X12_begin rfl ?_)
    show jX m_X12_begin 5 0 0 0 [(0, .ref 125)] [] _ 0 0 _
    refine x_aloadn (x := 125) rfl rfl ?_
    refine x_iconst (v := 0) rfl ki_0 ?_
    refine z_putI (N := 92) (w := 0) 12 10 rfl f_12_211 rfl (jfin_no TX12 RX12 92 rfl rfl) hD J Sm rfl rfl jk_0 (pw_125_10 (by omega)) rfl (fun h w5 J Sm => ?_)
    refine x_aloadn (x := 125) rfl rfl ?_
    refine x_iconst (v := 0) rfl ki_0 ?_
    refine z_putZ (N := 92) (w := 0) 12 14 rfl f_12_214 rfl (jfin_no TX12 RX12 92 rfl rfl) hD J Sm rfl rfl jk_0 (by omega) (pw_125_14 (by omega)) rfl (fun h w6 J Sm => ?_)
    refine x_aloadn (x := 125) rfl rfl ?_
    refine x_iconst (v := (-1)) rfl ki_m1 ?_
    refine z_putI (N := 92) (w := (-1)) 12 13 rfl f_12_32 rfl (jfin_no TX12 RX12 92 rfl rfl) hD J Sm rfl rfl jk_m1 (pw_125_13 (by omega)) rfl (fun h w7 J Sm => ?_)
    refine x_aloadn (x := 125) rfl rfl ?_
    obtain ⟨u8, qu8⟩ : ∃ v : Int32, jiv h 125 8 = v := ⟨_, rfl⟩
    have eu8 := (show 0 ≤ u8.toInt ∧ u8.toInt ≤ 400 from qu8 ▸ jrg_f J sg_125_8_9_1_0_1)
    refine x_inv (N := m_X12_next) (As := []) (b := 125) (st := []) (dx9 := 2) (mc := 0) (ms := 0) (host := "") 12 rfl t_X12_next ⟨Or.inl q_12_218, i_X12_next.1, i_X12_next.2⟩ ⟨by decide, rfl⟩ (congrArg Prod.fst (J.1.1 125 (12, 92) rfl)) rfl (by decide) rfl rfl ⟨by decide, by decide⟩ (sf_X12_next_r125  hD J (jmo w7 rfl (jmo w6 rfl (jmw w5))) qu8 (by have := jk_0; omega)  (fun h J S9 u10 u11 u12 qu10 qu11 qu12 ru10 u13 u14 u15 qu13 qu14 qu15 ru13 P16 => ?_))
    have Sm := jSm_tr rfl Sm S9
    have eu10 := (show 0 ≤ u10.toInt ∧ u10.toInt ≤ 400 from qu10 ▸ jrg_f J sg_125_10_11_1_0_1)
    have eu11 := (show 0 ≤ u11.toInt ∧ u11.toInt ≤ 400 from qu11 ▸ jrg_f J sg_125_8_9_1_0_1)
    have eu12 := (show 0 ≤ u12.toInt ∧ u12.toInt ≤ 400 from qu12 ▸ jrg_f J sg_125_9_10_1_0_1)
    have eu13 := (show 0 ≤ u13.toInt ∧ u13.toInt ≤ 3 from qu13 ▸ jrg_f J sg_125_11_12_1_0_1)
    obtain rfl : u12 = u14 := qu12.symm.trans qu14
    obtain rfl : u10 = u15 := qu10.symm.trans qu15
    have nfP16 := jnf P16.1 (jmo w7 rfl (jmo w6 rfl (jmw w5))) qu12
    show jX m_X12_begin 5 0 0 19 [(0, .ref 125)] [] _ 0 0 _
    refine x_vret rfl rfl ?_
    show jX m_X12_spell 6 0 0 32 [(0, .ref 125), (1, .int a1)] [] _ 0 0 _
    refine x_aloadn (x := 125) rfl rfl ?_
    refine x_iconst (v := 0) rfl ki_0 ?_
    refine z_putI (N := 92) (w := 0) 12 18 rfl f_12_302 rfl (jfin_no TX12 RX12 92 rfl rfl) hD J Sm rfl rfl jk_0 (pw_125_18 (by omega)) rfl (fun h w17 J Sm => ?_)
    refine x_aloadn (x := 125) rfl rfl ?_
    refine z_getM (N := 92) (v := u13) 12 11 rfl f_12_235 rfl J rfl (jmo w17 rfl qu13) ?_
    refine x_ifeq (tgt := 94) rfl rfl (ti_eq rfl jk_0 ⟨fun c18 => ?_, fun c18 => ?_⟩)
    ·
      exact jX.sub (jsb_c rfl (jsb_c rfl jsb_n)) (ct_X12_spell_r125p_94 hD hQ  a1 u10 u13 0 u11 u12 h (jr_of rfl (by omega)) (jr_of rfl (by omega)) (jr_of rfl (by omega)) (jr_of jk_0 (by omega)) (jr_of rfl (by omega)) (jr_of rfl (by omega)) (jso_0 (jmw w17)) (by omega) (by omega) (jmo w17 rfl qu10) (jmo w17 rfl qu13) (jmo w17 rfl (jmc S9 rfl (jmo w7 rfl (jmw w6)))) (jmo w17 rfl qu11) (jmo w17 rfl qu12) J Sm)
    ·
      refine x_aloadn (x := 125) rfl rfl ?_
      have J19 := J
      refine x_inv (N := m_X12_readPair) (As := []) (b := 125) (st := []) (dx9 := 5) (mc := 0) (ms := 0) (host := "") 12 rfl t_X12_readPair ⟨Or.inl q_12_308, i_X12_readPair.1, i_X12_readPair.2⟩ ⟨by decide, rfl⟩ (congrArg Prod.fst (J.1.1 125 (12, 92) rfl)) rfl (by decide) rfl rfl ⟨by decide, by decide⟩ (sf_X12_readPair_r125  hD J (jmo w17 rfl qu10) (jmo w17 rfl qu11) (jmo w17 rfl qu12) (by omega) (jmo w17 rfl qu13) (jmo w17 rfl qu12) (jmo w17 rfl qu10) (by omega)  (fun h J S20 u21 u22 u23 qu21 qu22 qu23 ru21 u24 u25 u26 qu24 qu25 qu26 ru24 P27 => ?_))
      have Sm := jSm_tr rfl Sm S20
      have eu21 := (show 0 ≤ u21.toInt ∧ u21.toInt ≤ 400 from qu21 ▸ jrg_f J sg_125_10_11_1_0_1)
      have eu22 := (show 0 ≤ u22.toInt ∧ u22.toInt ≤ 400 from qu22 ▸ jrg_f J sg_125_8_9_1_0_1)
      have eu23 := (show 0 ≤ u23.toInt ∧ u23.toInt ≤ 400 from qu23 ▸ jrg_f J sg_125_9_10_1_0_1)
      have eu24 := (show 0 ≤ u24.toInt ∧ u24.toInt ≤ 3 from qu24 ▸ jrg_f J sg_125_11_12_1_0_1)
      obtain rfl : u23 = u25 := qu23.symm.trans qu25
      obtain rfl : u21 = u26 := qu21.symm.trans qu26
      show jX m_X12_spell 6 0 0 48 [(0, .ref 125), (1, .int a1)] [] _ 0 0 _
      exact jX.sub (jsb_c rfl (jsb_c rfl jsb_n)) (ct_X12_spell_r125p_48 hD hQ  12 a1 u21 u24 u22 u23 h (by have := (jsm_b (h := h) (jrg_f J sg_125_18_19_1_0_1)).2; omega) (jr_of rfl (by omega)) (jr_of rfl (by omega)) (jr_of rfl (by omega)) (jr_of rfl (by omega)) (jr_of rfl (by omega)) (jso_p (jso_0 (jmw w17)) P27 (jrg_f J19 sg_125_18_19_1_0_1).1) (by omega) (by omega) qu21 qu24 qu22 qu23 J Sm)
  ·
    refine x_aloadn (x := 125) rfl rfl ?_
    refine x_iconst (v := 0) rfl ki_0 ?_
    refine z_putI (N := 92) (w := 0) 12 8 rfl f_12_201 rfl (jfin_no TX12 RX12 92 rfl rfl) hD J Sm rfl rfl jk_0 (pw_125_8 (by omega)) rfl (fun h w28 J Sm => ?_)
    refine x_aloadn (x := 125) rfl rfl ?_
    refine x_iconst (v := (-1)) rfl ki_m1 ?_
    refine x_inv (N := m_X12_told) (As := [.int (-1)]) (b := 125) (st := []) (dx9 := 1) (mc := 0) (ms := 0) (host := "") 12 rfl t_X12_told ⟨Or.inl q_12_197, i_X12_told.1, i_X12_told.2⟩ ⟨by decide, rfl⟩ (congrArg Prod.fst (J.1.1 125 (12, 92) rfl)) rfl (by decide) rfl rfl ⟨by decide, by decide⟩ (sf_X12_told_r125  hD J  (fun v30 h J S29 => ?_))
    have ev30 := jfull v30
    have Sm := jSm_tr rfl Sm S29
    show jX m_X12_spell 6 0 0 27 [(0, .ref 125), (1, .int a1)] [.int v30] _ 0 0 _
    refine x_iret rfl rfl ?_
    exact hQ _ _ J Sm (by have := congrArg Int32.toInt (jmc S29 rfl (jmw w28)); have := jk_0; omega)
def fp_X12_split_r125p : jFp := [(125, 0, 1), (125, 1, 2), (126, 7, 8), (126, 9, 10), (126, 16, 17), (126, 47660, 47900), (126, 49920, 50660)]
set_option maxRecDepth 100000 in
set_option maxHeartbeats 4000000 in
theorem ct_X12_split_r125p_46 {Dy : jH → Prop} {h0 : jH} {Q : Option Value → jH → Prop} {a1 : Int32} (yy_a1 : (-2147483648) ≤ a1.toInt ∧ a1.toInt ≤ 2147483647) {a2 : Int32} (yy_a2 : (-2147483648) ≤ a2.toInt ∧ a2.toInt ≤ 2147483647) {a3 : Int32} (yy_a3 : (-2147483648) ≤ a3.toInt ∧ a3.toInt ≤ 2147483647) {a4 : Int32} (yy_a4 : (-2147483648) ≤ a4.toInt ∧ a4.toInt ≤ 2147483647) {a5 : Int32} (yy_a5 : (-2147483648) ≤ a5.toInt ∧ a5.toInt ≤ 2147483647) (hD : jDk Dy) (hQ : ∀ (v : Int32) hx9, (-5) ≤ v.toInt ∧ v.toInt ≤ 39 → jJ jSgM Dy hx9 → jSm fp_X12_split_r125p h0 hx9 → ∀ u0 u1 u2 u3 u4 : Int32, jiv hx9 126 (16 : Int32).toNatClampNeg = u0 → jiv hx9 126 (0 : Int32).toNatClampNeg = u1 → jiv hx9 126 (4 : Int32).toNatClampNeg = u2 → jiv hx9 126 (5 : Int32).toNatClampNeg = u3 → jiv hx9 126 (7 : Int32).toNatClampNeg = u4 → u0.toInt = u1.toInt + u2.toInt + u3.toInt + u4.toInt → ∀ u5 u6 : Int32, jiv hx9 126 (9 : Int32).toNatClampNeg = u5 → jiv hx9 126 (7 : Int32).toNatClampNeg = u6 → u5.toInt ≤ u6.toInt → ((¬ (1 ≤ a2.toInt ∧ a2.toInt < a3.toInt ∧ a3.toInt ≤ 100 ∧ 0 ≤ a4.toInt ∧ a4.toInt ≤ 146399 ∧ 0 ≤ a5.toInt ∧ a5.toInt ≤ 146399) ∧ v.toInt = -1 ∧ jiv hx9 126 7 = jiv h0 126 7) ∨ ((1 ≤ a2.toInt ∧ a2.toInt < a3.toInt ∧ a3.toInt ≤ 100 ∧ 0 ≤ a4.toInt ∧ a4.toInt ≤ 146399 ∧ 0 ≤ a5.toInt ∧ a5.toInt ≤ 146399) ∧ ¬ (0 ≤ a1.toInt ∧ a1.toInt < (jiv h0 126 7).toInt) ∧ v.toInt = -2 ∧ jiv hx9 126 7 = jiv h0 126 7) ∨ ((1 ≤ a2.toInt ∧ a2.toInt < a3.toInt ∧ a3.toInt ≤ 100 ∧ 0 ≤ a4.toInt ∧ a4.toInt ≤ 146399 ∧ 0 ≤ a5.toInt ∧ a5.toInt ≤ 146399) ∧ (0 ≤ a1.toInt ∧ a1.toInt < (jiv h0 126 7).toInt) ∧ (jiv h0 126 7).toInt = 40 ∧ v.toInt = -5 ∧ jiv hx9 126 7 = jiv h0 126 7) ∨ ((1 ≤ a2.toInt ∧ a2.toInt < a3.toInt ∧ a3.toInt ≤ 100 ∧ 0 ≤ a4.toInt ∧ a4.toInt ≤ 146399 ∧ 0 ≤ a5.toInt ∧ a5.toInt ≤ 146399) ∧ (0 ≤ a1.toInt ∧ a1.toInt < (jiv h0 126 7).toInt) ∧ (jiv h0 126 7).toInt < 40 ∧ v.toInt = (jiv h0 126 7).toInt + 0 ∧ (jiv hx9 126 7).toInt = (jiv h0 126 7).toInt + 1)) → Q (some (.int v)) hx9) : ∀ (g0 : Int32) (g1 : Int32) (g2 : Int32) (g3 : Int32) (g4 : Int32) (g5 : Int32) (h : jH), 0 ≤ g0.toInt ∧ g0.toInt ≤ 200 → 0 ≤ g1.toInt ∧ g1.toInt ≤ 370 → 0 ≤ g2.toInt ∧ g2.toInt ≤ 30 → 0 ≤ g3.toInt ∧ g3.toInt ≤ 100 → 0 ≤ g4.toInt ∧ g4.toInt ≤ 40 → 0 ≤ g5.toInt ∧ g5.toInt ≤ 40 → (h = jsi h0 125 0 0 ∧ ¬ (1 ≤ a2.toInt ∧ a2.toInt < a3.toInt ∧ a3.toInt ≤ 100 ∧ 0 ≤ a4.toInt ∧ a4.toInt ≤ 146399 ∧ 0 ≤ a5.toInt ∧ a5.toInt ≤ 146399)) → g1.toInt = g0.toInt + g2.toInt + g3.toInt + g4.toInt → g5.toInt ≤ g4.toInt → jiv h 126 (0 : Int32).toNatClampNeg = g0 → jiv h 126 (16 : Int32).toNatClampNeg = g1 → jiv h 126 (4 : Int32).toNatClampNeg = g2 → jiv h 126 (5 : Int32).toNatClampNeg = g3 → jiv h 126 (7 : Int32).toNatClampNeg = g4 → jiv h 126 (9 : Int32).toNatClampNeg = g5 → jJ jSgM Dy h → jSm fp_X12_split_r125p h0 h → jX m_X12_split 3 0 0 46 [(0, .ref 125)] [] h 0 0 Q := by
  intro g0 g1 g2 g3 g4 g5 h y0 y1 y2 y3 y4 y5 C0 y7 y8 z0 z1 z2 z3 z4 z5  J Sm
  refine x_aloadn (x := 125) rfl rfl ?_
  refine x_iconst (v := (-1)) rfl ki_m1 ?_
  refine x_inv (N := m_X12_told) (As := [.int (-1)]) (b := 125) (st := []) (dx9 := 2) (mc := 0) (ms := 0) (host := "") 12 rfl t_X12_told ⟨Or.inl q_12_197, i_X12_told.1, i_X12_told.2⟩ ⟨by decide, rfl⟩ (congrArg Prod.fst (J.1.1 125 (12, 92) rfl)) rfl (by decide) rfl rfl ⟨by decide, by decide⟩ (jC.of rfl k_X12_told rfl ?_)
  show jX m_X12_told 2 0 0 0 [(0, .ref 125), (1, .int (-1))] [] _ 0 0 _
  refine x_aloadn (x := 125) rfl rfl ?_
  refine x_iloadn (x := (-1)) rfl rfl ?_
  refine x_ifge (tgt := 9) rfl rfl (ti_ge jk_m1 jk_0 (br_f (by omega) ?_))
  refine x_iloadn (x := (-1)) rfl rfl ?_
  refine x_goto (tgt := 10) rfl rfl ?_
  refine z_putI (N := 92) (w := (-1)) 12 1 rfl f_12_183 rfl (jfin_no TX12 RX12 92 rfl rfl) hD J Sm rfl rfl jk_m1 (pw_125_1 (by omega)) rfl (fun h w1 J Sm => ?_)
  refine x_iloadn (x := (-1)) rfl rfl ?_
  refine x_iret rfl rfl ?_
  show jX m_X12_split 3 0 0 51 [(0, .ref 125)] [.int (-1)] _ 0 0 _
  refine x_iret rfl rfl ?_
  exact hQ _ _ (jr_of jk_m1 (by omega)) J Sm _ _ _ _ _ (jmo w1 rfl z1) (jmo w1 rfl z0) (jmo w1 rfl z2) (jmo w1 rfl z3) (jmo w1 rfl z4) (by omega) _ _ (jmo w1 rfl z5) (jmo w1 rfl z4) (by omega) (Or.inl ⟨C0.2, jk_m1, (congrFun (ov_o w1 rfl (ov_e1 C0.1 rfl)) 7)⟩)
set_option maxRecDepth 100000 in
set_option maxHeartbeats 4000000 in
theorem sf_X12_split_r125p {Dy : jH → Prop} {h : jH} {Q : Option Value → jH → Prop} {a1 : Int32} {a2 : Int32} {a3 : Int32} {a4 : Int32} {a5 : Int32} (hD : jDk Dy) (J : jJ jSgM Dy h) {p0 p1 p2 p3 p4 : Int32} {p5 p6 : Int32} (zp0 : jiv h 126 (16 : Int32).toNatClampNeg = p0) (zp1 : jiv h 126 (0 : Int32).toNatClampNeg = p1) (zp2 : jiv h 126 (4 : Int32).toNatClampNeg = p2) (zp3 : jiv h 126 (5 : Int32).toNatClampNeg = p3) (zp4 : jiv h 126 (7 : Int32).toNatClampNeg = p4) (rl_p0 : p0.toInt = p1.toInt + p2.toInt + p3.toInt + p4.toInt) (zp5 : jiv h 126 (9 : Int32).toNatClampNeg = p5) (zp6 : jiv h 126 (7 : Int32).toNatClampNeg = p6) (rl_p5 : p5.toInt ≤ p6.toInt) (hQ : ∀ (v : Int32) hx9, (-5) ≤ v.toInt ∧ v.toInt ≤ 39 → jJ jSgM Dy hx9 → jSm fp_X12_split_r125p h hx9 → ∀ u0 u1 u2 u3 u4 : Int32, jiv hx9 126 (16 : Int32).toNatClampNeg = u0 → jiv hx9 126 (0 : Int32).toNatClampNeg = u1 → jiv hx9 126 (4 : Int32).toNatClampNeg = u2 → jiv hx9 126 (5 : Int32).toNatClampNeg = u3 → jiv hx9 126 (7 : Int32).toNatClampNeg = u4 → u0.toInt = u1.toInt + u2.toInt + u3.toInt + u4.toInt → ∀ u5 u6 : Int32, jiv hx9 126 (9 : Int32).toNatClampNeg = u5 → jiv hx9 126 (7 : Int32).toNatClampNeg = u6 → u5.toInt ≤ u6.toInt → ((¬ (1 ≤ a2.toInt ∧ a2.toInt < a3.toInt ∧ a3.toInt ≤ 100 ∧ 0 ≤ a4.toInt ∧ a4.toInt ≤ 146399 ∧ 0 ≤ a5.toInt ∧ a5.toInt ≤ 146399) ∧ v.toInt = -1 ∧ jiv hx9 126 7 = jiv h 126 7) ∨ ((1 ≤ a2.toInt ∧ a2.toInt < a3.toInt ∧ a3.toInt ≤ 100 ∧ 0 ≤ a4.toInt ∧ a4.toInt ≤ 146399 ∧ 0 ≤ a5.toInt ∧ a5.toInt ≤ 146399) ∧ ¬ (0 ≤ a1.toInt ∧ a1.toInt < (jiv h 126 7).toInt) ∧ v.toInt = -2 ∧ jiv hx9 126 7 = jiv h 126 7) ∨ ((1 ≤ a2.toInt ∧ a2.toInt < a3.toInt ∧ a3.toInt ≤ 100 ∧ 0 ≤ a4.toInt ∧ a4.toInt ≤ 146399 ∧ 0 ≤ a5.toInt ∧ a5.toInt ≤ 146399) ∧ (0 ≤ a1.toInt ∧ a1.toInt < (jiv h 126 7).toInt) ∧ (jiv h 126 7).toInt = 40 ∧ v.toInt = -5 ∧ jiv hx9 126 7 = jiv h 126 7) ∨ ((1 ≤ a2.toInt ∧ a2.toInt < a3.toInt ∧ a3.toInt ≤ 100 ∧ 0 ≤ a4.toInt ∧ a4.toInt ≤ 146399 ∧ 0 ≤ a5.toInt ∧ a5.toInt ≤ 146399) ∧ (0 ≤ a1.toInt ∧ a1.toInt < (jiv h 126 7).toInt) ∧ (jiv h 126 7).toInt < 40 ∧ v.toInt = (jiv h 126 7).toInt + 0 ∧ (jiv hx9 126 7).toInt = (jiv h 126 7).toInt + 1)) → Q (some (.int v)) hx9) : jC m_X12_split 3 0 0 [.ref 125, .int a1, .int a2, .int a3, .int a4, .int a5] h Q := by
  refine jC.of rfl k_X12_split rfl ?_
  have Sm := jSm_rf fp_X12_split_r125p h
  have ep0 := (show 0 ≤ p0.toInt ∧ p0.toInt ≤ 370 from zp0 ▸ jrg_c J sg_126_16_17_1_0_1 jk_16 (by omega))
  have ep1 := (show 0 ≤ p1.toInt ∧ p1.toInt ≤ 200 from zp1 ▸ jrg_c J sg_126_0_1_1_0_1 jk_0 (by omega))
  have ep2 := (show 0 ≤ p2.toInt ∧ p2.toInt ≤ 30 from zp2 ▸ jrg_c J sg_126_4_5_1_0_1 jk_4 (by omega))
  have ep3 := (show 0 ≤ p3.toInt ∧ p3.toInt ≤ 100 from zp3 ▸ jrg_c J sg_126_5_6_1_0_1 jk_5 (by omega))
  have ep4 := (show 0 ≤ p4.toInt ∧ p4.toInt ≤ 40 from zp4 ▸ jrg_c J sg_126_7_8_1_0_1 jk_7 (by omega))
  have ep5 := (show 0 ≤ p5.toInt ∧ p5.toInt ≤ 40 from zp5 ▸ jrg_c J sg_126_9_10_1_0_1 jk_9 (by omega))
  have ep6 := (show 0 ≤ p6.toInt ∧ p6.toInt ≤ 40 from zp6 ▸ jrg_c J sg_126_7_8_1_0_1 jk_7 (by omega))
  obtain rfl : p4 = p6 := zp4.symm.trans zp6
  have yy_a1 := jfull a1
  have yy_a2 := jfull a2
  have yy_a3 := jfull a3
  have yy_a4 := jfull a4
  have yy_a5 := jfull a5
  have ea1 := jfull a1
  have ea2 := jfull a2
  have ea3 := jfull a3
  have ea4 := jfull a4
  have ea5 := jfull a5
  show jX m_X12_split 3 0 0 0 [(0, .ref 125), (1, .int a1), (2, .int a2), (3, .int a3), (4, .int a4), (5, .int a5)] [] _ 0 0 _
  have op4 := ov_n (n := 7) (by decide) zp4
  refine x_aloadn (x := 125) rfl rfl ?_
  refine x_iconst (v := 0) rfl ki_0 ?_
  refine z_putI (N := 92) (w := 0) 12 0 rfl f_12_180 rfl (jfin_no TX12 RX12 92 rfl rfl) hD J Sm rfl rfl jk_0 (pw_125_0 (by omega)) rfl (fun h w1 J Sm => ?_)
  refine x_iloadn (x := a3) rfl rfl ?_
  refine z_i2l rfl rfl (fun v2 ev2 => ?_)
  refine x_lconst (v := 1) rfl kl_1 ?_
  refine x_ldc2 (v := 100) rfl z_12_331 ?_
  refine x_inst (N := m_X12_in) (As := [.long v2, .long 1, .long 100]) (st := []) (dx9 := 1) (mc := 0) (ms := 0) (host := "") rfl t_X12_in ⟨Or.inl q_12_188, s_X12_in⟩ rfl (by decide) rfl rfl ⟨by decide, by decide⟩ (zc_X12_in rfl jkl_1 jkl_100 (fun v3 ev3 => ?_))
  show jX m_X12_split 3 0 0 14 [(0, .ref 125), (1, .int a1), (2, .int a2), (3, .int a3), (4, .int a4), (5, .int a5)] [.int v3] _ 0 0 _
  refine x_ifeq (tgt := 46) rfl rfl (ti_eq rfl jk_0 ⟨fun c4 => ?_, fun c4 => ?_⟩)
  ·
    exact jX.sub (jsb_c rfl jsb_n) (ct_X12_split_r125p_46 yy_a1 yy_a2 yy_a3 yy_a4 yy_a5 hD hQ  p1 p0 p2 p3 p4 p5 h (jr_of rfl (by omega)) (jr_of rfl (by omega)) (jr_of rfl (by omega)) (jr_of rfl (by omega)) (jr_of rfl (by omega)) (jr_of rfl (by omega)) ⟨w1, by omega⟩ (by omega) (by omega) (jmo w1 rfl zp1) (jmo w1 rfl zp0) (jmo w1 rfl zp2) (jmo w1 rfl zp3) (jmo w1 rfl zp4) (jmo w1 rfl zp5) J Sm)
  ·
    refine x_iloadn (x := a2) rfl rfl ?_
    refine z_i2l rfl rfl (fun v5 ev5 => ?_)
    refine x_lconst (v := 1) rfl kl_1 ?_
    refine x_iloadn (x := a3) rfl rfl ?_
    refine z_i2l rfl rfl (fun v6 ev6 => ?_)
    refine x_lconst (v := 1) rfl kl_1 ?_
    refine z_lsub rfl rfl jkl_1 (by omega) (fun v7 ev7 => ?_)
    refine x_inst (N := m_X12_in) (As := [.long v5, .long 1, .long v7]) (st := []) (dx9 := 1) (mc := 0) (ms := 0) (host := "") rfl t_X12_in ⟨Or.inl q_12_188, s_X12_in⟩ rfl (by decide) rfl rfl ⟨by decide, by decide⟩ (zc_X12_in rfl jkl_1 rfl (fun v8 ev8 => ?_))
    show jX m_X12_split 3 0 0 27 [(0, .ref 125), (1, .int a1), (2, .int a2), (3, .int a3), (4, .int a4), (5, .int a5)] [.int v8] _ 0 0 _
    refine x_ifeq (tgt := 46) rfl rfl (ti_eq rfl jk_0 ⟨fun c9 => ?_, fun c9 => ?_⟩)
    ·
      exact jX.sub (jsb_c rfl jsb_n) (ct_X12_split_r125p_46 yy_a1 yy_a2 yy_a3 yy_a4 yy_a5 hD hQ  p1 p0 p2 p3 p4 p5 h (jr_of rfl (by omega)) (jr_of rfl (by omega)) (jr_of rfl (by omega)) (jr_of rfl (by omega)) (jr_of rfl (by omega)) (jr_of rfl (by omega)) ⟨w1, by omega⟩ (by omega) (by omega) (jmo w1 rfl zp1) (jmo w1 rfl zp0) (jmo w1 rfl zp2) (jmo w1 rfl zp3) (jmo w1 rfl zp4) (jmo w1 rfl zp5) J Sm)
    ·
      refine x_iload (x := a4) rfl rfl ?_
      refine x_inst (N := m_X12_isDay) (As := [.int a4]) (st := []) (dx9 := 2) (mc := 0) (ms := 0) (host := "") rfl t_X12_isDay ⟨Or.inl q_12_273, s_X12_isDay⟩ rfl (by decide) rfl rfl ⟨by decide, by decide⟩ (zc_X12_isDay (d := 1) rfl (fun v10 ev10 => ?_))
      show jX m_X12_split 3 0 0 35 [(0, .ref 125), (1, .int a1), (2, .int a2), (3, .int a3), (4, .int a4), (5, .int a5)] [.int v10] _ 0 0 _
      refine x_ifeq (tgt := 46) rfl rfl (ti_eq rfl jk_0 ⟨fun c11 => ?_, fun c11 => ?_⟩)
      ·
        exact jX.sub (jsb_c rfl jsb_n) (ct_X12_split_r125p_46 yy_a1 yy_a2 yy_a3 yy_a4 yy_a5 hD hQ  p1 p0 p2 p3 p4 p5 h (jr_of rfl (by omega)) (jr_of rfl (by omega)) (jr_of rfl (by omega)) (jr_of rfl (by omega)) (jr_of rfl (by omega)) (jr_of rfl (by omega)) ⟨w1, by omega⟩ (by omega) (by omega) (jmo w1 rfl zp1) (jmo w1 rfl zp0) (jmo w1 rfl zp2) (jmo w1 rfl zp3) (jmo w1 rfl zp4) (jmo w1 rfl zp5) J Sm)
      ·
        refine x_iload (x := a5) rfl rfl ?_
        refine x_inst (N := m_X12_isDay) (As := [.int a5]) (st := []) (dx9 := 2) (mc := 0) (ms := 0) (host := "") rfl t_X12_isDay ⟨Or.inl q_12_273, s_X12_isDay⟩ rfl (by decide) rfl rfl ⟨by decide, by decide⟩ (zc_X12_isDay (d := 1) rfl (fun v12 ev12 => ?_))
        show jX m_X12_split 3 0 0 43 [(0, .ref 125), (1, .int a1), (2, .int a2), (3, .int a3), (4, .int a4), (5, .int a5)] [.int v12] _ 0 0 _
        refine x_ifne (tgt := 52) rfl rfl (ti_ne rfl jk_0 ⟨fun c13 => ?_, fun c13 => ?_⟩)
        ·
          refine x_aloadn (x := 125) rfl rfl ?_
          refine x_iloadn (x := a1) rfl rfl ?_
          refine x_inv (N := m_X12_isHolding) (As := [.int a1]) (b := 125) (st := []) (dx9 := 2) (mc := 0) (ms := 0) (host := "") 12 rfl t_X12_isHolding ⟨Or.inl q_12_811, i_X12_isHolding.1, i_X12_isHolding.2⟩ ⟨by decide, rfl⟩ (congrArg Prod.fst (J.1.1 125 (12, 92) rfl)) rfl (by decide) rfl rfl ⟨by decide, by decide⟩ (jC.of rfl k_X12_isHolding rfl ?_)
          show jX m_X12_isHolding 2 0 0 0 [(0, .ref 125), (1, .int a1)] [] _ 0 0 _
          refine x_iloadn (x := a1) rfl rfl ?_
          refine z_i2l rfl rfl (fun v14 ev14 => ?_)
          refine x_lconst (v := 0) rfl kl_0 ?_
          refine x_aloadn (x := 125) rfl rfl ?_
          refine z_getR (N := 92) (b := 126) 12 2 rfl f_12_8 rfl J rfl 16002 ⟨rfl, rfl⟩ rfl ?_
          refine x_bipush (v := 7) rfl kb_7 ?_
          refine z_ialdM (N := 50660) (v := p4) rfl J rfl jk_7 (by omega) (jmo w1 rfl zp4) ?_
          refine z_i2l rfl rfl (fun v15 ev15 => ?_)
          refine x_lconst (v := 1) rfl kl_1 ?_
          refine z_lsub rfl rfl jkl_1 (by omega) (fun v16 ev16 => ?_)
          refine x_inst (N := m_X12_in) (As := [.long v14, .long 0, .long v16]) (st := []) (dx9 := 1) (mc := 0) (ms := 0) (host := "") rfl t_X12_in ⟨Or.inl q_12_188, s_X12_in⟩ rfl (by decide) rfl rfl ⟨by decide, by decide⟩ (zc_X12_in rfl jkl_0 rfl (fun v17 ev17 => ?_))
          show jX m_X12_isHolding 2 0 0 16 [(0, .ref 125), (1, .int a1)] [.int v17] _ 0 0 _
          refine x_zret rfl rfl (jz01 (by omega)) ?_
          show jX m_X12_split 3 0 0 57 [(0, .ref 125), (1, .int a1), (2, .int a2), (3, .int a3), (4, .int a4), (5, .int a5)] [.int v17] _ 0 0 _
          refine x_ifne (tgt := 67) rfl rfl (ti_ne rfl jk_0 ⟨fun c18 => ?_, fun c18 => ?_⟩)
          ·
            refine x_aloadn (x := 125) rfl rfl ?_
            refine z_getR (N := 92) (b := 126) 12 2 rfl f_12_8 rfl J rfl 16002 ⟨rfl, rfl⟩ rfl ?_
            refine x_bipush (v := 7) rfl kb_7 ?_
            refine z_ialdM (N := 50660) (v := p4) rfl J rfl jk_7 (by omega) (jmo w1 rfl zp4) ?_
            refine x_bipush (v := 40) rfl kb_40 ?_
            refine x_icne (tgt := 86) rfl rfl (ti_ne rfl jk_40 ⟨fun c19 => ?_, fun c19 => ?_⟩)
            ·
              refine x_ldcw (v := 47660) rfl z_12_799 ?_
              refine x_bipush (v := 6) rfl kb_6 ?_
              refine x_aloadn (x := 125) rfl rfl ?_
              refine z_getR (N := 92) (b := 126) 12 2 rfl f_12_8 rfl J rfl 16002 ⟨rfl, rfl⟩ rfl ?_
              refine x_bipush (v := 9) rfl kb_9 ?_
              refine z_ialdM (N := 50660) (v := p5) rfl J rfl jk_9 (by omega) (jmo w1 rfl zp5) ?_
              refine z_imul rfl jk_6 rfl (by omega) (fun v20 ev20 => ?_)
              refine z_iadd rfl jk_47660 rfl (by omega) (fun v21 ev21 => ?_)
              refine x_istore (lsx9 := [(6, .int v21), (0, .ref 125), (1, .int a1), (2, .int a2), (3, .int a3), (4, .int a4), (5, .int a5)]) rfl rfl rfl ?_
              refine x_aloadn (x := 125) rfl rfl ?_
              refine z_getR (N := 92) (b := 126) 12 2 rfl f_12_8 rfl J rfl 16002 ⟨rfl, rfl⟩ rfl ?_
              refine x_iload (x := v21) rfl rfl ?_
              refine x_aloadn (x := 125) rfl rfl ?_
              refine z_getR (N := 92) (b := 126) 12 2 rfl f_12_8 rfl J rfl 16002 ⟨rfl, rfl⟩ rfl ?_
              refine x_bipush (v := 7) rfl kb_7 ?_
              refine z_ialdM (N := 50660) (v := p4) rfl J rfl jk_7 (by omega) (jmo w1 rfl zp4) ?_
              refine z_iastB (N := 50660) (l := 47660) (u := 47900) (w := p4.toInt) rfl hD J Sm rfl rfl (by omega) rfl (wr_126_47660 (by omega) (fun q1 q2 q3 q4 => by omega) (fun q1 q2 q3 q4 => by omega) (fun q1 q2 q3 q4 => by omega) (fun q1 q2 q3 q4 => by omega) (fun q1 q2 q3 q4 => by omega) (fun q1 q2 q3 q4 => by omega)) (jB_sp (hD.2.2.2.1 h J.2.2) (jmo w1 rfl zp5) (by omega)) rfl (fun h w22 J Sm => ?_)
              refine x_aloadn (x := 125) rfl rfl ?_
              refine z_getR (N := 92) (b := 126) 12 2 rfl f_12_8 rfl J rfl 16002 ⟨rfl, rfl⟩ rfl ?_
              refine x_iload (x := v21) rfl rfl ?_
              refine x_iconst (v := 1) rfl ki_1 ?_
              refine z_iadd rfl rfl jk_1 (by omega) (fun v23 ev23 => ?_)
              refine x_iloadn (x := a1) rfl rfl ?_
              refine z_iastB (N := 50660) (l := 47660) (u := 47900) (w := a1.toInt) rfl hD J Sm rfl rfl (by omega) rfl (wr_126_47660 (by omega) (fun q1 q2 q3 q4 => by omega) (fun q1 q2 q3 q4 => by omega) (fun q1 q2 q3 q4 => by omega) (fun q1 q2 q3 q4 => by omega) (fun q1 q2 q3 q4 => by omega) (fun q1 q2 q3 q4 => by omega)) (jB_sp (hD.2.2.2.1 h J.2.2) (jmo2 w22 rfl jk_9 (by omega) (jmo w1 rfl zp5)) (by omega)) rfl (fun h w24 J Sm => ?_)
              refine x_aloadn (x := 125) rfl rfl ?_
              refine z_getR (N := 92) (b := 126) 12 2 rfl f_12_8 rfl J rfl 16002 ⟨rfl, rfl⟩ rfl ?_
              refine x_iload (x := v21) rfl rfl ?_
              refine x_iconst (v := 2) rfl ki_2 ?_
              refine z_iadd rfl rfl jk_2 (by omega) (fun v25 ev25 => ?_)
              refine x_iloadn (x := a2) rfl rfl ?_
              refine z_iastB (N := 50660) (l := 47660) (u := 47900) (w := a2.toInt) rfl hD J Sm rfl rfl (by omega) rfl (wr_126_47660 (by omega) (fun q1 q2 q3 q4 => by omega) (fun q1 q2 q3 q4 => by omega) (fun q1 q2 q3 q4 => by omega) (fun q1 q2 q3 q4 => by omega) (fun q1 q2 q3 q4 => by omega) (fun q1 q2 q3 q4 => by omega)) (jB_sp (hD.2.2.2.1 h J.2.2) (jmo2 w24 rfl jk_9 (by omega) (jmo2 w22 rfl jk_9 (by omega) (jmo w1 rfl zp5))) (by omega)) rfl (fun h w26 J Sm => ?_)
              refine x_aloadn (x := 125) rfl rfl ?_
              refine z_getR (N := 92) (b := 126) 12 2 rfl f_12_8 rfl J rfl 16002 ⟨rfl, rfl⟩ rfl ?_
              refine x_iload (x := v21) rfl rfl ?_
              refine x_iconst (v := 3) rfl ki_3 ?_
              refine z_iadd rfl rfl jk_3 (by omega) (fun v27 ev27 => ?_)
              refine x_iloadn (x := a3) rfl rfl ?_
              refine z_iastB (N := 50660) (l := 47660) (u := 47900) (w := a3.toInt) rfl hD J Sm rfl rfl (by omega) rfl (wr_126_47660 (by omega) (fun q1 q2 q3 q4 => by omega) (fun q1 q2 q3 q4 => by omega) (fun q1 q2 q3 q4 => by omega) (fun q1 q2 q3 q4 => by omega) (fun q1 q2 q3 q4 => by omega) (fun q1 q2 q3 q4 => by omega)) (jB_sp (hD.2.2.2.1 h J.2.2) (jmo2 w26 rfl jk_9 (by omega) (jmo2 w24 rfl jk_9 (by omega) (jmo2 w22 rfl jk_9 (by omega) (jmo w1 rfl zp5)))) (by omega)) rfl (fun h w28 J Sm => ?_)
              refine x_aloadn (x := 125) rfl rfl ?_
              refine z_getR (N := 92) (b := 126) 12 2 rfl f_12_8 rfl J rfl 16002 ⟨rfl, rfl⟩ rfl ?_
              refine x_iload (x := v21) rfl rfl ?_
              refine x_iconst (v := 4) rfl ki_4 ?_
              refine z_iadd rfl rfl jk_4 (by omega) (fun v29 ev29 => ?_)
              refine x_iload (x := a4) rfl rfl ?_
              refine z_iastB (N := 50660) (l := 47660) (u := 47900) (w := a4.toInt) rfl hD J Sm rfl rfl (by omega) rfl (wr_126_47660 (by omega) (fun q1 q2 q3 q4 => by omega) (fun q1 q2 q3 q4 => by omega) (fun q1 q2 q3 q4 => by omega) (fun q1 q2 q3 q4 => by omega) (fun q1 q2 q3 q4 => by omega) (fun q1 q2 q3 q4 => by omega)) (jB_sp (hD.2.2.2.1 h J.2.2) (jmo2 w28 rfl jk_9 (by omega) (jmo2 w26 rfl jk_9 (by omega) (jmo2 w24 rfl jk_9 (by omega) (jmo2 w22 rfl jk_9 (by omega) (jmo w1 rfl zp5))))) (by omega)) rfl (fun h w30 J Sm => ?_)
              refine x_aloadn (x := 125) rfl rfl ?_
              refine z_getR (N := 92) (b := 126) 12 2 rfl f_12_8 rfl J rfl 16002 ⟨rfl, rfl⟩ rfl ?_
              refine x_iload (x := v21) rfl rfl ?_
              refine x_iconst (v := 5) rfl ki_5 ?_
              refine z_iadd rfl rfl jk_5 (by omega) (fun v31 ev31 => ?_)
              refine x_iload (x := a5) rfl rfl ?_
              refine z_iastB (N := 50660) (l := 47660) (u := 47900) (w := a5.toInt) rfl hD J Sm rfl rfl (by omega) rfl (wr_126_47660 (by omega) (fun q1 q2 q3 q4 => by omega) (fun q1 q2 q3 q4 => by omega) (fun q1 q2 q3 q4 => by omega) (fun q1 q2 q3 q4 => by omega) (fun q1 q2 q3 q4 => by omega) (fun q1 q2 q3 q4 => by omega)) (jB_sp (hD.2.2.2.1 h J.2.2) (jmo2 w30 rfl jk_9 (by omega) (jmo2 w28 rfl jk_9 (by omega) (jmo2 w26 rfl jk_9 (by omega) (jmo2 w24 rfl jk_9 (by omega) (jmo2 w22 rfl jk_9 (by omega) (jmo w1 rfl zp5)))))) (by omega)) rfl (fun h w32 J Sm => ?_)
              refine x_aloadn (x := 125) rfl rfl ?_
              refine z_getR (N := 92) (b := 126) 12 2 rfl f_12_8 rfl J rfl 16002 ⟨rfl, rfl⟩ rfl ?_
              refine x_bipush (v := 9) rfl kb_9 ?_
              refine x_dup2 rfl rfl rfl ?_
              refine z_ialdM (N := 50660) (v := p5) rfl J rfl jk_9 (by omega) (jmo2 w32 rfl jk_9 (by omega) (jmo2 w30 rfl jk_9 (by omega) (jmo2 w28 rfl jk_9 (by omega) (jmo2 w26 rfl jk_9 (by omega) (jmo2 w24 rfl jk_9 (by omega) (jmo2 w22 rfl jk_9 (by omega) (jmo w1 rfl zp5))))))) ?_
              refine x_iconst (v := 1) rfl ki_1 ?_
              refine z_iadd rfl rfl jk_1 (by omega) (fun v33 ev33 => ?_)
              refine z_iastB (N := 50660) (l := 9) (u := 10) (w := v33.toInt) rfl hD J Sm rfl jk_9 (by omega) rfl (wr_126_9 (by omega) (fun q1 q2 q3 q4 => by omega)) (jB_s9 (hD.2.2.2.1 h J.2.2) (jmo2 w32 rfl jk_9 (by omega) (jmo2 w30 rfl jk_9 (by omega) (jmo2 w28 rfl jk_9 (by omega) (jmo2 w26 rfl jk_9 (by omega) (jmo2 w24 rfl jk_9 (by omega) (jmo2 w22 rfl jk_9 (by omega) (jmo w1 rfl zp5))))))) (by omega) (jmo2 w32 rfl rfl (by omega) (jmo2 w30 rfl rfl (by omega) (jmw w28))) (by omega) (by omega)) rfl (fun h w34 J Sm => ?_)
              refine x_aloadn (x := 125) rfl rfl ?_
              refine z_getR (N := 92) (b := 126) 12 2 rfl f_12_8 rfl J rfl 16002 ⟨rfl, rfl⟩ rfl ?_
              refine x_bipush (v := 7) rfl kb_7 ?_
              refine x_dup2 rfl rfl rfl ?_
              refine z_ialdM (N := 50660) (v := p4) rfl J rfl jk_7 (by omega) (jmo2 w34 jk_9 jk_7 (by omega) (jmo2 w32 rfl jk_7 (by omega) (jmo2 w30 rfl jk_7 (by omega) (jmo2 w28 rfl jk_7 (by omega) (jmo2 w26 rfl jk_7 (by omega) (jmo2 w24 rfl jk_7 (by omega) (jmo2 w22 rfl jk_7 (by omega) (jmo w1 rfl zp4)))))))) ?_
              refine x_iconst (v := 1) rfl ki_1 ?_
              refine z_iadd rfl rfl jk_1 (by omega) (fun v35 ev35 => ?_)
              refine z_iast (N := 50660) (l := 7) (u := 8) (w := v35.toInt) rfl hD J Sm rfl rfl jk_7 (by omega) rfl (wr_126_7 (by omega) (fun q1 q2 q3 q4 => by omega)) rfl (fun h w36 J Sm => ?_)
              refine x_aloadn (x := 125) rfl rfl ?_
              refine x_iconst (v := 3) rfl ki_3 ?_
              refine x_aloadn (x := 125) rfl rfl ?_
              refine z_getR (N := 92) (b := 126) 12 2 rfl f_12_8 rfl J rfl 16002 ⟨rfl, rfl⟩ rfl ?_
              refine x_bipush (v := 7) rfl kb_7 ?_
              refine z_ialdM (N := 50660) (v := v35) rfl J rfl jk_7 (by omega) (jmw w36) ?_
              refine x_iconst (v := 1) rfl ki_1 ?_
              refine z_isub rfl rfl jk_1 (by omega) (fun v37 ev37 => ?_)
              refine x_inv (N := m_X12_thing) (As := [.int 3, .int v37]) (b := 125) (st := []) (dx9 := 2) (mc := 0) (ms := 0) (host := "") 12 rfl t_X12_thing ⟨Or.inl q_12_289, i_X12_thing.1, i_X12_thing.2⟩ ⟨by decide, rfl⟩ (congrArg Prod.fst (J.1.1 125 (12, 92) rfl)) rfl (by decide) rfl rfl ⟨by decide, by decide⟩ (jC.of rfl k_X12_thing rfl ?_)
              show jX m_X12_thing 2 0 0 0 [(0, .ref 125), (1, .int 3), (2, .int v37)] [] _ 0 0 _
              refine x_ldc (v := 49920) rfl z_12_194 ?_
              refine x_iconst (v := 2) rfl ki_2 ?_
              refine x_aloadn (x := 125) rfl rfl ?_
              refine z_getR (N := 92) (b := 126) 12 2 rfl f_12_8 rfl J rfl 16002 ⟨rfl, rfl⟩ rfl ?_
              refine x_bipush (v := 16) rfl kb_16 ?_
              refine z_ialdM (N := 50660) (v := p0) rfl J rfl jk_16 (by omega) (jmo2 w36 jk_7 jk_16 (by omega) (jmo2 w34 jk_9 jk_16 (by omega) (jmo2 w32 rfl jk_16 (by omega) (jmo2 w30 rfl jk_16 (by omega) (jmo2 w28 rfl jk_16 (by omega) (jmo2 w26 rfl jk_16 (by omega) (jmo2 w24 rfl jk_16 (by omega) (jmo2 w22 rfl jk_16 (by omega) (jmo w1 rfl zp0))))))))) ?_
              refine z_imul rfl jk_2 rfl (by omega) (fun v38 ev38 => ?_)
              refine z_iadd rfl jk_49920 rfl (by omega) (fun v39 ev39 => ?_)
              refine x_istoren (lsx9 := [(3, .int v39), (0, .ref 125), (1, .int 3), (2, .int v37)]) rfl rfl rfl ?_
              refine x_aloadn (x := 125) rfl rfl ?_
              refine z_getR (N := 92) (b := 126) 12 2 rfl f_12_8 rfl J rfl 16002 ⟨rfl, rfl⟩ rfl ?_
              refine x_iloadn (x := v39) rfl rfl ?_
              refine x_iloadn (x := 3) rfl rfl ?_
              refine z_iast (N := 50660) (l := 49920) (u := 50660) (w := 3) rfl hD J Sm rfl rfl rfl (by omega) jk_3 (wr_126_49920 (by omega) (fun q1 q2 q3 q4 => by omega) (fun q1 q2 q3 q4 => by omega)) rfl (fun h w40 J Sm => ?_)
              refine x_aloadn (x := 125) rfl rfl ?_
              refine z_getR (N := 92) (b := 126) 12 2 rfl f_12_8 rfl J rfl 16002 ⟨rfl, rfl⟩ rfl ?_
              refine x_iloadn (x := v39) rfl rfl ?_
              refine x_iconst (v := 1) rfl ki_1 ?_
              refine z_iadd rfl rfl jk_1 (by omega) (fun v41 ev41 => ?_)
              refine x_iloadn (x := v37) rfl rfl ?_
              refine z_iast (N := 50660) (l := 49920) (u := 50660) (w := v37.toInt) rfl hD J Sm rfl rfl rfl (by omega) rfl (wr_126_49920 (by omega) (fun q1 q2 q3 q4 => by omega) (fun q1 q2 q3 q4 => by omega)) rfl (fun h w42 J Sm => ?_)
              refine x_aloadn (x := 125) rfl rfl ?_
              refine z_getR (N := 92) (b := 126) 12 2 rfl f_12_8 rfl J rfl 16002 ⟨rfl, rfl⟩ rfl ?_
              refine x_bipush (v := 16) rfl kb_16 ?_
              refine x_dup2 rfl rfl rfl ?_
              refine z_ialdM (N := 50660) (v := p0) rfl J rfl jk_16 (by omega) (jmo2 w42 rfl jk_16 (by omega) (jmo2 w40 rfl jk_16 (by omega) (jmo2 w36 jk_7 jk_16 (by omega) (jmo2 w34 jk_9 jk_16 (by omega) (jmo2 w32 rfl jk_16 (by omega) (jmo2 w30 rfl jk_16 (by omega) (jmo2 w28 rfl jk_16 (by omega) (jmo2 w26 rfl jk_16 (by omega) (jmo2 w24 rfl jk_16 (by omega) (jmo2 w22 rfl jk_16 (by omega) (jmo w1 rfl zp0))))))))))) ?_
              refine x_iconst (v := 1) rfl ki_1 ?_
              refine z_iadd rfl rfl jk_1 (by omega) (fun v43 ev43 => ?_)
              refine z_iast (N := 50660) (l := 16) (u := 17) (w := v43.toInt) rfl hD J Sm rfl rfl jk_16 (by omega) rfl (wr_126_16 (by omega) (fun q1 q2 q3 q4 => by omega)) rfl (fun h w44 J Sm => ?_)
              refine x_vret rfl rfl ?_
              show jX m_X12_split 3 0 0 204 [(6, .int v21), (0, .ref 125), (1, .int a1), (2, .int a2), (3, .int a3), (4, .int a4), (5, .int a5)] [] _ 0 0 _
              refine x_aloadn (x := 125) rfl rfl ?_
              refine x_aloadn (x := 125) rfl rfl ?_
              refine z_getR (N := 92) (b := 126) 12 2 rfl f_12_8 rfl J rfl 16002 ⟨rfl, rfl⟩ rfl ?_
              refine x_bipush (v := 7) rfl kb_7 ?_
              refine z_ialdM (N := 50660) (v := v35) rfl J rfl jk_7 (by omega) (jmo2 w44 jk_16 jk_7 (by omega) (jmo2 w42 rfl jk_7 (by omega) (jmo2 w40 rfl jk_7 (by omega) (jmw w36)))) ?_
              refine x_iconst (v := 1) rfl ki_1 ?_
              refine z_isub rfl rfl jk_1 (by omega) (fun v45 ev45 => ?_)
              refine x_inv (N := m_X12_told) (As := [.int v45]) (b := 125) (st := []) (dx9 := 2) (mc := 0) (ms := 0) (host := "") 12 rfl t_X12_told ⟨Or.inl q_12_197, i_X12_told.1, i_X12_told.2⟩ ⟨by decide, rfl⟩ (congrArg Prod.fst (J.1.1 125 (12, 92) rfl)) rfl (by decide) rfl rfl ⟨by decide, by decide⟩ (jC.of rfl k_X12_told rfl ?_)
              show jX m_X12_told 2 0 0 0 [(0, .ref 125), (1, .int v45)] [] _ 0 0 _
              refine x_aloadn (x := 125) rfl rfl ?_
              refine x_iloadn (x := v45) rfl rfl ?_
              refine x_ifge (tgt := 9) rfl rfl (ti_ge rfl jk_0 (br_t (by omega) ?_))
              refine x_iconst (v := 0) rfl ki_0 ?_
              refine z_putI (N := 92) (w := 0) 12 1 rfl f_12_183 rfl (jfin_no TX12 RX12 92 rfl rfl) hD J Sm rfl rfl jk_0 (pw_125_1 (by omega)) rfl (fun h w46 J Sm => ?_)
              refine x_iloadn (x := v45) rfl rfl ?_
              refine x_iret rfl rfl ?_
              show jX m_X12_split 3 0 0 217 [(6, .int v21), (0, .ref 125), (1, .int a1), (2, .int a2), (3, .int a3), (4, .int a4), (5, .int a5)] [.int v45] _ 0 0 _
              refine x_iret rfl rfl ?_
              exact hQ _ _ (jr_of rfl (by omega)) J Sm _ _ _ _ _ (jmo w46 rfl (jmw w44)) (jmo w46 rfl (jmo2 w44 jk_16 jk_0 (by omega) (jmo2 w42 rfl jk_0 (by omega) (jmo2 w40 rfl jk_0 (by omega) (jmo2 w36 jk_7 jk_0 (by omega) (jmo2 w34 jk_9 jk_0 (by omega) (jmo2 w32 rfl jk_0 (by omega) (jmo2 w30 rfl jk_0 (by omega) (jmo2 w28 rfl jk_0 (by omega) (jmo2 w26 rfl jk_0 (by omega) (jmo2 w24 rfl jk_0 (by omega) (jmo2 w22 rfl jk_0 (by omega) (jmo w1 rfl zp1))))))))))))) (jmo w46 rfl (jmo2 w44 jk_16 jk_4 (by omega) (jmo2 w42 rfl jk_4 (by omega) (jmo2 w40 rfl jk_4 (by omega) (jmo2 w36 jk_7 jk_4 (by omega) (jmo2 w34 jk_9 jk_4 (by omega) (jmo2 w32 rfl jk_4 (by omega) (jmo2 w30 rfl jk_4 (by omega) (jmo2 w28 rfl jk_4 (by omega) (jmo2 w26 rfl jk_4 (by omega) (jmo2 w24 rfl jk_4 (by omega) (jmo2 w22 rfl jk_4 (by omega) (jmo w1 rfl zp2))))))))))))) (jmo w46 rfl (jmo2 w44 jk_16 jk_5 (by omega) (jmo2 w42 rfl jk_5 (by omega) (jmo2 w40 rfl jk_5 (by omega) (jmo2 w36 jk_7 jk_5 (by omega) (jmo2 w34 jk_9 jk_5 (by omega) (jmo2 w32 rfl jk_5 (by omega) (jmo2 w30 rfl jk_5 (by omega) (jmo2 w28 rfl jk_5 (by omega) (jmo2 w26 rfl jk_5 (by omega) (jmo2 w24 rfl jk_5 (by omega) (jmo2 w22 rfl jk_5 (by omega) (jmo w1 rfl zp3))))))))))))) (jmo w46 rfl (jmo2 w44 jk_16 jk_7 (by omega) (jmo2 w42 rfl jk_7 (by omega) (jmo2 w40 rfl jk_7 (by omega) (jmw w36))))) (by omega) _ _ (jmo w46 rfl (jmo2 w44 jk_16 jk_9 (by omega) (jmo2 w42 rfl jk_9 (by omega) (jmo2 w40 rfl jk_9 (by omega) (jmo2 w36 jk_7 jk_9 (by omega) (jmw w34)))))) (jmo w46 rfl (jmo2 w44 jk_16 jk_7 (by omega) (jmo2 w42 rfl jk_7 (by omega) (jmo2 w40 rfl jk_7 (by omega) (jmw w36))))) (by omega) (Or.inr (Or.inr (Or.inr ⟨(by omega), (by omega), (by omega), (by omega), (by have := ov_n (n := 7) (by decide) (jmo w46 rfl (jmo2 w44 jk_16 jk_7 (by omega) (jmo2 w42 rfl jk_7 (by omega) (jmo2 w40 rfl jk_7 (by omega) (jmw w36))))); omega)⟩)))
            ·
              refine x_aloadn (x := 125) rfl rfl ?_
              refine x_bipush (v := (-5)) rfl kb_m5 ?_
              refine x_inv (N := m_X12_told) (As := [.int (-5)]) (b := 125) (st := []) (dx9 := 2) (mc := 0) (ms := 0) (host := "") 12 rfl t_X12_told ⟨Or.inl q_12_197, i_X12_told.1, i_X12_told.2⟩ ⟨by decide, rfl⟩ (congrArg Prod.fst (J.1.1 125 (12, 92) rfl)) rfl (by decide) rfl rfl ⟨by decide, by decide⟩ (jC.of rfl k_X12_told rfl ?_)
              show jX m_X12_told 2 0 0 0 [(0, .ref 125), (1, .int (-5))] [] _ 0 0 _
              refine x_aloadn (x := 125) rfl rfl ?_
              refine x_iloadn (x := (-5)) rfl rfl ?_
              refine x_ifge (tgt := 9) rfl rfl (ti_ge jk_m5 jk_0 (br_f (by omega) ?_))
              refine x_iloadn (x := (-5)) rfl rfl ?_
              refine x_goto (tgt := 10) rfl rfl ?_
              refine z_putI (N := 92) (w := (-5)) 12 1 rfl f_12_183 rfl (jfin_no TX12 RX12 92 rfl rfl) hD J Sm rfl rfl jk_m5 (pw_125_1 (by omega)) rfl (fun h w47 J Sm => ?_)
              refine x_iloadn (x := (-5)) rfl rfl ?_
              refine x_iret rfl rfl ?_
              show jX m_X12_split 3 0 0 85 [(0, .ref 125), (1, .int a1), (2, .int a2), (3, .int a3), (4, .int a4), (5, .int a5)] [.int (-5)] _ 0 0 _
              refine x_iret rfl rfl ?_
              exact hQ _ _ (jr_of jk_m5 (by omega)) J Sm _ _ _ _ _ (jmo w47 rfl (jmo w1 rfl zp0)) (jmo w47 rfl (jmo w1 rfl zp1)) (jmo w47 rfl (jmo w1 rfl zp2)) (jmo w47 rfl (jmo w1 rfl zp3)) (jmo w47 rfl (jmo w1 rfl zp4)) (by omega) _ _ (jmo w47 rfl (jmo w1 rfl zp5)) (jmo w47 rfl (jmo w1 rfl zp4)) (by omega) (Or.inr (Or.inr (Or.inl ⟨(by omega), (by omega), (by omega), jk_m5, (congrFun (ov_o w47 rfl (ov_o w1 rfl rfl)) 7)⟩)))
          ·
            refine x_aloadn (x := 125) rfl rfl ?_
            refine x_bipush (v := (-2)) rfl kb_m2 ?_
            refine x_inv (N := m_X12_told) (As := [.int (-2)]) (b := 125) (st := []) (dx9 := 2) (mc := 0) (ms := 0) (host := "") 12 rfl t_X12_told ⟨Or.inl q_12_197, i_X12_told.1, i_X12_told.2⟩ ⟨by decide, rfl⟩ (congrArg Prod.fst (J.1.1 125 (12, 92) rfl)) rfl (by decide) rfl rfl ⟨by decide, by decide⟩ (jC.of rfl k_X12_told rfl ?_)
            show jX m_X12_told 2 0 0 0 [(0, .ref 125), (1, .int (-2))] [] _ 0 0 _
            refine x_aloadn (x := 125) rfl rfl ?_
            refine x_iloadn (x := (-2)) rfl rfl ?_
            refine x_ifge (tgt := 9) rfl rfl (ti_ge jk_m2 jk_0 (br_f (by omega) ?_))
            refine x_iloadn (x := (-2)) rfl rfl ?_
            refine x_goto (tgt := 10) rfl rfl ?_
            refine z_putI (N := 92) (w := (-2)) 12 1 rfl f_12_183 rfl (jfin_no TX12 RX12 92 rfl rfl) hD J Sm rfl rfl jk_m2 (pw_125_1 (by omega)) rfl (fun h w48 J Sm => ?_)
            refine x_iloadn (x := (-2)) rfl rfl ?_
            refine x_iret rfl rfl ?_
            show jX m_X12_split 3 0 0 66 [(0, .ref 125), (1, .int a1), (2, .int a2), (3, .int a3), (4, .int a4), (5, .int a5)] [.int (-2)] _ 0 0 _
            refine x_iret rfl rfl ?_
            exact hQ _ _ (jr_of jk_m2 (by omega)) J Sm _ _ _ _ _ (jmo w48 rfl (jmo w1 rfl zp0)) (jmo w48 rfl (jmo w1 rfl zp1)) (jmo w48 rfl (jmo w1 rfl zp2)) (jmo w48 rfl (jmo w1 rfl zp3)) (jmo w48 rfl (jmo w1 rfl zp4)) (by omega) _ _ (jmo w48 rfl (jmo w1 rfl zp5)) (jmo w48 rfl (jmo w1 rfl zp4)) (by omega) (Or.inr (Or.inl ⟨(by omega), (by omega), jk_m2, (congrFun (ov_o w48 rfl (ov_o w1 rfl rfl)) 7)⟩))
        ·
          exact jX.sub (jsb_c rfl jsb_n) (ct_X12_split_r125p_46 yy_a1 yy_a2 yy_a3 yy_a4 yy_a5 hD hQ  p1 p0 p2 p3 p4 p5 h (jr_of rfl (by omega)) (jr_of rfl (by omega)) (jr_of rfl (by omega)) (jr_of rfl (by omega)) (jr_of rfl (by omega)) (jr_of rfl (by omega)) ⟨w1, by omega⟩ (by omega) (by omega) (jmo w1 rfl zp1) (jmo w1 rfl zp0) (jmo w1 rfl zp2) (jmo w1 rfl zp3) (jmo w1 rfl zp4) (jmo w1 rfl zp5) J Sm)
def fp_X12_terms_r125p : jFp := [(125, 0, 1), (125, 1, 2), (125, 23, 24), (125, 24, 25), (125, 25, 26), (125, 26, 27), (125, 27, 28)]
set_option maxRecDepth 100000 in
set_option maxHeartbeats 4000000 in
theorem ct_X12_terms_r125p_67 {Dy : jH → Prop} {h0 : jH} {Q : Option Value → jH → Prop} {a1 : Int32} (yy_a1 : (-2147483648) ≤ a1.toInt ∧ a1.toInt ≤ 2147483647) {a2 : Int32} (yy_a2 : (-2147483648) ≤ a2.toInt ∧ a2.toInt ≤ 2147483647) {a3 : Int32} (yy_a3 : (-2147483648) ≤ a3.toInt ∧ a3.toInt ≤ 2147483647) {a4 : Int32} (yy_a4 : (-2147483648) ≤ a4.toInt ∧ a4.toInt ≤ 2147483647) {a5 : Int32} (yy_a5 : (-2147483648) ≤ a5.toInt ∧ a5.toInt ≤ 2147483647) (hD : jDk Dy) (hQ : ∀ (v : Int32) hx9, (-1) ≤ v.toInt ∧ v.toInt ≤ 0 → jJ jSgM Dy hx9 → jSm fp_X12_terms_r125p h0 hx9 → (((0 ≤ a1.toInt ∧ a1.toInt ≤ 100 ∧ 0 ≤ a2.toInt ∧ a2.toInt ≤ 100 ∧ 0 ≤ a3.toInt ∧ a3.toInt ≤ 100 ∧ 0 ≤ a4.toInt ∧ a4.toInt ≤ 100 ∧ 0 ≤ a5.toInt ∧ a5.toInt ≤ 20) ∧ v.toInt = 0) ∨ (¬ (0 ≤ a1.toInt ∧ a1.toInt ≤ 100 ∧ 0 ≤ a2.toInt ∧ a2.toInt ≤ 100 ∧ 0 ≤ a3.toInt ∧ a3.toInt ≤ 100 ∧ 0 ≤ a4.toInt ∧ a4.toInt ≤ 100 ∧ 0 ≤ a5.toInt ∧ a5.toInt ≤ 20) ∧ v.toInt = -1)) → Q (some (.int v)) hx9) : ∀ (h : jH), ¬ (0 ≤ a1.toInt ∧ a1.toInt ≤ 100 ∧ 0 ≤ a2.toInt ∧ a2.toInt ≤ 100 ∧ 0 ≤ a3.toInt ∧ a3.toInt ≤ 100 ∧ 0 ≤ a4.toInt ∧ a4.toInt ≤ 100 ∧ 0 ≤ a5.toInt ∧ a5.toInt ≤ 20) → jJ jSgM Dy h → jSm fp_X12_terms_r125p h0 h → jX m_X12_terms 2 0 0 67 [(0, .ref 125)] [] h 0 0 Q := by
  intro  h y0   J Sm
  refine x_aloadn (x := 125) rfl rfl ?_
  refine x_iconst (v := (-1)) rfl ki_m1 ?_
  refine x_inv (N := m_X12_told) (As := [.int (-1)]) (b := 125) (st := []) (dx9 := 1) (mc := 0) (ms := 0) (host := "") 12 rfl t_X12_told ⟨Or.inl q_12_197, i_X12_told.1, i_X12_told.2⟩ ⟨by decide, rfl⟩ (congrArg Prod.fst (J.1.1 125 (12, 92) rfl)) rfl (by decide) rfl rfl ⟨by decide, by decide⟩ (jC.of rfl k_X12_told rfl ?_)
  show jX m_X12_told 1 0 0 0 [(0, .ref 125), (1, .int (-1))] [] _ 0 0 _
  refine x_aloadn (x := 125) rfl rfl ?_
  refine x_iloadn (x := (-1)) rfl rfl ?_
  refine x_ifge (tgt := 9) rfl rfl (ti_ge jk_m1 jk_0 (br_f (by omega) ?_))
  refine x_iloadn (x := (-1)) rfl rfl ?_
  refine x_goto (tgt := 10) rfl rfl ?_
  refine z_putI (N := 92) (w := (-1)) 12 1 rfl f_12_183 rfl (jfin_no TX12 RX12 92 rfl rfl) hD J Sm rfl rfl jk_m1 (pw_125_1 (by omega)) rfl (fun h w1 J Sm => ?_)
  refine x_iloadn (x := (-1)) rfl rfl ?_
  refine x_iret rfl rfl ?_
  show jX m_X12_terms 2 0 0 72 [(0, .ref 125)] [.int (-1)] _ 0 0 _
  refine x_iret rfl rfl ?_
  exact hQ _ _ (jr_of jk_m1 (by omega)) J Sm (by have := jk_0; have := jk_m1; omega)
set_option maxRecDepth 100000 in
set_option maxHeartbeats 4000000 in
theorem sf_X12_terms_r125p {Dy : jH → Prop} {h : jH} {Q : Option Value → jH → Prop} {a1 : Int32} {a2 : Int32} {a3 : Int32} {a4 : Int32} {a5 : Int32} (hD : jDk Dy) (J : jJ jSgM Dy h) (hQ : ∀ (v : Int32) hx9, (-1) ≤ v.toInt ∧ v.toInt ≤ 0 → jJ jSgM Dy hx9 → jSm fp_X12_terms_r125p h hx9 → (((0 ≤ a1.toInt ∧ a1.toInt ≤ 100 ∧ 0 ≤ a2.toInt ∧ a2.toInt ≤ 100 ∧ 0 ≤ a3.toInt ∧ a3.toInt ≤ 100 ∧ 0 ≤ a4.toInt ∧ a4.toInt ≤ 100 ∧ 0 ≤ a5.toInt ∧ a5.toInt ≤ 20) ∧ v.toInt = 0) ∨ (¬ (0 ≤ a1.toInt ∧ a1.toInt ≤ 100 ∧ 0 ≤ a2.toInt ∧ a2.toInt ≤ 100 ∧ 0 ≤ a3.toInt ∧ a3.toInt ≤ 100 ∧ 0 ≤ a4.toInt ∧ a4.toInt ≤ 100 ∧ 0 ≤ a5.toInt ∧ a5.toInt ≤ 20) ∧ v.toInt = -1)) → Q (some (.int v)) hx9) : jC m_X12_terms 2 0 0 [.ref 125, .int a1, .int a2, .int a3, .int a4, .int a5] h Q := by
  refine jC.of rfl k_X12_terms rfl ?_
  have Sm := jSm_rf fp_X12_terms_r125p h
  have yy_a1 := jfull a1
  have yy_a2 := jfull a2
  have yy_a3 := jfull a3
  have yy_a4 := jfull a4
  have yy_a5 := jfull a5
  have ea1 := jfull a1
  have ea2 := jfull a2
  have ea3 := jfull a3
  have ea4 := jfull a4
  have ea5 := jfull a5
  show jX m_X12_terms 2 0 0 0 [(0, .ref 125), (1, .int a1), (2, .int a2), (3, .int a3), (4, .int a4), (5, .int a5)] [] _ 0 0 _
  refine x_aloadn (x := 125) rfl rfl ?_
  refine x_iconst (v := 0) rfl ki_0 ?_
  refine z_putI (N := 92) (w := 0) 12 0 rfl f_12_180 rfl (jfin_no TX12 RX12 92 rfl rfl) hD J Sm rfl rfl jk_0 (pw_125_0 (by omega)) rfl (fun h w1 J Sm => ?_)
  refine x_iloadn (x := a1) rfl rfl ?_
  refine z_i2l rfl rfl (fun v2 ev2 => ?_)
  refine x_lconst (v := 0) rfl kl_0 ?_
  refine x_ldc2 (v := 100) rfl z_12_331 ?_
  refine x_inst (N := m_X12_in) (As := [.long v2, .long 0, .long 100]) (st := []) (dx9 := 1) (mc := 0) (ms := 0) (host := "") rfl t_X12_in ⟨Or.inl q_12_188, s_X12_in⟩ rfl (by decide) rfl rfl ⟨by decide, by decide⟩ (zc_X12_in rfl jkl_0 jkl_100 (fun v3 ev3 => ?_))
  show jX m_X12_terms 2 0 0 14 [(0, .ref 125), (1, .int a1), (2, .int a2), (3, .int a3), (4, .int a4), (5, .int a5)] [.int v3] _ 0 0 _
  refine x_ifeq (tgt := 67) rfl rfl (ti_eq rfl jk_0 ⟨fun c4 => ?_, fun c4 => ?_⟩)
  ·
    exact jX.sub (jsb_c rfl jsb_n) (ct_X12_terms_r125p_67 yy_a1 yy_a2 yy_a3 yy_a4 yy_a5 hD hQ  h (by omega) J Sm)
  ·
    refine x_iloadn (x := a2) rfl rfl ?_
    refine z_i2l rfl rfl (fun v5 ev5 => ?_)
    refine x_lconst (v := 0) rfl kl_0 ?_
    refine x_ldc2 (v := 100) rfl z_12_331 ?_
    refine x_inst (N := m_X12_in) (As := [.long v5, .long 0, .long 100]) (st := []) (dx9 := 1) (mc := 0) (ms := 0) (host := "") rfl t_X12_in ⟨Or.inl q_12_188, s_X12_in⟩ rfl (by decide) rfl rfl ⟨by decide, by decide⟩ (zc_X12_in rfl jkl_0 jkl_100 (fun v6 ev6 => ?_))
    show jX m_X12_terms 2 0 0 26 [(0, .ref 125), (1, .int a1), (2, .int a2), (3, .int a3), (4, .int a4), (5, .int a5)] [.int v6] _ 0 0 _
    refine x_ifeq (tgt := 67) rfl rfl (ti_eq rfl jk_0 ⟨fun c7 => ?_, fun c7 => ?_⟩)
    ·
      exact jX.sub (jsb_c rfl jsb_n) (ct_X12_terms_r125p_67 yy_a1 yy_a2 yy_a3 yy_a4 yy_a5 hD hQ  h (by omega) J Sm)
    ·
      refine x_iloadn (x := a3) rfl rfl ?_
      refine z_i2l rfl rfl (fun v8 ev8 => ?_)
      refine x_lconst (v := 0) rfl kl_0 ?_
      refine x_ldc2 (v := 100) rfl z_12_331 ?_
      refine x_inst (N := m_X12_in) (As := [.long v8, .long 0, .long 100]) (st := []) (dx9 := 1) (mc := 0) (ms := 0) (host := "") rfl t_X12_in ⟨Or.inl q_12_188, s_X12_in⟩ rfl (by decide) rfl rfl ⟨by decide, by decide⟩ (zc_X12_in rfl jkl_0 jkl_100 (fun v9 ev9 => ?_))
      show jX m_X12_terms 2 0 0 38 [(0, .ref 125), (1, .int a1), (2, .int a2), (3, .int a3), (4, .int a4), (5, .int a5)] [.int v9] _ 0 0 _
      refine x_ifeq (tgt := 67) rfl rfl (ti_eq rfl jk_0 ⟨fun c10 => ?_, fun c10 => ?_⟩)
      ·
        exact jX.sub (jsb_c rfl jsb_n) (ct_X12_terms_r125p_67 yy_a1 yy_a2 yy_a3 yy_a4 yy_a5 hD hQ  h (by omega) J Sm)
      ·
        refine x_iload (x := a4) rfl rfl ?_
        refine z_i2l rfl rfl (fun v11 ev11 => ?_)
        refine x_lconst (v := 0) rfl kl_0 ?_
        refine x_ldc2 (v := 100) rfl z_12_331 ?_
        refine x_inst (N := m_X12_in) (As := [.long v11, .long 0, .long 100]) (st := []) (dx9 := 1) (mc := 0) (ms := 0) (host := "") rfl t_X12_in ⟨Or.inl q_12_188, s_X12_in⟩ rfl (by decide) rfl rfl ⟨by decide, by decide⟩ (zc_X12_in rfl jkl_0 jkl_100 (fun v12 ev12 => ?_))
        show jX m_X12_terms 2 0 0 51 [(0, .ref 125), (1, .int a1), (2, .int a2), (3, .int a3), (4, .int a4), (5, .int a5)] [.int v12] _ 0 0 _
        refine x_ifeq (tgt := 67) rfl rfl (ti_eq rfl jk_0 ⟨fun c13 => ?_, fun c13 => ?_⟩)
        ·
          exact jX.sub (jsb_c rfl jsb_n) (ct_X12_terms_r125p_67 yy_a1 yy_a2 yy_a3 yy_a4 yy_a5 hD hQ  h (by omega) J Sm)
        ·
          refine x_iload (x := a5) rfl rfl ?_
          refine z_i2l rfl rfl (fun v14 ev14 => ?_)
          refine x_lconst (v := 0) rfl kl_0 ?_
          refine x_ldc2 (v := 20) rfl z_12_333 ?_
          refine x_inst (N := m_X12_in) (As := [.long v14, .long 0, .long 20]) (st := []) (dx9 := 1) (mc := 0) (ms := 0) (host := "") rfl t_X12_in ⟨Or.inl q_12_188, s_X12_in⟩ rfl (by decide) rfl rfl ⟨by decide, by decide⟩ (zc_X12_in rfl jkl_0 jkl_20 (fun v15 ev15 => ?_))
          show jX m_X12_terms 2 0 0 64 [(0, .ref 125), (1, .int a1), (2, .int a2), (3, .int a3), (4, .int a4), (5, .int a5)] [.int v15] _ 0 0 _
          refine x_ifne (tgt := 73) rfl rfl (ti_ne rfl jk_0 ⟨fun c16 => ?_, fun c16 => ?_⟩)
          ·
            refine x_aloadn (x := 125) rfl rfl ?_
            refine x_iloadn (x := a1) rfl rfl ?_
            refine z_putI (N := 92) (w := a1.toInt) 12 23 rfl f_12_57 rfl (jfin_no TX12 RX12 92 rfl rfl) hD J Sm rfl rfl rfl (pw_125_23 (by omega)) rfl (fun h w17 J Sm => ?_)
            refine x_aloadn (x := 125) rfl rfl ?_
            refine x_iloadn (x := a2) rfl rfl ?_
            refine z_putI (N := 92) (w := a2.toInt) 12 24 rfl f_12_60 rfl (jfin_no TX12 RX12 92 rfl rfl) hD J Sm rfl rfl rfl (pw_125_24 (by omega)) rfl (fun h w18 J Sm => ?_)
            refine x_aloadn (x := 125) rfl rfl ?_
            refine x_iloadn (x := a3) rfl rfl ?_
            refine z_putI (N := 92) (w := a3.toInt) 12 25 rfl f_12_63 rfl (jfin_no TX12 RX12 92 rfl rfl) hD J Sm rfl rfl rfl (pw_125_25 (by omega)) rfl (fun h w19 J Sm => ?_)
            refine x_aloadn (x := 125) rfl rfl ?_
            refine x_iload (x := a4) rfl rfl ?_
            refine z_putI (N := 92) (w := a4.toInt) 12 26 rfl f_12_66 rfl (jfin_no TX12 RX12 92 rfl rfl) hD J Sm rfl rfl rfl (pw_125_26 (by omega)) rfl (fun h w20 J Sm => ?_)
            refine x_aloadn (x := 125) rfl rfl ?_
            refine x_iload (x := a5) rfl rfl ?_
            refine z_putI (N := 92) (w := a5.toInt) 12 27 rfl f_12_69 rfl (jfin_no TX12 RX12 92 rfl rfl) hD J Sm rfl rfl rfl (pw_125_27 (by omega)) rfl (fun h w21 J Sm => ?_)
            refine x_aloadn (x := 125) rfl rfl ?_
            refine x_iconst (v := 0) rfl ki_0 ?_
            refine x_inv (N := m_X12_told) (As := [.int 0]) (b := 125) (st := []) (dx9 := 1) (mc := 0) (ms := 0) (host := "") 12 rfl t_X12_told ⟨Or.inl q_12_197, i_X12_told.1, i_X12_told.2⟩ ⟨by decide, rfl⟩ (congrArg Prod.fst (J.1.1 125 (12, 92) rfl)) rfl (by decide) rfl rfl ⟨by decide, by decide⟩ (jC.of rfl k_X12_told rfl ?_)
            show jX m_X12_told 1 0 0 0 [(0, .ref 125), (1, .int 0)] [] _ 0 0 _
            refine x_aloadn (x := 125) rfl rfl ?_
            refine x_iloadn (x := 0) rfl rfl ?_
            refine x_ifge (tgt := 9) rfl rfl (ti_ge jk_0 jk_0 (br_t (by omega) ?_))
            refine x_iconst (v := 0) rfl ki_0 ?_
            refine z_putI (N := 92) (w := 0) 12 1 rfl f_12_183 rfl (jfin_no TX12 RX12 92 rfl rfl) hD J Sm rfl rfl jk_0 (pw_125_1 (by omega)) rfl (fun h w22 J Sm => ?_)
            refine x_iloadn (x := 0) rfl rfl ?_
            refine x_iret rfl rfl ?_
            show jX m_X12_terms 2 0 0 105 [(0, .ref 125), (1, .int a1), (2, .int a2), (3, .int a3), (4, .int a4), (5, .int a5)] [.int 0] _ 0 0 _
            refine x_iret rfl rfl ?_
            exact hQ _ _ (jr_of jk_0 (by omega)) J Sm (by have := jk_0; have := jk_m1; omega)
          ·
            exact jX.sub (jsb_c rfl jsb_n) (ct_X12_terms_r125p_67 yy_a1 yy_a2 yy_a3 yy_a4 yy_a5 hD hQ  h (by omega) J Sm)
def fp_X12_torn_r125p : jFp := [(125, 0, 1), (125, 1, 2), (126, 3, 4), (126, 18740, 18820)]
set_option maxRecDepth 100000 in
set_option maxHeartbeats 4000000 in
theorem ct_X12_torn_r125p_43 {Dy : jH → Prop} {h0 : jH} {Q : Option Value → jH → Prop} {a1 : Int32} (yy_a1 : (-2147483648) ≤ a1.toInt ∧ a1.toInt ≤ 2147483647) {a2 : Int32} (yy_a2 : (-2147483648) ≤ a2.toInt ∧ a2.toInt ≤ 2147483647) {a3 : Int32} (yy_a3 : (-2147483648) ≤ a3.toInt ∧ a3.toInt ≤ 2147483647) {a4 : Int32} (yy_a4 : (-2147483648) ≤ a4.toInt ∧ a4.toInt ≤ 2147483647) (hD : jDk Dy) (hQ : ∀ (v : Int32) hx9, (-5) ≤ v.toInt ∧ v.toInt ≤ 20 → jJ jSgM Dy hx9 → jSm fp_X12_torn_r125p h0 hx9 → ((¬ (0 ≤ a1.toInt ∧ a1.toInt ≤ 5 ∧ 0 ≤ a2.toInt ∧ a2.toInt ≤ 146399 ∧ 0 ≤ a3.toInt ∧ a3.toInt ≤ 146399 ∧ a2.toInt ≤ a3.toInt ∧ 0 ≤ a4.toInt ∧ a4.toInt ≤ 146399) ∧ v.toInt = -1 ∧ jiv hx9 126 = jiv h0 126) ∨ ((0 ≤ a1.toInt ∧ a1.toInt ≤ 5 ∧ 0 ≤ a2.toInt ∧ a2.toInt ≤ 146399 ∧ 0 ≤ a3.toInt ∧ a3.toInt ≤ 146399 ∧ a2.toInt ≤ a3.toInt ∧ 0 ≤ a4.toInt ∧ a4.toInt ≤ 146399) ∧ (jiv h0 126 3).toInt = 20 ∧ v.toInt = -5 ∧ jiv hx9 126 = jiv h0 126) ∨ ((0 ≤ a1.toInt ∧ a1.toInt ≤ 5 ∧ 0 ≤ a2.toInt ∧ a2.toInt ≤ 146399 ∧ 0 ≤ a3.toInt ∧ a3.toInt ≤ 146399 ∧ a2.toInt ≤ a3.toInt ∧ 0 ≤ a4.toInt ∧ a4.toInt ≤ 146399) ∧ (jiv h0 126 3).toInt < 20 ∧ v.toInt = (jiv h0 126 3).toInt + 1 ∧ jMw 3 18740 4 [a1, a2, a3, a4] h0 hx9)) → Q (some (.int v)) hx9) : ∀ (h : jH), (h = jsi h0 125 0 0 ∧ ¬ (0 ≤ a1.toInt ∧ a1.toInt ≤ 5 ∧ 0 ≤ a2.toInt ∧ a2.toInt ≤ 146399 ∧ 0 ≤ a3.toInt ∧ a3.toInt ≤ 146399 ∧ a2.toInt ≤ a3.toInt ∧ 0 ≤ a4.toInt ∧ a4.toInt ≤ 146399)) → jJ jSgM Dy h → jSm fp_X12_torn_r125p h0 h → jX m_X12_torn 3 0 0 43 [(0, .ref 125)] [] h 0 0 Q := by
  intro  h C0   J Sm
  refine x_aloadn (x := 125) rfl rfl ?_
  refine x_iconst (v := (-1)) rfl ki_m1 ?_
  refine x_inv (N := m_X12_told) (As := [.int (-1)]) (b := 125) (st := []) (dx9 := 2) (mc := 0) (ms := 0) (host := "") 12 rfl t_X12_told ⟨Or.inl q_12_197, i_X12_told.1, i_X12_told.2⟩ ⟨by decide, rfl⟩ (congrArg Prod.fst (J.1.1 125 (12, 92) rfl)) rfl (by decide) rfl rfl ⟨by decide, by decide⟩ (jC.of rfl k_X12_told rfl ?_)
  show jX m_X12_told 2 0 0 0 [(0, .ref 125), (1, .int (-1))] [] _ 0 0 _
  refine x_aloadn (x := 125) rfl rfl ?_
  refine x_iloadn (x := (-1)) rfl rfl ?_
  refine x_ifge (tgt := 9) rfl rfl (ti_ge jk_m1 jk_0 (br_f (by omega) ?_))
  refine x_iloadn (x := (-1)) rfl rfl ?_
  refine x_goto (tgt := 10) rfl rfl ?_
  refine z_putI (N := 92) (w := (-1)) 12 1 rfl f_12_183 rfl (jfin_no TX12 RX12 92 rfl rfl) hD J Sm rfl rfl jk_m1 (pw_125_1 (by omega)) rfl (fun h w1 J Sm => ?_)
  refine x_iloadn (x := (-1)) rfl rfl ?_
  refine x_iret rfl rfl ?_
  show jX m_X12_torn 3 0 0 48 [(0, .ref 125)] [.int (-1)] _ 0 0 _
  refine x_iret rfl rfl ?_
  exact hQ _ _ (jr_of jk_m1 (by omega)) J Sm (Or.inl ⟨C0.2, jk_m1, (ov_o w1 rfl (ov_e1 C0.1 rfl))⟩)
set_option maxRecDepth 100000 in
set_option maxHeartbeats 4000000 in
theorem sf_X12_torn_r125p {Dy : jH → Prop} {h : jH} {Q : Option Value → jH → Prop} {a1 : Int32} {a2 : Int32} {a3 : Int32} {a4 : Int32} (hD : jDk Dy) (J : jJ jSgM Dy h) (hQ : ∀ (v : Int32) hx9, (-5) ≤ v.toInt ∧ v.toInt ≤ 20 → jJ jSgM Dy hx9 → jSm fp_X12_torn_r125p h hx9 → ((¬ (0 ≤ a1.toInt ∧ a1.toInt ≤ 5 ∧ 0 ≤ a2.toInt ∧ a2.toInt ≤ 146399 ∧ 0 ≤ a3.toInt ∧ a3.toInt ≤ 146399 ∧ a2.toInt ≤ a3.toInt ∧ 0 ≤ a4.toInt ∧ a4.toInt ≤ 146399) ∧ v.toInt = -1 ∧ jiv hx9 126 = jiv h 126) ∨ ((0 ≤ a1.toInt ∧ a1.toInt ≤ 5 ∧ 0 ≤ a2.toInt ∧ a2.toInt ≤ 146399 ∧ 0 ≤ a3.toInt ∧ a3.toInt ≤ 146399 ∧ a2.toInt ≤ a3.toInt ∧ 0 ≤ a4.toInt ∧ a4.toInt ≤ 146399) ∧ (jiv h 126 3).toInt = 20 ∧ v.toInt = -5 ∧ jiv hx9 126 = jiv h 126) ∨ ((0 ≤ a1.toInt ∧ a1.toInt ≤ 5 ∧ 0 ≤ a2.toInt ∧ a2.toInt ≤ 146399 ∧ 0 ≤ a3.toInt ∧ a3.toInt ≤ 146399 ∧ a2.toInt ≤ a3.toInt ∧ 0 ≤ a4.toInt ∧ a4.toInt ≤ 146399) ∧ (jiv h 126 3).toInt < 20 ∧ v.toInt = (jiv h 126 3).toInt + 1 ∧ jMw 3 18740 4 [a1, a2, a3, a4] h hx9)) → Q (some (.int v)) hx9) : jC m_X12_torn 3 0 0 [.ref 125, .int a1, .int a2, .int a3, .int a4] h Q := by
  refine jC.of rfl k_X12_torn rfl ?_
  have Sm := jSm_rf fp_X12_torn_r125p h
  have yy_a1 := jfull a1
  have yy_a2 := jfull a2
  have yy_a3 := jfull a3
  have yy_a4 := jfull a4
  have ea1 := jfull a1
  have ea2 := jfull a2
  have ea3 := jfull a3
  have ea4 := jfull a4
  show jX m_X12_torn 3 0 0 0 [(0, .ref 125), (1, .int a1), (2, .int a2), (3, .int a3), (4, .int a4)] [] _ 0 0 _
  obtain ⟨u1, qu1⟩ : ∃ v : Int32, jiv h 126 (3 : Int32).toNatClampNeg = v := ⟨_, rfl⟩
  have eu1 := (show 0 ≤ u1.toInt ∧ u1.toInt ≤ 20 from qu1 ▸ jrg_c J sg_126_3_4_1_0_1 jk_3 (by omega))
  have ou1 := ov_n (n := 3) (by decide) qu1
  refine x_aloadn (x := 125) rfl rfl ?_
  refine x_iconst (v := 0) rfl ki_0 ?_
  refine z_putI (N := 92) (w := 0) 12 0 rfl f_12_180 rfl (jfin_no TX12 RX12 92 rfl rfl) hD J Sm rfl rfl jk_0 (pw_125_0 (by omega)) rfl (fun h w2 J Sm => ?_)
  refine x_iloadn (x := a1) rfl rfl ?_
  refine z_i2l rfl rfl (fun v3 ev3 => ?_)
  refine x_lconst (v := 0) rfl kl_0 ?_
  refine x_ldc2 (v := 5) rfl z_12_269 ?_
  refine x_inst (N := m_X12_in) (As := [.long v3, .long 0, .long 5]) (st := []) (dx9 := 1) (mc := 0) (ms := 0) (host := "") rfl t_X12_in ⟨Or.inl q_12_188, s_X12_in⟩ rfl (by decide) rfl rfl ⟨by decide, by decide⟩ (zc_X12_in rfl jkl_0 jkl_5 (fun v4 ev4 => ?_))
  show jX m_X12_torn 3 0 0 14 [(0, .ref 125), (1, .int a1), (2, .int a2), (3, .int a3), (4, .int a4)] [.int v4] _ 0 0 _
  refine x_ifeq (tgt := 43) rfl rfl (ti_eq rfl jk_0 ⟨fun c5 => ?_, fun c5 => ?_⟩)
  ·
    exact jX.sub (jsb_c rfl jsb_n) (ct_X12_torn_r125p_43 yy_a1 yy_a2 yy_a3 yy_a4 hD hQ  h ⟨w2, by omega⟩ J Sm)
  ·
    refine x_iloadn (x := a3) rfl rfl ?_
    refine x_inst (N := m_X12_isDay) (As := [.int a3]) (st := []) (dx9 := 2) (mc := 0) (ms := 0) (host := "") rfl t_X12_isDay ⟨Or.inl q_12_273, s_X12_isDay⟩ rfl (by decide) rfl rfl ⟨by decide, by decide⟩ (zc_X12_isDay (d := 1) rfl (fun v6 ev6 => ?_))
    show jX m_X12_torn 3 0 0 21 [(0, .ref 125), (1, .int a1), (2, .int a2), (3, .int a3), (4, .int a4)] [.int v6] _ 0 0 _
    refine x_ifeq (tgt := 43) rfl rfl (ti_eq rfl jk_0 ⟨fun c7 => ?_, fun c7 => ?_⟩)
    ·
      exact jX.sub (jsb_c rfl jsb_n) (ct_X12_torn_r125p_43 yy_a1 yy_a2 yy_a3 yy_a4 hD hQ  h ⟨w2, by omega⟩ J Sm)
    ·
      refine x_iloadn (x := a2) rfl rfl ?_
      refine z_i2l rfl rfl (fun v8 ev8 => ?_)
      refine x_lconst (v := 0) rfl kl_0 ?_
      refine x_iloadn (x := a3) rfl rfl ?_
      refine z_i2l rfl rfl (fun v9 ev9 => ?_)
      refine x_inst (N := m_X12_in) (As := [.long v8, .long 0, .long v9]) (st := []) (dx9 := 1) (mc := 0) (ms := 0) (host := "") rfl t_X12_in ⟨Or.inl q_12_188, s_X12_in⟩ rfl (by decide) rfl rfl ⟨by decide, by decide⟩ (zc_X12_in rfl jkl_0 rfl (fun v10 ev10 => ?_))
      show jX m_X12_torn 3 0 0 32 [(0, .ref 125), (1, .int a1), (2, .int a2), (3, .int a3), (4, .int a4)] [.int v10] _ 0 0 _
      refine x_ifeq (tgt := 43) rfl rfl (ti_eq rfl jk_0 ⟨fun c11 => ?_, fun c11 => ?_⟩)
      ·
        exact jX.sub (jsb_c rfl jsb_n) (ct_X12_torn_r125p_43 yy_a1 yy_a2 yy_a3 yy_a4 hD hQ  h ⟨w2, by omega⟩ J Sm)
      ·
        refine x_iload (x := a4) rfl rfl ?_
        refine x_inst (N := m_X12_isDay) (As := [.int a4]) (st := []) (dx9 := 2) (mc := 0) (ms := 0) (host := "") rfl t_X12_isDay ⟨Or.inl q_12_273, s_X12_isDay⟩ rfl (by decide) rfl rfl ⟨by decide, by decide⟩ (zc_X12_isDay (d := 1) rfl (fun v12 ev12 => ?_))
        show jX m_X12_torn 3 0 0 40 [(0, .ref 125), (1, .int a1), (2, .int a2), (3, .int a3), (4, .int a4)] [.int v12] _ 0 0 _
        refine x_ifne (tgt := 49) rfl rfl (ti_ne rfl jk_0 ⟨fun c13 => ?_, fun c13 => ?_⟩)
        ·
          refine x_aloadn (x := 125) rfl rfl ?_
          refine z_getR (N := 92) (b := 126) 12 2 rfl f_12_8 rfl J rfl 16002 ⟨rfl, rfl⟩ rfl ?_
          refine x_iconst (v := 3) rfl ki_3 ?_
          refine z_ialdM (N := 50660) (v := u1) rfl J rfl jk_3 (by omega) (jmo w2 rfl qu1) ?_
          refine x_bipush (v := 20) rfl kb_20 ?_
          refine x_icne (tgt := 67) rfl rfl (ti_ne rfl jk_20 ⟨fun c14 => ?_, fun c14 => ?_⟩)
          ·
            refine x_sipush (v := 18740) rfl ks_18740 ?_
            refine x_iconst (v := 4) rfl ki_4 ?_
            refine x_aloadn (x := 125) rfl rfl ?_
            refine z_getR (N := 92) (b := 126) 12 2 rfl f_12_8 rfl J rfl 16002 ⟨rfl, rfl⟩ rfl ?_
            refine x_iconst (v := 3) rfl ki_3 ?_
            refine z_ialdM (N := 50660) (v := u1) rfl J rfl jk_3 (by omega) (jmo w2 rfl qu1) ?_
            refine z_imul rfl jk_4 rfl (by omega) (fun v15 ev15 => ?_)
            refine z_iadd rfl jk_18740 rfl (by omega) (fun v16 ev16 => ?_)
            refine x_istore (lsx9 := [(5, .int v16), (0, .ref 125), (1, .int a1), (2, .int a2), (3, .int a3), (4, .int a4)]) rfl rfl rfl ?_
            refine x_aloadn (x := 125) rfl rfl ?_
            refine z_getR (N := 92) (b := 126) 12 2 rfl f_12_8 rfl J rfl 16002 ⟨rfl, rfl⟩ rfl ?_
            refine x_iload (x := v16) rfl rfl ?_
            refine x_iloadn (x := a1) rfl rfl ?_
            refine z_iast (N := 50660) (l := 18740) (u := 18820) (w := a1.toInt) rfl hD J Sm rfl rfl rfl (by omega) rfl (wr_126_18740 (by omega) (fun q1 q2 q3 q4 => by omega) (fun q1 q2 q3 q4 => by omega) (fun q1 q2 q3 q4 => by omega) (fun q1 q2 q3 q4 => by omega)) rfl (fun h w17 J Sm => ?_)
            refine x_aloadn (x := 125) rfl rfl ?_
            refine z_getR (N := 92) (b := 126) 12 2 rfl f_12_8 rfl J rfl 16002 ⟨rfl, rfl⟩ rfl ?_
            refine x_iload (x := v16) rfl rfl ?_
            refine x_iconst (v := 1) rfl ki_1 ?_
            refine z_iadd rfl rfl jk_1 (by omega) (fun v18 ev18 => ?_)
            refine x_iloadn (x := a2) rfl rfl ?_
            refine z_iast (N := 50660) (l := 18740) (u := 18820) (w := a2.toInt) rfl hD J Sm rfl rfl rfl (by omega) rfl (wr_126_18740 (by omega) (fun q1 q2 q3 q4 => by omega) (fun q1 q2 q3 q4 => by omega) (fun q1 q2 q3 q4 => by omega) (fun q1 q2 q3 q4 => by omega)) rfl (fun h w19 J Sm => ?_)
            refine x_aloadn (x := 125) rfl rfl ?_
            refine z_getR (N := 92) (b := 126) 12 2 rfl f_12_8 rfl J rfl 16002 ⟨rfl, rfl⟩ rfl ?_
            refine x_iload (x := v16) rfl rfl ?_
            refine x_iconst (v := 2) rfl ki_2 ?_
            refine z_iadd rfl rfl jk_2 (by omega) (fun v20 ev20 => ?_)
            refine x_iloadn (x := a3) rfl rfl ?_
            refine z_iast (N := 50660) (l := 18740) (u := 18820) (w := a3.toInt) rfl hD J Sm rfl rfl rfl (by omega) rfl (wr_126_18740 (by omega) (fun q1 q2 q3 q4 => by omega) (fun q1 q2 q3 q4 => by omega) (fun q1 q2 q3 q4 => by omega) (fun q1 q2 q3 q4 => by omega)) rfl (fun h w21 J Sm => ?_)
            refine x_aloadn (x := 125) rfl rfl ?_
            refine z_getR (N := 92) (b := 126) 12 2 rfl f_12_8 rfl J rfl 16002 ⟨rfl, rfl⟩ rfl ?_
            refine x_iload (x := v16) rfl rfl ?_
            refine x_iconst (v := 3) rfl ki_3 ?_
            refine z_iadd rfl rfl jk_3 (by omega) (fun v22 ev22 => ?_)
            refine x_iload (x := a4) rfl rfl ?_
            refine z_iast (N := 50660) (l := 18740) (u := 18820) (w := a4.toInt) rfl hD J Sm rfl rfl rfl (by omega) rfl (wr_126_18740 (by omega) (fun q1 q2 q3 q4 => by omega) (fun q1 q2 q3 q4 => by omega) (fun q1 q2 q3 q4 => by omega) (fun q1 q2 q3 q4 => by omega)) rfl (fun h w23 J Sm => ?_)
            refine x_aloadn (x := 125) rfl rfl ?_
            refine z_getR (N := 92) (b := 126) 12 2 rfl f_12_8 rfl J rfl 16002 ⟨rfl, rfl⟩ rfl ?_
            refine x_iconst (v := 3) rfl ki_3 ?_
            refine x_dup2 rfl rfl rfl ?_
            refine z_ialdM (N := 50660) (v := u1) rfl J rfl jk_3 (by omega) (jmo2 w23 rfl jk_3 (by omega) (jmo2 w21 rfl jk_3 (by omega) (jmo2 w19 rfl jk_3 (by omega) (jmo2 w17 rfl jk_3 (by omega) (jmo w2 rfl qu1))))) ?_
            refine x_iconst (v := 1) rfl ki_1 ?_
            refine z_iadd rfl rfl jk_1 (by omega) (fun v24 ev24 => ?_)
            refine z_iast (N := 50660) (l := 3) (u := 4) (w := v24.toInt) rfl hD J Sm rfl rfl jk_3 (by omega) rfl (wr_126_3 (by omega) (fun q1 q2 q3 q4 => by omega)) rfl (fun h w25 J Sm => ?_)
            refine x_aloadn (x := 125) rfl rfl ?_
            refine x_aloadn (x := 125) rfl rfl ?_
            refine z_getR (N := 92) (b := 126) 12 2 rfl f_12_8 rfl J rfl 16002 ⟨rfl, rfl⟩ rfl ?_
            refine x_iconst (v := 3) rfl ki_3 ?_
            refine z_ialdM (N := 50660) (v := v24) rfl J rfl jk_3 (by omega) (jmw w25) ?_
            refine x_inv (N := m_X12_told) (As := [.int v24]) (b := 125) (st := []) (dx9 := 2) (mc := 0) (ms := 0) (host := "") 12 rfl t_X12_told ⟨Or.inl q_12_197, i_X12_told.1, i_X12_told.2⟩ ⟨by decide, rfl⟩ (congrArg Prod.fst (J.1.1 125 (12, 92) rfl)) rfl (by decide) rfl rfl ⟨by decide, by decide⟩ (jC.of rfl k_X12_told rfl ?_)
            show jX m_X12_told 2 0 0 0 [(0, .ref 125), (1, .int v24)] [] _ 0 0 _
            refine x_aloadn (x := 125) rfl rfl ?_
            refine x_iloadn (x := v24) rfl rfl ?_
            refine x_ifge (tgt := 9) rfl rfl (ti_ge rfl jk_0 (br_t (by omega) ?_))
            refine x_iconst (v := 0) rfl ki_0 ?_
            refine z_putI (N := 92) (w := 0) 12 1 rfl f_12_183 rfl (jfin_no TX12 RX12 92 rfl rfl) hD J Sm rfl rfl jk_0 (pw_125_1 (by omega)) rfl (fun h w26 J Sm => ?_)
            refine x_iloadn (x := v24) rfl rfl ?_
            refine x_iret rfl rfl ?_
            show jX m_X12_torn 3 0 0 140 [(5, .int v16), (0, .ref 125), (1, .int a1), (2, .int a2), (3, .int a3), (4, .int a4)] [.int v24] _ 0 0 _
            refine x_iret rfl rfl ?_
            exact hQ _ _ (jr_of rfl (by omega)) J Sm (Or.inr (Or.inr ⟨(by omega), (by omega), (by omega), (mw_4 ou1 (by omega) (by omega) (ov_o w26 rfl (ov_w w25 (ov_w w23 (ov_w w21 (ov_w w19 (ov_w w17 (ov_o w2 rfl rfl))))))) (by decide) (jix (by omega) (by omega)) (jix (by omega) (by omega)) (jix (by omega) (by omega)) (jix (by omega) (by omega)))⟩))
          ·
            refine x_aloadn (x := 125) rfl rfl ?_
            refine x_bipush (v := (-5)) rfl kb_m5 ?_
            refine x_inv (N := m_X12_told) (As := [.int (-5)]) (b := 125) (st := []) (dx9 := 2) (mc := 0) (ms := 0) (host := "") 12 rfl t_X12_told ⟨Or.inl q_12_197, i_X12_told.1, i_X12_told.2⟩ ⟨by decide, rfl⟩ (congrArg Prod.fst (J.1.1 125 (12, 92) rfl)) rfl (by decide) rfl rfl ⟨by decide, by decide⟩ (jC.of rfl k_X12_told rfl ?_)
            show jX m_X12_told 2 0 0 0 [(0, .ref 125), (1, .int (-5))] [] _ 0 0 _
            refine x_aloadn (x := 125) rfl rfl ?_
            refine x_iloadn (x := (-5)) rfl rfl ?_
            refine x_ifge (tgt := 9) rfl rfl (ti_ge jk_m5 jk_0 (br_f (by omega) ?_))
            refine x_iloadn (x := (-5)) rfl rfl ?_
            refine x_goto (tgt := 10) rfl rfl ?_
            refine z_putI (N := 92) (w := (-5)) 12 1 rfl f_12_183 rfl (jfin_no TX12 RX12 92 rfl rfl) hD J Sm rfl rfl jk_m5 (pw_125_1 (by omega)) rfl (fun h w27 J Sm => ?_)
            refine x_iloadn (x := (-5)) rfl rfl ?_
            refine x_iret rfl rfl ?_
            show jX m_X12_torn 3 0 0 66 [(0, .ref 125), (1, .int a1), (2, .int a2), (3, .int a3), (4, .int a4)] [.int (-5)] _ 0 0 _
            refine x_iret rfl rfl ?_
            exact hQ _ _ (jr_of jk_m5 (by omega)) J Sm (Or.inr (Or.inl ⟨(by omega), (by omega), jk_m5, (ov_o w27 rfl (ov_o w2 rfl rfl))⟩))
        ·
          exact jX.sub (jsb_c rfl jsb_n) (ct_X12_torn_r125p_43 yy_a1 yy_a2 yy_a3 yy_a4 hD hQ  h ⟨w2, by omega⟩ J Sm)
